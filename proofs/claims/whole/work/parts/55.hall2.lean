/-! the class: followers, newcomers, fewest -/
/-- a newcomer brings nobody, and nobody brings it -/
theorem mt_fol_grow {T T2 : Nat → Int32} {n p : Nat} (hp : p < n) (h1 : ∀ q, q < n → T2 q = T q) (h2 : T2 n = 0) : mt_fol T2 (n + 1) p = mt_fol T n p := by
  have key : ∀ i p k, p < n → (mt_R T2 (n + 1) i p k ↔ mt_R T n i p k) := by
    intro i
    induction i with
    | zero => intro p k hp; show bt (T2 p) k = true ↔ bt (T p) k = true; rw [h1 p hp]
    | succ i ih =>
      intro p k hp
      constructor
      · rintro ⟨q, hq, a1, a2⟩
        by_cases e : q = n
        · subst e; rw [h2, b_0] at a2; cases a2
        · exact ⟨q, by omega, (ih p q hp).mp a1, by rw [← h1 q (by omega)]; exact a2⟩
      · rintro ⟨q, hq, a1, a2⟩
        exact ⟨q, by omega, (ih p q hp).mpr a1, by rw [h1 q hq]; exact a2⟩
  unfold mt_fol
  congr 1
  funext k
  exact propext ⟨fun ⟨i, hi⟩ => ⟨i, (key i p k hp).mp hi⟩, fun ⟨i, hi⟩ => ⟨i, (key i p k hp).mpr hi⟩⟩
theorem mt_fol_new {T : Nat → Int32} {n p : Nat} (h2 : T p = 0) : mt_fol T n p = 0 := by
  have key : ∀ i k, ¬ mt_R T n i p k := by
    intro i
    induction i with
    | zero => intro k; show ¬ bt (T p) k = true; rw [h2, b_0]; decide
    | succ i ih => rintro k ⟨q, _, a1, _⟩; exact ih q a1
  unfold mt_fol
  apply (mt_set_eq (x := 0) (fun i hi => ?_)).symm
  rw [b_0]
  exact iff_of_false (by decide) (fun ⟨j, hj⟩ => key j i hj)
theorem mt_comes_ne {σ : Nat → Int32} {n j : Nat} {k b w : Int32} (h0 : j ≠ 0) (h1 : j < 6 + 5 * n ∨ 6 + 5 * n + 4 < j) : mt_comes σ n k b w j = σ j := by
  unfold mt_comes
  rw [pk_un h0, pk_un (by omega), pk_un (by omega), pk_un (by omega), pk_un (by omega), pk_un (by omega)]
theorem mt_comes_at {σ : Nat → Int32} {n j : Nat} {k b w : Int32} (hj : j < 5) : mt_comes σ n k b w (6 + 5 * n + j) = (if j = 0 then k else if j = 1 then b else if j = 2 then w else 0) := by
  unfold mt_comes
  rw [pk_un (by omega)]
  rcases (show j = 0 ∨ j = 1 ∨ j = 2 ∨ j = 3 ∨ j = 4 by omega) with rfl | rfl | rfl | rfl | rfl
  · rw [pk_un (by omega), pk_un (by omega), pk_un (by omega), pk_un (by omega), Nat.add_zero, pk_us]; rfl
  · rw [pk_un (by omega), pk_un (by omega), pk_un (by omega), pk_us]; rfl
  · rw [pk_un (by omega), pk_un (by omega), pk_us]; rfl
  · rw [pk_un (by omega), pk_us]; rfl
  · rw [pk_us]; rfl
theorem mt_wf_comes {σ : Nat → Int32} {n nd nt : Nat} {k : Nat} {b w : Int32} (hs : mt_wf σ n nd nt) (hn : n < 12) (hk : k < 6) : mt_wf (mt_comes σ n (nI k) b w) (n + 1) nd nt := by
  obtain ⟨⟨⟨a1, a2⟩, ⟨b1, b2⟩, c1, c2⟩, hP, hD, hT⟩ := hs
  refine ⟨⟨⟨by unfold mt_comes; rw [pk_us], by omega⟩, ⟨by rw [mt_comes_ne (by omega) (by omega)]; exact b1, b2⟩, by rw [mt_comes_ne (by omega) (by omega)]; exact c1, c2⟩, fun p hp => ?_, mt_wfD_congr b2 (fun j h1 h => by rw [mt_comes_ne (by omega) (by omega)]) hD, mt_wfT_congr c2 (fun j h1 h => by rw [mt_comes_ne (by omega) (by omega)]) hT⟩
  have hF : ∀ q, q < n → mt_comes σ n (nI k) b w (6 + 5 * q + 3) = σ (6 + 5 * q + 3) := fun q hq => mt_comes_ne (by omega) (by omega)
  have hF2 : mt_comes σ n (nI k) b w (6 + 5 * n + 3) = 0 := by rw [mt_comes_at (by omega)]; rfl
  have hT2 : mt_T (mt_comes σ n (nI k) b w) n = 0 := by unfold mt_T; rw [mt_comes_at (by omega)]; rfl
  by_cases e : p = n
  · subst e
    refine ⟨⟨k, hk, by rw [mt_comes_at (by omega)]; rfl⟩, fun i h1 h2 => by rw [hT2, b_0], fun i h1 h2 => by rw [hF2, b_0], fun q hq => ?_⟩
    by_cases e : q = p
    · subst e; rfl
    · rw [hF2, b_0, hF q (by omega), (hP q (by omega)).2.2.1 p (by omega) (by omega)]
  · have hp2 : p < n := by omega
    obtain ⟨h1, h2, h3, h4⟩ := hP p hp2
    refine ⟨by rw [mt_comes_ne (by omega) (by omega)]; exact h1, fun i hi hi2 => ?_, fun i hi hi2 => ?_, fun q hq => ?_⟩
    · have := h2 i (by omega) hi2
      unfold mt_T at this ⊢
      rw [mt_comes_ne (by omega) (by omega)]
      exact this
    · rw [hF p hp2]
      exact h3 i (by omega) hi2
    · by_cases e : q = n
      · subst e
        rw [hF p hp2, hF2, b_0, h3 q (by omega) (by omega)]
      · rw [hF p hp2, hF q (by omega)]
        exact h4 q (by omega)
section CV
variable {G : Nat → Nat} {d : Nat} {h : am_H} {a : Nat} {σ : Nat → Int32} {n nd nt : Nat}
theorem c_addPerson0 (r : cl_R G h a σ n nd nt) (hs : mt_wf σ n nd nt) (hn : n = 12) {k b w : Int32} : am_evm G (d + 1) 12 [.ref a, .int k, .int b, .int w] h = some (some (.int (-1000000003)), h) := by
  subst hn
  simp only [n_12, e_12_0, e_12_1, e_12_4, e_12_6, e_12_9, e_12_11, e_12_12, e_12_13, e_12_16, e_12_17, e_12_20, e_12_21, e_12_22, e_12_23, e_12_24, e_12_27, e_12_28, e_12_29, e_12_32, e_12_33, e_12_34, e_12_37, e_12_38, e_12_41, e_12_42, e_12_43, Option.bind_some, Option.toList_some, Option.toList_none, List.cons_append, List.nil_append, am_k1_i, am_k1_r, am_k1_u, am_k1_n, am_bo0, am_bo1, am_boi, am_ev_tb, am_tb_nil, am_rfs, am_rfn, eq_self, and_self, if_true, if_false, show ¬ (1 : Int32) = 0 from by decide, show ¬ (0 : Int32) = 1 from by decide, not_true, not_false_eq_true, and_true, true_and, and_false, false_and, or_true, true_or, or_false, false_or, ha_ob r.1, r.2.1.1, hs.1.1.1, show ¬ nI 12 < 12 from by decide]
theorem c_addPerson (r : cl_R G h a σ n nd nt) (hs : mt_wf σ n nd nt) (ha : a + 25 < G 0 + 136) (hn : n < 12) {k b w : Int32} : ∃ h2, am_evm G (d + 1) 12 [.ref a, .int k, .int b, .int w] h = some (some (.int (nI n)), h2) ∧ cl_R G h2 a (mt_comes σ n k b w) (n + 1) nd nt ∧ am_fr (cl_H a) h h2 := by
  have hd := hs.1.2.1.2
  have hlt : nI n < 12 := nI_lt (b := 12) hn (by decide)
  have op := ha_p3 r.1 hn
  have hne : ¬ a = a + 6 + n := by omega
  refine ⟨am_pi (am_pi (am_pi (am_pi (am_pi (am_pi (am_pi h (a + 6 + n) 0 k) (a + 6 + n) 1 b) (a + 6 + n) 2 w) (a + 6 + n) 3 0) (a + 6 + n) 4 0) (a + 6 + n) 5 0) a 5 (nI (n + 1)), ?_, ?_, ?_⟩
  · have eb : ∀ d, am_evm G d 37 [.ref (a + 6 + n), .int k, .int b, .int w] h = some (none, am_pi (am_pi (am_pi (am_pi (am_pi (am_pi h (a + 6 + n) 0 k) (a + 6 + n) 1 b) (a + 6 + n) 2 w) (a + 6 + n) 3 0) (a + 6 + n) 4 0) (a + 6 + n) 5 0) := fun d => by
      simp only [n_37, e_37_0, e_37_1, e_37_2, e_37_5, e_37_6, e_37_7, e_37_10, e_37_11, e_37_12, e_37_15, e_37_16, e_37_17, e_37_20, e_37_21, e_37_22, e_37_25, e_37_26, e_37_27, e_37_30, Option.bind_some, Option.toList_some, Option.toList_none, List.cons_append, List.nil_append, am_k1_i, am_k1_r, am_k1_u, am_k1_n, am_bo0, am_bo1, am_boi, am_ev_tb, am_tb_nil, am_rfs, am_rfn, eq_self, op, am_ob_pi]
    simp only [n_12, e_12_0, e_12_1, e_12_4, e_12_6, e_12_9, e_12_11, e_12_12, e_12_13, e_12_16, e_12_17, e_12_20, e_12_21, e_12_22, e_12_23, e_12_24, e_12_27, e_12_28, e_12_29, e_12_32, e_12_33, e_12_34, e_12_37, e_12_38, e_12_41, e_12_42, e_12_43, Option.bind_some, Option.toList_some, Option.toList_none, List.cons_append, List.nil_append, am_k1_i, am_k1_r, am_k1_u, am_k1_n, am_bo0, am_bo1, am_boi, am_ev_tb, am_tb_nil, am_rfs, am_rfn, eq_self, and_self, if_true, if_false, show ¬ (1 : Int32) = 0 from by decide, show ¬ (0 : Int32) = 1 from by decide, not_true, not_false_eq_true, and_true, true_and, and_false, false_and, or_true, true_or, or_false, false_or, ha_ob r.1, r.2.1.1, hs.1.1.1, hlt, ha_r0 r.1, ha_p1 r.1 hn, am_cl (show n < 2147483648 by omega), ha_p2 r.1 hn, op, eb, am_ob_pi, am_pi_i, hne, nI_1, nI_pred]
  · have i1 : ∀ x, x ≠ a → x ≠ a + 6 + n → am_i (am_pi (am_pi (am_pi (am_pi (am_pi (am_pi (am_pi h (a + 6 + n) 0 k) (a + 6 + n) 1 b) (a + 6 + n) 2 w) (a + 6 + n) 3 0) (a + 6 + n) 4 0) (a + 6 + n) 5 0) a 5 (nI (n + 1))) x = am_i h x := fun x h1 h2 => by rw [(am_pi_o x h1).1, (am_pi_o x h2).1, (am_pi_o x h2).1, (am_pi_o x h2).1, (am_pi_o x h2).1, (am_pi_o x h2).1, (am_pi_o x h2).1]
    have fr : am_fr (cl_H a) h (am_pi (am_pi (am_pi (am_pi (am_pi (am_pi (am_pi h (a + 6 + n) 0 k) (a + 6 + n) 1 b) (a + 6 + n) 2 w) (a + 6 + n) 3 0) (a + 6 + n) 4 0) (a + 6 + n) 5 0) a 5 (nI (n + 1))) := ⟨rfl, rfl, rfl, rfl, fun x hx => i1 x (fun z => hx ⟨by omega, by omega⟩) (fun z => hx ⟨by omega, by omega⟩)⟩
    have fr2 : am_fr (fun x => x = a ∨ x = a + 6 + n) h (am_pi (am_pi (am_pi (am_pi (am_pi (am_pi (am_pi h (a + 6 + n) 0 k) (a + 6 + n) 1 b) (a + 6 + n) 2 w) (a + 6 + n) 3 0) (a + 6 + n) 4 0) (a + 6 + n) 5 0) a 5 (nI (n + 1))) := ⟨rfl, rfl, rfl, rfl, fun x hx => i1 x (fun z => hx (Or.inl z)) (fun z => hx (Or.inr z))⟩
    refine r.ch hs.1.2.2.2 fr2 (fun x hx => ⟨by rcases hx with z | z <;> omega, by rcases hx with z | z <;> omega⟩) ?_ (fun p hp => ?_) (fun q hq j hj => ?_) (fun j h1 h2 => (mt_comes_ne (by omega) (by omega)).symm)
    · obtain ⟨c0, c1, c2, c3, c4⟩ := r.2.1
      rw [mt_comes_ne (j := 1) (by omega) (by omega), mt_comes_ne (j := 2) (by omega) (by omega), mt_comes_ne (j := 3) (by omega) (by omega), mt_comes_ne (j := 4) (by omega) (by omega)]
      simp only [am_pi_i, hne, false_and, if_false, true_and]
      refine ⟨?_, c1, c2, c3, c4⟩
      unfold mt_comes
      rw [pk_us]
      rfl
    · by_cases e : p = n
      · subst e
        constructor
        · intro j hj
          rw [mt_comes_at hj]
          simp only [am_pi_i, show ¬ a + 6 + p = a from by omega, false_and, if_false, true_and]
          rcases (show j = 0 ∨ j = 1 ∨ j = 2 ∨ j = 3 ∨ j = 4 by omega) with rfl | rfl | rfl | rfl | rfl <;> rfl
        · rw [mt_fol_new (by unfold mt_T; rw [mt_comes_at (by omega)]; rfl)]
          simp only [am_pi_i, show ¬ a + 6 + p = a from by omega, false_and, if_false, true_and, if_true]
      · have hp2 : p < n := by omega
        rw [i1 (a + 6 + p) (by omega) (by omega)]
        refine ⟨fun j hj => by rw [mt_comes_ne (by omega) (by omega)]; exact cr_p r hp2 hj, ?_⟩
        rw [cr_f r hp2]
        exact (mt_fol_grow hp2 (fun q hq => by unfold mt_T; rw [mt_comes_ne (by omega) (by omega)]) (by unfold mt_T; rw [mt_comes_at (by omega)]; rfl)).symm
    · rw [i1 (a + 18 + q) (by omega) (by omega), mt_comes_ne (by omega) (by omega)]
      exact cr_d r hq hj
  · have i1 : ∀ x, x ≠ a → x ≠ a + 6 + n → am_i (am_pi (am_pi (am_pi (am_pi (am_pi (am_pi (am_pi h (a + 6 + n) 0 k) (a + 6 + n) 1 b) (a + 6 + n) 2 w) (a + 6 + n) 3 0) (a + 6 + n) 4 0) (a + 6 + n) 5 0) a 5 (nI (n + 1))) x = am_i h x := fun x h1 h2 => by rw [(am_pi_o x h1).1, (am_pi_o x h2).1, (am_pi_o x h2).1, (am_pi_o x h2).1, (am_pi_o x h2).1, (am_pi_o x h2).1, (am_pi_o x h2).1]
    exact ⟨rfl, rfl, rfl, rfl, fun x hx => i1 x (fun z => hx ⟨by omega, by omega⟩) (fun z => hx ⟨by omega, by omega⟩)⟩
theorem mt_deed_ne {j : Nat} {x y z : Int32} (h0 : j ≠ 1) (h1 : j < 66 + 6 * nd ∨ 66 + 6 * nd + 5 < j) : mt_deed σ nd x y z j = σ j := by
  unfold mt_deed
  rw [pk_un h0, pk_un (by omega), pk_un (by omega), pk_un (by omega), pk_un (by omega), pk_un (by omega), pk_un (by omega)]
theorem mt_deed_at {j : Nat} {x y z : Int32} (hj : j < 6) : mt_deed σ nd x y z (66 + 6 * nd + j) = (if j = 0 then x else if j = 1 then y else if j = 2 then z else 0) := by
  unfold mt_deed
  rw [pk_un (by omega)]
  rcases (show j = 0 ∨ j = 1 ∨ j = 2 ∨ j = 3 ∨ j = 4 ∨ j = 5 by omega) with rfl | rfl | rfl | rfl | rfl | rfl
  · rw [pk_un (by omega), pk_un (by omega), pk_un (by omega), pk_un (by omega), pk_un (by omega), Nat.add_zero, pk_us]; rfl
  · rw [pk_un (by omega), pk_un (by omega), pk_un (by omega), pk_un (by omega), pk_us]; rfl
  · rw [pk_un (by omega), pk_un (by omega), pk_un (by omega), pk_us]; rfl
  · rw [pk_un (by omega), pk_un (by omega), pk_us]; rfl
  · rw [pk_un (by omega), pk_us]; rfl
  · rw [pk_us]; rfl
theorem mt_wf_deed {k : Nat} {x z : Int32} (hs : mt_wf σ n nd nt) (hn : nd < 8) (hk : k < 24) : mt_wf (mt_deed σ nd x (nI k) z) n (nd + 1) nt := by
  obtain ⟨⟨⟨a1, a2⟩, ⟨b1, b2⟩, c1, c2⟩, hP, hD, hT⟩ := hs
  refine ⟨⟨⟨by rw [mt_deed_ne (by omega) (by omega)]; exact a1, a2⟩, ⟨by unfold mt_deed; rw [pk_us], by omega⟩, by rw [mt_deed_ne (by omega) (by omega)]; exact c1, c2⟩, mt_wfP_congr a2 (fun j h1 h => by rw [mt_deed_ne (by omega) (by omega)]) hP, fun q hq => ?_, mt_wfT_congr c2 (fun j h1 h => by rw [mt_deed_ne (by omega) (by omega)]) hT⟩
  by_cases e : q = nd
  · subst e
    refine ⟨⟨k, hk, by rw [mt_deed_at (by omega)]; rfl⟩, fun i h1 h2 => by rw [mt_deed_at (by omega)]; exact b_0 i⟩
  · obtain ⟨h1, h2⟩ := hD q (by omega)
    refine ⟨by rw [mt_deed_ne (by omega) (by omega)]; exact h1, fun i hi hi2 => ?_⟩
    rw [mt_deed_ne (by omega) (by omega)]
    exact h2 i hi hi2
theorem c_addDeed0 (r : cl_R G h a σ n nd nt) (hs : mt_wf σ n nd nt) (hn : nd = 8) {k b w : Int32} : am_evm G (d + 1) 13 [.ref a, .int k, .int b, .int w] h = some (some (.int (-1000000003)), h) := by
  subst hn
  simp only [n_13, e_13_0, e_13_1, e_13_4, e_13_6, e_13_9, e_13_11, e_13_12, e_13_13, e_13_16, e_13_17, e_13_20, f_13_21, e_13_23, e_13_25, e_13_28, e_13_30, e_13_31, e_13_34, e_13_36, e_13_37, e_13_40, e_13_42, e_13_43, e_13_46, e_13_47, e_13_48, e_13_51, e_13_52, e_13_53, e_13_56, e_13_57, e_13_60, e_13_61, e_13_62, Option.bind_some, Option.toList_some, Option.toList_none, List.cons_append, List.nil_append, am_k1_i, am_k1_r, am_k1_u, am_k1_n, am_bo0, am_bo1, am_boi, am_ev_tb, am_tb_nil, am_rfs, am_rfn, eq_self, and_self, if_true, if_false, show ¬ (1 : Int32) = 0 from by decide, show ¬ (0 : Int32) = 1 from by decide, not_true, not_false_eq_true, and_true, true_and, and_false, false_and, or_true, true_or, or_false, false_or, ha_ob r.1, r.2.1.2.1, hs.1.2.1.1, show ¬ nI 8 < 8 from by decide]
theorem c_addDeed (r : cl_R G h a σ n nd nt) (hs : mt_wf σ n nd nt) (ha : a + 25 < G 0 + 136) (hn : nd < 8) {k b w : Int32} : ∃ h2, am_evm G (d + 1) 13 [.ref a, .int k, .int b, .int w] h = some (some (.int (nI nd)), h2) ∧ cl_R G h2 a (mt_deed σ nd k b w) n (nd + 1) nt ∧ am_fr (cl_H a) h h2 := by
  have hn12 := hs.1.1.2
  have hlt : nI nd < 8 := nI_lt (b := 8) hn (by decide)
  have op := ha_d3 r.1 hn
  have hne : ¬ a = a + 18 + nd := by omega
  have i1 : ∀ x, x ≠ a → x ≠ a + 18 + nd → am_i (am_pi (am_pi (am_pi (am_pi (am_pi (am_pi (am_pi h (a + 18 + nd) 3 0) (a + 18 + nd) 4 0) (a + 18 + nd) 5 0) (a + 18 + nd) 0 k) (a + 18 + nd) 1 b) (a + 18 + nd) 2 w) a 6 (nI (nd + 1))) x = am_i h x := fun x h1 h2 => by rw [(am_pi_o x h1).1, (am_pi_o x h2).1, (am_pi_o x h2).1, (am_pi_o x h2).1, (am_pi_o x h2).1, (am_pi_o x h2).1, (am_pi_o x h2).1]
  refine ⟨am_pi (am_pi (am_pi (am_pi (am_pi (am_pi (am_pi h (a + 18 + nd) 3 0) (a + 18 + nd) 4 0) (a + 18 + nd) 5 0) (a + 18 + nd) 0 k) (a + 18 + nd) 1 b) (a + 18 + nd) 2 w) a 6 (nI (nd + 1)), ?_, ?_, ⟨rfl, rfl, rfl, rfl, fun x hx => i1 x (fun z => hx ⟨by omega, by omega⟩) (fun z => hx ⟨by omega, by omega⟩)⟩⟩
  · simp only [n_13, e_13_0, e_13_1, e_13_4, e_13_6, e_13_9, e_13_11, e_13_12, e_13_13, e_13_16, e_13_17, e_13_20, f_13_21, e_13_23, e_13_25, e_13_28, e_13_30, e_13_31, e_13_34, e_13_36, e_13_37, e_13_40, e_13_42, e_13_43, e_13_46, e_13_47, e_13_48, e_13_51, e_13_52, e_13_53, e_13_56, e_13_57, e_13_60, e_13_61, e_13_62, Option.bind_some, Option.toList_some, Option.toList_none, List.cons_append, List.nil_append, am_k1_i, am_k1_r, am_k1_u, am_k1_n, am_bo0, am_bo1, am_boi, am_ev_tb, am_tb_nil, am_rfs, am_rfn, eq_self, and_self, if_true, if_false, show ¬ (1 : Int32) = 0 from by decide, show ¬ (0 : Int32) = 1 from by decide, not_true, not_false_eq_true, and_true, true_and, and_false, false_and, or_true, true_or, or_false, false_or, ha_ob r.1, r.2.1.2.1, hs.1.2.1.1, hlt, ha_r1 r.1, ha_d1 r.1 hn, am_cl (show nd < 2147483648 by omega), ha_d2 r.1 hn, op, c_beginD r.1 hn, am_ob_pi, am_pi_i, hne, nI_1, nI_pred]
  · have fr2 : am_fr (fun x => x = a ∨ x = a + 18 + nd) h (am_pi (am_pi (am_pi (am_pi (am_pi (am_pi (am_pi h (a + 18 + nd) 3 0) (a + 18 + nd) 4 0) (a + 18 + nd) 5 0) (a + 18 + nd) 0 k) (a + 18 + nd) 1 b) (a + 18 + nd) 2 w) a 6 (nI (nd + 1))) := ⟨rfl, rfl, rfl, rfl, fun x hx => i1 x (fun z => hx (Or.inl z)) (fun z => hx (Or.inr z))⟩
    refine r.ch hs.1.2.2.2 fr2 (fun x hx => ⟨by rcases hx with z | z <;> omega, by rcases hx with z | z <;> omega⟩) ?_ (fun p hp => ?_) (fun q hq j hj => ?_) (fun j h1 h2 => (mt_deed_ne (by omega) (by omega)).symm)
    · obtain ⟨c0, c1, c2, c3, c4⟩ := r.2.1
      rw [mt_deed_ne (j := 0) (by omega) (by omega), mt_deed_ne (j := 2) (by omega) (by omega), mt_deed_ne (j := 3) (by omega) (by omega), mt_deed_ne (j := 4) (by omega) (by omega)]
      simp only [am_pi_i, hne, false_and, if_false, true_and]
      refine ⟨c0, ?_, c2, c3, c4⟩
      unfold mt_deed
      rw [pk_us]
      rfl
    · rw [i1 (a + 6 + p) (by omega) (by omega)]
      refine ⟨fun j hj => by rw [mt_deed_ne (by omega) (by omega)]; exact cr_p r hp hj, ?_⟩
      rw [cr_f r hp]
      exact mt_fol_congr hp (fun q hq => by unfold mt_T; rw [mt_deed_ne (by omega) (by omega)])
    · by_cases e : q = nd
      · subst e
        rw [mt_deed_at hj]
        simp only [am_pi_i, show ¬ a + 18 + q = a from by omega, false_and, if_false, true_and]
        rcases (show j = 0 ∨ j = 1 ∨ j = 2 ∨ j = 3 ∨ j = 4 ∨ j = 5 by omega) with rfl | rfl | rfl | rfl | rfl | rfl <;> rfl
      · rw [i1 (a + 18 + q) (by omega) (by omega), mt_deed_ne (by omega) (by omega)]
        exact cr_d r (by omega) hj
theorem mt_dr24 (z : Int32) (w : Int32) : (mt_dr z &&& w) &&& 16777215 = mt_dr z &&& w := by
  apply b_ext
  intro i hi
  have h24 : ∀ i, i < 32 → bt 16777215 i = decide (i < 24) := by decide +kernel
  have h8 : bt (mt_dr z) i = bt (mt_z z) (8 + i) := b_ushr 8 (by omega) (mt_z z) i
  rw [b_and, b_and, h24 i hi, h8]
  by_cases h1 : i < 24
  · simp [h1]
  · rw [b_big (show 32 ≤ 8 + i by omega)]
    simp
theorem mt_dr6 (z : Int32) : ∃ k, k < 6 ∧ mt_rem (mt_dr z) 6 = nI k := by
  have h8 : ∀ i, bt (mt_dr z) i = bt (mt_z z) (8 + i) := fun i => b_ushr 8 (by omega) (mt_z z) i
  obtain ⟨k, hk, e⟩ := mt_small (x := mt_dr z) (n := 24) (by omega) (fun i h1 h2 => by rw [h8, b_big (by omega)])
  refine ⟨k % 6, Nat.mod_lt _ (by omega), ?_⟩
  unfold mt_rem
  rw [e]
  exact pk_rem (d := 6) (by omega) (by omega) (by omega)
theorem c_drawPerson (r : cl_R G h a σ n nd nt) (hs : mt_wf σ n nd nt) (ha : a + 25 < G 0 + 136) (hn : n < 12) : ∃ h2, am_evm G (d + 2) 16 [.ref a] h = some (none, h2) ∧ cl_R G h2 a (mt_deal1 σ n) (n + 1) nd nt ∧ am_fr (cl_H a) h h2 := by
  have u4 : ∀ τ : Nat → Int32, ∀ x, upd τ 4 x 4 = x := fun τ x => pk_us
  have z4 : ∀ (h' : am_H) (τ : Nat → Int32), cl_R G h' a τ n nd nt → mt_wf τ n nd nt → cl_R G (am_pi h' a 9 (mt_z (τ 4))) a (upd τ 4 (mt_z (τ 4))) n nd nt := fun h' τ r' hs' => r'.pz hs' ha (Or.inr rfl)
  have fz : ∀ (h' : am_H) v, am_fr (cl_H a) h' (am_pi h' a 9 v) := fun h' v => am_fr.pi ⟨Nat.le_refl _, by omega⟩
  have r1 := z4 h σ r hs
  have hs1 : mt_wf (upd σ 4 (mt_z (σ 4))) n nd nt := mt_wf_34 (Or.inr rfl) hs
  have e1 := c_draw3 (d := d + 1) r
  have f1 := fz h (mt_z (σ 4))
  generalize am_pi h a 9 (mt_z (σ 4)) = h1 at *
  have r2 := z4 h1 _ r1 hs1
  have hs2 := mt_wf_34 (v := mt_z (upd σ 4 (mt_z (σ 4)) 4)) (k := 4) (Or.inr rfl) hs1
  have e2 := c_draw3 (d := d + 1) r1
  have f2 := fz h1 (mt_z (upd σ 4 (mt_z (σ 4)) 4))
  generalize am_pi h1 a 9 (mt_z (upd σ 4 (mt_z (σ 4)) 4)) = h2 at *
  rw [u4, mt_upd_upd] at r2 hs2
  rw [u4] at e2
  have r3 := z4 h2 _ r2 hs2
  have hs3 := mt_wf_34 (v := mt_z (upd σ 4 (mt_z (mt_z (σ 4))) 4)) (k := 4) (Or.inr rfl) hs2
  have e3 := c_draw3 (d := d + 1) r2
  have f3 := fz h2 (mt_z (upd σ 4 (mt_z (mt_z (σ 4))) 4))
  generalize am_pi h2 a 9 (mt_z (upd σ 4 (mt_z (mt_z (σ 4))) 4)) = h3 at *
  rw [u4, mt_upd_upd] at r3 hs3
  rw [u4] at e3
  have r4 := z4 h3 _ r3 hs3
  have hs4 := mt_wf_34 (v := mt_z (upd σ 4 (mt_z (mt_z (mt_z (σ 4)))) 4)) (k := 4) (Or.inr rfl) hs3
  have e4 := c_draw3 (d := d + 1) r3
  have f4 := fz h3 (mt_z (upd σ 4 (mt_z (mt_z (mt_z (σ 4)))) 4))
  generalize am_pi h3 a 9 (mt_z (upd σ 4 (mt_z (mt_z (mt_z (σ 4)))) 4)) = h4 at *
  rw [u4, mt_upd_upd] at r4 hs4
  rw [u4] at e4
  obtain ⟨h5, e5, r5, f5⟩ := c_addPerson (d := d) (k := mt_rem (mt_dr (σ 4)) 6) (b := mt_rem (mt_dr (mt_z (σ 4))) 101) (w := mt_dr (mt_z (mt_z (σ 4))) &&& mt_dr (mt_z (mt_z (mt_z (σ 4))))) r4 hs4 ha hn
  refine ⟨h5, ?_, r5, (((f1.tr f2).tr f3).tr f4).tr f5⟩
  rw [← mt_dr24] at e5
  simp only [n_16, e_16_0, e_16_1, e_16_4, e_16_6, f_16_7, e_16_8, e_16_9, e_16_12, e_16_14, f_16_15, e_16_16, e_16_17, f_16_20, e_16_21, e_16_22, e_16_23, e_16_26, f_16_27, e_16_28, e_16_29, e_16_30, e_16_31, e_16_32, e_16_34, e_16_35, e_16_38, e_16_39, Option.bind_some, Option.toList_some, Option.toList_none, List.cons_append, List.nil_append, am_k1_i, am_k1_r, am_k1_u, am_k1_n, am_bo0, am_bo1, am_boi, am_ev_tb, am_tb_nil, am_rfs, am_rfn, eq_self, and_self, if_true, if_false, show ¬ (1 : Int32) = 0 from by decide, show ¬ (0 : Int32) = 1 from by decide, not_true, not_false_eq_true, and_true, true_and, and_false, false_and, or_true, true_or, or_false, false_or, ha_ob r.1, e1, ha_ob r1.1, e2, ha_ob r2.1, e3, ha_ob r3.1, e4, ha_ob r4.1, show ¬ (6 : Int32) = 0 from by decide, show ¬ (101 : Int32) = 0 from by decide]
  rw [show mt_dr (σ 4) - mt_dr (σ 4) / 6 * 6 = mt_rem (mt_dr (σ 4)) 6 from rfl, show mt_dr (mt_z (σ 4)) - mt_dr (mt_z (σ 4)) / 101 * 101 = mt_rem (mt_dr (mt_z (σ 4))) 101 from rfl, e5]
  simp only [n_16, e_16_0, e_16_1, e_16_4, e_16_6, f_16_7, e_16_8, e_16_9, e_16_12, e_16_14, f_16_15, e_16_16, e_16_17, f_16_20, e_16_21, e_16_22, e_16_23, e_16_26, f_16_27, e_16_28, e_16_29, e_16_30, e_16_31, e_16_32, e_16_34, e_16_35, e_16_38, e_16_39, Option.bind_some, Option.toList_some, Option.toList_none, List.cons_append, List.nil_append, am_k1_i, am_k1_r, am_k1_u, am_k1_n, am_bo0, am_bo1, am_boi, am_ev_tb, am_tb_nil, am_rfs, am_rfn, eq_self, and_self, if_true, if_false, show ¬ (1 : Int32) = 0 from by decide, show ¬ (0 : Int32) = 1 from by decide, not_true, not_false_eq_true, and_true, true_and, and_false, false_and, or_true, true_or, or_false, false_or]
theorem mt_wf_deal1 (hs : mt_wf σ n nd nt) (hn : n < 12) : mt_wf (mt_deal1 σ n) (n + 1) nd nt := by
  obtain ⟨k, hk, e⟩ := mt_dr6 (σ 4)
  unfold mt_deal1
  rw [e]
  exact mt_wf_comes (mt_wf_34 (Or.inr rfl) hs) hn hk
end CV
