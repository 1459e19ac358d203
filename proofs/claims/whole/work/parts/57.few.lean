/-! the class: fewest, common divisors, kinds -/
section CA
variable {G : Nat → Nat} {d : Nat} {h : am_H} {a : Nat} {σ : Nat → Int32} {n nd nt : Nat}
theorem c_first_l (r : cl_R G h a σ n nd nt) (hs : mt_wf σ n nd nt) {p : Nat} (hp : p < n) {W : Int32} : ∀ j q x4, q + j = n → (∀ q2, q2 < q → q2 ≠ p → bt W q2 = true → bt (mt_go σ n q2) p = true → (p < q2 ∧ bt (mt_go σ n p) q2 = true)) → ∃ v : Int32, am_ev G (d + 2) 34 2 [some (.ref a), some (.int (nI p)), some (.int W), some (.int (nI q)), x4] [] h = some (some (.int v), h) ∧ (v = 0 ∨ v = 1) ∧ (v = 1 ↔ mt_first σ n W p) := by
  have hn := hs.1.1.2
  intro j
  induction j with
  | zero =>
    intro q x4 hq hF
    obtain rfl : q = n := by omega
    refine ⟨1, ?_, Or.inr rfl, iff_of_true rfl hF⟩
    rw [e_34_2]
    simp only [n_34, e_34_0, f_34_1, e_34_3, e_34_4, e_34_7, e_34_10, e_34_11, e_34_12, e_34_15, e_34_16, e_34_17, e_34_20, e_34_23, e_34_24, e_34_25, e_34_28, e_34_29, e_34_32, e_34_35, e_34_36, f_34_40, e_34_42, e_34_44, e_34_47, e_34_48, e_34_49, e_34_52, e_34_53, e_34_54, e_34_57, e_34_58, e_34_61, e_34_64, f_34_65, f_34_66, e_34_69, e_34_39, e_34_72, f_34_73, Option.bind_some, Option.toList_some, Option.toList_none, List.cons_append, List.nil_append, am_k1_i, am_k1_r, am_k1_u, am_k1_n, am_bo0, am_bo1, am_boi, am_ev_tb, am_tb_nil, am_rfs, am_rfn, eq_self, and_self, if_true, if_false, show ¬ (1 : Int32) = 0 from by decide, show ¬ (0 : Int32) = 1 from by decide, not_true, not_false_eq_true, and_true, true_and, and_false, false_and, or_true, true_or, or_false, false_or, ha_ob r.1, r.2.1.1, hs.1.1.1, Int32.le_refl]
  | succ j ih =>
    intro q x4 hq hF
    have hlt : ¬ nI n ≤ nI q := nI_ge (by omega) (by omega)
    have go_on : ∀ x, (q ≠ p → bt W q = true → bt (mt_go σ n q) p = true → (p < q ∧ bt (mt_go σ n p) q = true)) → ∃ v : Int32, am_ev G (d + 2) 34 2 [some (.ref a), some (.int (nI p)), some (.int W), some (.int (nI (q + 1))), x] [] h = some (some (.int v), h) ∧ (v = 0 ∨ v = 1) ∧ (v = 1 ↔ mt_first σ n W p) := fun x hx => ih (q + 1) x (by omega) (fun q2 hq2 => by
      by_cases e : q2 = q
      · subst e; exact hx
      · exact hF q2 (by omega))
    rw [e_34_2]
    by_cases c1 : q = p
    · subst c1
      simp only [n_34, e_34_0, f_34_1, e_34_3, e_34_4, e_34_7, e_34_10, e_34_11, e_34_12, e_34_15, e_34_16, e_34_17, e_34_20, e_34_23, e_34_24, e_34_25, e_34_28, e_34_29, e_34_32, e_34_35, e_34_36, f_34_40, e_34_42, e_34_44, e_34_47, e_34_48, e_34_49, e_34_52, e_34_53, e_34_54, e_34_57, e_34_58, e_34_61, e_34_64, f_34_65, f_34_66, e_34_69, e_34_39, e_34_72, f_34_73, Option.bind_some, Option.toList_some, Option.toList_none, List.cons_append, List.nil_append, am_k1_i, am_k1_r, am_k1_u, am_k1_n, am_bo0, am_bo1, am_boi, am_ev_tb, am_tb_nil, am_rfs, am_rfn, eq_self, and_self, if_true, if_false, show ¬ (1 : Int32) = 0 from by decide, show ¬ (0 : Int32) = 1 from by decide, not_true, not_false_eq_true, and_true, true_and, and_false, false_and, or_true, true_or, or_false, false_or, ha_ob r.1, r.2.1.1, hs.1.1.1, hlt, nI_1]
      exact go_on _ (fun z => absurd rfl z)
    have c1' : ¬ nI q = nI p := fun z => c1 ((nI_eq (by omega) (by omega)).mp z)
    by_cases c2 : ¬ bt W q = true
    · have hm : mt_b W q = 0 := mt_b0.mpr c2
      simp only [n_34, e_34_0, f_34_1, e_34_3, e_34_4, e_34_7, e_34_10, e_34_11, e_34_12, e_34_15, e_34_16, e_34_17, e_34_20, e_34_23, e_34_24, e_34_25, e_34_28, e_34_29, e_34_32, e_34_35, e_34_36, f_34_40, e_34_42, e_34_44, e_34_47, e_34_48, e_34_49, e_34_52, e_34_53, e_34_54, e_34_57, e_34_58, e_34_61, e_34_64, f_34_65, f_34_66, e_34_69, e_34_39, e_34_72, f_34_73, Option.bind_some, Option.toList_some, Option.toList_none, List.cons_append, List.nil_append, am_k1_i, am_k1_r, am_k1_u, am_k1_n, am_bo0, am_bo1, am_boi, am_ev_tb, am_tb_nil, am_rfs, am_rfn, eq_self, and_self, if_true, if_false, show ¬ (1 : Int32) = 0 from by decide, show ¬ (0 : Int32) = 1 from by decide, not_true, not_false_eq_true, and_true, true_and, and_false, false_and, or_true, true_or, or_false, false_or, ha_ob r.1, r.2.1.1, hs.1.1.1, hlt, c1', c_hasBit (show q < 32 by omega), hm, nI_1]
      exact go_on _ (fun _ z => absurd z c2)
    have c2 := Classical.not_not.mp c2
    have hm2 : ¬ mt_b W q = 0 := fun z => mt_b0.mp z c2
    by_cases c3 : ¬ bt (mt_go σ n q) p = true
    · have hm : mt_b (mt_go σ n q) p = 0 := mt_b0.mpr c3
      simp only [n_34, e_34_0, f_34_1, e_34_3, e_34_4, e_34_7, e_34_10, e_34_11, e_34_12, e_34_15, e_34_16, e_34_17, e_34_20, e_34_23, e_34_24, e_34_25, e_34_28, e_34_29, e_34_32, e_34_35, e_34_36, f_34_40, e_34_42, e_34_44, e_34_47, e_34_48, e_34_49, e_34_52, e_34_53, e_34_54, e_34_57, e_34_58, e_34_61, e_34_64, f_34_65, f_34_66, e_34_69, e_34_39, e_34_72, f_34_73, Option.bind_some, Option.toList_some, Option.toList_none, List.cons_append, List.nil_append, am_k1_i, am_k1_r, am_k1_u, am_k1_n, am_bo0, am_bo1, am_boi, am_ev_tb, am_tb_nil, am_rfs, am_rfn, eq_self, and_self, if_true, if_false, show ¬ (1 : Int32) = 0 from by decide, show ¬ (0 : Int32) = 1 from by decide, not_true, not_false_eq_true, and_true, true_and, and_false, false_and, or_true, true_or, or_false, false_or, ha_ob r.1, r.2.1.1, hs.1.1.1, hlt, c1', c_hasBit (show q < 32 by omega), hm2, c_goersBy3 r hn (show q < n by omega), c_hasBit (show p < 32 by omega), hm, nI_1]
      exact go_on _ (fun _ _ z => absurd z c3)
    have c3 := Classical.not_not.mp c3
    have hm3 : ¬ mt_b (mt_go σ n q) p = 0 := fun z => mt_b0.mp z c3
    by_cases c4 : q < p
    · refine ⟨0, ?_, Or.inl rfl, iff_of_false (by decide) (fun z => ?_)⟩
      · simp only [n_34, e_34_0, f_34_1, e_34_3, e_34_4, e_34_7, e_34_10, e_34_11, e_34_12, e_34_15, e_34_16, e_34_17, e_34_20, e_34_23, e_34_24, e_34_25, e_34_28, e_34_29, e_34_32, e_34_35, e_34_36, f_34_40, e_34_42, e_34_44, e_34_47, e_34_48, e_34_49, e_34_52, e_34_53, e_34_54, e_34_57, e_34_58, e_34_61, e_34_64, f_34_65, f_34_66, e_34_69, e_34_39, e_34_72, f_34_73, Option.bind_some, Option.toList_some, Option.toList_none, List.cons_append, List.nil_append, am_k1_i, am_k1_r, am_k1_u, am_k1_n, am_bo0, am_bo1, am_boi, am_ev_tb, am_tb_nil, am_rfs, am_rfn, eq_self, and_self, if_true, if_false, show ¬ (1 : Int32) = 0 from by decide, show ¬ (0 : Int32) = 1 from by decide, not_true, not_false_eq_true, and_true, true_and, and_false, false_and, or_true, true_or, or_false, false_or, ha_ob r.1, r.2.1.1, hs.1.1.1, hlt, c1', c_hasBit (show q < 32 by omega), hm2, c_goersBy3 r hn (show q < n by omega), c_hasBit (show p < 32 by omega), hm3, nI_lt c4 (show p < 2147483648 by omega)]
      · have := z q (by omega) c1 c2 c3; omega
    have c4' : ¬ nI q < nI p := nI_nlt (by omega) (by omega)
    by_cases c5 : bt (mt_go σ n p) q = true
    · have hm5 : ¬ mt_b (mt_go σ n p) q = 0 := fun z => mt_b0.mp z c5
      simp only [n_34, e_34_0, f_34_1, e_34_3, e_34_4, e_34_7, e_34_10, e_34_11, e_34_12, e_34_15, e_34_16, e_34_17, e_34_20, e_34_23, e_34_24, e_34_25, e_34_28, e_34_29, e_34_32, e_34_35, e_34_36, f_34_40, e_34_42, e_34_44, e_34_47, e_34_48, e_34_49, e_34_52, e_34_53, e_34_54, e_34_57, e_34_58, e_34_61, e_34_64, f_34_65, f_34_66, e_34_69, e_34_39, e_34_72, f_34_73, Option.bind_some, Option.toList_some, Option.toList_none, List.cons_append, List.nil_append, am_k1_i, am_k1_r, am_k1_u, am_k1_n, am_bo0, am_bo1, am_boi, am_ev_tb, am_tb_nil, am_rfs, am_rfn, eq_self, and_self, if_true, if_false, show ¬ (1 : Int32) = 0 from by decide, show ¬ (0 : Int32) = 1 from by decide, not_true, not_false_eq_true, and_true, true_and, and_false, false_and, or_true, true_or, or_false, false_or, ha_ob r.1, r.2.1.1, hs.1.1.1, hlt, c1', c_hasBit (show q < 32 by omega), hm2, c_goersBy3 r hn (show q < n by omega), c_goersBy3 r hn hp, c_hasBit (show p < 32 by omega), hm3, c4', hm5, nI_1]
      exact go_on _ (fun _ _ _ => ⟨by omega, c5⟩)
    · have hm5 : mt_b (mt_go σ n p) q = 0 := mt_b0.mpr c5
      refine ⟨0, ?_, Or.inl rfl, iff_of_false (by decide) (fun z => c5 (z q (by omega) c1 c2 c3).2)⟩
      simp only [n_34, e_34_0, f_34_1, e_34_3, e_34_4, e_34_7, e_34_10, e_34_11, e_34_12, e_34_15, e_34_16, e_34_17, e_34_20, e_34_23, e_34_24, e_34_25, e_34_28, e_34_29, e_34_32, e_34_35, e_34_36, f_34_40, e_34_42, e_34_44, e_34_47, e_34_48, e_34_49, e_34_52, e_34_53, e_34_54, e_34_57, e_34_58, e_34_61, e_34_64, f_34_65, f_34_66, e_34_69, e_34_39, e_34_72, f_34_73, Option.bind_some, Option.toList_some, Option.toList_none, List.cons_append, List.nil_append, am_k1_i, am_k1_r, am_k1_u, am_k1_n, am_bo0, am_bo1, am_boi, am_ev_tb, am_tb_nil, am_rfs, am_rfn, eq_self, and_self, if_true, if_false, show ¬ (1 : Int32) = 0 from by decide, show ¬ (0 : Int32) = 1 from by decide, not_true, not_false_eq_true, and_true, true_and, and_false, false_and, or_true, true_or, or_false, false_or, ha_ob r.1, r.2.1.1, hs.1.1.1, hlt, c1', c_hasBit (show q < 32 by omega), hm2, c_goersBy3 r hn (show q < n by omega), c_goersBy3 r hn hp, c_hasBit (show p < 32 by omega), hm3, c4', hm5]
theorem c_isFirst (r : cl_R G h a σ n nd nt) (hs : mt_wf σ n nd nt) {p : Nat} (hp : p < n) {W : Int32} : ∃ v : Int32, am_evm G (d + 2) 34 [.ref a, .int (nI p), .int W] h = some (some (.int v), h) ∧ (v = 0 ∨ v = 1) ∧ (v = 1 ↔ mt_first σ n W p) := by
  obtain ⟨v, e, h1, h2⟩ := c_first_l (d := d) (W := W) r hs hp n 0 none (by omega) (fun q hq => absurd hq (Nat.not_lt_zero q))
  refine ⟨v, ?_, h1, h2⟩
  rw [← e]
  simp only [n_34, e_34_0, f_34_1, e_34_3, e_34_4, e_34_7, e_34_10, e_34_11, e_34_12, e_34_15, e_34_16, e_34_17, e_34_20, e_34_23, e_34_24, e_34_25, e_34_28, e_34_29, e_34_32, e_34_35, e_34_36, f_34_40, e_34_42, e_34_44, e_34_47, e_34_48, e_34_49, e_34_52, e_34_53, e_34_54, e_34_57, e_34_58, e_34_61, e_34_64, f_34_65, f_34_66, e_34_69, e_34_39, e_34_72, f_34_73, Option.bind_some, Option.toList_some, Option.toList_none, List.cons_append, List.nil_append, am_k1_i, am_k1_r, am_k1_u, am_k1_n, am_bo0, am_bo1, am_boi, am_ev_tb, am_tb_nil, am_rfs, am_rfn, eq_self]
  rfl
theorem c_few_l (r : cl_R G h a σ n nd nt) (hs : mt_wf σ n nd nt) {p : Nat} {W : Int32} : ∀ j q S, q + j = n → (∀ i, i < 32 → (bt S i = true ↔ (i < q ∧ bt W i = true ∧ mt_first σ n W i))) → ∃ M, am_ev G (d + 3) 33 30 [some (.ref a), some (.ref (a + 18 + p)), some (.int W), some (.int S), some (.int (nI q))] [] h = some (some (.int M), h) ∧ ∀ i, i < 32 → (bt M i = true ↔ (i < n ∧ bt W i = true ∧ mt_first σ n W i)) := by
  have hn := hs.1.1.2
  intro j
  induction j with
  | zero =>
    intro q S hq hS
    obtain rfl : q = n := by omega
    refine ⟨S, ?_, hS⟩
    rw [e_33_30]
    simp only [n_33, e_33_0, e_33_1, e_33_4, e_33_5, e_33_8, e_33_9, e_33_10, f_33_11, e_33_12, e_33_13, e_33_14, e_33_15, e_33_18, e_33_19, e_33_22, e_33_24, e_33_25, f_33_26, e_33_27, f_33_28, e_33_32, e_33_33, e_33_36, e_33_39, e_33_40, e_33_42, e_33_45, e_33_48, e_33_49, e_33_51, e_33_52, e_33_55, e_33_58, e_33_59, e_33_60, e_33_62, e_33_63, f_33_64, f_33_65, e_33_68, e_33_71, e_33_72, Option.bind_some, Option.toList_some, Option.toList_none, List.cons_append, List.nil_append, am_k1_i, am_k1_r, am_k1_u, am_k1_n, am_bo0, am_bo1, am_boi, am_ev_tb, am_tb_nil, am_rfs, am_rfn, eq_self, and_self, if_true, if_false, show ¬ (1 : Int32) = 0 from by decide, show ¬ (0 : Int32) = 1 from by decide, not_true, not_false_eq_true, and_true, true_and, and_false, false_and, or_true, true_or, or_false, false_or, ha_ob r.1, r.2.1.1, hs.1.1.1, Int32.le_refl]
  | succ j ih =>
    intro q S hq hS
    have hlt : ¬ nI n ≤ nI q := nI_ge (by omega) (by omega)
    have skip : ¬ (bt W q = true ∧ mt_first σ n W q) → ∃ M, am_ev G (d + 3) 33 30 [some (.ref a), some (.ref (a + 18 + p)), some (.int W), some (.int S), some (.int (nI (q + 1)))] [] h = some (some (.int M), h) ∧ ∀ i, i < 32 → (bt M i = true ↔ (i < n ∧ bt W i = true ∧ mt_first σ n W i)) := fun hno => ih (q + 1) S (by omega) (fun i hi => by
      rw [hS i hi]
      constructor
      · rintro ⟨h1, h2⟩; exact ⟨by omega, h2⟩
      · rintro ⟨h1, h2⟩
        by_cases e : i = q
        · subst e; exact absurd h2 hno
        · exact ⟨by omega, h2⟩)
    rw [e_33_30]
    by_cases c1 : bt W q = true
    · have hm : ¬ mt_b W q = 0 := fun z => mt_b0.mp z c1
      obtain ⟨v, e, h1, h2⟩ := c_isFirst (d := d) (W := W) r hs (show q < n by omega)
      rcases h1 with rfl | rfl
      · simp only [n_33, e_33_0, e_33_1, e_33_4, e_33_5, e_33_8, e_33_9, e_33_10, f_33_11, e_33_12, e_33_13, e_33_14, e_33_15, e_33_18, e_33_19, e_33_22, e_33_24, e_33_25, f_33_26, e_33_27, f_33_28, e_33_32, e_33_33, e_33_36, e_33_39, e_33_40, e_33_42, e_33_45, e_33_48, e_33_49, e_33_51, e_33_52, e_33_55, e_33_58, e_33_59, e_33_60, e_33_62, e_33_63, f_33_64, f_33_65, e_33_68, e_33_71, e_33_72, Option.bind_some, Option.toList_some, Option.toList_none, List.cons_append, List.nil_append, am_k1_i, am_k1_r, am_k1_u, am_k1_n, am_bo0, am_bo1, am_boi, am_ev_tb, am_tb_nil, am_rfs, am_rfn, eq_self, and_self, if_true, if_false, show ¬ (1 : Int32) = 0 from by decide, show ¬ (0 : Int32) = 1 from by decide, not_true, not_false_eq_true, and_true, true_and, and_false, false_and, or_true, true_or, or_false, false_or, ha_ob r.1, r.2.1.1, hs.1.1.1, hlt, c_hasBit (show q < 32 by omega), hm, e, nI_1]
        exact skip (fun z => absurd (h2.mpr z.2) (by decide))
      · simp only [n_33, e_33_0, e_33_1, e_33_4, e_33_5, e_33_8, e_33_9, e_33_10, f_33_11, e_33_12, e_33_13, e_33_14, e_33_15, e_33_18, e_33_19, e_33_22, e_33_24, e_33_25, f_33_26, e_33_27, f_33_28, e_33_32, e_33_33, e_33_36, e_33_39, e_33_40, e_33_42, e_33_45, e_33_48, e_33_49, e_33_51, e_33_52, e_33_55, e_33_58, e_33_59, e_33_60, e_33_62, e_33_63, f_33_64, f_33_65, e_33_68, e_33_71, e_33_72, Option.bind_some, Option.toList_some, Option.toList_none, List.cons_append, List.nil_append, am_k1_i, am_k1_r, am_k1_u, am_k1_n, am_bo0, am_bo1, am_boi, am_ev_tb, am_tb_nil, am_rfs, am_rfn, eq_self, and_self, if_true, if_false, show ¬ (1 : Int32) = 0 from by decide, show ¬ (0 : Int32) = 1 from by decide, not_true, not_false_eq_true, and_true, true_and, and_false, false_and, or_true, true_or, or_false, false_or, ha_ob r.1, r.2.1.1, hs.1.1.1, hlt, c_hasBit (show q < 32 by omega), hm, e, nI_1]
        refine ih (q + 1) _ (by omega) (fun i hi => ?_)
        rw [b_or, Bool.or_eq_true, hS i hi, mt_one (by omega) hi, decide_eq_true_eq]
        constructor
        · rintro (⟨h3, h4⟩ | h3)
          · exact ⟨by omega, h4⟩
          · subst h3; exact ⟨by omega, c1, h2.mp rfl⟩
        · rintro ⟨h3, h4⟩
          by_cases e : i = q
          · exact Or.inr e
          · exact Or.inl ⟨by omega, h4⟩
    · have hm : mt_b W q = 0 := mt_b0.mpr c1
      simp only [n_33, e_33_0, e_33_1, e_33_4, e_33_5, e_33_8, e_33_9, e_33_10, f_33_11, e_33_12, e_33_13, e_33_14, e_33_15, e_33_18, e_33_19, e_33_22, e_33_24, e_33_25, f_33_26, e_33_27, f_33_28, e_33_32, e_33_33, e_33_36, e_33_39, e_33_40, e_33_42, e_33_45, e_33_48, e_33_49, e_33_51, e_33_52, e_33_55, e_33_58, e_33_59, e_33_60, e_33_62, e_33_63, f_33_64, f_33_65, e_33_68, e_33_71, e_33_72, Option.bind_some, Option.toList_some, Option.toList_none, List.cons_append, List.nil_append, am_k1_i, am_k1_r, am_k1_u, am_k1_n, am_bo0, am_bo1, am_boi, am_ev_tb, am_tb_nil, am_rfs, am_rfn, eq_self, and_self, if_true, if_false, show ¬ (1 : Int32) = 0 from by decide, show ¬ (0 : Int32) = 1 from by decide, not_true, not_false_eq_true, and_true, true_and, and_false, false_and, or_true, true_or, or_false, false_or, ha_ob r.1, r.2.1.1, hs.1.1.1, hlt, c_hasBit (show q < 32 by omega), hm, nI_1]
      exact skip (fun z => c1 z.1)
theorem c_fewestFor (r : cl_R G h a σ n nd nt) (hs : mt_wf σ n nd nt) {p : Nat} (hp : p < nd) : ∃ v, am_evm G (d + 3) 33 [.ref a, .ref (a + 18 + p)] h = some (some (.int v), h) ∧ ((v = -1000000005 ∧ mt_few σ n p = (-1, 13)) ∨ (mt_few σ n p = (v, mt_ones v) ∧ ¬ v < 0 ∧ ∀ i, 12 ≤ i → i < 32 → bt v i = false)) := by
  have hn := hs.1.1.2
  have hd := hs.1.2.1.2
  have od := ha_d3 r.1 (show p < 8 by omega)
  have hW : ∀ i, i < 32 → (bt (mt_every (σ 0) &&& (σ (66 + 6 * p + 0) ^^^ (-1))) i = true ↔ (i < n ∧ bt (σ (66 + 6 * p + 0)) i = false)) := fun i hi => by
    rw [b_and, hs.1.1.1, mt_every_bt n hn i hi, mt_not _ hi]
    simp
  have hL : ∀ i, i < 32 → (bt (mt_allLie σ n p n) i = true ↔ (i < n ∧ mt_lie σ n p i = true)) := fun i hi => by
    unfold mt_allLie
    rw [mt_sN_bt n (by omega) i hi]
    simp
  by_cases hz : (mt_every (σ 0) &&& (σ (66 + 6 * p + 0) ^^^ (-1))) &&& mt_allLie σ n p n = 0
  · obtain ⟨M, e, hM⟩ := c_few_l (d := d) (p := p) (W := mt_every (σ 0) &&& (σ (66 + 6 * p + 0) ^^^ (-1))) r hs n 0 0 (by omega) (fun i hi => by rw [b_0]; exact iff_of_false (by decide) (fun z => absurd z.1 (Nat.not_lt_zero i)))
    refine ⟨M, ?_, Or.inr ?_⟩
    · rw [← e]
      simp only [n_33, e_33_0, e_33_1, e_33_4, e_33_5, e_33_8, e_33_9, e_33_10, f_33_11, e_33_12, e_33_13, e_33_14, e_33_15, e_33_18, e_33_19, e_33_22, e_33_24, e_33_25, f_33_26, e_33_27, f_33_28, e_33_32, e_33_33, e_33_36, e_33_39, e_33_40, e_33_42, e_33_45, e_33_48, e_33_49, e_33_51, e_33_52, e_33_55, e_33_58, e_33_59, e_33_60, e_33_62, e_33_63, f_33_64, f_33_65, e_33_68, e_33_71, e_33_72, Option.bind_some, Option.toList_some, Option.toList_none, List.cons_append, List.nil_append, am_k1_i, am_k1_r, am_k1_u, am_k1_n, am_bo0, am_bo1, am_boi, am_ev_tb, am_tb_nil, am_rfs, am_rfn, eq_self, and_self, if_true, if_false, show ¬ (1 : Int32) = 0 from by decide, show ¬ (0 : Int32) = 1 from by decide, not_true, not_false_eq_true, and_true, true_and, and_false, false_and, or_true, true_or, or_false, false_or, ha_ob r.1, c_everyone3 r, od, cr_d r hp (show 0 < 6 by omega), c_allLie r hs hp, hz]
      rfl
    · have := mt_few_is (M := M) hs.1.1.1 hn hs.2.1 (fun w hw hb => by
        cases hl : mt_lie σ n p w with
        | false => rfl
        | true =>
          have h1 : bt ((mt_every (σ 0) &&& (σ (66 + 6 * p + 0) ^^^ (-1))) &&& mt_allLie σ n p n) w = true := by
            rw [b_and, (hW w (by omega)).mpr ⟨hw, hb⟩, (hL w (by omega)).mpr ⟨hw, hl⟩]
            rfl
          rw [hz, b_0] at h1
          cases h1) (fun i hi => by
        rw [hM i hi, hW i hi]
        constructor
        · rintro ⟨h1, ⟨_, h2⟩, h3⟩; exact ⟨h1, h2, h3⟩
        · rintro ⟨h1, h2, h3⟩; exact ⟨h1, ⟨h1, h2⟩, h3⟩)
      refine ⟨this.1, this.2, fun i h1 h2 => ?_⟩
      cases hb : bt M i with
      | false => rfl
      | true => have := ((hM i h2).mp hb).1; omega
  · refine ⟨-1000000005, ?_, Or.inl ⟨rfl, ?_⟩⟩
    · simp only [n_33, e_33_0, e_33_1, e_33_4, e_33_5, e_33_8, e_33_9, e_33_10, f_33_11, e_33_12, e_33_13, e_33_14, e_33_15, e_33_18, e_33_19, e_33_22, e_33_24, e_33_25, f_33_26, e_33_27, f_33_28, e_33_32, e_33_33, e_33_36, e_33_39, e_33_40, e_33_42, e_33_45, e_33_48, e_33_49, e_33_51, e_33_52, e_33_55, e_33_58, e_33_59, e_33_60, e_33_62, e_33_63, f_33_64, f_33_65, e_33_68, e_33_71, e_33_72, Option.bind_some, Option.toList_some, Option.toList_none, List.cons_append, List.nil_append, am_k1_i, am_k1_r, am_k1_u, am_k1_n, am_bo0, am_bo1, am_boi, am_ev_tb, am_tb_nil, am_rfs, am_rfn, eq_self, and_self, if_true, if_false, show ¬ (1 : Int32) = 0 from by decide, show ¬ (0 : Int32) = 1 from by decide, not_true, not_false_eq_true, and_true, true_and, and_false, false_and, or_true, true_or, or_false, false_or, ha_ob r.1, c_everyone3 r, od, cr_d r hp (show 0 < 6 by omega), c_allLie r hs hp, hz]
    · have hex : ∃ i, i < 32 ∧ bt (mt_every (σ 0) &&& (σ (66 + 6 * p + 0) ^^^ (-1))) i = true ∧ bt (mt_allLie σ n p n) i = true := by
        apply Classical.byContradiction
        intro hno
        apply hz
        apply b_ext
        intro i hi
        rw [b_and, b_0]
        cases h1 : bt (mt_every (σ 0) &&& (σ (66 + 6 * p + 0) ^^^ (-1))) i with
        | false => rfl
        | true =>
          cases h2 : bt (mt_allLie σ n p n) i with
          | false => rfl
          | true => exact absurd ⟨i, hi, h1, h2⟩ hno
      obtain ⟨i, hi, h1, h2⟩ := hex
      exact mt_few_no hs.1.1.1 hn ((hW i hi).mp h1).1 ((hW i hi).mp h1).2 ((hL i hi).mp h2).2
theorem c_gcd_l {x0 y0 : Int32} : ∀ k x y i x5, y < 2 ^ k → i + 2 * k ≤ 64 → 0 < x → x < 1000000 → y < 1000000 → am_ev G (d + 1) 129 7 [some (.int x0), some (.int y0), some (.int (nI x)), some (.int (nI y)), some (.int (nI i)), x5] [] h = some (some (.int (nI (Nat.gcd x y))), h) := by
  have fin : ∀ x i x5, i ≤ 64 → 0 < x → x < 1000000 → am_ev G (d + 1) 129 7 [some (.int x0), some (.int y0), some (.int (nI x)), some (.int (nI 0)), some (.int (nI i)), x5] [] h = some (some (.int (nI x)), h) := by
    intro x i x5 hi hx hx2
    have hmax : (if (1 : Int32) < nI x then nI x else 1) = nI x := by
      by_cases h1 : x = 1
      · subst h1; rfl
      · have h2 : (1 : Int32) < nI x := nI_lt (a := 1) (b := x) (by omega) (by omega)
        rw [if_pos h2]
    rw [e_129_7]
    by_cases h64 : i = 64
    · subst h64
      simp only [n_129, e_129_0, f_129_1, e_129_2, f_129_3, e_129_4, f_129_5, e_129_9, e_129_11, e_129_14, e_129_15, e_129_18, e_129_19, e_129_20, f_129_21, e_129_23, f_129_24, e_129_25, f_129_27, f_129_28, e_129_31, e_129_34, e_129_35, e_129_36, e_129_39, Option.bind_some, Option.toList_some, Option.toList_none, List.cons_append, List.nil_append, am_k1_i, am_k1_r, am_k1_u, am_k1_n, am_bo0, am_bo1, am_boi, am_ev_tb, am_tb_nil, am_rfs, am_rfn, eq_self, and_self, if_true, if_false, show ¬ (1 : Int32) = 0 from by decide, show ¬ (0 : Int32) = 1 from by decide, not_true, not_false_eq_true, and_true, true_and, and_false, false_and, or_true, true_or, or_false, false_or, show (64 : Int32) ≤ nI 64 from by decide, hmax]
    · have hlt : ¬ (64 : Int32) ≤ nI i := nI_ge (b := 64) (by omega) (by decide)
      simp only [n_129, e_129_0, f_129_1, e_129_2, f_129_3, e_129_4, f_129_5, e_129_9, e_129_11, e_129_14, e_129_15, e_129_18, e_129_19, e_129_20, f_129_21, e_129_23, f_129_24, e_129_25, f_129_27, f_129_28, e_129_31, e_129_34, e_129_35, e_129_36, e_129_39, Option.bind_some, Option.toList_some, Option.toList_none, List.cons_append, List.nil_append, am_k1_i, am_k1_r, am_k1_u, am_k1_n, am_bo0, am_bo1, am_boi, am_ev_tb, am_tb_nil, am_rfs, am_rfn, eq_self, and_self, if_true, if_false, show ¬ (1 : Int32) = 0 from by decide, show ¬ (0 : Int32) = 1 from by decide, not_true, not_false_eq_true, and_true, true_and, and_false, false_and, or_true, true_or, or_false, false_or, hlt, show nI 0 = (0 : Int32) from rfl, hmax]
  have step : ∀ x y i x5, i < 64 → 0 < y → x < 1000000 → y < 1000000 → am_ev G (d + 1) 129 7 [some (.int x0), some (.int y0), some (.int (nI x)), some (.int (nI y)), some (.int (nI i)), x5] [] h = am_ev G (d + 1) 129 7 [some (.int x0), some (.int y0), some (.int (nI y)), some (.int (nI (x % y))), some (.int (nI (i + 1))), some (.int (nI (x % y)))] [] h := by
    intro x y i x5 hi hy hx hy2
    have hlt : ¬ (64 : Int32) ≤ nI i := nI_ge (b := 64) (by omega) (by decide)
    have h0 : ¬ nI y = 0 := nI_ne0 hy (by omega)
    rw [e_129_7]
    simp only [n_129, e_129_0, f_129_1, e_129_2, f_129_3, e_129_4, f_129_5, e_129_9, e_129_11, e_129_14, e_129_15, e_129_18, e_129_19, e_129_20, f_129_21, e_129_23, f_129_24, e_129_25, f_129_27, f_129_28, e_129_31, e_129_34, e_129_35, e_129_36, e_129_39, Option.bind_some, Option.toList_some, Option.toList_none, List.cons_append, List.nil_append, am_k1_i, am_k1_r, am_k1_u, am_k1_n, am_bo0, am_bo1, am_boi, am_ev_tb, am_tb_nil, am_rfs, am_rfn, eq_self, and_self, if_true, if_false, show ¬ (1 : Int32) = 0 from by decide, show ¬ (0 : Int32) = 1 from by decide, not_true, not_false_eq_true, and_true, true_and, and_false, false_and, or_true, true_or, or_false, false_or, hlt, h0, pk_rem (show x < 2147483648 by omega) hy (show y < 2147483648 by omega), nI_1]
  intro k
  induction k with
  | zero =>
    intro x y i x5 hy hi hx hx2 hy2
    obtain rfl : y = 0 := by rw [Nat.pow_zero] at hy; omega
    rw [Nat.gcd_zero_right]
    exact fin x i x5 (by omega) hx hx2
  | succ k ih =>
    intro x y i x5 hy hi hx hx2 hy2
    by_cases y0 : y = 0
    · subst y0
      rw [Nat.gcd_zero_right]
      exact fin x i x5 (by omega) hx hx2
    · have hr : x % y < y := Nat.mod_lt _ (by omega)
      have hg : Nat.gcd x y = Nat.gcd y (x % y) := by rw [Nat.gcd_comm x y, Nat.gcd_rec y x, Nat.gcd_comm]
      rw [step x y i x5 (by omega) (by omega) hx2 hy2, hg]
      by_cases r0 : x % y = 0
      · rw [r0, Nat.gcd_zero_right]
        exact fin y (i + 1) _ (by omega) (by omega) hy2
      · have hr2 : y % (x % y) < x % y := Nat.mod_lt _ (by omega)
        have hsum : y % (x % y) + x % y ≤ y := by
          have h1 := Nat.mod_add_div y (x % y)
          have h2 : 1 ≤ y / (x % y) := Nat.div_pos (by omega) (by omega)
          have h3 : x % y ≤ (x % y) * (y / (x % y)) := Nat.le_mul_of_pos_right _ h2
          omega
        have hg2 : Nat.gcd y (x % y) = Nat.gcd (x % y) (y % (x % y)) := by rw [Nat.gcd_comm y (x % y), Nat.gcd_rec (x % y) y, Nat.gcd_comm]
        rw [step y (x % y) (i + 1) _ (by omega) (by omega) hy2 (by omega), hg2]
        exact ih (x % y) (y % (x % y)) (i + 1 + 1) _ (by rw [Nat.pow_succ] at hy; omega) (by omega) (by omega) (by omega) (by omega)
theorem c_commonDivisor {A : Nat} (hA : A ≤ 221760) : am_evm G (d + 1) 129 [.int 27720, .int (nI A)] h = some (some (.int (nI (Nat.gcd A 27720))), h) := by
  rw [Nat.gcd_comm]
  simp only [n_129, e_129_0, f_129_1, e_129_2, f_129_3, e_129_4, f_129_5, e_129_9, e_129_11, e_129_14, e_129_15, e_129_18, e_129_19, e_129_20, f_129_21, e_129_23, f_129_24, e_129_25, f_129_27, f_129_28, e_129_31, e_129_34, e_129_35, e_129_36, e_129_39, Option.bind_some, Option.toList_some, Option.toList_none, List.cons_append, List.nil_append, am_k1_i, am_k1_r, am_k1_u, am_k1_n, am_bo0, am_bo1, am_boi, am_ev_tb, am_tb_nil, am_rfs, am_rfn, eq_self]
  exact c_gcd_l (x0 := 27720) (y0 := nI A) 18 27720 A 0 none (by omega) (by omega) (by omega) (by omega) (by omega)
theorem c_canBeDoers (r : cl_R G h a σ n nd nt) (hs : mt_wf σ n nd nt) {x : Int32} : am_evm G (d + 1) 10 [.ref a, .int x] h = some (some (.int (if x &&& (mt_every (σ 0) ^^^ (-1)) = 0 ∧ 1 ≤ mt_ones x ∧ mt_ones x ≤ 2 then 1 else 0)), h) := by
  have hn := hs.1.1.2
  by_cases h1 : x &&& (mt_every (σ 0) ^^^ (-1)) = 0
  · have hb : ∀ i, 12 ≤ i → i < 32 → bt x i = false := fun i h2 h3 => by
      have : bt (x &&& (mt_every (σ 0) ^^^ (-1))) i = false := by rw [h1, b_0]
      rw [b_and, mt_not _ h3, hs.1.1.1, mt_every_bt n hn i h3, decide_eq_false (by omega)] at this
      simpa using this
    by_cases h2 : 1 ≤ mt_ones x ∧ mt_ones x ≤ 2
    · simp only [n_10, e_10_0, e_10_1, e_10_2, e_10_5, e_10_6, e_10_7, e_10_8, e_10_11, e_10_12, e_10_15, e_10_16, e_10_17, e_10_20, e_10_23, e_10_24, f_10_28, e_10_27, Option.bind_some, Option.toList_some, Option.toList_none, List.cons_append, List.nil_append, am_k1_i, am_k1_r, am_k1_u, am_k1_n, am_bo0, am_bo1, am_boi, am_ev_tb, am_tb_nil, am_rfs, am_rfn, eq_self, and_self, if_true, if_false, show ¬ (1 : Int32) = 0 from by decide, show ¬ (0 : Int32) = 1 from by decide, not_true, not_false_eq_true, and_true, true_and, and_false, false_and, or_true, true_or, or_false, false_or, ha_ob r.1, c_everyone3 r, h1, c_bitCount hb, c_within, h2]
    · simp only [n_10, e_10_0, e_10_1, e_10_2, e_10_5, e_10_6, e_10_7, e_10_8, e_10_11, e_10_12, e_10_15, e_10_16, e_10_17, e_10_20, e_10_23, e_10_24, f_10_28, e_10_27, Option.bind_some, Option.toList_some, Option.toList_none, List.cons_append, List.nil_append, am_k1_i, am_k1_r, am_k1_u, am_k1_n, am_bo0, am_bo1, am_boi, am_ev_tb, am_tb_nil, am_rfs, am_rfn, eq_self, and_self, if_true, if_false, show ¬ (1 : Int32) = 0 from by decide, show ¬ (0 : Int32) = 1 from by decide, not_true, not_false_eq_true, and_true, true_and, and_false, false_and, or_true, true_or, or_false, false_or, ha_ob r.1, c_everyone3 r, h1, c_bitCount hb, c_within, h2]
  · simp only [n_10, e_10_0, e_10_1, e_10_2, e_10_5, e_10_6, e_10_7, e_10_8, e_10_11, e_10_12, e_10_15, e_10_16, e_10_17, e_10_20, e_10_23, e_10_24, f_10_28, e_10_27, Option.bind_some, Option.toList_some, Option.toList_none, List.cons_append, List.nil_append, am_k1_i, am_k1_r, am_k1_u, am_k1_n, am_bo0, am_bo1, am_boi, am_ev_tb, am_tb_nil, am_rfs, am_rfn, eq_self, and_self, if_true, if_false, show ¬ (1 : Int32) = 0 from by decide, show ¬ (0 : Int32) = 1 from by decide, not_true, not_false_eq_true, and_true, true_and, and_false, false_and, or_true, true_or, or_false, false_or, ha_ob r.1, c_everyone3 r, h1]
/-- what stands ahead of the script and never changes -/
def cl_E (G : Nat → Nat) (h : am_H) : Prop := (G 1 < G 0 ∧ am_sh h (G 1) = (30, 6) ∧ am_i h (G 1) = am_KA) ∧ (G 2 < G 0 ∧ am_sh h (G 2) = (31, 9) ∧ am_i h (G 2) = am_NA) ∧ (G 7 < G 0 ∧ am_sh h (G 7) = (32, 3) ∧ am_i h (G 7) = am_TX 0) ∧ (G 8 < G 0 ∧ am_sh h (G 8) = (32, 4) ∧ am_i h (G 8) = am_TX 1) ∧ (G 9 < G 0 ∧ am_sh h (G 9) = (32, 4) ∧ am_i h (G 9) = am_TX 2) ∧ G 3 ≠ G 4 ∧ G 3 ≠ G 5 ∧ G 4 ≠ G 5
theorem c_isOf {b k : Nat} (E : cl_E G h) (ho : am_ob G h b 2) (hk : k < 6) (hkind : am_i h b 0 = nI k) {w : Int32} : am_evm G (d + 2) 39 [.ref b, .int w] h = some (some (.int (if nI k = w ∨ w = 0 ∨ (w = 1 ∧ nI k = 3) ∨ (w = 2 ∧ nI k = 4) then 1 else 0)), h) := by
  have ia : ∀ j, j < 6 → am_ia G h (G 1) (nI j) := fun j hj => ⟨Or.inr ⟨E.1.1, by rw [E.1.2.1]⟩, by rw [E.1.2.1]; exact nI_in hj (by decide)⟩
  have step : ∀ k u, k < 6 → u < 6 → am_ev G (d + 2) 39 7 [some (.ref b), some (.int w), some (.int (nI k)), some (.int (nI u))] [] h = if nI k = w then some (some (.int 1), h) else am_ev G (d + 2) 39 7 [some (.ref b), some (.int w), some (.int (am_KA k)), some (.int (nI (u + 1)))] [] h := by
    intro k u hk hu
    have hlt : ¬ (6 : Int32) ≤ nI u := nI_ge (b := 6) (by omega) (by decide)
    have h1 : (0 : Int32) ≤ nI k ∧ nI k ≤ 5 := ⟨nI_pos' (by omega), nI_le (b := 5) (by omega) (by decide)⟩
    rw [e_39_7]
    by_cases hw : nI k = w
    · simp only [n_39, e_39_0, e_39_1, f_39_4, e_39_5, f_39_6, e_39_8, e_39_10, e_39_13, e_39_14, e_39_17, e_39_20, e_39_21, e_39_22, e_39_25, f_39_26, e_39_27, e_39_30, e_39_31, f_39_32, f_39_33, e_39_36, e_39_39, f_39_40, Option.bind_some, Option.toList_some, Option.toList_none, List.cons_append, List.nil_append, am_k1_i, am_k1_r, am_k1_u, am_k1_n, am_bo0, am_bo1, am_boi, am_ev_tb, am_tb_nil, am_rfs, am_rfn, eq_self, and_self, if_true, if_false, show ¬ (1 : Int32) = 0 from by decide, show ¬ (0 : Int32) = 1 from by decide, not_true, not_false_eq_true, and_true, true_and, and_false, false_and, or_true, true_or, or_false, false_or, hlt, c_isKind, h1, hw]
      rw [hw] at h1
      simp only [h1, n_39, e_39_0, e_39_1, f_39_4, e_39_5, f_39_6, e_39_8, e_39_10, e_39_13, e_39_14, e_39_17, e_39_20, e_39_21, e_39_22, e_39_25, f_39_26, e_39_27, e_39_30, e_39_31, f_39_32, f_39_33, e_39_36, e_39_39, f_39_40, Option.bind_some, Option.toList_some, Option.toList_none, List.cons_append, List.nil_append, am_k1_i, am_k1_r, am_k1_u, am_k1_n, am_bo0, am_bo1, am_boi, am_ev_tb, am_tb_nil, am_rfs, am_rfn, eq_self, and_self, if_true, if_false, show ¬ (1 : Int32) = 0 from by decide, show ¬ (0 : Int32) = 1 from by decide, not_true, not_false_eq_true, and_true, true_and, and_false, false_and, or_true, true_or, or_false, false_or]
    · simp only [n_39, e_39_0, e_39_1, f_39_4, e_39_5, f_39_6, e_39_8, e_39_10, e_39_13, e_39_14, e_39_17, e_39_20, e_39_21, e_39_22, e_39_25, f_39_26, e_39_27, e_39_30, e_39_31, f_39_32, f_39_33, e_39_36, e_39_39, f_39_40, Option.bind_some, Option.toList_some, Option.toList_none, List.cons_append, List.nil_append, am_k1_i, am_k1_r, am_k1_u, am_k1_n, am_bo0, am_bo1, am_boi, am_ev_tb, am_tb_nil, am_rfs, am_rfn, eq_self, and_self, if_true, if_false, show ¬ (1 : Int32) = 0 from by decide, show ¬ (0 : Int32) = 1 from by decide, not_true, not_false_eq_true, and_true, true_and, and_false, false_and, or_true, true_or, or_false, false_or, hlt, c_isKind, h1, hw, ia k hk, am_cl (show k < 2147483648 by omega), E.1.2.2, nI_1]
  have stop : ∀ u, u < 6 → am_ev G (d + 2) 39 7 [some (.ref b), some (.int w), some (.int (-1000000005)), some (.int (nI u))] [] h = some (some (.int 0), h) := by
    intro u hu
    have hlt : ¬ (6 : Int32) ≤ nI u := nI_ge (b := 6) (by omega) (by decide)
    rw [e_39_7]
    simp only [n_39, e_39_0, e_39_1, f_39_4, e_39_5, f_39_6, e_39_8, e_39_10, e_39_13, e_39_14, e_39_17, e_39_20, e_39_21, e_39_22, e_39_25, f_39_26, e_39_27, e_39_30, e_39_31, f_39_32, f_39_33, e_39_36, e_39_39, f_39_40, Option.bind_some, Option.toList_some, Option.toList_none, List.cons_append, List.nil_append, am_k1_i, am_k1_r, am_k1_u, am_k1_n, am_bo0, am_bo1, am_boi, am_ev_tb, am_tb_nil, am_rfs, am_rfn, eq_self, and_self, if_true, if_false, show ¬ (1 : Int32) = 0 from by decide, show ¬ (0 : Int32) = 1 from by decide, not_true, not_false_eq_true, and_true, true_and, and_false, false_and, or_true, true_or, or_false, false_or, hlt, c_isKind, show ¬ ((0 : Int32) ≤ -1000000005 ∧ (-1000000005 : Int32) ≤ 5) from by decide]
  have s0 : ∀ u, u + 1 < 6 → am_ev G (d + 2) 39 7 [some (.ref b), some (.int w), some (.int 0), some (.int (nI u))] [] h = if (0 : Int32) = w then some (some (.int 1), h) else some (some (.int 0), h) := fun u hu => by
    have := step 0 u (by omega) (by omega)
    rw [show am_KA 0 = -1000000005 from rfl, stop (u + 1) hu] at this
    exact this
  have e0 : am_evm G (d + 2) 39 [.ref b, .int w] h = am_ev G (d + 2) 39 7 [some (.ref b), some (.int w), some (.int (nI k)), some (.int (nI 0))] [] h := by
    simp only [n_39, e_39_0, e_39_1, f_39_4, e_39_5, f_39_6, e_39_8, e_39_10, e_39_13, e_39_14, e_39_17, e_39_20, e_39_21, e_39_22, e_39_25, f_39_26, e_39_27, e_39_30, e_39_31, f_39_32, f_39_33, e_39_36, e_39_39, f_39_40, Option.bind_some, Option.toList_some, Option.toList_none, List.cons_append, List.nil_append, am_k1_i, am_k1_r, am_k1_u, am_k1_n, am_bo0, am_bo1, am_boi, am_ev_tb, am_tb_nil, am_rfs, am_rfn, eq_self, ho, hkind]
    rfl
  rw [e0]
  rcases (show k = 0 ∨ k = 1 ∨ k = 2 ∨ k = 3 ∨ k = 4 ∨ k = 5 by omega) with rfl | rfl | rfl | rfl | rfl | rfl
  · refine (s0 0 (by omega)).trans ?_
    by_cases h1 : (0 : Int32) = w
    · subst h1; simp
    · have : ¬ w = 0 := fun z => h1 z.symm
      rw [if_neg h1, if_neg (by rintro (z | z | ⟨_, z⟩ | ⟨_, z⟩); exact h1 z; exact this z; exact absurd z (by decide); exact absurd z (by decide))]
  · rw [step 1 0 (by omega) (by omega), show am_KA 1 = 0 from rfl, s0 1 (by omega)]
    by_cases h0 : nI 1 = w
    · rw [if_pos h0, if_pos (Or.inl h0)]
    · rw [if_neg h0]
      by_cases h1 : (0 : Int32) = w
      · rw [if_pos h1, if_pos (Or.inr (Or.inl h1.symm))]
      · rw [if_neg h1, if_neg (by rintro (z | z | ⟨_, z⟩ | ⟨_, z⟩); exact h0 z; exact h1 z.symm; exact absurd z (by decide); exact absurd z (by decide))]
  · rw [step 2 0 (by omega) (by omega), show am_KA 2 = 0 from rfl, s0 1 (by omega)]
    by_cases h0 : nI 2 = w
    · rw [if_pos h0, if_pos (Or.inl h0)]
    · rw [if_neg h0]
      by_cases h1 : (0 : Int32) = w
      · rw [if_pos h1, if_pos (Or.inr (Or.inl h1.symm))]
      · rw [if_neg h1, if_neg (by rintro (z | z | ⟨_, z⟩ | ⟨_, z⟩); exact h0 z; exact h1 z.symm; exact absurd z (by decide); exact absurd z (by decide))]
  · have s1 := step 1 1 (by omega) (by omega)
    rw [show nI 1 = (1 : Int32) from rfl, show am_KA 1 = 0 from rfl, s0 2 (by omega)] at s1
    rw [step 3 0 (by omega) (by omega), show am_KA 3 = 1 from rfl]
    refine Eq.trans (congrArg (fun z => if nI 3 = w then some (some (.int 1), h) else z) s1) ?_
    show (if nI 3 = w then _ else _) = _
    by_cases h0 : nI 3 = w
    · rw [if_pos h0, if_pos (Or.inl h0)]
    · rw [if_neg h0]
      by_cases h2 : (1 : Int32) = w
      · rw [if_pos h2, if_pos (Or.inr (Or.inr (Or.inl ⟨h2.symm, rfl⟩)))]
      · rw [if_neg h2]
        by_cases h1 : (0 : Int32) = w
        · rw [if_pos h1, if_pos (Or.inr (Or.inl h1.symm))]
        · rw [if_neg h1, if_neg (by rintro (z | z | ⟨z, _⟩ | ⟨_, z⟩); exact h0 z; exact h1 z.symm; exact h2 z.symm; exact absurd z (by decide))]
  · have s1 := step 2 1 (by omega) (by omega)
    rw [show am_KA 2 = 0 from rfl, s0 2 (by omega), show nI 2 = (2 : Int32) from rfl] at s1
    rw [step 4 0 (by omega) (by omega), show am_KA 4 = 2 from rfl]
    refine Eq.trans (congrArg (fun z => if nI 4 = w then some (some (.int 1), h) else z) s1) ?_
    show (if nI 4 = w then _ else _) = _
    by_cases h0 : nI 4 = w
    · rw [if_pos h0, if_pos (Or.inl h0)]
    · rw [if_neg h0]
      by_cases h2 : (2 : Int32) = w
      · rw [if_pos h2, if_pos (Or.inr (Or.inr (Or.inr ⟨h2.symm, rfl⟩)))]
      · rw [if_neg h2]
        by_cases h1 : (0 : Int32) = w
        · rw [if_pos h1, if_pos (Or.inr (Or.inl h1.symm))]
        · rw [if_neg h1, if_neg (by rintro (z | z | ⟨_, z⟩ | ⟨z, _⟩); exact h0 z; exact h1 z.symm; exact absurd z (by decide); exact h2 z.symm)]
  · rw [step 5 0 (by omega) (by omega), show am_KA 5 = 0 from rfl, s0 1 (by omega)]
    by_cases h0 : nI 5 = w
    · rw [if_pos h0, if_pos (Or.inl h0)]
    · rw [if_neg h0]
      by_cases h1 : (0 : Int32) = w
      · rw [if_pos h1, if_pos (Or.inr (Or.inl h1.symm))]
      · rw [if_neg h1, if_neg (by rintro (z | z | ⟨_, z⟩ | ⟨_, z⟩); exact h0 z; exact h1 z.symm; exact absurd z (by decide); exact absurd z (by decide))]
end CA
