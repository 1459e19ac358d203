/-! sheets: on both sides -/
theorem pk_uself {σ : Nat → Int32} {k : Nat} : upd σ k (σ k) = σ := by
  funext j
  by_cases e : j = k
  · subst e; rw [pk_us]
  · rw [pk_un e]
section SG
variable {G : Nat → Nat} {h h3 : am_H} {o m d : Nat} {S : Nat → Prop}
theorem c_beginS_l {x y : Nat} {s w : Int32} {g : Nat → Int32} (hx : am_ob G h x 4) (hr : am_r h x 0 = some y) (hy : (G 0 ≤ y ∧ y < am_top h) ∧ am_sh h y = (20, 24)) : ∀ j c, c + j = 24 → am_ev G d 61 18 [some (.ref x), some (.int s), some (.int w), some (.int (nI c))] [] (am_pa h y (mt_fill g 0 c)) = some (none, am_pa h y (mt_fill g 0 24)) := by
  intro j
  induction j with
  | zero =>
    intro c hc
    obtain rfl : c = 24 := by omega
    rw [e_61_18]
    simp only [n_61, e_61_0, e_61_1, e_61_2, e_61_5, e_61_6, e_61_7, e_61_8, e_61_10, e_61_13, e_61_16, f_61_17, e_61_19, e_61_21, e_61_24, e_61_25, e_61_28, e_61_29, e_61_30, f_61_31, e_61_34, e_61_37, Option.bind_some, Option.toList_some, Option.toList_none, List.cons_append, List.nil_append, am_k1_i, am_k1_r, am_k1_u, am_k1_n, am_bo0, am_bo1, am_boi, am_ev_tb, am_tb_nil, am_rfs, am_rfn, eq_self, and_self, if_true, if_false, show ¬ (1 : Int32) = 0 from by decide, show ¬ (0 : Int32) = 1 from by decide, not_true, not_false_eq_true, and_true, true_and, and_false, false_and, or_true, true_or, or_false, false_or, show (24 : Int32) ≤ nI 24 from by decide]
  | succ j ih =>
    intro c hc
    have hlt : ¬ (24 : Int32) ≤ nI c := nI_ge (b := 24) (by omega) (by decide)
    have hx2 : am_ob G (am_pa h y (mt_fill g 0 c)) x 4 := hx
    have hr2 : am_r (am_pa h y (mt_fill g 0 c)) x 0 = some y := hr
    have hw : am_iw G (am_pa h y (mt_fill g 0 c)) y (nI c) := am_iw_of (h := am_pa h y (mt_fill g 0 c)) hy.1 hy.2 (show c < 24 by omega) (by omega)
    have e := mt_fill_s g 0 c
    rw [Nat.zero_add] at e
    rw [e_61_18]
    simp only [n_61, e_61_0, e_61_1, e_61_2, e_61_5, e_61_6, e_61_7, e_61_8, e_61_10, e_61_13, e_61_16, f_61_17, e_61_19, e_61_21, e_61_24, e_61_25, e_61_28, e_61_29, e_61_30, f_61_31, e_61_34, e_61_37, Option.bind_some, Option.toList_some, Option.toList_none, List.cons_append, List.nil_append, am_k1_i, am_k1_r, am_k1_u, am_k1_n, am_bo0, am_bo1, am_boi, am_ev_tb, am_tb_nil, am_rfs, am_rfn, eq_self, and_self, if_true, if_false, show ¬ (1 : Int32) = 0 from by decide, show ¬ (0 : Int32) = 1 from by decide, not_true, not_false_eq_true, and_true, true_and, and_false, false_and, or_true, true_or, or_false, false_or, hlt, hx2, hr2, hw, am_cl (show c < 2147483648 by omega), nI_1]
    rw [am_pi_pa, am_pa_i, if_pos rfl, am_pa_pa, e]
    exact ih (c + 1) (by omega)
theorem c_beginS {x y z : Nat} {s : Int32} (hx : am_ob G h x 4) (hr : am_r h x 0 = some y) (hy : (G 0 ≤ y ∧ y < am_top h) ∧ am_sh h y = (20, 24)) (hne : y ≠ x) (hz : z ≤ 24) : am_evm G (d + 2) 61 [.ref x, .int s, .int (nI z)] h = some (none, am_pa (am_pi (am_pi h x 1 s) x 2 (nI z)) y (mt_fill (am_i h y) 0 24)) := by
  have lp := c_beginS_l (d := d + 2) (s := s) (w := nI z) (h := am_pi (am_pi h x 1 s) x 2 (nI z)) (g := am_i h y) hx hr hy 24 0 (by omega)
  rw [mt_fill_0, am_pa_self2 (show am_i (am_pi (am_pi h x 1 s) x 2 (nI z)) y = am_i h y from by rw [(am_pi_o y hne).1, (am_pi_o y hne).1])] at lp
  have hh : mt_held (nI z) 24 = nI z := by
    unfold mt_held
    rw [if_neg (nI_pos (by omega)), if_neg (show ¬ (24 : Int32) < nI z from nI_nlt (a := 24) hz (by decide))]
  rw [← lp]
  simp only [n_61, e_61_0, e_61_1, e_61_2, e_61_5, e_61_6, e_61_7, e_61_8, e_61_10, e_61_13, e_61_16, f_61_17, e_61_19, e_61_21, e_61_24, e_61_25, e_61_28, e_61_29, e_61_30, f_61_31, e_61_34, e_61_37, Option.bind_some, Option.toList_some, Option.toList_none, List.cons_append, List.nil_append, am_k1_i, am_k1_r, am_k1_u, am_k1_n, am_bo0, am_bo1, am_boi, am_ev_tb, am_tb_nil, am_rfs, am_rfn, eq_self, and_self, if_true, if_false, show ¬ (1 : Int32) = 0 from by decide, show ¬ (0 : Int32) = 1 from by decide, not_true, not_false_eq_true, and_true, true_and, and_false, false_and, or_true, true_or, or_false, false_or, hx, am_ob_pi, c_held3 (show (0 : Int32) ≤ 24 from by decide), hh]
  rfl
theorem iv_H.up (H : iv_H h o m) {i : Nat} (hr : ∀ k, k < 4 → k ≠ i → am_i h3 (o + 89 + 2 * k) = am_i h (o + 89 + 2 * k) ∧ am_i h3 (o + 90 + 2 * k) = am_i h (o + 90 + 2 * k) ∧ am_i h3 (m + 4) k = am_i h (m + 4) k ∧ am_i h3 (m + 5) k = am_i h (m + 5) k ∧ ∀ j, j < 24 → am_i h3 (m + 6) (24 * k + j) = am_i h (m + 6) (24 * k + j)) (hi : am_i h3 (o + 89 + 2 * i) 1 = am_i h3 (m + 4) i ∧ (am_i h3 (m + 4) i = -1 ∨ am_i h3 (m + 4) i = 0 ∨ am_i h3 (m + 4) i = 1) ∧ ∃ z, z ≤ 24 ∧ am_i h3 (o + 89 + 2 * i) 2 = nI z ∧ am_i h3 (m + 5) i = nI z ∧ ∀ k, k < 24 → am_i h3 (o + 90 + 2 * i) k = am_i h3 (m + 6) (24 * i + k)) : iv_H h3 o m := by
  intro k hk
  by_cases e : k = i
  · subst e; exact hi
  · obtain ⟨a1, a2, a3, a4, a5⟩ := hr k hk e
    obtain ⟨b1, b2, z, b3, b4, b5, b6⟩ := H k hk
    refine ⟨by rw [a1, a3]; exact b1, by rw [a3]; exact b2, z, b3, by rw [a1]; exact b4, by rw [a4]; exact b5, fun j hj => ?_⟩
    rw [a2, a5 j hj]
    exact b6 j hj
theorem mt_n3 {s : Int32} (h : -1 ≤ s ∧ s ≤ 1) : s = -1 ∨ s = 0 ∨ s = 1 := by
  by_cases h0 : 0 ≤ s
  · rcases m_01.mp ⟨h0, h.2⟩ with e | e
    · exact Or.inr (Or.inl e)
    · exact Or.inr (Or.inr e)
  · left
    have h1 := Int32.le_iff_toInt_le.mp h.1
    have h2 : s.toInt < 0 := by
      have := Int32.not_le.mp h0
      exact Int32.lt_iff_toInt_lt.mp this
    apply Int32.toInt_inj.mp
    have e1 : (-1 : Int32).toInt = -1 := by decide
    rw [e1] at h1 ⊢
    omega
theorem s_sheet (i : iv G h o m) {v s w : Int32} : sm G h o m d 102 209 [.int v, .int s, .int w] := by
  have lm := i.1.2.1
  have lo := i.1.2.2.1
  have hm : m = o + 117 := i.1.1.2
  by_cases h1 : 0 ≤ v ∧ v ≤ 3
  · by_cases h2 : -1 ≤ s ∧ s ≤ 1
    · have key : ∀ z : Nat, z ≤ 24 → ((s < 0 ∧ nI z = 0) ∨ (0 ≤ s ∧ w = nI z ∧ 0 ≤ nI z ∧ nI z ≤ 24)) → (if s = -1 then (0 : Int32) else w) = nI z → sm G h o m d 102 209 [.int v, .int s, .int w] := by
        intro z hz24 hz hpl
        obtain ⟨k, hk, rfl⟩ := mt_ix4.mp h1
        have hy : (G 0 ≤ o + 90 + 2 * k ∧ o + 90 + 2 * k < am_top h) ∧ am_sh h (o + 90 + 2 * k) = (20, 24) := ⟨by rw [Nat.add_assoc]; exact co_own lo (by omega), (lo.2.2.2.2.2.1 k hk).2.2.2⟩
        have eb := c_beginS (d := d + 197) (s := s) (co_s3 lo hk) (co_s4 lo hk) hy (by omega) hz24
        have f1 : am_fr (fun b => b = o + 89 + 2 * k ∨ b = o + 90 + 2 * k ∨ b = m + 4 ∨ b = m + 5 ∨ b = m + 6) h (am_pa (am_pi (am_pi h (o + 89 + 2 * k) 1 s) (o + 89 + 2 * k) 2 (nI z)) (o + 90 + 2 * k) (mt_fill (am_i h (o + 90 + 2 * k)) 0 24)) := ((am_fr.pi (Or.inl rfl)).tr (am_fr.pi (Or.inl rfl))).tr (am_fr.pa (Or.inr (Or.inl rfl)))
        have hle : nI z ≤ 24 := nI_le (b := 24) hz24 (by decide)
        have h0z : 0 ≤ nI z := nI_pos' (by omega)
        have e1 : am_evm G (d + 200) 102 [.ref o, .int (nI k), .int s, .int w] h = some (some (.int (nI z)), (am_pa (am_pi (am_pi h (o + 89 + 2 * k) 1 s) (o + 89 + 2 * k) 2 (nI z)) (o + 90 + 2 * k) (mt_fill (am_i h (o + 90 + 2 * k)) 0 24))) := by
          by_cases hs : s = -1
          · rw [if_pos hs] at hpl
            subst hs
            obtain rfl : z = 0 := (nI_eq (b := 0) (by omega) (by decide)).mp hpl.symm
            have eb2 : am_evm G (d + 199) 61 [.ref (o + 89 + 2 * k), .int (-1), .int 0] h = _ := eb
            simp only [n_102, e_102_0, e_102_1, e_102_4, e_102_7, e_102_8, e_102_9, e_102_10, e_102_13, e_102_16, e_102_18, e_102_19, e_102_20, e_102_21, e_102_24, e_102_25, f_102_29, e_102_31, e_102_33, e_102_35, e_102_38, e_102_40, e_102_41, e_102_43, e_102_46, e_102_49, e_102_50, e_102_51, e_102_54, e_102_55, e_102_56, e_102_57, e_102_59, e_102_62, e_102_64, e_102_28, Option.bind_some, Option.toList_some, Option.toList_none, List.cons_append, List.nil_append, am_k1_i, am_k1_r, am_k1_u, am_k1_n, am_bo0, am_bo1, am_boi, am_ev_tb, am_tb_nil, am_rfs, am_rfn, eq_self, and_self, if_true, if_false, show ¬ (1 : Int32) = 0 from by decide, show ¬ (0 : Int32) = 1 from by decide, not_true, not_false_eq_true, and_true, true_and, and_false, false_and, or_true, true_or, or_false, false_or, c_isSheet, h1, c_within, show (-1 : Int32) ≤ -1 ∧ (-1 : Int32) ≤ 1 from by decide, show (0 : Int32) ≤ 24 from by decide, show (0 : Int32) ≤ 0 from by decide, co_ob lo, co_r5 lo, co_s1 lo hk, am_cl (show k < 2147483648 by omega), co_s2 lo hk, co_s3 lo hk, eb2]
            rfl
          · rw [if_neg hs] at hpl
            subst hpl
            simp only [n_102, e_102_0, e_102_1, e_102_4, e_102_7, e_102_8, e_102_9, e_102_10, e_102_13, e_102_16, e_102_18, e_102_19, e_102_20, e_102_21, e_102_24, e_102_25, f_102_29, e_102_31, e_102_33, e_102_35, e_102_38, e_102_40, e_102_41, e_102_43, e_102_46, e_102_49, e_102_50, e_102_51, e_102_54, e_102_55, e_102_56, e_102_57, e_102_59, e_102_62, e_102_64, e_102_28, Option.bind_some, Option.toList_some, Option.toList_none, List.cons_append, List.nil_append, am_k1_i, am_k1_r, am_k1_u, am_k1_n, am_bo0, am_bo1, am_boi, am_ev_tb, am_tb_nil, am_rfs, am_rfn, eq_self, and_self, if_true, if_false, show ¬ (1 : Int32) = 0 from by decide, show ¬ (0 : Int32) = 1 from by decide, not_true, not_false_eq_true, and_true, true_and, and_false, false_and, or_true, true_or, or_false, false_or, c_isSheet, h1, c_within, h2, hs, hle, h0z, co_ob lo, co_r5 lo, co_s1 lo hk, am_cl (show k < 2147483648 by omega), co_s2 lo hk, co_s3 lo hk, eb]
        have e2 := m_sheet (d := d + 198) (lm.fr f1) hk (w := w) h2 hz
        have f2 := f1.tr (((am_fr.pi (S := fun b => b = o + 89 + 2 * k ∨ b = o + 90 + 2 * k ∨ b = m + 4 ∨ b = m + 5 ∨ b = m + 6) (k := k) (v := s) (Or.inr (Or.inr (Or.inl rfl)))).tr (am_fr.pi (k := k) (v := nI z) (Or.inr (Or.inr (Or.inr (Or.inl rfl)))))).tr (am_fr.pa (g := mt_fill (am_i (am_pa (am_pi (am_pi h (o + 89 + 2 * k) 1 s) (o + 89 + 2 * k) 2 (nI z)) (o + 90 + 2 * k) (mt_fill (am_i h (o + 90 + 2 * k)) 0 24)) (m + 6)) (24 * k) 24) (Or.inr (Or.inr (Or.inr (Or.inr rfl))))))
        refine ⟨_, _, _, e1, e2, ?_, by rw [f2.1]; omega, by rw [f2.2.1]; omega⟩
        refine i.gen f2 (fun b hb => by omega) (by rw [f2.i1 (by omega)]) (by rw [f2.i1 (by omega)]) (i.2.2.2.1.fr f2 (by omega) (by omega) (by omega) (by omega)) ?_ (i.2.2.2.2.2.1.fr f2 (fun k h1 h2 => by omega) (fun k h1 h2 => by omega)) (i.2.2.2.2.2.2.fr f2 (by omega) (by omega) (by omega) (by omega))
        refine i.2.2.2.2.1.up (i := k) (fun q hq hne => ⟨f2.i1 (by omega), f2.i1 (by omega), ?_, ?_, fun j hj => ?_⟩) ⟨?_, ?_, z, hz24, ?_, ?_, fun j hj => ?_⟩
        · rw [am_pa_i, if_neg (by omega), am_pi_i, if_neg (by omega), am_pi_i, if_neg (by omega), am_pa_i, if_neg (by omega), am_pi_i, if_neg (by omega), am_pi_i, if_neg (by omega)]
        · rw [am_pa_i, if_neg (by omega), am_pi_i, if_neg (by omega), am_pi_i, if_neg (by omega), am_pa_i, if_neg (by omega), am_pi_i, if_neg (by omega), am_pi_i, if_neg (by omega)]
        · rw [am_pa_i, if_pos rfl]
          show (if 24 * k ≤ 24 * q + j ∧ 24 * q + j < 24 * k + 24 then 0 else _) = _
          rw [if_neg (by omega), am_pa_i, if_neg (by omega), am_pi_i, if_neg (by omega), am_pi_i, if_neg (by omega)]
        · rw [am_pa_i, if_neg (by omega), am_pi_i, if_neg (by omega), am_pi_i, if_neg (by omega), am_pa_i, if_neg (by omega), am_pi_i, if_neg (by omega), am_pi_i, if_pos ⟨rfl, rfl⟩, am_pa_i, if_neg (by omega), am_pi_i, if_neg (by omega), am_pi_i, if_pos ⟨rfl, rfl⟩]
        · rw [am_pa_i, if_neg (by omega), am_pi_i, if_neg (by omega), am_pi_i, if_pos ⟨rfl, rfl⟩]
          exact mt_n3 h2
        · rw [am_pa_i, if_neg (by omega), am_pi_i, if_neg (by omega), am_pi_i, if_neg (by omega), am_pa_i, if_neg (by omega), am_pi_i, if_pos ⟨rfl, rfl⟩]
        · rw [am_pa_i, if_neg (by omega), am_pi_i, if_pos ⟨rfl, rfl⟩]
        · rw [am_pa_i, if_neg (by omega), am_pi_i, if_neg (by omega), am_pi_i, if_neg (by omega), am_pa_i, if_pos rfl, am_pa_i, if_pos rfl]
          show (if _ then (0 : Int32) else _) = (if _ then (0 : Int32) else _)
          rw [if_pos (by omega), if_pos (by omega)]
      by_cases hs : s = -1
      · exact key 0 (by omega) (Or.inl ⟨by rw [hs]; decide, rfl⟩) (by rw [if_pos hs]; rfl)
      · have hs0 : 0 ≤ s := by
          rcases mt_n3 h2 with e | e | e
          · exact absurd e hs
          · rw [e]; decide
          · rw [e]; decide
        by_cases h3 : w ≤ 24
        · by_cases h4 : 0 ≤ w
          · obtain ⟨z, hz, rfl⟩ := (mt_ix (p := w) (c := 25) (by omega)).mp ⟨h4, h3⟩
            exact key z (by omega) (Or.inr ⟨hs0, rfl, h4, h3⟩) (by rw [if_neg hs])
          · refine sm_same i ?_ (m_sheet1 h1 h2 hs0 (Int32.not_le.mp h4))
            simp only [n_102, e_102_0, e_102_1, e_102_4, e_102_7, e_102_8, e_102_9, e_102_10, e_102_13, e_102_16, e_102_18, e_102_19, e_102_20, e_102_21, e_102_24, e_102_25, f_102_29, e_102_31, e_102_33, e_102_35, e_102_38, e_102_40, e_102_41, e_102_43, e_102_46, e_102_49, e_102_50, e_102_51, e_102_54, e_102_55, e_102_56, e_102_57, e_102_59, e_102_62, e_102_64, e_102_28, Option.bind_some, Option.toList_some, Option.toList_none, List.cons_append, List.nil_append, am_k1_i, am_k1_r, am_k1_u, am_k1_n, am_bo0, am_bo1, am_boi, am_ev_tb, am_tb_nil, am_rfs, am_rfn, eq_self, and_self, if_true, if_false, show ¬ (1 : Int32) = 0 from by decide, show ¬ (0 : Int32) = 1 from by decide, not_true, not_false_eq_true, and_true, true_and, and_false, false_and, or_true, true_or, or_false, false_or, c_isSheet, h1, c_within, h2, hs, h3, h4]
        · refine sm_same i ?_ (m_sheet0 (fun q => q.2.2 ⟨hs0, Int32.not_le.mp h3⟩))
          simp only [n_102, e_102_0, e_102_1, e_102_4, e_102_7, e_102_8, e_102_9, e_102_10, e_102_13, e_102_16, e_102_18, e_102_19, e_102_20, e_102_21, e_102_24, e_102_25, f_102_29, e_102_31, e_102_33, e_102_35, e_102_38, e_102_40, e_102_41, e_102_43, e_102_46, e_102_49, e_102_50, e_102_51, e_102_54, e_102_55, e_102_56, e_102_57, e_102_59, e_102_62, e_102_64, e_102_28, Option.bind_some, Option.toList_some, Option.toList_none, List.cons_append, List.nil_append, am_k1_i, am_k1_r, am_k1_u, am_k1_n, am_bo0, am_bo1, am_boi, am_ev_tb, am_tb_nil, am_rfs, am_rfn, eq_self, and_self, if_true, if_false, show ¬ (1 : Int32) = 0 from by decide, show ¬ (0 : Int32) = 1 from by decide, not_true, not_false_eq_true, and_true, true_and, and_false, false_and, or_true, true_or, or_false, false_or, c_isSheet, h1, c_within, h2, hs, h3]
    · refine sm_same i ?_ (m_sheet0 (fun q => h2 q.2.1))
      simp only [n_102, e_102_0, e_102_1, e_102_4, e_102_7, e_102_8, e_102_9, e_102_10, e_102_13, e_102_16, e_102_18, e_102_19, e_102_20, e_102_21, e_102_24, e_102_25, f_102_29, e_102_31, e_102_33, e_102_35, e_102_38, e_102_40, e_102_41, e_102_43, e_102_46, e_102_49, e_102_50, e_102_51, e_102_54, e_102_55, e_102_56, e_102_57, e_102_59, e_102_62, e_102_64, e_102_28, Option.bind_some, Option.toList_some, Option.toList_none, List.cons_append, List.nil_append, am_k1_i, am_k1_r, am_k1_u, am_k1_n, am_bo0, am_bo1, am_boi, am_ev_tb, am_tb_nil, am_rfs, am_rfn, eq_self, and_self, if_true, if_false, show ¬ (1 : Int32) = 0 from by decide, show ¬ (0 : Int32) = 1 from by decide, not_true, not_false_eq_true, and_true, true_and, and_false, false_and, or_true, true_or, or_false, false_or, c_isSheet, h1, c_within, h2]
  · refine sm_same i ?_ (m_sheet0 (fun q => h1 q.1))
    simp only [n_102, e_102_0, e_102_1, e_102_4, e_102_7, e_102_8, e_102_9, e_102_10, e_102_13, e_102_16, e_102_18, e_102_19, e_102_20, e_102_21, e_102_24, e_102_25, f_102_29, e_102_31, e_102_33, e_102_35, e_102_38, e_102_40, e_102_41, e_102_43, e_102_46, e_102_49, e_102_50, e_102_51, e_102_54, e_102_55, e_102_56, e_102_57, e_102_59, e_102_62, e_102_64, e_102_28, Option.bind_some, Option.toList_some, Option.toList_none, List.cons_append, List.nil_append, am_k1_i, am_k1_r, am_k1_u, am_k1_n, am_bo0, am_bo1, am_boi, am_ev_tb, am_tb_nil, am_rfs, am_rfn, eq_self, and_self, if_true, if_false, show ¬ (1 : Int32) = 0 from by decide, show ¬ (0 : Int32) = 1 from by decide, not_true, not_false_eq_true, and_true, true_and, and_false, false_and, or_true, true_or, or_false, false_or, c_isSheet, h1]
theorem c_hasPlace {x : Nat} {v : Int32} (hx : am_ob G h x 4) : am_evm G (d + 1) 63 [.ref x, .int v] h = some (some (.int (if 0 ≤ v ∧ v ≤ am_i h x 2 - 1 then 1 else 0)), h) := by
  simp only [n_63, e_63_0, e_63_1, e_63_2, e_63_3, e_63_6, e_63_7, e_63_8, f_63_11, Option.bind_some, Option.toList_some, Option.toList_none, List.cons_append, List.nil_append, am_k1_i, am_k1_r, am_k1_u, am_k1_n, am_bo0, am_bo1, am_boi, am_ev_tb, am_tb_nil, am_rfs, am_rfn, eq_self, and_self, if_true, if_false, show ¬ (1 : Int32) = 0 from by decide, show ¬ (0 : Int32) = 1 from by decide, not_true, not_false_eq_true, and_true, true_and, and_false, false_and, or_true, true_or, or_false, false_or, hx, c_within]
end SG
