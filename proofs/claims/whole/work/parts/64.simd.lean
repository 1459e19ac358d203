/-! what comes out, on both sides -/
section SD
variable {G : Nat → Nat} {h : am_H} {o m d : Nat}
theorem s_fewest (i : iv G h o m) {p w : Int32} : sm G h o m d 91 178 [.int p, .int w] := by
  have lm := i.1.2.1
  have lo := i.1.2.2.1
  obtain ⟨n, nd, nt, hs, r⟩ := i.2.1
  have hnd := hs.1.2.1.2
  by_cases h1 : 0 ≤ p ∧ p ≤ am_i h (m + 1) 1 - 1
  · by_cases h2 : 0 ≤ w ∧ w ≤ 1
    · obtain ⟨k, hk, rfl⟩ := i.nd hs h1
      obtain ⟨g, e2⟩ := m_fewest (d := d + 197) lm rfl hs hk h2
      obtain ⟨v, e, hv⟩ := c_fewestFor (d := d + 196) r hs hk
      rcases hv with ⟨rfl, hf⟩ | ⟨hf, hv0, hv12⟩
      · rw [hf] at e2
        refine sm_read i ?_ e2 am_fr.rf (am_fr.pa (Or.inl rfl))
        by_cases w1 : w = 1
        · simp only [n_91, e_91_0, e_91_1, e_91_4, e_91_5, e_91_8, e_91_11, e_91_12, e_91_13, e_91_14, e_91_17, e_91_20, e_91_22, e_91_23, e_91_24, e_91_27, e_91_28, e_91_31, e_91_34, e_91_35, e_91_36, f_91_39, e_91_40, e_91_41, e_91_42, e_91_45, e_91_46, e_91_48, e_91_51, e_91_52, e_91_59, e_91_55, e_91_56, Option.bind_some, Option.toList_some, Option.toList_none, List.cons_append, List.nil_append, am_k1_i, am_k1_r, am_k1_u, am_k1_n, am_bo0, am_bo1, am_boi, am_ev_tb, am_tb_nil, am_rfs, am_rfn, eq_self, and_self, if_true, if_false, show ¬ (1 : Int32) = 0 from by decide, show ¬ (0 : Int32) = 1 from by decide, not_true, not_false_eq_true, and_true, true_and, and_false, false_and, or_true, true_or, or_false, false_or, co_ob lo, co_r0 lo, ha_ob r.1, c_hasDeed r.1, r.2.1.2.1, h1, c_within, h2, ha_r1 r.1, ha_d1 r.1 (show k < 8 by omega), am_cl (show k < 2147483648 by omega), ha_d2 r.1 (show k < 8 by omega), e, w1, show (-1 : Int32) < 0 from by decide]
          subst w1
          simp only [n_91, e_91_0, e_91_1, e_91_4, e_91_5, e_91_8, e_91_11, e_91_12, e_91_13, e_91_14, e_91_17, e_91_20, e_91_22, e_91_23, e_91_24, e_91_27, e_91_28, e_91_31, e_91_34, e_91_35, e_91_36, f_91_39, e_91_40, e_91_41, e_91_42, e_91_45, e_91_46, e_91_48, e_91_51, e_91_52, e_91_59, e_91_55, e_91_56, Option.bind_some, Option.toList_some, Option.toList_none, List.cons_append, List.nil_append, am_k1_i, am_k1_r, am_k1_u, am_k1_n, am_bo0, am_bo1, am_boi, am_ev_tb, am_tb_nil, am_rfs, am_rfn, eq_self, and_self, if_true, if_false, show ¬ (1 : Int32) = 0 from by decide, show ¬ (0 : Int32) = 1 from by decide, not_true, not_false_eq_true, and_true, true_and, and_false, false_and, or_true, true_or, or_false, false_or, co_ob lo, co_r0 lo, ha_ob r.1, c_hasDeed r.1, r.2.1.2.1, h1, c_within, h2, ha_r1 r.1, ha_d1 r.1 (show k < 8 by omega), am_cl (show k < 2147483648 by omega), ha_d2 r.1 (show k < 8 by omega), e]
        · simp only [n_91, e_91_0, e_91_1, e_91_4, e_91_5, e_91_8, e_91_11, e_91_12, e_91_13, e_91_14, e_91_17, e_91_20, e_91_22, e_91_23, e_91_24, e_91_27, e_91_28, e_91_31, e_91_34, e_91_35, e_91_36, f_91_39, e_91_40, e_91_41, e_91_42, e_91_45, e_91_46, e_91_48, e_91_51, e_91_52, e_91_59, e_91_55, e_91_56, Option.bind_some, Option.toList_some, Option.toList_none, List.cons_append, List.nil_append, am_k1_i, am_k1_r, am_k1_u, am_k1_n, am_bo0, am_bo1, am_boi, am_ev_tb, am_tb_nil, am_rfs, am_rfn, eq_self, and_self, if_true, if_false, show ¬ (1 : Int32) = 0 from by decide, show ¬ (0 : Int32) = 1 from by decide, not_true, not_false_eq_true, and_true, true_and, and_false, false_and, or_true, true_or, or_false, false_or, co_ob lo, co_r0 lo, ha_ob r.1, c_hasDeed r.1, r.2.1.2.1, h1, c_within, h2, ha_r1 r.1, ha_d1 r.1 (show k < 8 by omega), am_cl (show k < 2147483648 by omega), ha_d2 r.1 (show k < 8 by omega), e, w1, show (-1 : Int32) < 0 from by decide]
      · rw [hf] at e2
        rw [if_neg hv0] at e2
        have hvn : ¬ v = -1000000005 := fun z => hv0 (by rw [z]; decide)
        refine sm_read i ?_ e2 am_fr.rf (am_fr.pa (Or.inl rfl))
        rcases m_01.mp h2 with rfl | rfl
        · simp only [n_91, e_91_0, e_91_1, e_91_4, e_91_5, e_91_8, e_91_11, e_91_12, e_91_13, e_91_14, e_91_17, e_91_20, e_91_22, e_91_23, e_91_24, e_91_27, e_91_28, e_91_31, e_91_34, e_91_35, e_91_36, f_91_39, e_91_40, e_91_41, e_91_42, e_91_45, e_91_46, e_91_48, e_91_51, e_91_52, e_91_59, e_91_55, e_91_56, Option.bind_some, Option.toList_some, Option.toList_none, List.cons_append, List.nil_append, am_k1_i, am_k1_r, am_k1_u, am_k1_n, am_bo0, am_bo1, am_boi, am_ev_tb, am_tb_nil, am_rfs, am_rfn, eq_self, and_self, if_true, if_false, show ¬ (1 : Int32) = 0 from by decide, show ¬ (0 : Int32) = 1 from by decide, not_true, not_false_eq_true, and_true, true_and, and_false, false_and, or_true, true_or, or_false, false_or, co_ob lo, co_r0 lo, ha_ob r.1, c_hasDeed r.1, r.2.1.2.1, h1, c_within, h2, ha_r1 r.1, ha_d1 r.1 (show k < 8 by omega), am_cl (show k < 2147483648 by omega), ha_d2 r.1 (show k < 8 by omega), e, hvn, c_bitCount hv12]
        · simp only [n_91, e_91_0, e_91_1, e_91_4, e_91_5, e_91_8, e_91_11, e_91_12, e_91_13, e_91_14, e_91_17, e_91_20, e_91_22, e_91_23, e_91_24, e_91_27, e_91_28, e_91_31, e_91_34, e_91_35, e_91_36, f_91_39, e_91_40, e_91_41, e_91_42, e_91_45, e_91_46, e_91_48, e_91_51, e_91_52, e_91_59, e_91_55, e_91_56, Option.bind_some, Option.toList_some, Option.toList_none, List.cons_append, List.nil_append, am_k1_i, am_k1_r, am_k1_u, am_k1_n, am_bo0, am_bo1, am_boi, am_ev_tb, am_tb_nil, am_rfs, am_rfn, eq_self, and_self, if_true, if_false, show ¬ (1 : Int32) = 0 from by decide, show ¬ (0 : Int32) = 1 from by decide, not_true, not_false_eq_true, and_true, true_and, and_false, false_and, or_true, true_or, or_false, false_or, co_ob lo, co_r0 lo, ha_ob r.1, c_hasDeed r.1, r.2.1.2.1, h1, c_within, h2, ha_r1 r.1, ha_d1 r.1 (show k < 8 by omega), am_cl (show k < 2147483648 by omega), ha_d2 r.1 (show k < 8 by omega), e]
    · refine sm_same i ?_ (m_fewest0 lm (fun z => h2 z.2))
      simp only [n_91, e_91_0, e_91_1, e_91_4, e_91_5, e_91_8, e_91_11, e_91_12, e_91_13, e_91_14, e_91_17, e_91_20, e_91_22, e_91_23, e_91_24, e_91_27, e_91_28, e_91_31, e_91_34, e_91_35, e_91_36, f_91_39, e_91_40, e_91_41, e_91_42, e_91_45, e_91_46, e_91_48, e_91_51, e_91_52, e_91_59, e_91_55, e_91_56, Option.bind_some, Option.toList_some, Option.toList_none, List.cons_append, List.nil_append, am_k1_i, am_k1_r, am_k1_u, am_k1_n, am_bo0, am_bo1, am_boi, am_ev_tb, am_tb_nil, am_rfs, am_rfn, eq_self, and_self, if_true, if_false, show ¬ (1 : Int32) = 0 from by decide, show ¬ (0 : Int32) = 1 from by decide, not_true, not_false_eq_true, and_true, true_and, and_false, false_and, or_true, true_or, or_false, false_or, co_ob lo, co_r0 lo, ha_ob r.1, c_hasDeed r.1, r.2.1.2.1, h1, c_within, h2]
  · refine sm_same i ?_ (m_fewest0 lm (fun z => h1 z.1))
    simp only [n_91, e_91_0, e_91_1, e_91_4, e_91_5, e_91_8, e_91_11, e_91_12, e_91_13, e_91_14, e_91_17, e_91_20, e_91_22, e_91_23, e_91_24, e_91_27, e_91_28, e_91_31, e_91_34, e_91_35, e_91_36, f_91_39, e_91_40, e_91_41, e_91_42, e_91_45, e_91_46, e_91_48, e_91_51, e_91_52, e_91_59, e_91_55, e_91_56, Option.bind_some, Option.toList_some, Option.toList_none, List.cons_append, List.nil_append, am_k1_i, am_k1_r, am_k1_u, am_k1_n, am_bo0, am_bo1, am_boi, am_ev_tb, am_tb_nil, am_rfs, am_rfn, eq_self, and_self, if_true, if_false, show ¬ (1 : Int32) = 0 from by decide, show ¬ (0 : Int32) = 1 from by decide, not_true, not_false_eq_true, and_true, true_and, and_false, false_and, or_true, true_or, or_false, false_or, co_ob lo, co_r0 lo, ha_ob r.1, c_hasDeed r.1, r.2.1.2.1, h1]
theorem c_silent_l {σ : Nat → Int32} {n nd nt : Nat} (lo : cl_Obj G h o) (r : cl_R G h (o + 1) σ n nd nt) (hs : mt_wf σ n nd nt) : ∀ j q, q + j = nd → am_ev G (d + 2) 92 10 [some (.ref o), some (.int (mt_silent σ q)), some (.int (nI q))] [] h = some (some (.int (mt_silent σ nd)), h) := by
  have hnd := hs.1.2.1.2
  intro j
  induction j with
  | zero =>
    intro q hq
    obtain rfl : q = nd := by omega
    rw [e_92_10]
    simp only [n_92, e_92_0, e_92_1, e_92_4, f_92_7, e_92_8, f_92_9, e_92_11, e_92_12, e_92_15, e_92_18, e_92_21, e_92_22, e_92_23, e_92_26, e_92_27, e_92_30, e_92_33, e_92_34, e_92_35, e_92_38, f_92_39, f_92_40, e_92_43, e_92_46, e_92_47, Option.bind_some, Option.toList_some, Option.toList_none, List.cons_append, List.nil_append, am_k1_i, am_k1_r, am_k1_u, am_k1_n, am_bo0, am_bo1, am_boi, am_ev_tb, am_tb_nil, am_rfs, am_rfn, eq_self, and_self, if_true, if_false, show ¬ (1 : Int32) = 0 from by decide, show ¬ (0 : Int32) = 1 from by decide, not_true, not_false_eq_true, and_true, true_and, and_false, false_and, or_true, true_or, or_false, false_or, co_ob lo, co_r0 lo, ha_ob r.1, r.2.1.2.1, hs.1.2.1.1, Int32.le_refl]
  | succ j ih =>
    intro q hq
    have hlt : ¬ nI nd ≤ nI q := nI_ge (by omega) (by omega)
    rw [← ih (q + 1) (by omega), e_92_10]
    simp only [n_92, e_92_0, e_92_1, e_92_4, f_92_7, e_92_8, f_92_9, e_92_11, e_92_12, e_92_15, e_92_18, e_92_21, e_92_22, e_92_23, e_92_26, e_92_27, e_92_30, e_92_33, e_92_34, e_92_35, e_92_38, f_92_39, f_92_40, e_92_43, e_92_46, e_92_47, Option.bind_some, Option.toList_some, Option.toList_none, List.cons_append, List.nil_append, am_k1_i, am_k1_r, am_k1_u, am_k1_n, am_bo0, am_bo1, am_boi, am_ev_tb, am_tb_nil, am_rfs, am_rfn, eq_self, and_self, if_true, if_false, show ¬ (1 : Int32) = 0 from by decide, show ¬ (0 : Int32) = 1 from by decide, not_true, not_false_eq_true, and_true, true_and, and_false, false_and, or_true, true_or, or_false, false_or, co_ob lo, co_r0 lo, ha_ob r.1, r.2.1.2.1, hs.1.2.1.1, hlt, ha_r1 r.1, ha_d1 r.1 (show q < 8 by omega), am_cl (show q < 2147483648 by omega), ha_d2 r.1 (show q < 8 by omega), c_leftOn3 r hnd (show q < nd by omega), nI_1]
    rfl
theorem s_silent (i : iv G h o m) : sm G h o m d 92 179 [] := by
  have lm := i.1.2.1
  have lo := i.1.2.2.1
  obtain ⟨n, nd, nt, hs, r⟩ := i.2.1
  refine sm_same i ?_ (m_silent lm hs.1.2.1.1 hs.1.2.1.2)
  rw [← c_silent_l (d := d + 198) lo r hs nd 0 (by omega)]
  simp only [n_92, e_92_0, e_92_1, e_92_4, f_92_7, e_92_8, f_92_9, e_92_11, e_92_12, e_92_15, e_92_18, e_92_21, e_92_22, e_92_23, e_92_26, e_92_27, e_92_30, e_92_33, e_92_34, e_92_35, e_92_38, f_92_39, f_92_40, e_92_43, e_92_46, e_92_47, Option.bind_some, Option.toList_some, Option.toList_none, List.cons_append, List.nil_append, am_k1_i, am_k1_r, am_k1_u, am_k1_n, am_bo0, am_bo1, am_boi, am_ev_tb, am_tb_nil, am_rfs, am_rfn, eq_self, and_self, if_true, if_false, show ¬ (1 : Int32) = 0 from by decide, show ¬ (0 : Int32) = 1 from by decide, not_true, not_false_eq_true, and_true, true_and, and_false, false_and, or_true, true_or, or_false, false_or, co_ob lo, co_r0 lo, ha_ob r.1, c_everyone3 r]
  rfl
theorem s_meant (i : iv G h o m) {p : Int32} : sm G h o m d 93 180 [.int p] := by
  have lm := i.1.2.1
  have lo := i.1.2.2.1
  obtain ⟨n, nd, nt, hs, r⟩ := i.2.1
  have hnd := hs.1.2.1.2
  by_cases h1 : 0 ≤ p ∧ p ≤ am_i h (m + 1) 1 - 1
  · obtain ⟨k, hk, rfl⟩ := i.nd hs h1
    refine sm_same i ?_ (m_meant lm hs.ok hk)
    have hin := mt_great_in (am_i h (m + 1) (66 + 6 * k + 3))
    unfold mt_meant
    rcases hin with hc | ⟨j, hj, _, hc⟩
    · have : ¬ (0 : Int32) ≤ -1 := by decide
      simp only [n_93, e_93_0, e_93_1, e_93_4, e_93_5, e_93_8, e_93_11, e_93_13, e_93_14, e_93_15, e_93_18, e_93_21, e_93_22, f_93_23, e_93_24, e_93_25, e_93_28, f_93_31, e_93_32, e_93_33, e_93_35, e_93_38, e_93_39, e_93_56, e_93_42, e_93_43, e_93_46, e_93_47, e_93_50, e_93_51, e_93_52, e_93_53, e_93_54, e_93_55, Option.bind_some, Option.toList_some, Option.toList_none, List.cons_append, List.nil_append, am_k1_i, am_k1_r, am_k1_u, am_k1_n, am_bo0, am_bo1, am_boi, am_ev_tb, am_tb_nil, am_rfs, am_rfn, eq_self, and_self, if_true, if_false, show ¬ (1 : Int32) = 0 from by decide, show ¬ (0 : Int32) = 1 from by decide, not_true, not_false_eq_true, and_true, true_and, and_false, false_and, or_true, true_or, or_false, false_or, co_ob lo, co_r0 lo, ha_ob r.1, c_hasDeed r.1, r.2.1.2.1, h1, ha_r1 r.1, ha_d1 r.1 (show k < 8 by omega), am_cl (show k < 2147483648 by omega), ha_d2 r.1 (show k < 8 by omega), ha_d3 r.1 (show k < 8 by omega), cr_d r hk (show 3 < 6 by omega), c_greatestOf, hc, show mt_nn (-1) = -1000000005 from rfl, this]
    · have hne : ¬ nI j = -1 := fun z => by have := nI_pos' (n := j) (by omega); rw [z] at this; exact absurd this (by decide)
      have hnn : mt_nn (nI j) = nI j := if_neg hne
      have hne2 : ¬ nI j = -1000000005 := fun z => by have := nI_pos' (n := j) (by omega); rw [z] at this; exact absurd this (by decide)
      simp only [n_93, e_93_0, e_93_1, e_93_4, e_93_5, e_93_8, e_93_11, e_93_13, e_93_14, e_93_15, e_93_18, e_93_21, e_93_22, f_93_23, e_93_24, e_93_25, e_93_28, f_93_31, e_93_32, e_93_33, e_93_35, e_93_38, e_93_39, e_93_56, e_93_42, e_93_43, e_93_46, e_93_47, e_93_50, e_93_51, e_93_52, e_93_53, e_93_54, e_93_55, Option.bind_some, Option.toList_some, Option.toList_none, List.cons_append, List.nil_append, am_k1_i, am_k1_r, am_k1_u, am_k1_n, am_bo0, am_bo1, am_boi, am_ev_tb, am_tb_nil, am_rfs, am_rfn, eq_self, and_self, if_true, if_false, show ¬ (1 : Int32) = 0 from by decide, show ¬ (0 : Int32) = 1 from by decide, not_true, not_false_eq_true, and_true, true_and, and_false, false_and, or_true, true_or, or_false, false_or, co_ob lo, co_r0 lo, ha_ob r.1, c_hasDeed r.1, r.2.1.2.1, h1, ha_r1 r.1, ha_d1 r.1 (show k < 8 by omega), am_cl (show k < 2147483648 by omega), ha_d2 r.1 (show k < 8 by omega), ha_d3 r.1 (show k < 8 by omega), cr_d r hk (show 3 < 6 by omega), c_greatestOf, hc, hnn, hne2, nI_pos' (show j < 2 ^ 31 by omega), c_leftOn3 r hnd hk]
  · refine sm_same i ?_ (m_meant0 lm h1)
    simp only [n_93, e_93_0, e_93_1, e_93_4, e_93_5, e_93_8, e_93_11, e_93_13, e_93_14, e_93_15, e_93_18, e_93_21, e_93_22, f_93_23, e_93_24, e_93_25, e_93_28, f_93_31, e_93_32, e_93_33, e_93_35, e_93_38, e_93_39, e_93_56, e_93_42, e_93_43, e_93_46, e_93_47, e_93_50, e_93_51, e_93_52, e_93_53, e_93_54, e_93_55, Option.bind_some, Option.toList_some, Option.toList_none, List.cons_append, List.nil_append, am_k1_i, am_k1_r, am_k1_u, am_k1_n, am_bo0, am_bo1, am_boi, am_ev_tb, am_tb_nil, am_rfs, am_rfn, eq_self, and_self, if_true, if_false, show ¬ (1 : Int32) = 0 from by decide, show ¬ (0 : Int32) = 1 from by decide, not_true, not_false_eq_true, and_true, true_and, and_false, false_and, or_true, true_or, or_false, false_or, co_ob lo, co_r0 lo, ha_ob r.1, c_hasDeed r.1, r.2.1.2.1, h1]
theorem c_proved_l {σ : Nat → Int32} {n nd nt p hr : Nat} {x1 : Option Value} (lo : cl_Obj G h o) (r : cl_R G h (o + 1) σ n nd nt) (hs : mt_wf σ n nd nt) (hp : p < nd) (hh : σ (66 + 6 * p + 1) = nI hr) (hh24 : hr < 24) : ∀ j q, q + j = n → am_ev G (d + 2) 94 36 [some (.ref o), x1, some (.ref (o + 1 + 18 + p)), some (.int (mt_prov σ n p hr q)), some (.int (nI q))] [] h = some (some (.int (mt_prov σ n p hr n)), h) := by
  have hnd := hs.1.2.1.2
  have hn := hs.1.1.2
  have od := ha_d3 r.1 (show p < 8 by omega)
  have ch := cr_d r hp (show 1 < 6 by omega)
  rw [hh] at ch
  intro j
  induction j with
  | zero =>
    intro q hq
    obtain rfl : q = n := by omega
    rw [e_94_36]
    simp only [n_94, e_94_0, e_94_1, e_94_4, e_94_5, e_94_8, e_94_11, e_94_13, e_94_14, e_94_15, e_94_18, e_94_21, e_94_22, f_94_23, e_94_24, e_94_25, e_94_28, e_94_29, f_94_32, e_94_33, f_94_34, e_94_38, e_94_39, e_94_42, e_94_45, e_94_48, e_94_49, e_94_52, e_94_55, e_94_57, e_94_58, e_94_61, e_94_62, e_94_65, e_94_68, e_94_71, e_94_72, e_94_73, e_94_76, e_94_78, e_94_81, e_94_82, e_94_83, f_94_84, f_94_85, e_94_88, e_94_91, e_94_92, Option.bind_some, Option.toList_some, Option.toList_none, List.cons_append, List.nil_append, am_k1_i, am_k1_r, am_k1_u, am_k1_n, am_bo0, am_bo1, am_boi, am_ev_tb, am_tb_nil, am_rfs, am_rfn, eq_self, and_self, if_true, if_false, show ¬ (1 : Int32) = 0 from by decide, show ¬ (0 : Int32) = 1 from by decide, not_true, not_false_eq_true, and_true, true_and, and_false, false_and, or_true, true_or, or_false, false_or, co_ob lo, co_r0 lo, ha_ob r.1, r.2.1.1, hs.1.1.1, Int32.le_refl]
  | succ j ih =>
    intro q hq
    have hlt : ¬ nI n ≤ nI q := nI_ge (by omega) (by omega)
    rw [← ih (q + 1) (by omega), e_94_36, mt_prov]
    by_cases hb : bt (σ (6 + 5 * q + 2)) hr = true
    · have hm : ¬ mt_b (σ (6 + 5 * q + 2)) hr = 0 := fun z => mt_b0.mp z hb
      rw [if_pos hb]
      simp only [n_94, e_94_0, e_94_1, e_94_4, e_94_5, e_94_8, e_94_11, e_94_13, e_94_14, e_94_15, e_94_18, e_94_21, e_94_22, f_94_23, e_94_24, e_94_25, e_94_28, e_94_29, f_94_32, e_94_33, f_94_34, e_94_38, e_94_39, e_94_42, e_94_45, e_94_48, e_94_49, e_94_52, e_94_55, e_94_57, e_94_58, e_94_61, e_94_62, e_94_65, e_94_68, e_94_71, e_94_72, e_94_73, e_94_76, e_94_78, e_94_81, e_94_82, e_94_83, f_94_84, f_94_85, e_94_88, e_94_91, e_94_92, Option.bind_some, Option.toList_some, Option.toList_none, List.cons_append, List.nil_append, am_k1_i, am_k1_r, am_k1_u, am_k1_n, am_bo0, am_bo1, am_boi, am_ev_tb, am_tb_nil, am_rfs, am_rfn, eq_self, and_self, if_true, if_false, show ¬ (1 : Int32) = 0 from by decide, show ¬ (0 : Int32) = 1 from by decide, not_true, not_false_eq_true, and_true, true_and, and_false, false_and, or_true, true_or, or_false, false_or, co_ob lo, co_r0 lo, ha_ob r.1, r.2.1.1, hs.1.1.1, hlt, ha_r0 r.1, ha_p1 r.1 (show q < 12 by omega), am_cl (show q < 2147483648 by omega), ha_p2 r.1 (show q < 12 by omega), ha_p3 r.1 (show q < 12 by omega), cr_p r (show q < n by omega) (show 2 < 5 by omega), od, ch, c_hasBit (show hr < 32 by omega), hm, c_goersBy3 r hn (show q < n by omega), nI_1]
    · have hm : mt_b (σ (6 + 5 * q + 2)) hr = 0 := mt_b0.mpr hb
      rw [if_neg hb, mt_andm1]
      simp only [n_94, e_94_0, e_94_1, e_94_4, e_94_5, e_94_8, e_94_11, e_94_13, e_94_14, e_94_15, e_94_18, e_94_21, e_94_22, f_94_23, e_94_24, e_94_25, e_94_28, e_94_29, f_94_32, e_94_33, f_94_34, e_94_38, e_94_39, e_94_42, e_94_45, e_94_48, e_94_49, e_94_52, e_94_55, e_94_57, e_94_58, e_94_61, e_94_62, e_94_65, e_94_68, e_94_71, e_94_72, e_94_73, e_94_76, e_94_78, e_94_81, e_94_82, e_94_83, f_94_84, f_94_85, e_94_88, e_94_91, e_94_92, Option.bind_some, Option.toList_some, Option.toList_none, List.cons_append, List.nil_append, am_k1_i, am_k1_r, am_k1_u, am_k1_n, am_bo0, am_bo1, am_boi, am_ev_tb, am_tb_nil, am_rfs, am_rfn, eq_self, and_self, if_true, if_false, show ¬ (1 : Int32) = 0 from by decide, show ¬ (0 : Int32) = 1 from by decide, not_true, not_false_eq_true, and_true, true_and, and_false, false_and, or_true, true_or, or_false, false_or, co_ob lo, co_r0 lo, ha_ob r.1, r.2.1.1, hs.1.1.1, hlt, ha_r0 r.1, ha_p1 r.1 (show q < 12 by omega), am_cl (show q < 2147483648 by omega), ha_p2 r.1 (show q < 12 by omega), ha_p3 r.1 (show q < 12 by omega), cr_p r (show q < n by omega) (show 2 < 5 by omega), od, ch, c_hasBit (show hr < 32 by omega), hm, nI_1]
theorem s_proved (i : iv G h o m) {p : Int32} : sm G h o m d 94 181 [.int p] := by
  have lm := i.1.2.1
  have lo := i.1.2.2.1
  obtain ⟨n, nd, nt, hs, r⟩ := i.2.1
  have hnd := hs.1.2.1.2
  by_cases h1 : 0 ≤ p ∧ p ≤ am_i h (m + 1) 1 - 1
  · obtain ⟨k, hk, rfl⟩ := i.nd hs h1
    obtain ⟨hr, hr24, he⟩ := (hs.2.2.1 k hk).1
    refine sm_same i ?_ (m_proved lm hs.ok hk he hr24)
    rw [← c_proved_l (d := d + 198) (x1 := some (.int (nI k))) lo r hs hk he hr24 n 0 (by omega)]
    simp only [n_94, e_94_0, e_94_1, e_94_4, e_94_5, e_94_8, e_94_11, e_94_13, e_94_14, e_94_15, e_94_18, e_94_21, e_94_22, f_94_23, e_94_24, e_94_25, e_94_28, e_94_29, f_94_32, e_94_33, f_94_34, e_94_38, e_94_39, e_94_42, e_94_45, e_94_48, e_94_49, e_94_52, e_94_55, e_94_57, e_94_58, e_94_61, e_94_62, e_94_65, e_94_68, e_94_71, e_94_72, e_94_73, e_94_76, e_94_78, e_94_81, e_94_82, e_94_83, f_94_84, f_94_85, e_94_88, e_94_91, e_94_92, Option.bind_some, Option.toList_some, Option.toList_none, List.cons_append, List.nil_append, am_k1_i, am_k1_r, am_k1_u, am_k1_n, am_bo0, am_bo1, am_boi, am_ev_tb, am_tb_nil, am_rfs, am_rfn, eq_self, and_self, if_true, if_false, show ¬ (1 : Int32) = 0 from by decide, show ¬ (0 : Int32) = 1 from by decide, not_true, not_false_eq_true, and_true, true_and, and_false, false_and, or_true, true_or, or_false, false_or, co_ob lo, co_r0 lo, ha_ob r.1, c_hasDeed r.1, r.2.1.2.1, h1, ha_r1 r.1, ha_d1 r.1 (show k < 8 by omega), am_cl (show k < 2147483648 by omega), ha_d2 r.1 (show k < 8 by omega), c_leftOn3 r hnd hk]
    rfl
  · refine sm_same i ?_ (m_proved0 lm h1)
    simp only [n_94, e_94_0, e_94_1, e_94_4, e_94_5, e_94_8, e_94_11, e_94_13, e_94_14, e_94_15, e_94_18, e_94_21, e_94_22, f_94_23, e_94_24, e_94_25, e_94_28, e_94_29, f_94_32, e_94_33, f_94_34, e_94_38, e_94_39, e_94_42, e_94_45, e_94_48, e_94_49, e_94_52, e_94_55, e_94_57, e_94_58, e_94_61, e_94_62, e_94_65, e_94_68, e_94_71, e_94_72, e_94_73, e_94_76, e_94_78, e_94_81, e_94_82, e_94_83, f_94_84, f_94_85, e_94_88, e_94_91, e_94_92, Option.bind_some, Option.toList_some, Option.toList_none, List.cons_append, List.nil_append, am_k1_i, am_k1_r, am_k1_u, am_k1_n, am_bo0, am_bo1, am_boi, am_ev_tb, am_tb_nil, am_rfs, am_rfn, eq_self, and_self, if_true, if_false, show ¬ (1 : Int32) = 0 from by decide, show ¬ (0 : Int32) = 1 from by decide, not_true, not_false_eq_true, and_true, true_and, and_false, false_and, or_true, true_or, or_false, false_or, co_ob lo, co_r0 lo, ha_ob r.1, c_hasDeed r.1, r.2.1.2.1, h1]
/-- the one call whose answer is a long -/
theorem s_falls (i : iv G h o m) {p w : Int32} : ∃ v, am_evm G (d + 200) 95 [.ref o, .int p, .int w] h = some (some (.long v), h) ∧ am_evm G (d + 200) 183 [.ref m, .int p, .int w] h = some (some (.long v), h) := by
  have lm := i.1.2.1
  have lo := i.1.2.2.1
  obtain ⟨n, nd, nt, hs, r⟩ := i.2.1
  have hnd := hs.1.2.1.2
  have hn := hs.1.1.2
  by_cases h1 : 0 ≤ p ∧ p ≤ am_i h (m + 1) 0 - 1
  · by_cases h2 : 0 ≤ w ∧ w ≤ 1
    · obtain ⟨k, hk, rfl⟩ := i.np hs h1
      refine ⟨_, ?_, m_falls lm hs.ok hk h2⟩
      have hA := mt_fall_le (am_i h (m + 1)) k nd
      have hsh := c_shareOf (d := d + 197) r hs (show k < 12 by omega)
      generalize mt_fall (am_i h (m + 1)) k nd = A at *
      have hg : 0 < Nat.gcd A 27720 := Nat.gcd_pos_of_pos_right _ (by decide)
      have hg2 : Nat.gcd A 27720 ≤ 27720 := Nat.gcd_le_right _ (by decide)
      have hne : ¬ nI (Nat.gcd A 27720) = 0 := nI_ne0 hg (by omega)
      have hcd := c_commonDivisor (G := G) (d := d + 198) (h := h) (A := A) (by omega)
      unfold mt_falls
      rcases m_01.mp h2 with rfl | rfl
      · simp only [n_95, e_95_0, e_95_1, e_95_4, e_95_5, e_95_8, e_95_11, e_95_12, e_95_13, e_95_14, e_95_17, e_95_20, e_95_23, e_95_24, e_95_25, e_95_28, e_95_29, f_95_32, e_95_33, e_95_36, e_95_37, f_95_40, e_95_42, e_95_43, e_95_46, e_95_47, e_95_49, e_95_50, e_95_51, e_95_61, e_95_54, e_95_57, e_95_59, e_95_60, Option.bind_some, Option.toList_some, Option.toList_none, List.cons_append, List.nil_append, am_k1_i, am_k1_r, am_k1_u, am_k1_n, am_bo0, am_bo1, am_boi, am_ev_tb, am_tb_nil, am_rfs, am_rfn, eq_self, and_self, if_true, if_false, show ¬ (1 : Int32) = 0 from by decide, show ¬ (0 : Int32) = 1 from by decide, not_true, not_false_eq_true, and_true, true_and, and_false, false_and, or_true, true_or, or_false, false_or, co_ob lo, co_r0 lo, ha_ob r.1, c_hasPerson r.1, r.2.1.1, h1, c_within, h2, hsh, hcd, hne]
        rw [pk_div (by omega) hg (by omega)]
      · simp only [n_95, e_95_0, e_95_1, e_95_4, e_95_5, e_95_8, e_95_11, e_95_12, e_95_13, e_95_14, e_95_17, e_95_20, e_95_23, e_95_24, e_95_25, e_95_28, e_95_29, f_95_32, e_95_33, e_95_36, e_95_37, f_95_40, e_95_42, e_95_43, e_95_46, e_95_47, e_95_49, e_95_50, e_95_51, e_95_61, e_95_54, e_95_57, e_95_59, e_95_60, Option.bind_some, Option.toList_some, Option.toList_none, List.cons_append, List.nil_append, am_k1_i, am_k1_r, am_k1_u, am_k1_n, am_bo0, am_bo1, am_boi, am_ev_tb, am_tb_nil, am_rfs, am_rfn, eq_self, and_self, if_true, if_false, show ¬ (1 : Int32) = 0 from by decide, show ¬ (0 : Int32) = 1 from by decide, not_true, not_false_eq_true, and_true, true_and, and_false, false_and, or_true, true_or, or_false, false_or, co_ob lo, co_r0 lo, ha_ob r.1, c_hasPerson r.1, r.2.1.1, h1, c_within, h2, hsh, hcd, hne]
        rw [show (27720 : Int32) = nI 27720 from rfl, pk_div (by omega) hg (by omega)]
    · refine ⟨_, ?_, m_falls0 lm (fun z => h2 z.2)⟩
      simp only [n_95, e_95_0, e_95_1, e_95_4, e_95_5, e_95_8, e_95_11, e_95_12, e_95_13, e_95_14, e_95_17, e_95_20, e_95_23, e_95_24, e_95_25, e_95_28, e_95_29, f_95_32, e_95_33, e_95_36, e_95_37, f_95_40, e_95_42, e_95_43, e_95_46, e_95_47, e_95_49, e_95_50, e_95_51, e_95_61, e_95_54, e_95_57, e_95_59, e_95_60, Option.bind_some, Option.toList_some, Option.toList_none, List.cons_append, List.nil_append, am_k1_i, am_k1_r, am_k1_u, am_k1_n, am_bo0, am_bo1, am_boi, am_ev_tb, am_tb_nil, am_rfs, am_rfn, eq_self, and_self, if_true, if_false, show ¬ (1 : Int32) = 0 from by decide, show ¬ (0 : Int32) = 1 from by decide, not_true, not_false_eq_true, and_true, true_and, and_false, false_and, or_true, true_or, or_false, false_or, co_ob lo, co_r0 lo, ha_ob r.1, c_hasPerson r.1, r.2.1.1, h1, c_within, h2]
  · refine ⟨_, ?_, m_falls0 lm (fun z => h1 z.1)⟩
    simp only [n_95, e_95_0, e_95_1, e_95_4, e_95_5, e_95_8, e_95_11, e_95_12, e_95_13, e_95_14, e_95_17, e_95_20, e_95_23, e_95_24, e_95_25, e_95_28, e_95_29, f_95_32, e_95_33, e_95_36, e_95_37, f_95_40, e_95_42, e_95_43, e_95_46, e_95_47, e_95_49, e_95_50, e_95_51, e_95_61, e_95_54, e_95_57, e_95_59, e_95_60, Option.bind_some, Option.toList_some, Option.toList_none, List.cons_append, List.nil_append, am_k1_i, am_k1_r, am_k1_u, am_k1_n, am_bo0, am_bo1, am_boi, am_ev_tb, am_tb_nil, am_rfs, am_rfn, eq_self, and_self, if_true, if_false, show ¬ (1 : Int32) = 0 from by decide, show ¬ (0 : Int32) = 1 from by decide, not_true, not_false_eq_true, and_true, true_and, and_false, false_and, or_true, true_or, or_false, false_or, co_ob lo, co_r0 lo, ha_ob r.1, c_hasPerson r.1, r.2.1.1, h1]
theorem c_most_l {σ : Nat → Int32} {n nd nt : Nat} (lo : cl_Obj G h o) (r : cl_R G h (o + 1) σ n nd nt) (hs : mt_wf σ n nd nt) : ∀ j q f g x4, q + j = n → ((q = 0 ∧ f = -1000000005 ∧ g = -1) ∨ ∃ k, k < q ∧ mt_most σ nd q = nI k ∧ f = nI k ∧ g = nI (mt_fall σ k nd)) → am_ev G (d + 3) 96 7 [some (.ref o), some (.int f), some (.int g), some (.int (nI q)), x4] [] h = some (some (.int (mt_nn (mt_most σ nd n))), h) := by
  have hn := hs.1.1.2
  have hnd := hs.1.2.1.2
  intro j
  induction j with
  | zero =>
    intro q f g x4 hq hI
    obtain rfl : q = n := by omega
    have : f = mt_nn (mt_most σ nd q) := by
      rcases hI with ⟨h1, h2, _⟩ | ⟨k, hk, h1, h2, _⟩
      · subst h1; rw [h2]; rfl
      · rw [h1, h2]
        unfold mt_nn
        rw [if_neg (fun z => by have := nI_pos' (n := k) (by omega); rw [z] at this; exact absurd this (by decide))]
    rw [e_96_7]
    simp only [n_96, e_96_0, f_96_2, e_96_3, f_96_4, e_96_5, f_96_6, e_96_8, e_96_9, e_96_12, e_96_15, e_96_18, e_96_19, e_96_22, e_96_23, f_96_26, e_96_28, e_96_30, e_96_31, e_96_34, f_96_36, e_96_37, f_96_38, f_96_39, e_96_42, e_96_45, e_96_46, Option.bind_some, Option.toList_some, Option.toList_none, List.cons_append, List.nil_append, am_k1_i, am_k1_r, am_k1_u, am_k1_n, am_bo0, am_bo1, am_boi, am_ev_tb, am_tb_nil, am_rfs, am_rfn, eq_self, and_self, if_true, if_false, show ¬ (1 : Int32) = 0 from by decide, show ¬ (0 : Int32) = 1 from by decide, not_true, not_false_eq_true, and_true, true_and, and_false, false_and, or_true, true_or, or_false, false_or, co_ob lo, co_r0 lo, ha_ob r.1, r.2.1.1, hs.1.1.1, Int32.le_refl, this]
  | succ j ih =>
    intro q f g x4 hq hI
    have hlt : ¬ nI n ≤ nI q := nI_ge (by omega) (by omega)
    have hsh := c_shareOf (d := d) r hs (show q < 12 by omega)
    have hA := mt_fall_le σ q nd
    rw [e_96_7]
    rcases hI with ⟨h1, h2, h3⟩ | ⟨k, hk, h1, h2, h3⟩
    · have hgt : ¬ nI (mt_fall σ q nd) ≤ g := by
        rw [h3]
        intro z
        have := Int32.le_trans (nI_pos' (n := mt_fall σ q nd) (by omega)) z
        exact absurd this (by decide)
      simp only [n_96, e_96_0, f_96_2, e_96_3, f_96_4, e_96_5, f_96_6, e_96_8, e_96_9, e_96_12, e_96_15, e_96_18, e_96_19, e_96_22, e_96_23, f_96_26, e_96_28, e_96_30, e_96_31, e_96_34, f_96_36, e_96_37, f_96_38, f_96_39, e_96_42, e_96_45, e_96_46, Option.bind_some, Option.toList_some, Option.toList_none, List.cons_append, List.nil_append, am_k1_i, am_k1_r, am_k1_u, am_k1_n, am_bo0, am_bo1, am_boi, am_ev_tb, am_tb_nil, am_rfs, am_rfn, eq_self, and_self, if_true, if_false, show ¬ (1 : Int32) = 0 from by decide, show ¬ (0 : Int32) = 1 from by decide, not_true, not_false_eq_true, and_true, true_and, and_false, false_and, or_true, true_or, or_false, false_or, co_ob lo, co_r0 lo, ha_ob r.1, r.2.1.1, hs.1.1.1, hlt, hsh, hgt, nI_1]
      refine ih (q + 1) _ _ _ (by omega) (Or.inr ⟨q, by omega, ?_, rfl, rfl⟩)
      rw [mt_most, if_pos]
      subst h1
      show (-1 : Int32) < 0
      decide
    · have hB := mt_fall_le σ k nd
      have hm : ¬ mt_most σ nd q < 0 := by rw [h1]; exact nI_pos (by omega)
      by_cases hle : nI (mt_fall σ q nd) ≤ nI (mt_fall σ k nd)
      · subst h3
        simp only [n_96, e_96_0, f_96_2, e_96_3, f_96_4, e_96_5, f_96_6, e_96_8, e_96_9, e_96_12, e_96_15, e_96_18, e_96_19, e_96_22, e_96_23, f_96_26, e_96_28, e_96_30, e_96_31, e_96_34, f_96_36, e_96_37, f_96_38, f_96_39, e_96_42, e_96_45, e_96_46, Option.bind_some, Option.toList_some, Option.toList_none, List.cons_append, List.nil_append, am_k1_i, am_k1_r, am_k1_u, am_k1_n, am_bo0, am_bo1, am_boi, am_ev_tb, am_tb_nil, am_rfs, am_rfn, eq_self, and_self, if_true, if_false, show ¬ (1 : Int32) = 0 from by decide, show ¬ (0 : Int32) = 1 from by decide, not_true, not_false_eq_true, and_true, true_and, and_false, false_and, or_true, true_or, or_false, false_or, co_ob lo, co_r0 lo, ha_ob r.1, r.2.1.1, hs.1.1.1, hlt, hsh, hle, nI_1]
        refine ih (q + 1) _ _ _ (by omega) (Or.inr ⟨k, by omega, ?_, h2, rfl⟩)
        rw [mt_most, if_neg hm, h1, am_cl (show k < 2147483648 by omega), if_pos hle]
      · subst h3
        simp only [n_96, e_96_0, f_96_2, e_96_3, f_96_4, e_96_5, f_96_6, e_96_8, e_96_9, e_96_12, e_96_15, e_96_18, e_96_19, e_96_22, e_96_23, f_96_26, e_96_28, e_96_30, e_96_31, e_96_34, f_96_36, e_96_37, f_96_38, f_96_39, e_96_42, e_96_45, e_96_46, Option.bind_some, Option.toList_some, Option.toList_none, List.cons_append, List.nil_append, am_k1_i, am_k1_r, am_k1_u, am_k1_n, am_bo0, am_bo1, am_boi, am_ev_tb, am_tb_nil, am_rfs, am_rfn, eq_self, and_self, if_true, if_false, show ¬ (1 : Int32) = 0 from by decide, show ¬ (0 : Int32) = 1 from by decide, not_true, not_false_eq_true, and_true, true_and, and_false, false_and, or_true, true_or, or_false, false_or, co_ob lo, co_r0 lo, ha_ob r.1, r.2.1.1, hs.1.1.1, hlt, hsh, hle, nI_1]
        refine ih (q + 1) _ _ _ (by omega) (Or.inr ⟨q, by omega, ?_, rfl, rfl⟩)
        rw [mt_most, if_neg hm, h1, am_cl (show k < 2147483648 by omega), if_neg hle]
theorem s_most (i : iv G h o m) : sm G h o m d 96 184 [] := by
  have lm := i.1.2.1
  have lo := i.1.2.2.1
  obtain ⟨n, nd, nt, hs, r⟩ := i.2.1
  have hn := hs.1.1.2
  have e2 := m_most (d := d + 197) lm hs.ok
  have hnn : (if 0 ≤ mt_most (am_i h (m + 1)) nd n then mt_most (am_i h (m + 1)) nd n else -1000000005) = mt_nn (mt_most (am_i h (m + 1)) nd n) := by
    rcases mt_most_in (am_i h (m + 1)) nd n hn with hc | ⟨j, hj, hc⟩
    · rw [hc]; rfl
    · rw [hc, if_pos (nI_pos' (by omega))]
      unfold mt_nn
      rw [if_neg (fun z => by have := nI_pos' (n := j) (by omega); rw [z] at this; exact absurd this (by decide))]
  rw [hnn] at e2
  refine sm_same i ?_ e2
  rw [← c_most_l (d := d + 197) lo r hs n 0 (-1000000005) (-1) none (by omega) (Or.inl ⟨rfl, rfl, rfl⟩)]
  simp only [n_96, e_96_0, f_96_2, e_96_3, f_96_4, e_96_5, f_96_6, e_96_8, e_96_9, e_96_12, e_96_15, e_96_18, e_96_19, e_96_22, e_96_23, f_96_26, e_96_28, e_96_30, e_96_31, e_96_34, f_96_36, e_96_37, f_96_38, f_96_39, e_96_42, e_96_45, e_96_46, Option.bind_some, Option.toList_some, Option.toList_none, List.cons_append, List.nil_append, am_k1_i, am_k1_r, am_k1_u, am_k1_n, am_bo0, am_bo1, am_boi, am_ev_tb, am_tb_nil, am_rfs, am_rfn, eq_self, and_self, if_true, if_false, show ¬ (1 : Int32) = 0 from by decide, show ¬ (0 : Int32) = 1 from by decide, not_true, not_false_eq_true, and_true, true_and, and_false, false_and, or_true, true_or, or_false, false_or]
  rfl
theorem s_why (i : iv G h o m) {k : Int32} : sm G h o m d 101 205 [.int k] := by
  have lm := i.1.2.1
  have lo := i.1.2.2.1
  obtain ⟨n, nd, nt, hs, r⟩ := i.2.1
  have hnt := hs.1.2.2.2
  refine sm_same i ?_ (m_why lm hs.1.2.2.1 hnt)
  by_cases h1 : 0 ≤ k ∧ k ≤ 2
  · obtain ⟨kk, hk, rfl⟩ := (mt_ix (p := k) (c := 3) (by omega)).mp h1
    have hc := r.2.2.2.2.2 kk hk
    have hnn : (if 0 ≤ mt_last (am_i h (m + 1)) (nI kk) nt then mt_last (am_i h (m + 1)) (nI kk) nt else -1000000005) = mt_nn (mt_last (am_i h (m + 1)) (nI kk) nt) := by
      rcases mt_last_in (am_i h (m + 1)) (nI kk) nt with hc | ⟨j, hj, hc, _⟩
      · rw [hc]; rfl
      · rw [hc, if_pos (nI_pos' (by omega))]
        unfold mt_nn
        rw [if_neg (fun z => by have := nI_pos' (n := j) (by omega); rw [z] at this; exact absurd this (by decide))]
    rw [if_pos h1, hnn]
    simp only [n_101, e_101_0, e_101_1, e_101_2, e_101_3, e_101_6, e_101_9, e_101_10, e_101_13, e_101_16, e_101_17, e_101_18, e_101_23, e_101_21, Option.bind_some, Option.toList_some, Option.toList_none, List.cons_append, List.nil_append, am_k1_i, am_k1_r, am_k1_u, am_k1_n, am_bo0, am_bo1, am_boi, am_ev_tb, am_tb_nil, am_rfs, am_rfn, eq_self, and_self, if_true, if_false, show ¬ (1 : Int32) = 0 from by decide, show ¬ (0 : Int32) = 1 from by decide, not_true, not_false_eq_true, and_true, true_and, and_false, false_and, or_true, true_or, or_false, false_or, c_within, h1, co_ob lo, co_r0 lo, ha_ob r.1, ha_r3 r.1, ha_c1 r.1 hk, am_cl (show kk < 2147483648 by omega), hc]
  · rw [if_neg h1]
    simp only [n_101, e_101_0, e_101_1, e_101_2, e_101_3, e_101_6, e_101_9, e_101_10, e_101_13, e_101_16, e_101_17, e_101_18, e_101_23, e_101_21, Option.bind_some, Option.toList_some, Option.toList_none, List.cons_append, List.nil_append, am_k1_i, am_k1_r, am_k1_u, am_k1_n, am_bo0, am_bo1, am_boi, am_ev_tb, am_tb_nil, am_rfs, am_rfn, eq_self, and_self, if_true, if_false, show ¬ (1 : Int32) = 0 from by decide, show ¬ (0 : Int32) = 1 from by decide, not_true, not_false_eq_true, and_true, true_and, and_false, false_and, or_true, true_or, or_false, false_or, c_within, h1]
theorem s_textTold (i : iv G h o m) {p w : Int32} : sm G h o m d 100 203 [.int p, .int w] := by
  have lm := i.1.2.1
  have lo := i.1.2.2.1
  obtain ⟨n, nd, nt, hs, r⟩ := i.2.1
  have hnt := hs.1.2.2.2
  by_cases h1 : 0 ≤ p ∧ p ≤ am_i h (m + 1) 2 - 1
  · have h1' := h1
    rw [hs.1.2.2.1] at h1'
    obtain ⟨t, ht, rfl⟩ := (mt_ix (by omega)).mp h1'
    obtain ⟨b, hb, c, key, L, ⟨b1, b2, b3⟩, ⟨t1, t2, t3⟩, _⟩ := r.2.2.2.2.1 t ht
    have ob : am_ob G h b 7 := ⟨⟨by omega, b2⟩, b3⟩
    by_cases w0 : w = 0
    · subst w0
      refine sm_same i ?_ (m_textTold (w := 0) lm hs.1.2.2.1 hnt ht (by omega))
      simp only [n_100, e_100_0, e_100_1, e_100_2, e_100_2n, e_100_3, e_100_6, e_100_9, e_100_10, e_100_11, e_100_14, e_100_17, e_100_17n, e_100_18, e_100_21, e_100_24, e_100_25, e_100_26, e_100_26n, e_100_29, e_100_31, e_100_32, e_100_33, e_100_86, e_100_88, e_100_73, e_100_73n, e_100_74, e_100_77, e_100_80, e_100_81, e_100_82, e_100_85, e_100_60, e_100_60n, e_100_61, e_100_64, e_100_67, e_100_68, e_100_69, e_100_72, Option.bind_some, Option.toList_some, Option.toList_none, List.cons_append, List.nil_append, am_k1_i, am_k1_r, am_k1_u, am_k1_n, am_bo0, am_bo1, am_boi, am_ev_tb, am_tb_nil, am_rfs, am_rfn, eq_self, and_self, if_true, if_false, show ¬ (1 : Int32) = 0 from by decide, show ¬ (0 : Int32) = 1 from by decide, not_true, not_false_eq_true, and_true, true_and, and_false, false_and, or_true, true_or, or_false, false_or, c_within, co_ob lo, co_r0 lo, ha_ob r.1, r.2.1.2.2.1, h1, ha_r2 r.1, ha_t1 r.1 (show t < 14 by omega), am_cl (show t < 2147483648 by omega), hb, ob, t1]
      rfl
    by_cases w1 : w = 1
    · subst w1
      refine sm_same i ?_ (m_textTold (w := 1) lm hs.1.2.2.1 hnt ht (by omega))
      simp only [n_100, e_100_0, e_100_1, e_100_2, e_100_2n, e_100_3, e_100_6, e_100_9, e_100_10, e_100_11, e_100_14, e_100_17, e_100_17n, e_100_18, e_100_21, e_100_24, e_100_25, e_100_26, e_100_26n, e_100_29, e_100_31, e_100_32, e_100_33, e_100_86, e_100_88, e_100_73, e_100_73n, e_100_74, e_100_77, e_100_80, e_100_81, e_100_82, e_100_85, e_100_60, e_100_60n, e_100_61, e_100_64, e_100_67, e_100_68, e_100_69, e_100_72, Option.bind_some, Option.toList_some, Option.toList_none, List.cons_append, List.nil_append, am_k1_i, am_k1_r, am_k1_u, am_k1_n, am_bo0, am_bo1, am_boi, am_ev_tb, am_tb_nil, am_rfs, am_rfn, eq_self, and_self, if_true, if_false, show ¬ (1 : Int32) = 0 from by decide, show ¬ (0 : Int32) = 1 from by decide, not_true, not_false_eq_true, and_true, true_and, and_false, false_and, or_true, true_or, or_false, false_or, c_within, co_ob lo, co_r0 lo, ha_ob r.1, r.2.1.2.2.1, h1, ha_r2 r.1, ha_t1 r.1 (show t < 14 by omega), am_cl (show t < 2147483648 by omega), hb, ob, t2]
    · refine sm_same i ?_ (m_textTold0 lm (fun z => by rcases m_01.mp z.2 with e | e; exact w0 e; exact w1 e))
      simp only [n_100, e_100_0, e_100_1, e_100_2, e_100_2n, e_100_3, e_100_6, e_100_9, e_100_10, e_100_11, e_100_14, e_100_17, e_100_17n, e_100_18, e_100_21, e_100_24, e_100_25, e_100_26, e_100_26n, e_100_29, e_100_31, e_100_32, e_100_33, e_100_86, e_100_88, e_100_73, e_100_73n, e_100_74, e_100_77, e_100_80, e_100_81, e_100_82, e_100_85, e_100_60, e_100_60n, e_100_61, e_100_64, e_100_67, e_100_68, e_100_69, e_100_72, Option.bind_some, Option.toList_some, Option.toList_none, List.cons_append, List.nil_append, am_k1_i, am_k1_r, am_k1_u, am_k1_n, am_bo0, am_bo1, am_boi, am_ev_tb, am_tb_nil, am_rfs, am_rfn, eq_self, and_self, if_true, if_false, show ¬ (1 : Int32) = 0 from by decide, show ¬ (0 : Int32) = 1 from by decide, not_true, not_false_eq_true, and_true, true_and, and_false, false_and, or_true, true_or, or_false, false_or, c_within, co_ob lo, co_r0 lo, ha_ob r.1, r.2.1.2.2.1, h1, ha_r2 r.1, ha_t1 r.1 (show t < 14 by omega), am_cl (show t < 2147483648 by omega), hb, w0, w1]
  · refine sm_same i ?_ (m_textTold0 lm (fun z => h1 z.1))
    simp only [n_100, e_100_0, e_100_1, e_100_2, e_100_2n, e_100_3, e_100_6, e_100_9, e_100_10, e_100_11, e_100_14, e_100_17, e_100_17n, e_100_18, e_100_21, e_100_24, e_100_25, e_100_26, e_100_26n, e_100_29, e_100_31, e_100_32, e_100_33, e_100_86, e_100_88, e_100_73, e_100_73n, e_100_74, e_100_77, e_100_80, e_100_81, e_100_82, e_100_85, e_100_60, e_100_60n, e_100_61, e_100_64, e_100_67, e_100_68, e_100_69, e_100_72, Option.bind_some, Option.toList_some, Option.toList_none, List.cons_append, List.nil_append, am_k1_i, am_k1_r, am_k1_u, am_k1_n, am_bo0, am_bo1, am_boi, am_ev_tb, am_tb_nil, am_rfs, am_rfn, eq_self, and_self, if_true, if_false, show ¬ (1 : Int32) = 0 from by decide, show ¬ (0 : Int32) = 1 from by decide, not_true, not_false_eq_true, and_true, true_and, and_false, false_and, or_true, true_or, or_false, false_or, c_within, co_ob lo, co_r0 lo, ha_ob r.1, r.2.1.2.2.1, h1]
theorem s_count (i : iv G h o m) {w : Int32} : sm G h o m d 115 225 [.int w] := by
  have lm := i.1.2.1
  have lo := i.1.2.2.1
  obtain ⟨n, nd, nt, hs, r⟩ := i.2.1
  obtain ⟨t, _, t1, t2, _⟩ := i.2.2.2.1
  obtain ⟨q, _, q1, q2, _⟩ := i.2.2.2.2.2.2
  refine sm_same i ?_ (m_count lm hs.1.2.1.1 hs.1.2.1.2)
  obtain ⟨c0, c1, c2, c3, c4⟩ := r.2.1
  simp only [n_115, e_115_0, e_115_1, e_115_121, e_115_123, e_115_113, e_115_114, e_115_117, e_115_120, e_115_105, e_115_106, e_115_109, e_115_112, e_115_100, e_115_101, e_115_104, e_115_92, e_115_93, e_115_96, e_115_99, e_115_84, e_115_85, e_115_88, e_115_91, e_115_76, e_115_77, e_115_80, e_115_83, e_115_68, e_115_69, e_115_72, e_115_75, e_115_60, e_115_61, e_115_64, e_115_67, e_115_52, e_115_53, e_115_56, e_115_59, Option.bind_some, Option.toList_some, Option.toList_none, List.cons_append, List.nil_append, am_k1_i, am_k1_r, am_k1_u, am_k1_n, am_bo0, am_bo1, am_boi, am_ev_tb, am_tb_nil, am_rfs, am_rfn, eq_self, and_self, if_true, if_false, show ¬ (1 : Int32) = 0 from by decide, show ¬ (0 : Int32) = 1 from by decide, not_true, not_false_eq_true, and_true, true_and, and_false, false_and, or_true, true_or, or_false, false_or, co_ob lo, co_r0 lo, co_r4 lo, ha_ob r.1, co_tp lo, c0, c1, c2, c3, c4, c_sayingsOfAll r hs, c_liesOfAll r hs, q1, t1]
  unfold mt_count
  rw [q2, t2]
  by_cases h0 : w = 0
  · subst h0; simp
  by_cases h1 : w = 1
  · subst h1; simp
  by_cases h2 : w = 2
  · subst h2; simp
  by_cases h3 : w = 3
  · subst h3; simp
  by_cases h4 : w = 4
  · subst h4; simp
  by_cases h5 : w = 5
  · subst h5; simp
  by_cases h6 : w = 6
  · subst h6; simp
  by_cases h7 : w = 7
  · subst h7; simp
  by_cases h8 : w = 8
  · subst h8; simp
  simp only [h0, h1, h2, h3, h4, h5, h6, h7, h8, if_false]
end SD
