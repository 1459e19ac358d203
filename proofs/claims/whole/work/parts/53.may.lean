/-! the class: costs, who may be named, choices -/
section CY
variable {G : Nat → Nat} {d : Nat} {h : am_H} {a : Nat} {σ : Nat → Int32} {n nd nt : Nat}
def cl_K (a : Nat) : Nat → Prop := fun x => x = a + 5
theorem cl_K_off (ha : a + 25 < G 0 + 136) : cl_off G a (cl_K a) := fun b hb => by
  have : b = a + 5 := hb
  exact ⟨by omega, Or.inr (Or.inl this)⟩
theorem c_costOf (r : cl_R G h a σ n nd nt) (hs : mt_wf σ n nd nt) (ha : a + 25 < G 0 + 136) {p : Nat} (hp : p < nd) : ∃ h2, am_evm G (d + 3) 25 [.ref a, .ref (a + 18 + p)] h = some (some (.int (mt_cost σ nt p)), h2) ∧ am_fr (cl_K a) h h2 := by
  have hd := hs.1.2.1.2
  have od := ha_d3 r.1 (show p < 8 by omega)
  unfold mt_cost
  rcases c_lawOf (d := d + 1) (key := 1) r hs (by omega) ha with ⟨e, el⟩ | ⟨b, e, ob, ev⟩
  · refine ⟨h, ?_, am_fr.rf⟩
    rw [show nI 1 = (1 : Int32) from rfl] at e
    simp only [n_25, e_25_0, e_25_0n, e_25_1, e_25_2, f_25_5, f_25_5n, e_25_6, e_25_6n, e_25_7, e_25_7n, e_25_10, e_25_10n, e_25_11, e_25_14, e_25_14n, e_25_15, e_25_18, e_25_19, e_25_20, e_25_20n, e_25_21, e_25_21n, e_25_22, e_25_25, e_25_25n, e_25_26, e_25_29, e_25_29n, e_25_30, e_25_33, e_25_33n, e_25_34, e_25_34n, e_25_35, e_25_38, e_25_41, e_25_42, e_25_44, e_25_47, Option.bind_some, Option.toList_some, Option.toList_none, List.cons_append, List.nil_append, am_k1_i, am_k1_r, am_k1_u, am_k1_n, am_bo0, am_bo1, am_boi, am_ev_tb, am_tb_nil, am_rfs, am_rfn, eq_self, and_self, if_true, if_false, show ¬ (1 : Int32) = 0 from by decide, show ¬ (0 : Int32) = 1 from by decide, not_true, not_false_eq_true, and_true, true_and, and_false, false_and, or_true, true_or, or_false, false_or, ha_ob r.1, e, od, cr_d r hp (show 5 < 6 by omega), cr_d r hp (show 2 < 6 by omega), el]
  · obtain ⟨v, h2, e1, e2, f⟩ := ev (σ (66 + 6 * p + 5)) (σ (66 + 6 * p + 2)) (mt_ones (mt_left σ p))
    refine ⟨h2, ?_, f⟩
    rw [show nI 1 = (1 : Int32) from rfl] at e
    simp only [n_25, e_25_0, e_25_0n, e_25_1, e_25_2, f_25_5, f_25_5n, e_25_6, e_25_6n, e_25_7, e_25_7n, e_25_10, e_25_10n, e_25_11, e_25_14, e_25_14n, e_25_15, e_25_18, e_25_19, e_25_20, e_25_20n, e_25_21, e_25_21n, e_25_22, e_25_25, e_25_25n, e_25_26, e_25_29, e_25_29n, e_25_30, e_25_33, e_25_33n, e_25_34, e_25_34n, e_25_35, e_25_38, e_25_41, e_25_42, e_25_44, e_25_47, Option.bind_some, Option.toList_some, Option.toList_none, List.cons_append, List.nil_append, am_k1_i, am_k1_r, am_k1_u, am_k1_n, am_bo0, am_bo1, am_boi, am_ev_tb, am_tb_nil, am_rfs, am_rfn, eq_self, and_self, if_true, if_false, show ¬ (1 : Int32) = 0 from by decide, show ¬ (0 : Int32) = 1 from by decide, not_true, not_false_eq_true, and_true, true_and, and_false, false_and, or_true, true_or, or_false, false_or, ha_ob r.1, e, od, cr_d r hp (show 5 < 6 by omega), cr_d r hp (show 2 < 6 by omega), e1, ha_r4 r.1, c_leftCount r hs hp, ob, e2, c_held3 (show (0 : Int32) ≤ 99999 from by decide)]
theorem c_boldOf (r : cl_R G h a σ n nd nt) (hs : mt_wf σ n nd nt) (ha : a + 25 < G 0 + 136) {q p : Nat} (hq : q < n) (hp : p < nd) : ∃ h2, am_evm G (d + 3) 26 [.ref a, .int (nI q), .ref (a + 18 + p)] h = some (some (.int (mt_bold σ nt q p)), h2) ∧ am_fr (cl_K a) h h2 := by
  have hd := hs.1.2.1.2
  have hn := hs.1.1.2
  unfold mt_bold
  rcases c_lawOf (d := d + 1) (key := 2) r hs (by omega) ha with ⟨e, el⟩ | ⟨b, e, ob, ev⟩
  · refine ⟨h, ?_, am_fr.rf⟩
    rw [show nI 2 = (2 : Int32) from rfl] at e
    simp only [n_26, e_26_0, e_26_0n, e_26_1, e_26_2, f_26_5, f_26_5n, e_26_6, e_26_6n, e_26_7, e_26_10, e_26_11, e_26_12, f_26_15, e_26_17, e_26_17n, e_26_18, e_26_18n, e_26_21, e_26_23, e_26_24, e_26_24n, e_26_25, e_26_25n, e_26_26, e_26_29, e_26_31, e_26_32, e_26_32n, e_26_33, e_26_33n, e_26_34, e_26_37, e_26_40, e_26_41, e_26_43, e_26_46, Option.bind_some, Option.toList_some, Option.toList_none, List.cons_append, List.nil_append, am_k1_i, am_k1_r, am_k1_u, am_k1_n, am_bo0, am_bo1, am_boi, am_ev_tb, am_tb_nil, am_rfs, am_rfn, eq_self, and_self, if_true, if_false, show ¬ (1 : Int32) = 0 from by decide, show ¬ (0 : Int32) = 1 from by decide, not_true, not_false_eq_true, and_true, true_and, and_false, false_and, or_true, true_or, or_false, false_or, ha_ob r.1, e, ha_r0 r.1, ha_p1 r.1 (show q < 12 by omega), am_cl (show q < 2147483648 by omega), ha_p2 r.1 (show q < 12 by omega), ha_p3 r.1 (show q < 12 by omega), cr_p r hq (show 1 < 5 by omega), el]
  · obtain ⟨v, h2, e1, e2, f⟩ := ev (σ (6 + 5 * q + 1)) (nI q) (mt_ones (mt_left σ p))
    refine ⟨h2, ?_, f⟩
    rw [show nI 2 = (2 : Int32) from rfl] at e
    simp only [n_26, e_26_0, e_26_0n, e_26_1, e_26_2, f_26_5, f_26_5n, e_26_6, e_26_6n, e_26_7, e_26_10, e_26_11, e_26_12, f_26_15, e_26_17, e_26_17n, e_26_18, e_26_18n, e_26_21, e_26_23, e_26_24, e_26_24n, e_26_25, e_26_25n, e_26_26, e_26_29, e_26_31, e_26_32, e_26_32n, e_26_33, e_26_33n, e_26_34, e_26_37, e_26_40, e_26_41, e_26_43, e_26_46, Option.bind_some, Option.toList_some, Option.toList_none, List.cons_append, List.nil_append, am_k1_i, am_k1_r, am_k1_u, am_k1_n, am_bo0, am_bo1, am_boi, am_ev_tb, am_tb_nil, am_rfs, am_rfn, eq_self, and_self, if_true, if_false, show ¬ (1 : Int32) = 0 from by decide, show ¬ (0 : Int32) = 1 from by decide, not_true, not_false_eq_true, and_true, true_and, and_false, false_and, or_true, true_or, or_false, false_or, ha_ob r.1, e, ha_r0 r.1, ha_p1 r.1 (show q < 12 by omega), am_cl (show q < 2147483648 by omega), ha_p2 r.1 (show q < 12 by omega), ha_p3 r.1 (show q < 12 by omega), cr_p r hq (show 1 < 5 by omega), e1, ha_r4 r.1, c_leftCount r hs hp, ob, e2, c_held3 (show (0 : Int32) ≤ 100 from by decide)]
theorem c_mayBe (r : cl_R G h a σ n nd nt) (hs : mt_wf σ n nd nt) (ha : a + 25 < G 0 + 136) {s q p : Nat} (hq : q < n) (hp : p < nd) : ∃ h2, am_evm G (d + 3) 27 [.ref a, .int (nI s), .ref (a + 18 + p), .int (nI q)] h = some (some (.int (if mt_may σ n nt s p q = true then 1 else 0)), h2) ∧ am_fr (cl_K a) h h2 := by
  have hd := hs.1.2.1.2
  have hn := hs.1.1.2
  have od := ha_d3 r.1 (show p < 8 by omega)
  have hb12 : ∀ i, 12 ≤ i → i < 32 → bt (mt_left σ p &&& (mt_go σ n q ^^^ (-1))) i = false := fun i h1 h2 => by rw [b_and, mt_left12 hs.1.1.1 hn i (by omega) h2, Bool.false_and]
  unfold mt_may
  by_cases hb : bt (mt_left σ p) q = true
  · have hm : ¬ mt_b (mt_left σ p) q = 0 := fun z => mt_b0.mp z hb
    by_cases ho : mt_ones (mt_left σ p &&& (mt_go σ n q ^^^ (-1))) < σ 3
    · refine ⟨h, ?_, am_fr.rf⟩
      simp only [n_27, e_27_0, e_27_0n, e_27_1, e_27_1n, e_27_2, f_27_5, e_27_7, e_27_9, e_27_10, e_27_13, e_27_16, e_27_18, e_27_18n, e_27_19, e_27_20, e_27_23, e_27_24, e_27_25, e_27_26, e_27_29, e_27_29n, e_27_30, e_27_33, e_27_36, f_27_37, e_27_38, e_27_38n, e_27_39, e_27_40, f_27_43, f_27_43n, e_27_45, e_27_45n, e_27_47, e_27_47n, e_27_50, e_27_50n, e_27_52, e_27_52n, e_27_53, e_27_56, e_27_57, e_27_58, e_27_58n, e_27_59, e_27_62, e_27_65, e_27_68, e_27_69, f_27_73, e_27_72, Option.bind_some, Option.toList_some, Option.toList_none, List.cons_append, List.nil_append, am_k1_i, am_k1_r, am_k1_u, am_k1_n, am_bo0, am_bo1, am_boi, am_ev_tb, am_tb_nil, am_rfs, am_rfn, eq_self, and_self, if_true, if_false, show ¬ (1 : Int32) = 0 from by decide, show ¬ (0 : Int32) = 1 from by decide, not_true, not_false_eq_true, and_true, true_and, and_false, false_and, or_true, true_or, or_false, false_or, ha_ob r.1, c_leftOn3 r hd hp, c_hasBit (show q < 32 by omega), hm, c_goersBy3 r hn hq, c_bitCount hb12, r.2.1.2.2.2.1, Int32.not_le.mpr ho, ho, decide_true, Bool.not_true, Bool.and_false, Bool.false_and, Bool.false_eq_true]
    · rcases c_lawOf (d := d + 1) (key := 0) r hs (by omega) ha with ⟨e, el⟩ | ⟨b, e, ob, ev⟩
      · refine ⟨h, ?_, am_fr.rf⟩
        rw [show nI 0 = (0 : Int32) from rfl] at e
        simp only [n_27, e_27_0, e_27_0n, e_27_1, e_27_1n, e_27_2, f_27_5, e_27_7, e_27_9, e_27_10, e_27_13, e_27_16, e_27_18, e_27_18n, e_27_19, e_27_20, e_27_23, e_27_24, e_27_25, e_27_26, e_27_29, e_27_29n, e_27_30, e_27_33, e_27_36, f_27_37, e_27_38, e_27_38n, e_27_39, e_27_40, f_27_43, f_27_43n, e_27_45, e_27_45n, e_27_47, e_27_47n, e_27_50, e_27_50n, e_27_52, e_27_52n, e_27_53, e_27_56, e_27_57, e_27_58, e_27_58n, e_27_59, e_27_62, e_27_65, e_27_68, e_27_69, f_27_73, e_27_72, Option.bind_some, Option.toList_some, Option.toList_none, List.cons_append, List.nil_append, am_k1_i, am_k1_r, am_k1_u, am_k1_n, am_bo0, am_bo1, am_boi, am_ev_tb, am_tb_nil, am_rfs, am_rfn, eq_self, and_self, if_true, if_false, show ¬ (1 : Int32) = 0 from by decide, show ¬ (0 : Int32) = 1 from by decide, not_true, not_false_eq_true, and_true, true_and, and_false, false_and, or_true, true_or, or_false, false_or, ha_ob r.1, c_leftOn3 r hd hp, c_hasBit (show q < 32 by omega), hm, c_goersBy3 r hn hq, c_bitCount hb12, r.2.1.2.2.2.1, Int32.not_lt.mp ho, ho, e, el, hb]
        simp
      · obtain ⟨v, h2, e1, e2, f⟩ := ev (nI s) (nI q) (σ (66 + 6 * p + 2))
        refine ⟨h2, ?_, f⟩
        rw [show nI 0 = (0 : Int32) from rfl] at e
        simp only [n_27, e_27_0, e_27_0n, e_27_1, e_27_1n, e_27_2, f_27_5, e_27_7, e_27_9, e_27_10, e_27_13, e_27_16, e_27_18, e_27_18n, e_27_19, e_27_20, e_27_23, e_27_24, e_27_25, e_27_26, e_27_29, e_27_29n, e_27_30, e_27_33, e_27_36, f_27_37, e_27_38, e_27_38n, e_27_39, e_27_40, f_27_43, f_27_43n, e_27_45, e_27_45n, e_27_47, e_27_47n, e_27_50, e_27_50n, e_27_52, e_27_52n, e_27_53, e_27_56, e_27_57, e_27_58, e_27_58n, e_27_59, e_27_62, e_27_65, e_27_68, e_27_69, f_27_73, e_27_72, Option.bind_some, Option.toList_some, Option.toList_none, List.cons_append, List.nil_append, am_k1_i, am_k1_r, am_k1_u, am_k1_n, am_bo0, am_bo1, am_boi, am_ev_tb, am_tb_nil, am_rfs, am_rfn, eq_self, and_self, if_true, if_false, show ¬ (1 : Int32) = 0 from by decide, show ¬ (0 : Int32) = 1 from by decide, not_true, not_false_eq_true, and_true, true_and, and_false, false_and, or_true, true_or, or_false, false_or, ha_ob r.1, c_leftOn3 r hd hp, c_hasBit (show q < 32 by omega), hm, c_goersBy3 r hn hq, c_bitCount hb12, r.2.1.2.2.2.1, Int32.not_lt.mp ho, ho, e, e1, hb, ob, ha_r4 r.1, od, cr_d r hp (show 2 < 6 by omega), e2]
        by_cases hz : v = 0
        · simp [hz, Option.bind_some, Option.toList_some, Option.toList_none, List.cons_append, List.nil_append, am_k1_i, am_k1_r, am_k1_u, am_k1_n, am_bo0, am_bo1, am_boi, am_ev_tb, am_tb_nil, am_rfs, am_rfn, eq_self]
        · simp [hz, Option.bind_some, Option.toList_some, Option.toList_none, List.cons_append, List.nil_append, am_k1_i, am_k1_r, am_k1_u, am_k1_n, am_bo0, am_bo1, am_boi, am_ev_tb, am_tb_nil, am_rfs, am_rfn, eq_self]
  · have hm : mt_b (mt_left σ p) q = 0 := mt_b0.mpr hb
    have hb2 : bt (mt_left σ p) q = false := by simpa using hb
    refine ⟨h, ?_, am_fr.rf⟩
    simp only [n_27, e_27_0, e_27_0n, e_27_1, e_27_1n, e_27_2, f_27_5, e_27_7, e_27_9, e_27_10, e_27_13, e_27_16, e_27_18, e_27_18n, e_27_19, e_27_20, e_27_23, e_27_24, e_27_25, e_27_26, e_27_29, e_27_29n, e_27_30, e_27_33, e_27_36, f_27_37, e_27_38, e_27_38n, e_27_39, e_27_40, f_27_43, f_27_43n, e_27_45, e_27_45n, e_27_47, e_27_47n, e_27_50, e_27_50n, e_27_52, e_27_52n, e_27_53, e_27_56, e_27_57, e_27_58, e_27_58n, e_27_59, e_27_62, e_27_65, e_27_68, e_27_69, f_27_73, e_27_72, Option.bind_some, Option.toList_some, Option.toList_none, List.cons_append, List.nil_append, am_k1_i, am_k1_r, am_k1_u, am_k1_n, am_bo0, am_bo1, am_boi, am_ev_tb, am_tb_nil, am_rfs, am_rfn, eq_self, and_self, if_true, if_false, show ¬ (1 : Int32) = 0 from by decide, show ¬ (0 : Int32) = 1 from by decide, not_true, not_false_eq_true, and_true, true_and, and_false, false_and, or_true, true_or, or_false, false_or, ha_ob r.1, c_leftOn3 r hd hp, c_hasBit (show q < 32 by omega), hm, hb2, Bool.false_and, Bool.false_eq_true]
theorem c_allMay_l (r : cl_R G h a σ n nd nt) (hs : mt_wf σ n nd nt) (ha : a + 25 < G 0 + 136) {s p : Nat} (hp : p < nd) : ∀ j q h', q + j = n → am_fr (cl_K a) h h' → ∃ h2, am_ev G (d + 4) 28 5 [some (.ref a), some (.int (nI s)), some (.ref (a + 18 + p)), some (.int (mt_mays σ n nt s p q)), some (.int (nI q))] [] h' = some (some (.int (mt_mays σ n nt s p n)), h2) ∧ am_fr (cl_K a) h h2 := by
  have hd := hs.1.2.1.2
  have hn := hs.1.1.2
  intro j
  induction j with
  | zero =>
    intro q h' hq hf
    obtain rfl : q = n := by omega
    have r' := r.fr hn hd hf (cl_K_off ha)
    refine ⟨h', ?_, hf⟩
    rw [e_28_5]
    simp only [n_28, e_28_0, f_28_1, e_28_2, f_28_3, e_28_7, e_28_8, e_28_11, e_28_14, e_28_15, e_28_16, e_28_17, e_28_19, e_28_22, e_28_25, e_28_26, e_28_27, e_28_29, e_28_30, f_28_31, f_28_32, e_28_35, e_28_38, e_28_39, Option.bind_some, Option.toList_some, Option.toList_none, List.cons_append, List.nil_append, am_k1_i, am_k1_r, am_k1_u, am_k1_n, am_bo0, am_bo1, am_boi, am_ev_tb, am_tb_nil, am_rfs, am_rfn, eq_self, and_self, if_true, if_false, show ¬ (1 : Int32) = 0 from by decide, show ¬ (0 : Int32) = 1 from by decide, not_true, not_false_eq_true, and_true, true_and, and_false, false_and, or_true, true_or, or_false, false_or, ha_ob r'.1, r'.2.1.1, hs.1.1.1, Int32.le_refl]
  | succ j ih =>
    intro q h' hq hf
    have r' := r.fr hn hd hf (cl_K_off ha)
    have hlt : ¬ nI n ≤ nI q := nI_ge (by omega) (by omega)
    obtain ⟨h2, e, f⟩ := c_mayBe (d := d) (s := s) r' hs ha (show q < n by omega) hp
    obtain ⟨h3, e3, f3⟩ := ih (q + 1) h2 (by omega) (hf.tr f)
    refine ⟨h3, ?_, f3⟩
    rw [← e3, e_28_5]
    unfold mt_mays
    rw [mt_sN]
    by_cases hm : mt_may σ n nt s p q = true
    · simp only [n_28, e_28_0, f_28_1, e_28_2, f_28_3, e_28_7, e_28_8, e_28_11, e_28_14, e_28_15, e_28_16, e_28_17, e_28_19, e_28_22, e_28_25, e_28_26, e_28_27, e_28_29, e_28_30, f_28_31, f_28_32, e_28_35, e_28_38, e_28_39, Option.bind_some, Option.toList_some, Option.toList_none, List.cons_append, List.nil_append, am_k1_i, am_k1_r, am_k1_u, am_k1_n, am_bo0, am_bo1, am_boi, am_ev_tb, am_tb_nil, am_rfs, am_rfn, eq_self, and_self, if_true, if_false, show ¬ (1 : Int32) = 0 from by decide, show ¬ (0 : Int32) = 1 from by decide, not_true, not_false_eq_true, and_true, true_and, and_false, false_and, or_true, true_or, or_false, false_or, ha_ob r'.1, r'.2.1.1, hs.1.1.1, hlt, e, hm, nI_1]
    · simp only [n_28, e_28_0, f_28_1, e_28_2, f_28_3, e_28_7, e_28_8, e_28_11, e_28_14, e_28_15, e_28_16, e_28_17, e_28_19, e_28_22, e_28_25, e_28_26, e_28_27, e_28_29, e_28_30, f_28_31, f_28_32, e_28_35, e_28_38, e_28_39, Option.bind_some, Option.toList_some, Option.toList_none, List.cons_append, List.nil_append, am_k1_i, am_k1_r, am_k1_u, am_k1_n, am_bo0, am_bo1, am_boi, am_ev_tb, am_tb_nil, am_rfs, am_rfn, eq_self, and_self, if_true, if_false, show ¬ (1 : Int32) = 0 from by decide, show ¬ (0 : Int32) = 1 from by decide, not_true, not_false_eq_true, and_true, true_and, and_false, false_and, or_true, true_or, or_false, false_or, ha_ob r'.1, r'.2.1.1, hs.1.1.1, hlt, e, hm, Bool.false_eq_true, nI_1, mt_or0]
theorem c_allMay (r : cl_R G h a σ n nd nt) (hs : mt_wf σ n nd nt) (ha : a + 25 < G 0 + 136) {s p : Nat} (hp : p < nd) : ∃ h2, am_evm G (d + 4) 28 [.ref a, .int (nI s), .ref (a + 18 + p)] h = some (some (.int (mt_mays σ n nt s p n)), h2) ∧ am_fr (cl_K a) h h2 := by
  obtain ⟨h2, e, f⟩ := c_allMay_l (d := d) (s := s) r hs ha hp n 0 h (by omega) am_fr.rf
  refine ⟨h2, ?_, f⟩
  rw [← e]
  simp only [n_28, e_28_0, f_28_1, e_28_2, f_28_3, e_28_7, e_28_8, e_28_11, e_28_14, e_28_15, e_28_16, e_28_17, e_28_19, e_28_22, e_28_25, e_28_26, e_28_27, e_28_29, e_28_30, f_28_31, f_28_32, e_28_35, e_28_38, e_28_39, Option.bind_some, Option.toList_some, Option.toList_none, List.cons_append, List.nil_append, am_k1_i, am_k1_r, am_k1_u, am_k1_n, am_bo0, am_bo1, am_boi, am_ev_tb, am_tb_nil, am_rfs, am_rfn, eq_self]
  rfl
noncomputable def mt_allLie (σ : Nat → Int32) (n p : Nat) (k : Nat) : Int32 := mt_sN (fun q => mt_lie σ n p q) k
theorem c_allLie_l (r : cl_R G h a σ n nd nt) (hs : mt_wf σ n nd nt) {p : Nat} (hp : p < nd) : ∀ j q, q + j = n → am_ev G (d + 2) 29 4 [some (.ref a), some (.ref (a + 18 + p)), some (.int (mt_allLie σ n p q)), some (.int (nI q))] [] h = some (some (.int (mt_allLie σ n p n)), h) := by
  have hd := hs.1.2.1.2
  have hn := hs.1.1.2
  have od := ha_d3 r.1 (show p < 8 by omega)
  intro j
  induction j with
  | zero =>
    intro q hq
    obtain rfl : q = n := by omega
    rw [e_29_4]
    simp only [n_29, e_29_0, f_29_1, e_29_2, f_29_3, e_29_5, e_29_6, e_29_9, e_29_12, e_29_13, e_29_14, e_29_17, e_29_18, e_29_21, e_29_22, e_29_25, e_29_26, e_29_27, e_29_28, e_29_29, f_29_30, f_29_31, e_29_34, e_29_37, e_29_38, Option.bind_some, Option.toList_some, Option.toList_none, List.cons_append, List.nil_append, am_k1_i, am_k1_r, am_k1_u, am_k1_n, am_bo0, am_bo1, am_boi, am_ev_tb, am_tb_nil, am_rfs, am_rfn, eq_self, and_self, if_true, if_false, show ¬ (1 : Int32) = 0 from by decide, show ¬ (0 : Int32) = 1 from by decide, not_true, not_false_eq_true, and_true, true_and, and_false, false_and, or_true, true_or, or_false, false_or, ha_ob r.1, r.2.1.1, hs.1.1.1, Int32.le_refl]
  | succ j ih =>
    intro q hq
    have hlt : ¬ nI n ≤ nI q := nI_ge (by omega) (by omega)
    rw [← ih (q + 1) (by omega), e_29_4]
    unfold mt_allLie
    rw [mt_sN]
    by_cases hz : mt_go σ n q &&& σ (66 + 6 * p + 0) = 0
    · have : mt_lie σ n p q = false := by unfold mt_lie; rw [decide_eq_true hz]; rfl
      simp only [n_29, e_29_0, f_29_1, e_29_2, f_29_3, e_29_5, e_29_6, e_29_9, e_29_12, e_29_13, e_29_14, e_29_17, e_29_18, e_29_21, e_29_22, e_29_25, e_29_26, e_29_27, e_29_28, e_29_29, f_29_30, f_29_31, e_29_34, e_29_37, e_29_38, Option.bind_some, Option.toList_some, Option.toList_none, List.cons_append, List.nil_append, am_k1_i, am_k1_r, am_k1_u, am_k1_n, am_bo0, am_bo1, am_boi, am_ev_tb, am_tb_nil, am_rfs, am_rfn, eq_self, and_self, if_true, if_false, show ¬ (1 : Int32) = 0 from by decide, show ¬ (0 : Int32) = 1 from by decide, not_true, not_false_eq_true, and_true, true_and, and_false, false_and, or_true, true_or, or_false, false_or, ha_ob r.1, r.2.1.1, hs.1.1.1, hlt, c_goersBy3 r hn (show q < n by omega), od, cr_d r hp (show 0 < 6 by omega), hz, this, Bool.false_eq_true, mt_or0, nI_1]
    · have : mt_lie σ n p q = true := by unfold mt_lie; rw [decide_eq_false hz]; rfl
      simp only [n_29, e_29_0, f_29_1, e_29_2, f_29_3, e_29_5, e_29_6, e_29_9, e_29_12, e_29_13, e_29_14, e_29_17, e_29_18, e_29_21, e_29_22, e_29_25, e_29_26, e_29_27, e_29_28, e_29_29, f_29_30, f_29_31, e_29_34, e_29_37, e_29_38, Option.bind_some, Option.toList_some, Option.toList_none, List.cons_append, List.nil_append, am_k1_i, am_k1_r, am_k1_u, am_k1_n, am_bo0, am_bo1, am_boi, am_ev_tb, am_tb_nil, am_rfs, am_rfn, eq_self, and_self, if_true, if_false, show ¬ (1 : Int32) = 0 from by decide, show ¬ (0 : Int32) = 1 from by decide, not_true, not_false_eq_true, and_true, true_and, and_false, false_and, or_true, true_or, or_false, false_or, ha_ob r.1, r.2.1.1, hs.1.1.1, hlt, c_goersBy3 r hn (show q < n by omega), od, cr_d r hp (show 0 < 6 by omega), hz, this, nI_1]
theorem c_allLie (r : cl_R G h a σ n nd nt) (hs : mt_wf σ n nd nt) {p : Nat} (hp : p < nd) : am_evm G (d + 2) 29 [.ref a, .ref (a + 18 + p)] h = some (some (.int (mt_allLie σ n p n)), h) := by
  have := c_allLie_l (d := d) r hs hp n 0 (by omega)
  rw [← this]
  simp only [n_29, e_29_0, f_29_1, e_29_2, f_29_3, e_29_5, e_29_6, e_29_9, e_29_12, e_29_13, e_29_14, e_29_17, e_29_18, e_29_21, e_29_22, e_29_25, e_29_26, e_29_27, e_29_28, e_29_29, f_29_30, f_29_31, e_29_34, e_29_37, e_29_38, Option.bind_some, Option.toList_some, Option.toList_none, List.cons_append, List.nil_append, am_k1_i, am_k1_r, am_k1_u, am_k1_n, am_bo0, am_bo1, am_boi, am_ev_tb, am_tb_nil, am_rfs, am_rfn, eq_self]
  rfl
theorem mt_lies_and {s p : Nat} (hn : n ≤ 12) : mt_lies σ n nt s p n = mt_mays σ n nt s p n &&& mt_allLie σ n p n := by
  apply b_ext
  intro i hi
  unfold mt_lies mt_mays mt_allLie
  rw [b_and, mt_sN_bt n (by omega) i hi, mt_sN_bt n (by omega) i hi, mt_sN_bt n (by omega) i hi]
  cases decide (i < n) <;> simp
theorem mt_andnot (x y : Int32) : x &&& ((x &&& y) ^^^ (-1)) = x &&& (y ^^^ (-1)) := by
  apply b_ext
  intro i hi
  rw [b_and, mt_not _ hi, b_and, b_and, mt_not _ hi]
  cases bt x i <;> simp
theorem c_chosenBy (r : cl_R G h a σ n nd nt) (hs : mt_wf σ n nd nt) (ha : a + 25 < G 0 + 136) {s p : Nat} (hsn : s < n) (hp : p < nd) : ∃ h2, am_evm G (d + 5) 30 [.ref a, .int (nI s), .ref (a + 18 + p)] h = some (some (.int (mt_nn (mt_choice σ n nt s p))), h2) ∧ am_fr (cl_K a) h h2 := by
  have hd := hs.1.2.1.2
  have hn := hs.1.1.2
  have od := ha_d3 r.1 (show p < 8 by omega)
  have op := ha_p3 r.1 (show s < 12 by omega)
  obtain ⟨h2, e, f⟩ := c_allMay (d := d) (s := s) r hs ha hp
  have r2 := r.fr hn hd f (cl_K_off ha)
  have e2 := c_allLie (d := d + 2) r2 hs hp
  have od2 := ha_d3 r2.1 (show p < 8 by omega)
  have op2 := ha_p3 r2.1 (show s < 12 by omega)
  unfold mt_choice mt_pick
  rw [mt_lies_and hn, mt_andnot]
  generalize mt_mays σ n nt s p n = may at *
  generalize mt_allLie σ n p n = lies at *
  obtain ⟨k, hk, hke⟩ := (hs.2.1 s hsn).1
  by_cases k4 : σ (6 + 5 * s + 0) = 4
  · by_cases hw : σ (6 + 5 * s + 1) < σ (66 + 6 * p + 2)
    · refine ⟨h, ?_, am_fr.rf⟩
      simp only [n_30, e_30_0, e_30_1, e_30_4, e_30_5, f_30_6, e_30_7, e_30_8, e_30_11, e_30_12, e_30_15, e_30_16, e_30_19, e_30_20, e_30_23, e_30_26, e_30_28, e_30_29, e_30_30, e_30_31, e_30_32, f_30_35, e_30_37, e_30_38, e_30_39, f_30_42, e_30_44, e_30_45, e_30_48, e_30_132, e_30_134, e_30_137, e_30_120, e_30_121, e_30_123, e_30_125, e_30_126, e_30_128, e_30_131, e_30_106, e_30_107, e_30_109, e_30_110, e_30_113, e_30_114, e_30_116, e_30_119, e_30_95, e_30_97, e_30_99, e_30_100, e_30_101, e_30_102, e_30_105, e_30_84, e_30_86, e_30_88, e_30_89, e_30_90, e_30_91, e_30_94, Option.bind_some, Option.toList_some, Option.toList_none, List.cons_append, List.nil_append, am_k1_i, am_k1_r, am_k1_u, am_k1_n, am_bo0, am_bo1, am_boi, am_ev_tb, am_tb_nil, am_rfs, am_rfn, eq_self, and_self, if_true, if_false, show ¬ (1 : Int32) = 0 from by decide, show ¬ (0 : Int32) = 1 from by decide, not_true, not_false_eq_true, and_true, true_and, and_false, false_and, or_true, true_or, or_false, false_or, ha_ob r.1, ha_r0 r.1, ha_p1 r.1 (show s < 12 by omega), am_cl (show s < 2147483648 by omega), ha_p2 r.1 (show s < 12 by omega), op, od, cr_p r hsn (show 0 < 5 by omega), cr_p r hsn (show 1 < 5 by omega), cr_d r hp (show 2 < 6 by omega), k4, Int32.not_le.mpr hw, hw, show ¬ (4 : Int32) = 1 from by decide, show ¬ (4 : Int32) = 2 from by decide, show ¬ (4 : Int32) = 3 from by decide]
      rfl
    · refine ⟨h2, ?_, f⟩
      simp only [n_30, e_30_0, e_30_1, e_30_4, e_30_5, f_30_6, e_30_7, e_30_8, e_30_11, e_30_12, e_30_15, e_30_16, e_30_19, e_30_20, e_30_23, e_30_26, e_30_28, e_30_29, e_30_30, e_30_31, e_30_32, f_30_35, e_30_37, e_30_38, e_30_39, f_30_42, e_30_44, e_30_45, e_30_48, e_30_132, e_30_134, e_30_137, e_30_120, e_30_121, e_30_123, e_30_125, e_30_126, e_30_128, e_30_131, e_30_106, e_30_107, e_30_109, e_30_110, e_30_113, e_30_114, e_30_116, e_30_119, e_30_95, e_30_97, e_30_99, e_30_100, e_30_101, e_30_102, e_30_105, e_30_84, e_30_86, e_30_88, e_30_89, e_30_90, e_30_91, e_30_94, Option.bind_some, Option.toList_some, Option.toList_none, List.cons_append, List.nil_append, am_k1_i, am_k1_r, am_k1_u, am_k1_n, am_bo0, am_bo1, am_boi, am_ev_tb, am_tb_nil, am_rfs, am_rfn, eq_self, and_self, if_true, if_false, show ¬ (1 : Int32) = 0 from by decide, show ¬ (0 : Int32) = 1 from by decide, not_true, not_false_eq_true, and_true, true_and, and_false, false_and, or_true, true_or, or_false, false_or, ha_ob r.1, ha_r0 r.1, ha_p1 r.1 (show s < 12 by omega), am_cl (show s < 2147483648 by omega), ha_p2 r.1 (show s < 12 by omega), op, od, cr_p r hsn (show 0 < 5 by omega), cr_p r hsn (show 1 < 5 by omega), cr_d r hp (show 2 < 6 by omega), k4, Int32.not_lt.mp hw, hw, e, ha_ob r2.1, e2, op2, cr_p r2 hsn (show 0 < 5 by omega), cr_p r2 hsn (show 3 < 5 by omega), c_firstOf, show ¬ (4 : Int32) = 1 from by decide, show ¬ (4 : Int32) = 2 from by decide, show ¬ (4 : Int32) = 3 from by decide]
  · refine ⟨h2, ?_, f⟩
    simp only [n_30, e_30_0, e_30_1, e_30_4, e_30_5, f_30_6, e_30_7, e_30_8, e_30_11, e_30_12, e_30_15, e_30_16, e_30_19, e_30_20, e_30_23, e_30_26, e_30_28, e_30_29, e_30_30, e_30_31, e_30_32, f_30_35, e_30_37, e_30_38, e_30_39, f_30_42, e_30_44, e_30_45, e_30_48, e_30_132, e_30_134, e_30_137, e_30_120, e_30_121, e_30_123, e_30_125, e_30_126, e_30_128, e_30_131, e_30_106, e_30_107, e_30_109, e_30_110, e_30_113, e_30_114, e_30_116, e_30_119, e_30_95, e_30_97, e_30_99, e_30_100, e_30_101, e_30_102, e_30_105, e_30_84, e_30_86, e_30_88, e_30_89, e_30_90, e_30_91, e_30_94, Option.bind_some, Option.toList_some, Option.toList_none, List.cons_append, List.nil_append, am_k1_i, am_k1_r, am_k1_u, am_k1_n, am_bo0, am_bo1, am_boi, am_ev_tb, am_tb_nil, am_rfs, am_rfn, eq_self, and_self, if_true, if_false, show ¬ (1 : Int32) = 0 from by decide, show ¬ (0 : Int32) = 1 from by decide, not_true, not_false_eq_true, and_true, true_and, and_false, false_and, or_true, true_or, or_false, false_or, ha_ob r.1, ha_r0 r.1, ha_p1 r.1 (show s < 12 by omega), am_cl (show s < 2147483648 by omega), ha_p2 r.1 (show s < 12 by omega), op, cr_p r hsn (show 0 < 5 by omega), k4, e, ha_ob r2.1, e2, op2, cr_p r2 hsn (show 0 < 5 by omega), cr_p r2 hsn (show 3 < 5 by omega), c_firstOf, c_leastOf, c_greatestOf]
    by_cases k1 : σ (6 + 5 * s + 0) = 1
    · simp only [k1, if_true]
    by_cases k2 : σ (6 + 5 * s + 0) = 2
    · simp only [k2, if_true, if_false, show ¬ (2 : Int32) = 1 from by decide]
    by_cases k3 : σ (6 + 5 * s + 0) = 3
    · simp only [k3, if_true, if_false, show ¬ (3 : Int32) = 1 from by decide, show ¬ (3 : Int32) = 2 from by decide]
    by_cases k5 : σ (6 + 5 * s + 0) = 5
    · simp only [k5, if_true, if_false, show ¬ (5 : Int32) = 1 from by decide, show ¬ (5 : Int32) = 2 from by decide, show ¬ (5 : Int32) = 3 from by decide]
    simp only [k1, k2, k3, k4, k5, if_false]
end CY
