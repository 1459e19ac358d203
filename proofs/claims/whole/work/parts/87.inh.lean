/-! halls, the object, the reference: as they are made -/
section IH
variable {G : Nat → Nat} {d : Nat} {h : am_H} {a : Nat}
theorem c_iHP {p : Nat} (ho : am_ob G h a 1) (hr : am_r h a 0 = some p) (hp : G 0 ≤ p ∧ p < am_top h) (hs : am_sh h p = (22, 12)) (hne : a ≠ p) : ∀ j q h', q + j = 12 → (am_top h' = am_top h + q ∧ am_sl h' = am_sl h + 6 * q) → am_ex (fun b => b = p) h h' → (∀ i, i < q → am_r h' p i = some (am_top h + i) ∧ (am_sh h' (am_top h + i)).1 = 2) → ∃ h2, am_ev G (d + 2) 5 88 [some (.ref a), some (.int (nI q))] [] h' = am_ev G (d + 2) 5 115 [some (.ref a), some (.int (nI 0))] [] h2 ∧ (am_top h2 = am_top h + 12 ∧ am_sl h2 = am_sl h + 6 * 12) ∧ am_ex (fun b => b = p) h h2 ∧ ∀ i, i < 12 → am_r h2 p i = some (am_top h + i) ∧ (am_sh h2 (am_top h + i)).1 = 2 := by
  intro j
  induction j with
  | zero =>
    intro q h' hq ht ex hi
    obtain rfl : q = 12 := by omega
    refine ⟨h', ?_, ht, ex, hi⟩
    rw [e_5_88]
    simp only [n_5, e_5_0, e_5_1, e_5_4, e_5_5, f_5_7, e_5_10, e_5_13, e_5_14, f_5_16, e_5_19, e_5_22, e_5_23, f_5_25, e_5_28, e_5_31, e_5_32, f_5_33, e_5_35, e_5_36, e_5_37, e_5_39, e_5_40, e_5_41, e_5_42, e_5_44, e_5_45, e_5_46, e_5_47, e_5_49, e_5_50, e_5_53, e_5_54, f_5_56, e_5_58, e_5_61, e_5_62, e_5_63, e_5_66, e_5_67, e_5_68, e_5_71, e_5_72, e_5_73, e_5_76, e_5_77, e_5_78, e_5_81, e_5_82, e_5_83, e_5_86, f_5_87, e_5_89, e_5_91, e_5_94, e_5_95, e_5_98, e_5_99, e_5_102, e_5_103, e_5_106, f_5_107, e_5_110, e_5_113, f_5_114, e_5_116, e_5_118, e_5_121, e_5_122, e_5_125, e_5_126, e_5_129, e_5_130, e_5_133, f_5_134, e_5_137, e_5_140, Option.bind_some, Option.toList_some, Option.toList_none, List.cons_append, List.nil_append, am_k1_i, am_k1_r, am_k1_u, am_k1_n, am_bo0, am_bo1, am_boi, am_ev_tb, am_tb_nil, am_rfs, am_rfn, eq_self, and_self, if_true, if_false, show ¬ (1 : Int32) = 0 from by decide, show ¬ (0 : Int32) = 1 from by decide, not_true, not_false_eq_true, and_true, true_and, and_false, false_and, or_true, true_or, or_false, false_or, show (12 : Int32) ≤ nI 12 from by decide]
    try rfl
  | succ j ih =>
    intro q h' hq ht ex hi
    have hlt : ¬ (12 : Int32) ≤ nI q := nI_ge (b := 12) (by omega) (by decide)
    have hle := ex.1
    have oa : am_ob G h' a 1 := ⟨⟨ho.1.1, by have := ho.1.2; omega⟩, by rw [ex.2.1 a ho.1.2]; exact ho.2⟩
    have ra : am_r h' a 0 = some p := by rw [(ex.2.2 a ho.1.2 (show ¬ a = p from hne)).2]; exact hr
    have sp : am_sh h' p = (22, 12) := by rw [ex.2.1 p hp.2]; exact hs
    have hw : am_rw G (am_new h' 2 0 6) p (nI q) (am_top h') := by
      have z : am_sh (am_new h' 2 0 6) p = (22, 12) := by rw [nw_sh (by omega)]; exact sp
      refine ⟨⟨⟨⟨hp.1, by show p < am_top h' + 1; omega⟩, ?_⟩, ?_⟩, ⟨by omega, Nat.lt_succ_self _⟩, ?_⟩
      · rw [z]; exact ⟨by decide, by decide⟩
      · rw [z]; exact nI_in (show q < 12 by omega) (by decide)
      · rw [z, nw_sh0]; rfl
    rw [e_5_88]
    simp only [n_5, e_5_0, e_5_1, e_5_4, e_5_5, f_5_7, e_5_10, e_5_13, e_5_14, f_5_16, e_5_19, e_5_22, e_5_23, f_5_25, e_5_28, e_5_31, e_5_32, f_5_33, e_5_35, e_5_36, e_5_37, e_5_39, e_5_40, e_5_41, e_5_42, e_5_44, e_5_45, e_5_46, e_5_47, e_5_49, e_5_50, e_5_53, e_5_54, f_5_56, e_5_58, e_5_61, e_5_62, e_5_63, e_5_66, e_5_67, e_5_68, e_5_71, e_5_72, e_5_73, e_5_76, e_5_77, e_5_78, e_5_81, e_5_82, e_5_83, e_5_86, f_5_87, e_5_89, e_5_91, e_5_94, e_5_95, e_5_98, e_5_99, e_5_102, e_5_103, e_5_106, f_5_107, e_5_110, e_5_113, f_5_114, e_5_116, e_5_118, e_5_121, e_5_122, e_5_125, e_5_126, e_5_129, e_5_130, e_5_133, f_5_134, e_5_137, e_5_140, Option.bind_some, Option.toList_some, Option.toList_none, List.cons_append, List.nil_append, am_k1_i, am_k1_r, am_k1_u, am_k1_n, am_bo0, am_bo1, am_boi, am_ev_tb, am_tb_nil, am_rfs, am_rfn, eq_self, and_self, if_true, if_false, show ¬ (1 : Int32) = 0 from by decide, show ¬ (0 : Int32) = 1 from by decide, not_true, not_false_eq_true, and_true, true_and, and_false, false_and, or_true, true_or, or_false, false_or, hlt, oa, ra, c_iP, hw, am_cl (show q < 2147483648 by omega), nI_1]
    refine ih (q + 1) (am_pr (am_new h' 2 0 6) p q (some (am_top h'))) (by omega) ⟨?_, ?_⟩ (ex.tr (am_ex.new.tr (am_ex.pr rfl))) (fun i hi2 => ?_)
    · show am_top h' + 1 = _; omega
    · show am_sl h' + 6 = _; omega
    · have hsh : am_sh (am_pr (am_new h' 2 0 6) p q (some (am_top h'))) = am_sh (am_new h' 2 0 6) := rfl
      rw [am_pr_r, hsh]
      by_cases e : i = q
      · rw [if_pos e, e, ← ht.1, nw_sh0]
        exact ⟨rfl, rfl⟩
      · rw [if_neg e, nw_r (by omega), nw_sh (by omega)]
        exact hi i (by omega)
theorem c_iHD {p : Nat} (ho : am_ob G h a 1) (hr : am_r h a 1 = some p) (hp : G 0 ≤ p ∧ p < am_top h) (hs : am_sh h p = (23, 8)) (hne : a ≠ p) : ∀ j q h', q + j = 8 → (am_top h' = am_top h + q ∧ am_sl h' = am_sl h + 6 * q) → am_ex (fun b => b = p) h h' → (∀ i, i < q → am_r h' p i = some (am_top h + i) ∧ (am_sh h' (am_top h + i)).1 = 0) → ∃ h2, am_ev G (d + 2) 5 115 [some (.ref a), some (.int (nI q))] [] h' = some (none, h2) ∧ (am_top h2 = am_top h + 8 ∧ am_sl h2 = am_sl h + 6 * 8) ∧ am_ex (fun b => b = p) h h2 ∧ ∀ i, i < 8 → am_r h2 p i = some (am_top h + i) ∧ (am_sh h2 (am_top h + i)).1 = 0 := by
  intro j
  induction j with
  | zero =>
    intro q h' hq ht ex hi
    obtain rfl : q = 8 := by omega
    refine ⟨h', ?_, ht, ex, hi⟩
    rw [e_5_115]
    simp only [n_5, e_5_0, e_5_1, e_5_4, e_5_5, f_5_7, e_5_10, e_5_13, e_5_14, f_5_16, e_5_19, e_5_22, e_5_23, f_5_25, e_5_28, e_5_31, e_5_32, f_5_33, e_5_35, e_5_36, e_5_37, e_5_39, e_5_40, e_5_41, e_5_42, e_5_44, e_5_45, e_5_46, e_5_47, e_5_49, e_5_50, e_5_53, e_5_54, f_5_56, e_5_58, e_5_61, e_5_62, e_5_63, e_5_66, e_5_67, e_5_68, e_5_71, e_5_72, e_5_73, e_5_76, e_5_77, e_5_78, e_5_81, e_5_82, e_5_83, e_5_86, f_5_87, e_5_89, e_5_91, e_5_94, e_5_95, e_5_98, e_5_99, e_5_102, e_5_103, e_5_106, f_5_107, e_5_110, e_5_113, f_5_114, e_5_116, e_5_118, e_5_121, e_5_122, e_5_125, e_5_126, e_5_129, e_5_130, e_5_133, f_5_134, e_5_137, e_5_140, Option.bind_some, Option.toList_some, Option.toList_none, List.cons_append, List.nil_append, am_k1_i, am_k1_r, am_k1_u, am_k1_n, am_bo0, am_bo1, am_boi, am_ev_tb, am_tb_nil, am_rfs, am_rfn, eq_self, and_self, if_true, if_false, show ¬ (1 : Int32) = 0 from by decide, show ¬ (0 : Int32) = 1 from by decide, not_true, not_false_eq_true, and_true, true_and, and_false, false_and, or_true, true_or, or_false, false_or, show (8 : Int32) ≤ nI 8 from by decide]
    try rfl
  | succ j ih =>
    intro q h' hq ht ex hi
    have hlt : ¬ (8 : Int32) ≤ nI q := nI_ge (b := 8) (by omega) (by decide)
    have hle := ex.1
    have oa : am_ob G h' a 1 := ⟨⟨ho.1.1, by have := ho.1.2; omega⟩, by rw [ex.2.1 a ho.1.2]; exact ho.2⟩
    have ra : am_r h' a 1 = some p := by rw [(ex.2.2 a ho.1.2 (show ¬ a = p from hne)).2]; exact hr
    have sp : am_sh h' p = (23, 8) := by rw [ex.2.1 p hp.2]; exact hs
    have hw : am_rw G (am_new h' 0 0 6) p (nI q) (am_top h') := by
      have z : am_sh (am_new h' 0 0 6) p = (23, 8) := by rw [nw_sh (by omega)]; exact sp
      refine ⟨⟨⟨⟨hp.1, by show p < am_top h' + 1; omega⟩, ?_⟩, ?_⟩, ⟨by omega, Nat.lt_succ_self _⟩, ?_⟩
      · rw [z]; exact ⟨by decide, by decide⟩
      · rw [z]; exact nI_in (show q < 8 by omega) (by decide)
      · rw [z, nw_sh0]; rfl
    rw [e_5_115]
    simp only [n_5, e_5_0, e_5_1, e_5_4, e_5_5, f_5_7, e_5_10, e_5_13, e_5_14, f_5_16, e_5_19, e_5_22, e_5_23, f_5_25, e_5_28, e_5_31, e_5_32, f_5_33, e_5_35, e_5_36, e_5_37, e_5_39, e_5_40, e_5_41, e_5_42, e_5_44, e_5_45, e_5_46, e_5_47, e_5_49, e_5_50, e_5_53, e_5_54, f_5_56, e_5_58, e_5_61, e_5_62, e_5_63, e_5_66, e_5_67, e_5_68, e_5_71, e_5_72, e_5_73, e_5_76, e_5_77, e_5_78, e_5_81, e_5_82, e_5_83, e_5_86, f_5_87, e_5_89, e_5_91, e_5_94, e_5_95, e_5_98, e_5_99, e_5_102, e_5_103, e_5_106, f_5_107, e_5_110, e_5_113, f_5_114, e_5_116, e_5_118, e_5_121, e_5_122, e_5_125, e_5_126, e_5_129, e_5_130, e_5_133, f_5_134, e_5_137, e_5_140, Option.bind_some, Option.toList_some, Option.toList_none, List.cons_append, List.nil_append, am_k1_i, am_k1_r, am_k1_u, am_k1_n, am_bo0, am_bo1, am_boi, am_ev_tb, am_tb_nil, am_rfs, am_rfn, eq_self, and_self, if_true, if_false, show ¬ (1 : Int32) = 0 from by decide, show ¬ (0 : Int32) = 1 from by decide, not_true, not_false_eq_true, and_true, true_and, and_false, false_and, or_true, true_or, or_false, false_or, hlt, oa, ra, c_iD, hw, am_cl (show q < 2147483648 by omega), nI_1]
    refine ih (q + 1) (am_pr (am_new h' 0 0 6) p q (some (am_top h'))) (by omega) ⟨?_, ?_⟩ (ex.tr (am_ex.new.tr (am_ex.pr rfl))) (fun i hi2 => ?_)
    · show am_top h' + 1 = _; omega
    · show am_sl h' + 6 = _; omega
    · have hsh : am_sh (am_pr (am_new h' 0 0 6) p q (some (am_top h'))) = am_sh (am_new h' 0 0 6) := rfl
      rw [am_pr_r, hsh]
      by_cases e : i = q
      · rw [if_pos e, e, ← ht.1, nw_sh0]
        exact ⟨rfl, rfl⟩
      · rw [if_neg e, nw_r (by omega), nw_sh (by omega)]
        exact hi i (by omega)
def hl_1 (h : am_H) (a : Nat) : am_H := am_pr (am_new (am_pr (am_new (am_pr (am_new h 22 12 12) a 0 (some (am_top h))) 23 8 8) a 1 (some (am_top h + 1))) 24 14 14) a 2 (some (am_top h + 2))
def hl_2 (h : am_H) (a : Nat) : am_H := am_pr (am_pi (am_pi (am_pi (am_new (hl_1 h a) 20 3 3) (am_top h + 3) 0 (-1000000005)) (am_top h + 3) 1 (-1000000005)) (am_top h + 3) 2 (-1000000005)) a 3 (some (am_top h + 3))
def hl_3 (h : am_H) (a : Nat) : am_H := am_pi (am_pi (am_pi (am_pi (am_pi (am_pr (am_new (hl_2 h a) 20 96 96) a 4 (some (am_top h + 4))) a 5 0) a 6 0) a 7 0) a 8 2) a 9 1
theorem hl_t1 : am_top (hl_1 h a) = am_top h + 3 := rfl
theorem hl_t2 : am_top (hl_2 h a) = am_top h + 4 := rfl
theorem hl_t3 : am_top (hl_3 h a) = am_top h + 5 := rfl
theorem c_iH0 (ho : am_ob G h a 1) (hG : G 0 ≤ am_top h) : am_evm G (d + 2) 5 [.ref a] h = am_ev G (d + 2) 5 88 [some (.ref a), some (.int (nI 0))] [] (hl_3 h a) := by
  have o1 : am_ob G (hl_1 h a) a 1 := by
    have z1 : am_ob G (am_pr (am_new h 22 12 12) a 0 (some (am_top h))) a 1 := ob_nw (s := 12) ho
    have z2 : am_ob G (am_pr (am_new (am_pr (am_new h 22 12 12) a 0 (some (am_top h))) 23 8 8) a 1 (some (am_top h + 1))) a 1 := ob_nw (s := 8) z1
    exact ob_nw (k := 24) (n := 14) (s := 14) z2
  have o1n : am_ob G (am_new (hl_1 h a) 20 3 3) a 1 := ob_nw o1
  have o2 : am_ob G (hl_2 h a) a 1 := o1n
  have o2n : am_ob G (am_new (hl_2 h a) 20 96 96) a 1 := ob_nw o2
  have hG1 : G 0 ≤ am_top (hl_1 h a) := by rw [hl_t1]; omega
  have e1 : am_evm G (d + 2) 5 [.ref a] h = am_ev G (d + 2) 5 31 [some (.ref a), none] [] (hl_1 h a) := by
    simp (maxDischargeDepth := 20) only [n_5, e_5_0, e_5_1, e_5_4, e_5_5, f_5_7, e_5_10, e_5_13, e_5_14, f_5_16, e_5_19, e_5_22, e_5_23, f_5_25, e_5_28, e_5_32, f_5_33, e_5_35, e_5_36, e_5_37, e_5_39, e_5_40, e_5_41, e_5_42, e_5_44, e_5_45, e_5_46, e_5_47, e_5_49, e_5_50, e_5_53, e_5_54, f_5_56, e_5_58, e_5_61, e_5_62, e_5_63, e_5_66, e_5_67, e_5_68, e_5_71, e_5_72, e_5_73, e_5_76, e_5_77, e_5_78, e_5_81, e_5_82, e_5_83, e_5_86, f_5_87, e_5_89, e_5_91, e_5_94, e_5_95, e_5_98, e_5_99, e_5_102, e_5_103, e_5_106, f_5_107, e_5_110, e_5_113, f_5_114, e_5_116, e_5_118, e_5_121, e_5_122, e_5_125, e_5_126, e_5_129, e_5_130, e_5_133, f_5_134, e_5_137, e_5_140, Option.bind_some, Option.toList_some, Option.toList_none, List.cons_append, List.nil_append, am_k1_i, am_k1_r, am_k1_u, am_k1_n, am_bo0, am_bo1, am_boi, am_ev_tb, am_tb_nil, am_rfs, am_rfn, eq_self, and_self, if_true, if_false, show ¬ (1 : Int32) = 0 from by decide, show ¬ (0 : Int32) = 1 from by decide, not_true, not_false_eq_true, and_true, true_and, and_false, false_and, or_true, true_or, or_false, false_or, nn_12, nn_8, nn_14, show (12 : Int32).toNatClampNeg = 12 from rfl, show (8 : Int32).toNatClampNeg = 8 from rfl, show (14 : Int32).toNatClampNeg = 14 from rfl, ho, ob_nw, ob_pr]
    rfl
  have w : ∀ j, j < 3 → am_iw G (am_new (hl_1 h a) 20 3 3) (am_top (hl_1 h a)) (nI j) := fun j hj => iw_nw hG1 (nI_in hj (by decide))
  have w0 : am_iw G (am_new (hl_1 h a) 20 3 3) (am_top (hl_1 h a)) 0 := w 0 (by omega)
  have w1 : am_iw G (am_new (hl_1 h a) 20 3 3) (am_top (hl_1 h a)) 1 := w 1 (by omega)
  have w2 : am_iw G (am_new (hl_1 h a) 20 3 3) (am_top (hl_1 h a)) 2 := w 2 (by omega)
  have e2 : am_ev G (d + 2) 5 31 [some (.ref a), none] [] (hl_1 h a) = am_ev G (d + 2) 5 53 [some (.ref a), none] [] (hl_2 h a) := by
    rw [e_5_31]
    simp only [n_5, e_5_0, e_5_1, e_5_4, e_5_5, f_5_7, e_5_10, e_5_13, e_5_14, f_5_16, e_5_19, e_5_22, e_5_23, f_5_25, e_5_28, e_5_32, f_5_33, e_5_35, e_5_36, e_5_37, e_5_39, e_5_40, e_5_41, e_5_42, e_5_44, e_5_45, e_5_46, e_5_47, e_5_49, e_5_50, e_5_54, f_5_56, e_5_58, e_5_61, e_5_62, e_5_63, e_5_66, e_5_67, e_5_68, e_5_71, e_5_72, e_5_73, e_5_76, e_5_77, e_5_78, e_5_81, e_5_82, e_5_83, e_5_86, f_5_87, e_5_89, e_5_91, e_5_94, e_5_95, e_5_98, e_5_99, e_5_102, e_5_103, e_5_106, f_5_107, e_5_110, e_5_113, f_5_114, e_5_116, e_5_118, e_5_121, e_5_122, e_5_125, e_5_126, e_5_129, e_5_130, e_5_133, f_5_134, e_5_137, e_5_140, Option.bind_some, Option.toList_some, Option.toList_none, List.cons_append, List.nil_append, am_k1_i, am_k1_r, am_k1_u, am_k1_n, am_bo0, am_bo1, am_boi, am_ev_tb, am_tb_nil, am_rfs, am_rfn, eq_self, and_self, if_true, if_false, show ¬ (1 : Int32) = 0 from by decide, show ¬ (0 : Int32) = 1 from by decide, not_true, not_false_eq_true, and_true, true_and, and_false, false_and, or_true, true_or, or_false, false_or, nn_3, show (3 : Int32).toNatClampNeg = 3 from rfl, show (0 : Int32).toNatClampNeg = 0 from rfl, show (1 : Int32).toNatClampNeg = 1 from rfl, show (2 : Int32).toNatClampNeg = 2 from rfl, w0, w1, w2, am_iw_pi, am_ob_pi, o1n]
    rfl
  have e3 : am_ev G (d + 2) 5 53 [some (.ref a), none] [] (hl_2 h a) = am_ev G (d + 2) 5 88 [some (.ref a), some (.int (nI 0))] [] (hl_3 h a) := by
    rw [e_5_53]
    simp only [n_5, e_5_0, e_5_1, e_5_4, e_5_5, f_5_7, e_5_10, e_5_13, e_5_14, f_5_16, e_5_19, e_5_22, e_5_23, f_5_25, e_5_28, e_5_32, f_5_33, e_5_35, e_5_36, e_5_37, e_5_39, e_5_40, e_5_41, e_5_42, e_5_44, e_5_45, e_5_46, e_5_47, e_5_49, e_5_50, e_5_54, f_5_56, e_5_58, e_5_61, e_5_62, e_5_63, e_5_66, e_5_67, e_5_68, e_5_71, e_5_72, e_5_73, e_5_76, e_5_77, e_5_78, e_5_81, e_5_82, e_5_83, e_5_86, f_5_87, e_5_89, e_5_91, e_5_94, e_5_95, e_5_98, e_5_99, e_5_102, e_5_103, e_5_106, f_5_107, e_5_110, e_5_113, f_5_114, e_5_116, e_5_118, e_5_121, e_5_122, e_5_125, e_5_126, e_5_129, e_5_130, e_5_133, f_5_134, e_5_137, e_5_140, Option.bind_some, Option.toList_some, Option.toList_none, List.cons_append, List.nil_append, am_k1_i, am_k1_r, am_k1_u, am_k1_n, am_bo0, am_bo1, am_boi, am_ev_tb, am_tb_nil, am_rfs, am_rfn, eq_self, and_self, if_true, if_false, show ¬ (1 : Int32) = 0 from by decide, show ¬ (0 : Int32) = 1 from by decide, not_true, not_false_eq_true, and_true, true_and, and_false, false_and, or_true, true_or, or_false, false_or, nn_96, show (96 : Int32).toNatClampNeg = 96 from rfl, o2n, ob_pr, am_ob_pi]
    rfl
  rw [e1, e2, e3]
/-- a hall made at a -/
theorem c_iH (ho : am_ob G h a 1) (ht : am_top h = a + 1) (hG : G 0 ≤ a) : ∃ h2, am_evm G (d + 2) 5 [.ref a] h = some (none, h2) ∧ (am_top h2 = a + 26 ∧ am_sl h2 = am_sl h + 253) ∧ am_ex (fun b => b = a) h h2 ∧ cl_Hall G h2 a ∧ (am_i h2 a 5 = 0 ∧ am_i h2 a 6 = 0 ∧ am_i h2 a 7 = 0 ∧ am_i h2 a 8 = 2 ∧ am_i h2 a 9 = 1) ∧ (∀ k, k < 3 → am_i h2 (a + 4) k = -1000000005) ∧ ∀ t, am_r h2 (a + 3) t = none := by
  have e0 := c_iH0 (d := d) ho (by omega)
  have t3 : am_top (hl_3 h a) = a + 6 := by rw [hl_t3, ht]
  have o3 : am_ob G (hl_3 h a) a 1 := by
    refine ⟨⟨hG, by omega⟩, ?_⟩
    show (am_sh (am_new (hl_2 h a) 20 96 96) a).1 = 1
    rw [nw_sh (by rw [hl_t2]; omega)]
    show (am_sh (am_new (hl_1 h a) 20 3 3) a).1 = 1
    rw [nw_sh (by rw [hl_t1]; omega)]
    show (am_sh (am_new (am_pr (am_new (am_pr (am_new h 22 12 12) a 0 (some (am_top h))) 23 8 8) a 1 (some (am_top h + 1))) 24 14 14) a).1 = 1
    rw [nw_sh (by show a ≠ am_top h + 1 + 1; omega)]
    show (am_sh (am_new (am_pr (am_new h 22 12 12) a 0 (some (am_top h))) 23 8 8) a).1 = 1
    rw [nw_sh (by show a ≠ am_top h + 1; omega)]
    show (am_sh (am_new h 22 12 12) a).1 = 1
    rw [nw_sh (by omega)]
    exact ho.2
  have S : ∀ b, b ≠ a + 5 → am_sh (hl_3 h a) b = am_sh (hl_2 h a) b := fun b hb => nw_sh (h := hl_2 h a) (sl := 96) (by rw [hl_t2]; omega)
  have S2 : ∀ b, b ≠ a + 4 → am_sh (hl_2 h a) b = am_sh (hl_1 h a) b := fun b hb => nw_sh (h := hl_1 h a) (sl := 3) (by rw [hl_t1]; omega)
  have s5 : am_sh (hl_3 h a) (a + 5) = (20, 96) := by
    rw [show a + 5 = am_top (hl_2 h a) by rw [hl_t2]; omega]
    exact nw_sh0 (h := hl_2 h a) (sl := 96)
  have s4 : am_sh (hl_3 h a) (a + 4) = (20, 3) := by
    rw [S _ (by omega), show a + 4 = am_top (hl_1 h a) by rw [hl_t1]; omega]
    exact nw_sh0 (h := hl_1 h a) (sl := 3)
  let g1 := am_pr (am_new h 22 12 12) a 0 (some (am_top h))
  let g2 := am_pr (am_new g1 23 8 8) a 1 (some (am_top h + 1))
  have tg1 : am_top g1 = a + 2 := by show am_top h + 1 = _; omega
  have tg2 : am_top g2 = a + 3 := by show am_top h + 1 + 1 = _; omega
  have s3 : am_sh (hl_3 h a) (a + 3) = (24, 14) := by
    rw [S _ (by omega), S2 _ (by omega), ← tg2]
    exact nw_sh0 (h := g2) (sl := 14)
  have s2 : am_sh (hl_3 h a) (a + 2) = (23, 8) := by
    rw [S _ (by omega), S2 _ (by omega)]
    show am_sh (am_new g2 24 14 14) (a + 2) = _
    rw [nw_sh (by omega), ← tg1]
    exact nw_sh0 (h := g1) (sl := 8)
  have s1 : am_sh (hl_3 h a) (a + 1) = (22, 12) := by
    rw [S _ (by omega), S2 _ (by omega)]
    show am_sh (am_new g2 24 14 14) (a + 1) = _
    rw [nw_sh (by omega)]
    show am_sh (am_new g1 23 8 8) (a + 1) = _
    rw [nw_sh (by omega), ← ht]
    exact nw_sh0 (h := h) (sl := 12)
  have ex3 : am_ex (fun b => b = a) h (hl_3 h a) := by
    have x1 : am_ex (fun b => b = a) h (hl_1 h a) := am_ex.new (X := fun b => b = a) |>.tr (am_ex.pr rfl) |>.tr am_ex.new |>.tr (am_ex.pr rfl) |>.tr am_ex.new |>.tr (am_ex.pr rfl)
    have x2 : am_ex (fun b => b = a ∨ b = am_top h + 3) (hl_1 h a) (hl_2 h a) := am_ex.new (X := fun b => b = a ∨ b = am_top h + 3) |>.tr (am_ex.pi (Or.inr rfl)) |>.tr (am_ex.pi (Or.inr rfl)) |>.tr (am_ex.pi (Or.inr rfl)) |>.tr (am_ex.pr (Or.inl rfl))
    have x3 : am_ex (fun b => b = a) (hl_2 h a) (hl_3 h a) := am_ex.new (X := fun b => b = a) |>.tr (am_ex.pr rfl) |>.tr (am_ex.pi rfl) |>.tr (am_ex.pi rfl) |>.tr (am_ex.pi rfl) |>.tr (am_ex.pi rfl) |>.tr (am_ex.pi rfl)
    have x2' : am_ex (fun b => b = a) (hl_1 h a) (hl_2 h a) := x2.wd (fun b hb z => by rw [hl_t1] at hb; omega)
    exact (x1.tr x2').tr x3
  have R : ∀ j, am_r (hl_3 h a) a j = if j = 4 then some (a + 5) else if j = 3 then some (a + 4) else if j = 2 then some (a + 3) else if j = 1 then some (a + 2) else if j = 0 then some (a + 1) else am_r h a j := fun j => by
    show am_r (am_pr (am_new (hl_2 h a) 20 96 96) a 4 (some (am_top h + 4))) a j = _
    rw [am_pr_r, ht]
    by_cases z4 : j = 4
    · rw [if_pos z4, if_pos z4]
    rw [if_neg z4, if_neg z4, nw_r (by rw [hl_t2]; omega)]
    show am_r (am_pr (am_pi (am_pi (am_pi (am_new (hl_1 h a) 20 3 3) (am_top h + 3) 0 (-1000000005)) (am_top h + 3) 1 (-1000000005)) (am_top h + 3) 2 (-1000000005)) a 3 (some (am_top h + 3))) a j = _
    rw [am_pr_r, ht]
    by_cases z3 : j = 3
    · rw [if_pos z3, if_pos z3]
    rw [if_neg z3, if_neg z3]
    show am_r (am_new (hl_1 h a) 20 3 3) a j = _
    rw [nw_r (by rw [hl_t1]; omega)]
    show am_r (am_pr (am_new g2 24 14 14) a 2 (some (am_top h + 2))) a j = _
    rw [am_pr_r, ht]
    by_cases z2 : j = 2
    · rw [if_pos z2, if_pos z2]
    rw [if_neg z2, if_neg z2, nw_r (by omega)]
    show am_r (am_pr (am_new g1 23 8 8) a 1 (some (am_top h + 1))) a j = _
    rw [am_pr_r, ht]
    by_cases z1 : j = 1
    · rw [if_pos z1, if_pos z1]
    rw [if_neg z1, if_neg z1, nw_r (by omega)]
    show am_r (am_pr (am_new h 22 12 12) a 0 (some (am_top h))) a j = _
    rw [am_pr_r, ht]
    by_cases z0 : j = 0
    · rw [if_pos z0, if_pos z0]
    rw [if_neg z0, if_neg z0, nw_r (by omega)]
  obtain ⟨h4, e4, ⟨t4, l4⟩, x4, p4⟩ := c_iHP (d := d) (p := a + 1) o3 (by rw [R]; rfl) ⟨by omega, by omega⟩ s1 (by omega) 12 0 (hl_3 h a) (by omega) ⟨by omega, by omega⟩ am_ex.rf (fun i hi => absurd hi (Nat.not_lt_zero i))
  have o4 : am_ob G h4 a 1 := ⟨⟨hG, by omega⟩, by rw [x4.2.1 a (by omega)]; exact o3.2⟩
  have A4 : ∀ b, b < a + 6 → b ≠ a + 1 → am_i h4 b = am_i (hl_3 h a) b ∧ am_r h4 b = am_r (hl_3 h a) b := fun b h1 h2 => x4.2.2 b (by omega) (show ¬ b = a + 1 from h2)
  obtain ⟨h5, e5, ⟨t5, l5⟩, x5, p5⟩ := c_iHD (d := d) (p := a + 2) o4 (by rw [(A4 a (by omega) (by omega)).2, R]; rfl) ⟨by omega, by omega⟩ (by rw [x4.2.1 _ (by omega)]; exact s2) (by omega) 8 0 h4 (by omega) ⟨by omega, by omega⟩ am_ex.rf (fun i hi => absurd hi (Nat.not_lt_zero i))
  have Z : ∀ b, b < a + 6 → am_sh h5 b = am_sh (hl_3 h a) b := fun b hb => (x5.2.1 b (by omega)).trans (x4.2.1 b (by omega))
  have A5 : ∀ b, b < a + 6 → b ≠ a + 1 → b ≠ a + 2 → am_i h5 b = am_i (hl_3 h a) b ∧ am_r h5 b = am_r (hl_3 h a) b := fun b h1 h2 h3 => ⟨(x5.2.2 b (by omega) (show ¬ b = a + 2 from h3)).1.trans (A4 b h1 h2).1, (x5.2.2 b (by omega) (show ¬ b = a + 2 from h3)).2.trans (A4 b h1 h2).2⟩
  have I : ∀ j, 5 ≤ j → am_i (hl_3 h a) a j = if j = 9 then 1 else if j = 8 then 2 else if j = 7 then 0 else if j = 6 then 0 else if j = 5 then 0 else am_i h a j := fun j hj => by
    show am_i (am_pi _ a 9 1) a j = _
    rw [am_pi_i]
    by_cases z9 : j = 9
    · rw [if_pos ⟨rfl, z9⟩, if_pos z9]
    rw [if_neg (fun q => z9 q.2), if_neg z9, am_pi_i]
    by_cases z8 : j = 8
    · rw [if_pos ⟨rfl, z8⟩, if_pos z8]
    rw [if_neg (fun q => z8 q.2), if_neg z8, am_pi_i]
    by_cases z7 : j = 7
    · rw [if_pos ⟨rfl, z7⟩, if_pos z7]
    rw [if_neg (fun q => z7 q.2), if_neg z7, am_pi_i]
    by_cases z6 : j = 6
    · rw [if_pos ⟨rfl, z6⟩, if_pos z6]
    rw [if_neg (fun q => z6 q.2), if_neg z6, am_pi_i]
    by_cases z5 : j = 5
    · rw [if_pos ⟨rfl, z5⟩, if_pos z5]
    rw [if_neg (fun q => z5 q.2), if_neg z5]
    show am_i (am_new (hl_2 h a) 20 96 96) a j = _
    rw [nw_i (by rw [hl_t2]; omega)]
    show am_i (am_pi (am_pi (am_pi (am_new (hl_1 h a) 20 3 3) (am_top h + 3) 0 (-1000000005)) (am_top h + 3) 1 (-1000000005)) (am_top h + 3) 2 (-1000000005)) a j = _
    rw [am_pi_i, if_neg (by omega), am_pi_i, if_neg (by omega), am_pi_i, if_neg (by omega), nw_i (by rw [hl_t1]; omega)]
    show am_i (am_new g2 24 14 14) a j = _
    rw [nw_i (by omega)]
    show am_i (am_new g1 23 8 8) a j = _
    rw [nw_i (by omega)]
    show am_i (am_new h 22 12 12) a j = _
    rw [nw_i (by omega)]
  have sl3 : am_sl (hl_3 h a) = am_sl h + 133 := by show am_sl h + 12 + 8 + 14 + 3 + 96 = _; omega
  refine ⟨h5, ?_, ⟨by omega, by omega⟩, ?_, ?_, ?_, fun k hk => ?_, fun t => ?_⟩
  · rw [e0, e4, e5]
  · refine ⟨by omega, fun b hb => (Z b (by omega)).trans (ex3.2.1 b hb), fun b hb hx => ?_⟩
    have q := ex3.2.2 b hb hx
    have q2 := A5 b (by omega) (by omega) (by omega)
    exact ⟨q2.1.trans q.1, q2.2.trans q.2⟩
  · refine ⟨⟨hG, by omega, by rw [Z a (by omega)]; exact o3.2⟩, ?_, ⟨by rw [Z _ (by omega)]; exact s1, by rw [Z _ (by omega)]; exact s2, by rw [Z _ (by omega)]; exact s3, by rw [Z _ (by omega)]; exact s4, by rw [Z _ (by omega)]; exact s5⟩, fun p hp => ?_, fun p hp => ?_⟩
    · rw [(A5 a (by omega) (by omega) (by omega)).2, R 0, R 1, R 2, R 3, R 4]
      exact ⟨rfl, rfl, rfl, rfl, rfl⟩
    · have q := p4 p hp
      rw [t3] at q
      rw [(x5.2.2 (a + 1) (by omega) (show ¬ a + 1 = a + 2 by omega)).2, x5.2.1 (a + 6 + p) (by omega)]
      exact q
    · have q := p5 p hp
      rw [t4, t3] at q
      exact q
  · rw [(A5 a (by omega) (by omega) (by omega)).1, I 5 (by omega), I 6 (by omega), I 7 (by omega), I 8 (by omega), I 9 (by omega)]
    exact ⟨rfl, rfl, rfl, rfl, rfl⟩
  · rw [(A5 (a + 4) (by omega) (by omega) (by omega)).1]
    show am_i (am_pi _ a 9 1) (a + 4) k = _
    rw [am_pi_i, if_neg (by omega), am_pi_i, if_neg (by omega), am_pi_i, if_neg (by omega), am_pi_i, if_neg (by omega), am_pi_i, if_neg (by omega)]
    show am_i (am_new (hl_2 h a) 20 96 96) (a + 4) k = _
    rw [nw_i (by rw [hl_t2]; omega)]
    show am_i (am_pi (am_pi (am_pi (am_new (hl_1 h a) 20 3 3) (am_top h + 3) 0 (-1000000005)) (am_top h + 3) 1 (-1000000005)) (am_top h + 3) 2 (-1000000005)) (a + 4) k = _
    rw [show a + 4 = am_top h + 3 by omega]
    rcases (show k = 0 ∨ k = 1 ∨ k = 2 by omega) with rfl | rfl | rfl
    · rw [am_pi_i, if_neg (by omega), am_pi_i, if_neg (by omega), am_pi_i, if_pos ⟨rfl, rfl⟩]
    · rw [am_pi_i, if_neg (by omega), am_pi_i, if_pos ⟨rfl, rfl⟩]
    · rw [am_pi_i, if_pos ⟨rfl, rfl⟩]
  · rw [(A5 (a + 3) (by omega) (by omega) (by omega)).2]
    show am_r (am_pr (am_new (hl_2 h a) 20 96 96) a 4 (some (am_top h + 4))) (a + 3) t = _
    rw [pr_ne (by omega), nw_r (by rw [hl_t2]; omega)]
    show am_r (am_pr (am_pi (am_pi (am_pi (am_new (hl_1 h a) 20 3 3) (am_top h + 3) 0 (-1000000005)) (am_top h + 3) 1 (-1000000005)) (am_top h + 3) 2 (-1000000005)) a 3 (some (am_top h + 3))) (a + 3) t = _
    rw [pr_ne (by omega)]
    show am_r (am_new (hl_1 h a) 20 3 3) (a + 3) t = _
    rw [nw_r (by rw [hl_t1]; omega)]
    show am_r (am_pr (am_new g2 24 14 14) a 2 (some (am_top h + 2))) (a + 3) t = _
    rw [pr_ne (by omega), ← tg2, nw_r0]
end IH
