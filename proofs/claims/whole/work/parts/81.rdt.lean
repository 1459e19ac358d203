/-! the tape as a text: the reference's parse, the class's readTape -/
section RT
variable {G : Nat → Nat} {d : Nat} {h hr : am_H} {m t W key A k k2 nt : Nat} {T : Nat → Int32} {st ln : Nat → Nat}
def rp_A (nt : Nat) : Nat := if nt < 14 then 114 + 200 * nt + 4 else 2914
theorem m_parse0 (Er : rp_E G hr m T t W st ln key (rp_A nt)) (hn : am_i hr (m + 1) 2 = nI nt) (hn14 : nt ≤ 14) {q : Option Nat} (hq : tk_key T st ln q) : ∃ h1, rp_F hr h1 m (rp_A nt) ∧ rp_S T W st ln (rp_A nt) h1 m 0 0 0 [] ∧ am_evm G (d + 3) 201 [.ref m] hr = am_ev G (d + 3) 201 71 [some (.ref m), none, none] [.int (tk_kv (-1) q)] h1 := by
  have l := Er.1
  have iw : am_ia G hr (m + 1) 2 := cm_ia1 l (show 2 < 3114 by omega)
  have hA : rp_A nt + 196 ≤ 3114 := Er.2.2.2.1
  let H := am_pi (am_pi (am_pi (am_pi (am_pi (am_pi (am_pi hr m 16 0) m 17 3) m 20 0) m 21 0) m 22 0) m 24 0) m 23 (nI (rp_A nt))
  have e1 : am_evm G (d + 3) 201 [.ref m] hr = am_ev G (d + 3) 201 63 [some (.ref m), none, none] [] H := by
    have g2 : am_i (am_pi (am_pi (am_pi (am_pi (am_pi (am_pi hr m 16 0) m 17 3) m 20 0) m 21 0) m 22 0) m 24 0) (m + 1) 2 = nI nt := by
      rw [am_pi_i, if_neg (by omega), am_pi_i, if_neg (by omega), am_pi_i, if_neg (by omega), am_pi_i, if_neg (by omega), am_pi_i, if_neg (by omega), am_pi_i, if_neg (by omega)]; exact hn
    by_cases h14 : nt < 14
    · have hlt : ¬ (14 : Int32) ≤ nI nt := nI_ge (b := 14) h14 (by decide)
      have hA' : nI (114 + 200 * nt) + 4 = nI (rp_A nt) := by unfold rp_A; rw [if_pos h14]; exact nI_add _ 4
      simp only [n_201, e_201_0, e_201_1, e_201_2, e_201_5, e_201_6, e_201_7, e_201_10, e_201_11, e_201_12, e_201_15, e_201_16, e_201_17, e_201_20, e_201_21, e_201_22, e_201_25, e_201_26, e_201_27, e_201_30, e_201_31, e_201_32, e_201_35, e_201_36, e_201_37, e_201_39, e_201_42, e_201_43, e_201_44, e_201_47, e_201_48, e_201_49, e_201_52, e_201_53, e_201_54, e_201_60, e_201_64, e_201_67, e_201_68, f_201_71, e_201_72, e_201_73, e_201_76, e_201_77, f_201_81, e_201_82, e_201_83, e_201_86, e_201_87, e_201_90, e_201_91, e_201_92, e_201_95, e_201_98, e_201_99, e_201_102, e_201_105, e_201_106, f_201_110, e_201_111, e_201_112, e_201_113, e_201_116, e_201_117, e_201_120, e_201_121, e_201_125, e_201_124, e_201_109, e_201_80, e_201_57, Option.bind_some, Option.toList_some, Option.toList_none, List.cons_append, List.nil_append, am_k1_i, am_k1_r, am_k1_u, am_k1_n, am_bo0, am_bo1, am_boi, am_ev_tb, am_tb_nil, am_rfs, am_rfn, eq_self, and_self, if_true, if_false, show ¬ (1 : Int32) = 0 from by decide, show ¬ (0 : Int32) = 1 from by decide, not_true, not_false_eq_true, and_true, true_and, and_false, false_and, or_true, true_or, or_false, false_or, cm_ob l, am_ob_pi, am_pi_r, cm_r0 l, am_ia_pi, iw, show (2 : Int32).toNatClampNeg = 2 from rfl, g2, hlt, m_textAt, hA']
      try rfl
    · have hle : (14 : Int32) ≤ nI nt := nI_le (a := 14) (by omega) (by omega)
      have hA' : (2914 : Int32) = nI (rp_A nt) := by unfold rp_A; rw [if_neg h14]; rfl
      simp only [n_201, e_201_0, e_201_1, e_201_2, e_201_5, e_201_6, e_201_7, e_201_10, e_201_11, e_201_12, e_201_15, e_201_16, e_201_17, e_201_20, e_201_21, e_201_22, e_201_25, e_201_26, e_201_27, e_201_30, e_201_31, e_201_32, e_201_35, e_201_36, e_201_37, e_201_39, e_201_42, e_201_43, e_201_44, e_201_47, e_201_48, e_201_49, e_201_52, e_201_53, e_201_54, e_201_60, e_201_64, e_201_67, e_201_68, f_201_71, e_201_72, e_201_73, e_201_76, e_201_77, f_201_81, e_201_82, e_201_83, e_201_86, e_201_87, e_201_90, e_201_91, e_201_92, e_201_95, e_201_98, e_201_99, e_201_102, e_201_105, e_201_106, f_201_110, e_201_111, e_201_112, e_201_113, e_201_116, e_201_117, e_201_120, e_201_121, e_201_125, e_201_124, e_201_109, e_201_80, e_201_57, Option.bind_some, Option.toList_some, Option.toList_none, List.cons_append, List.nil_append, am_k1_i, am_k1_r, am_k1_u, am_k1_n, am_bo0, am_bo1, am_boi, am_ev_tb, am_tb_nil, am_rfs, am_rfn, eq_self, and_self, if_true, if_false, show ¬ (1 : Int32) = 0 from by decide, show ¬ (0 : Int32) = 1 from by decide, not_true, not_false_eq_true, and_true, true_and, and_false, false_and, or_true, true_or, or_false, false_or, cm_ob l, am_ob_pi, am_pi_r, cm_r0 l, am_ia_pi, iw, show (2 : Int32).toNatClampNeg = 2 from rfl, g2, hle]
      rw [hA']
  have fH : am_fr (fun b => b = m) hr H := (((((((am_fr.pi (S := fun b => b = m) rfl).tr (am_fr.pi rfl)).tr (am_fr.pi rfl)).tr (am_fr.pi rfl)).tr (am_fr.pi rfl)).tr (am_fr.pi rfl)).tr (am_fr.pi rfl))
  have lH : cm_Lay G H m := l.fr fH
  have kH : ∀ j, j ≠ 16 → j ≠ 17 → (j < 20 ∨ 24 < j) → am_i H m j = am_i hr m j := fun j q1 q2 q3 => by
    show am_i (am_pi _ m 23 _) m j = _
    rw [am_pi_i, if_neg (by omega), am_pi_i, if_neg (by omega), am_pi_i, if_neg (by omega), am_pi_i, if_neg (by omega), am_pi_i, if_neg (by omega), am_pi_i, if_neg (by omega), am_pi_i, if_neg (by omega)]
  have v16 : am_i H m 16 = 0 := by
    show am_i (am_pi _ m 23 _) m 16 = _
    rw [am_pi_i, if_neg (by omega), am_pi_i, if_neg (by omega), am_pi_i, if_neg (by omega), am_pi_i, if_neg (by omega), am_pi_i, if_neg (by omega), am_pi_i, if_neg (by omega), am_pi_i, if_pos ⟨rfl, rfl⟩]
  have v20 : am_i H m 20 = 0 := by
    show am_i (am_pi _ m 23 _) m 20 = _
    rw [am_pi_i, if_neg (by omega), am_pi_i, if_neg (by omega), am_pi_i, if_neg (by omega), am_pi_i, if_neg (by omega), am_pi_i, if_pos ⟨rfl, rfl⟩]
  have v21 : am_i H m 21 = 0 := by
    show am_i (am_pi _ m 23 _) m 21 = _
    rw [am_pi_i, if_neg (by omega), am_pi_i, if_neg (by omega), am_pi_i, if_neg (by omega), am_pi_i, if_pos ⟨rfl, rfl⟩]
  have v22 : am_i H m 22 = 0 := by
    show am_i (am_pi _ m 23 _) m 22 = _
    rw [am_pi_i, if_neg (by omega), am_pi_i, if_neg (by omega), am_pi_i, if_pos ⟨rfl, rfl⟩]
  have v24 : am_i H m 24 = 0 := by
    show am_i (am_pi _ m 23 _) m 24 = _
    rw [am_pi_i, if_neg (by omega), am_pi_i, if_pos ⟨rfl, rfl⟩]
  have v23 : am_i H m 23 = nI (rp_A nt) := by
    show am_i (am_pi _ m 23 _) m 23 = _
    rw [am_pi_i, if_pos ⟨rfl, rfl⟩]
  have hTH : ∀ j, j < t → am_i H (m + 13) j = T j := fun j hj => by rw [fH.i1 (by omega)]; exact Er.2.1.2 j hj
  obtain ⟨h1, en, f1, k1, R1⟩ := m_next0 (d := d) lH (by rw [kH 14 (by omega) (by omega) (by omega)]; exact Er.2.1.1) Er.2.2.1 hTH v16
  have f01 := fH.tr f1
  have l1 := lH.fr f1
  have ek := m_key (d := d + 1) l1 Er.2.2.1 (fun j hj => by rw [f1.i1 (by omega)]; exact hTH j hj) R1 hq
  have g1 : am_i h1 (m + 1) = am_i hr (m + 1) := f01.i1 (by omega)
  refine ⟨h1, ⟨f01.wd (fun b hb => Or.inl hb), fun j hj => by rw [k1 j (by omega), kH j (by omega) (by omega) (by omega)], fun j hj => by rw [g1]⟩, ⟨R1, ⟨by rw [k1 20 (by omega), v20]; rfl, by rw [k1 21 (by omega), v21]; rfl, by rw [k1 22 (by omega), v22]; rfl, by rw [k1 23 (by omega), v23], by rw [k1 24 (by omega), v24]; rfl⟩, fun i x hx => by cases hx⟩, ?_⟩
  rw [e1, e_201_63]
  simp only [n_201, e_201_0, e_201_1, e_201_2, e_201_5, e_201_6, e_201_7, e_201_10, e_201_11, e_201_12, e_201_15, e_201_16, e_201_17, e_201_20, e_201_21, e_201_22, e_201_25, e_201_26, e_201_27, e_201_30, e_201_31, e_201_32, e_201_35, e_201_36, e_201_37, e_201_39, e_201_42, e_201_43, e_201_44, e_201_47, e_201_48, e_201_49, e_201_52, e_201_53, e_201_54, e_201_60, e_201_64, e_201_67, e_201_68, e_201_72, e_201_73, e_201_76, e_201_77, f_201_81, e_201_82, e_201_83, e_201_86, e_201_87, e_201_90, e_201_91, e_201_92, e_201_95, e_201_98, e_201_99, e_201_102, e_201_105, e_201_106, f_201_110, e_201_111, e_201_112, e_201_113, e_201_116, e_201_117, e_201_120, e_201_121, e_201_125, e_201_124, e_201_109, e_201_80, e_201_57, Option.bind_some, Option.toList_some, Option.toList_none, List.cons_append, List.nil_append, am_k1_i, am_k1_r, am_k1_u, am_k1_n, am_bo0, am_bo1, am_boi, am_ev_tb, am_tb_nil, am_rfs, am_rfn, eq_self, and_self, if_true, if_false, show ¬ (1 : Int32) = 0 from by decide, show ¬ (0 : Int32) = 1 from by decide, not_true, not_false_eq_true, and_true, true_and, and_false, false_and, or_true, true_or, or_false, false_or, cm_ob lH, en, cm_ob l1, ek]
/-- the text is none, at a word -/
theorem m_parseN {q : Option Nat} (Er : rp_E G hr m T t W st ln key (rp_A nt)) (hn : am_i hr (m + 1) 2 = nI nt) (hn14 : nt ≤ 14) (hq : tk_key T st ln q) (hres : (q = none ∧ k2 = 0) ∨ (q = some key ∧ rp_N G hr m T W st ln key (rp_A nt) 0 1 0 0 k2) ∨ (q = some key ∧ k2 < W ∧ ∃ sub, rp_O G hr m T W st ln key (rp_A nt) 0 1 0 0 k2 sub)) (hd : 170 ≤ d) : ∃ h3, am_evm G (d + 3) 201 [.ref m] hr = some (some (.int (-1)), am_pi h3 m 14 0) ∧ rp_F hr h3 m (rp_A nt) ∧ am_i h3 m 15 = nI (st k2) := by
  obtain ⟨h1, F1, S1, e1⟩ := m_parse0 (d := d) Er hn hn14 hq
  rcases hres with ⟨rfl, rfl⟩ | hres
  · refine ⟨h1, ?_, F1, S1.1.1⟩
    rw [show tk_kv (-1) none = -1 from rfl] at e1
    rw [e1, f_201_71 am_k1_r]
    simp only [n_201, e_201_0, e_201_1, e_201_2, e_201_5, e_201_6, e_201_7, e_201_10, e_201_11, e_201_12, e_201_15, e_201_16, e_201_17, e_201_20, e_201_21, e_201_22, e_201_25, e_201_26, e_201_27, e_201_30, e_201_31, e_201_32, e_201_35, e_201_36, e_201_37, e_201_39, e_201_42, e_201_43, e_201_44, e_201_47, e_201_48, e_201_49, e_201_52, e_201_53, e_201_54, e_201_60, e_201_64, e_201_67, e_201_68, e_201_72, e_201_73, e_201_76, e_201_77, f_201_81, e_201_82, e_201_83, e_201_86, e_201_87, e_201_90, e_201_91, e_201_92, e_201_95, e_201_98, e_201_99, e_201_102, e_201_105, e_201_106, f_201_110, e_201_111, e_201_112, e_201_113, e_201_116, e_201_117, e_201_120, e_201_121, e_201_125, e_201_124, e_201_109, e_201_80, e_201_57, Option.bind_some, Option.toList_some, Option.toList_none, List.cons_append, List.nil_append, am_k1_i, am_k1_r, am_k1_u, am_k1_n, am_bo0, am_bo1, am_boi, am_ev_tb, am_tb_nil, am_rfs, am_rfn, eq_self, and_self, if_true, if_false, show ¬ (1 : Int32) = 0 from by decide, show ¬ (0 : Int32) = 1 from by decide, not_true, not_false_eq_true, and_true, true_and, and_false, false_and, or_true, true_or, or_false, false_or, show (-1 : Int32) < 0 from by decide, cm_ob (rp_l Er F1)]
  · have hqk : q = some key := by rcases hres with z | z; exact z.1; exact z.1
    subst hqk
    have hkey := Er.2.2.2.2
    have hk1 : tk_kd T W st ln 0 = 1 := by
      match key, hkey, hq with
      | 0, _, hq => exact tk_is1 Er.2.2.1 (by omega) (by decide) hq
      | 1, _, hq => exact tk_is1 Er.2.2.1 (by omega) (by decide) hq.2
      | 2, _, hq => exact tk_is1 Er.2.2.1 (by omega) (by decide) hq.2.2
      | n + 3, hlt, _ => omega
    have h0W : 0 < W := tk_lt (T := T) (st := st) (ln := ln) (by omega)
    have hW96 : W ≤ 96 := by have := Er.2.2.1.1; have := Er.2.2.1.2.1.1; omega
    obtain ⟨ha, ea, Fa, Sa⟩ := rp_next (d := d) Er F1 h0W (by omega) S1
    have hnn : ¬ nI key < 0 := nI_pos (by omega)
    rw [show tk_kv (-1) (some key) = nI key from rfl] at e1
    have hpd : pd_n 0 0 0 ≤ d + 2 := by unfold pd_n; rw [if_neg (by decide)]; omega
    rcases hres with ⟨_, H⟩ | ⟨_, hk2W, sub, H⟩
    · obtain ⟨hb, eb, Fb, Xb⟩ := H (d + 2) ha [] hpd (by show 0 + (W - 1) ≤ 96; omega) Fa Sa
      have eb2 : am_evm G (d + 2) 195 [.ref m, .int (nI key)] ha = some (some (.int 0), hb) := eb
      refine ⟨hb, ?_, Fb, Xb⟩
      rw [e1, f_201_71 am_k1_r]
      simp only [n_201, e_201_0, e_201_1, e_201_2, e_201_5, e_201_6, e_201_7, e_201_10, e_201_11, e_201_12, e_201_15, e_201_16, e_201_17, e_201_20, e_201_21, e_201_22, e_201_25, e_201_26, e_201_27, e_201_30, e_201_31, e_201_32, e_201_35, e_201_36, e_201_37, e_201_39, e_201_42, e_201_43, e_201_44, e_201_47, e_201_48, e_201_49, e_201_52, e_201_53, e_201_54, e_201_60, e_201_64, e_201_67, e_201_68, e_201_72, e_201_73, e_201_76, e_201_77, f_201_81, e_201_82, e_201_83, e_201_86, e_201_87, e_201_90, e_201_91, e_201_92, e_201_95, e_201_98, e_201_99, e_201_102, e_201_105, e_201_106, f_201_110, e_201_111, e_201_112, e_201_113, e_201_116, e_201_117, e_201_120, e_201_121, e_201_125, e_201_124, e_201_109, e_201_80, e_201_57, Option.bind_some, Option.toList_some, Option.toList_none, List.cons_append, List.nil_append, am_k1_i, am_k1_r, am_k1_u, am_k1_n, am_bo0, am_bo1, am_boi, am_ev_tb, am_tb_nil, am_rfs, am_rfn, eq_self, and_self, if_true, if_false, show ¬ (1 : Int32) = 0 from by decide, show ¬ (0 : Int32) = 1 from by decide, not_true, not_false_eq_true, and_true, true_and, and_false, false_and, or_true, true_or, or_false, false_or, hnn, cm_ob (rp_l Er F1), ea, cm_ob (rp_l Er Fa), eb2, cm_ob (rp_l Er Fb)]
    · obtain ⟨hb, eb, Fb, Sb⟩ := H (d + 2) ha [] hpd (by show 0 + (W - 1) ≤ 96; omega) Fa Sa
      have eb2 : am_evm G (d + 2) 195 [.ref m, .int (nI key)] ha = some (some (.int 1), hb) := eb
      have q17 : ¬ am_i hb m 17 = 0 := by
        rw [Sb.1.2.2.1]
        have : tk_kd T W st ln k2 ≤ 4 := by unfold tk_kd; (repeat' split) <;> omega
        refine nI_ne0 ?_ (by omega)
        have : tk_kd T W st ln k2 ≠ 0 := by
          unfold tk_kd
          rw [if_pos hk2W]
          (repeat' split) <;> omega
        omega
      refine ⟨hb, ?_, Fb, Sb.1.1⟩
      rw [e1, f_201_71 am_k1_r]
      simp only [n_201, e_201_0, e_201_1, e_201_2, e_201_5, e_201_6, e_201_7, e_201_10, e_201_11, e_201_12, e_201_15, e_201_16, e_201_17, e_201_20, e_201_21, e_201_22, e_201_25, e_201_26, e_201_27, e_201_30, e_201_31, e_201_32, e_201_35, e_201_36, e_201_37, e_201_39, e_201_42, e_201_43, e_201_44, e_201_47, e_201_48, e_201_49, e_201_52, e_201_53, e_201_54, e_201_60, e_201_64, e_201_67, e_201_68, e_201_72, e_201_73, e_201_76, e_201_77, f_201_81, e_201_82, e_201_83, e_201_86, e_201_87, e_201_90, e_201_91, e_201_92, e_201_95, e_201_98, e_201_99, e_201_102, e_201_105, e_201_106, f_201_110, e_201_111, e_201_112, e_201_113, e_201_116, e_201_117, e_201_120, e_201_121, e_201_125, e_201_124, e_201_109, e_201_80, e_201_57, Option.bind_some, Option.toList_some, Option.toList_none, List.cons_append, List.nil_append, am_k1_i, am_k1_r, am_k1_u, am_k1_n, am_bo0, am_bo1, am_boi, am_ev_tb, am_tb_nil, am_rfs, am_rfn, eq_self, and_self, if_true, if_false, show ¬ (1 : Int32) = 0 from by decide, show ¬ (0 : Int32) = 1 from by decide, not_true, not_false_eq_true, and_true, true_and, and_false, false_and, or_true, true_or, or_false, false_or, hnn, cm_ob (rp_l Er F1), ea, cm_ob (rp_l Er Fa), eb2, cm_ob (rp_l Er Fb), q17]
theorem m_parseO {sub : List (Int32 × Int32)} (Er : rp_E G hr m T t W st ln key (rp_A nt)) (hn : am_i hr (m + 1) 2 = nI nt) (hn14 : nt ≤ 14) (hq : tk_key T st ln (some key)) (H : rp_O G hr m T W st ln key (rp_A nt) 0 1 0 0 W sub) (hd : 170 ≤ d) : ∃ h3, am_evm G (d + 3) 201 [.ref m] hr = some (some (.int (nI key)), am_pi h3 m 14 0) ∧ rp_F hr h3 m (rp_A nt) ∧ am_i h3 m 22 = nI sub.length ∧ am_i h3 m 24 = nI (ot_n sub) ∧ ∀ i x, sub[i]? = some x → am_i h3 (m + 1) (rp_A nt + 2 * i) = x.1 ∧ am_i h3 (m + 1) (rp_A nt + 2 * i + 1) = x.2 := by
  obtain ⟨h1, F1, S1, e1⟩ := m_parse0 (d := d) Er hn hn14 hq
  have hkey := Er.2.2.2.2
  have hk1 : tk_kd T W st ln 0 = 1 := by
    match key, hkey, hq with
    | 0, _, hq => exact tk_is1 Er.2.2.1 (by omega) (by decide) hq
    | 1, _, hq => exact tk_is1 Er.2.2.1 (by omega) (by decide) hq.2
    | 2, _, hq => exact tk_is1 Er.2.2.1 (by omega) (by decide) hq.2.2
    | n + 3, hlt, _ => omega
  have h0W : 0 < W := tk_lt (T := T) (st := st) (ln := ln) (by omega)
  have hW96 : W ≤ 96 := by have := Er.2.2.1.1; have := Er.2.2.1.2.1.1; omega
  obtain ⟨ha, ea, Fa, Sa⟩ := rp_next (d := d) Er F1 h0W (by omega) S1
  have hnn : ¬ nI key < 0 := nI_pos (by omega)
  rw [show tk_kv (-1) (some key) = nI key from rfl] at e1
  have hpd : pd_n 0 0 0 ≤ d + 2 := by unfold pd_n; rw [if_neg (by decide)]; omega
  obtain ⟨hb, eb, Fb, Sb⟩ := H (d + 2) ha [] hpd (by show 0 + (W - 1) ≤ 96; omega) Fa Sa
  have eb2 : am_evm G (d + 2) 195 [.ref m, .int (nI key)] ha = some (some (.int 1), hb) := eb
  have q17 : am_i hb m 17 = 0 := by rw [Sb.1.2.2.1, tk_kd_W]; rfl
  rw [List.nil_append] at Sb
  refine ⟨hb, ?_, Fb, Sb.2.1.2.2.1, Sb.2.1.2.2.2.2, Sb.2.2⟩
  rw [e1, f_201_71 am_k1_r]
  simp only [n_201, e_201_0, e_201_1, e_201_2, e_201_5, e_201_6, e_201_7, e_201_10, e_201_11, e_201_12, e_201_15, e_201_16, e_201_17, e_201_20, e_201_21, e_201_22, e_201_25, e_201_26, e_201_27, e_201_30, e_201_31, e_201_32, e_201_35, e_201_36, e_201_37, e_201_39, e_201_42, e_201_43, e_201_44, e_201_47, e_201_48, e_201_49, e_201_52, e_201_53, e_201_54, e_201_60, e_201_64, e_201_67, e_201_68, e_201_72, e_201_73, e_201_76, e_201_77, f_201_81, e_201_82, e_201_83, e_201_86, e_201_87, e_201_90, e_201_91, e_201_92, e_201_95, e_201_98, e_201_99, e_201_102, e_201_105, e_201_106, f_201_110, e_201_111, e_201_112, e_201_113, e_201_116, e_201_117, e_201_120, e_201_121, e_201_125, e_201_124, e_201_109, e_201_80, e_201_57, Option.bind_some, Option.toList_some, Option.toList_none, List.cons_append, List.nil_append, am_k1_i, am_k1_r, am_k1_u, am_k1_n, am_bo0, am_bo1, am_boi, am_ev_tb, am_tb_nil, am_rfs, am_rfn, eq_self, and_self, if_true, if_false, show ¬ (1 : Int32) = 0 from by decide, show ¬ (0 : Int32) = 1 from by decide, not_true, not_false_eq_true, and_true, true_and, and_false, false_and, or_true, true_or, or_false, false_or, hnn, cm_ob (rp_l Er F1), ea, cm_ob (rp_l Er Fa), eb2, cm_ob (rp_l Er Fb), q17]
end RT
section RC
variable {G : Nat → Nat} {d : Nat} {h : am_H} {o t W key k2 : Nat} {T : Nat → Int32} {st ln : Nat → Nat}
def rd_S (o : Nat) : Nat → Prop := fun b => b = o + 79 ∨ (o + 82 ≤ b ∧ b ≤ o + 85)
/-- up to the first word -/
theorem c_read0 (lo : cl_Obj G h o) (cE : cl_E G h) (ho : o = G 0) (ht : am_i h (o + 80) 1 = nI t) (ht96 : t ≤ 96) (hT : ∀ j, j < t → am_i h (o + 81) j &&& 255 = T j) : ∃ hc W st ln, am_fr (rd_S o) h hc ∧ (∀ key, key < 3 → pc_E G hc o T t W st ln key) ∧ am_i hc (o + 79) 5 = nI W ∧ am_i hc (o + 79) 6 = 0 ∧ am_i hc (o + 79) 7 = 0 ∧ am_i hc (o + 79) 8 = 0 ∧ am_i hc (o + 79) 10 = -1000000005 ∧ am_evm G (d + 3) 42 [.ref (o + 79)] h = am_ev G (d + 3) 42 25 [some (.ref (o + 79))] [] hc := by
  let H := am_pi (am_pi (am_pi (am_pi h (o + 79) 6 0) (o + 79) 7 0) (o + 79) 8 0) (o + 79) 10 (-1000000005)
  have fH : am_fr (fun b => b = o + 79) h H := (((am_fr.pi (S := fun b => b = o + 79) rfl).tr (am_fr.pi rfl)).tr (am_fr.pi rfl)).tr (am_fr.pi rfl)
  have lH := lo.fr fH
  obtain ⟨hc, W, st, ln, es, fs, ks, w5, A, b, E⟩ := c_splitTape (d := d) (T := T) lH (t := t) (by rw [fH.i1 (by omega)]; exact ht) ht96 (fun j hj => by rw [fH.i1 (by omega)]; exact hT j hj)
  have f : am_fr (rd_S o) h hc := (fH.wd (fun b hb => by unfold rd_S; omega)).tr (fs.wd (fun b hb => by unfold cw_S at hb; unfold rd_S; omega))
  refine ⟨hc, W, st, ln, f, fun key hkey => ⟨⟨lo.fr f, cl_E.fr (S := rd_S o) cE f.2.2.1 (fun b hb => f.i1 (fun z => by unfold rd_S at z; omega)), ho⟩, ⟨by rw [f.i1 (fun z => by unfold rd_S at z; omega)]; exact ht, fun j hj => by rw [f.i1 (fun z => by unfold rd_S at z; omega)]; exact hT j hj⟩, E, A, b, hkey⟩, w5, ?_, ?_, ?_, ?_, ?_⟩
  · rw [ks 6 (by decide)]
    show am_i (am_pi _ (o + 79) 10 _) (o + 79) 6 = 0
    rw [am_pi_i, if_neg (by omega), am_pi_i, if_neg (by omega), am_pi_i, if_neg (by omega), am_pi_i, if_pos ⟨rfl, rfl⟩]
  · rw [ks 7 (by decide)]
    show am_i (am_pi _ (o + 79) 10 _) (o + 79) 7 = 0
    rw [am_pi_i, if_neg (by omega), am_pi_i, if_neg (by omega), am_pi_i, if_pos ⟨rfl, rfl⟩]
  · rw [ks 8 (by decide)]
    show am_i (am_pi _ (o + 79) 10 _) (o + 79) 8 = 0
    rw [am_pi_i, if_neg (by omega), am_pi_i, if_pos ⟨rfl, rfl⟩]
  · rw [ks 10 (by decide)]
    show am_i (am_pi _ (o + 79) 10 _) (o + 79) 10 = -1000000005
    rw [am_pi_i, if_pos ⟨rfl, rfl⟩]
  · have es' : am_evm G (d + 2) 44 [.ref (o + 79)] (am_pi (am_pi (am_pi (am_pi h (o + 79) 6 0) (o + 79) 7 0) (o + 79) 8 0) (o + 79) 10 (-1000000005)) = some (none, hc) := es
    simp only [n_42, e_42_0, e_42_0n, e_42_1, e_42_2, e_42_5, e_42_5n, e_42_6, e_42_7, e_42_10, e_42_10n, e_42_11, e_42_12, e_42_15, e_42_15n, e_42_16, e_42_18, e_42_21, e_42_21n, e_42_22, e_42_26, e_42_29, e_42_29n, e_42_30, e_42_31, e_42_32, e_42_33, e_42_36, e_42_36n, e_42_37, e_42_40, e_42_40n, e_42_41, e_42_44, e_42_45, e_42_46, e_42_49, e_42_49n, e_42_50, e_42_53, e_42_53n, e_42_54, e_42_57, e_42_59, e_42_62, e_42_65, e_42_66, e_42_66n, e_42_67, e_42_70, e_42_70n, e_42_71, e_42_74, e_42_74n, e_42_75, e_42_78, e_42_81, e_42_85, e_42_85n, e_42_84, Option.bind_some, Option.toList_some, Option.toList_none, List.cons_append, List.nil_append, am_k1_i, am_k1_r, am_k1_u, am_k1_n, am_bo0, am_bo1, am_boi, am_ev_tb, am_tb_nil, am_rfs, am_rfn, eq_self, and_self, if_true, if_false, show ¬ (1 : Int32) = 0 from by decide, show ¬ (0 : Int32) = 1 from by decide, not_true, not_false_eq_true, and_true, true_and, and_false, false_and, or_true, true_or, or_false, false_or, co_rd lo, am_ob_pi, es']
/-- the first word is a key -/
theorem c_read1 (E : pc_E G h o T t W st ln key) (h5 : am_i h (o + 79) 5 = nI W) (h6 : am_i h (o + 79) 6 = 0) (h7 : am_i h (o + 79) 7 = 0) (h8 : am_i h (o + 79) 8 = 0) (h10 : am_i h (o + 79) 10 = -1000000005) (hq : tk_key T st ln (some key)) (h0W : 0 < W) : ∃ h2, am_evm G (d + 5) 50 [.ref (o + 79)] h = some (none, h2) ∧ am_fr (pc_Q o) h h2 ∧ pc_S h2 o W key 1 [] := by
  have f0 : am_fr (pc_Q o) h (am_pi h (o + 79) 9 (nI key)) := am_fr.pi (Or.inl rfl)
  have S0 : pc_S (am_pi h (o + 79) 9 (nI key)) o W key 0 [] := by
    refine ⟨⟨?_, ?_, ?_, ?_, ?_, ?_⟩, fun i x hx => by cases hx⟩
    · rw [am_pi_i, if_neg (by omega)]; exact h5
    · rw [am_pi_i, if_neg (by omega)]; exact h6
    · rw [am_pi_i, if_neg (by omega)]; exact h7
    · rw [am_pi_i, if_neg (by omega)]; exact h8
    · rw [am_pi_i, if_pos ⟨rfl, rfl⟩]
    · rw [am_pi_i, if_neg (by omega)]; exact h10
  obtain ⟨h2, e2, f2, S2⟩ := c_goOn (d := d + 4) E f0 h0W S0
  refine ⟨h2, ?_, f2, S2⟩
  have hkey := E.2.2.2.2.2
  have hne : ¬ nI key = -1000000005 := pc_ne (by omega)
  have g9 : am_i (am_pi h (o + 79) 9 (nI key)) (o + 79) 9 = nI key := by rw [am_pi_i, if_pos ⟨rfl, rfl⟩]
  rw [c_key E am_fr.rf h6 hq]
  show am_ev G (d + 5) 50 42 [some (.ref (o + 79))] [.int (nI key), .ref (o + 79)] h = _
  rw [e_50_42]
  · simp only [n_50, e_50_0, e_50_1, e_50_2, e_50_4, e_50_7, e_50_10, e_50_11, e_50_45, e_50_46, e_50_49, e_50_51, e_50_54, e_50_55, e_50_58, e_50_65, e_50_61, e_50_62, e_50_14, e_50_15, e_50_17, e_50_20, e_50_23, e_50_24, e_50_27, e_50_28, e_50_30, e_50_33, e_50_36, e_50_37, e_50_40, Option.bind_some, Option.toList_some, Option.toList_none, List.cons_append, List.nil_append, am_k1_i, am_k1_r, am_k1_u, am_k1_n, am_bo0, am_bo1, am_boi, am_ev_tb, am_tb_nil, am_rfs, am_rfn, eq_self, and_self, if_true, if_false, show ¬ (1 : Int32) = 0 from by decide, show ¬ (0 : Int32) = 1 from by decide, not_true, not_false_eq_true, and_true, true_and, and_false, false_and, or_true, true_or, or_false, false_or, co_rd (pc_lo E f0), g9, hne, e2]
  · exact co_rd E.1.1
theorem c_read1N (E : pc_E G h o T t W st ln key) (h5 : am_i h (o + 79) 5 = nI W) (h6 : am_i h (o + 79) 6 = 0) (h7 : am_i h (o + 79) 7 = 0) (h10 : am_i h (o + 79) 10 = -1000000005) (hq : tk_key T st ln none) : ∃ h2, am_evm G (d + 5) 50 [.ref (o + 79)] h = some (none, h2) ∧ am_fr (pc_Q o) h h2 ∧ pc_X h2 o W st 0 := by
  have f0 : am_fr (pc_Q o) h (am_pi h (o + 79) 9 (-1000000005)) := am_fr.pi (Or.inl rfl)
  have f1 : am_fr (pc_Q o) h (am_pi (am_pi h (o + 79) 9 (-1000000005)) (o + 79) 10 (nI (st 0))) := f0.tr (am_fr.pi (Or.inl rfl))
  have lo := pc_lo E f0
  have g9 : am_i (am_pi h (o + 79) 9 (-1000000005)) (o + 79) 9 = -1000000005 := by rw [am_pi_i, if_pos ⟨rfl, rfl⟩]
  have g10 : am_i (am_pi h (o + 79) 9 (-1000000005)) (o + 79) 10 = -1000000005 := by rw [am_pi_i, if_neg (by omega)]; exact h10
  have g6 : am_i (am_pi h (o + 79) 9 (-1000000005)) (o + 79) 6 = nI 0 := by rw [am_pi_i, if_neg (by omega)]; exact h6
  have ef : am_evm G (d + 4) 47 [.ref (o + 79)] (am_pi h (o + 79) 9 (-1000000005)) = some (none, am_pi (am_pi h (o + 79) 9 (-1000000005)) (o + 79) 10 (nI (st 0))) := by
    simp only [n_47, e_47_0, e_47_1, e_47_4, e_47_6, e_47_9, e_47_10, e_47_11, e_47_14, e_47_15, e_47_18, e_47_19, e_47_22, Option.bind_some, Option.toList_some, Option.toList_none, List.cons_append, List.nil_append, am_k1_i, am_k1_r, am_k1_u, am_k1_n, am_bo0, am_bo1, am_boi, am_ev_tb, am_tb_nil, am_rfs, am_rfn, eq_self, and_self, if_true, if_false, show ¬ (1 : Int32) = 0 from by decide, show ¬ (0 : Int32) = 1 from by decide, not_true, not_false_eq_true, and_true, true_and, and_false, false_and, or_true, true_or, or_false, false_or, co_rd lo, g10, co_e2 lo, g6, co_2a lo (show 0 < 97 by omega), am_cl (show 0 < 2147483648 by omega), pc_st E f0 (Nat.zero_le W)]
  refine ⟨_, ?_, f1, ?_, ⟨0, by omega, ?_⟩, ⟨0, Nat.zero_le W, ?_⟩, ?_⟩
  · rw [c_key E am_fr.rf h6 hq]
    show am_ev G (d + 5) 50 42 [some (.ref (o + 79))] [.int (-1000000005), .ref (o + 79)] h = _
    rw [e_50_42]
    · simp only [n_50, e_50_0, e_50_1, e_50_2, e_50_4, e_50_7, e_50_10, e_50_11, e_50_45, e_50_46, e_50_49, e_50_51, e_50_54, e_50_55, e_50_58, e_50_65, e_50_61, e_50_62, e_50_14, e_50_15, e_50_17, e_50_20, e_50_23, e_50_24, e_50_27, e_50_28, e_50_30, e_50_33, e_50_36, e_50_37, e_50_40, Option.bind_some, Option.toList_some, Option.toList_none, List.cons_append, List.nil_append, am_k1_i, am_k1_r, am_k1_u, am_k1_n, am_bo0, am_bo1, am_boi, am_ev_tb, am_tb_nil, am_rfs, am_rfn, eq_self, and_self, if_true, if_false, show ¬ (1 : Int32) = 0 from by decide, show ¬ (0 : Int32) = 1 from by decide, not_true, not_false_eq_true, and_true, true_and, and_false, false_and, or_true, true_or, or_false, false_or, co_rd lo, g9, ef]
    · exact co_rd E.1.1
  · rw [am_pi_i, if_neg (by omega), am_pi_i, if_neg (by omega)]; exact h5
  · rw [am_pi_i, if_neg (by omega), am_pi_i, if_neg (by omega)]; exact h7
  · rw [am_pi_i, if_neg (by omega)]; exact g6
  · rw [am_pi_i, if_pos ⟨rfl, rfl⟩]
/-- behind a fault -/
theorem c_readX (E : pc_E G h o T t W st ln key) {h1 : am_H} (f1 : am_fr (pc_Q o) h h1) (hk2 : k2 ≤ W) (X : pc_X h1 o W st k2) : am_ev G (d + 3) 42 36 [some (.ref (o + 79))] [] h1 = some (some .null, h1) := by
  obtain ⟨x1, x2, ⟨q, hq, x3⟩, x4⟩ := X
  have X : pc_X h1 o W st k2 := ⟨x1, x2, ⟨q, hq, x3⟩, x4⟩
  have lo := pc_lo E f1
  have hW := pc_W E
  have hX := pc_Xn E hk2 X
  have ef := c_failX (d := d + 2) E f1 hk2 X
  rw [e_42_36]
  by_cases h5 : am_i h1 (o + 82) q = 5
  · simp only [n_42, e_42_0, e_42_0n, e_42_1, e_42_2, e_42_5, e_42_5n, e_42_6, e_42_7, e_42_10, e_42_10n, e_42_11, e_42_12, e_42_15, e_42_15n, e_42_16, e_42_18, e_42_21, e_42_21n, e_42_22, e_42_26, e_42_29, e_42_29n, e_42_30, e_42_31, e_42_32, e_42_33, e_42_37, e_42_40, e_42_40n, e_42_41, e_42_44, e_42_45, e_42_46, e_42_49, e_42_49n, e_42_50, e_42_53, e_42_53n, e_42_54, e_42_57, e_42_59, e_42_62, e_42_65, e_42_66, e_42_66n, e_42_67, e_42_70, e_42_70n, e_42_71, e_42_74, e_42_74n, e_42_75, e_42_78, e_42_81, e_42_85, e_42_85n, e_42_84, Option.bind_some, Option.toList_some, Option.toList_none, List.cons_append, List.nil_append, am_k1_i, am_k1_r, am_k1_u, am_k1_n, am_bo0, am_bo1, am_boi, am_ev_tb, am_tb_nil, am_rfs, am_rfn, eq_self, and_self, if_true, if_false, show ¬ (1 : Int32) = 0 from by decide, show ¬ (0 : Int32) = 1 from by decide, not_true, not_false_eq_true, and_true, true_and, and_false, false_and, or_true, true_or, or_false, false_or, co_rd lo, co_e1 lo, x3, co_1a lo (show q < 97 by omega), am_cl (show q < 2147483648 by omega), h5, hX]
  · simp only [n_42, e_42_0, e_42_0n, e_42_1, e_42_2, e_42_5, e_42_5n, e_42_6, e_42_7, e_42_10, e_42_10n, e_42_11, e_42_12, e_42_15, e_42_15n, e_42_16, e_42_18, e_42_21, e_42_21n, e_42_22, e_42_26, e_42_29, e_42_29n, e_42_30, e_42_31, e_42_32, e_42_33, e_42_37, e_42_40, e_42_40n, e_42_41, e_42_44, e_42_45, e_42_46, e_42_49, e_42_49n, e_42_50, e_42_53, e_42_53n, e_42_54, e_42_57, e_42_59, e_42_62, e_42_65, e_42_66, e_42_66n, e_42_67, e_42_70, e_42_70n, e_42_71, e_42_74, e_42_74n, e_42_75, e_42_78, e_42_81, e_42_85, e_42_85n, e_42_84, Option.bind_some, Option.toList_some, Option.toList_none, List.cons_append, List.nil_append, am_k1_i, am_k1_r, am_k1_u, am_k1_n, am_bo0, am_bo1, am_boi, am_ev_tb, am_tb_nil, am_rfs, am_rfn, eq_self, and_self, if_true, if_false, show ¬ (1 : Int32) = 0 from by decide, show ¬ (0 : Int32) = 1 from by decide, not_true, not_false_eq_true, and_true, true_and, and_false, false_and, or_true, true_or, or_false, false_or, co_rd lo, co_e1 lo, x3, co_1a lo (show q < 97 by omega), am_cl (show q < 2147483648 by omega), h5, ef, hX]
theorem c_readN (E : pc_E G h o T t W st ln key) (h5 : am_i h (o + 79) 5 = nI W) (h6 : am_i h (o + 79) 6 = 0) (h7 : am_i h (o + 79) 7 = 0) (h8 : am_i h (o + 79) 8 = 0) (h10 : am_i h (o + 79) 10 = -1000000005) (h0W : 0 < W ∨ tk_key T st ln none) (hk2 : k2 ≤ W) (hres : (tk_key T st ln none ∧ k2 = 0) ∨ (tk_key T st ln (some key) ∧ pc_N G h o W key st 0 1 0 0 k2) ∨ (tk_key T st ln (some key) ∧ k2 < W ∧ ∃ sub, sub.length ≤ 96 ∧ pc_O G h o W key 0 1 0 0 k2 sub)) (hd : 170 ≤ d) : ∃ h2, am_ev G (d + 6) 42 25 [some (.ref (o + 79))] [] h = some (some .null, h2) ∧ am_fr (pc_Q o) h h2 ∧ am_i h2 (o + 79) 10 = nI (st k2) := by
  have hW := pc_W E
  rcases hres with ⟨hq, rfl⟩ | hres
  · obtain ⟨h1, e1, f1, X1⟩ := c_read1N (d := d) E h5 h6 h7 h10 hq
    refine ⟨h1, ?_, f1, X1.2.2.2⟩
    have er := c_readX (d := d + 3) E f1 hk2 X1
    have hX := pc_Xn E hk2 X1
    have e0 : am_evm G (d + 5) 52 [.ref (o + 79), .int 0, .int 0, .int 0] h1 = some (none, h1) := by
      simp only [n_52, e_52_0, e_52_1, e_52_4, e_52_6, e_52_9, e_52_10, e_52_11, e_52_12, e_52_15, e_52_16, e_52_17, e_52_18, e_52_21, e_52_22, e_52_23, e_52_24, e_52_25, e_52_26, e_52_27, e_52_28, e_52_31, e_52_32, e_52_33, e_52_36, e_52_37, f_52_42, e_52_44, f_52_45, e_52_49, e_52_51, e_52_54, e_52_55, e_52_58, e_52_60, e_52_63, e_52_64, e_52_67, e_52_70, e_52_71, e_52_74, e_52_75, f_52_78, e_52_80, e_52_81, e_52_84, e_52_85, e_52_86, e_52_87, e_52_88, e_52_89, e_52_90, e_52_93, e_52_94, e_52_97, e_52_99, e_52_100, f_52_103, e_52_106, e_52_109, e_52_40, Option.bind_some, Option.toList_some, Option.toList_none, List.cons_append, List.nil_append, am_k1_i, am_k1_r, am_k1_u, am_k1_n, am_bo0, am_bo1, am_boi, am_ev_tb, am_tb_nil, am_rfs, am_rfn, eq_self, and_self, if_true, if_false, show ¬ (1 : Int32) = 0 from by decide, show ¬ (0 : Int32) = 1 from by decide, not_true, not_false_eq_true, and_true, true_and, and_false, false_and, or_true, true_or, or_false, false_or, co_rd (pc_lo E f1), hX]
    rw [← er, e_42_25]
    simp only [n_42, e_42_0, e_42_0n, e_42_1, e_42_2, e_42_5, e_42_5n, e_42_6, e_42_7, e_42_10, e_42_10n, e_42_11, e_42_12, e_42_15, e_42_15n, e_42_16, e_42_18, e_42_21, e_42_21n, e_42_22, e_42_26, e_42_29, e_42_29n, e_42_30, e_42_31, e_42_32, e_42_33, e_42_37, e_42_40, e_42_40n, e_42_41, e_42_44, e_42_45, e_42_46, e_42_49, e_42_49n, e_42_50, e_42_53, e_42_53n, e_42_54, e_42_57, e_42_59, e_42_62, e_42_65, e_42_66, e_42_66n, e_42_67, e_42_70, e_42_70n, e_42_71, e_42_74, e_42_74n, e_42_75, e_42_78, e_42_81, e_42_85, e_42_85n, e_42_84, Option.bind_some, Option.toList_some, Option.toList_none, List.cons_append, List.nil_append, am_k1_i, am_k1_r, am_k1_u, am_k1_n, am_bo0, am_bo1, am_boi, am_ev_tb, am_tb_nil, am_rfs, am_rfn, eq_self, and_self, if_true, if_false, show ¬ (1 : Int32) = 0 from by decide, show ¬ (0 : Int32) = 1 from by decide, not_true, not_false_eq_true, and_true, true_and, and_false, false_and, or_true, true_or, or_false, false_or, co_rd E.1.1, e1, co_rd (pc_lo E f1), e0]
  · have hq : tk_key T st ln (some key) := by rcases hres with z | z; exact z.1; exact z.1
    have h0 : 0 < W := by
      rcases h0W with z | z
      · exact z
      · match key, E.2.2.2.2.2, hq with
        | 0, _, hq => exact absurd hq z.1
        | 1, _, hq => exact absurd hq.2 z.2.1
        | 2, _, hq => exact absurd hq.2.2 z.2.2
        | n + 3, hlt, _ => omega
    obtain ⟨h1, e1, f1, S1⟩ := c_read1 (d := d) E h5 h6 h7 h8 h10 hq h0
    have hpd : pd_n 0 0 0 + 1 ≤ d + 5 := by unfold pd_n; rw [if_neg (by decide)]; omega
    rcases hres with ⟨_, H⟩ | ⟨_, hk2W, sub, hsub, H⟩
    · obtain ⟨hb, eb, fb, Xb⟩ := pc_sideN E (l := 0) (by omega) H (D := d + 5) (out := []) hpd (by show 0 + (W - 1) ≤ 96; omega) f1 S1
      have eb2 : am_evm G (d + 5) 52 [.ref (o + 79), .int 0, .int 0, .int 0] h1 = some (none, hb) := eb
      refine ⟨hb, ?_, fb, Xb.2.2.2⟩
      rw [← c_readX (d := d + 3) E fb hk2 Xb, e_42_25]
      simp only [n_42, e_42_0, e_42_0n, e_42_1, e_42_2, e_42_5, e_42_5n, e_42_6, e_42_7, e_42_10, e_42_10n, e_42_11, e_42_12, e_42_15, e_42_15n, e_42_16, e_42_18, e_42_21, e_42_21n, e_42_22, e_42_26, e_42_29, e_42_29n, e_42_30, e_42_31, e_42_32, e_42_33, e_42_37, e_42_40, e_42_40n, e_42_41, e_42_44, e_42_45, e_42_46, e_42_49, e_42_49n, e_42_50, e_42_53, e_42_53n, e_42_54, e_42_57, e_42_59, e_42_62, e_42_65, e_42_66, e_42_66n, e_42_67, e_42_70, e_42_70n, e_42_71, e_42_74, e_42_74n, e_42_75, e_42_78, e_42_81, e_42_85, e_42_85n, e_42_84, Option.bind_some, Option.toList_some, Option.toList_none, List.cons_append, List.nil_append, am_k1_i, am_k1_r, am_k1_u, am_k1_n, am_bo0, am_bo1, am_boi, am_ev_tb, am_tb_nil, am_rfs, am_rfn, eq_self, and_self, if_true, if_false, show ¬ (1 : Int32) = 0 from by decide, show ¬ (0 : Int32) = 1 from by decide, not_true, not_false_eq_true, and_true, true_and, and_false, false_and, or_true, true_or, or_false, false_or, co_rd E.1.1, e1, co_rd (pc_lo E f1), eb2]
    · obtain ⟨hb, eb, fb, Sb⟩ := pc_sideO E (l := 0) (by omega) H (D := d + 5) (out := []) hpd (by show 0 + (W - 1) ≤ 96; omega) f1 S1
      have eb2 : am_evm G (d + 5) 52 [.ref (o + 79), .int 0, .int 0, .int 0] h1 = some (none, hb) := eb
      rw [List.nil_append] at Sb
      obtain ⟨hf, ef, ff, Xf⟩ := c_fail (d := d + 5) E fb hk2 hsub Sb
      have lo := pc_lo E fb
      have hs := pc_so E fb hk2
      rw [if_pos hk2W] at hs
      have h5' : ¬ nI (tk_so (fun j => tk_c (T j)) (st k2)) = 5 := fun z => by
        have h4 := tk_so4 (T := T) (st k2)
        have := (nI_eq (b := 5) (by omega) (by decide)).mp z
        omega
      have hX := pc_Xn E hk2 Xf
      refine ⟨hf, ?_, ff, Xf.2.2.2⟩
      rw [e_42_25]
      simp only [n_42, e_42_0, e_42_0n, e_42_1, e_42_2, e_42_5, e_42_5n, e_42_6, e_42_7, e_42_10, e_42_10n, e_42_11, e_42_12, e_42_15, e_42_15n, e_42_16, e_42_18, e_42_21, e_42_21n, e_42_22, e_42_26, e_42_29, e_42_29n, e_42_30, e_42_31, e_42_32, e_42_33, e_42_36, e_42_36n, e_42_37, e_42_40, e_42_40n, e_42_41, e_42_44, e_42_45, e_42_46, e_42_49, e_42_49n, e_42_50, e_42_53, e_42_53n, e_42_54, e_42_57, e_42_59, e_42_62, e_42_65, e_42_66, e_42_66n, e_42_67, e_42_70, e_42_70n, e_42_71, e_42_74, e_42_74n, e_42_75, e_42_78, e_42_81, e_42_85, e_42_85n, e_42_84, Option.bind_some, Option.toList_some, Option.toList_none, List.cons_append, List.nil_append, am_k1_i, am_k1_r, am_k1_u, am_k1_n, am_bo0, am_bo1, am_boi, am_ev_tb, am_tb_nil, am_rfs, am_rfn, eq_self, and_self, if_true, if_false, show ¬ (1 : Int32) = 0 from by decide, show ¬ (0 : Int32) = 1 from by decide, not_true, not_false_eq_true, and_true, true_and, and_false, false_and, or_true, true_or, or_false, false_or, co_rd E.1.1, e1, co_rd (pc_lo E f1), eb2, co_rd lo, co_e1 lo, Sb.1.2.1, co_1a lo (show k2 < 97 by omega), am_cl (show k2 < 2147483648 by omega), hs, h5', ef, co_rd (pc_lo E ff), hX]
/-- the text made -/
theorem c_readO (E : pc_E G h o T t W st ln key) (h5 : am_i h (o + 79) 5 = nI W) (h6 : am_i h (o + 79) 6 = 0) (h7 : am_i h (o + 79) 7 = 0) (h8 : am_i h (o + 79) 8 = 0) (h10 : am_i h (o + 79) 10 = -1000000005) (h0 : 0 < W) (hq : tk_key T st ln (some key)) {sub : List (Int32 × Int32)} (hsub : sub.length ≤ 96) (H : pc_O G h o W key 0 1 0 0 W sub) (hd : 170 ≤ d) : ∃ h2 hb, am_ev G (d + 6) 42 25 [some (.ref (o + 79))] [] h = some (some (.ref (am_top h)), h2) ∧ am_fr (pc_Q o) h hb ∧ (am_top h2 = am_top h + 2 ∧ am_sl h2 = am_sl h + 3 + sub.length) ∧ am_ex (fun _ => False) hb h2 ∧ (am_sh h2 (am_top h) = (7, 0) ∧ am_sh h2 (am_top h + 1) = (20, sub.length)) ∧ (am_i h2 (am_top h) 0 = nI key ∧ am_i h2 (am_top h) 1 = nI (ot_n sub) ∧ am_r h2 (am_top h) 2 = some (am_top h + 1)) ∧ ∀ i x, sub[i]? = some x → mt_cs key (am_i h2 (am_top h + 1) i) x.1 x.2 := by
  have hW := pc_W E
  obtain ⟨h1, e1, f1, S1⟩ := c_read1 (d := d) E h5 h6 h7 h8 h10 hq h0
  have hpd : pd_n 0 0 0 + 1 ≤ d + 5 := by unfold pd_n; rw [if_neg (by decide)]; omega
  obtain ⟨hb, eb, fb, Sb⟩ := pc_sideO E (l := 0) (by omega) H (D := d + 5) (out := []) hpd (by show 0 + (W - 1) ≤ 96; omega) f1 S1
  have eb2 : am_evm G (d + 5) 52 [.ref (o + 79), .int 0, .int 0, .int 0] h1 = some (none, hb) := eb
  rw [List.nil_append] at Sb
  have lo := pc_lo E fb
  have hs := pc_so E fb (Nat.le_refl W)
  rw [if_neg (Nat.lt_irrefl W)] at hs
  have htop : am_top hb = am_top h := fb.1
  have htp := lo.1.2.1
  have hown := lo.1.1
  -- the object
  let ha := am_new hb 7 0 3
  have exa : am_ex (fun _ => False) hb ha := am_ex.new
  have loa : cl_Obj G ha o := lo.ex exa (fun _ z => z.elim)
  have ia : am_i ha (o + 79) = am_i hb (o + 79) := nw_i (by omega)
  have ia5 : am_i ha (o + 85) = am_i hb (o + 85) := nw_i (by omega)
  -- the row
  let hd2 := am_new ha 20 sub.length sub.length
  have exd : am_ex (fun _ => False) ha hd2 := am_ex.new
  have lod : cl_Obj G hd2 o := loa.ex exd (fun _ z => z.elim)
  have ta : am_top ha = am_top hb + 1 := rfl
  have td : am_top hd2 = am_top hb + 2 := rfl
  have id1 : am_i hd2 (o + 79) = am_i hb (o + 79) := (nw_i (by omega)).trans ia
  have id5 : am_i hd2 (o + 85) = am_i hb (o + 85) := (nw_i (by omega)).trans ia5
  have sd5 : am_sh hd2 (o + 85) = (20, 96) := lod.2.2.2.1.2.2.2.2.2.2.2.2.2
  have sdn : am_sh hd2 (am_top hb + 1) = (20, sub.length) := nw_sh0 (h := ha)
  have hcp : am_cp G hd2 (o + 85) (am_top hb + 1) 0 0 (nI sub.length) := by
    refine ⟨⟨co_own lod (by omega), by rw [sd5]⟩, ⟨⟨by omega, by omega⟩, by rw [sdn]⟩, ⟨by decide, by decide, nI_pos (by omega)⟩, ?_, ?_⟩
    · rw [sd5, am_cl (by omega)]; show 0 + sub.length ≤ 96; omega
    · rw [sdn, am_cl (by omega)]; show 0 + sub.length ≤ sub.length; omega
  let he := am_pa hd2 (am_top hb + 1) (va_cpy (am_i hd2 (o + 85)) (am_i hd2 (am_top hb + 1)) 0 0 sub.length)
  have hnn : am_nn (nI sub.length) := ⟨nI_pos (by omega), by rw [am_cl (by omega)]; omega⟩
  have s7a : am_i ha (o + 79) 7 = nI sub.length := by rw [ia]; exact Sb.1.2.2.1
  have s7d : am_i hd2 (o + 79) 7 = nI sub.length := by rw [id1]; exact Sb.1.2.2.1
  have eu : am_evm G (d + 5) 43 [.ref (o + 79)] ha = some (some (.ref (am_top hb + 1)), he) := by
    have q1 := co_rd loa
    have q2 := co_rd lod
    have q3 := co_e4 lod
    have ea : am_evm G (d + 5) 43 [.ref (o + 79)] ha = am_ev G (d + 5) 43 7 [some (.ref (o + 79)), some (.ref (am_top hb + 1))] [] hd2 := by
      simp only [n_43, e_43_0, e_43_1, f_43_4, f_43_6, e_43_8, e_43_11, e_43_12, e_43_13, e_43_14, e_43_15, e_43_18, e_43_21, e_43_22, Option.bind_some, Option.toList_some, Option.toList_none, List.cons_append, List.nil_append, am_k1_i, am_k1_r, am_k1_u, am_k1_n, am_bo0, am_bo1, am_boi, am_ev_tb, am_tb_nil, am_rfs, am_rfn, eq_self, and_self, if_true, if_false, show ¬ (1 : Int32) = 0 from by decide, show ¬ (0 : Int32) = 1 from by decide, not_true, not_false_eq_true, and_true, true_and, and_false, false_and, or_true, true_or, or_false, false_or, q1, s7a, hnn, am_cl (show sub.length < 2147483648 by omega)]
      rfl
    rw [ea, e_43_7]
    simp only [n_43, e_43_0, e_43_1, f_43_4, f_43_6, e_43_8, e_43_11, e_43_12, e_43_13, e_43_14, e_43_15, e_43_18, e_43_21, e_43_22, Option.bind_some, Option.toList_some, Option.toList_none, List.cons_append, List.nil_append, am_k1_i, am_k1_r, am_k1_u, am_k1_n, am_bo0, am_bo1, am_boi, am_ev_tb, am_tb_nil, am_rfs, am_rfn, eq_self, and_self, if_true, if_false, show ¬ (1 : Int32) = 0 from by decide, show ¬ (0 : Int32) = 1 from by decide, not_true, not_false_eq_true, and_true, true_and, and_false, false_and, or_true, true_or, or_false, false_or, q2, q3, s7d, hcp, am_cl (show sub.length < 2147483648 by omega), show (0 : Int32).toNatClampNeg = 0 from rfl]
    rfl
  have obT : am_ob G he (am_top hb) 7 := by
    refine ⟨⟨by omega, by show am_top hb < am_top hd2; omega⟩, ?_⟩
    show (am_sh hd2 (am_top hb)).1 = 7
    rw [show am_sh hd2 (am_top hb) = am_sh ha (am_top hb) from nw_sh (by omega), show am_sh ha (am_top hb) = (7, 0) from nw_sh0]
  have ei : am_evm G (d + 5) 70 [.ref (am_top hb), .int (nI key), .int (nI (ot_n sub)), .ref (am_top hb + 1)] he = some (none, am_pr (am_pi (am_pi he (am_top hb) 0 (nI key)) (am_top hb) 1 (nI (ot_n sub))) (am_top hb) 2 (some (am_top hb + 1))) := by
    simp only [n_70, e_70_0, e_70_1, e_70_4, e_70_5, e_70_6, e_70_9, e_70_10, e_70_11, e_70_14, e_70_15, e_70_16, e_70_19, Option.bind_some, Option.toList_some, Option.toList_none, List.cons_append, List.nil_append, am_k1_i, am_k1_r, am_k1_u, am_k1_n, am_bo0, am_bo1, am_boi, am_ev_tb, am_tb_nil, am_rfs, am_rfn, eq_self, and_self, if_true, if_false, show ¬ (1 : Int32) = 0 from by decide, show ¬ (0 : Int32) = 1 from by decide, not_true, not_false_eq_true, and_true, true_and, and_false, false_and, or_true, true_or, or_false, false_or, obT, am_ob_pi]
  have hneT : ¬ o + 79 = am_top hb := by omega
  refine ⟨am_pr (am_pi (am_pi he (am_top hb) 0 (nI key)) (am_top hb) 1 (nI (ot_n sub))) (am_top hb) 2 (some (am_top hb + 1)), hb, ?_, fb, ⟨?_, ?_⟩, ?_, ⟨?_, ?_⟩, ⟨?_, ?_, ?_⟩, fun i x hx => ?_⟩
  · have ea : am_ev G (d + 6) 42 25 [some (.ref (o + 79))] [] h = am_ev G (d + 6) 42 65 [some (.ref (o + 79))] [.ref (am_top hb)] ha := by
      rw [e_42_25]
      simp only [n_42, e_42_0, e_42_0n, e_42_1, e_42_2, e_42_5, e_42_5n, e_42_6, e_42_7, e_42_10, e_42_10n, e_42_11, e_42_12, e_42_15, e_42_15n, e_42_16, e_42_18, e_42_21, e_42_21n, e_42_22, e_42_26, e_42_29, e_42_29n, e_42_30, e_42_31, e_42_32, e_42_33, e_42_36, e_42_36n, e_42_37, e_42_40, e_42_40n, e_42_41, e_42_44, e_42_45, e_42_46, e_42_49, e_42_49n, e_42_50, e_42_53, e_42_53n, e_42_54, e_42_57, e_42_59, e_42_62, e_42_66, e_42_66n, e_42_67, e_42_70, e_42_70n, e_42_71, e_42_74, e_42_74n, e_42_75, e_42_78, e_42_81, e_42_85, e_42_85n, e_42_84, Option.bind_some, Option.toList_some, Option.toList_none, List.cons_append, List.nil_append, am_k1_i, am_k1_r, am_k1_u, am_k1_n, am_bo0, am_bo1, am_boi, am_ev_tb, am_tb_nil, am_rfs, am_rfn, eq_self, and_self, if_true, if_false, show ¬ (1 : Int32) = 0 from by decide, show ¬ (0 : Int32) = 1 from by decide, not_true, not_false_eq_true, and_true, true_and, and_false, false_and, or_true, true_or, or_false, false_or, co_rd E.1.1, e1, co_rd (pc_lo E f1), eb2, co_rd lo, co_e1 lo, Sb.1.2.1, co_1a lo (show W < 97 by omega), am_cl (show W < 2147483648 by omega), hs, Sb.1.2.2.2.2.2]
      rfl
    have s9 : am_i ha (o + 79) 9 = nI key := by rw [ia]; exact Sb.1.2.2.2.2.1
    have s8 : am_i ha (o + 79) 8 = nI (ot_n sub) := by rw [ia]; exact Sb.1.2.2.2.1
    rw [ea, e_42_65, ← htop]
    simp only [n_42, e_42_0, e_42_0n, e_42_1, e_42_2, e_42_5, e_42_5n, e_42_6, e_42_7, e_42_10, e_42_10n, e_42_11, e_42_12, e_42_15, e_42_15n, e_42_16, e_42_18, e_42_21, e_42_21n, e_42_22, e_42_26, e_42_29, e_42_29n, e_42_30, e_42_31, e_42_32, e_42_33, e_42_36, e_42_36n, e_42_37, e_42_40, e_42_40n, e_42_41, e_42_44, e_42_45, e_42_46, e_42_49, e_42_49n, e_42_50, e_42_53, e_42_53n, e_42_54, e_42_57, e_42_59, e_42_62, e_42_66, e_42_66n, e_42_67, e_42_70, e_42_70n, e_42_71, e_42_74, e_42_74n, e_42_75, e_42_78, e_42_81, e_42_85, e_42_85n, e_42_84, Option.bind_some, Option.toList_some, Option.toList_none, List.cons_append, List.nil_append, am_k1_i, am_k1_r, am_k1_u, am_k1_n, am_bo0, am_bo1, am_boi, am_ev_tb, am_tb_nil, am_rfs, am_rfn, eq_self, and_self, if_true, if_false, show ¬ (1 : Int32) = 0 from by decide, show ¬ (0 : Int32) = 1 from by decide, not_true, not_false_eq_true, and_true, true_and, and_false, false_and, or_true, true_or, or_false, false_or, co_rd loa, s9, s8, eu, ei]
  · show am_top hd2 = _; omega
  · show am_sl hb + 3 + sub.length = _; rw [fb.2.1]
  · have e1 : am_ex (fun _ => False) hb hd2 := exa.tr exd
    have e2 : am_ex (fun b => am_top hb ≤ b) hd2 (am_pr (am_pi (am_pi he (am_top hb) 0 (nI key)) (am_top hb) 1 (nI (ot_n sub))) (am_top hb) 2 (some (am_top hb + 1))) := (((am_fr.pa (S := fun b => am_top hb ≤ b) (h := hd2) (by show am_top hb ≤ am_top hb + 1; omega)).ex (X := fun b => am_top hb ≤ b) (fun _ z => z)).tr (am_ex.pi (by show am_top hb ≤ am_top hb; omega))).tr ((am_ex.pi (by show am_top hb ≤ am_top hb; omega)).tr (am_ex.pr (by show am_top hb ≤ am_top hb; omega)))
    exact ⟨Nat.le_trans e1.1 e2.1, fun b hb2 => (e2.2.1 b (by omega)).trans (e1.2.1 b hb2), fun b hb2 _ => ⟨(e2.2.2 b (by omega) (by show ¬ am_top hb ≤ b; omega)).1.trans (e1.2.2 b hb2 id).1, (e2.2.2 b (by omega) (by show ¬ am_top hb ≤ b; omega)).2.trans (e1.2.2 b hb2 id).2⟩⟩
  · rw [← htop]
    show am_sh hd2 (am_top hb) = (7, 0)
    rw [show am_sh hd2 (am_top hb) = am_sh ha (am_top hb) from nw_sh (by omega), show am_sh ha (am_top hb) = (7, 0) from nw_sh0]
  · rw [← htop]
    show am_sh hd2 (am_top hb + 1) = (20, sub.length)
    exact sdn
  · rw [← htop]
    show am_i (am_pi (am_pi he (am_top hb) 0 (nI key)) (am_top hb) 1 (nI (ot_n sub))) (am_top hb) 0 = nI key
    rw [am_pi_i, if_neg (by omega), am_pi_i, if_pos ⟨rfl, rfl⟩]
  · rw [← htop]
    show am_i (am_pi (am_pi he (am_top hb) 0 (nI key)) (am_top hb) 1 (nI (ot_n sub))) (am_top hb) 1 = nI (ot_n sub)
    rw [am_pi_i, if_pos ⟨rfl, rfl⟩]
  · rw [← htop, am_pr_r, if_pos rfl]
  · have hi : i < sub.length := by
      apply Classical.byContradiction
      intro z
      rw [List.getElem?_eq_none (by omega)] at hx
      cases hx
    rw [← htop]
    show mt_cs key (am_i (am_pi (am_pi he (am_top hb) 0 (nI key)) (am_top hb) 1 (nI (ot_n sub))) (am_top hb + 1) i) x.1 x.2
    rw [am_pi_i, if_neg (by omega), am_pi_i, if_neg (by omega)]
    show mt_cs key (am_i (am_pa hd2 (am_top hb + 1) (va_cpy (am_i hd2 (o + 85)) (am_i hd2 (am_top hb + 1)) 0 0 sub.length)) (am_top hb + 1) i) x.1 x.2
    rw [am_pa_i, if_pos rfl, pk_cpy_in (Nat.zero_le i) (by omega), id5, show 0 + (i - 0) = i by omega]
    exact Sb.2 i x hx
end RC
