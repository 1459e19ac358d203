section CZ2
variable {G : Nat → Nat} {d : Nat} {h : am_H} {m : Nat} {σ : Nat → Int32} {n nd nt : Nat}
theorem am_pi14 {k b : Nat} {v : Int32} (hb : b ≠ 14) : am_i (am_pi h (m + 14) k v) (m + b) = am_i h (m + b) := (am_pi_o (m + b) (by omega)).1
theorem m_cost (l : cm_Lay G h m) (hσ : am_i h (m + 1) = σ) (hs : mt_wf σ n nd nt) {p : Nat} (hp : p < nd) : ∃ h2, am_evm G (d + 2) 164 [.ref m, .int (nI p)] h = some (some (.int (mt_cost σ nt p)), h2) ∧ am_fr (cm_N m) h h2 := by
  have hnd := hs.1.2.1.2
  have b5 : ∀ h', cm_Lay G h' m → am_i h' (m + 1) = σ → am_evm G (d + 1) 137 [.ref m, .int (nI p), .int 5] h' = _ := fun h' l' e => m_dee3 (j := 5) l' e (show 66 + 6 * p + 5 < 3114 by omega)
  have b2 : ∀ h', cm_Lay G h' m → am_i h' (m + 1) = σ → am_evm G (d + 1) 137 [.ref m, .int (nI p), .int 2] h' = _ := fun h' l' e => m_dee3 (j := 2) l' e (show 66 + 6 * p + 2 < 3114 by omega)
  have hc := m_counts3 (d := d) l hσ hs (key := 1)
  unfold mt_cost
  rcases mt_last_in σ (nI 1) nt with hl | ⟨k, hk, hl, hkey⟩
  · have hlaw : ∀ a b c, mt_law σ nt 1 a b c = none := fun a b c => if_pos hl
    rw [show nI 1 = (1 : Int32) from rfl] at hl
    refine ⟨h, ?_, am_fr.rf⟩
    simp only [n_164, e_164_0, e_164_1, e_164_2, f_164_5, e_164_6, e_164_7, e_164_10, e_164_11, e_164_12, e_164_13, e_164_16, e_164_17, e_164_18, e_164_19, e_164_22, e_164_23, e_164_24, e_164_25, e_164_28, e_164_30, e_164_31, e_164_32, e_164_33, e_164_36, e_164_37, e_164_38, e_164_41, e_164_43, e_164_44, e_164_45, e_164_46, e_164_49, e_164_50, e_164_51, e_164_54, e_164_56, e_164_57, e_164_58, e_164_61, e_164_64, e_164_65, e_164_66, e_164_67, e_164_70, e_164_72, e_164_75, Option.bind_some, Option.toList_some, Option.toList_none, List.cons_append, List.nil_append, am_k1_i, am_k1_r, am_k1_u, am_k1_n, am_bo0, am_bo1, am_boi, am_ev_tb, am_tb_nil, am_rfs, am_rfn, eq_self, and_self, if_true, if_false, show ¬ (1 : Int32) = 0 from by decide, show ¬ (0 : Int32) = 1 from by decide, not_true, not_false_eq_true, and_true, true_and, and_false, false_and, or_true, true_or, or_false, false_or, cm_ob l, hc, hl, show ¬ (0 : Int32) ≤ -1 from by decide, b5 _ l hσ, b2 _ l hσ, hlaw]
  · have h0 : (0 : Int32) ≤ nI k := nI_pos' (by have := hs.1.2.2.2; omega)
    have hl2 := hl
    rw [show nI 1 = (1 : Int32) from rfl] at hl2
    have l1 : ∀ k v, cm_Lay G (am_pi h (m + 14) k v) m := fun _ _ => l
    have l2 : ∀ k v k2 v2, cm_Lay G (am_pi (am_pi h (m + 14) k v) (m + 14) k2 v2) m := fun _ _ _ _ => l
    have l3 : ∀ k v k2 v2 k3 v3, cm_Lay G (am_pi (am_pi (am_pi h (m + 14) k v) (m + 14) k2 v2) (m + 14) k3 v3) m := fun _ _ _ _ _ _ => l
    have s1 : ∀ k v, am_i (am_pi h (m + 14) k v) (m + 1) = σ := fun _ _ => by rw [am_pi14 (by decide), hσ]
    have s2 : ∀ k v k2 v2, am_i (am_pi (am_pi h (m + 14) k v) (m + 14) k2 v2) (m + 1) = σ := fun _ _ _ _ => by rw [am_pi14 (by decide), s1]
    have s3 : ∀ k v k2 v2 k3 v3, am_i (am_pi (am_pi (am_pi h (m + 14) k v) (m + 14) k2 v2) (m + 14) k3 v3) (m + 1) = σ := fun _ _ _ _ _ _ => by rw [am_pi14 (by decide), s2]
    have w1 : am_iw G h (m + 14) 108 := cm_iw14 l (show 108 < 128 by omega)
    have w2 : am_iw G h (m + 14) 119 := cm_iw14 l (show 119 < 128 by omega)
    have w3 : am_iw G h (m + 14) 110 := cm_iw14 l (show 110 < 128 by omega)
    obtain ⟨v, h2, hv, hw, hf⟩ := m_law (d := d) (key := 1) (a := σ (66 + 6 * p + 5)) (b := σ (66 + 6 * p + 2)) (c := mt_ones (mt_left σ p)) (l3 108 (σ (66 + 6 * p + 5)) 119 (σ (66 + 6 * p + 2)) 110 (mt_ones (mt_left σ p))) (s3 _ _ _ _ _ _) hs hk hl hkey (by decide) (by simp [am_pi_i, mt_nc]) (by simp [am_pi_i, mt_nc]) (by simp [am_pi_i, mt_nc])
    refine ⟨h2, ?_, (((am_fr.pi (Or.inl rfl)).tr (am_fr.pi (Or.inl rfl))).tr (am_fr.pi (Or.inl rfl))).tr (hf.wd (fun _ z => Or.inr z))⟩
    · simp only [n_164, e_164_0, e_164_1, e_164_2, f_164_5, e_164_6, e_164_7, e_164_10, e_164_11, e_164_12, e_164_13, e_164_16, e_164_17, e_164_18, e_164_19, e_164_22, e_164_23, e_164_24, e_164_25, e_164_28, e_164_30, e_164_31, e_164_32, e_164_33, e_164_36, e_164_37, e_164_38, e_164_41, e_164_43, e_164_44, e_164_45, e_164_46, e_164_49, e_164_50, e_164_51, e_164_54, e_164_56, e_164_57, e_164_58, e_164_61, e_164_64, e_164_65, e_164_66, e_164_67, e_164_70, e_164_72, e_164_75, Option.bind_some, Option.toList_some, Option.toList_none, List.cons_append, List.nil_append, am_k1_i, am_k1_r, am_k1_u, am_k1_n, am_bo0, am_bo1, am_boi, am_ev_tb, am_tb_nil, am_rfs, am_rfn, eq_self, and_self, if_true, if_false, show ¬ (1 : Int32) = 0 from by decide, show ¬ (0 : Int32) = 1 from by decide, not_true, not_false_eq_true, and_true, true_and, and_false, false_and, or_true, true_or, or_false, false_or, cm_ob l, hc, hl2, h0, cm_r25 l, b5 _ l hσ, w1, w2, w3, am_iw_pi, am_ob_pi, am_pi_r, cm_r25 (l1 _ _), b2 _ (l1 _ _) (s1 _ _), m_left3 (l2 _ _ _ _) (s2 _ _ _ _) (show p < 8 by omega), m_ones, show (108 : Int32).toNatClampNeg = 108 from rfl, show (119 : Int32).toNatClampNeg = 119 from rfl, show (110 : Int32).toNatClampNeg = 110 from rfl, hw, m_within, hv]
theorem m_boldness (l : cm_Lay G h m) (hσ : am_i h (m + 1) = σ) (hs : mt_wf σ n nd nt) {q p : Nat} (hq : q < n) (hp : p < nd) : ∃ h2, am_evm G (d + 2) 175 [.ref m, .int (nI q), .int (nI p)] h = some (some (.int (mt_bold σ nt q p)), h2) ∧ am_fr (cm_N m) h h2 := by
  have hnd := hs.1.2.1.2
  have hn := hs.1.1.2
  have b1 : ∀ h', cm_Lay G h' m → am_i h' (m + 1) = σ → am_evm G (d + 1) 136 [.ref m, .int (nI q), .int 1] h' = _ := fun h' l' e => m_of3 (j := 1) l' e (show 6 + 5 * q + 1 < 3114 by omega)
  have hc := m_counts3 (d := d) l hσ hs (key := 2)
  unfold mt_bold
  rcases mt_last_in σ (nI 2) nt with hl | ⟨k, hk, hl, hkey⟩
  · have hlaw : ∀ a b c, mt_law σ nt 2 a b c = none := fun a b c => if_pos hl
    rw [show nI 2 = (2 : Int32) from rfl] at hl
    refine ⟨h, ?_, am_fr.rf⟩
    simp only [n_175, e_175_0, e_175_1, e_175_2, f_175_5, e_175_6, e_175_7, e_175_10, e_175_11, e_175_12, e_175_13, e_175_16, e_175_17, e_175_18, e_175_21, e_175_23, e_175_24, e_175_25, e_175_26, e_175_29, e_175_30, e_175_31, e_175_34, e_175_36, e_175_37, e_175_38, e_175_39, e_175_42, e_175_44, e_175_45, e_175_46, e_175_49, e_175_52, e_175_53, e_175_54, e_175_55, e_175_58, e_175_60, e_175_63, Option.bind_some, Option.toList_some, Option.toList_none, List.cons_append, List.nil_append, am_k1_i, am_k1_r, am_k1_u, am_k1_n, am_bo0, am_bo1, am_boi, am_ev_tb, am_tb_nil, am_rfs, am_rfn, eq_self, and_self, if_true, if_false, show ¬ (1 : Int32) = 0 from by decide, show ¬ (0 : Int32) = 1 from by decide, not_true, not_false_eq_true, and_true, true_and, and_false, false_and, or_true, true_or, or_false, false_or, cm_ob l, hc, hl, show ¬ (0 : Int32) ≤ -1 from by decide, b1 _ l hσ, hlaw]
  · have h0 : (0 : Int32) ≤ nI k := nI_pos' (by have := hs.1.2.2.2; omega)
    have hl2 := hl
    rw [show nI 2 = (2 : Int32) from rfl] at hl2
    have l1 : ∀ k v, cm_Lay G (am_pi h (m + 14) k v) m := fun _ _ => l
    have l2 : ∀ k v k2 v2, cm_Lay G (am_pi (am_pi h (m + 14) k v) (m + 14) k2 v2) m := fun _ _ _ _ => l
    have l3 : ∀ k v k2 v2 k3 v3, cm_Lay G (am_pi (am_pi (am_pi h (m + 14) k v) (m + 14) k2 v2) (m + 14) k3 v3) m := fun _ _ _ _ _ _ => l
    have s1 : ∀ k v, am_i (am_pi h (m + 14) k v) (m + 1) = σ := fun _ _ => by rw [am_pi14 (by decide), hσ]
    have s2 : ∀ k v k2 v2, am_i (am_pi (am_pi h (m + 14) k v) (m + 14) k2 v2) (m + 1) = σ := fun _ _ _ _ => by rw [am_pi14 (by decide), s1]
    have s3 : ∀ k v k2 v2 k3 v3, am_i (am_pi (am_pi (am_pi h (m + 14) k v) (m + 14) k2 v2) (m + 14) k3 v3) (m + 1) = σ := fun _ _ _ _ _ _ => by rw [am_pi14 (by decide), s2]
    have w1 : am_iw G h (m + 14) 98 := cm_iw14 l (show 98 < 128 by omega)
    have w2 : am_iw G h (m + 14) 115 := cm_iw14 l (show 115 < 128 by omega)
    have w3 : am_iw G h (m + 14) 110 := cm_iw14 l (show 110 < 128 by omega)
    obtain ⟨v, h2, hv, hw, hf⟩ := m_law (d := d) (key := 2) (a := σ (6 + 5 * q + 1)) (b := nI q) (c := mt_ones (mt_left σ p)) (l3 98 (σ (6 + 5 * q + 1)) 115 (nI q) 110 (mt_ones (mt_left σ p))) (s3 _ _ _ _ _ _) hs hk hl hkey (by decide) (by simp [am_pi_i, mt_nc]) (by simp [am_pi_i, mt_nc]) (by simp [am_pi_i, mt_nc])
    refine ⟨h2, ?_, (((am_fr.pi (Or.inl rfl)).tr (am_fr.pi (Or.inl rfl))).tr (am_fr.pi (Or.inl rfl))).tr (hf.wd (fun _ z => Or.inr z))⟩
    · simp only [n_175, e_175_0, e_175_1, e_175_2, f_175_5, e_175_6, e_175_7, e_175_10, e_175_11, e_175_12, e_175_13, e_175_16, e_175_17, e_175_18, e_175_21, e_175_23, e_175_24, e_175_25, e_175_26, e_175_29, e_175_30, e_175_31, e_175_34, e_175_36, e_175_37, e_175_38, e_175_39, e_175_42, e_175_44, e_175_45, e_175_46, e_175_49, e_175_52, e_175_53, e_175_54, e_175_55, e_175_58, e_175_60, e_175_63, Option.bind_some, Option.toList_some, Option.toList_none, List.cons_append, List.nil_append, am_k1_i, am_k1_r, am_k1_u, am_k1_n, am_bo0, am_bo1, am_boi, am_ev_tb, am_tb_nil, am_rfs, am_rfn, eq_self, and_self, if_true, if_false, show ¬ (1 : Int32) = 0 from by decide, show ¬ (0 : Int32) = 1 from by decide, not_true, not_false_eq_true, and_true, true_and, and_false, false_and, or_true, true_or, or_false, false_or, cm_ob l, hc, hl2, h0, cm_r25 l, b1 _ l hσ, w1, w2, w3, am_iw_pi, am_ob_pi, am_pi_r, cm_r25 (l1 _ _), m_left3 (l2 _ _ _ _) (s2 _ _ _ _) (show p < 8 by omega), m_ones, show (98 : Int32).toNatClampNeg = 98 from rfl, show (115 : Int32).toNatClampNeg = 115 from rfl, show (110 : Int32).toNatClampNeg = 110 from rfl, hw, m_within, hv]
theorem m_mayBe (l : cm_Lay G h m) (hσ : am_i h (m + 1) = σ) (hs : mt_wf σ n nd nt) {s p q : Nat} (hq : q < n) (hp : p < nd) : ∃ h2, am_evm G (d + 3) 168 [.ref m, .int (nI s), .int (nI p), .int (nI q)] h = some (some (.int (if mt_may σ n nt s p q = true then 1 else 0)), h2) ∧ am_fr (cm_N m) h h2 := by
  have hnd := hs.1.2.1.2
  have hn := hs.1.1.2
  have b2 : ∀ h', cm_Lay G h' m → am_i h' (m + 1) = σ → am_evm G (d + 2) 137 [.ref m, .int (nI p), .int 2] h' = _ := fun h' l' e => m_dee3 (j := 2) l' e (show 66 + 6 * p + 2 < 3114 by omega)
  have hc := m_counts3 (d := d + 1) l hσ hs (key := 0)
  have i3 : am_ia G h (m + 1) 3 := cm_ia1 l (show 3 < 3114 by omega)
  unfold mt_may
  by_cases hb : ¬ bt (mt_left σ p) q = true
  · refine ⟨h, ?_, am_fr.rf⟩
    have hb2 : bt (mt_left σ p) q = false := by simpa using hb
    simp only [n_168, e_168_0, e_168_1, e_168_2, e_168_5, e_168_6, e_168_7, e_168_8, e_168_9, e_168_12, e_168_13, e_168_14, e_168_17, e_168_18, e_168_19, e_168_22, e_168_23, e_168_24, e_168_25, e_168_28, e_168_29, e_168_32, e_168_33, e_168_34, e_168_37, f_168_38, e_168_39, e_168_40, e_168_41, f_168_44, e_168_46, e_168_48, e_168_51, f_168_52, e_168_53, e_168_54, e_168_57, e_168_59, e_168_60, e_168_61, e_168_62, e_168_65, e_168_67, e_168_68, e_168_69, e_168_70, e_168_73, e_168_75, e_168_76, e_168_77, e_168_78, e_168_81, e_168_82, e_168_83, e_168_85, e_168_88, e_168_91, e_168_92, f_168_96, e_168_95, Option.bind_some, Option.toList_some, Option.toList_none, List.cons_append, List.nil_append, am_k1_i, am_k1_r, am_k1_u, am_k1_n, am_bo0, am_bo1, am_boi, am_ev_tb, am_tb_nil, am_rfs, am_rfn, eq_self, and_self, if_true, if_false, show ¬ (1 : Int32) = 0 from by decide, show ¬ (0 : Int32) = 1 from by decide, not_true, not_false_eq_true, and_true, true_and, and_false, false_and, or_true, true_or, or_false, false_or, cm_ob l, m_left3 l hσ (show p < 8 by omega), mt_sshr _ (show q < 32 by omega), mt_b0, hb2, Bool.false_and, Bool.false_eq_true]
  have hb := Classical.not_not.mp hb
  by_cases ho : mt_ones (mt_left σ p &&& (mt_go σ n q ^^^ (-1))) < σ 3
  · refine ⟨h, ?_, am_fr.rf⟩
    simp only [n_168, e_168_0, e_168_1, e_168_2, e_168_5, e_168_6, e_168_7, e_168_8, e_168_9, e_168_12, e_168_13, e_168_14, e_168_17, e_168_18, e_168_19, e_168_22, e_168_23, e_168_24, e_168_25, e_168_28, e_168_29, e_168_32, e_168_33, e_168_34, e_168_37, f_168_38, e_168_39, e_168_40, e_168_41, f_168_44, e_168_46, e_168_48, e_168_51, f_168_52, e_168_53, e_168_54, e_168_57, e_168_59, e_168_60, e_168_61, e_168_62, e_168_65, e_168_67, e_168_68, e_168_69, e_168_70, e_168_73, e_168_75, e_168_76, e_168_77, e_168_78, e_168_81, e_168_82, e_168_83, e_168_85, e_168_88, e_168_91, e_168_92, f_168_96, e_168_95, Option.bind_some, Option.toList_some, Option.toList_none, List.cons_append, List.nil_append, am_k1_i, am_k1_r, am_k1_u, am_k1_n, am_bo0, am_bo1, am_boi, am_ev_tb, am_tb_nil, am_rfs, am_rfn, eq_self, and_self, if_true, if_false, show ¬ (1 : Int32) = 0 from by decide, show ¬ (0 : Int32) = 1 from by decide, not_true, not_false_eq_true, and_true, true_and, and_false, false_and, or_true, true_or, or_false, false_or, cm_ob l, m_left3 l hσ (show p < 8 by omega), mt_sshr _ (show q < 32 by omega), mt_b0, hb, m_goBy3 l hσ hs hq, m_ones, cm_r0 l, i3, show (3 : Int32).toNatClampNeg = 3 from rfl, hσ, Int32.not_le.mpr ho, ho, decide_true, Bool.not_true, Bool.and_false, Bool.false_and, Bool.false_eq_true]
  have hstep : am_evm G (d + 3) 168 [.ref m, .int (nI s), .int (nI p), .int (nI q)] h = am_ev G (d + 3) 168 39 [some (.ref m), some (.int (nI s)), some (.int (nI p)), some (.int (nI q)), none] [] h := by
    simp only [n_168, e_168_0, e_168_1, e_168_2, e_168_5, e_168_6, e_168_7, e_168_8, e_168_9, e_168_12, e_168_13, e_168_14, e_168_17, e_168_18, e_168_19, e_168_22, e_168_23, e_168_24, e_168_25, e_168_28, e_168_29, e_168_32, e_168_33, e_168_34, e_168_37, f_168_38, e_168_40, e_168_41, f_168_44, e_168_46, e_168_48, e_168_51, f_168_52, e_168_53, e_168_54, e_168_57, e_168_59, e_168_60, e_168_61, e_168_62, e_168_65, e_168_67, e_168_68, e_168_69, e_168_70, e_168_73, e_168_75, e_168_76, e_168_77, e_168_78, e_168_81, e_168_82, e_168_83, e_168_85, e_168_88, e_168_91, e_168_92, f_168_96, e_168_95, Option.bind_some, Option.toList_some, Option.toList_none, List.cons_append, List.nil_append, am_k1_i, am_k1_r, am_k1_u, am_k1_n, am_bo0, am_bo1, am_boi, am_ev_tb, am_tb_nil, am_rfs, am_rfn, eq_self, and_self, if_true, if_false, show ¬ (1 : Int32) = 0 from by decide, show ¬ (0 : Int32) = 1 from by decide, not_true, not_false_eq_true, and_true, true_and, and_false, false_and, or_true, true_or, or_false, false_or, cm_ob l, m_left3 l hσ (show p < 8 by omega), mt_sshr _ (show q < 32 by omega), mt_b0, hb, m_goBy3 l hσ hs hq, m_ones, cm_r0 l, i3, show (3 : Int32).toNatClampNeg = 3 from rfl, hσ, Int32.not_lt.mp ho]
  rw [hstep]
  simp only [hb, ho, decide_false, Bool.not_false, Bool.and_true, Bool.true_and]
  rcases mt_last_in σ (nI 0) nt with hl | ⟨k, hk, hl, hkey⟩
  · have hlaw : ∀ a b c, mt_law σ nt 0 a b c = none := fun a b c => if_pos hl
    rw [show nI 0 = (0 : Int32) from rfl] at hl
    refine ⟨h, ?_, am_fr.rf⟩
    simp only [n_168, e_168_0, e_168_1, e_168_2, e_168_5, e_168_6, e_168_7, e_168_8, e_168_9, e_168_12, e_168_13, e_168_14, e_168_17, e_168_18, e_168_19, e_168_22, e_168_23, e_168_24, e_168_25, e_168_28, e_168_29, e_168_32, e_168_33, e_168_34, e_168_37, f_168_38, e_168_39, e_168_40, e_168_41, f_168_44, e_168_46, e_168_48, e_168_51, f_168_52, e_168_53, e_168_54, e_168_57, e_168_59, e_168_60, e_168_61, e_168_62, e_168_65, e_168_67, e_168_68, e_168_69, e_168_70, e_168_73, e_168_75, e_168_76, e_168_77, e_168_78, e_168_81, e_168_82, e_168_83, e_168_85, e_168_88, e_168_91, e_168_92, f_168_96, e_168_95, Option.bind_some, Option.toList_some, Option.toList_none, List.cons_append, List.nil_append, am_k1_i, am_k1_r, am_k1_u, am_k1_n, am_bo0, am_bo1, am_boi, am_ev_tb, am_tb_nil, am_rfs, am_rfn, eq_self, and_self, if_true, if_false, show ¬ (1 : Int32) = 0 from by decide, show ¬ (0 : Int32) = 1 from by decide, not_true, not_false_eq_true, and_true, true_and, and_false, false_and, or_true, true_or, or_false, false_or, cm_ob l, hc, hl, show ¬ (0 : Int32) ≤ -1 from by decide, hlaw]
    simp
  · have h0 : (0 : Int32) ≤ nI k := nI_pos' (by have := hs.1.2.2.2; omega)
    have hl2 := hl
    rw [show nI 0 = (0 : Int32) from rfl] at hl2
    have l1 : ∀ k v, cm_Lay G (am_pi h (m + 14) k v) m := fun _ _ => l
    have l2 : ∀ k v k2 v2, cm_Lay G (am_pi (am_pi h (m + 14) k v) (m + 14) k2 v2) m := fun _ _ _ _ => l
    have l3 : ∀ k v k2 v2 k3 v3, cm_Lay G (am_pi (am_pi (am_pi h (m + 14) k v) (m + 14) k2 v2) (m + 14) k3 v3) m := fun _ _ _ _ _ _ => l
    have s1 : ∀ k v, am_i (am_pi h (m + 14) k v) (m + 1) = σ := fun _ _ => by rw [am_pi14 (by decide), hσ]
    have s2 : ∀ k v k2 v2, am_i (am_pi (am_pi h (m + 14) k v) (m + 14) k2 v2) (m + 1) = σ := fun _ _ _ _ => by rw [am_pi14 (by decide), s1]
    have s3 : ∀ k v k2 v2 k3 v3, am_i (am_pi (am_pi (am_pi h (m + 14) k v) (m + 14) k2 v2) (m + 14) k3 v3) (m + 1) = σ := fun _ _ _ _ _ _ => by rw [am_pi14 (by decide), s2]
    have w1 : am_iw G h (m + 14) 115 := cm_iw14 l (show 115 < 128 by omega)
    have w2 : am_iw G h (m + 14) 112 := cm_iw14 l (show 112 < 128 by omega)
    have w3 : am_iw G h (m + 14) 119 := cm_iw14 l (show 119 < 128 by omega)
    obtain ⟨v, h2, hv, hw, hf⟩ := m_law (d := d + 1) (key := 0) (a := nI s) (b := nI q) (c := σ (66 + 6 * p + 2)) (l3 115 (nI s) 112 (nI q) 119 (σ (66 + 6 * p + 2))) (s3 _ _ _ _ _ _) hs hk hl hkey (by decide) (by simp [am_pi_i, mt_nc]) (by simp [am_pi_i, mt_nc]) (by simp [am_pi_i, mt_nc])
    refine ⟨h2, ?_, (((am_fr.pi (Or.inl rfl)).tr (am_fr.pi (Or.inl rfl))).tr (am_fr.pi (Or.inl rfl))).tr (hf.wd (fun _ z => Or.inr z))⟩
    · simp only [n_168, e_168_0, e_168_1, e_168_2, e_168_5, e_168_6, e_168_7, e_168_8, e_168_9, e_168_12, e_168_13, e_168_14, e_168_17, e_168_18, e_168_19, e_168_22, e_168_23, e_168_24, e_168_25, e_168_28, e_168_29, e_168_32, e_168_33, e_168_34, e_168_37, f_168_38, e_168_39, e_168_40, e_168_41, f_168_44, e_168_46, e_168_48, e_168_51, f_168_52, e_168_53, e_168_54, e_168_57, e_168_59, e_168_60, e_168_61, e_168_62, e_168_65, e_168_67, e_168_68, e_168_69, e_168_70, e_168_73, e_168_75, e_168_76, e_168_77, e_168_78, e_168_81, e_168_82, e_168_83, e_168_85, e_168_88, e_168_91, e_168_92, f_168_96, e_168_95, Option.bind_some, Option.toList_some, Option.toList_none, List.cons_append, List.nil_append, am_k1_i, am_k1_r, am_k1_u, am_k1_n, am_bo0, am_bo1, am_boi, am_ev_tb, am_tb_nil, am_rfs, am_rfn, eq_self, and_self, if_true, if_false, show ¬ (1 : Int32) = 0 from by decide, show ¬ (0 : Int32) = 1 from by decide, not_true, not_false_eq_true, and_true, true_and, and_false, false_and, or_true, true_or, or_false, false_or, cm_ob l, hc, hl2, h0, cm_r25 l, w1, w2, w3, am_iw_pi, am_ob_pi, am_pi_r, b2 _ (l2 _ _ _ _) (s2 _ _ _ _), show (115 : Int32).toNatClampNeg = 115 from rfl, show (112 : Int32).toNatClampNeg = 112 from rfl, show (119 : Int32).toNatClampNeg = 119 from rfl, hw, hv]
      by_cases hz : v = 0
      · simp only [hz, decide_true, Bool.not_true, Bool.false_eq_true, if_true, if_false]
      · have hz2 : ¬ some v = some 0 := fun z => hz (Option.some.inj z)
        simp only [hz, hz2, decide_false, Bool.not_false, if_true, if_false]
end CZ2
