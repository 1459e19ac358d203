/-! the reference: what changes its row s -/
theorem am_pi_pa {h : am_H} {a k : Nat} {v : Int32} : am_pi h a k v = am_pa h a (upd (am_i h a) k v) := by
  unfold am_pi am_pa
  congr 4
  funext b j
  unfold am_u2 am_ua
  by_cases hb : b = a
  · subst hb
    rw [if_pos rfl]
    by_cases hj : j = k
    · subst hj
      rw [if_pos ⟨rfl, rfl⟩, pk_us]
    · rw [if_neg (fun z => hj z.2), pk_un hj]
      rfl
  · rw [if_neg (fun z => hb z.1), if_neg hb]
theorem am_pa_pa {h : am_H} {a : Nat} {f g : Nat → Int32} : am_pa (am_pa h a f) a g = am_pa h a g := by
  unfold am_pa
  congr 4
  funext b
  unfold am_ua
  by_cases hb : b = a
  · simp [hb]
  · simp [hb]
theorem am_pa_i {h : am_H} {a b : Nat} {g : Nat → Int32} : am_i (am_pa h a g) b = if b = a then g else am_i h b := rfl
theorem am_pa_self {h : am_H} {a : Nat} : am_pa h a (am_i h a) = h := by
  obtain ⟨x1, x2, x3, x4, x5⟩ := h
  unfold am_pa am_i
  congr 4
  funext b
  unfold am_ua
  by_cases hb : b = a
  · simp [hb]
  · simp [hb]
theorem cm_Lay.pa {G : Nat → Nat} {h : am_H} {m a : Nat} {g : Nat → Int32} (l : cm_Lay G h m) : cm_Lay G (am_pa h a g) m := l
theorem am_ob_pa {G : Nat → Nat} {h : am_H} {a b c : Nat} {g : Nat → Int32} : am_ob G (am_pa h a g) b c ↔ am_ob G h b c := Iff.rfl
section CM3
variable {G : Nat → Nat} {d : Nat} {h : am_H} {m : Nat}
theorem m_becomes2 (l : cm_Lay G h m) {j : Nat} (hj : j < 3114) {v : Int32} : am_evm G d 134 [.ref m, .int (nI j), .int v] h = some (some (.int (am_i h (m + 1) j)), am_pa h (m + 1) (upd (am_i h (m + 1)) j v)) := by
  rw [m_becomes l hj, am_pi_pa]
def mt_z (z : Int32) : Int32 := z * 1103515245 + 12345
def mt_dr (z : Int32) : Int32 := ((mt_z z).toUInt32 >>> ((8 : Int32).toUInt32 &&& Int32.toUInt32 31)).toInt32
theorem m_drawn (l : cm_Lay G h m) : am_evm G d 144 [.ref m] h = some (some (.int (mt_dr (am_i h (m + 1) 4))), am_pa h (m + 1) (upd (am_i h (m + 1)) 4 (mt_z (am_i h (m + 1) 4)))) := by
  have i4 : am_ia G h (m + 1) 4 := cm_ia1 l (show 4 < 3114 by omega)
  have w4 : am_iw G h (m + 1) 4 := cm_iw1 l (show 4 < 3114 by omega)
  simp only [n_144, e_144_0, e_144_1, e_144_4, e_144_5, e_144_6, e_144_9, e_144_10, e_144_11, e_144_13, e_144_14, e_144_17, e_144_18, e_144_19, e_144_20, e_144_23, e_144_24, e_144_25, e_144_27, e_144_28, Option.bind_some, Option.toList_some, Option.toList_none, List.cons_append, List.nil_append, am_k1_i, am_k1_r, am_k1_u, am_k1_n, am_bo0, am_bo1, am_boi, am_ev_tb, am_tb_nil, am_rfs, am_rfn, eq_self, cm_ob l, cm_r0 l, i4, w4, show (4 : Int32).toNatClampNeg = 4 from rfl, am_pi_r, am_ob_pi, am_ia_pi, am_pi_i, and_self, if_true]
  rw [am_pi_pa]
  rfl
def mt_comes (σ : Nat → Int32) (n : Nat) (k b w : Int32) : Nat → Int32 := upd (upd (upd (upd (upd (upd σ (6 + 5 * n) k) (6 + 5 * n + 1) b) (6 + 5 * n + 2) w) (6 + 5 * n + 3) 0) (6 + 5 * n + 4) 0) 0 (nI (n + 1))
theorem m_comes (l : cm_Lay G h m) {n : Nat} (hn : am_i h (m + 1) 0 = nI n) (hn12 : n < 12) {k b w : Int32} : am_evm G d 145 [.ref m, .int k, .int b, .int w] h = some (none, am_pa h (m + 1) (mt_comes (am_i h (m + 1)) n k b w)) := by
  have i0 : am_ia G h (m + 1) 0 := cm_ia1 l (show 0 < 3114 by omega)
  have w0 : am_iw G h (m + 1) 0 := cm_iw1 l (show 0 < 3114 by omega)
  have e0 : (6 : Int32) + 5 * nI n = nI (6 + 5 * n) := by rw [← nI_add, ← pk_mul]; rfl
  have e1 : nI (6 + 5 * n) + 1 = nI (6 + 5 * n + 1) := nI_1 _
  have e2 : nI (6 + 5 * n) + 2 = nI (6 + 5 * n + 2) := nI_add _ 2
  have e3 : nI (6 + 5 * n) + 3 = nI (6 + 5 * n + 3) := nI_add _ 3
  have e4 : nI (6 + 5 * n) + 4 = nI (6 + 5 * n + 4) := nI_add _ 4
  simp only [n_145, e_145_0, e_145_2, e_145_3, e_145_4, e_145_7, e_145_8, e_145_9, e_145_10, f_145_11, e_145_13, e_145_14, e_145_17, e_145_19, e_145_20, e_145_21, e_145_22, e_145_25, e_145_27, e_145_28, e_145_29, e_145_30, e_145_31, e_145_32, e_145_35, e_145_37, e_145_38, e_145_39, e_145_40, e_145_41, e_145_42, e_145_45, e_145_47, e_145_48, e_145_49, e_145_50, e_145_51, e_145_52, e_145_55, e_145_57, e_145_58, e_145_59, e_145_60, e_145_61, e_145_62, e_145_65, e_145_66, e_145_67, e_145_68, e_145_69, e_145_70, e_145_71, Option.bind_some, Option.toList_some, Option.toList_none, List.cons_append, List.nil_append, am_k1_i, am_k1_r, am_k1_u, am_k1_n, am_bo0, am_bo1, am_boi, am_ev_tb, am_tb_nil, am_rfs, am_rfn, eq_self, cm_ob l, cm_r0 l, i0, w0, show (0 : Int32).toNatClampNeg = 0 from rfl, hn, e0, e1, e2, e3, e4, am_pi_r, am_ob_pi, am_ia_pi, am_iw_pi, cm_iw1 l (show 6 + 5 * n < 3114 by omega), cm_iw1 l (show 6 + 5 * n + 1 < 3114 by omega), cm_iw1 l (show 6 + 5 * n + 2 < 3114 by omega), cm_iw1 l (show 6 + 5 * n + 3 < 3114 by omega), cm_iw1 l (show 6 + 5 * n + 4 < 3114 by omega), am_cl (show 6 + 5 * n < 2147483648 by omega), am_cl (show 6 + 5 * n + 1 < 2147483648 by omega), am_cl (show 6 + 5 * n + 2 < 2147483648 by omega), am_cl (show 6 + 5 * n + 3 < 2147483648 by omega), am_cl (show 6 + 5 * n + 4 < 2147483648 by omega), am_pi_i, true_and, show ¬ 0 = 6 + 5 * n from by omega, show ¬ 0 = 6 + 5 * n + 1 from by omega, show ¬ 0 = 6 + 5 * n + 2 from by omega, show ¬ 0 = 6 + 5 * n + 3 from by omega, show ¬ 0 = 6 + 5 * n + 4 from by omega, if_false, nI_1]
  simp only [am_pi_pa, am_pa_i, if_true, am_pa_pa]
  rfl
theorem m_person (l : cm_Lay G h m) {n : Nat} (hn : am_i h (m + 1) 0 = nI n) (hn12 : n ≤ 12) {k b : Int32} : am_evm G (d + 1) 146 [.ref m, .int k, .int b] h = if (0 ≤ k ∧ k ≤ 5) ∧ (0 ≤ b ∧ b ≤ 100) then (if n = 12 then some (some (.int (-1000000003)), h) else some (some (.int (nI n)), am_pa h (m + 1) (mt_comes (am_i h (m + 1)) n k b 0))) else some (some (.int (-1000000001)), h) := by
  have i0 : am_ia G h (m + 1) 0 := cm_ia1 l (show 0 < 3114 by omega)
  by_cases h1 : 0 ≤ k ∧ k ≤ 5
  · by_cases h2 : 0 ≤ b ∧ b ≤ 100
    · by_cases h3 : n = 12
      · subst h3
        simp [n_146, e_146_0, e_146_1, e_146_2, e_146_3, e_146_6, e_146_9, e_146_12, e_146_13, e_146_14, e_146_15, e_146_18, e_146_21, e_146_24, e_146_26, e_146_27, e_146_28, e_146_31, e_146_32, e_146_33, e_146_35, e_146_38, e_146_40, e_146_41, e_146_42, e_146_43, e_146_44, e_146_45, e_146_48, e_146_49, e_146_52, e_146_53, e_146_54, e_146_55, e_146_56, Option.bind_some, Option.toList_some, Option.toList_none, List.cons_append, List.nil_append, am_k1_i, am_k1_r, am_k1_u, am_k1_n, am_bo0, am_bo1, am_boi, am_ev_tb, am_tb_nil, am_rfs, am_rfn, eq_self, m_i0_5, m_i0_100, h1, h2, cm_ob l, cm_r0 l, i0, hn, show nI 12 = (12 : Int32) from rfl]
      · have h4 : ¬ nI n = 12 := fun z => h3 ((nI_eq (by omega) (by omega)).mp z)
        have l2 := cm_Lay.pa (a := m + 1) (g := mt_comes (am_i h (m + 1)) n k b 0) l
        have i2 : am_ia G (am_pa h (m + 1) (mt_comes (am_i h (m + 1)) n k b 0)) (m + 1) 0 := cm_ia1 l2 (show 0 < 3114 by omega)
        simp [n_146, e_146_0, e_146_1, e_146_2, e_146_3, e_146_6, e_146_9, e_146_12, e_146_13, e_146_14, e_146_15, e_146_18, e_146_21, e_146_24, e_146_26, e_146_27, e_146_28, e_146_31, e_146_32, e_146_33, e_146_35, e_146_38, e_146_40, e_146_41, e_146_42, e_146_43, e_146_44, e_146_45, e_146_48, e_146_49, e_146_52, e_146_53, e_146_54, e_146_55, e_146_56, Option.bind_some, Option.toList_some, Option.toList_none, List.cons_append, List.nil_append, am_k1_i, am_k1_r, am_k1_u, am_k1_n, am_bo0, am_bo1, am_boi, am_ev_tb, am_tb_nil, am_rfs, am_rfn, eq_self, m_i0_5, m_i0_100, h1, h2, h3, h4, cm_ob l, cm_r0 l, i0, hn, m_comes l hn (show n < 12 by omega), cm_ob l2, cm_r0 l2, i2, am_pa_i]
        unfold mt_comes
        rw [pk_us, nI_pred]
    · simp [n_146, e_146_0, e_146_1, e_146_2, e_146_3, e_146_6, e_146_9, e_146_12, e_146_13, e_146_14, e_146_15, e_146_18, e_146_21, e_146_24, e_146_26, e_146_27, e_146_28, e_146_31, e_146_32, e_146_33, e_146_35, e_146_38, e_146_40, e_146_41, e_146_42, e_146_43, e_146_44, e_146_45, e_146_48, e_146_49, e_146_52, e_146_53, e_146_54, e_146_55, e_146_56, Option.bind_some, Option.toList_some, Option.toList_none, List.cons_append, List.nil_append, am_k1_i, am_k1_r, am_k1_u, am_k1_n, am_bo0, am_bo1, am_boi, am_ev_tb, am_tb_nil, am_rfs, am_rfn, eq_self, m_i0_5, m_i0_100, h1, h2]
  · simp [n_146, e_146_0, e_146_1, e_146_2, e_146_3, e_146_6, e_146_9, e_146_12, e_146_13, e_146_14, e_146_15, e_146_18, e_146_21, e_146_24, e_146_26, e_146_27, e_146_28, e_146_31, e_146_32, e_146_33, e_146_35, e_146_38, e_146_40, e_146_41, e_146_42, e_146_43, e_146_44, e_146_45, e_146_48, e_146_49, e_146_52, e_146_53, e_146_54, e_146_55, e_146_56, Option.bind_some, Option.toList_some, Option.toList_none, List.cons_append, List.nil_append, am_k1_i, am_k1_r, am_k1_u, am_k1_n, am_bo0, am_bo1, am_boi, am_ev_tb, am_tb_nil, am_rfs, am_rfn, eq_self, m_i0_5, m_i0_100, h1]
end CM3
