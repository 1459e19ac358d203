/-! the reference: its small methods -/
section CM
variable {G : Nat → Nat} {d : Nat} {h : am_H} {m : Nat}
theorem m_isIn {v a b : Int64} : am_evm G d 131 [.long v, .long a, .long b] h = some (some (.int (if a ≤ v ∧ v ≤ b then 1 else 0)), h) := by
  simp only [n_131, e_131_0, e_131_1, e_131_2, e_131_3, e_131_6, e_131_7, e_131_9, e_131_10, e_131_13, e_131_14, f_131_18, e_131_17, Option.bind_some, Option.toList_some, Option.toList_none, List.cons_append, List.nil_append, am_k1_i, am_k1_r, am_k1_u, am_k1_n, am_bo0, am_bo1, am_boi, am_ev_tb, am_tb_nil, am_rfs, am_rfn, eq_self]
  have e1 : (lg_cmp v a < 0) ↔ ¬ a ≤ v := by rw [← lg_cmp_ge, Int32.not_le]
  have e2 : (0 < lg_cmp v b) ↔ ¬ v ≤ b := by
    unfold lg_cmp
    by_cases h1 : v > b
    · rw [if_pos h1]
      exact iff_of_true (by decide) (Int64.not_le.mpr h1)
    · rw [if_neg h1]
      refine iff_of_false ?_ (fun z => z (Int64.not_lt.mp h1))
      split <;> decide
  by_cases h1 : a ≤ v
  · by_cases h2 : v ≤ b
    · simp only [e1, e2, h1, h2, not_true, if_false, and_self, if_true, Option.bind_some, Option.toList_some, Option.toList_none, List.cons_append, List.nil_append, am_k1_i, am_k1_r, am_k1_u, am_k1_n, am_bo0, am_bo1, am_boi, am_ev_tb, am_tb_nil, am_rfs, am_rfn, eq_self]
    · simp only [e1, e2, h1, h2, not_true, not_false_eq_true, if_false, and_false, if_true, Option.bind_some, Option.toList_some, Option.toList_none, List.cons_append, List.nil_append, am_k1_i, am_k1_r, am_k1_u, am_k1_n, am_bo0, am_bo1, am_boi, am_ev_tb, am_tb_nil, am_rfs, am_rfn, eq_self]
  · simp only [e1, h1, not_false_eq_true, if_false, false_and, if_true, Option.bind_some, Option.toList_some, Option.toList_none, List.cons_append, List.nil_append, am_k1_i, am_k1_r, am_k1_u, am_k1_n, am_bo0, am_bo1, am_boi, am_ev_tb, am_tb_nil, am_rfs, am_rfn, eq_self]
theorem m_orNone {v : Int32} : am_evm G d 132 [.int v] h = some (some (.int (if 0 ≤ v then v else -1000000005)), h) := by
  simp only [n_132, e_132_0, e_132_1, e_132_4, e_132_6, e_132_10, e_132_9, Option.bind_some, Option.toList_some, Option.toList_none, List.cons_append, List.nil_append, am_k1_i, am_k1_r, am_k1_u, am_k1_n, am_bo0, am_bo1, am_boi, am_ev_tb, am_tb_nil, am_rfs, am_rfn, eq_self]
  by_cases h1 : 0 ≤ v
  · simp only [h1, if_true]
  · simp only [h1, if_false]
theorem m_becomes (l : cm_Lay G h m) {j : Nat} (hj : j < 3114) {v : Int32} : am_evm G d 134 [.ref m, .int (nI j), .int v] h = some (some (.int (am_i h (m + 1) j)), am_pi h (m + 1) j v) := by
  simp only [n_134, e_134_0, e_134_1, e_134_4, e_134_5, f_134_6, e_134_7, e_134_8, e_134_11, e_134_12, e_134_13, e_134_14, e_134_15, Option.bind_some, Option.toList_some, Option.toList_none, List.cons_append, List.nil_append, am_k1_i, am_k1_r, am_k1_u, am_k1_n, am_bo0, am_bo1, am_boi, am_ev_tb, am_tb_nil, am_rfs, am_rfn, eq_self, cm_ob l, cm_r0 l, cm_ia1 l hj, cm_iw1 l hj, am_cl (show j < 2147483648 by omega)]
theorem m_textAt {t : Nat} : am_evm G d 135 [.ref m, .int (nI t)] h = some (some (.int (nI (114 + 200 * t))), h) := by
  simp only [n_135, e_135_0, e_135_2, e_135_5, e_135_6, e_135_7, e_135_8, Option.bind_some, Option.toList_some, Option.toList_none, List.cons_append, List.nil_append, am_k1_i, am_k1_r, am_k1_u, am_k1_n, am_bo0, am_bo1, am_boi, am_ev_tb, am_tb_nil, am_rfs, am_rfn, eq_self]
  rw [show ((114 : Int32) + 200 * nI t) = nI (114 + 200 * t) from by rw [← nI_add, ← pk_mul]; rfl]
theorem m_of (l : cm_Lay G h m) {p j : Nat} (hj : 6 + 5 * p + j < 3114) : am_evm G d 136 [.ref m, .int (nI p), .int (nI j)] h = some (some (.int (am_i h (m + 1) (6 + 5 * p + j))), h) := by
  have e : ((6 : Int32) + 5 * nI p + nI j) = nI (6 + 5 * p + j) := by rw [← nI_add, ← nI_add, ← pk_mul]; rfl
  simp only [n_136, e_136_0, e_136_1, e_136_4, e_136_6, e_136_7, e_136_8, e_136_9, e_136_10, e_136_11, e_136_12, e_136_13, Option.bind_some, Option.toList_some, Option.toList_none, List.cons_append, List.nil_append, am_k1_i, am_k1_r, am_k1_u, am_k1_n, am_bo0, am_bo1, am_boi, am_ev_tb, am_tb_nil, am_rfs, am_rfn, eq_self, cm_ob l, cm_r0 l, e, cm_ia1 l hj, am_cl (show 6 + 5 * p + j < 2147483648 by omega)]
theorem m_dee (l : cm_Lay G h m) {p j : Nat} (hj : 66 + 6 * p + j < 3114) : am_evm G d 137 [.ref m, .int (nI p), .int (nI j)] h = some (some (.int (am_i h (m + 1) (66 + 6 * p + j))), h) := by
  have e : ((66 : Int32) + 6 * nI p + nI j) = nI (66 + 6 * p + j) := by rw [← nI_add, ← nI_add, ← pk_mul]; rfl
  simp only [n_137, e_137_0, e_137_1, e_137_4, e_137_6, e_137_8, e_137_9, e_137_10, e_137_11, e_137_12, e_137_13, e_137_14, Option.bind_some, Option.toList_some, Option.toList_none, List.cons_append, List.nil_append, am_k1_i, am_k1_r, am_k1_u, am_k1_n, am_bo0, am_bo1, am_boi, am_ev_tb, am_tb_nil, am_rfs, am_rfn, eq_self, cm_ob l, cm_r0 l, e, cm_ia1 l hj, am_cl (show 66 + 6 * p + j < 2147483648 by omega)]
theorem m_i0x {v b : Int32} : am_evm G d 131 [.long v.toInt64, .long 0, .long b.toInt64] h = some (some (.int (if 0 ≤ v ∧ v ≤ b then 1 else 0)), h) := by
  rw [m_isIn]
  simp only [show (0 : Int64) = (0 : Int32).toInt64 from rfl, mt_64]
theorem m_i0_5 {v : Int32} : am_evm G d 131 [.long v.toInt64, .long 0, .long 5] h = some (some (.int (if 0 ≤ v ∧ v ≤ 5 then 1 else 0)), h) := by
  rw [m_isIn]
  simp only [show (0 : Int64) = (0 : Int32).toInt64 from by decide, show (5 : Int64) = (5 : Int32).toInt64 from by decide, mt_64]
theorem m_i0_100 {v : Int32} : am_evm G d 131 [.long v.toInt64, .long 0, .long 100] h = some (some (.int (if 0 ≤ v ∧ v ≤ 100 then 1 else 0)), h) := by
  rw [m_isIn]
  simp only [show (0 : Int64) = (0 : Int32).toInt64 from by decide, show (100 : Int64) = (100 : Int32).toInt64 from by decide, mt_64]
theorem m_i0_1 {v : Int32} : am_evm G d 131 [.long v.toInt64, .long 0, .long 1] h = some (some (.int (if 0 ≤ v ∧ v ≤ 1 then 1 else 0)), h) := by
  rw [m_isIn]
  simp only [show (0 : Int64) = (0 : Int32).toInt64 from by decide, show (1 : Int64) = (1 : Int32).toInt64 from by decide, mt_64]
theorem m_i0_23 {v : Int32} : am_evm G d 131 [.long v.toInt64, .long 0, .long 23] h = some (some (.int (if 0 ≤ v ∧ v ≤ 23 then 1 else 0)), h) := by
  rw [m_isIn]
  simp only [show (0 : Int64) = (0 : Int32).toInt64 from by decide, show (23 : Int64) = (23 : Int32).toInt64 from by decide, mt_64]
theorem m_i1_12 {v : Int32} : am_evm G d 131 [.long v.toInt64, .long 1, .long 12] h = some (some (.int (if 1 ≤ v ∧ v ≤ 12 then 1 else 0)), h) := by
  rw [m_isIn]
  simp only [show (1 : Int64) = (1 : Int32).toInt64 from by decide, show (12 : Int64) = (12 : Int32).toInt64 from by decide, mt_64]
theorem m_i0_99 {v : Int32} : am_evm G d 131 [.long v.toInt64, .long 0, .long 99] h = some (some (.int (if 0 ≤ v ∧ v ≤ 99 then 1 else 0)), h) := by
  rw [m_isIn]
  simp only [show (0 : Int64) = (0 : Int32).toInt64 from by decide, show (99 : Int64) = (99 : Int32).toInt64 from by decide, mt_64]
theorem m_i0_4 {v : Int32} : am_evm G d 131 [.long v.toInt64, .long 0, .long 4] h = some (some (.int (if 0 ≤ v ∧ v ≤ 4 then 1 else 0)), h) := by
  rw [m_isIn]
  simp only [show (0 : Int64) = (0 : Int32).toInt64 from by decide, show (4 : Int64) = (4 : Int32).toInt64 from by decide, mt_64]
theorem m_i1_40 {v : Int32} : am_evm G d 131 [.long v.toInt64, .long 1, .long 40] h = some (some (.int (if 1 ≤ v ∧ v ≤ 40 then 1 else 0)), h) := by
  rw [m_isIn]
  simp only [show (1 : Int64) = (1 : Int32).toInt64 from by decide, show (40 : Int64) = (40 : Int32).toInt64 from by decide, mt_64]
theorem m_i1_30 {v : Int32} : am_evm G d 131 [.long v.toInt64, .long 1, .long 30] h = some (some (.int (if 1 ≤ v ∧ v ≤ 30 then 1 else 0)), h) := by
  rw [m_isIn]
  simp only [show (1 : Int64) = (1 : Int32).toInt64 from by decide, show (30 : Int64) = (30 : Int32).toInt64 from by decide, mt_64]
theorem m_i0_2 {v : Int32} : am_evm G d 131 [.long v.toInt64, .long 0, .long 2] h = some (some (.int (if 0 ≤ v ∧ v ≤ 2 then 1 else 0)), h) := by
  rw [m_isIn]
  simp only [show (0 : Int64) = (0 : Int32).toInt64 from by decide, show (2 : Int64) = (2 : Int32).toInt64 from by decide, mt_64]
theorem m_in1_1 {v : Int32} : am_evm G d 131 [.long v.toInt64, .long (-1), .long 1] h = some (some (.int (if (-1) ≤ v ∧ v ≤ 1 then 1 else 0)), h) := by
  rw [m_isIn]
  rw [show ((-1) : Int64) = ((-1) : Int32).toInt64 from by decide, show (1 : Int64) = (1 : Int32).toInt64 from by decide]
  simp only [mt_64]
theorem m_i0_3 {v : Int32} : am_evm G d 131 [.long v.toInt64, .long 0, .long 3] h = some (some (.int (if 0 ≤ v ∧ v ≤ 3 then 1 else 0)), h) := by
  rw [m_isIn]
  simp only [show (0 : Int64) = (0 : Int32).toInt64 from by decide, show (3 : Int64) = (3 : Int32).toInt64 from by decide, mt_64]
theorem m_i97_122 {v : Int32} : am_evm G d 131 [.long v.toInt64, .long 97, .long 122] h = some (some (.int (if 97 ≤ v ∧ v ≤ 122 then 1 else 0)), h) := by
  rw [m_isIn]
  simp only [show (97 : Int64) = (97 : Int32).toInt64 from by decide, show (122 : Int64) = (122 : Int32).toInt64 from by decide, mt_64]
theorem m_i48_57 {v : Int32} : am_evm G d 131 [.long v.toInt64, .long 48, .long 57] h = some (some (.int (if 48 ≤ v ∧ v ≤ 57 then 1 else 0)), h) := by
  rw [m_isIn]
  simp only [show (48 : Int64) = (48 : Int32).toInt64 from by decide, show (57 : Int64) = (57 : Int32).toInt64 from by decide, mt_64]
theorem m_in99999_99999 {v : Int32} : am_evm G d 131 [.long v.toInt64, .long (-99999), .long 99999] h = some (some (.int (if (-99999) ≤ v ∧ v ≤ 99999 then 1 else 0)), h) := by
  rw [m_isIn]
  rw [show ((-99999) : Int64) = ((-99999) : Int32).toInt64 from by decide, show (99999 : Int64) = (99999 : Int32).toInt64 from by decide]
  simp only [mt_64]
theorem m_isPerson (l : cm_Lay G h m) {v : Int32} : am_evm G (d + 1) 138 [.ref m, .int v] h = some (some (.int (if 0 ≤ v ∧ v ≤ am_i h (m + 1) 0 - 1 then 1 else 0)), h) := by
  simp only [n_138, e_138_0, e_138_1, e_138_2, e_138_3, e_138_4, e_138_7, e_138_8, e_138_9, e_138_10, e_138_11, e_138_12, f_138_15, Option.bind_some, Option.toList_some, Option.toList_none, List.cons_append, List.nil_append, am_k1_i, am_k1_r, am_k1_u, am_k1_n, am_bo0, am_bo1, am_boi, am_ev_tb, am_tb_nil, am_rfs, am_rfn, eq_self, cm_ob l, cm_r0 l, show (0 : Int32) = nI 0 from rfl, cm_ia1 l (show 0 < 3114 by omega), am_cl (show 0 < 2147483648 by omega)]
  simp only [show nI 0 = (0 : Int32) from rfl, m_i0x, n_138, e_138_0, e_138_1, e_138_2, e_138_3, e_138_4, e_138_7, e_138_8, e_138_9, e_138_10, e_138_11, e_138_12, f_138_15, Option.bind_some, Option.toList_some, Option.toList_none, List.cons_append, List.nil_append, am_k1_i, am_k1_r, am_k1_u, am_k1_n, am_bo0, am_bo1, am_boi, am_ev_tb, am_tb_nil, am_rfs, am_rfn, eq_self]
theorem m_isDeed (l : cm_Lay G h m) {v : Int32} : am_evm G (d + 1) 139 [.ref m, .int v] h = some (some (.int (if 0 ≤ v ∧ v ≤ am_i h (m + 1) 1 - 1 then 1 else 0)), h) := by
  have i1 : am_ia G h (m + 1) 1 := cm_ia1 l (show 1 < 3114 by omega)
  simp only [n_139, e_139_0, e_139_1, e_139_2, e_139_3, e_139_4, e_139_7, e_139_8, e_139_9, e_139_10, e_139_11, e_139_12, f_139_15, Option.bind_some, Option.toList_some, Option.toList_none, List.cons_append, List.nil_append, am_k1_i, am_k1_r, am_k1_u, am_k1_n, am_bo0, am_bo1, am_boi, am_ev_tb, am_tb_nil, am_rfs, am_rfn, eq_self, cm_ob l, cm_r0 l, i1, show (1 : Int32).toNatClampNeg = 1 from rfl, m_i0x]
theorem m_isText (l : cm_Lay G h m) {v : Int32} : am_evm G (d + 1) 140 [.ref m, .int v] h = some (some (.int (if 0 ≤ v ∧ v ≤ am_i h (m + 1) 2 - 1 then 1 else 0)), h) := by
  have i1 : am_ia G h (m + 1) 2 := cm_ia1 l (show 2 < 3114 by omega)
  simp only [n_140, e_140_0, e_140_1, e_140_2, e_140_3, e_140_4, e_140_7, e_140_8, e_140_9, e_140_10, e_140_11, e_140_12, f_140_15, Option.bind_some, Option.toList_some, Option.toList_none, List.cons_append, List.nil_append, am_k1_i, am_k1_r, am_k1_u, am_k1_n, am_bo0, am_bo1, am_boi, am_ev_tb, am_tb_nil, am_rfs, am_rfn, eq_self, cm_ob l, cm_r0 l, i1, show (2 : Int32).toNatClampNeg = 2 from rfl, m_i0x]
theorem m_everybody (l : cm_Lay G h m) : am_evm G d 141 [.ref m] h = some (some (.int (mt_every (am_i h (m + 1) 0))), h) := by
  have i1 : am_ia G h (m + 1) 0 := cm_ia1 l (show 0 < 3114 by omega)
  simp only [n_141, e_141_0, e_141_1, e_141_2, e_141_5, e_141_6, e_141_7, e_141_8, e_141_9, e_141_10, Option.bind_some, Option.toList_some, Option.toList_none, List.cons_append, List.nil_append, am_k1_i, am_k1_r, am_k1_u, am_k1_n, am_bo0, am_bo1, am_boi, am_ev_tb, am_tb_nil, am_rfs, am_rfn, eq_self, cm_ob l, cm_r0 l, i1, show (0 : Int32).toNatClampNeg = 0 from rfl, mt_every]
theorem m_left (l : cm_Lay G h m) {p : Nat} (hp : p < 8) : am_evm G (d + 1) 142 [.ref m, .int (nI p)] h = some (some (.int (mt_every (am_i h (m + 1) 0) &&& (am_i h (m + 1) (66 + 6 * p + 3) ^^^ (-1)))), h) := by
  simp only [n_142, e_142_0, e_142_1, e_142_4, e_142_5, e_142_6, e_142_7, e_142_10, e_142_11, e_142_12, e_142_13, Option.bind_some, Option.toList_some, Option.toList_none, List.cons_append, List.nil_append, am_k1_i, am_k1_r, am_k1_u, am_k1_n, am_bo0, am_bo1, am_boi, am_ev_tb, am_tb_nil, am_rfs, am_rfn, eq_self, cm_ob l, m_everybody l, show (3 : Int32) = nI 3 from rfl, m_dee l (show 66 + 6 * p + 3 < 3114 by omega)]
theorem m_ones_l {x : Int32} : ∀ n k, k + n = 12 → am_ev G d 143 4 [some (.int x), some (.int (mt_on x k)), some (.int (nI k))] [] h = some (some (.int (mt_ones x)), h) := by
  intro n
  induction n with
  | zero =>
    intro k hk
    obtain rfl : k = 12 := by omega
    rw [e_143_4]
    simp only [n_143, e_143_0, f_143_1, e_143_2, f_143_3, e_143_5, e_143_7, e_143_10, e_143_11, e_143_12, e_143_13, e_143_14, e_143_15, e_143_16, f_143_17, f_143_18, e_143_21, e_143_24, e_143_25, Option.bind_some, Option.toList_some, Option.toList_none, List.cons_append, List.nil_append, am_k1_i, am_k1_r, am_k1_u, am_k1_n, am_bo0, am_bo1, am_boi, am_ev_tb, am_tb_nil, am_rfs, am_rfn, eq_self, show (12 : Int32) ≤ nI 12 from by decide, if_true]
    rfl
  | succ n ih =>
    intro k hk
    rw [e_143_4]
    have hlt : ¬ (12 : Int32) ≤ nI k := nI_ge (show k < 12 by omega) (by decide)
    simp only [n_143, e_143_0, f_143_1, e_143_2, f_143_3, e_143_5, e_143_7, e_143_10, e_143_11, e_143_12, e_143_13, e_143_14, e_143_15, e_143_16, f_143_17, f_143_18, e_143_21, e_143_24, e_143_25, Option.bind_some, Option.toList_some, Option.toList_none, List.cons_append, List.nil_append, am_k1_i, am_k1_r, am_k1_u, am_k1_n, am_bo0, am_bo1, am_boi, am_ev_tb, am_tb_nil, am_rfs, am_rfn, eq_self, hlt, if_false, mt_sshr x (show k < 32 by omega), nI_1]
    exact ih (k + 1) (by omega)
theorem m_ones {x : Int32} : am_evm G d 143 [.int x] h = some (some (.int (mt_ones x)), h) := by
  simp only [n_143, e_143_0, f_143_1, e_143_2, f_143_3, e_143_5, e_143_7, e_143_10, e_143_11, e_143_12, e_143_13, e_143_14, e_143_15, e_143_16, f_143_17, f_143_18, e_143_21, e_143_24, e_143_25, Option.bind_some, Option.toList_some, Option.toList_none, List.cons_append, List.nil_append, am_k1_i, am_k1_r, am_k1_u, am_k1_n, am_bo0, am_bo1, am_boi, am_ev_tb, am_tb_nil, am_rfs, am_rfn, eq_self]
  exact m_ones_l 12 0 rfl
theorem m_worthOf {k b : Int32} : am_evm G d 149 [.int k, .int b] h = some (some (.int (mt_worth k b)), h) := by
  simp only [n_149, e_149_0, e_149_1, e_149_61, e_149_62, e_149_56, e_149_58, e_149_59, e_149_60, e_149_51, e_149_53, e_149_54, e_149_55, e_149_45, e_149_46, e_149_47, e_149_48, e_149_49, e_149_50, e_149_40, e_149_42, e_149_43, e_149_44, e_149_36, e_149_37, e_149_38, e_149_39, Option.bind_some, Option.toList_some, Option.toList_none, List.cons_append, List.nil_append, am_k1_i, am_k1_r, am_k1_u, am_k1_n, am_bo0, am_bo1, am_boi, am_ev_tb, am_tb_nil, am_rfs, am_rfn, eq_self]
  unfold mt_worth
  by_cases h1 : k = 1
  · simp only [h1, if_true]
  by_cases h2 : k = 2
  · simp only [h2, if_true, show ¬ (2 : Int32) = 1 from by decide, if_false]
  by_cases h3 : k = 3
  · simp only [h3, if_true, show ¬ (3 : Int32) = 1 from by decide, show ¬ (3 : Int32) = 2 from by decide, if_false]
  by_cases h4 : k = 4
  · simp only [h4, if_true, show ¬ (4 : Int32) = 1 from by decide, show ¬ (4 : Int32) = 2 from by decide, show ¬ (4 : Int32) = 3 from by decide, if_false]
  by_cases h5 : k = 5
  · simp only [h5, if_true, show ¬ (5 : Int32) = 1 from by decide, show ¬ (5 : Int32) = 2 from by decide, show ¬ (5 : Int32) = 3 from by decide, show ¬ (5 : Int32) = 4 from by decide, if_false]
  simp only [h1, h2, h3, h4, h5, if_false]
theorem m_isOf {o k : Int32} : am_evm G d 152 [.int o, .int k] h = some (some (.int (if o = k ∨ k = 0 ∨ (k = 1 ∧ o = 3) ∨ (k = 2 ∧ o = 4) then 1 else 0)), h) := by
  simp only [n_152, e_152_0, e_152_1, e_152_2, e_152_5, e_152_6, e_152_9, e_152_10, e_152_11, e_152_14, e_152_15, e_152_16, e_152_19, e_152_20, e_152_21, e_152_24, e_152_25, e_152_26, e_152_29, e_152_30, f_152_34, e_152_33, Option.bind_some, Option.toList_some, Option.toList_none, List.cons_append, List.nil_append, am_k1_i, am_k1_r, am_k1_u, am_k1_n, am_bo0, am_bo1, am_boi, am_ev_tb, am_tb_nil, am_rfs, am_rfn, eq_self]
  by_cases h1 : o = k
  · simp only [h1, if_true, true_or, Option.bind_some, Option.toList_some, Option.toList_none, List.cons_append, List.nil_append, am_k1_i, am_k1_r, am_k1_u, am_k1_n, am_bo0, am_bo1, am_boi, am_ev_tb, am_tb_nil, am_rfs, am_rfn, eq_self, e_152_0, e_152_1, e_152_2, e_152_5, e_152_6, e_152_9, e_152_10, e_152_11, e_152_14, e_152_15, e_152_16, e_152_19, e_152_20, e_152_21, e_152_24, e_152_25, e_152_26, e_152_29, e_152_30, f_152_34, e_152_33]
  by_cases h2 : k = 0
  · subst h2
    simp [h1, Option.bind_some, Option.toList_some, Option.toList_none, List.cons_append, List.nil_append, am_k1_i, am_k1_r, am_k1_u, am_k1_n, am_bo0, am_bo1, am_boi, am_ev_tb, am_tb_nil, am_rfs, am_rfn, eq_self, e_152_0, e_152_1, e_152_2, e_152_5, e_152_6, e_152_9, e_152_10, e_152_11, e_152_14, e_152_15, e_152_16, e_152_19, e_152_20, e_152_21, e_152_24, e_152_25, e_152_26, e_152_29, e_152_30, f_152_34, e_152_33]
  by_cases h3 : k = 1
  · subst h3
    by_cases h4 : o = 3
    · simp [h4, Option.bind_some, Option.toList_some, Option.toList_none, List.cons_append, List.nil_append, am_k1_i, am_k1_r, am_k1_u, am_k1_n, am_bo0, am_bo1, am_boi, am_ev_tb, am_tb_nil, am_rfs, am_rfn, eq_self, e_152_0, e_152_1, e_152_2, e_152_5, e_152_6, e_152_9, e_152_10, e_152_11, e_152_14, e_152_15, e_152_16, e_152_19, e_152_20, e_152_21, e_152_24, e_152_25, e_152_26, e_152_29, e_152_30, f_152_34, e_152_33]
    · simp [h1, h4, Option.bind_some, Option.toList_some, Option.toList_none, List.cons_append, List.nil_append, am_k1_i, am_k1_r, am_k1_u, am_k1_n, am_bo0, am_bo1, am_boi, am_ev_tb, am_tb_nil, am_rfs, am_rfn, eq_self, e_152_0, e_152_1, e_152_2, e_152_5, e_152_6, e_152_9, e_152_10, e_152_11, e_152_14, e_152_15, e_152_16, e_152_19, e_152_20, e_152_21, e_152_24, e_152_25, e_152_26, e_152_29, e_152_30, f_152_34, e_152_33]
  by_cases h5 : k = 2
  · subst h5
    by_cases h4 : o = 4
    · simp [h4, Option.bind_some, Option.toList_some, Option.toList_none, List.cons_append, List.nil_append, am_k1_i, am_k1_r, am_k1_u, am_k1_n, am_bo0, am_bo1, am_boi, am_ev_tb, am_tb_nil, am_rfs, am_rfn, eq_self, e_152_0, e_152_1, e_152_2, e_152_5, e_152_6, e_152_9, e_152_10, e_152_11, e_152_14, e_152_15, e_152_16, e_152_19, e_152_20, e_152_21, e_152_24, e_152_25, e_152_26, e_152_29, e_152_30, f_152_34, e_152_33]
    · simp [h1, h4, Option.bind_some, Option.toList_some, Option.toList_none, List.cons_append, List.nil_append, am_k1_i, am_k1_r, am_k1_u, am_k1_n, am_bo0, am_bo1, am_boi, am_ev_tb, am_tb_nil, am_rfs, am_rfn, eq_self, e_152_0, e_152_1, e_152_2, e_152_5, e_152_6, e_152_9, e_152_10, e_152_11, e_152_14, e_152_15, e_152_16, e_152_19, e_152_20, e_152_21, e_152_24, e_152_25, e_152_26, e_152_29, e_152_30, f_152_34, e_152_33]
  simp [h1, h2, h3, h5, Option.bind_some, Option.toList_some, Option.toList_none, List.cons_append, List.nil_append, am_k1_i, am_k1_r, am_k1_u, am_k1_n, am_bo0, am_bo1, am_boi, am_ev_tb, am_tb_nil, am_rfs, am_rfn, eq_self, e_152_0, e_152_1, e_152_2, e_152_5, e_152_6, e_152_9, e_152_10, e_152_11, e_152_14, e_152_15, e_152_16, e_152_19, e_152_20, e_152_21, e_152_24, e_152_25, e_152_26, e_152_29, e_152_30, f_152_34, e_152_33]
end CM
