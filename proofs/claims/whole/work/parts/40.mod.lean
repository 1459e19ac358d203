/-! the reference: its small methods -/
section CM
variable {G : Nat → Nat} {d : Nat} {h : am_H} {m : Nat}
theorem m_isIn {v a b : Int64} : am_evm G d 131 [.long v, .long a, .long b] h = some (some (.int (if a ≤ v ∧ v ≤ b then 1 else 0)), h) := by
  simp only [n_131, e_131_0, e_131_1, e_131_2, e_131_3, e_131_6, e_131_7, e_131_9, e_131_10, e_131_13, e_131_14, f_131_18, e_131_17, Option.bind_some, Option.toList_some, Option.toList_none, List.cons_append, List.nil_append, am_k1_i, am_k1_r, am_k1_u, am_k1_n, am_bo0, am_bo1, am_boi, am_ev_tb, am_tb_nil, am_rfs, am_rfn, eq_self]
  have e1 : (lg_cmp v a < 0) ↔ ¬ a ≤ v := by rw [← lg_cmp_ge, Int32.not_le]
  have e2 : (0 < lg_cmp v b) ↔ ¬ v ≤ b := by
    unfold lg_cmp
    by_cases h1 : v > b
    · rw [if_pos h1]
      exact iff_of_true (by decide) (Int64.not_le.mpr h1)
    · rw [if_neg h1]
      refine iff_of_false ?_ (fun z => z (Int64.not_lt.mp h1))
      split <;> decide
  by_cases h1 : a ≤ v
  · by_cases h2 : v ≤ b
    · simp only [e1, e2, h1, h2, not_true, if_false, and_self, if_true, Option.bind_some, Option.toList_some, Option.toList_none, List.cons_append, List.nil_append, am_k1_i, am_k1_r, am_k1_u, am_k1_n, am_bo0, am_bo1, am_boi, am_ev_tb, am_tb_nil, am_rfs, am_rfn, eq_self]
    · simp only [e1, e2, h1, h2, not_true, not_false_eq_true, if_false, and_false, if_true, Option.bind_some, Option.toList_some, Option.toList_none, List.cons_append, List.nil_append, am_k1_i, am_k1_r, am_k1_u, am_k1_n, am_bo0, am_bo1, am_boi, am_ev_tb, am_tb_nil, am_rfs, am_rfn, eq_self]
  · simp only [e1, h1, not_false_eq_true, if_false, false_and, if_true, Option.bind_some, Option.toList_some, Option.toList_none, List.cons_append, List.nil_append, am_k1_i, am_k1_r, am_k1_u, am_k1_n, am_bo0, am_bo1, am_boi, am_ev_tb, am_tb_nil, am_rfs, am_rfn, eq_self]
theorem m_orNone {v : Int32} : am_evm G d 132 [.int v] h = some (some (.int (if 0 ≤ v then v else -1000000005)), h) := by
  simp only [n_132, e_132_0, e_132_1, e_132_4, e_132_6, e_132_10, e_132_9, Option.bind_some, Option.toList_some, Option.toList_none, List.cons_append, List.nil_append, am_k1_i, am_k1_r, am_k1_u, am_k1_n, am_bo0, am_bo1, am_boi, am_ev_tb, am_tb_nil, am_rfs, am_rfn, eq_self]
  by_cases h1 : 0 ≤ v
  · simp only [h1, if_true]
  · simp only [h1, if_false]
theorem m_becomes (l : cm_Lay G h m) {j : Nat} (hj : j < 3114) {v : Int32} : am_evm G d 134 [.ref m, .int (nI j), .int v] h = some (some (.int (am_i h (m + 1) j)), am_pi h (m + 1) j v) := by
  simp only [n_134, e_134_0, e_134_1, e_134_4, e_134_5, f_134_6, e_134_7, e_134_8, e_134_11, e_134_12, e_134_13, e_134_14, e_134_15, Option.bind_some, Option.toList_some, Option.toList_none, List.cons_append, List.nil_append, am_k1_i, am_k1_r, am_k1_u, am_k1_n, am_bo0, am_bo1, am_boi, am_ev_tb, am_tb_nil, am_rfs, am_rfn, eq_self, cm_ob l, cm_r0 l, cm_ia1 l hj, cm_iw1 l hj, am_cl (show j < 2147483648 by omega)]
theorem m_textAt {t : Nat} : am_evm G d 135 [.ref m, .int (nI t)] h = some (some (.int (nI (114 + 200 * t))), h) := by
  simp only [n_135, e_135_0, e_135_2, e_135_5, e_135_6, e_135_7, e_135_8, Option.bind_some, Option.toList_some, Option.toList_none, List.cons_append, List.nil_append, am_k1_i, am_k1_r, am_k1_u, am_k1_n, am_bo0, am_bo1, am_boi, am_ev_tb, am_tb_nil, am_rfs, am_rfn, eq_self]
  rw [show ((114 : Int32) + 200 * nI t) = nI (114 + 200 * t) from by rw [← nI_add, ← pk_mul]; rfl]
theorem m_of (l : cm_Lay G h m) {p j : Nat} (hj : 6 + 5 * p + j < 3114) : am_evm G d 136 [.ref m, .int (nI p), .int (nI j)] h = some (some (.int (am_i h (m + 1) (6 + 5 * p + j))), h) := by
  have e : ((6 : Int32) + 5 * nI p + nI j) = nI (6 + 5 * p + j) := by rw [← nI_add, ← nI_add, ← pk_mul]; rfl
  simp only [n_136, e_136_0, e_136_1, e_136_4, e_136_6, e_136_7, e_136_8, e_136_9, e_136_10, e_136_11, e_136_12, e_136_13, Option.bind_some, Option.toList_some, Option.toList_none, List.cons_append, List.nil_append, am_k1_i, am_k1_r, am_k1_u, am_k1_n, am_bo0, am_bo1, am_boi, am_ev_tb, am_tb_nil, am_rfs, am_rfn, eq_self, cm_ob l, cm_r0 l, e, cm_ia1 l hj, am_cl (show 6 + 5 * p + j < 2147483648 by omega)]
theorem m_dee (l : cm_Lay G h m) {p j : Nat} (hj : 66 + 6 * p + j < 3114) : am_evm G d 137 [.ref m, .int (nI p), .int (nI j)] h = some (some (.int (am_i h (m + 1) (66 + 6 * p + j))), h) := by
  have e : ((66 : Int32) + 6 * nI p + nI j) = nI (66 + 6 * p + j) := by rw [← nI_add, ← nI_add, ← pk_mul]; rfl
  simp only [n_137, e_137_0, e_137_1, e_137_4, e_137_6, e_137_8, e_137_9, e_137_10, e_137_11, e_137_12, e_137_13, e_137_14, Option.bind_some, Option.toList_some, Option.toList_none, List.cons_append, List.nil_append, am_k1_i, am_k1_r, am_k1_u, am_k1_n, am_bo0, am_bo1, am_boi, am_ev_tb, am_tb_nil, am_rfs, am_rfn, eq_self, cm_ob l, cm_r0 l, e, cm_ia1 l hj, am_cl (show 66 + 6 * p + j < 2147483648 by omega)]
end CM
