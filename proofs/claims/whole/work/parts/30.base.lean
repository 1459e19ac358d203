/-! small methods of the class, read only -/
section CB
variable {G : Nat → Nat} {d : Nat} {h : am_H}
theorem c_within {v a b : Int32} : am_evm G d 117 [.int v, .int a, .int b] h = some (some (.int (if a ≤ v ∧ v ≤ b then 1 else 0)), h) := by
  simp only [n_117, e_117_0, e_117_1, e_117_2, e_117_5, e_117_6, e_117_7, e_117_10, e_117_11, f_117_15, e_117_14, Option.bind_some, Option.toList_some, Option.toList_none, List.cons_append, List.nil_append, am_k1_i, am_k1_r, am_k1_u, am_k1_n, am_bo0, am_bo1, am_boi, am_ev_tb, am_tb_nil, am_rfs, am_rfn, eq_self]
  by_cases h1 : a ≤ v
  · by_cases h2 : v ≤ b
    · simp only [h1, h2, and_self, if_true, Int32.not_lt.mpr h1, Int32.not_lt.mpr h2, if_false]
    · simp only [h2, and_false, if_false, Int32.not_lt.mpr h1, Int32.not_le.mp h2, if_true]
  · simp only [h1, false_and, if_false, Int32.not_le.mp h1, if_true]
theorem c_isKind {v : Int32} : am_evm G (d + 1) 119 [.int v] h = some (some (.int (if 0 ≤ v ∧ v ≤ 5 then 1 else 0)), h) := by
  simp only [n_119, e_119_0, e_119_1, e_119_2, e_119_3, f_119_6, Option.bind_some, Option.toList_some, Option.toList_none, List.cons_append, List.nil_append, am_k1_i, am_k1_r, am_k1_u, am_k1_n, am_bo0, am_bo1, am_boi, am_ev_tb, am_tb_nil, am_rfs, am_rfn, eq_self, c_within]
theorem c_isHour {v : Int32} : am_evm G (d + 1) 120 [.int v] h = some (some (.int (if 0 ≤ v ∧ v ≤ 23 then 1 else 0)), h) := by
  simp only [n_120, e_120_0, e_120_1, e_120_2, e_120_4, f_120_7, Option.bind_some, Option.toList_some, Option.toList_none, List.cons_append, List.nil_append, am_k1_i, am_k1_r, am_k1_u, am_k1_n, am_bo0, am_bo1, am_boi, am_ev_tb, am_tb_nil, am_rfs, am_rfn, eq_self, c_within]
theorem c_isSheet {v : Int32} : am_evm G (d + 1) 122 [.int v] h = some (some (.int (if 0 ≤ v ∧ v ≤ 3 then 1 else 0)), h) := by
  simp only [n_122, e_122_0, e_122_1, e_122_2, e_122_3, f_122_6, Option.bind_some, Option.toList_some, Option.toList_none, List.cons_append, List.nil_append, am_k1_i, am_k1_r, am_k1_u, am_k1_n, am_bo0, am_bo1, am_boi, am_ev_tb, am_tb_nil, am_rfs, am_rfn, eq_self, c_within]
theorem c_isSlot {v : Int32} : am_evm G (d + 1) 123 [.int v] h = some (some (.int (if 0 ≤ v ∧ v ≤ 4 then 1 else 0)), h) := by
  simp only [n_123, e_123_0, e_123_1, e_123_2, e_123_3, f_123_6, Option.bind_some, Option.toList_some, Option.toList_none, List.cons_append, List.nil_append, am_k1_i, am_k1_r, am_k1_u, am_k1_n, am_bo0, am_bo1, am_boi, am_ev_tb, am_tb_nil, am_rfs, am_rfn, eq_self, c_within]
theorem c_isYesOrNo {v : Int32} : am_evm G d 121 [.int v] h = some (some (.int (if v = 0 ∨ v = 1 then 1 else 0)), h) := by
  simp only [n_121, e_121_0, e_121_1, e_121_4, e_121_5, e_121_6, e_121_9, e_121_10, f_121_14, e_121_13, Option.bind_some, Option.toList_some, Option.toList_none, List.cons_append, List.nil_append, am_k1_i, am_k1_r, am_k1_u, am_k1_n, am_bo0, am_bo1, am_boi, am_ev_tb, am_tb_nil, am_rfs, am_rfn, eq_self]
  by_cases h1 : v = 0
  · simp [h1]
  · by_cases h2 : v = 1
    · simp [h2]
    · simp [h1, h2]
theorem c_bitAt {x : Int32} {k : Nat} (hk : k < 32) : am_evm G d 124 [.int x, .int (nI k)] h = some (some (.int (mt_b x k)), h) := by
  simp only [n_124, e_124_0, e_124_1, e_124_2, e_124_3, e_124_4, e_124_5, Option.bind_some, Option.toList_some, Option.toList_none, List.cons_append, List.nil_append, am_k1_i, am_k1_r, am_k1_u, am_k1_n, am_bo0, am_bo1, am_boi, am_ev_tb, am_tb_nil, am_rfs, am_rfn, eq_self, mt_ushr x hk]
theorem c_hasBit {x : Int32} {k : Nat} (hk : k < 32) : am_evm G (d + 1) 125 [.int x, .int (nI k)] h = some (some (.int (mt_b x k)), h) := by
  simp only [n_125, e_125_0, e_125_1, e_125_2, e_125_5, e_125_6, e_125_9, e_125_10, f_125_14, e_125_13, Option.bind_some, Option.toList_some, Option.toList_none, List.cons_append, List.nil_append, am_k1_i, am_k1_r, am_k1_u, am_k1_n, am_bo0, am_bo1, am_boi, am_ev_tb, am_tb_nil, am_rfs, am_rfn, eq_self, c_bitAt hk]
  unfold mt_b
  by_cases hb : bt x k = true <;> simp [hb, Option.bind_some, Option.toList_some, Option.toList_none, List.cons_append, List.nil_append, am_k1_i, am_k1_r, am_k1_u, am_k1_n, am_bo0, am_bo1, am_boi, am_ev_tb, am_tb_nil, am_rfs, am_rfn, eq_self]
theorem c_held {v lo hi : Int32} : am_evm G (d + 1) 118 [.int v, .int lo, .int hi] h = some (some (.int (if lo < (if v < hi then v else hi) then (if v < hi then v else hi) else lo)), h) := by
  simp only [n_118, e_118_0, e_118_1, e_118_2, e_118_3, e_118_6, e_118_9, Option.bind_some, Option.toList_some, Option.toList_none, List.cons_append, List.nil_append, am_k1_i, am_k1_r, am_k1_u, am_k1_n, am_bo0, am_bo1, am_boi, am_ev_tb, am_tb_nil, am_rfs, am_rfn, eq_self]
end CB
