/-! the reference: texts, what they give -/
/-- the texts among the first n that are for a key: the last one -/
def mt_last (σ : Nat → Int32) (key : Int32) : Nat → Int32
  | 0 => -1
  | t + 1 => if σ (114 + 200 * t) = key then nI t else mt_last σ key t
theorem mt_last_in (σ : Nat → Int32) (key : Int32) : ∀ n, mt_last σ key n = -1 ∨ ∃ k, k < n ∧ mt_last σ key n = nI k ∧ σ (114 + 200 * k) = key := by
  intro n
  induction n with
  | zero => exact Or.inl rfl
  | succ n ih =>
    rw [mt_last]
    split
    · next hk => exact Or.inr ⟨n, by omega, rfl, hk⟩
    · rcases ih with h | ⟨k, hk, h1, h2⟩
      · exact Or.inl h
      · exact Or.inr ⟨k, by omega, h1, h2⟩
def mt_op (v : Int32) : Prop := v = 124 ∨ v = 38 ∨ v = 60 ∨ v = 61 ∨ v = 62 ∨ v = 43 ∨ v = 45 ∨ v = 42 ∨ v = 47
def mt_join (c x y : Int32) : Int32 := if c = 43 then x + y else if c = 45 then x - y else if c = 42 then x * y else if c = 47 then (if y = 0 then 0 else if y = -1 then -x else x / y) else if c = 60 then (if x < y then 1 else 0) else if c = 62 then (if y < x then 1 else 0) else if c = 61 then (if x = y then 1 else 0) else if c = 38 then (if ¬ x = 0 ∧ ¬ y = 0 then 1 else 0) else (if ¬ x = 0 ∨ ¬ y = 0 then 1 else 0)
def mt_w (σ : Nat → Int32) (t k : Nat) : Int32 := σ (114 + 200 * t + 4 + 2 * k)
def mt_v (σ : Nat → Int32) (t k : Nat) : Int32 := σ (114 + 200 * t + 4 + 2 * k + 1)
/-- the names of a key, by their letters -/
def mt_nc (key i : Nat) : Nat := if key = 0 then (if i = 0 then 115 else if i = 1 then 112 else 119) else if key = 1 then (if i = 0 then 108 else if i = 1 then 119 else 110) else (if i = 0 then 98 else if i = 1 then 115 else 110)
/-- how high the pile is behind k steps -/
def mt_dp (w v : Nat → Int32) : Nat → Nat
  | 0 => 0
  | k + 1 => if w k = 2 then (if v k = 33 then mt_dp w v k else mt_dp w v k - 1) else mt_dp w v k + 1
def mt_so (key : Nat) (w v : Int32) (n : Nat) : Prop := (w = 0 ∧ ∃ x : Nat, x < 10000 ∧ v = nI x) ∨ (w = 1 ∧ ∃ i, i < 3 ∧ v = nI (mt_nc key i)) ∨ (w = 2 ∧ v = 33 ∧ 1 ≤ n) ∨ (w = 2 ∧ mt_op v ∧ 2 ≤ n)
def mt_pl (nm : Nat → Int32) (w v : Nat → Int32) : Nat → Nat → Int32
  | 0 => fun _ => 0
  | k + 1 => if w k = 2 then (if v k = 33 then upd (mt_pl nm w v k) (mt_dp w v k - 1) (if mt_pl nm w v k (mt_dp w v k - 1) = 0 then 1 else 0) else upd (mt_pl nm w v k) (mt_dp w v k - 2) (mt_join (v k) (mt_pl nm w v k (mt_dp w v k - 2)) (mt_pl nm w v k (mt_dp w v k - 1)))) else upd (mt_pl nm w v k) (mt_dp w v k) (if w k = 0 then v k else nm (v k).toNatClampNeg)
/-- a text of L steps for a key -/
def mt_txt (σ : Nat → Int32) (t key L : Nat) : Prop := (σ (114 + 200 * t) = nI key ∧ key < 3) ∧ (σ (114 + 200 * t + 2) = nI L ∧ L ≤ 96) ∧ (∀ k, k < L → mt_so key (mt_w σ t k) (mt_v σ t k) (mt_dp (mt_w σ t) (mt_v σ t) k)) ∧ mt_dp (mt_w σ t) (mt_v σ t) L = 1
def mt_val (σ : Nat → Int32) (t L : Nat) (nm : Nat → Int32) : Int32 := mt_pl nm (mt_w σ t) (mt_v σ t) L 0
theorem mt_dp_le (w v : Nat → Int32) : ∀ k, mt_dp w v k ≤ k := by
  intro k
  induction k with
  | zero => exact Nat.le_refl _
  | succ k ih => rw [mt_dp]; (repeat' split) <;> omega
theorem mt_op33 {v : Int32} (h : mt_op v) : ¬ v = 33 := by
  rcases h with rfl | rfl | rfl | rfl | rfl | rfl | rfl | rfl | rfl <;> decide
section CX
variable {G : Nat → Nat} {d : Nat} {h : am_H} {m : Nat}
theorem m_within {v b : Int32} : am_evm G d 133 [.int v, .int b] h = some (some (.int (mt_held v b)), h) := by
  simp only [n_133, e_133_0, e_133_1, e_133_4, e_133_5, e_133_18, e_133_8, e_133_9, e_133_10, e_133_13, e_133_14, e_133_17, Option.bind_some, Option.toList_some, Option.toList_none, List.cons_append, List.nil_append, am_k1_i, am_k1_r, am_k1_u, am_k1_n, am_bo0, am_bo1, am_boi, am_ev_tb, am_tb_nil, am_rfs, am_rfn, eq_self]
  unfold mt_held
  by_cases h1 : v < 0
  · simp only [h1, if_true, Int32.not_le.mpr h1, if_false]
  · by_cases h2 : b < v
    · simp only [h1, if_false, Int32.not_lt.mp h1, if_true, h2, Int32.not_le.mpr h2]
    · simp only [h1, if_false, Int32.not_lt.mp h1, if_true, h2, Int32.not_lt.mp h2]
theorem m_counts_l (l : cm_Lay G h m) {n : Nat} {key : Int32} (hn : am_i h (m + 1) 2 = nI n) (hn14 : n ≤ 14) : ∀ j q, q + j = n → am_ev G (d + 1) 204 4 [some (.ref m), some (.int key), some (.int (mt_last (am_i h (m + 1)) key q)), some (.int (nI q))] [] h = some (some (.int (mt_last (am_i h (m + 1)) key n)), h) := by
  have i0 : am_ia G h (m + 1) 2 := cm_ia1 l (show 2 < 3114 by omega)
  intro j
  induction j with
  | zero =>
    intro q hq
    obtain rfl : q = n := by omega
    rw [e_204_4]
    simp only [n_204, e_204_0, f_204_1, e_204_2, f_204_3, e_204_5, e_204_6, e_204_9, e_204_10, e_204_11, e_204_14, e_204_15, e_204_18, e_204_19, e_204_20, e_204_23, e_204_24, e_204_25, e_204_28, e_204_29, f_204_33, f_204_34, e_204_37, e_204_32, e_204_40, e_204_41, Option.bind_some, Option.toList_some, Option.toList_none, List.cons_append, List.nil_append, am_k1_i, am_k1_r, am_k1_u, am_k1_n, am_bo0, am_bo1, am_boi, am_ev_tb, am_tb_nil, am_rfs, am_rfn, eq_self, cm_ob l, cm_r0 l, i0, show (2 : Int32).toNatClampNeg = 2 from rfl, hn, Int32.le_refl, if_true]
  | succ j ih =>
    intro q hq
    have hlt : ¬ nI n ≤ nI q := nI_ge (by omega) (by omega)
    rw [e_204_4]
    simp only [n_204, e_204_0, f_204_1, e_204_2, f_204_3, e_204_5, e_204_6, e_204_9, e_204_10, e_204_11, e_204_14, e_204_15, e_204_18, e_204_19, e_204_20, e_204_23, e_204_24, e_204_25, e_204_28, e_204_29, f_204_33, f_204_34, e_204_37, e_204_32, e_204_40, e_204_41, Option.bind_some, Option.toList_some, Option.toList_none, List.cons_append, List.nil_append, am_k1_i, am_k1_r, am_k1_u, am_k1_n, am_bo0, am_bo1, am_boi, am_ev_tb, am_tb_nil, am_rfs, am_rfn, eq_self, cm_ob l, cm_r0 l, i0, show (2 : Int32).toNatClampNeg = 2 from rfl, hn, hlt, if_false, m_textAt, cm_ia1 l (show 114 + 200 * q < 3114 by omega), am_cl (show 114 + 200 * q < 2147483648 by omega), nI_1]
    have := ih (q + 1) (by omega)
    rw [mt_last] at this
    by_cases hk : am_i h (m + 1) (114 + 200 * q) = key
    · rw [if_pos hk] at this; rw [if_pos hk]; exact this
    · rw [if_neg hk] at this; rw [if_neg hk]; exact this
theorem m_counts (l : cm_Lay G h m) {n : Nat} {key : Int32} (hn : am_i h (m + 1) 2 = nI n) (hn14 : n ≤ 14) : am_evm G (d + 1) 204 [.ref m, .int key] h = some (some (.int (mt_last (am_i h (m + 1)) key n)), h) := by
  simp only [n_204, e_204_0, f_204_1, e_204_2, f_204_3, e_204_5, e_204_6, e_204_9, e_204_10, e_204_11, e_204_14, e_204_15, e_204_18, e_204_19, e_204_20, e_204_23, e_204_24, e_204_25, e_204_28, e_204_29, f_204_33, f_204_34, e_204_37, e_204_32, e_204_40, e_204_41, Option.bind_some, Option.toList_some, Option.toList_none, List.cons_append, List.nil_append, am_k1_i, am_k1_r, am_k1_u, am_k1_n, am_bo0, am_bo1, am_boi, am_ev_tb, am_tb_nil, am_rfs, am_rfn, eq_self]
  exact m_counts_l l hn hn14 n 0 (by omega)
theorem m_why (l : cm_Lay G h m) {n : Nat} {key : Int32} (hn : am_i h (m + 1) 2 = nI n) (hn14 : n ≤ 14) : am_evm G (d + 2) 205 [.ref m, .int key] h = some (some (.int (if 0 ≤ key ∧ key ≤ 2 then (if 0 ≤ mt_last (am_i h (m + 1)) key n then mt_last (am_i h (m + 1)) key n else -1000000005) else -1000000001)), h) := by
  by_cases h1 : 0 ≤ key ∧ key ≤ 2
  · simp only [n_205, e_205_0, e_205_1, e_205_2, e_205_3, e_205_6, e_205_9, e_205_12, e_205_13, e_205_14, e_205_17, e_205_20, e_205_25, e_205_23, Option.bind_some, Option.toList_some, Option.toList_none, List.cons_append, List.nil_append, am_k1_i, am_k1_r, am_k1_u, am_k1_n, am_bo0, am_bo1, am_boi, am_ev_tb, am_tb_nil, am_rfs, am_rfn, eq_self, and_self, if_true, if_false, show ¬ (1 : Int32) = 0 from by decide, show ¬ (0 : Int32) = 1 from by decide, not_true, not_false_eq_true, and_true, true_and, and_false, false_and, or_true, true_or, or_false, false_or, m_i0_2, h1, cm_ob l, m_counts l hn hn14, m_orNone]
  · simp only [n_205, e_205_0, e_205_1, e_205_2, e_205_3, e_205_6, e_205_9, e_205_12, e_205_13, e_205_14, e_205_17, e_205_20, e_205_25, e_205_23, Option.bind_some, Option.toList_some, Option.toList_none, List.cons_append, List.nil_append, am_k1_i, am_k1_r, am_k1_u, am_k1_n, am_bo0, am_bo1, am_boi, am_ev_tb, am_tb_nil, am_rfs, am_rfn, eq_self, and_self, if_true, if_false, show ¬ (1 : Int32) = 0 from by decide, show ¬ (0 : Int32) = 1 from by decide, not_true, not_false_eq_true, and_true, true_and, and_false, false_and, or_true, true_or, or_false, false_or, m_i0_2, h1]
theorem m_textTold0 (l : cm_Lay G h m) {v w : Int32} (hv : ¬ ((0 ≤ v ∧ v ≤ am_i h (m + 1) 2 - 1) ∧ 0 ≤ w ∧ w ≤ 1)) : am_evm G (d + 2) 203 [.ref m, .int v, .int w] h = some (some (.int (-1000000001)), h) := by
  by_cases h1 : 0 ≤ v ∧ v ≤ am_i h (m + 1) 2 - 1
  · have h2 : ¬ (0 ≤ w ∧ w ≤ 1) := fun z => hv ⟨h1, z⟩
    simp only [n_203, e_203_0, e_203_1, e_203_2, e_203_5, e_203_8, e_203_9, e_203_10, e_203_11, e_203_12, e_203_15, e_203_18, e_203_20, e_203_21, e_203_22, e_203_25, e_203_26, e_203_27, e_203_30, e_203_31, e_203_32, e_203_33, Option.bind_some, Option.toList_some, Option.toList_none, List.cons_append, List.nil_append, am_k1_i, am_k1_r, am_k1_u, am_k1_n, am_bo0, am_bo1, am_boi, am_ev_tb, am_tb_nil, am_rfs, am_rfn, eq_self, and_self, if_true, if_false, show ¬ (1 : Int32) = 0 from by decide, show ¬ (0 : Int32) = 1 from by decide, not_true, not_false_eq_true, and_true, true_and, and_false, false_and, or_true, true_or, or_false, false_or, cm_ob l, m_isText l, h1, h2, m_i0_1]
  · simp only [n_203, e_203_0, e_203_1, e_203_2, e_203_5, e_203_8, e_203_9, e_203_10, e_203_11, e_203_12, e_203_15, e_203_18, e_203_20, e_203_21, e_203_22, e_203_25, e_203_26, e_203_27, e_203_30, e_203_31, e_203_32, e_203_33, Option.bind_some, Option.toList_some, Option.toList_none, List.cons_append, List.nil_append, am_k1_i, am_k1_r, am_k1_u, am_k1_n, am_bo0, am_bo1, am_boi, am_ev_tb, am_tb_nil, am_rfs, am_rfn, eq_self, and_self, if_true, if_false, show ¬ (1 : Int32) = 0 from by decide, show ¬ (0 : Int32) = 1 from by decide, not_true, not_false_eq_true, and_true, true_and, and_false, false_and, or_true, true_or, or_false, false_or, cm_ob l, m_isText l, h1]
theorem m_textTold (l : cm_Lay G h m) {n t w : Nat} (hn : am_i h (m + 1) 2 = nI n) (hn14 : n ≤ 14) (ht : t < n) (hw : w < 2) : am_evm G (d + 2) 203 [.ref m, .int (nI t), .int (nI w)] h = some (some (.int (am_i h (m + 1) (114 + 200 * t + w))), h) := by
  have h1 : (0 : Int32) ≤ nI t ∧ nI t ≤ nI n - 1 := (mt_ix (by omega)).mpr ⟨t, ht, rfl⟩
  have h2 : (0 : Int32) ≤ nI w ∧ nI w ≤ 1 := ⟨nI_pos' (by omega), nI_le (b := 1) (by omega) (by decide)⟩
  simp only [n_203, e_203_0, e_203_1, e_203_2, e_203_5, e_203_8, e_203_9, e_203_10, e_203_11, e_203_12, e_203_15, e_203_18, e_203_20, e_203_21, e_203_22, e_203_25, e_203_26, e_203_27, e_203_30, e_203_31, e_203_32, e_203_33, Option.bind_some, Option.toList_some, Option.toList_none, List.cons_append, List.nil_append, am_k1_i, am_k1_r, am_k1_u, am_k1_n, am_bo0, am_bo1, am_boi, am_ev_tb, am_tb_nil, am_rfs, am_rfn, eq_self, and_self, if_true, if_false, show ¬ (1 : Int32) = 0 from by decide, show ¬ (0 : Int32) = 1 from by decide, not_true, not_false_eq_true, and_true, true_and, and_false, false_and, or_true, true_or, or_false, false_or, cm_ob l, m_isText l, hn, h1, h2, m_i0_1, cm_r0 l, m_textAt, nI_add, cm_ia1 l (show 114 + 200 * t + w < 3114 by omega), am_cl (show 114 + 200 * t + w < 2147483648 by omega)]
theorem m_joined {c x y : Int32} (hc : mt_op c) : am_evm G d 206 [.int c, .int x, .int y] h = some (some (.int (mt_join c x y)), h) := by
  unfold mt_join
  rcases hc with rfl | rfl | rfl | rfl | rfl | rfl | rfl | rfl | rfl
  · simp only [n_206, e_206_0, e_206_1, e_206_197, e_206_198, e_206_201, e_206_202, e_206_205, e_206_206, e_206_210, e_206_209, e_206_161, e_206_162, e_206_163, e_206_166, e_206_167, e_206_171, e_206_170, e_206_172, e_206_173, e_206_174, e_206_177, e_206_178, e_206_182, e_206_181, e_206_150, e_206_151, e_206_152, e_206_155, e_206_156, e_206_160, e_206_159, e_206_128, e_206_129, e_206_132, e_206_133, e_206_149, e_206_136, e_206_137, e_206_138, e_206_141, e_206_142, e_206_143, e_206_146, e_206_147, e_206_148, e_206_120, e_206_121, e_206_122, e_206_123, e_206_116, e_206_117, e_206_118, e_206_119, e_206_124, e_206_125, e_206_126, e_206_127, e_206_183, e_206_184, e_206_187, e_206_188, e_206_191, e_206_192, e_206_196, e_206_195, Option.bind_some, Option.toList_some, Option.toList_none, List.cons_append, List.nil_append, am_k1_i, am_k1_r, am_k1_u, am_k1_n, am_bo0, am_bo1, am_boi, am_ev_tb, am_tb_nil, am_rfs, am_rfn, eq_self]
    by_cases h1 : x = 0 <;> by_cases h2 : y = 0 <;> simp [h1, h2, Option.bind_some, Option.toList_some, Option.toList_none, List.cons_append, List.nil_append, am_k1_i, am_k1_r, am_k1_u, am_k1_n, am_bo0, am_bo1, am_boi, am_ev_tb, am_tb_nil, am_rfs, am_rfn, eq_self]
  · simp only [n_206, e_206_0, e_206_1, e_206_197, e_206_198, e_206_201, e_206_202, e_206_205, e_206_206, e_206_210, e_206_209, e_206_161, e_206_162, e_206_163, e_206_166, e_206_167, e_206_171, e_206_170, e_206_172, e_206_173, e_206_174, e_206_177, e_206_178, e_206_182, e_206_181, e_206_150, e_206_151, e_206_152, e_206_155, e_206_156, e_206_160, e_206_159, e_206_128, e_206_129, e_206_132, e_206_133, e_206_149, e_206_136, e_206_137, e_206_138, e_206_141, e_206_142, e_206_143, e_206_146, e_206_147, e_206_148, e_206_120, e_206_121, e_206_122, e_206_123, e_206_116, e_206_117, e_206_118, e_206_119, e_206_124, e_206_125, e_206_126, e_206_127, e_206_183, e_206_184, e_206_187, e_206_188, e_206_191, e_206_192, e_206_196, e_206_195, Option.bind_some, Option.toList_some, Option.toList_none, List.cons_append, List.nil_append, am_k1_i, am_k1_r, am_k1_u, am_k1_n, am_bo0, am_bo1, am_boi, am_ev_tb, am_tb_nil, am_rfs, am_rfn, eq_self]
    by_cases h1 : x = 0 <;> by_cases h2 : y = 0 <;> simp [h1, h2, Option.bind_some, Option.toList_some, Option.toList_none, List.cons_append, List.nil_append, am_k1_i, am_k1_r, am_k1_u, am_k1_n, am_bo0, am_bo1, am_boi, am_ev_tb, am_tb_nil, am_rfs, am_rfn, eq_self]
  · simp only [n_206, e_206_0, e_206_1, e_206_197, e_206_198, e_206_201, e_206_202, e_206_205, e_206_206, e_206_210, e_206_209, e_206_161, e_206_162, e_206_163, e_206_166, e_206_167, e_206_171, e_206_170, e_206_172, e_206_173, e_206_174, e_206_177, e_206_178, e_206_182, e_206_181, e_206_150, e_206_151, e_206_152, e_206_155, e_206_156, e_206_160, e_206_159, e_206_128, e_206_129, e_206_132, e_206_133, e_206_149, e_206_136, e_206_137, e_206_138, e_206_141, e_206_142, e_206_143, e_206_146, e_206_147, e_206_148, e_206_120, e_206_121, e_206_122, e_206_123, e_206_116, e_206_117, e_206_118, e_206_119, e_206_124, e_206_125, e_206_126, e_206_127, e_206_183, e_206_184, e_206_187, e_206_188, e_206_191, e_206_192, e_206_196, e_206_195, Option.bind_some, Option.toList_some, Option.toList_none, List.cons_append, List.nil_append, am_k1_i, am_k1_r, am_k1_u, am_k1_n, am_bo0, am_bo1, am_boi, am_ev_tb, am_tb_nil, am_rfs, am_rfn, eq_self]
    by_cases h1 : x < y
    · simp [h1, Int32.not_le.mpr h1]
    · simp [h1, Int32.not_lt.mp h1]
  · simp only [n_206, e_206_0, e_206_1, e_206_197, e_206_198, e_206_201, e_206_202, e_206_205, e_206_206, e_206_210, e_206_209, e_206_161, e_206_162, e_206_163, e_206_166, e_206_167, e_206_171, e_206_170, e_206_172, e_206_173, e_206_174, e_206_177, e_206_178, e_206_182, e_206_181, e_206_150, e_206_151, e_206_152, e_206_155, e_206_156, e_206_160, e_206_159, e_206_128, e_206_129, e_206_132, e_206_133, e_206_149, e_206_136, e_206_137, e_206_138, e_206_141, e_206_142, e_206_143, e_206_146, e_206_147, e_206_148, e_206_120, e_206_121, e_206_122, e_206_123, e_206_116, e_206_117, e_206_118, e_206_119, e_206_124, e_206_125, e_206_126, e_206_127, e_206_183, e_206_184, e_206_187, e_206_188, e_206_191, e_206_192, e_206_196, e_206_195, Option.bind_some, Option.toList_some, Option.toList_none, List.cons_append, List.nil_append, am_k1_i, am_k1_r, am_k1_u, am_k1_n, am_bo0, am_bo1, am_boi, am_ev_tb, am_tb_nil, am_rfs, am_rfn, eq_self]
    by_cases h1 : x = y <;> simp [h1]
  · simp only [n_206, e_206_0, e_206_1, e_206_197, e_206_198, e_206_201, e_206_202, e_206_205, e_206_206, e_206_210, e_206_209, e_206_161, e_206_162, e_206_163, e_206_166, e_206_167, e_206_171, e_206_170, e_206_172, e_206_173, e_206_174, e_206_177, e_206_178, e_206_182, e_206_181, e_206_150, e_206_151, e_206_152, e_206_155, e_206_156, e_206_160, e_206_159, e_206_128, e_206_129, e_206_132, e_206_133, e_206_149, e_206_136, e_206_137, e_206_138, e_206_141, e_206_142, e_206_143, e_206_146, e_206_147, e_206_148, e_206_120, e_206_121, e_206_122, e_206_123, e_206_116, e_206_117, e_206_118, e_206_119, e_206_124, e_206_125, e_206_126, e_206_127, e_206_183, e_206_184, e_206_187, e_206_188, e_206_191, e_206_192, e_206_196, e_206_195, Option.bind_some, Option.toList_some, Option.toList_none, List.cons_append, List.nil_append, am_k1_i, am_k1_r, am_k1_u, am_k1_n, am_bo0, am_bo1, am_boi, am_ev_tb, am_tb_nil, am_rfs, am_rfn, eq_self]
    by_cases h1 : y < x
    · simp [h1, Int32.not_le.mpr h1]
    · simp [h1, Int32.not_lt.mp h1]
  · simp only [n_206, e_206_0, e_206_1, e_206_197, e_206_198, e_206_201, e_206_202, e_206_205, e_206_206, e_206_210, e_206_209, e_206_161, e_206_162, e_206_163, e_206_166, e_206_167, e_206_171, e_206_170, e_206_172, e_206_173, e_206_174, e_206_177, e_206_178, e_206_182, e_206_181, e_206_150, e_206_151, e_206_152, e_206_155, e_206_156, e_206_160, e_206_159, e_206_128, e_206_129, e_206_132, e_206_133, e_206_149, e_206_136, e_206_137, e_206_138, e_206_141, e_206_142, e_206_143, e_206_146, e_206_147, e_206_148, e_206_120, e_206_121, e_206_122, e_206_123, e_206_116, e_206_117, e_206_118, e_206_119, e_206_124, e_206_125, e_206_126, e_206_127, e_206_183, e_206_184, e_206_187, e_206_188, e_206_191, e_206_192, e_206_196, e_206_195, Option.bind_some, Option.toList_some, Option.toList_none, List.cons_append, List.nil_append, am_k1_i, am_k1_r, am_k1_u, am_k1_n, am_bo0, am_bo1, am_boi, am_ev_tb, am_tb_nil, am_rfs, am_rfn, eq_self]
    simp
  · simp only [n_206, e_206_0, e_206_1, e_206_197, e_206_198, e_206_201, e_206_202, e_206_205, e_206_206, e_206_210, e_206_209, e_206_161, e_206_162, e_206_163, e_206_166, e_206_167, e_206_171, e_206_170, e_206_172, e_206_173, e_206_174, e_206_177, e_206_178, e_206_182, e_206_181, e_206_150, e_206_151, e_206_152, e_206_155, e_206_156, e_206_160, e_206_159, e_206_128, e_206_129, e_206_132, e_206_133, e_206_149, e_206_136, e_206_137, e_206_138, e_206_141, e_206_142, e_206_143, e_206_146, e_206_147, e_206_148, e_206_120, e_206_121, e_206_122, e_206_123, e_206_116, e_206_117, e_206_118, e_206_119, e_206_124, e_206_125, e_206_126, e_206_127, e_206_183, e_206_184, e_206_187, e_206_188, e_206_191, e_206_192, e_206_196, e_206_195, Option.bind_some, Option.toList_some, Option.toList_none, List.cons_append, List.nil_append, am_k1_i, am_k1_r, am_k1_u, am_k1_n, am_bo0, am_bo1, am_boi, am_ev_tb, am_tb_nil, am_rfs, am_rfn, eq_self]
    simp
  · simp only [n_206, e_206_0, e_206_1, e_206_197, e_206_198, e_206_201, e_206_202, e_206_205, e_206_206, e_206_210, e_206_209, e_206_161, e_206_162, e_206_163, e_206_166, e_206_167, e_206_171, e_206_170, e_206_172, e_206_173, e_206_174, e_206_177, e_206_178, e_206_182, e_206_181, e_206_150, e_206_151, e_206_152, e_206_155, e_206_156, e_206_160, e_206_159, e_206_128, e_206_129, e_206_132, e_206_133, e_206_149, e_206_136, e_206_137, e_206_138, e_206_141, e_206_142, e_206_143, e_206_146, e_206_147, e_206_148, e_206_120, e_206_121, e_206_122, e_206_123, e_206_116, e_206_117, e_206_118, e_206_119, e_206_124, e_206_125, e_206_126, e_206_127, e_206_183, e_206_184, e_206_187, e_206_188, e_206_191, e_206_192, e_206_196, e_206_195, Option.bind_some, Option.toList_some, Option.toList_none, List.cons_append, List.nil_append, am_k1_i, am_k1_r, am_k1_u, am_k1_n, am_bo0, am_bo1, am_boi, am_ev_tb, am_tb_nil, am_rfs, am_rfn, eq_self]
    simp
  · by_cases h1 : y = 0
    · simp [n_206, e_206_0, e_206_1, e_206_197, e_206_198, e_206_201, e_206_202, e_206_205, e_206_206, e_206_210, e_206_209, e_206_161, e_206_162, e_206_163, e_206_166, e_206_167, e_206_171, e_206_170, e_206_172, e_206_173, e_206_174, e_206_177, e_206_178, e_206_182, e_206_181, e_206_150, e_206_151, e_206_152, e_206_155, e_206_156, e_206_160, e_206_159, e_206_128, e_206_129, e_206_132, e_206_133, e_206_149, e_206_136, e_206_137, e_206_138, e_206_141, e_206_142, e_206_143, e_206_146, e_206_147, e_206_148, e_206_120, e_206_121, e_206_122, e_206_123, e_206_116, e_206_117, e_206_118, e_206_119, e_206_124, e_206_125, e_206_126, e_206_127, e_206_183, e_206_184, e_206_187, e_206_188, e_206_191, e_206_192, e_206_196, e_206_195, Option.bind_some, Option.toList_some, Option.toList_none, List.cons_append, List.nil_append, am_k1_i, am_k1_r, am_k1_u, am_k1_n, am_bo0, am_bo1, am_boi, am_ev_tb, am_tb_nil, am_rfs, am_rfn, eq_self, h1]
    · by_cases h2 : y = -1
      · simp [n_206, e_206_0, e_206_1, e_206_197, e_206_198, e_206_201, e_206_202, e_206_205, e_206_206, e_206_210, e_206_209, e_206_161, e_206_162, e_206_163, e_206_166, e_206_167, e_206_171, e_206_170, e_206_172, e_206_173, e_206_174, e_206_177, e_206_178, e_206_182, e_206_181, e_206_150, e_206_151, e_206_152, e_206_155, e_206_156, e_206_160, e_206_159, e_206_128, e_206_129, e_206_132, e_206_133, e_206_149, e_206_136, e_206_137, e_206_138, e_206_141, e_206_142, e_206_143, e_206_146, e_206_147, e_206_148, e_206_120, e_206_121, e_206_122, e_206_123, e_206_116, e_206_117, e_206_118, e_206_119, e_206_124, e_206_125, e_206_126, e_206_127, e_206_183, e_206_184, e_206_187, e_206_188, e_206_191, e_206_192, e_206_196, e_206_195, Option.bind_some, Option.toList_some, Option.toList_none, List.cons_append, List.nil_append, am_k1_i, am_k1_r, am_k1_u, am_k1_n, am_bo0, am_bo1, am_boi, am_ev_tb, am_tb_nil, am_rfs, am_rfn, eq_self, h2]
      · simp [n_206, e_206_0, e_206_1, e_206_197, e_206_198, e_206_201, e_206_202, e_206_205, e_206_206, e_206_210, e_206_209, e_206_161, e_206_162, e_206_163, e_206_166, e_206_167, e_206_171, e_206_170, e_206_172, e_206_173, e_206_174, e_206_177, e_206_178, e_206_182, e_206_181, e_206_150, e_206_151, e_206_152, e_206_155, e_206_156, e_206_160, e_206_159, e_206_128, e_206_129, e_206_132, e_206_133, e_206_149, e_206_136, e_206_137, e_206_138, e_206_141, e_206_142, e_206_143, e_206_146, e_206_147, e_206_148, e_206_120, e_206_121, e_206_122, e_206_123, e_206_116, e_206_117, e_206_118, e_206_119, e_206_124, e_206_125, e_206_126, e_206_127, e_206_183, e_206_184, e_206_187, e_206_188, e_206_191, e_206_192, e_206_196, e_206_195, Option.bind_some, Option.toList_some, Option.toList_none, List.cons_append, List.nil_append, am_k1_i, am_k1_r, am_k1_u, am_k1_n, am_bo0, am_bo1, am_boi, am_ev_tb, am_tb_nil, am_rfs, am_rfn, eq_self, h1, h2]
theorem m_worked_l (l : cm_Lay G h m) {t key L : Nat} {nm : Nat → Int32} (ht : t < 14) (hx : mt_txt (am_i h (m + 1)) t key L) (hnm : ∀ i, i < 3 → am_i h (m + 14) (mt_nc key i) = nm (mt_nc key i)) : ∀ j k P x4 x5, k + j = L → (∀ i, i < mt_dp (mt_w (am_i h (m + 1)) t) (mt_v (am_i h (m + 1)) t) k → P i = mt_pl nm (mt_w (am_i h (m + 1)) t) (mt_v (am_i h (m + 1)) t) k i) → ∃ P2, am_ev G (d + 1) 207 4 [some (.ref m), some (.int (nI t)), some (.int (nI (mt_dp (mt_w (am_i h (m + 1)) t) (mt_v (am_i h (m + 1)) t) k))), some (.int (nI k)), x4, x5] [] (am_pa h (m + 15) P) = some (some (.int (mt_val (am_i h (m + 1)) t L nm)), am_pa h (m + 15) P2) := by
  obtain ⟨⟨hk0, hk3⟩, ⟨hL0, hL96⟩, hwf, hend⟩ := hx
  have l2 : ∀ g, cm_Lay G (am_pa h (m + 15) g) m := fun g => l
  have e2 : nI (114 + 200 * t) + 2 = nI (114 + 200 * t + 2) := nI_add _ 2
  have e4 : nI (114 + 200 * t) + 4 = nI (114 + 200 * t + 4) := nI_add _ 4
  have r1 : ∀ g, am_i (am_pa h (m + 15) g) (m + 1) = am_i h (m + 1) := fun g => by rw [am_pa_i, if_neg (by omega)]
  have r14 : ∀ g, am_i (am_pa h (m + 15) g) (m + 14) = am_i h (m + 14) := fun g => by rw [am_pa_i, if_neg (by omega)]
  have r15 : ∀ g, am_i (am_pa h (m + 15) g) (m + 15) = g := fun g => by rw [am_pa_i, if_pos rfl]
  have wr : ∀ g k v, am_pi (am_pa h (m + 15) g) (m + 15) k v = am_pa h (m + 15) (upd g k v) := fun g k v => by rw [am_pi_pa, am_pa_i, if_pos rfl, am_pa_pa]
  intro j
  induction j with
  | zero =>
    intro k P x4 x5 hk hP
    obtain rfl : k = L := by omega
    refine ⟨P, ?_⟩
    rw [e_207_4]
    have i0 : am_ia G (am_pa h (m + 15) P) (m + 15) 0 := cm_ia15 (l2 P) (show 0 < 100 by omega)
    simp only [n_207, e_207_0, f_207_1, e_207_2, f_207_3, e_207_5, e_207_6, e_207_9, e_207_10, e_207_11, e_207_14, e_207_15, e_207_16, e_207_17, e_207_20, e_207_21, e_207_24, e_207_25, e_207_26, e_207_29, e_207_30, e_207_31, e_207_32, e_207_33, e_207_34, e_207_35, f_207_36, e_207_38, e_207_39, e_207_42, e_207_43, e_207_44, e_207_47, e_207_48, e_207_49, e_207_50, e_207_51, e_207_52, e_207_53, e_207_54, e_207_55, f_207_56, e_207_58, e_207_60, e_207_61, e_207_64, e_207_65, e_207_68, e_207_69, e_207_71, e_207_74, e_207_76, e_207_86, f_207_87, e_207_90, f_207_157, e_207_160, e_207_79, e_207_80, e_207_83, e_207_85, e_207_93, e_207_95, e_207_97, e_207_100, e_207_101, e_207_104, e_207_105, e_207_106, e_207_107, e_207_108, e_207_111, e_207_112, e_207_113, e_207_114, e_207_115, e_207_118, e_207_119, e_207_123, e_207_124, e_207_122, f_207_127, e_207_130, e_207_131, e_207_134, e_207_135, e_207_136, e_207_137, e_207_139, e_207_140, e_207_143, e_207_144, e_207_145, e_207_146, e_207_147, e_207_148, e_207_151, e_207_152, e_207_153, e_207_156, e_207_163, e_207_164, e_207_167, e_207_168, e_207_169, Option.bind_some, Option.toList_some, Option.toList_none, List.cons_append, List.nil_append, am_k1_i, am_k1_r, am_k1_u, am_k1_n, am_bo0, am_bo1, am_boi, am_ev_tb, am_tb_nil, am_rfs, am_rfn, eq_self, cm_ob (l2 _), cm_r0 (l2 _), cm_r26 (l2 _), m_textAt, e2, cm_ia1 (l2 _) (show 114 + 200 * t + 2 < 3114 by omega), am_cl (show 114 + 200 * t + 2 < 2147483648 by omega), r1, hL0, Int32.le_refl, if_true, i0, show (0 : Int32).toNatClampNeg = 0 from rfl, r15]
    rw [hP 0 (by omega)]
    rfl
  | succ j ih =>
    intro k P x4 x5 hk hP
    have hlt : ¬ nI L ≤ nI k := nI_ge (by omega) (by omega)
    have ek : nI (114 + 200 * t + 4) + 2 * nI k = nI (114 + 200 * t + 4 + 2 * k) := by rw [show (2 : Int32) = nI 2 from rfl, pk_mul, nI_add]
    have hdp := mt_dp_le (mt_w (am_i h (m + 1)) t) (mt_v (am_i h (m + 1)) t) k
    have hstep := ih (k + 1)
    have hso := hwf k (by omega)
    rw [mt_dp, mt_pl] at hstep
    generalize hW : mt_w (am_i h (m + 1)) t = W at *
    generalize hV : mt_v (am_i h (m + 1)) t = V at *
    have hw : am_i h (m + 1) (114 + 200 * t + 4 + 2 * k) = W k := by rw [← hW]; rfl
    have hv : am_i h (m + 1) (114 + 200 * t + 4 + 2 * k + 1) = V k := by rw [← hV]; rfl
    generalize hn : mt_dp W V k = n at *
    generalize hQ : mt_pl nm W V k = Q at *
    rw [e_207_4]
    simp only [n_207, e_207_0, f_207_1, e_207_2, f_207_3, e_207_5, e_207_6, e_207_9, e_207_10, e_207_11, e_207_14, e_207_15, e_207_16, e_207_17, e_207_20, e_207_21, e_207_24, e_207_25, e_207_26, e_207_29, e_207_30, e_207_31, e_207_32, e_207_33, e_207_34, e_207_35, f_207_36, e_207_38, e_207_39, e_207_42, e_207_43, e_207_44, e_207_47, e_207_48, e_207_49, e_207_50, e_207_51, e_207_52, e_207_53, e_207_54, e_207_55, f_207_56, e_207_58, e_207_60, e_207_61, e_207_64, e_207_65, e_207_68, e_207_69, e_207_71, e_207_74, e_207_76, e_207_86, f_207_87, e_207_90, f_207_157, e_207_160, e_207_79, e_207_80, e_207_83, e_207_85, e_207_93, e_207_95, e_207_97, e_207_100, e_207_101, e_207_104, e_207_105, e_207_106, e_207_107, e_207_108, e_207_111, e_207_112, e_207_113, e_207_114, e_207_115, e_207_118, e_207_119, e_207_123, e_207_124, e_207_122, f_207_127, e_207_130, e_207_131, e_207_134, e_207_135, e_207_136, e_207_137, e_207_139, e_207_140, e_207_143, e_207_144, e_207_145, e_207_146, e_207_147, e_207_148, e_207_151, e_207_152, e_207_153, e_207_156, e_207_163, e_207_164, e_207_167, e_207_168, e_207_169, Option.bind_some, Option.toList_some, Option.toList_none, List.cons_append, List.nil_append, am_k1_i, am_k1_r, am_k1_u, am_k1_n, am_bo0, am_bo1, am_boi, am_ev_tb, am_tb_nil, am_rfs, am_rfn, eq_self, cm_ob (l2 _), cm_r0 (l2 _), cm_r25 (l2 _), cm_r26 (l2 _), m_textAt, e2, e4, ek, nI_1, cm_ia1 (l2 _) (show 114 + 200 * t + 2 < 3114 by omega), am_cl (show 114 + 200 * t + 2 < 2147483648 by omega), cm_ia1 (l2 _) (show 114 + 200 * t + 4 + 2 * k < 3114 by omega), am_cl (show 114 + 200 * t + 4 + 2 * k < 2147483648 by omega), cm_ia1 (l2 _) (show 114 + 200 * t + 4 + 2 * k + 1 < 3114 by omega), am_cl (show 114 + 200 * t + 4 + 2 * k + 1 < 2147483648 by omega), r1, hL0, hlt, if_false, hw, hv]
    rcases hso with ⟨h0, x, hx1, hx2⟩ | ⟨h0, i, hi, hx2⟩ | ⟨h0, h33, hn1⟩ | ⟨h0, hop, hn2⟩
    · rw [h0, if_neg (by decide)] at hstep ⊢
      simp only [n_207, e_207_0, f_207_1, e_207_2, f_207_3, e_207_5, e_207_6, e_207_9, e_207_10, e_207_11, e_207_14, e_207_15, e_207_16, e_207_17, e_207_20, e_207_21, e_207_24, e_207_25, e_207_26, e_207_29, e_207_30, e_207_31, e_207_32, e_207_33, e_207_34, e_207_35, f_207_36, e_207_38, e_207_39, e_207_42, e_207_43, e_207_44, e_207_47, e_207_48, e_207_49, e_207_50, e_207_51, e_207_52, e_207_53, e_207_54, e_207_55, f_207_56, e_207_58, e_207_60, e_207_61, e_207_64, e_207_65, e_207_68, e_207_69, e_207_71, e_207_74, e_207_76, e_207_86, f_207_87, e_207_90, f_207_157, e_207_160, e_207_79, e_207_80, e_207_83, e_207_85, e_207_93, e_207_95, e_207_97, e_207_100, e_207_101, e_207_104, e_207_105, e_207_106, e_207_107, e_207_108, e_207_111, e_207_112, e_207_113, e_207_114, e_207_115, e_207_118, e_207_119, e_207_123, e_207_124, e_207_122, f_207_127, e_207_130, e_207_131, e_207_134, e_207_135, e_207_136, e_207_137, e_207_139, e_207_140, e_207_143, e_207_144, e_207_145, e_207_146, e_207_147, e_207_148, e_207_151, e_207_152, e_207_153, e_207_156, e_207_163, e_207_164, e_207_167, e_207_168, e_207_169, Option.bind_some, Option.toList_some, Option.toList_none, List.cons_append, List.nil_append, am_k1_i, am_k1_r, am_k1_u, am_k1_n, am_bo0, am_bo1, am_boi, am_ev_tb, am_tb_nil, am_rfs, am_rfn, eq_self, and_self, if_true, if_false, show ¬ (1 : Int32) = 0 from by decide, show ¬ (0 : Int32) = 1 from by decide, not_true, not_false_eq_true, and_true, true_and, and_false, false_and, or_true, true_or, or_false, false_or, cm_iw15 (l2 P) (show n < 100 by omega), am_cl (show n < 2147483648 by omega), wr, nI_1]
      refine hstep (upd P n (V k)) _ _ (by omega) (fun i hi => ?_)
      rw [if_neg (by decide)]
      by_cases hin : i = n
      · rw [hin, pk_us, pk_us, if_pos rfl]
      · rw [pk_un hin, pk_un hin, hP i (by omega)]
    · rw [h0, if_neg (by decide)] at hstep ⊢
      have hc : mt_nc key i < 128 := by unfold mt_nc; (repeat' split) <;> decide
      simp only [n_207, e_207_0, f_207_1, e_207_2, f_207_3, e_207_5, e_207_6, e_207_9, e_207_10, e_207_11, e_207_14, e_207_15, e_207_16, e_207_17, e_207_20, e_207_21, e_207_24, e_207_25, e_207_26, e_207_29, e_207_30, e_207_31, e_207_32, e_207_33, e_207_34, e_207_35, f_207_36, e_207_38, e_207_39, e_207_42, e_207_43, e_207_44, e_207_47, e_207_48, e_207_49, e_207_50, e_207_51, e_207_52, e_207_53, e_207_54, e_207_55, f_207_56, e_207_58, e_207_60, e_207_61, e_207_64, e_207_65, e_207_68, e_207_69, e_207_71, e_207_74, e_207_76, e_207_86, f_207_87, e_207_90, f_207_157, e_207_160, e_207_79, e_207_80, e_207_83, e_207_85, e_207_93, e_207_95, e_207_97, e_207_100, e_207_101, e_207_104, e_207_105, e_207_106, e_207_107, e_207_108, e_207_111, e_207_112, e_207_113, e_207_114, e_207_115, e_207_118, e_207_119, e_207_123, e_207_124, e_207_122, f_207_127, e_207_130, e_207_131, e_207_134, e_207_135, e_207_136, e_207_137, e_207_139, e_207_140, e_207_143, e_207_144, e_207_145, e_207_146, e_207_147, e_207_148, e_207_151, e_207_152, e_207_153, e_207_156, e_207_163, e_207_164, e_207_167, e_207_168, e_207_169, Option.bind_some, Option.toList_some, Option.toList_none, List.cons_append, List.nil_append, am_k1_i, am_k1_r, am_k1_u, am_k1_n, am_bo0, am_bo1, am_boi, am_ev_tb, am_tb_nil, am_rfs, am_rfn, eq_self, and_self, if_true, if_false, show ¬ (1 : Int32) = 0 from by decide, show ¬ (0 : Int32) = 1 from by decide, not_true, not_false_eq_true, and_true, true_and, and_false, false_and, or_true, true_or, or_false, false_or, hx2, cm_ia14 (l2 P) hc, am_cl (show mt_nc key i < 2147483648 by omega), r14, hnm i hi, cm_iw15 (l2 P) (show n < 100 by omega), am_cl (show n < 2147483648 by omega), wr, nI_1]
      refine hstep (upd P n (nm (mt_nc key i))) _ _ (by omega) (fun i2 hi2 => ?_)
      rw [if_neg (by decide)]
      by_cases hin : i2 = n
      · rw [hin, pk_us, pk_us, if_neg (by decide), hx2, am_cl (show mt_nc key i < 2147483648 by omega)]
      · rw [pk_un hin, pk_un hin, hP i2 (by omega)]
    · obtain ⟨n1, rfl⟩ : ∃ n1, n = n1 + 1 := ⟨n - 1, by omega⟩
      rw [h0, if_pos rfl, h33, if_pos rfl] at hstep ⊢
      have i0 : am_ia G (am_pa h (m + 15) P) (m + 15) (nI n1) := cm_ia15 (l2 P) (show n1 < 100 by omega)
      have w0 : am_iw G (am_pa h (m + 15) P) (m + 15) (nI n1) := cm_iw15 (l2 P) (show n1 < 100 by omega)
      simp only [n_207, e_207_0, f_207_1, e_207_2, f_207_3, e_207_5, e_207_6, e_207_9, e_207_10, e_207_11, e_207_14, e_207_15, e_207_16, e_207_17, e_207_20, e_207_21, e_207_24, e_207_25, e_207_26, e_207_29, e_207_30, e_207_31, e_207_32, e_207_33, e_207_34, e_207_35, f_207_36, e_207_38, e_207_39, e_207_42, e_207_43, e_207_44, e_207_47, e_207_48, e_207_49, e_207_50, e_207_51, e_207_52, e_207_53, e_207_54, e_207_55, f_207_56, e_207_58, e_207_60, e_207_61, e_207_64, e_207_65, e_207_68, e_207_69, e_207_71, e_207_74, e_207_76, e_207_86, f_207_87, e_207_90, f_207_157, e_207_160, e_207_79, e_207_80, e_207_83, e_207_85, e_207_93, e_207_95, e_207_97, e_207_100, e_207_101, e_207_104, e_207_105, e_207_106, e_207_107, e_207_108, e_207_111, e_207_112, e_207_113, e_207_114, e_207_115, e_207_118, e_207_119, e_207_123, e_207_124, e_207_122, f_207_127, e_207_130, e_207_131, e_207_134, e_207_135, e_207_136, e_207_137, e_207_139, e_207_140, e_207_143, e_207_144, e_207_145, e_207_146, e_207_147, e_207_148, e_207_151, e_207_152, e_207_153, e_207_156, e_207_163, e_207_164, e_207_167, e_207_168, e_207_169, Option.bind_some, Option.toList_some, Option.toList_none, List.cons_append, List.nil_append, am_k1_i, am_k1_r, am_k1_u, am_k1_n, am_bo0, am_bo1, am_boi, am_ev_tb, am_tb_nil, am_rfs, am_rfn, eq_self, and_self, if_true, if_false, show ¬ (1 : Int32) = 0 from by decide, show ¬ (0 : Int32) = 1 from by decide, not_true, not_false_eq_true, and_true, true_and, and_false, false_and, or_true, true_or, or_false, false_or, nI_pred, i0, w0, am_cl (show n1 < 2147483648 by omega), r15, wr, nI_1]
      have := hstep (upd P n1 (if P n1 = 0 then 1 else 0)) (some (.int 2)) (some (.int 33)) (by omega) (fun i hi => ?_)
      · by_cases hz : P n1 = 0
        · rw [if_pos hz] at this ⊢; exact this
        · rw [if_neg hz] at this ⊢; exact this
      · rw [if_pos rfl, if_pos rfl] at *
        rw [show n1 + 1 - 1 = n1 from rfl]
        by_cases hin : i = n1
        · rw [hin, pk_us, pk_us, hP n1 (by omega)]
        · rw [pk_un hin, pk_un hin, hP i hi]
    · obtain ⟨n1, rfl⟩ : ∃ n1, n = n1 + 2 := ⟨n - 2, by omega⟩
      have h33 := mt_op33 hop
      rw [h0, if_pos rfl, if_neg h33] at hstep ⊢
      have i0 : am_ia G (am_pa h (m + 15) P) (m + 15) (nI n1) := cm_ia15 (l2 P) (show n1 < 100 by omega)
      have i1 : am_ia G (am_pa h (m + 15) P) (m + 15) (nI (n1 + 1)) := cm_ia15 (l2 P) (show n1 + 1 < 100 by omega)
      have w0 : am_iw G (am_pa h (m + 15) P) (m + 15) (nI n1) := cm_iw15 (l2 P) (show n1 < 100 by omega)
      have em : nI (n1 + 2) + (-1) = nI (n1 + 1) := by rw [← Int32.sub_eq_add_neg]; exact nI_pred (n1 + 1)
      simp only [n_207, e_207_0, f_207_1, e_207_2, f_207_3, e_207_5, e_207_6, e_207_9, e_207_10, e_207_11, e_207_14, e_207_15, e_207_16, e_207_17, e_207_20, e_207_21, e_207_24, e_207_25, e_207_26, e_207_29, e_207_30, e_207_31, e_207_32, e_207_33, e_207_34, e_207_35, f_207_36, e_207_38, e_207_39, e_207_42, e_207_43, e_207_44, e_207_47, e_207_48, e_207_49, e_207_50, e_207_51, e_207_52, e_207_53, e_207_54, e_207_55, f_207_56, e_207_58, e_207_60, e_207_61, e_207_64, e_207_65, e_207_68, e_207_69, e_207_71, e_207_74, e_207_76, e_207_86, f_207_87, e_207_90, f_207_157, e_207_160, e_207_79, e_207_80, e_207_83, e_207_85, e_207_93, e_207_95, e_207_97, e_207_100, e_207_101, e_207_104, e_207_105, e_207_106, e_207_107, e_207_108, e_207_111, e_207_112, e_207_113, e_207_114, e_207_115, e_207_118, e_207_119, e_207_123, e_207_124, e_207_122, f_207_127, e_207_130, e_207_131, e_207_134, e_207_135, e_207_136, e_207_137, e_207_139, e_207_140, e_207_143, e_207_144, e_207_145, e_207_146, e_207_147, e_207_148, e_207_151, e_207_152, e_207_153, e_207_156, e_207_163, e_207_164, e_207_167, e_207_168, e_207_169, Option.bind_some, Option.toList_some, Option.toList_none, List.cons_append, List.nil_append, am_k1_i, am_k1_r, am_k1_u, am_k1_n, am_bo0, am_bo1, am_boi, am_ev_tb, am_tb_nil, am_rfs, am_rfn, eq_self, and_self, if_true, if_false, show ¬ (1 : Int32) = 0 from by decide, show ¬ (0 : Int32) = 1 from by decide, not_true, not_false_eq_true, and_true, true_and, and_false, false_and, or_true, true_or, or_false, false_or, cm_ob (l2 P), cm_r26 (l2 P), em, nI_pred, i0, i1, w0, am_cl (show n1 < 2147483648 by omega), am_cl (show n1 + 1 < 2147483648 by omega), r15, wr, nI_1, h33, m_joined hop]
      have := hstep (upd P n1 (mt_join (V k) (P n1) (P (n1 + 1)))) (some (.int 2)) (some (.int (V k))) (by omega) (fun i hi => ?_)
      · exact this
      · rw [if_pos rfl, if_neg h33] at *
        rw [show n1 + 2 - 2 = n1 from rfl, show n1 + 2 - 1 = n1 + 1 from rfl] at *
        by_cases hin : i = n1
        · rw [hin, pk_us, pk_us, hP n1 (by omega), hP (n1 + 1) (by omega)]
        · rw [pk_un hin, pk_un hin, hP i (by omega)]
theorem m_worked (l : cm_Lay G h m) {t key L : Nat} {nm : Nat → Int32} (ht : t < 14) (hx : mt_txt (am_i h (m + 1)) t key L) (hnm : ∀ i, i < 3 → am_i h (m + 14) (mt_nc key i) = nm (mt_nc key i)) : ∃ P2, am_evm G (d + 1) 207 [.ref m, .int (nI t)] h = some (some (.int (mt_val (am_i h (m + 1)) t L nm)), am_pa h (m + 15) P2) := by
  obtain ⟨P2, hP⟩ := m_worked_l (d := d) l ht hx hnm L 0 (am_i h (m + 15)) none none (by omega) (fun i hi => absurd hi (Nat.not_lt_zero _))
  rw [am_pa_self] at hP
  refine ⟨P2, ?_⟩
  simp only [n_207, e_207_0, f_207_1, e_207_2, f_207_3, e_207_5, e_207_6, e_207_9, e_207_10, e_207_11, e_207_14, e_207_15, e_207_16, e_207_17, e_207_20, e_207_21, e_207_24, e_207_25, e_207_26, e_207_29, e_207_30, e_207_31, e_207_32, e_207_33, e_207_34, e_207_35, f_207_36, e_207_38, e_207_39, e_207_42, e_207_43, e_207_44, e_207_47, e_207_48, e_207_49, e_207_50, e_207_51, e_207_52, e_207_53, e_207_54, e_207_55, f_207_56, e_207_58, e_207_60, e_207_61, e_207_64, e_207_65, e_207_68, e_207_69, e_207_71, e_207_74, e_207_76, e_207_86, f_207_87, e_207_90, f_207_157, e_207_160, e_207_79, e_207_80, e_207_83, e_207_85, e_207_93, e_207_95, e_207_97, e_207_100, e_207_101, e_207_104, e_207_105, e_207_106, e_207_107, e_207_108, e_207_111, e_207_112, e_207_113, e_207_114, e_207_115, e_207_118, e_207_119, e_207_123, e_207_124, e_207_122, f_207_127, e_207_130, e_207_131, e_207_134, e_207_135, e_207_136, e_207_137, e_207_139, e_207_140, e_207_143, e_207_144, e_207_145, e_207_146, e_207_147, e_207_148, e_207_151, e_207_152, e_207_153, e_207_156, e_207_163, e_207_164, e_207_167, e_207_168, e_207_169, Option.bind_some, Option.toList_some, Option.toList_none, List.cons_append, List.nil_append, am_k1_i, am_k1_r, am_k1_u, am_k1_n, am_bo0, am_bo1, am_boi, am_ev_tb, am_tb_nil, am_rfs, am_rfn, eq_self]
  exact hP
end CX
