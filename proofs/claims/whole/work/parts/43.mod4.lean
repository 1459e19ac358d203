/-! the reference: the calls on people -/
section CM4
variable {G : Nat → Nat} {d : Nat} {h : am_H} {m : Nat}
/-- the state's own bounds -/
def mt_ok (σ : Nat → Int32) (n nd : Nat) : Prop := (σ 0 = nI n ∧ n ≤ 12) ∧ (σ 1 = nI nd ∧ nd ≤ 8) ∧ ∀ p, p < n → ∀ i, 12 ≤ i → i < 32 → bt (mt_T σ p) i = false
theorem mt_ok_T {σ : Nat → Int32} {n nd p : Nat} (hs : mt_ok σ n nd) (hp : p < n) : σ (6 + 5 * p + 4) ≠ -1 := by
  intro e
  have h1 := hs.2.2 p hp 12 (by omega) (by omega)
  unfold mt_T at h1
  rw [e, b_m1 12 (by omega)] at h1
  cases h1
theorem mt_in {n p : Nat} (hn : n ≤ 12) (hp : p < n) : (0 : Int32) ≤ nI p ∧ nI p ≤ nI n - 1 := (mt_ix (by omega)).mpr ⟨p, hp, rfl⟩
noncomputable def mt_told (σ : Nat → Int32) (n nd p : Nat) (w : Int32) : Int32 := if w = 0 then σ (6 + 5 * p + 0) else if w = 1 then σ (6 + 5 * p + 1) else if w = 2 then σ (6 + 5 * p + 2) else if w = 3 then σ (6 + 5 * p + 3) else if w = 4 then mt_fol (mt_T σ) n p else if w = 5 then mt_worth (σ (6 + 5 * p + 0)) (σ (6 + 5 * p + 1)) else if w = 6 then mt_gone σ p nd else -1000000001
theorem m_told0 (l : cm_Lay G h m) {v w : Int32} (hv : ¬ (0 ≤ v ∧ v ≤ am_i h (m + 1) 0 - 1)) : am_evm G (d + 2) 151 [.ref m, .int v, .int w] h = some (some (.int (-1000000001)), h) := by
  simp [n_151, e_151_0, e_151_1, e_151_2, e_151_5, e_151_8, e_151_10, e_151_11, e_151_12, e_151_91, e_151_93, e_151_85, e_151_86, e_151_87, e_151_90, e_151_69, e_151_70, e_151_71, e_151_72, e_151_75, e_151_76, e_151_77, e_151_78, e_151_81, e_151_84, e_151_63, e_151_64, e_151_65, e_151_68, e_151_56, e_151_57, e_151_58, e_151_59, e_151_62, Option.bind_some, Option.toList_some, Option.toList_none, List.cons_append, List.nil_append, am_k1_i, am_k1_r, am_k1_u, am_k1_n, am_bo0, am_bo1, am_boi, am_ev_tb, am_tb_nil, am_rfs, am_rfn, eq_self, cm_ob l, m_isPerson l, hv]
theorem m_told (l : cm_Lay G h m) {n nd p : Nat} (hs : mt_ok (am_i h (m + 1)) n nd) (hp : p < n) {w : Int32} : am_evm G (d + 2) 151 [.ref m, .int (nI p), .int w] h = some (some (.int (mt_told (am_i h (m + 1)) n nd p w)), h) := by
  have hv := mt_in hs.1.2 hp
  rw [← hs.1.1] at hv
  have hn := hs.1.2
  have b0 : am_evm G (d + 1) 136 [.ref m, .int (nI p), .int 0] h = _ := m_of (j := 0) l (show 6 + 5 * p + 0 < 3114 by omega)
  have b1 : am_evm G (d + 1) 136 [.ref m, .int (nI p), .int 1] h = _ := m_of (j := 1) l (show 6 + 5 * p + 1 < 3114 by omega)
  have b2 : am_evm G (d + 1) 136 [.ref m, .int (nI p), .int 2] h = _ := m_of (j := 2) l (show 6 + 5 * p + 2 < 3114 by omega)
  have b3 : am_evm G (d + 1) 136 [.ref m, .int (nI p), .int 3] h = _ := m_of (j := 3) l (show 6 + 5 * p + 3 < 3114 by omega)
  have hg := m_goneOn (d := d) l hs.2.1.1 hs.2.1.2 (show p < 12 by omega)
  simp only [n_151, e_151_0, e_151_1, e_151_2, e_151_5, e_151_8, e_151_10, e_151_11, e_151_12, e_151_91, e_151_93, e_151_85, e_151_86, e_151_87, e_151_90, e_151_69, e_151_70, e_151_71, e_151_72, e_151_75, e_151_76, e_151_77, e_151_78, e_151_81, e_151_84, e_151_63, e_151_64, e_151_65, e_151_68, e_151_56, e_151_57, e_151_58, e_151_59, e_151_62, Option.bind_some, Option.toList_some, Option.toList_none, List.cons_append, List.nil_append, am_k1_i, am_k1_r, am_k1_u, am_k1_n, am_bo0, am_bo1, am_boi, am_ev_tb, am_tb_nil, am_rfs, am_rfn, eq_self, cm_ob l, m_isPerson l, hv, and_self, if_true, show ¬ (1 : Int32) = 0 from by decide, if_false, m_followers l hs.1.1 hn hp (mt_ok_T hs hp), b0, b1, m_worthOf, hg]
  unfold mt_told
  by_cases h0 : w = 0
  · subst h0; simp [b0, e_151_0, e_151_1, e_151_2, e_151_5, e_151_8, e_151_10, e_151_11, e_151_12, e_151_91, e_151_93, e_151_85, e_151_86, e_151_87, e_151_90, e_151_69, e_151_70, e_151_71, e_151_72, e_151_75, e_151_76, e_151_77, e_151_78, e_151_81, e_151_84, e_151_63, e_151_64, e_151_65, e_151_68, e_151_56, e_151_57, e_151_58, e_151_59, e_151_62, Option.bind_some, Option.toList_some, Option.toList_none, List.cons_append, List.nil_append, am_k1_i, am_k1_r, am_k1_u, am_k1_n, am_bo0, am_bo1, am_boi, am_ev_tb, am_tb_nil, am_rfs, am_rfn, eq_self]
  by_cases h1 : w = 1
  · subst h1; simp [b1, e_151_0, e_151_1, e_151_2, e_151_5, e_151_8, e_151_10, e_151_11, e_151_12, e_151_91, e_151_93, e_151_85, e_151_86, e_151_87, e_151_90, e_151_69, e_151_70, e_151_71, e_151_72, e_151_75, e_151_76, e_151_77, e_151_78, e_151_81, e_151_84, e_151_63, e_151_64, e_151_65, e_151_68, e_151_56, e_151_57, e_151_58, e_151_59, e_151_62, Option.bind_some, Option.toList_some, Option.toList_none, List.cons_append, List.nil_append, am_k1_i, am_k1_r, am_k1_u, am_k1_n, am_bo0, am_bo1, am_boi, am_ev_tb, am_tb_nil, am_rfs, am_rfn, eq_self]
  by_cases h2 : w = 2
  · subst h2; simp [b2, e_151_0, e_151_1, e_151_2, e_151_5, e_151_8, e_151_10, e_151_11, e_151_12, e_151_91, e_151_93, e_151_85, e_151_86, e_151_87, e_151_90, e_151_69, e_151_70, e_151_71, e_151_72, e_151_75, e_151_76, e_151_77, e_151_78, e_151_81, e_151_84, e_151_63, e_151_64, e_151_65, e_151_68, e_151_56, e_151_57, e_151_58, e_151_59, e_151_62, Option.bind_some, Option.toList_some, Option.toList_none, List.cons_append, List.nil_append, am_k1_i, am_k1_r, am_k1_u, am_k1_n, am_bo0, am_bo1, am_boi, am_ev_tb, am_tb_nil, am_rfs, am_rfn, eq_self]
  by_cases h3 : w = 3
  · subst h3; simp [b3, e_151_0, e_151_1, e_151_2, e_151_5, e_151_8, e_151_10, e_151_11, e_151_12, e_151_91, e_151_93, e_151_85, e_151_86, e_151_87, e_151_90, e_151_69, e_151_70, e_151_71, e_151_72, e_151_75, e_151_76, e_151_77, e_151_78, e_151_81, e_151_84, e_151_63, e_151_64, e_151_65, e_151_68, e_151_56, e_151_57, e_151_58, e_151_59, e_151_62, Option.bind_some, Option.toList_some, Option.toList_none, List.cons_append, List.nil_append, am_k1_i, am_k1_r, am_k1_u, am_k1_n, am_bo0, am_bo1, am_boi, am_ev_tb, am_tb_nil, am_rfs, am_rfn, eq_self]
  by_cases h4 : w = 4
  · subst h4; simp
  by_cases h5 : w = 5
  · subst h5; simp
  by_cases h6 : w = 6
  · subst h6; simp
  simp only [h0, h1, h2, h3, h4, h5, h6, if_false]
theorem m_as0 (l : cm_Lay G h m) {v w : Int32} (hv : ¬ ((0 ≤ v ∧ v ≤ am_i h (m + 1) 0 - 1) ∧ 0 ≤ w ∧ w ≤ 5)) : am_evm G (d + 2) 153 [.ref m, .int v, .int w] h = some (some (.int (-1000000001)), h) := by
  by_cases h1 : 0 ≤ v ∧ v ≤ am_i h (m + 1) 0 - 1
  · have h2 : ¬ (0 ≤ w ∧ w ≤ 5) := fun z => hv ⟨h1, z⟩
    simp [n_153, e_153_0, e_153_1, e_153_2, e_153_5, e_153_8, e_153_9, e_153_10, e_153_11, e_153_14, e_153_17, e_153_20, e_153_22, e_153_23, e_153_24, e_153_25, e_153_26, e_153_29, e_153_30, e_153_33, e_153_36, e_153_37, e_153_38, e_153_39, e_153_42, e_153_47, e_153_45, Option.bind_some, Option.toList_some, Option.toList_none, List.cons_append, List.nil_append, am_k1_i, am_k1_r, am_k1_u, am_k1_n, am_bo0, am_bo1, am_boi, am_ev_tb, am_tb_nil, am_rfs, am_rfn, eq_self, cm_ob l, m_isPerson l, h1, h2, m_i0_5]
  · simp [n_153, e_153_0, e_153_1, e_153_2, e_153_5, e_153_8, e_153_9, e_153_10, e_153_11, e_153_14, e_153_17, e_153_20, e_153_22, e_153_23, e_153_24, e_153_25, e_153_26, e_153_29, e_153_30, e_153_33, e_153_36, e_153_37, e_153_38, e_153_39, e_153_42, e_153_47, e_153_45, Option.bind_some, Option.toList_some, Option.toList_none, List.cons_append, List.nil_append, am_k1_i, am_k1_r, am_k1_u, am_k1_n, am_bo0, am_bo1, am_boi, am_ev_tb, am_tb_nil, am_rfs, am_rfn, eq_self, cm_ob l, m_isPerson l, h1]
theorem m_as (l : cm_Lay G h m) {n nd p : Nat} (hs : mt_ok (am_i h (m + 1)) n nd) (hp : p < n) {w : Int32} (hw : 0 ≤ w ∧ w ≤ 5) : am_evm G (d + 2) 153 [.ref m, .int (nI p), .int w] h = some (some (.int (if am_i h (m + 1) (6 + 5 * p + 0) = w ∨ w = 0 ∨ (w = 1 ∧ am_i h (m + 1) (6 + 5 * p + 0) = 3) ∨ (w = 2 ∧ am_i h (m + 1) (6 + 5 * p + 0) = 4) then am_i h (m + 1) (6 + 5 * p + 1) else -1000000012)), h) := by
  have hv := mt_in hs.1.2 hp
  rw [← hs.1.1] at hv
  have hn := hs.1.2
  have b0 : am_evm G (d + 1) 136 [.ref m, .int (nI p), .int 0] h = _ := m_of (j := 0) l (show 6 + 5 * p + 0 < 3114 by omega)
  have b1 : am_evm G (d + 1) 136 [.ref m, .int (nI p), .int 1] h = _ := m_of (j := 1) l (show 6 + 5 * p + 1 < 3114 by omega)
  simp only [n_153, e_153_0, e_153_1, e_153_2, e_153_5, e_153_8, e_153_9, e_153_10, e_153_11, e_153_14, e_153_17, e_153_20, e_153_22, e_153_23, e_153_24, e_153_25, e_153_26, e_153_29, e_153_30, e_153_33, e_153_36, e_153_37, e_153_38, e_153_39, e_153_42, e_153_47, e_153_45, Option.bind_some, Option.toList_some, Option.toList_none, List.cons_append, List.nil_append, am_k1_i, am_k1_r, am_k1_u, am_k1_n, am_bo0, am_bo1, am_boi, am_ev_tb, am_tb_nil, am_rfs, am_rfn, eq_self, cm_ob l, m_isPerson l, hv, hw, m_i0_5, and_self, if_true, show ¬ (1 : Int32) = 0 from by decide, if_false, b0, b1, m_isOf]
  split <;> simp
theorem m_turns0 (l : cm_Lay G h m) {v w : Int32} (hv : ¬ ((0 ≤ v ∧ v ≤ am_i h (m + 1) 0 - 1) ∧ 0 ≤ w ∧ w ≤ 5)) : am_evm G (d + 2) 154 [.ref m, .int v, .int w] h = some (some (.int (-1000000001)), h) := by
  by_cases h1 : 0 ≤ v ∧ v ≤ am_i h (m + 1) 0 - 1
  · have h2 : ¬ (0 ≤ w ∧ w ≤ 5) := fun z => hv ⟨h1, z⟩
    simp [n_154, e_154_0, e_154_1, e_154_2, e_154_5, e_154_8, e_154_9, e_154_10, e_154_11, e_154_14, e_154_17, e_154_20, e_154_21, e_154_23, e_154_24, e_154_25, e_154_26, e_154_27, e_154_28, e_154_31, e_154_36, e_154_34, Option.bind_some, Option.toList_some, Option.toList_none, List.cons_append, List.nil_append, am_k1_i, am_k1_r, am_k1_u, am_k1_n, am_bo0, am_bo1, am_boi, am_ev_tb, am_tb_nil, am_rfs, am_rfn, eq_self, cm_ob l, m_isPerson l, h1, h2, m_i0_5]
  · simp [n_154, e_154_0, e_154_1, e_154_2, e_154_5, e_154_8, e_154_9, e_154_10, e_154_11, e_154_14, e_154_17, e_154_20, e_154_21, e_154_23, e_154_24, e_154_25, e_154_26, e_154_27, e_154_28, e_154_31, e_154_36, e_154_34, Option.bind_some, Option.toList_some, Option.toList_none, List.cons_append, List.nil_append, am_k1_i, am_k1_r, am_k1_u, am_k1_n, am_bo0, am_bo1, am_boi, am_ev_tb, am_tb_nil, am_rfs, am_rfn, eq_self, cm_ob l, m_isPerson l, h1]
theorem m_turns (l : cm_Lay G h m) {n nd p : Nat} (hs : mt_ok (am_i h (m + 1)) n nd) (hp : p < n) {w : Int32} (hw : 0 ≤ w ∧ w ≤ 5) : am_evm G (d + 2) 154 [.ref m, .int (nI p), .int w] h = some (some (.int (am_i h (m + 1) (6 + 5 * p))), am_pa h (m + 1) (upd (am_i h (m + 1)) (6 + 5 * p) w)) := by
  have hv := mt_in hs.1.2 hp
  rw [← hs.1.1] at hv
  have hn := hs.1.2
  have e0 : (6 : Int32) + 5 * nI p = nI (6 + 5 * p) := by rw [← nI_add, ← pk_mul]; rfl
  simp only [n_154, e_154_0, e_154_1, e_154_2, e_154_5, e_154_8, e_154_9, e_154_10, e_154_11, e_154_14, e_154_17, e_154_20, e_154_21, e_154_23, e_154_24, e_154_25, e_154_26, e_154_27, e_154_28, e_154_31, e_154_36, e_154_34, Option.bind_some, Option.toList_some, Option.toList_none, List.cons_append, List.nil_append, am_k1_i, am_k1_r, am_k1_u, am_k1_n, am_bo0, am_bo1, am_boi, am_ev_tb, am_tb_nil, am_rfs, am_rfn, eq_self, cm_ob l, m_isPerson l, hv, hw, m_i0_5, and_self, if_true, show ¬ (1 : Int32) = 0 from by decide, if_false, e0, m_becomes2 l (show 6 + 5 * p < 3114 by omega)]
theorem m_bolder0 (l : cm_Lay G h m) {v w : Int32} (hv : ¬ ((0 ≤ v ∧ v ≤ am_i h (m + 1) 0 - 1) ∧ 0 ≤ w ∧ w ≤ 100)) : am_evm G (d + 2) 155 [.ref m, .int v, .int w] h = some (some (.int (-1000000001)), h) := by
  by_cases h1 : 0 ≤ v ∧ v ≤ am_i h (m + 1) 0 - 1
  · have h2 : ¬ (0 ≤ w ∧ w ≤ 100) := fun z => hv ⟨h1, z⟩
    simp [n_155, e_155_0, e_155_1, e_155_2, e_155_5, e_155_8, e_155_9, e_155_10, e_155_11, e_155_14, e_155_17, e_155_20, e_155_21, e_155_23, e_155_24, e_155_25, e_155_26, e_155_27, e_155_28, e_155_29, e_155_30, e_155_33, e_155_38, e_155_36, Option.bind_some, Option.toList_some, Option.toList_none, List.cons_append, List.nil_append, am_k1_i, am_k1_r, am_k1_u, am_k1_n, am_bo0, am_bo1, am_boi, am_ev_tb, am_tb_nil, am_rfs, am_rfn, eq_self, cm_ob l, m_isPerson l, h1, h2, m_i0_100]
  · simp [n_155, e_155_0, e_155_1, e_155_2, e_155_5, e_155_8, e_155_9, e_155_10, e_155_11, e_155_14, e_155_17, e_155_20, e_155_21, e_155_23, e_155_24, e_155_25, e_155_26, e_155_27, e_155_28, e_155_29, e_155_30, e_155_33, e_155_38, e_155_36, Option.bind_some, Option.toList_some, Option.toList_none, List.cons_append, List.nil_append, am_k1_i, am_k1_r, am_k1_u, am_k1_n, am_bo0, am_bo1, am_boi, am_ev_tb, am_tb_nil, am_rfs, am_rfn, eq_self, cm_ob l, m_isPerson l, h1]
theorem m_bolder (l : cm_Lay G h m) {n nd p : Nat} (hs : mt_ok (am_i h (m + 1)) n nd) (hp : p < n) {w : Int32} (hw : 0 ≤ w ∧ w ≤ 100) : am_evm G (d + 2) 155 [.ref m, .int (nI p), .int w] h = some (some (.int (am_i h (m + 1) (6 + 5 * p + 1))), am_pa h (m + 1) (upd (am_i h (m + 1)) (6 + 5 * p + 1) w)) := by
  have hv := mt_in hs.1.2 hp
  rw [← hs.1.1] at hv
  have hn := hs.1.2
  have e0 : (6 : Int32) + 5 * nI p + 1 = nI (6 + 5 * p + 1) := by rw [← nI_1, ← nI_add, ← pk_mul]; rfl
  simp only [n_155, e_155_0, e_155_1, e_155_2, e_155_5, e_155_8, e_155_9, e_155_10, e_155_11, e_155_14, e_155_17, e_155_20, e_155_21, e_155_23, e_155_24, e_155_25, e_155_26, e_155_27, e_155_28, e_155_29, e_155_30, e_155_33, e_155_38, e_155_36, Option.bind_some, Option.toList_some, Option.toList_none, List.cons_append, List.nil_append, am_k1_i, am_k1_r, am_k1_u, am_k1_n, am_bo0, am_bo1, am_boi, am_ev_tb, am_tb_nil, am_rfs, am_rfn, eq_self, cm_ob l, m_isPerson l, hv, hw, m_i0_100, and_self, if_true, show ¬ (1 : Int32) = 0 from by decide, if_false, e0, m_becomes2 l (show 6 + 5 * p + 1 < 3114 by omega)]
/-- a bit that becomes v -/
def mt_wb (x : Int32) (k : Nat) (v : Int32) : Int32 := if v = 1 then x ||| (1 : Int32) <<< (nI k &&& 31) else x &&& ((1 : Int32) <<< (nI k &&& 31) ^^^ (-1))
theorem mt_0shl {k : Nat} (hk : k < 32) : (0 : Int32) <<< (nI k &&& 31) = 0 := by
  apply b_ext
  intro i hi
  rw [b_shl k hk _ hi, b_0, b_0]
  simp
theorem mt_x0 (x : Int32) : x ^^^ 0 = x := by
  apply b_ext
  intro i hi
  rw [b_xor, b_0]
  simp
theorem mt_wb_x {x v : Int32} {k : Nat} (hk : k < 32) (hv : v = 0 ∨ v = 1) : x ^^^ ((mt_b x k ^^^ v) <<< (nI k &&& 31)) = mt_wb x k v := by
  unfold mt_wb mt_b
  rcases hv with rfl | rfl
  · rw [if_neg (show ¬ (0 : Int32) = 1 by decide), mt_x0]
    by_cases hb : bt x k = true
    · rw [if_pos hb]
      apply b_ext
      intro i hi
      rw [b_xor, mt_one hk hi, b_and, mt_not _ hi, mt_one hk hi]
      by_cases he : i = k
      · subst he; simp [hb]
      · simp [he]
    · rw [if_neg hb, mt_0shl hk, mt_x0]
      apply b_ext
      intro i hi
      rw [b_and, mt_not _ hi, mt_one hk hi]
      by_cases he : i = k
      · subst he; simp [hb]
      · simp [he]
  · rw [if_pos rfl]
    by_cases hb : bt x k = true
    · rw [if_pos hb, show ((1 : Int32) ^^^ 1) = 0 from by decide, mt_0shl hk, mt_x0]
      apply b_ext
      intro i hi
      rw [b_or, mt_one hk hi]
      by_cases he : i = k
      · subst he; simp [hb]
      · simp [he]
    · rw [if_neg hb, show ((0 : Int32) ^^^ 1) = 1 from by decide]
      apply b_ext
      intro i hi
      rw [b_xor, mt_one hk hi, b_or, mt_one hk hi]
      by_cases he : i = k
      · subst he; simp [hb]
      · simp [he]
theorem m_bitBecomes (l : cm_Lay G h m) {j k : Nat} (hj : j < 3114) (hk : k < 32) {v : Int32} (hv : v = 0 ∨ v = 1) : am_evm G d 156 [.ref m, .int (nI j), .int (nI k), .int v] h = some (some (.int (mt_b (am_i h (m + 1) j) k)), am_pa h (m + 1) (upd (am_i h (m + 1)) j (mt_wb (am_i h (m + 1) j) k v))) := by
  simp only [n_156, e_156_0, e_156_1, e_156_4, e_156_5, e_156_6, e_156_7, e_156_8, e_156_9, f_156_10, e_156_12, e_156_13, e_156_16, e_156_17, e_156_18, e_156_19, e_156_21, e_156_22, e_156_23, e_156_24, e_156_25, e_156_26, e_156_27, e_156_29, Option.bind_some, Option.toList_some, Option.toList_none, List.cons_append, List.nil_append, am_k1_i, am_k1_r, am_k1_u, am_k1_n, am_bo0, am_bo1, am_boi, am_ev_tb, am_tb_nil, am_rfs, am_rfn, eq_self, cm_ob l, cm_r0 l, cm_ia1 l hj, cm_iw1 l hj, am_cl (show j < 2147483648 by omega), mt_sshr _ hk, mt_wb_x hk hv]
  rw [am_pi_pa]
theorem m_01 {v : Int32} : (0 ≤ v ∧ v ≤ 1) ↔ (v = 0 ∨ v = 1) := by
  constructor
  · rintro ⟨a, b⟩
    rw [Int32.le_iff_toInt_le] at a b
    have a : 0 ≤ v.toInt := a
    have b : v.toInt ≤ 1 := b
    rcases (show v.toInt = 0 ∨ v.toInt = 1 by omega) with z | z
    · exact Or.inl (Int32.toInt_inj.mp z)
    · exact Or.inr (Int32.toInt_inj.mp z)
  · rintro (rfl | rfl) <;> decide
theorem m_away0 (l : cm_Lay G h m) {v w z : Int32} (hv : ¬ ((0 ≤ v ∧ v ≤ am_i h (m + 1) 0 - 1) ∧ (0 ≤ w ∧ w ≤ 23) ∧ (0 ≤ z ∧ z ≤ 1))) : am_evm G (d + 2) 157 [.ref m, .int v, .int w, .int z] h = some (some (.int (-1000000001)), h) := by
  by_cases h1 : 0 ≤ v ∧ v ≤ am_i h (m + 1) 0 - 1
  · by_cases h2 : 0 ≤ w ∧ w ≤ 23
    · have h3 : ¬ (0 ≤ z ∧ z ≤ 1) := fun q => hv ⟨h1, h2, q⟩
      simp [n_157, e_157_0, e_157_1, e_157_2, e_157_5, e_157_8, e_157_9, e_157_10, e_157_11, e_157_14, e_157_17, e_157_20, e_157_21, e_157_22, e_157_23, e_157_24, e_157_27, e_157_30, e_157_32, e_157_33, e_157_34, e_157_36, e_157_37, e_157_38, e_157_39, e_157_40, e_157_41, e_157_42, e_157_43, e_157_44, e_157_47, Option.bind_some, Option.toList_some, Option.toList_none, List.cons_append, List.nil_append, am_k1_i, am_k1_r, am_k1_u, am_k1_n, am_bo0, am_bo1, am_boi, am_ev_tb, am_tb_nil, am_rfs, am_rfn, eq_self, cm_ob l, m_isPerson l, h1, h2, h3, m_i0_23, m_i0_1]
    · simp [n_157, e_157_0, e_157_1, e_157_2, e_157_5, e_157_8, e_157_9, e_157_10, e_157_11, e_157_14, e_157_17, e_157_20, e_157_21, e_157_22, e_157_23, e_157_24, e_157_27, e_157_30, e_157_32, e_157_33, e_157_34, e_157_36, e_157_37, e_157_38, e_157_39, e_157_40, e_157_41, e_157_42, e_157_43, e_157_44, e_157_47, Option.bind_some, Option.toList_some, Option.toList_none, List.cons_append, List.nil_append, am_k1_i, am_k1_r, am_k1_u, am_k1_n, am_bo0, am_bo1, am_boi, am_ev_tb, am_tb_nil, am_rfs, am_rfn, eq_self, cm_ob l, m_isPerson l, h1, h2, m_i0_23]
  · simp [n_157, e_157_0, e_157_1, e_157_2, e_157_5, e_157_8, e_157_9, e_157_10, e_157_11, e_157_14, e_157_17, e_157_20, e_157_21, e_157_22, e_157_23, e_157_24, e_157_27, e_157_30, e_157_32, e_157_33, e_157_34, e_157_36, e_157_37, e_157_38, e_157_39, e_157_40, e_157_41, e_157_42, e_157_43, e_157_44, e_157_47, Option.bind_some, Option.toList_some, Option.toList_none, List.cons_append, List.nil_append, am_k1_i, am_k1_r, am_k1_u, am_k1_n, am_bo0, am_bo1, am_boi, am_ev_tb, am_tb_nil, am_rfs, am_rfn, eq_self, cm_ob l, m_isPerson l, h1]
theorem m_away (l : cm_Lay G h m) {n nd p k : Nat} (hs : mt_ok (am_i h (m + 1)) n nd) (hp : p < n) (hk : k < 24) {z : Int32} (hz : 0 ≤ z ∧ z ≤ 1) : am_evm G (d + 2) 157 [.ref m, .int (nI p), .int (nI k), .int z] h = some (some (.int (mt_b (am_i h (m + 1) (6 + 5 * p + 2)) k)), am_pa h (m + 1) (upd (am_i h (m + 1)) (6 + 5 * p + 2) (mt_wb (am_i h (m + 1) (6 + 5 * p + 2)) k z))) := by
  have hv := mt_in hs.1.2 hp
  rw [← hs.1.1] at hv
  have hn := hs.1.2
  have hk2 : (0 : Int32) ≤ nI k ∧ nI k ≤ 23 := ⟨nI_pos' (by omega), nI_le (b := 23) (by omega) (by decide)⟩
  have e0 : (6 : Int32) + 5 * nI p + 2 = nI (6 + 5 * p + 2) := by rw [← nI_add (6 + 5 * p) 2, ← nI_add, ← pk_mul]; rfl
  simp only [n_157, e_157_0, e_157_1, e_157_2, e_157_5, e_157_8, e_157_9, e_157_10, e_157_11, e_157_14, e_157_17, e_157_20, e_157_21, e_157_22, e_157_23, e_157_24, e_157_27, e_157_30, e_157_32, e_157_33, e_157_34, e_157_36, e_157_37, e_157_38, e_157_39, e_157_40, e_157_41, e_157_42, e_157_43, e_157_44, e_157_47, Option.bind_some, Option.toList_some, Option.toList_none, List.cons_append, List.nil_append, am_k1_i, am_k1_r, am_k1_u, am_k1_n, am_bo0, am_bo1, am_boi, am_ev_tb, am_tb_nil, am_rfs, am_rfn, eq_self, cm_ob l, m_isPerson l, hv, hk2, hz, m_i0_23, m_i0_1, and_self, if_true, show ¬ (1 : Int32) = 0 from by decide, if_false, e0, m_bitBecomes l (show 6 + 5 * p + 2 < 3114 by omega) (show k < 32 by omega) (m_01.mp hz)]
theorem m_areTwo (l : cm_Lay G h m) {v w z : Int32} : am_evm G (d + 2) 158 [.ref m, .int v, .int w, .int z] h = some (some (.int (if (0 ≤ v ∧ v ≤ am_i h (m + 1) 0 - 1) ∧ (0 ≤ w ∧ w ≤ am_i h (m + 1) 0 - 1) ∧ ¬ v = w ∧ (0 ≤ z ∧ z ≤ 1) then 1 else 0)), h) := by
  by_cases h1 : 0 ≤ v ∧ v ≤ am_i h (m + 1) 0 - 1
  · by_cases h2 : 0 ≤ w ∧ w ≤ am_i h (m + 1) 0 - 1
    · by_cases h3 : v = w
      · subst h3; simp [n_158, e_158_0, e_158_1, e_158_2, e_158_5, e_158_8, e_158_9, e_158_10, e_158_13, e_158_16, e_158_17, e_158_18, e_158_21, e_158_22, e_158_23, e_158_24, e_158_25, e_158_28, e_158_31, e_158_32, f_158_36, e_158_35, Option.bind_some, Option.toList_some, Option.toList_none, List.cons_append, List.nil_append, am_k1_i, am_k1_r, am_k1_u, am_k1_n, am_bo0, am_bo1, am_boi, am_ev_tb, am_tb_nil, am_rfs, am_rfn, eq_self, cm_ob l, m_isPerson l, h1]
      · by_cases h4 : 0 ≤ z ∧ z ≤ 1
        · simp [n_158, e_158_0, e_158_1, e_158_2, e_158_5, e_158_8, e_158_9, e_158_10, e_158_13, e_158_16, e_158_17, e_158_18, e_158_21, e_158_22, e_158_23, e_158_24, e_158_25, e_158_28, e_158_31, e_158_32, f_158_36, e_158_35, Option.bind_some, Option.toList_some, Option.toList_none, List.cons_append, List.nil_append, am_k1_i, am_k1_r, am_k1_u, am_k1_n, am_bo0, am_bo1, am_boi, am_ev_tb, am_tb_nil, am_rfs, am_rfn, eq_self, cm_ob l, m_isPerson l, h1, h2, h3, h4, m_i0_1]
        · simp [n_158, e_158_0, e_158_1, e_158_2, e_158_5, e_158_8, e_158_9, e_158_10, e_158_13, e_158_16, e_158_17, e_158_18, e_158_21, e_158_22, e_158_23, e_158_24, e_158_25, e_158_28, e_158_31, e_158_32, f_158_36, e_158_35, Option.bind_some, Option.toList_some, Option.toList_none, List.cons_append, List.nil_append, am_k1_i, am_k1_r, am_k1_u, am_k1_n, am_bo0, am_bo1, am_boi, am_ev_tb, am_tb_nil, am_rfs, am_rfn, eq_self, cm_ob l, m_isPerson l, h1, h2, h3, h4, m_i0_1]
    · simp [n_158, e_158_0, e_158_1, e_158_2, e_158_5, e_158_8, e_158_9, e_158_10, e_158_13, e_158_16, e_158_17, e_158_18, e_158_21, e_158_22, e_158_23, e_158_24, e_158_25, e_158_28, e_158_31, e_158_32, f_158_36, e_158_35, Option.bind_some, Option.toList_some, Option.toList_none, List.cons_append, List.nil_append, am_k1_i, am_k1_r, am_k1_u, am_k1_n, am_bo0, am_bo1, am_boi, am_ev_tb, am_tb_nil, am_rfs, am_rfn, eq_self, cm_ob l, m_isPerson l, h1, h2]
  · simp [n_158, e_158_0, e_158_1, e_158_2, e_158_5, e_158_8, e_158_9, e_158_10, e_158_13, e_158_16, e_158_17, e_158_18, e_158_21, e_158_22, e_158_23, e_158_24, e_158_25, e_158_28, e_158_31, e_158_32, f_158_36, e_158_35, Option.bind_some, Option.toList_some, Option.toList_none, List.cons_append, List.nil_append, am_k1_i, am_k1_r, am_k1_u, am_k1_n, am_bo0, am_bo1, am_boi, am_ev_tb, am_tb_nil, am_rfs, am_rfn, eq_self, cm_ob l, m_isPerson l, h1]
theorem m_follow0 (l : cm_Lay G h m) {v w z : Int32} (hv : ¬ ((0 ≤ v ∧ v ≤ am_i h (m + 1) 0 - 1) ∧ (0 ≤ w ∧ w ≤ am_i h (m + 1) 0 - 1) ∧ ¬ v = w ∧ (0 ≤ z ∧ z ≤ 1))) : am_evm G (d + 3) 160 [.ref m, .int v, .int w, .int z] h = some (some (.int (-1000000001)), h) := by
  simp only [n_160, e_160_0, e_160_1, e_160_2, e_160_3, e_160_4, e_160_7, e_160_10, e_160_11, e_160_13, e_160_14, e_160_15, e_160_16, e_160_17, e_160_18, e_160_19, e_160_20, e_160_21, e_160_24, e_160_29, e_160_27, Option.bind_some, Option.toList_some, Option.toList_none, List.cons_append, List.nil_append, am_k1_i, am_k1_r, am_k1_u, am_k1_n, am_bo0, am_bo1, am_boi, am_ev_tb, am_tb_nil, am_rfs, am_rfn, eq_self, cm_ob l, m_areTwo l, hv, if_false, if_true]
theorem m_follow (l : cm_Lay G h m) {n nd p q : Nat} (hs : mt_ok (am_i h (m + 1)) n nd) (hp : p < n) (hq : q < n) (hpq : p ≠ q) {z : Int32} (hz : 0 ≤ z ∧ z ≤ 1) : am_evm G (d + 3) 160 [.ref m, .int (nI p), .int (nI q), .int z] h = some (some (.int (mt_b (am_i h (m + 1) (6 + 5 * p + 4)) q)), am_pa h (m + 1) (upd (am_i h (m + 1)) (6 + 5 * p + 4) (mt_wb (am_i h (m + 1) (6 + 5 * p + 4)) q z))) := by
  have hv := mt_in hs.1.2 hp
  have hv2 := mt_in hs.1.2 hq
  rw [← hs.1.1] at hv hv2
  have hn := hs.1.2
  have hne : ¬ nI p = nI q := fun z => hpq ((nI_eq (by omega) (by omega)).mp z)
  have e0 : (6 : Int32) + 5 * nI p + 4 = nI (6 + 5 * p + 4) := by rw [← nI_add (6 + 5 * p) 4, ← nI_add, ← pk_mul]; rfl
  simp only [n_160, e_160_0, e_160_1, e_160_2, e_160_3, e_160_4, e_160_7, e_160_10, e_160_11, e_160_13, e_160_14, e_160_15, e_160_16, e_160_17, e_160_18, e_160_19, e_160_20, e_160_21, e_160_24, e_160_29, e_160_27, Option.bind_some, Option.toList_some, Option.toList_none, List.cons_append, List.nil_append, am_k1_i, am_k1_r, am_k1_u, am_k1_n, am_bo0, am_bo1, am_boi, am_ev_tb, am_tb_nil, am_rfs, am_rfn, eq_self, cm_ob l, m_areTwo l, hv, hv2, hz, hne, not_false_eq_true, and_self, if_true, show ¬ (1 : Int32) = 0 from by decide, if_false, e0, m_bitBecomes l (show 6 + 5 * p + 4 < 3114 by omega) (show q < 32 by omega) (m_01.mp hz)]
theorem m_friend0 (l : cm_Lay G h m) {v w z : Int32} (hv : ¬ ((0 ≤ v ∧ v ≤ am_i h (m + 1) 0 - 1) ∧ (0 ≤ w ∧ w ≤ am_i h (m + 1) 0 - 1) ∧ ¬ v = w ∧ (0 ≤ z ∧ z ≤ 1))) : am_evm G (d + 3) 159 [.ref m, .int v, .int w, .int z] h = some (some (.int (-1000000001)), h) := by
  simp only [n_159, e_159_0, e_159_1, e_159_2, e_159_3, e_159_4, e_159_7, e_159_10, e_159_12, e_159_13, e_159_14, e_159_16, e_159_17, e_159_18, e_159_19, e_159_20, e_159_21, e_159_22, e_159_23, e_159_24, f_159_27, e_159_29, e_159_30, e_159_32, e_159_33, e_159_34, e_159_35, e_159_36, e_159_37, e_159_38, e_159_39, e_159_40, e_159_43, Option.bind_some, Option.toList_some, Option.toList_none, List.cons_append, List.nil_append, am_k1_i, am_k1_r, am_k1_u, am_k1_n, am_bo0, am_bo1, am_boi, am_ev_tb, am_tb_nil, am_rfs, am_rfn, eq_self, cm_ob l, m_areTwo l, hv, if_false, if_true]
def mt_frd (σ : Nat → Int32) (p q : Nat) (z : Int32) : Nat → Int32 := upd (upd σ (6 + 5 * p + 3) (mt_wb (σ (6 + 5 * p + 3)) q z)) (6 + 5 * q + 3) (mt_wb (σ (6 + 5 * q + 3)) p z)
theorem m_friend (l : cm_Lay G h m) {n nd p q : Nat} (hs : mt_ok (am_i h (m + 1)) n nd) (hp : p < n) (hq : q < n) (hpq : p ≠ q) {z : Int32} (hz : 0 ≤ z ∧ z ≤ 1) : am_evm G (d + 3) 159 [.ref m, .int (nI p), .int (nI q), .int z] h = some (some (.int (mt_b (am_i h (m + 1) (6 + 5 * q + 3)) p)), am_pa h (m + 1) (mt_frd (am_i h (m + 1)) p q z)) := by
  have hv := mt_in hs.1.2 hp
  have hv2 := mt_in hs.1.2 hq
  rw [← hs.1.1] at hv hv2
  have hn := hs.1.2
  have hne : ¬ nI p = nI q := fun z => hpq ((nI_eq (by omega) (by omega)).mp z)
  have e0 : (6 : Int32) + 5 * nI p + 3 = nI (6 + 5 * p + 3) := by rw [← nI_add (6 + 5 * p) 3, ← nI_add, ← pk_mul]; rfl
  have e1 : (6 : Int32) + 5 * nI q + 3 = nI (6 + 5 * q + 3) := by rw [← nI_add (6 + 5 * q) 3, ← nI_add, ← pk_mul]; rfl
  have l2 := cm_Lay.pa (a := m + 1) (g := upd (am_i h (m + 1)) (6 + 5 * p + 3) (mt_wb (am_i h (m + 1) (6 + 5 * p + 3)) q z)) l
  simp only [n_159, e_159_0, e_159_1, e_159_2, e_159_3, e_159_4, e_159_7, e_159_10, e_159_12, e_159_13, e_159_14, e_159_16, e_159_17, e_159_18, e_159_19, e_159_20, e_159_21, e_159_22, e_159_23, e_159_24, f_159_27, e_159_29, e_159_30, e_159_32, e_159_33, e_159_34, e_159_35, e_159_36, e_159_37, e_159_38, e_159_39, e_159_40, e_159_43, Option.bind_some, Option.toList_some, Option.toList_none, List.cons_append, List.nil_append, am_k1_i, am_k1_r, am_k1_u, am_k1_n, am_bo0, am_bo1, am_boi, am_ev_tb, am_tb_nil, am_rfs, am_rfn, eq_self, cm_ob l, cm_ob l2, m_areTwo l, hv, hv2, hz, hne, not_false_eq_true, and_self, if_true, show ¬ (1 : Int32) = 0 from by decide, if_false, e0, e1, m_bitBecomes l (show 6 + 5 * p + 3 < 3114 by omega) (show q < 32 by omega) (m_01.mp hz), m_bitBecomes l2 (show 6 + 5 * q + 3 < 3114 by omega) (show p < 32 by omega) (m_01.mp hz), am_pa_i, am_pa_pa, pk_un (show 6 + 5 * q + 3 ≠ 6 + 5 * p + 3 by omega)]
  rfl
theorem m_seed (l : cm_Lay G h m) {v : Int32} : am_evm G (d + 1) 162 [.ref m, .int v] h = some (some (.int (am_i h (m + 1) 4)), am_pa h (m + 1) (upd (am_i h (m + 1)) 4 v)) := by
  simp only [n_162, e_162_0, e_162_1, e_162_2, e_162_3, e_162_6, Option.bind_some, Option.toList_some, Option.toList_none, List.cons_append, List.nil_append, am_k1_i, am_k1_r, am_k1_u, am_k1_n, am_bo0, am_bo1, am_boi, am_ev_tb, am_tb_nil, am_rfs, am_rfn, eq_self, cm_ob l, show (4 : Int32) = nI 4 from rfl, m_becomes2 l (show 4 < 3114 by omega)]
theorem m_stop (l : cm_Lay G h m) {v : Int32} : am_evm G (d + 1) 167 [.ref m, .int v] h = if 0 ≤ v ∧ v ≤ 4 then some (some (.int (am_i h (m + 1) 3)), am_pa h (m + 1) (upd (am_i h (m + 1)) 3 v)) else some (some (.int (-1000000001)), h) := by
  by_cases h1 : 0 ≤ v ∧ v ≤ 4
  · simp only [n_167, e_167_0, e_167_1, e_167_2, e_167_3, e_167_6, e_167_9, e_167_12, e_167_13, e_167_14, e_167_15, e_167_18, e_167_23, e_167_21, Option.bind_some, Option.toList_some, Option.toList_none, List.cons_append, List.nil_append, am_k1_i, am_k1_r, am_k1_u, am_k1_n, am_bo0, am_bo1, am_boi, am_ev_tb, am_tb_nil, am_rfs, am_rfn, eq_self, cm_ob l, m_i0_4, h1, and_self, if_true, show ¬ (1 : Int32) = 0 from by decide, if_false, show (3 : Int32) = nI 3 from rfl, m_becomes2 l (show 3 < 3114 by omega)]
  · simp only [n_167, e_167_0, e_167_1, e_167_2, e_167_3, e_167_6, e_167_9, e_167_12, e_167_13, e_167_14, e_167_15, e_167_18, e_167_23, e_167_21, Option.bind_some, Option.toList_some, Option.toList_none, List.cons_append, List.nil_append, am_k1_i, am_k1_r, am_k1_u, am_k1_n, am_bo0, am_bo1, am_boi, am_ev_tb, am_tb_nil, am_rfs, am_rfn, eq_self, cm_ob l, m_i0_4, h1, if_true, if_false]
end CM4
