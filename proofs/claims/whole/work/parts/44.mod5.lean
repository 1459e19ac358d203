/-! the reference: deeds, sets, what comes out -/
section CM5
variable {G : Nat → Nat} {d : Nat} {h : am_H} {m : Nat}
def mt_mem (v : Int32) : Prop := ∃ k : Nat, k < 12 ∧ v = nI k
theorem m_least_l {x : Int32} : ∀ n k, k + n = 12 → am_ev G d 171 2 [some (.int x), some (.int (nI k))] [] h = some (some (.int (mt_lo x n k)), h) := by
  intro n
  induction n with
  | zero =>
    intro k hk
    obtain rfl : k = 12 := by omega
    rw [e_171_2]
    simp only [n_171, e_171_0, f_171_1, e_171_3, e_171_5, e_171_8, e_171_9, e_171_10, e_171_11, e_171_12, e_171_13, f_171_16, e_171_19, e_171_22, e_171_23, e_171_25, e_171_28, e_171_29, e_171_33, e_171_32, Option.bind_some, Option.toList_some, Option.toList_none, List.cons_append, List.nil_append, am_k1_i, am_k1_r, am_k1_u, am_k1_n, am_bo0, am_bo1, am_boi, am_ev_tb, am_tb_nil, am_rfs, am_rfn, eq_self, show (12 : Int32) ≤ nI 12 from by decide, if_true]
    rfl
  | succ n ih =>
    intro k hk
    rw [e_171_2]
    have hlt : ¬ (12 : Int32) ≤ nI k := nI_ge (show k < 12 by omega) (by decide)
    simp only [n_171, e_171_0, f_171_1, e_171_3, e_171_5, e_171_8, e_171_9, e_171_10, e_171_11, e_171_12, e_171_13, f_171_16, e_171_19, e_171_22, e_171_23, e_171_25, e_171_28, e_171_29, e_171_33, e_171_32, Option.bind_some, Option.toList_some, Option.toList_none, List.cons_append, List.nil_append, am_k1_i, am_k1_r, am_k1_u, am_k1_n, am_bo0, am_bo1, am_boi, am_ev_tb, am_tb_nil, am_rfs, am_rfn, eq_self, hlt, if_false, mt_sshr x (show k < 32 by omega), nI_1, mt_b0, mt_lo]
    by_cases hb : bt x k = true
    · simp only [hb, not_true, if_false, if_true]
    · simp only [hb, not_false_eq_true, if_true]
      exact ih (k + 1) (by omega)
theorem m_least {x : Int32} : am_evm G d 171 [.int x] h = some (some (.int (mt_least x)), h) := by
  simp only [n_171, e_171_0, f_171_1, e_171_3, e_171_5, e_171_8, e_171_9, e_171_10, e_171_11, e_171_12, e_171_13, f_171_16, e_171_19, e_171_22, e_171_23, e_171_25, e_171_28, e_171_29, e_171_33, e_171_32, Option.bind_some, Option.toList_some, Option.toList_none, List.cons_append, List.nil_append, am_k1_i, am_k1_r, am_k1_u, am_k1_n, am_bo0, am_bo1, am_boi, am_ev_tb, am_tb_nil, am_rfs, am_rfn, eq_self]
  exact m_least_l 12 0 rfl
theorem m_great_l {x : Int32} : ∀ n, n ≤ 12 → am_ev G d 172 3 [some (.int x), some (.int (nI n - 1))] [] h = some (some (.int (mt_hi x n)), h) := by
  intro n
  induction n with
  | zero =>
    intro _
    rw [e_172_3]
    simp only [n_172, e_172_0, f_172_2, e_172_4, e_172_7, e_172_8, e_172_9, e_172_10, e_172_11, e_172_12, f_172_15, e_172_18, e_172_21, e_172_22, Option.bind_some, Option.toList_some, Option.toList_none, List.cons_append, List.nil_append, am_k1_i, am_k1_r, am_k1_u, am_k1_n, am_bo0, am_bo1, am_boi, am_ev_tb, am_tb_nil, am_rfs, am_rfn, eq_self, show nI 0 - 1 < 0 from by decide, if_true]
    rfl
  | succ n ih =>
    intro hn
    rw [nI_pred, e_172_3]
    have hlt : ¬ nI n < 0 := nI_pos (by omega)
    simp only [n_172, e_172_0, f_172_2, e_172_4, e_172_7, e_172_8, e_172_9, e_172_10, e_172_11, e_172_12, f_172_15, e_172_18, e_172_21, e_172_22, Option.bind_some, Option.toList_some, Option.toList_none, List.cons_append, List.nil_append, am_k1_i, am_k1_r, am_k1_u, am_k1_n, am_bo0, am_bo1, am_boi, am_ev_tb, am_tb_nil, am_rfs, am_rfn, eq_self, hlt, if_false, mt_sshr x (show n < 32 by omega), mt_b0, mt_hi]
    by_cases hb : bt x n = true
    · simp only [hb, not_true, if_false, if_true]
    · simp only [hb, not_false_eq_true, if_true]
      have := ih (by omega)
      rw [show nI n + (-1) = nI n - 1 from (Int32.sub_eq_add_neg _ _).symm]
      exact this
theorem m_great {x : Int32} : am_evm G d 172 [.int x] h = some (some (.int (mt_great x)), h) := by
  simp only [n_172, e_172_0, f_172_2, e_172_4, e_172_7, e_172_8, e_172_9, e_172_10, e_172_11, e_172_12, f_172_15, e_172_18, e_172_21, e_172_22, Option.bind_some, Option.toList_some, Option.toList_none, List.cons_append, List.nil_append, am_k1_i, am_k1_r, am_k1_u, am_k1_n, am_bo0, am_bo1, am_boi, am_ev_tb, am_tb_nil, am_rfs, am_rfn, eq_self]
  exact m_great_l 12 (by omega)
/-- LEFT, as the state has it -/
def mt_left (σ : Nat → Int32) (p : Nat) : Int32 := mt_every (σ 0) &&& (σ (66 + 6 * p + 3) ^^^ (-1))
theorem m_left2 (l : cm_Lay G h m) {p : Nat} (hp : p < 8) : am_evm G (d + 1) 142 [.ref m, .int (nI p)] h = some (some (.int (mt_left (am_i h (m + 1)) p)), h) := m_left l hp
def mt_silent (σ : Nat → Int32) : Nat → Int32
  | 0 => mt_every (σ 0)
  | n + 1 => mt_silent σ n &&& mt_left σ n
theorem m_silent_l (l : cm_Lay G h m) {n : Nat} (hn : am_i h (m + 1) 1 = nI n) (hn8 : n ≤ 8) : ∀ j q, q + j = n → am_ev G (d + 2) 179 7 [some (.ref m), some (.int (mt_silent (am_i h (m + 1)) q)), some (.int (nI q))] [] h = some (some (.int (mt_silent (am_i h (m + 1)) n)), h) := by
  have i0 : am_ia G h (m + 1) 1 := cm_ia1 l (show 1 < 3114 by omega)
  intro j
  induction j with
  | zero =>
    intro q hq
    obtain rfl : q = n := by omega
    rw [e_179_7]
    simp only [n_179, e_179_0, e_179_1, f_179_4, e_179_5, f_179_6, e_179_8, e_179_9, e_179_12, e_179_13, e_179_14, e_179_17, e_179_18, e_179_19, e_179_20, e_179_23, f_179_24, f_179_25, e_179_28, e_179_31, e_179_32, Option.bind_some, Option.toList_some, Option.toList_none, List.cons_append, List.nil_append, am_k1_i, am_k1_r, am_k1_u, am_k1_n, am_bo0, am_bo1, am_boi, am_ev_tb, am_tb_nil, am_rfs, am_rfn, eq_self, cm_ob l, cm_r0 l, i0, show (1 : Int32).toNatClampNeg = 1 from rfl, hn, Int32.le_refl, if_true]
  | succ j ih =>
    intro q hq
    have hlt : ¬ nI n ≤ nI q := nI_ge (by omega) (by omega)
    rw [e_179_7]
    simp only [n_179, e_179_0, e_179_1, f_179_4, e_179_5, f_179_6, e_179_8, e_179_9, e_179_12, e_179_13, e_179_14, e_179_17, e_179_18, e_179_19, e_179_20, e_179_23, f_179_24, f_179_25, e_179_28, e_179_31, e_179_32, Option.bind_some, Option.toList_some, Option.toList_none, List.cons_append, List.nil_append, am_k1_i, am_k1_r, am_k1_u, am_k1_n, am_bo0, am_bo1, am_boi, am_ev_tb, am_tb_nil, am_rfs, am_rfn, eq_self, cm_ob l, cm_r0 l, i0, show (1 : Int32).toNatClampNeg = 1 from rfl, hn, hlt, if_false, m_left2 l (show q < 8 by omega), nI_1]
    exact ih (q + 1) (by omega)
theorem m_silent (l : cm_Lay G h m) {n : Nat} (hn : am_i h (m + 1) 1 = nI n) (hn8 : n ≤ 8) : am_evm G (d + 2) 179 [.ref m] h = some (some (.int (mt_silent (am_i h (m + 1)) n)), h) := by
  simp only [n_179, e_179_0, e_179_1, f_179_4, e_179_5, f_179_6, e_179_8, e_179_9, e_179_12, e_179_13, e_179_14, e_179_17, e_179_18, e_179_19, e_179_20, e_179_23, f_179_24, f_179_25, e_179_28, e_179_31, e_179_32, Option.bind_some, Option.toList_some, Option.toList_none, List.cons_append, List.nil_append, am_k1_i, am_k1_r, am_k1_u, am_k1_n, am_bo0, am_bo1, am_boi, am_ev_tb, am_tb_nil, am_rfs, am_rfn, eq_self, cm_ob l, m_everybody l]
  exact m_silent_l l hn hn8 n 0 (by omega)
theorem mt_in8 {n p : Nat} (hn : n ≤ 8) (hp : p < n) : (0 : Int32) ≤ nI p ∧ nI p ≤ nI n - 1 := (mt_ix (by omega)).mpr ⟨p, hp, rfl⟩
theorem m_meant0 (l : cm_Lay G h m) {v : Int32} (hv : ¬ (0 ≤ v ∧ v ≤ am_i h (m + 1) 1 - 1)) : am_evm G (d + 2) 180 [.ref m, .int v] h = some (some (.int (-1000000001)), h) := by
  simp only [n_180, e_180_0, e_180_1, e_180_2, e_180_5, e_180_8, e_180_10, e_180_11, e_180_12, e_180_13, e_180_14, e_180_17, f_180_20, e_180_21, e_180_22, e_180_25, e_180_26, e_180_40, e_180_29, e_180_30, e_180_31, e_180_34, e_180_35, e_180_36, e_180_37, e_180_38, e_180_39, Option.bind_some, Option.toList_some, Option.toList_none, List.cons_append, List.nil_append, am_k1_i, am_k1_r, am_k1_u, am_k1_n, am_bo0, am_bo1, am_boi, am_ev_tb, am_tb_nil, am_rfs, am_rfn, eq_self, cm_ob l, m_isDeed l, hv, if_false, if_true]
def mt_meant (σ : Nat → Int32) (p : Nat) : Int32 := if 0 ≤ mt_great (σ (66 + 6 * p + 3)) then mt_left σ p &&& ((1 : Int32) <<< (mt_great (σ (66 + 6 * p + 3)) &&& 31) - 1) else 0
theorem m_meant (l : cm_Lay G h m) {n nd p : Nat} (hs : mt_ok (am_i h (m + 1)) n nd) (hp : p < nd) : am_evm G (d + 2) 180 [.ref m, .int (nI p)] h = some (some (.int (mt_meant (am_i h (m + 1)) p)), h) := by
  have hv := mt_in8 hs.2.1.2 hp
  rw [← hs.2.1.1] at hv
  have hn := hs.2.1.2
  simp only [n_180, e_180_0, e_180_1, e_180_2, e_180_5, e_180_8, e_180_10, e_180_11, e_180_12, e_180_13, e_180_14, e_180_17, f_180_20, e_180_21, e_180_22, e_180_25, e_180_26, e_180_40, e_180_29, e_180_30, e_180_31, e_180_34, e_180_35, e_180_36, e_180_37, e_180_38, e_180_39, Option.bind_some, Option.toList_some, Option.toList_none, List.cons_append, List.nil_append, am_k1_i, am_k1_r, am_k1_u, am_k1_n, am_bo0, am_bo1, am_boi, am_ev_tb, am_tb_nil, am_rfs, am_rfn, eq_self, cm_ob l, m_isDeed l, hv, and_self, if_true, show ¬ (1 : Int32) = 0 from by decide, if_false, show (3 : Int32) = nI 3 from rfl, m_dee l (show 66 + 6 * p + 3 < 3114 by omega), m_great, m_left2 l (show p < 8 by omega)]
  unfold mt_meant
  split <;> rfl
noncomputable def mt_go (σ : Nat → Int32) (n p : Nat) : Int32 := mt_fol (mt_T σ) n p ||| (1 : Int32) <<< (nI p &&& 31)
theorem m_goBy2 (l : cm_Lay G h m) {n nd p : Nat} (hs : mt_ok (am_i h (m + 1)) n nd) (hp : p < n) : am_evm G (d + 2) 148 [.ref m, .int (nI p)] h = some (some (.int (mt_go (am_i h (m + 1)) n p)), h) := m_goBy l hs.1.1 hs.1.2 hp (mt_ok_T hs hp)
noncomputable def mt_prov (σ : Nat → Int32) (n p hr : Nat) : Nat → Int32
  | 0 => mt_left σ p
  | q + 1 => mt_prov σ n p hr q &&& (if bt (σ (6 + 5 * q + 2)) hr = true then mt_go σ n q ^^^ (-1) else -1)
theorem m_prov_l (l : cm_Lay G h m) {n nd p hr : Nat} (hs : mt_ok (am_i h (m + 1)) n nd) (hp : p < nd) (hh : am_i h (m + 1) (66 + 6 * p + 1) = nI hr) (hh24 : hr < 24) : ∀ j q, q + j = n → am_ev G (d + 3) 181 19 [some (.ref m), some (.int (nI p)), some (.int (mt_prov (am_i h (m + 1)) n p hr q)), some (.int (nI q))] [] h = some (some (.int (mt_prov (am_i h (m + 1)) n p hr n)), h) := by
  have i0 : am_ia G h (m + 1) 0 := cm_ia1 l (show 0 < 3114 by omega)
  have hn := hs.1.1
  have hn12 := hs.1.2
  have hn8 := hs.2.1.2
  intro j
  induction j with
  | zero =>
    intro q hq
    obtain rfl : q = n := by omega
    rw [e_181_19]
    simp only [n_181, e_181_0, e_181_1, e_181_2, e_181_5, e_181_8, e_181_10, e_181_11, e_181_12, e_181_13, f_181_16, e_181_17, f_181_18, e_181_20, e_181_21, e_181_24, e_181_25, e_181_26, e_181_29, e_181_30, e_181_31, e_181_32, e_181_33, e_181_36, e_181_37, e_181_38, e_181_39, e_181_42, e_181_43, e_181_44, e_181_45, e_181_46, e_181_49, e_181_50, e_181_51, e_181_54, e_181_55, e_181_56, e_181_60, f_181_61, f_181_62, e_181_65, e_181_59, e_181_68, e_181_69, Option.bind_some, Option.toList_some, Option.toList_none, List.cons_append, List.nil_append, am_k1_i, am_k1_r, am_k1_u, am_k1_n, am_bo0, am_bo1, am_boi, am_ev_tb, am_tb_nil, am_rfs, am_rfn, eq_self, cm_ob l, cm_r0 l, i0, show (0 : Int32).toNatClampNeg = 0 from rfl, hn, Int32.le_refl, if_true]
  | succ j ih =>
    intro q hq
    have hlt : ¬ nI n ≤ nI q := nI_ge (by omega) (by omega)
    have b2 : am_evm G (d + 2) 136 [.ref m, .int (nI q), .int 2] h = _ := m_of (j := 2) l (show 6 + 5 * q + 2 < 3114 by omega)
    have b1 : am_evm G (d + 2) 137 [.ref m, .int (nI p), .int 1] h = _ := m_dee (j := 1) l (show 66 + 6 * p + 1 < 3114 by omega)
    rw [e_181_19]
    simp only [n_181, e_181_0, e_181_1, e_181_2, e_181_5, e_181_8, e_181_10, e_181_11, e_181_12, e_181_13, f_181_16, e_181_17, f_181_18, e_181_20, e_181_21, e_181_24, e_181_25, e_181_26, e_181_29, e_181_30, e_181_31, e_181_32, e_181_33, e_181_36, e_181_37, e_181_38, e_181_39, e_181_42, e_181_43, e_181_44, e_181_45, e_181_46, e_181_49, e_181_50, e_181_51, e_181_54, e_181_55, e_181_56, e_181_60, f_181_61, f_181_62, e_181_65, e_181_59, e_181_68, e_181_69, Option.bind_some, Option.toList_some, Option.toList_none, List.cons_append, List.nil_append, am_k1_i, am_k1_r, am_k1_u, am_k1_n, am_bo0, am_bo1, am_boi, am_ev_tb, am_tb_nil, am_rfs, am_rfn, eq_self, cm_ob l, cm_r0 l, i0, show (0 : Int32).toNatClampNeg = 0 from rfl, hn, hlt, if_false, b2, b1, hh, mt_sshr _ (show hr < 32 by omega), mt_b1, m_goBy2 l hs (show q < n by omega), nI_1]
    have := ih (q + 1) (by omega)
    rw [mt_prov] at this
    by_cases hb : bt (am_i h (m + 1) (6 + 5 * q + 2)) hr = true
    · rw [if_pos hb] at this ⊢
      exact this
    · rw [if_neg hb] at this ⊢
      exact this
theorem m_proved0 (l : cm_Lay G h m) {v : Int32} (hv : ¬ (0 ≤ v ∧ v ≤ am_i h (m + 1) 1 - 1)) : am_evm G (d + 3) 181 [.ref m, .int v] h = some (some (.int (-1000000001)), h) := by
  simp only [n_181, e_181_0, e_181_1, e_181_2, e_181_5, e_181_8, e_181_10, e_181_11, e_181_12, e_181_13, f_181_16, e_181_17, f_181_18, e_181_20, e_181_21, e_181_24, e_181_25, e_181_26, e_181_29, e_181_30, e_181_31, e_181_32, e_181_33, e_181_36, e_181_37, e_181_38, e_181_39, e_181_42, e_181_43, e_181_44, e_181_45, e_181_46, e_181_49, e_181_50, e_181_51, e_181_54, e_181_55, e_181_56, e_181_60, f_181_61, f_181_62, e_181_65, e_181_59, e_181_68, e_181_69, Option.bind_some, Option.toList_some, Option.toList_none, List.cons_append, List.nil_append, am_k1_i, am_k1_r, am_k1_u, am_k1_n, am_bo0, am_bo1, am_boi, am_ev_tb, am_tb_nil, am_rfs, am_rfn, eq_self, cm_ob l, m_isDeed l, hv, if_false, if_true]
theorem m_proved (l : cm_Lay G h m) {n nd p hr : Nat} (hs : mt_ok (am_i h (m + 1)) n nd) (hp : p < nd) (hh : am_i h (m + 1) (66 + 6 * p + 1) = nI hr) (hh24 : hr < 24) : am_evm G (d + 3) 181 [.ref m, .int (nI p)] h = some (some (.int (mt_prov (am_i h (m + 1)) n p hr n)), h) := by
  have hv := mt_in8 hs.2.1.2 hp
  rw [← hs.2.1.1] at hv
  have hn := hs.2.1.2
  simp only [n_181, e_181_0, e_181_1, e_181_2, e_181_5, e_181_8, e_181_10, e_181_11, e_181_12, e_181_13, f_181_16, e_181_17, f_181_18, e_181_20, e_181_21, e_181_24, e_181_25, e_181_26, e_181_29, e_181_30, e_181_31, e_181_32, e_181_33, e_181_36, e_181_37, e_181_38, e_181_39, e_181_42, e_181_43, e_181_44, e_181_45, e_181_46, e_181_49, e_181_50, e_181_51, e_181_54, e_181_55, e_181_56, e_181_60, f_181_61, f_181_62, e_181_65, e_181_59, e_181_68, e_181_69, Option.bind_some, Option.toList_some, Option.toList_none, List.cons_append, List.nil_append, am_k1_i, am_k1_r, am_k1_u, am_k1_n, am_bo0, am_bo1, am_boi, am_ev_tb, am_tb_nil, am_rfs, am_rfn, eq_self, cm_ob l, m_isDeed l, hv, and_self, if_true, show ¬ (1 : Int32) = 0 from by decide, if_false, m_left2 l (show p < 8 by omega)]
  exact m_prov_l l hs hp hh hh24 n 0 (by omega)
/-- sums of a place over the deeds -/
def mt_sum (σ : Nat → Int32) (j : Nat) : Nat → Int32
  | 0 => 0
  | n + 1 => mt_sum σ j n + σ (66 + 6 * n + j)
theorem m_ofAll_l (l : cm_Lay G h m) {n w : Nat} (hn : am_i h (m + 1) 1 = nI n) (hn8 : n ≤ 8) (hw : w < 6) : ∀ j q, q + j = n → am_ev G (d + 1) 224 4 [some (.ref m), some (.int (nI w)), some (.int (mt_sum (am_i h (m + 1)) w q)), some (.int (nI q))] [] h = some (some (.int (mt_sum (am_i h (m + 1)) w n)), h) := by
  have i0 : am_ia G h (m + 1) 1 := cm_ia1 l (show 1 < 3114 by omega)
  intro j
  induction j with
  | zero =>
    intro q hq
    obtain rfl : q = n := by omega
    rw [e_224_4]
    simp only [n_224, e_224_0, f_224_1, e_224_2, f_224_3, e_224_5, e_224_6, e_224_9, e_224_10, e_224_11, e_224_14, e_224_15, e_224_16, e_224_17, e_224_18, e_224_21, f_224_22, f_224_23, e_224_26, e_224_29, e_224_30, Option.bind_some, Option.toList_some, Option.toList_none, List.cons_append, List.nil_append, am_k1_i, am_k1_r, am_k1_u, am_k1_n, am_bo0, am_bo1, am_boi, am_ev_tb, am_tb_nil, am_rfs, am_rfn, eq_self, cm_ob l, cm_r0 l, i0, show (1 : Int32).toNatClampNeg = 1 from rfl, hn, Int32.le_refl, if_true]
  | succ j ih =>
    intro q hq
    have hlt : ¬ nI n ≤ nI q := nI_ge (by omega) (by omega)
    rw [e_224_4]
    simp only [n_224, e_224_0, f_224_1, e_224_2, f_224_3, e_224_5, e_224_6, e_224_9, e_224_10, e_224_11, e_224_14, e_224_15, e_224_16, e_224_17, e_224_18, e_224_21, f_224_22, f_224_23, e_224_26, e_224_29, e_224_30, Option.bind_some, Option.toList_some, Option.toList_none, List.cons_append, List.nil_append, am_k1_i, am_k1_r, am_k1_u, am_k1_n, am_bo0, am_bo1, am_boi, am_ev_tb, am_tb_nil, am_rfs, am_rfn, eq_self, cm_ob l, cm_r0 l, i0, show (1 : Int32).toNatClampNeg = 1 from rfl, hn, hlt, if_false, m_dee l (show 66 + 6 * q + w < 3114 by omega), nI_1]
    exact ih (q + 1) (by omega)
theorem m_ofAll (l : cm_Lay G h m) {n w : Nat} (hn : am_i h (m + 1) 1 = nI n) (hn8 : n ≤ 8) (hw : w < 6) : am_evm G (d + 1) 224 [.ref m, .int (nI w)] h = some (some (.int (mt_sum (am_i h (m + 1)) w n)), h) := by
  simp only [n_224, e_224_0, f_224_1, e_224_2, f_224_3, e_224_5, e_224_6, e_224_9, e_224_10, e_224_11, e_224_14, e_224_15, e_224_16, e_224_17, e_224_18, e_224_21, f_224_22, f_224_23, e_224_26, e_224_29, e_224_30, Option.bind_some, Option.toList_some, Option.toList_none, List.cons_append, List.nil_append, am_k1_i, am_k1_r, am_k1_u, am_k1_n, am_bo0, am_bo1, am_boi, am_ev_tb, am_tb_nil, am_rfs, am_rfn, eq_self]
  exact m_ofAll_l l hn hn8 hw n 0 (by omega)
def mt_count (σ : Nat → Int32) (nd : Nat) (wt tp : Int32) (w : Int32) : Int32 := if w = 0 then σ 0 else if w = 1 then σ 1 else if w = 2 then σ 3 else if w = 3 then mt_sum σ 4 nd else if w = 4 then mt_sum σ 5 nd else if w = 5 then σ 2 else if w = 6 then wt else if w = 7 then tp else if w = 8 then σ 4 else -1000000001
theorem m_count (l : cm_Lay G h m) {nd : Nat} (hn : am_i h (m + 1) 1 = nI nd) (hn8 : nd ≤ 8) {w : Int32} : am_evm G (d + 2) 225 [.ref m, .int w] h = some (some (.int (mt_count (am_i h (m + 1)) nd (am_i h m 29) (am_i h m 14) w)), h) := by
  have i0 : am_ia G h (m + 1) 0 := cm_ia1 l (show 0 < 3114 by omega)
  have i1 : am_ia G h (m + 1) 1 := cm_ia1 l (show 1 < 3114 by omega)
  have i2 : am_ia G h (m + 1) 2 := cm_ia1 l (show 2 < 3114 by omega)
  have i3 : am_ia G h (m + 1) 3 := cm_ia1 l (show 3 < 3114 by omega)
  have i4 : am_ia G h (m + 1) 4 := cm_ia1 l (show 4 < 3114 by omega)
  have a4 : am_evm G (d + 1) 224 [.ref m, .int 4] h = _ := m_ofAll (w := 4) l hn hn8 (by omega)
  have a5 : am_evm G (d + 1) 224 [.ref m, .int 5] h = _ := m_ofAll (w := 5) l hn hn8 (by omega)
  simp only [n_225, e_225_0, e_225_1, e_225_109, e_225_111, e_225_102, e_225_103, e_225_106, e_225_107, e_225_108, e_225_97, e_225_98, e_225_101, e_225_92, e_225_93, e_225_96, e_225_85, e_225_86, e_225_89, e_225_90, e_225_91, e_225_79, e_225_80, e_225_81, e_225_84, e_225_73, e_225_74, e_225_75, e_225_78, e_225_66, e_225_67, e_225_70, e_225_71, e_225_72, e_225_59, e_225_60, e_225_63, e_225_64, e_225_65, e_225_52, e_225_53, e_225_56, e_225_57, e_225_58, Option.bind_some, Option.toList_some, Option.toList_none, List.cons_append, List.nil_append, am_k1_i, am_k1_r, am_k1_u, am_k1_n, am_bo0, am_bo1, am_boi, am_ev_tb, am_tb_nil, am_rfs, am_rfn, eq_self, cm_ob l, cm_r0 l, i0, i1, i2, i3, i4, a4, a5, show (0 : Int32).toNatClampNeg = 0 from rfl, show (1 : Int32).toNatClampNeg = 1 from rfl, show (2 : Int32).toNatClampNeg = 2 from rfl, show (3 : Int32).toNatClampNeg = 3 from rfl, show (4 : Int32).toNatClampNeg = 4 from rfl]
  unfold mt_count
  by_cases h0 : w = 0
  · subst h0; simp
  by_cases h1 : w = 1
  · subst h1; simp
  by_cases h2 : w = 2
  · subst h2; simp
  by_cases h3 : w = 3
  · subst h3; simp
  by_cases h4 : w = 4
  · subst h4; simp
  by_cases h5 : w = 5
  · subst h5; simp
  by_cases h6 : w = 6
  · subst h6; simp
  by_cases h7 : w = 7
  · subst h7; simp
  by_cases h8 : w = 8
  · subst h8; simp
  simp only [h0, h1, h2, h3, h4, h5, h6, h7, h8, if_false]
end CM5
