/-! the reference: deal, deed, again, falls, most -/
def mt_rem (x q : Int32) : Int32 := x - x / q * q
def mt_deal1 (σ : Nat → Int32) (n : Nat) : Nat → Int32 := mt_comes (upd σ 4 (mt_z (mt_z (mt_z (mt_z (σ 4)))))) n (mt_rem (mt_dr (σ 4)) 6) (mt_rem (mt_dr (mt_z (σ 4))) 101) (mt_dr (mt_z (mt_z (σ 4))) &&& mt_dr (mt_z (mt_z (mt_z (σ 4)))))
def mt_dealN (σ : Nat → Int32) (n : Nat) : Nat → Nat → Int32
  | 0 => σ
  | k + 1 => mt_deal1 (mt_dealN σ n k) (n + k)
theorem mt_upd_upd {σ : Nat → Int32} {k : Nat} {x y : Int32} : upd (upd σ k x) k y = upd σ k y := by
  funext j
  by_cases hj : j = k
  · subst hj; rw [pk_us, pk_us]
  · rw [pk_un hj, pk_un hj, pk_un hj]
theorem mt_dealN_0 {σ : Nat → Int32} {n : Nat} (h : σ 0 = nI n) : ∀ k, mt_dealN σ n k 0 = nI (n + k) := by
  intro k
  cases k with
  | zero => exact h
  | succ k =>
    rw [mt_dealN]
    unfold mt_deal1 mt_comes
    rw [pk_us]
    rfl
/-- how many bits, as a plain number -/
def mt_c (x : Int32) : Nat → Nat
  | 0 => 0
  | n + 1 => mt_c x n + (if bt x n = true then 1 else 0)
theorem mt_c_on (x : Int32) : ∀ n, mt_on x n = nI (mt_c x n) := by
  intro n
  induction n with
  | zero => rfl
  | succ n ih =>
    rw [mt_on, mt_c, ih, mt_b, ← nI_add]
    split <;> rfl
theorem mt_c_le (x : Int32) : ∀ n, mt_c x n ≤ n := by
  intro n
  induction n with
  | zero => exact Nat.le_refl _
  | succ n ih => rw [mt_c]; split <;> omega
theorem mt_c_pos {x : Int32} {p : Nat} (hb : bt x p = true) : ∀ n, p < n → 0 < mt_c x n := by
  intro n
  induction n with
  | zero => intro h; omega
  | succ n ih =>
    intro hp
    rw [mt_c]
    by_cases he : p = n
    · subst he; rw [if_pos hb]; omega
    · have := ih (by omega); omega
theorem mt_ones_c (x : Int32) : mt_ones x = nI (mt_c x 12) := mt_c_on x 12
def mt_fallN (σ : Nat → Int32) (p : Nat) : Nat → Int32
  | 0 => 0
  | n + 1 => mt_fallN σ p n + (if bt (mt_left σ n) p = true then 27720 / mt_ones (mt_left σ n) else 0)
def mt_fall (σ : Nat → Int32) (p : Nat) : Nat → Nat
  | 0 => 0
  | n + 1 => mt_fall σ p n + (if bt (mt_left σ n) p = true then 27720 / mt_c (mt_left σ n) 12 else 0)
theorem mt_fall_le (σ : Nat → Int32) (p : Nat) : ∀ n, mt_fall σ p n ≤ 27720 * n := by
  intro n
  induction n with
  | zero => exact Nat.le_refl _
  | succ n ih =>
    rw [mt_fall]
    have : 27720 / mt_c (mt_left σ n) 12 ≤ 27720 := Nat.div_le_self _ _
    split <;> omega
theorem mt_fall_eq (σ : Nat → Int32) {p : Nat} (hp : p < 12) : ∀ n, mt_fallN σ p n = nI (mt_fall σ p n) := by
  intro n
  induction n with
  | zero => rfl
  | succ n ih =>
    rw [mt_fallN, mt_fall, ih, ← nI_add]
    by_cases hb : bt (mt_left σ n) p = true
    · rw [if_pos hb, if_pos hb, mt_ones_c]
      have h1 := mt_c_pos hb 12 hp
      have h2 := mt_c_le (mt_left σ n) 12
      rw [← pk_div (a := 27720) (by decide) h1 (by omega)]
      rfl
    · rw [if_neg hb, if_neg hb]
      rfl
section CM6
variable {G : Nat → Nat} {d : Nat} {h : am_H} {m : Nat}
theorem m_deal_l (l : cm_Lay G h m) {n k0 c : Nat} (hn : am_i h (m + 1) 0 = nI n) (hn12 : n ≤ 12) (hk0 : k0 ≤ 12) (hc : c = min k0 (12 - n)) : ∀ j q x3 x4 x5, q + j = c → am_ev G (d + 1) 161 17 [some (.ref m), some (.int (nI k0)), some (.int (nI q)), x3, x4, x5] [] (am_pa h (m + 1) (mt_dealN (am_i h (m + 1)) n q)) = some (some (.int (nI c)), am_pa h (m + 1) (mt_dealN (am_i h (m + 1)) n c)) := by
  intro j
  induction j with
  | zero =>
    intro q x3 x4 x5 hq
    obtain rfl : q = c := by omega
    have l2 := cm_Lay.pa (a := m + 1) (g := mt_dealN (am_i h (m + 1)) n q) l
    have i0 : am_ia G (am_pa h (m + 1) (mt_dealN (am_i h (m + 1)) n q)) (m + 1) 0 := cm_ia1 l2 (show 0 < 3114 by omega)
    rw [e_161_17]
    by_cases hk : k0 ≤ q
    · simp only [n_161, e_161_0, e_161_1, e_161_2, e_161_3, e_161_6, e_161_9, e_161_12, e_161_14, e_161_15, f_161_16, e_161_18, e_161_19, e_161_22, e_161_23, e_161_26, e_161_27, e_161_28, e_161_30, e_161_33, e_161_34, e_161_37, e_161_39, f_161_40, e_161_41, e_161_42, e_161_45, e_161_47, f_161_48, e_161_50, e_161_51, f_161_54, e_161_56, e_161_57, e_161_58, e_161_60, e_161_62, e_161_63, e_161_66, e_161_67, f_161_70, e_161_73, e_161_76, e_161_77, Option.bind_some, Option.toList_some, Option.toList_none, List.cons_append, List.nil_append, am_k1_i, am_k1_r, am_k1_u, am_k1_n, am_bo0, am_bo1, am_boi, am_ev_tb, am_tb_nil, am_rfs, am_rfn, eq_self, nI_le hk (show q < 2147483648 by omega), if_true]
    · have h1 : ¬ nI k0 ≤ nI q := nI_ge (by omega) (by omega)
      have h2 : (12 : Int32) ≤ nI (n + q) := nI_le (a := 12) (by omega) (by omega)
      simp only [n_161, e_161_0, e_161_1, e_161_2, e_161_3, e_161_6, e_161_9, e_161_12, e_161_14, e_161_15, f_161_16, e_161_18, e_161_19, e_161_22, e_161_23, e_161_26, e_161_27, e_161_28, e_161_30, e_161_33, e_161_34, e_161_37, e_161_39, f_161_40, e_161_41, e_161_42, e_161_45, e_161_47, f_161_48, e_161_50, e_161_51, f_161_54, e_161_56, e_161_57, e_161_58, e_161_60, e_161_62, e_161_63, e_161_66, e_161_67, f_161_70, e_161_73, e_161_76, e_161_77, Option.bind_some, Option.toList_some, Option.toList_none, List.cons_append, List.nil_append, am_k1_i, am_k1_r, am_k1_u, am_k1_n, am_bo0, am_bo1, am_boi, am_ev_tb, am_tb_nil, am_rfs, am_rfn, eq_self, h1, if_false, cm_ob l2, cm_r0 l2, i0, show (0 : Int32).toNatClampNeg = 0 from rfl, am_pa_i, if_true, mt_dealN_0 hn, h2]
  | succ j ih =>
    intro q x3 x4 x5 hq
    generalize hσ : mt_dealN (am_i h (m + 1)) n q = σ
    have hσ0 : σ 0 = nI (n + q) := by rw [← hσ]; exact mt_dealN_0 hn q
    have l2 : ∀ g, cm_Lay G (am_pa h (m + 1) g) m := fun g => l
    have i0 : am_ia G (am_pa h (m + 1) σ) (m + 1) 0 := cm_ia1 (l2 σ) (show 0 < 3114 by omega)
    have h1 : ¬ nI k0 ≤ nI q := nI_ge (by omega) (by omega)
    have h2 : ¬ (12 : Int32) ≤ nI (n + q) := nI_ge (b := 12) (by omega) (by decide)
    have dr : ∀ g, am_evm G d 144 [.ref m] (am_pa h (m + 1) g) = some (some (.int (mt_dr (g 4))), am_pa h (m + 1) (upd g 4 (mt_z (g 4)))) := by
      intro g
      have := m_drawn (d := d) (l2 g)
      simp only [am_pa_i, if_true, am_pa_pa] at this
      exact this
    have cm : ∀ g k b w, g 0 = nI (n + q) → am_evm G d 145 [.ref m, .int k, .int b, .int w] (am_pa h (m + 1) g) = some (none, am_pa h (m + 1) (mt_comes g (n + q) k b w)) := by
      intro g k b w hg
      have := m_comes (d := d) (l2 g) (n := n + q) (by simp only [am_pa_i, if_true]; exact hg) (by omega) (k := k) (b := b) (w := w)
      simp only [am_pa_i, if_true, am_pa_pa] at this
      exact this
    have hu : upd (upd (upd (upd σ 4 (mt_z (σ 4))) 4 (mt_z (mt_z (σ 4)))) 4 (mt_z (mt_z (mt_z (σ 4))))) 4 (mt_z (mt_z (mt_z (mt_z (σ 4))))) = upd σ 4 (mt_z (mt_z (mt_z (mt_z (σ 4))))) := by simp only [mt_upd_upd]
    rw [e_161_17]
    simp only [n_161, e_161_0, e_161_1, e_161_2, e_161_3, e_161_6, e_161_9, e_161_12, e_161_14, e_161_15, f_161_16, e_161_18, e_161_19, e_161_22, e_161_23, e_161_26, e_161_27, e_161_28, e_161_30, e_161_33, e_161_34, e_161_37, e_161_39, f_161_40, e_161_41, e_161_42, e_161_45, e_161_47, f_161_48, e_161_50, e_161_51, f_161_54, e_161_56, e_161_57, e_161_58, e_161_60, e_161_62, e_161_63, e_161_66, e_161_67, f_161_70, e_161_73, e_161_76, e_161_77, Option.bind_some, Option.toList_some, Option.toList_none, List.cons_append, List.nil_append, am_k1_i, am_k1_r, am_k1_u, am_k1_n, am_bo0, am_bo1, am_boi, am_ev_tb, am_tb_nil, am_rfs, am_rfn, eq_self, h1, if_false, cm_ob (l2 _), cm_r0 (l2 _), i0, show (0 : Int32).toNatClampNeg = 0 from rfl, am_pa_i, if_true, hσ0, h2, dr, pk_us, show ¬ (6 : Int32) = 0 from by decide, show ¬ (101 : Int32) = 0 from by decide, not_false_eq_true, nI_1]
    rw [hu, cm _ _ _ _ (by rw [pk_un (by decide)]; exact hσ0)]
    simp only [n_161, e_161_0, e_161_1, e_161_2, e_161_3, e_161_6, e_161_9, e_161_12, e_161_14, e_161_15, f_161_16, e_161_18, e_161_19, e_161_22, e_161_23, e_161_26, e_161_27, e_161_28, e_161_30, e_161_33, e_161_34, e_161_37, e_161_39, f_161_40, e_161_41, e_161_42, e_161_45, e_161_47, f_161_48, e_161_50, e_161_51, f_161_54, e_161_56, e_161_57, e_161_58, e_161_60, e_161_62, e_161_63, e_161_66, e_161_67, f_161_70, e_161_73, e_161_76, e_161_77, Option.bind_some, Option.toList_some, Option.toList_none, List.cons_append, List.nil_append, am_k1_i, am_k1_r, am_k1_u, am_k1_n, am_bo0, am_bo1, am_boi, am_ev_tb, am_tb_nil, am_rfs, am_rfn, eq_self, nI_1]
    have := ih (q + 1) (some (.int (mt_rem (mt_dr (σ 4)) 6))) (some (.int (mt_rem (mt_dr (mt_z (σ 4))) 101))) (some (.int (mt_dr (mt_z (mt_z (σ 4)))))) (by omega)
    rw [mt_dealN, hσ] at this
    exact this
theorem m_deal0 {v : Int32} (hv : ¬ (1 ≤ v ∧ v ≤ 12)) : am_evm G (d + 1) 161 [.ref m, .int v] h = some (some (.int (-1000000001)), h) := by
  simp only [n_161, e_161_0, e_161_1, e_161_2, e_161_3, e_161_6, e_161_9, e_161_12, e_161_14, e_161_15, f_161_16, e_161_18, e_161_19, e_161_22, e_161_23, e_161_26, e_161_27, e_161_28, e_161_30, e_161_33, e_161_34, e_161_37, e_161_39, f_161_40, e_161_41, e_161_42, e_161_45, e_161_47, f_161_48, e_161_50, e_161_51, f_161_54, e_161_56, e_161_57, e_161_58, e_161_60, e_161_62, e_161_63, e_161_66, e_161_67, f_161_70, e_161_73, e_161_76, e_161_77, Option.bind_some, Option.toList_some, Option.toList_none, List.cons_append, List.nil_append, am_k1_i, am_k1_r, am_k1_u, am_k1_n, am_bo0, am_bo1, am_boi, am_ev_tb, am_tb_nil, am_rfs, am_rfn, eq_self, m_i1_12, hv, if_false, if_true]
theorem m_deal (l : cm_Lay G h m) {n k0 : Nat} (hn : am_i h (m + 1) 0 = nI n) (hn12 : n ≤ 12) (hk1 : 1 ≤ k0) (hk0 : k0 ≤ 12) : am_evm G (d + 1) 161 [.ref m, .int (nI k0)] h = some (some (.int (nI (min k0 (12 - n)))), am_pa h (m + 1) (mt_dealN (am_i h (m + 1)) n (min k0 (12 - n)))) := by
  have hv : (1 : Int32) ≤ nI k0 ∧ nI k0 ≤ 12 := ⟨nI_le (a := 1) hk1 (by omega), nI_le (b := 12) hk0 (by decide)⟩
  simp only [n_161, e_161_0, e_161_1, e_161_2, e_161_3, e_161_6, e_161_9, e_161_12, e_161_14, e_161_15, f_161_16, e_161_18, e_161_19, e_161_22, e_161_23, e_161_26, e_161_27, e_161_28, e_161_30, e_161_33, e_161_34, e_161_37, e_161_39, f_161_40, e_161_41, e_161_42, e_161_45, e_161_47, f_161_48, e_161_50, e_161_51, f_161_54, e_161_56, e_161_57, e_161_58, e_161_60, e_161_62, e_161_63, e_161_66, e_161_67, f_161_70, e_161_73, e_161_76, e_161_77, Option.bind_some, Option.toList_some, Option.toList_none, List.cons_append, List.nil_append, am_k1_i, am_k1_r, am_k1_u, am_k1_n, am_bo0, am_bo1, am_boi, am_ev_tb, am_tb_nil, am_rfs, am_rfn, eq_self, m_i1_12, hv, and_self, if_true, show ¬ (1 : Int32) = 0 from by decide, if_false]
  have := m_deal_l (d := d) l hn hn12 hk0 rfl (min k0 (12 - n)) 0 none none none (by omega)
  rw [mt_dealN, am_pa_self] at this
  exact this
theorem m_fallsOn_l (l : cm_Lay G h m) {n p : Nat} (hn : am_i h (m + 1) 1 = nI n) (hn8 : n ≤ 8) (hp : p < 12) : ∀ j q, q + j = n → am_ev G (d + 2) 182 4 [some (.ref m), some (.int (nI p)), some (.int (mt_fallN (am_i h (m + 1)) p q)), some (.int (nI q))] [] h = some (some (.int (mt_fallN (am_i h (m + 1)) p n)), h) := by
  have i0 : am_ia G h (m + 1) 1 := cm_ia1 l (show 1 < 3114 by omega)
  intro j
  induction j with
  | zero =>
    intro q hq
    obtain rfl : q = n := by omega
    rw [e_182_4]
    simp only [n_182, e_182_0, f_182_1, e_182_2, f_182_3, e_182_5, e_182_6, e_182_9, e_182_10, e_182_11, e_182_14, e_182_15, e_182_16, e_182_17, e_182_20, e_182_21, e_182_22, e_182_23, e_182_24, e_182_25, e_182_28, e_182_31, e_182_32, e_182_33, e_182_36, e_182_39, e_182_40, e_182_44, f_182_45, f_182_46, e_182_49, e_182_43, e_182_52, e_182_53, Option.bind_some, Option.toList_some, Option.toList_none, List.cons_append, List.nil_append, am_k1_i, am_k1_r, am_k1_u, am_k1_n, am_bo0, am_bo1, am_boi, am_ev_tb, am_tb_nil, am_rfs, am_rfn, eq_self, cm_ob l, cm_r0 l, i0, show (1 : Int32).toNatClampNeg = 1 from rfl, hn, Int32.le_refl, if_true]
  | succ j ih =>
    intro q hq
    have hlt : ¬ nI n ≤ nI q := nI_ge (by omega) (by omega)
    have := ih (q + 1) (by omega)
    rw [mt_fallN] at this
    rw [e_182_4]
    by_cases hb : bt (mt_left (am_i h (m + 1)) q) p = true
    · have h0 : ¬ mt_ones (mt_left (am_i h (m + 1)) q) = 0 := by
        rw [mt_ones_c]
        exact nI_ne0 (mt_c_pos hb 12 hp) (by have := mt_c_le (mt_left (am_i h (m + 1)) q) 12; omega)
      rw [if_pos hb] at this
      simp only [n_182, e_182_0, f_182_1, e_182_2, f_182_3, e_182_5, e_182_6, e_182_9, e_182_10, e_182_11, e_182_14, e_182_15, e_182_16, e_182_17, e_182_20, e_182_21, e_182_22, e_182_23, e_182_24, e_182_25, e_182_28, e_182_31, e_182_32, e_182_33, e_182_36, e_182_39, e_182_40, e_182_44, f_182_45, f_182_46, e_182_49, e_182_43, e_182_52, e_182_53, Option.bind_some, Option.toList_some, Option.toList_none, List.cons_append, List.nil_append, am_k1_i, am_k1_r, am_k1_u, am_k1_n, am_bo0, am_bo1, am_boi, am_ev_tb, am_tb_nil, am_rfs, am_rfn, eq_self, cm_ob l, cm_r0 l, i0, show (1 : Int32).toNatClampNeg = 1 from rfl, hn, hlt, if_false, m_left2 l (show q < 8 by omega), mt_sshr _ (show p < 32 by omega), mt_b1, hb, if_true, m_ones, h0, not_false_eq_true, nI_1]
      exact this
    · rw [if_neg hb] at this
      simp only [n_182, e_182_0, f_182_1, e_182_2, f_182_3, e_182_5, e_182_6, e_182_9, e_182_10, e_182_11, e_182_14, e_182_15, e_182_16, e_182_17, e_182_20, e_182_21, e_182_22, e_182_23, e_182_24, e_182_25, e_182_28, e_182_31, e_182_32, e_182_33, e_182_36, e_182_39, e_182_40, e_182_44, f_182_45, f_182_46, e_182_49, e_182_43, e_182_52, e_182_53, Option.bind_some, Option.toList_some, Option.toList_none, List.cons_append, List.nil_append, am_k1_i, am_k1_r, am_k1_u, am_k1_n, am_bo0, am_bo1, am_boi, am_ev_tb, am_tb_nil, am_rfs, am_rfn, eq_self, cm_ob l, cm_r0 l, i0, show (1 : Int32).toNatClampNeg = 1 from rfl, hn, hlt, if_false, m_left2 l (show q < 8 by omega), mt_sshr _ (show p < 32 by omega), mt_b1, hb, nI_1]
      exact this
theorem m_fallsOn (l : cm_Lay G h m) {n p : Nat} (hn : am_i h (m + 1) 1 = nI n) (hn8 : n ≤ 8) (hp : p < 12) : am_evm G (d + 2) 182 [.ref m, .int (nI p)] h = some (some (.int (nI (mt_fall (am_i h (m + 1)) p n))), h) := by
  rw [← mt_fall_eq _ hp]
  simp only [n_182, e_182_0, f_182_1, e_182_2, f_182_3, e_182_5, e_182_6, e_182_9, e_182_10, e_182_11, e_182_14, e_182_15, e_182_16, e_182_17, e_182_20, e_182_21, e_182_22, e_182_23, e_182_24, e_182_25, e_182_28, e_182_31, e_182_32, e_182_33, e_182_36, e_182_39, e_182_40, e_182_44, f_182_45, f_182_46, e_182_49, e_182_43, e_182_52, e_182_53, Option.bind_some, Option.toList_some, Option.toList_none, List.cons_append, List.nil_append, am_k1_i, am_k1_r, am_k1_u, am_k1_n, am_bo0, am_bo1, am_boi, am_ev_tb, am_tb_nil, am_rfs, am_rfn, eq_self]
  exact m_fallsOn_l l hn hn8 hp n 0 (by omega)
theorem m_gcd {a0 a2 : Option Value} {p : Option Value} {z3 : Int32} : ∀ k x y x6, y ≤ k → x < 1000000 → y < 1000000 → am_ev G d 183 36 [a0, p, a2, some (.int z3), some (.int (nI x)), some (.int (nI y)), x6] [] h = am_ev G d 183 59 [a0, p, a2, some (.int z3), some (.int (nI (Nat.gcd x y))), some (.int (nI 0)), (if y = 0 then x6 else some (.int (nI 0)))] [] h := by
  intro k
  induction k with
  | zero =>
    intro x y x6 hy hx hy2
    obtain rfl : y = 0 := by omega
    rw [e_183_36]
    simp only [n_183, e_183_0, e_183_1, e_183_2, e_183_5, e_183_8, e_183_9, e_183_10, e_183_11, e_183_12, e_183_15, e_183_18, e_183_21, e_183_22, e_183_23, e_183_24, f_183_27, e_183_28, f_183_29, e_183_31, f_183_34, e_183_38, e_183_41, e_183_43, e_183_45, f_183_46, e_183_48, f_183_50, e_183_52, f_183_54, e_183_56, e_183_60, e_183_63, e_183_64, e_183_70, e_183_72, e_183_73, e_183_74, e_183_67, Option.bind_some, Option.toList_some, Option.toList_none, List.cons_append, List.nil_append, am_k1_i, am_k1_r, am_k1_u, am_k1_n, am_bo0, am_bo1, am_boi, am_ev_tb, am_tb_nil, am_rfs, am_rfn, eq_self, show nI 0 ≤ 0 from by decide, if_true, Nat.gcd_zero_right]
  | succ k ih =>
    intro x y x6 hy hx hy2
    by_cases h0 : y = 0
    · subst h0
      rw [e_183_36]
      simp only [n_183, e_183_0, e_183_1, e_183_2, e_183_5, e_183_8, e_183_9, e_183_10, e_183_11, e_183_12, e_183_15, e_183_18, e_183_21, e_183_22, e_183_23, e_183_24, f_183_27, e_183_28, f_183_29, e_183_31, f_183_34, e_183_38, e_183_41, e_183_43, e_183_45, f_183_46, e_183_48, f_183_50, e_183_52, f_183_54, e_183_56, e_183_60, e_183_63, e_183_64, e_183_70, e_183_72, e_183_73, e_183_74, e_183_67, Option.bind_some, Option.toList_some, Option.toList_none, List.cons_append, List.nil_append, am_k1_i, am_k1_r, am_k1_u, am_k1_n, am_bo0, am_bo1, am_boi, am_ev_tb, am_tb_nil, am_rfs, am_rfn, eq_self, show nI 0 ≤ 0 from by decide, if_true, Nat.gcd_zero_right]
    · have h1 : ¬ nI y ≤ 0 := nI_nle (by omega) (by omega)
      have h2 : ¬ nI y = 0 := nI_ne0 (by omega) (by omega)
      have hm : x % y < y := Nat.mod_lt _ (by omega)
      rw [e_183_36]
      simp only [n_183, e_183_0, e_183_1, e_183_2, e_183_5, e_183_8, e_183_9, e_183_10, e_183_11, e_183_12, e_183_15, e_183_18, e_183_21, e_183_22, e_183_23, e_183_24, f_183_27, e_183_28, f_183_29, e_183_31, f_183_34, e_183_38, e_183_41, e_183_43, e_183_45, f_183_46, e_183_48, f_183_50, e_183_52, f_183_54, e_183_56, e_183_60, e_183_63, e_183_64, e_183_70, e_183_72, e_183_73, e_183_74, e_183_67, Option.bind_some, Option.toList_some, Option.toList_none, List.cons_append, List.nil_append, am_k1_i, am_k1_r, am_k1_u, am_k1_n, am_bo0, am_bo1, am_boi, am_ev_tb, am_tb_nil, am_rfs, am_rfn, eq_self, h1, h2, not_false_eq_true, if_false, pk_rem (show x < 2147483648 by omega) (show 0 < y by omega) (show y < 2147483648 by omega)]
      rw [ih y (x % y) _ (by omega) (by omega) (by omega), Nat.gcd_comm x y, Nat.gcd_rec y x, Nat.gcd_comm (x % y) y]
      by_cases hz : x % y = 0
      · rw [if_pos hz, if_neg h0, hz]
      · rw [if_neg hz, if_neg h0]
theorem m_falls0 (l : cm_Lay G h m) {v w : Int32} (hv : ¬ ((0 ≤ v ∧ v ≤ am_i h (m + 1) 0 - 1) ∧ 0 ≤ w ∧ w ≤ 1)) : am_evm G (d + 3) 183 [.ref m, .int v, .int w] h = some (some (.long (-1000000001)), h) := by
  by_cases h1 : 0 ≤ v ∧ v ≤ am_i h (m + 1) 0 - 1
  · have h2 : ¬ (0 ≤ w ∧ w ≤ 1) := fun z => hv ⟨h1, z⟩
    simp [n_183, e_183_0, e_183_1, e_183_2, e_183_5, e_183_8, e_183_9, e_183_10, e_183_11, e_183_12, e_183_15, e_183_18, e_183_21, e_183_22, e_183_23, e_183_24, f_183_27, e_183_28, f_183_29, e_183_31, f_183_34, e_183_38, e_183_41, e_183_43, e_183_45, f_183_46, e_183_48, f_183_50, e_183_52, f_183_54, e_183_56, e_183_60, e_183_63, e_183_64, e_183_70, e_183_72, e_183_73, e_183_74, e_183_67, Option.bind_some, Option.toList_some, Option.toList_none, List.cons_append, List.nil_append, am_k1_i, am_k1_r, am_k1_u, am_k1_n, am_bo0, am_bo1, am_boi, am_ev_tb, am_tb_nil, am_rfs, am_rfn, eq_self, cm_ob l, m_isPerson l, h1, h2, m_i0_1]
  · simp [n_183, e_183_0, e_183_1, e_183_2, e_183_5, e_183_8, e_183_9, e_183_10, e_183_11, e_183_12, e_183_15, e_183_18, e_183_21, e_183_22, e_183_23, e_183_24, f_183_27, e_183_28, f_183_29, e_183_31, f_183_34, e_183_38, e_183_41, e_183_43, e_183_45, f_183_46, e_183_48, f_183_50, e_183_52, f_183_54, e_183_56, e_183_60, e_183_63, e_183_64, e_183_70, e_183_72, e_183_73, e_183_74, e_183_67, Option.bind_some, Option.toList_some, Option.toList_none, List.cons_append, List.nil_append, am_k1_i, am_k1_r, am_k1_u, am_k1_n, am_bo0, am_bo1, am_boi, am_ev_tb, am_tb_nil, am_rfs, am_rfn, eq_self, cm_ob l, m_isPerson l, h1]
def mt_falls (A : Nat) (w : Int32) : Int32 := if w = 0 then nI (A / Nat.gcd A 27720) else nI (27720 / Nat.gcd A 27720)
theorem m_falls (l : cm_Lay G h m) {n nd p : Nat} (hs : mt_ok (am_i h (m + 1)) n nd) (hp : p < n) {w : Int32} (hw : 0 ≤ w ∧ w ≤ 1) : am_evm G (d + 3) 183 [.ref m, .int (nI p), .int w] h = some (some (.long (mt_falls (mt_fall (am_i h (m + 1)) p nd) w).toInt64), h) := by
  have hv := mt_in hs.1.2 hp
  rw [← hs.1.1] at hv
  have hn := hs.1.2
  have hnd := hs.2.1.2
  have hA := mt_fall_le (am_i h (m + 1)) p nd
  generalize hAe : mt_fall (am_i h (m + 1)) p nd = A at hA
  have hA2 : A < 1000000 := by omega
  have hg : 0 < Nat.gcd A 27720 := Nat.gcd_pos_of_pos_right _ (by decide)
  have hg2 : Nat.gcd A 27720 ≤ 27720 := Nat.gcd_le_right _ (by decide)
  have hf := m_fallsOn (d := d) l hs.2.1.1 hnd (show p < 12 by omega)
  rw [hAe] at hf
  have hne : ¬ nI (Nat.gcd A 27720) = 0 := nI_ne0 hg (by omega)
  simp only [n_183, e_183_0, e_183_1, e_183_2, e_183_5, e_183_8, e_183_9, e_183_10, e_183_11, e_183_12, e_183_15, e_183_18, e_183_21, e_183_22, e_183_23, e_183_24, f_183_27, e_183_28, f_183_29, e_183_31, f_183_34, e_183_38, e_183_41, e_183_43, e_183_45, f_183_46, e_183_48, f_183_50, e_183_52, f_183_54, e_183_56, e_183_60, e_183_63, e_183_64, e_183_70, e_183_72, e_183_73, e_183_74, e_183_67, Option.bind_some, Option.toList_some, Option.toList_none, List.cons_append, List.nil_append, am_k1_i, am_k1_r, am_k1_u, am_k1_n, am_bo0, am_bo1, am_boi, am_ev_tb, am_tb_nil, am_rfs, am_rfn, eq_self, cm_ob l, m_isPerson l, hv, hw, m_i0_1, and_self, if_true, show ¬ (1 : Int32) = 0 from by decide, if_false, hf]
  rw [show (27720 : Int32) = nI 27720 from rfl, m_gcd 27720 A 27720 none (Nat.le_refl _) hA2 (by decide), if_neg (by decide), e_183_59]
  simp only [n_183, e_183_0, e_183_1, e_183_2, e_183_5, e_183_8, e_183_9, e_183_10, e_183_11, e_183_12, e_183_15, e_183_18, e_183_21, e_183_22, e_183_23, e_183_24, f_183_27, e_183_28, f_183_29, e_183_31, f_183_34, e_183_38, e_183_41, e_183_43, e_183_45, f_183_46, e_183_48, f_183_50, e_183_52, f_183_54, e_183_56, e_183_60, e_183_63, e_183_64, e_183_70, e_183_72, e_183_73, e_183_74, e_183_67, Option.bind_some, Option.toList_some, Option.toList_none, List.cons_append, List.nil_append, am_k1_i, am_k1_r, am_k1_u, am_k1_n, am_bo0, am_bo1, am_boi, am_ev_tb, am_tb_nil, am_rfs, am_rfn, eq_self, hne, not_false_eq_true]
  unfold mt_falls
  by_cases hw0 : w = 0
  · subst hw0
    simp only [if_true]
    rw [pk_div (by omega) hg (by omega)]
  · simp only [hw0, if_false]
    rw [show (27720 : Int32) = nI 27720 from rfl, pk_div (by decide) hg (by omega)]
/-- MOST among the first n, as a number; -1 for nobody -/
def mt_most (σ : Nat → Int32) (nd : Nat) : Nat → Int32
  | 0 => -1
  | q + 1 => if mt_most σ nd q < 0 then nI q else if nI (mt_fall σ q nd) ≤ nI (mt_fall σ (mt_most σ nd q).toNatClampNeg nd) then mt_most σ nd q else nI q
theorem mt_most_in (σ : Nat → Int32) (nd : Nat) : ∀ q, q ≤ 12 → mt_most σ nd q = -1 ∨ ∃ k, k < q ∧ mt_most σ nd q = nI k := by
  intro q
  induction q with
  | zero => intro _; exact Or.inl rfl
  | succ q ih =>
    intro hq
    rw [mt_most]
    split
    · exact Or.inr ⟨q, by omega, rfl⟩
    · next h0 =>
      rcases ih (by omega) with h | ⟨k, hk, h⟩
      · rw [h] at h0; exact absurd (by decide) h0
      · split
        · exact Or.inr ⟨k, by omega, h⟩
        · exact Or.inr ⟨q, by omega, rfl⟩
theorem m_most_l (l : cm_Lay G h m) {n nd : Nat} (hs : mt_ok (am_i h (m + 1)) n nd) : ∀ j q, q + j = n → am_ev G (d + 3) 184 4 [some (.ref m), some (.int (mt_most (am_i h (m + 1)) nd q)), some (.int (nI q))] [] h = some (some (.int (if 0 ≤ mt_most (am_i h (m + 1)) nd n then mt_most (am_i h (m + 1)) nd n else -1000000005)), h) := by
  have i0 : am_ia G h (m + 1) 0 := cm_ia1 l (show 0 < 3114 by omega)
  have hn := hs.1.1
  have hn12 := hs.1.2
  intro j
  induction j with
  | zero =>
    intro q hq
    obtain rfl : q = n := by omega
    rw [e_184_4]
    simp only [n_184, e_184_0, f_184_1, e_184_2, f_184_3, e_184_5, e_184_6, e_184_9, e_184_10, e_184_11, e_184_14, e_184_15, e_184_18, e_184_19, e_184_20, e_184_23, e_184_24, e_184_25, e_184_28, e_184_31, e_184_32, f_184_36, f_184_37, e_184_40, e_184_35, e_184_43, e_184_44, e_184_47, Option.bind_some, Option.toList_some, Option.toList_none, List.cons_append, List.nil_append, am_k1_i, am_k1_r, am_k1_u, am_k1_n, am_bo0, am_bo1, am_boi, am_ev_tb, am_tb_nil, am_rfs, am_rfn, eq_self, cm_ob l, cm_r0 l, i0, show (0 : Int32).toNatClampNeg = 0 from rfl, hn, Int32.le_refl, if_true, m_orNone]
  | succ j ih =>
    intro q hq
    have hlt : ¬ nI n ≤ nI q := nI_ge (by omega) (by omega)
    have := ih (q + 1) (by omega)
    have hfq := m_fallsOn (d := d) l hs.2.1.1 hs.2.1.2 (show q < 12 by omega)
    rw [mt_most] at this
    rw [e_184_4]
    rcases mt_most_in (am_i h (m + 1)) nd q (by omega) with hm | ⟨k, hk, hm⟩
    · have h0 : mt_most (am_i h (m + 1)) nd q < 0 := by rw [hm]; decide
      rw [if_pos h0] at this
      simp only [n_184, e_184_0, f_184_1, e_184_2, f_184_3, e_184_5, e_184_6, e_184_9, e_184_10, e_184_11, e_184_14, e_184_15, e_184_18, e_184_19, e_184_20, e_184_23, e_184_24, e_184_25, e_184_28, e_184_31, e_184_32, f_184_36, f_184_37, e_184_40, e_184_35, e_184_43, e_184_44, e_184_47, Option.bind_some, Option.toList_some, Option.toList_none, List.cons_append, List.nil_append, am_k1_i, am_k1_r, am_k1_u, am_k1_n, am_bo0, am_bo1, am_boi, am_ev_tb, am_tb_nil, am_rfs, am_rfn, eq_self, cm_ob l, cm_r0 l, i0, show (0 : Int32).toNatClampNeg = 0 from rfl, hn, hlt, if_false, h0, if_true, nI_1]
      exact this
    · have h0 : ¬ mt_most (am_i h (m + 1)) nd q < 0 := by rw [hm]; exact nI_pos (by omega)
      have h9 : ¬ nI k < 0 := nI_pos (by omega)
      have hfk := m_fallsOn (d := d) l hs.2.1.1 hs.2.1.2 (show k < 12 by omega)
      rw [if_neg h0, hm, am_cl (show k < 2147483648 by omega)] at this
      simp only [n_184, e_184_0, f_184_1, e_184_2, f_184_3, e_184_5, e_184_6, e_184_9, e_184_10, e_184_11, e_184_14, e_184_15, e_184_18, e_184_19, e_184_20, e_184_23, e_184_24, e_184_25, e_184_28, e_184_31, e_184_32, f_184_36, f_184_37, e_184_40, e_184_35, e_184_43, e_184_44, e_184_47, Option.bind_some, Option.toList_some, Option.toList_none, List.cons_append, List.nil_append, am_k1_i, am_k1_r, am_k1_u, am_k1_n, am_bo0, am_bo1, am_boi, am_ev_tb, am_tb_nil, am_rfs, am_rfn, eq_self, cm_ob l, cm_r0 l, i0, show (0 : Int32).toNatClampNeg = 0 from rfl, hn, hlt, if_false, h0, h9, hm, hfq, hfk, nI_1]
      split
      · next hz => rw [if_pos hz] at this; exact this
      · next hz => rw [if_neg hz] at this; exact this
theorem m_most (l : cm_Lay G h m) {n nd : Nat} (hs : mt_ok (am_i h (m + 1)) n nd) : am_evm G (d + 3) 184 [.ref m] h = some (some (.int (if 0 ≤ mt_most (am_i h (m + 1)) nd n then mt_most (am_i h (m + 1)) nd n else -1000000005)), h) := by
  simp only [n_184, e_184_0, f_184_1, e_184_2, f_184_3, e_184_5, e_184_6, e_184_9, e_184_10, e_184_11, e_184_14, e_184_15, e_184_18, e_184_19, e_184_20, e_184_23, e_184_24, e_184_25, e_184_28, e_184_31, e_184_32, f_184_36, f_184_37, e_184_40, e_184_35, e_184_43, e_184_44, e_184_47, Option.bind_some, Option.toList_some, Option.toList_none, List.cons_append, List.nil_append, am_k1_i, am_k1_r, am_k1_u, am_k1_n, am_bo0, am_bo1, am_boi, am_ev_tb, am_tb_nil, am_rfs, am_rfn, eq_self]
  exact m_most_l l hs n 0 (by omega)
end CM6
