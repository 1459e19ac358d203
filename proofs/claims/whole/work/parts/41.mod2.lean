/-! the reference: who follows, and what is read of people and deeds -/
section CM2
variable {G : Nat → Nat} {d : Nat} {h : am_H} {m : Nat}
theorem m_fol_i (l : cm_Lay G h m) {n p : Nat} (hn : am_i h (m + 1) 0 = nI n) (hn12 : n ≤ 12) {S : Int32} : ∀ j q, q + j = n → am_ev G (d + 1) 147 19 [some (.ref m), some (.int (nI p)), some (.int (mt_stp (mt_T (am_i h (m + 1))) S q S)), some (.int S), some (.int (nI q))] [] h = am_ev G (d + 1) 147 9 [some (.ref m), some (.int (nI p)), some (.int (mt_stp (mt_T (am_i h (m + 1))) S n S)), some (.int S), some (.int (nI n))] [] h := by
  have i0 : am_ia G h (m + 1) 0 := cm_ia1 l (show 0 < 3114 by omega)
  intro j
  induction j with
  | zero =>
    intro q hq
    obtain rfl : q = n := by omega
    rw [e_147_19]
    simp only [n_147, e_147_0, e_147_1, e_147_2, e_147_3, f_147_6, e_147_7, f_147_8, e_147_10, e_147_11, e_147_14, f_147_15, e_147_16, f_147_17, e_147_21, e_147_22, e_147_25, e_147_26, e_147_27, e_147_30, e_147_31, e_147_32, e_147_34, e_147_35, e_147_36, e_147_37, e_147_38, e_147_41, e_147_42, e_147_44, e_147_45, e_147_48, e_147_52, f_147_53, f_147_54, e_147_57, e_147_51, e_147_60, e_147_63, e_147_64, Option.bind_some, Option.toList_some, Option.toList_none, List.cons_append, List.nil_append, am_k1_i, am_k1_r, am_k1_u, am_k1_n, am_bo0, am_bo1, am_boi, am_ev_tb, am_tb_nil, am_rfs, am_rfn, eq_self, cm_ob l, cm_r0 l, i0, show (0 : Int32).toNatClampNeg = 0 from rfl, hn, Int32.le_refl, if_true]
  | succ j ih =>
    intro q hq
    have hlt : ¬ nI n ≤ nI q := nI_ge (by omega) (by omega)
    rw [e_147_19]
    simp only [n_147, e_147_0, e_147_1, e_147_2, e_147_3, f_147_6, e_147_7, f_147_8, e_147_10, e_147_11, e_147_14, f_147_15, e_147_16, f_147_17, e_147_21, e_147_22, e_147_25, e_147_26, e_147_27, e_147_30, e_147_31, e_147_32, e_147_34, e_147_35, e_147_36, e_147_37, e_147_38, e_147_41, e_147_42, e_147_44, e_147_45, e_147_48, e_147_52, f_147_53, f_147_54, e_147_57, e_147_51, e_147_60, e_147_63, e_147_64, Option.bind_some, Option.toList_some, Option.toList_none, List.cons_append, List.nil_append, am_k1_i, am_k1_r, am_k1_u, am_k1_n, am_bo0, am_bo1, am_boi, am_ev_tb, am_tb_nil, am_rfs, am_rfn, eq_self, cm_ob l, cm_r0 l, i0, show (0 : Int32).toNatClampNeg = 0 from rfl, hn, hlt, if_false, mt_sshr S (show q < 32 by omega), show (4 : Int32) = nI 4 from rfl, m_of l (show 6 + 5 * q + 4 < 3114 by omega), nI_1, mt_b1]
    have := ih (q + 1) (by omega)
    rw [mt_stp] at this
    by_cases hb : bt S q = true
    · rw [if_pos hb] at this ⊢
      exact this
    · rw [if_neg hb] at this ⊢
      exact this
theorem m_fol_o (l : cm_Lay G h m) {n p : Nat} (hn : am_i h (m + 1) 0 = nI n) (hn12 : n ≤ 12) (hp : p < n) : ∀ k S w x4, mt_mu S ≤ k → (∀ i, i < 32 → bt (am_i h (m + 1) (6 + 5 * p + 4)) i = true → bt S i = true) → (∀ i, i < 32 → bt S i = true → mt_reach (mt_T (am_i h (m + 1))) n p i) → (S = w → mt_stp (mt_T (am_i h (m + 1))) S n S = S) → am_ev G (d + 1) 147 9 [some (.ref m), some (.int (nI p)), some (.int S), some (.int w), x4] [] h = some (some (.int (mt_fol (mt_T (am_i h (m + 1))) n p)), h) := by
  intro k
  induction k with
  | zero =>
    intro S w x4 hk h1 h2 h3
    have key := m_fol_i (d := d) (p := p) l hn hn12 (S := S) n 0 (by omega)
    by_cases hw : S = w
    · rw [e_147_9]
      simp only [n_147, e_147_0, e_147_1, e_147_2, e_147_3, f_147_6, e_147_7, f_147_8, e_147_10, e_147_11, e_147_14, f_147_15, e_147_16, f_147_17, e_147_21, e_147_22, e_147_25, e_147_26, e_147_27, e_147_30, e_147_31, e_147_32, e_147_34, e_147_35, e_147_36, e_147_37, e_147_38, e_147_41, e_147_42, e_147_44, e_147_45, e_147_48, e_147_52, f_147_53, f_147_54, e_147_57, e_147_51, e_147_60, e_147_63, e_147_64, Option.bind_some, Option.toList_some, Option.toList_none, List.cons_append, List.nil_append, am_k1_i, am_k1_r, am_k1_u, am_k1_n, am_bo0, am_bo1, am_boi, am_ev_tb, am_tb_nil, am_rfs, am_rfn, eq_self, hw, if_true]
      rw [← mt_fol_of (T := mt_T (am_i h (m + 1))) (p := p) (show n ≤ 32 by omega) h1 h2 (h3 hw), hw]
    · rw [e_147_9]
      simp only [n_147, e_147_0, e_147_1, e_147_2, e_147_3, f_147_6, e_147_7, f_147_8, e_147_10, e_147_11, e_147_14, f_147_15, e_147_16, f_147_17, e_147_21, e_147_22, e_147_25, e_147_26, e_147_27, e_147_30, e_147_31, e_147_32, e_147_34, e_147_35, e_147_36, e_147_37, e_147_38, e_147_41, e_147_42, e_147_44, e_147_45, e_147_48, e_147_52, f_147_53, f_147_54, e_147_57, e_147_51, e_147_60, e_147_63, e_147_64, Option.bind_some, Option.toList_some, Option.toList_none, List.cons_append, List.nil_append, am_k1_i, am_k1_r, am_k1_u, am_k1_n, am_bo0, am_bo1, am_boi, am_ev_tb, am_tb_nil, am_rfs, am_rfn, eq_self, hw, if_false]
      rw [show ((0 : Int32)) = nI 0 from rfl]
      rw [mt_stp] at key
      rw [key]
      have hst : mt_stp (mt_T (am_i h (m + 1))) S n S = S := by
        apply Classical.byContradiction
        intro hne
        have := mt_mu_lt (x := S) (fun i hi hb => (mt_stp_bt n S i).mpr (Or.inl hb)) (fun z => hne z.symm)
        omega
      rw [hst, e_147_9]
      simp only [n_147, e_147_0, e_147_1, e_147_2, e_147_3, f_147_6, e_147_7, f_147_8, e_147_10, e_147_11, e_147_14, f_147_15, e_147_16, f_147_17, e_147_21, e_147_22, e_147_25, e_147_26, e_147_27, e_147_30, e_147_31, e_147_32, e_147_34, e_147_35, e_147_36, e_147_37, e_147_38, e_147_41, e_147_42, e_147_44, e_147_45, e_147_48, e_147_52, f_147_53, f_147_54, e_147_57, e_147_51, e_147_60, e_147_63, e_147_64, Option.bind_some, Option.toList_some, Option.toList_none, List.cons_append, List.nil_append, am_k1_i, am_k1_r, am_k1_u, am_k1_n, am_bo0, am_bo1, am_boi, am_ev_tb, am_tb_nil, am_rfs, am_rfn, eq_self, if_true]
      rw [← mt_fol_of (T := mt_T (am_i h (m + 1))) (p := p) (show n ≤ 32 by omega) h1 h2 hst]
  | succ k ih =>
    intro S w x4 hk h1 h2 h3
    have key := m_fol_i (d := d) (p := p) l hn hn12 (S := S) n 0 (by omega)
    by_cases hw : S = w
    · rw [e_147_9]
      simp only [n_147, e_147_0, e_147_1, e_147_2, e_147_3, f_147_6, e_147_7, f_147_8, e_147_10, e_147_11, e_147_14, f_147_15, e_147_16, f_147_17, e_147_21, e_147_22, e_147_25, e_147_26, e_147_27, e_147_30, e_147_31, e_147_32, e_147_34, e_147_35, e_147_36, e_147_37, e_147_38, e_147_41, e_147_42, e_147_44, e_147_45, e_147_48, e_147_52, f_147_53, f_147_54, e_147_57, e_147_51, e_147_60, e_147_63, e_147_64, Option.bind_some, Option.toList_some, Option.toList_none, List.cons_append, List.nil_append, am_k1_i, am_k1_r, am_k1_u, am_k1_n, am_bo0, am_bo1, am_boi, am_ev_tb, am_tb_nil, am_rfs, am_rfn, eq_self, hw, if_true]
      rw [← mt_fol_of (T := mt_T (am_i h (m + 1))) (p := p) (show n ≤ 32 by omega) h1 h2 (h3 hw), hw]
    · rw [e_147_9]
      simp only [n_147, e_147_0, e_147_1, e_147_2, e_147_3, f_147_6, e_147_7, f_147_8, e_147_10, e_147_11, e_147_14, f_147_15, e_147_16, f_147_17, e_147_21, e_147_22, e_147_25, e_147_26, e_147_27, e_147_30, e_147_31, e_147_32, e_147_34, e_147_35, e_147_36, e_147_37, e_147_38, e_147_41, e_147_42, e_147_44, e_147_45, e_147_48, e_147_52, f_147_53, f_147_54, e_147_57, e_147_51, e_147_60, e_147_63, e_147_64, Option.bind_some, Option.toList_some, Option.toList_none, List.cons_append, List.nil_append, am_k1_i, am_k1_r, am_k1_u, am_k1_n, am_bo0, am_bo1, am_boi, am_ev_tb, am_tb_nil, am_rfs, am_rfn, eq_self, hw, if_false]
      rw [show ((0 : Int32)) = nI 0 from rfl]
      rw [mt_stp] at key
      rw [key]
      by_cases hst : mt_stp (mt_T (am_i h (m + 1))) S n S = S
      · rw [hst, e_147_9]
        simp only [n_147, e_147_0, e_147_1, e_147_2, e_147_3, f_147_6, e_147_7, f_147_8, e_147_10, e_147_11, e_147_14, f_147_15, e_147_16, f_147_17, e_147_21, e_147_22, e_147_25, e_147_26, e_147_27, e_147_30, e_147_31, e_147_32, e_147_34, e_147_35, e_147_36, e_147_37, e_147_38, e_147_41, e_147_42, e_147_44, e_147_45, e_147_48, e_147_52, f_147_53, f_147_54, e_147_57, e_147_51, e_147_60, e_147_63, e_147_64, Option.bind_some, Option.toList_some, Option.toList_none, List.cons_append, List.nil_append, am_k1_i, am_k1_r, am_k1_u, am_k1_n, am_bo0, am_bo1, am_boi, am_ev_tb, am_tb_nil, am_rfs, am_rfn, eq_self, if_true]
        rw [← mt_fol_of (T := mt_T (am_i h (m + 1))) (p := p) (show n ≤ 32 by omega) h1 h2 hst]
      · have hlt := mt_mu_lt (x := S) (y := mt_stp (mt_T (am_i h (m + 1))) S n S) (fun i hi hb => (mt_stp_bt n S i).mpr (Or.inl hb)) (fun z => hst z.symm)
        refine ih _ _ _ (by omega) (fun i hi hb => (mt_stp_bt n S i).mpr (Or.inl (h1 i hi hb))) (fun i hi hb => ?_) (fun z => absurd z hst)
        rcases (mt_stp_bt n S i).mp hb with hb | ⟨q, hq, hb1, hb2⟩
        · exact h2 i hi hb
        · obtain ⟨j, hj⟩ := h2 q (by omega) hb1
          exact ⟨j + 1, q, hq, hj, hb2⟩
theorem m_followers (l : cm_Lay G h m) {n p : Nat} (hn : am_i h (m + 1) 0 = nI n) (hn12 : n ≤ 12) (hp : p < n) (hT : am_i h (m + 1) (6 + 5 * p + 4) ≠ -1) : am_evm G (d + 1) 147 [.ref m, .int (nI p)] h = some (some (.int (mt_fol (mt_T (am_i h (m + 1))) n p)), h) := by
  simp only [n_147, e_147_0, e_147_1, e_147_2, e_147_3, f_147_6, e_147_7, f_147_8, e_147_10, e_147_11, e_147_14, f_147_15, e_147_16, f_147_17, e_147_21, e_147_22, e_147_25, e_147_26, e_147_27, e_147_30, e_147_31, e_147_32, e_147_34, e_147_35, e_147_36, e_147_37, e_147_38, e_147_41, e_147_42, e_147_44, e_147_45, e_147_48, e_147_52, f_147_53, f_147_54, e_147_57, e_147_51, e_147_60, e_147_63, e_147_64, Option.bind_some, Option.toList_some, Option.toList_none, List.cons_append, List.nil_append, am_k1_i, am_k1_r, am_k1_u, am_k1_n, am_bo0, am_bo1, am_boi, am_ev_tb, am_tb_nil, am_rfs, am_rfn, eq_self, cm_ob l, show (4 : Int32) = nI 4 from rfl, m_of l (show 6 + 5 * p + 4 < 3114 by omega)]
  exact m_fol_o l hn hn12 hp _ _ _ _ (Nat.le_refl _) (fun i hi hb => hb) (fun i hi hb => ⟨0, hb⟩) (fun z => absurd z hT)
theorem m_goBy (l : cm_Lay G h m) {n p : Nat} (hn : am_i h (m + 1) 0 = nI n) (hn12 : n ≤ 12) (hp : p < n) (hT : am_i h (m + 1) (6 + 5 * p + 4) ≠ -1) : am_evm G (d + 2) 148 [.ref m, .int (nI p)] h = some (some (.int (mt_fol (mt_T (am_i h (m + 1))) n p ||| (1 : Int32) <<< (nI p &&& 31))), h) := by
  simp only [n_148, e_148_0, e_148_1, e_148_2, e_148_5, e_148_6, e_148_7, e_148_8, e_148_9, Option.bind_some, Option.toList_some, Option.toList_none, List.cons_append, List.nil_append, am_k1_i, am_k1_r, am_k1_u, am_k1_n, am_bo0, am_bo1, am_boi, am_ev_tb, am_tb_nil, am_rfs, am_rfn, eq_self, cm_ob l, m_followers l hn hn12 hp hT]
/-- on how many of the first n deeds a bit is gone -/
def mt_gone (σ : Nat → Int32) (p : Nat) : Nat → Int32
  | 0 => 0
  | n + 1 => mt_gone σ p n + mt_b (σ (66 + 6 * n + 3)) p
theorem m_goneOn_l (l : cm_Lay G h m) {n p : Nat} (hn : am_i h (m + 1) 1 = nI n) (hn8 : n ≤ 8) (hp : p < 12) : ∀ j q, q + j = n → am_ev G (d + 1) 150 4 [some (.ref m), some (.int (nI p)), some (.int (mt_gone (am_i h (m + 1)) p q)), some (.int (nI q))] [] h = some (some (.int (mt_gone (am_i h (m + 1)) p n)), h) := by
  have i0 : am_ia G h (m + 1) 1 := cm_ia1 l (show 1 < 3114 by omega)
  intro j
  induction j with
  | zero =>
    intro q hq
    obtain rfl : q = n := by omega
    rw [e_150_4]
    simp only [n_150, e_150_0, f_150_1, e_150_2, f_150_3, e_150_5, e_150_6, e_150_9, e_150_10, e_150_11, e_150_14, e_150_15, e_150_16, e_150_17, e_150_18, e_150_21, e_150_22, e_150_23, e_150_24, e_150_25, f_150_26, f_150_27, e_150_30, e_150_33, e_150_34, Option.bind_some, Option.toList_some, Option.toList_none, List.cons_append, List.nil_append, am_k1_i, am_k1_r, am_k1_u, am_k1_n, am_bo0, am_bo1, am_boi, am_ev_tb, am_tb_nil, am_rfs, am_rfn, eq_self, cm_ob l, cm_r0 l, i0, show (1 : Int32).toNatClampNeg = 1 from rfl, hn, Int32.le_refl, if_true]
  | succ j ih =>
    intro q hq
    have hlt : ¬ nI n ≤ nI q := nI_ge (by omega) (by omega)
    rw [e_150_4]
    simp only [n_150, e_150_0, f_150_1, e_150_2, f_150_3, e_150_5, e_150_6, e_150_9, e_150_10, e_150_11, e_150_14, e_150_15, e_150_16, e_150_17, e_150_18, e_150_21, e_150_22, e_150_23, e_150_24, e_150_25, f_150_26, f_150_27, e_150_30, e_150_33, e_150_34, Option.bind_some, Option.toList_some, Option.toList_none, List.cons_append, List.nil_append, am_k1_i, am_k1_r, am_k1_u, am_k1_n, am_bo0, am_bo1, am_boi, am_ev_tb, am_tb_nil, am_rfs, am_rfn, eq_self, cm_ob l, cm_r0 l, i0, show (1 : Int32).toNatClampNeg = 1 from rfl, hn, hlt, if_false, show (3 : Int32) = nI 3 from rfl, m_dee l (show 66 + 6 * q + 3 < 3114 by omega), mt_sshr _ (show p < 32 by omega), nI_1]
    exact ih (q + 1) (by omega)
theorem m_goneOn (l : cm_Lay G h m) {n p : Nat} (hn : am_i h (m + 1) 1 = nI n) (hn8 : n ≤ 8) (hp : p < 12) : am_evm G (d + 1) 150 [.ref m, .int (nI p)] h = some (some (.int (mt_gone (am_i h (m + 1)) p n)), h) := by
  simp only [n_150, e_150_0, f_150_1, e_150_2, f_150_3, e_150_5, e_150_6, e_150_9, e_150_10, e_150_11, e_150_14, e_150_15, e_150_16, e_150_17, e_150_18, e_150_21, e_150_22, e_150_23, e_150_24, e_150_25, f_150_26, f_150_27, e_150_30, e_150_33, e_150_34, Option.bind_some, Option.toList_some, Option.toList_none, List.cons_append, List.nil_append, am_k1_i, am_k1_r, am_k1_u, am_k1_n, am_bo0, am_bo1, am_boi, am_ev_tb, am_tb_nil, am_rfs, am_rfn, eq_self]
  exact m_goneOn_l l hn hn8 hp n 0 (by omega)
end CM2
