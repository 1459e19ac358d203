/-! words and signs of the tape, as such; the class splits the tape -/
theorem ne_0_1 : ¬ (0 : Int32) = 1 := by decide
theorem ne_0_2 : ¬ (0 : Int32) = 2 := by decide
theorem ne_0_3 : ¬ (0 : Int32) = 3 := by decide
theorem ne_0_4 : ¬ (0 : Int32) = 4 := by decide
theorem ne_0_5 : ¬ (0 : Int32) = 5 := by decide
theorem ne_1_0 : ¬ (1 : Int32) = 0 := by decide
theorem ne_1_2 : ¬ (1 : Int32) = 2 := by decide
theorem ne_1_3 : ¬ (1 : Int32) = 3 := by decide
theorem ne_1_4 : ¬ (1 : Int32) = 4 := by decide
theorem ne_1_5 : ¬ (1 : Int32) = 5 := by decide
theorem ne_2_0 : ¬ (2 : Int32) = 0 := by decide
theorem ne_2_1 : ¬ (2 : Int32) = 1 := by decide
theorem ne_2_3 : ¬ (2 : Int32) = 3 := by decide
theorem ne_2_4 : ¬ (2 : Int32) = 4 := by decide
theorem ne_2_5 : ¬ (2 : Int32) = 5 := by decide
theorem ne_3_0 : ¬ (3 : Int32) = 0 := by decide
theorem ne_3_1 : ¬ (3 : Int32) = 1 := by decide
theorem ne_3_2 : ¬ (3 : Int32) = 2 := by decide
theorem ne_3_4 : ¬ (3 : Int32) = 4 := by decide
theorem ne_3_5 : ¬ (3 : Int32) = 5 := by decide
theorem ne_4_0 : ¬ (4 : Int32) = 0 := by decide
theorem ne_4_1 : ¬ (4 : Int32) = 1 := by decide
theorem ne_4_2 : ¬ (4 : Int32) = 2 := by decide
theorem ne_4_3 : ¬ (4 : Int32) = 3 := by decide
theorem ne_4_5 : ¬ (4 : Int32) = 5 := by decide
theorem ne_5_0 : ¬ (5 : Int32) = 0 := by decide
theorem ne_5_1 : ¬ (5 : Int32) = 1 := by decide
theorem ne_5_2 : ¬ (5 : Int32) = 2 := by decide
theorem ne_5_3 : ¬ (5 : Int32) = 3 := by decide
theorem ne_5_4 : ¬ (5 : Int32) = 4 := by decide
def tk_c (v : Int32) : Nat := if 97 ≤ v ∧ v ≤ 122 then 2 else if 48 ≤ v ∧ v ≤ 57 then 3 else if v = 32 then 0 else 1
theorem tk_c_le (v : Int32) : tk_c v ≤ 3 := by
  unfold tk_c
  (repeat' split) <;> omega
def tk_so (c : Nat → Nat) (b : Nat) : Nat := if c b = 1 then 1 else if 0 < b ∧ (c (b - 1) = 2 ∨ c (b - 1) = 3) then 4 else c b
def tk_nx (st : Nat → Nat) (W p k : Nat) : Nat := if k + 1 < W then st (k + 1) else p
def tk_W1 (c : Nat → Nat) (p b l nx : Nat) : Prop := (1 ≤ l ∧ b + l ≤ nx ∧ nx ≤ p) ∧ (∀ j, b ≤ j → j < b + l → c j = c b) ∧ c b ≠ 0 ∧ (∀ j, b + l ≤ j → j < nx → c j = 0) ∧ (c b = 1 → l = 1) ∧ (b + l < p → c b ≠ 1 → c (b + l) ≠ c b)
def tk_Sp (c : Nat → Nat) (p W : Nat) (st ln : Nat → Nat) : Prop := W ≤ p ∧ (∀ j, j < (if 0 < W then st 0 else p) → c j = 0) ∧ ∀ k, k < W → tk_W1 c p (st k) (ln k) (tk_nx st W p k)
def tk_u (f : Nat → Nat) (k v : Nat) : Nat → Nat := fun j => if j = k then v else f j
theorem tk_us {f : Nat → Nat} {k v : Nat} : tk_u f k v k = v := if_pos rfl
theorem tk_un {f : Nat → Nat} {k v j : Nat} (h : j ≠ k) : tk_u f k v j = f j := if_neg h
theorem tk_Sp0 {c st ln : Nat → Nat} : tk_Sp c 0 0 st ln := ⟨Nat.le_refl 0, fun j hj => absurd hj (Nat.not_lt_zero j), fun k hk => absurd hk (Nat.not_lt_zero k)⟩
theorem tk_blank {c st ln : Nat → Nat} {p W : Nat} (hc : c p = 0) (S : tk_Sp c p W st ln) : tk_Sp c (p + 1) W st ln := by
  obtain ⟨h1, h2, h3⟩ := S
  refine ⟨by omega, fun j hj => ?_, fun k hk => ?_⟩
  · by_cases hW : 0 < W
    · rw [if_pos hW] at hj h2
      exact h2 j hj
    · rw [if_neg hW] at hj h2
      by_cases e : j = p
      · rw [e]; exact hc
      · exact h2 j (by omega)
  · obtain ⟨⟨a1, a2, a3⟩, a4, a5, a6, a7, a8⟩ := h3 k hk
    unfold tk_nx at a2 a3 a6 ⊢
    by_cases hk1 : k + 1 < W
    · rw [if_pos hk1] at a2 a3 a6 ⊢
      refine ⟨⟨a1, a2, by omega⟩, a4, a5, a6, a7, fun q1 q2 => ?_⟩
      by_cases e : st k + ln k = p
      · rw [e, hc]; exact fun z => a5 z.symm
      · exact a8 (by omega) q2
    · rw [if_neg hk1] at a2 a3 a6 ⊢
      refine ⟨⟨a1, by omega, by omega⟩, a4, a5, fun j q1 q2 => ?_, a7, fun q1 q2 => ?_⟩
      · by_cases e : j = p
        · rw [e]; exact hc
        · exact a6 j q1 (by omega)
      · by_cases e : st k + ln k = p
        · rw [e, hc]; exact fun z => a5 z.symm
        · exact a8 (by omega) q2
theorem tk_new {c st ln : Nat → Nat} {p W : Nat} (hc : c p ≠ 0) (hn : c p = 1 ∨ p = 0 ∨ c p ≠ c (p - 1)) (S : tk_Sp c p W st ln) : tk_Sp c (p + 1) (W + 1) (tk_u st W p) (tk_u ln W 1) := by
  obtain ⟨h1, h2, h3⟩ := S
  refine ⟨by omega, fun j hj => ?_, fun k hk => ?_⟩
  · rw [if_pos (by omega)] at hj
    by_cases hW : 0 < W
    · rw [if_pos hW] at h2
      rw [tk_un (by omega)] at hj
      exact h2 j hj
    · rw [if_neg hW] at h2
      obtain rfl : W = 0 := by omega
      rw [tk_us] at hj
      exact h2 j hj
  · by_cases e : k = W
    · subst e
      rw [tk_us, tk_us]
      unfold tk_nx
      rw [if_neg (by omega)]
      exact ⟨⟨by omega, by omega, by omega⟩, fun j q1 q2 => by rw [show j = p by omega], hc, fun j q1 q2 => by omega, fun _ => rfl, fun q1 => by omega⟩
    · obtain ⟨⟨a1, a2, a3⟩, a4, a5, a6, a7, a8⟩ := h3 k (by omega)
      rw [tk_un e, tk_un e]
      have en : tk_nx (tk_u st W p) (W + 1) (p + 1) k = tk_nx st W p k := by
        unfold tk_nx
        rw [if_pos (by omega)]
        by_cases e1 : k + 1 = W
        · rw [e1, tk_us, if_neg (by omega)]
        · rw [tk_un e1, if_pos (by omega)]
      rw [en]
      refine ⟨⟨a1, a2, by omega⟩, a4, a5, a6, a7, fun q1 q2 => ?_⟩
      by_cases e2 : st k + ln k = p
      · rw [e2]
        rcases hn with q | q | q
        · rw [q]; exact fun z => q2 z.symm
        · omega
        · rw [← a4 (p - 1) (by omega) (by omega)]; exact q
      · exact a8 (by omega) q2
theorem tk_more {c st ln : Nat → Nat} {p W : Nat} (hc : c p ≠ 0) (hc1 : c p ≠ 1) (hp : 0 < p) (he : c p = c (p - 1)) (S : tk_Sp c p W st ln) : 0 < W ∧ tk_Sp c (p + 1) W st (tk_u ln (W - 1) (ln (W - 1) + 1)) := by
  obtain ⟨h1, h2, h3⟩ := S
  have hW : 0 < W := by
    apply Classical.byContradiction
    intro hW
    rw [if_neg hW] at h2
    exact hc (he.trans (h2 (p - 1) (by omega)))
  have last : st (W - 1) + ln (W - 1) = p := by
    obtain ⟨⟨a1, a2, a3⟩, a4, a5, a6, a7, a8⟩ := h3 (W - 1) (by omega)
    unfold tk_nx at a2 a3 a6
    rw [if_neg (by omega)] at a2 a3 a6
    apply Classical.byContradiction
    intro q
    exact hc (he.trans (a6 (p - 1) (by omega) (by omega)))
  refine ⟨hW, by omega, fun j hj => ?_, fun k hk => ?_⟩
  · rw [if_pos hW] at hj h2
    exact h2 j hj
  · obtain ⟨⟨a1, a2, a3⟩, a4, a5, a6, a7, a8⟩ := h3 k hk
    by_cases e : k = W - 1
    · subst e
      rw [tk_us]
      unfold tk_nx
      rw [if_neg (by omega)]
      have eb : c (p - 1) = c (st (W - 1)) := a4 (p - 1) (by omega) (by omega)
      refine ⟨⟨by omega, by omega, by omega⟩, fun j q1 q2 => ?_, a5, fun j q1 q2 => by omega, fun q => absurd (he.trans (eb.trans q)) hc1, fun q1 => by omega⟩
      by_cases e2 : j = p
      · rw [e2, he, eb]
      · exact a4 j q1 (by omega)
    · rw [tk_un e]
      have h4 := (h3 (k + 1) (by omega)).1
      unfold tk_nx at a2 a3 a6 h4 ⊢
      rw [if_pos (by omega)] at a2 a3 a6 ⊢
      have h5 : st (k + 1) < p := by
        split at h4 <;> omega
      exact ⟨⟨a1, a2, by omega⟩, a4, a5, a6, a7, fun q1 q2 => a8 (by omega) q2⟩
/-- the words and signs of a tape T of t bytes; behind them the end -/
def tk_Env (T : Nat → Int32) (t W : Nat) (st ln : Nat → Nat) : Prop := t ≤ 96 ∧ tk_Sp (fun j => tk_c (T j)) t W st ln ∧ st W = t ∧ ln W = 0
section CT
variable {G : Nat → Nat} {d : Nat} {h : am_H} {o : Nat}
theorem co_rd (l : cl_Obj G h o) : am_ob G h (o + 79) 3 := ⟨co_own l (by omega), l.2.2.2.1.1⟩
theorem co_e0 (l : cl_Obj G h o) : am_r h (o + 79) 0 = some (o + 80) := l.2.2.2.1.2.1
theorem co_e1 (l : cl_Obj G h o) : am_r h (o + 79) 1 = some (o + 82) := l.2.2.2.1.2.2.1
theorem co_e2 (l : cl_Obj G h o) : am_r h (o + 79) 2 = some (o + 83) := l.2.2.2.1.2.2.2.1
theorem co_e3 (l : cl_Obj G h o) : am_r h (o + 79) 3 = some (o + 84) := l.2.2.2.1.2.2.2.2.1
theorem co_e4 (l : cl_Obj G h o) : am_r h (o + 79) 4 = some (o + 85) := l.2.2.2.1.2.2.2.2.2.1
theorem co_1a (l : cl_Obj G h o) {j : Nat} (hj : j < 97) : am_ia G h (o + 82) (nI j) := am_ia_of (co_own l (by omega)) l.2.2.2.1.2.2.2.2.2.2.1 hj (by omega)
theorem co_1w (l : cl_Obj G h o) {j : Nat} (hj : j < 97) : am_iw G h (o + 82) (nI j) := am_iw_of (co_own l (by omega)) l.2.2.2.1.2.2.2.2.2.2.1 hj (by omega)
theorem co_2a (l : cl_Obj G h o) {j : Nat} (hj : j < 97) : am_ia G h (o + 83) (nI j) := am_ia_of (co_own l (by omega)) l.2.2.2.1.2.2.2.2.2.2.2.1 hj (by omega)
theorem co_2w (l : cl_Obj G h o) {j : Nat} (hj : j < 97) : am_iw G h (o + 83) (nI j) := am_iw_of (co_own l (by omega)) l.2.2.2.1.2.2.2.2.2.2.2.1 hj (by omega)
theorem co_3a (l : cl_Obj G h o) {j : Nat} (hj : j < 97) : am_ia G h (o + 84) (nI j) := am_ia_of (co_own l (by omega)) l.2.2.2.1.2.2.2.2.2.2.2.2.1 hj (by omega)
theorem co_3w (l : cl_Obj G h o) {j : Nat} (hj : j < 97) : am_iw G h (o + 84) (nI j) := am_iw_of (co_own l (by omega)) l.2.2.2.1.2.2.2.2.2.2.2.2.1 hj (by omega)
theorem co_4w (l : cl_Obj G h o) {j : Nat} (hj : j < 96) : am_iw G h (o + 85) (nI j) := am_iw_of (co_own l (by omega)) l.2.2.2.1.2.2.2.2.2.2.2.2.2 hj (by omega)
theorem c_sortOf {v : Int32} : am_evm G (d + 1) 46 [.int v] h = some (some (.int (nI (tk_c v))), h) := by
  unfold tk_c
  by_cases h1 : 97 ≤ v ∧ v ≤ 122
  · simp only [n_46, e_46_0, e_46_1, e_46_3, e_46_5, e_46_8, e_46_11, e_46_12, e_46_13, e_46_14, e_46_16, e_46_18, e_46_21, e_46_24, e_46_25, e_46_26, e_46_27, e_46_29, e_46_32, e_46_33, e_46_37, e_46_36, Option.bind_some, Option.toList_some, Option.toList_none, List.cons_append, List.nil_append, am_k1_i, am_k1_r, am_k1_u, am_k1_n, am_bo0, am_bo1, am_boi, am_ev_tb, am_tb_nil, am_rfs, am_rfn, eq_self, and_self, if_true, if_false, show ¬ (1 : Int32) = 0 from by decide, show ¬ (0 : Int32) = 1 from by decide, not_true, not_false_eq_true, and_true, true_and, and_false, false_and, or_true, true_or, or_false, false_or, c_within, h1]; rfl
  · by_cases h2 : 48 ≤ v ∧ v ≤ 57
    · simp only [n_46, e_46_0, e_46_1, e_46_3, e_46_5, e_46_8, e_46_11, e_46_12, e_46_13, e_46_14, e_46_16, e_46_18, e_46_21, e_46_24, e_46_25, e_46_26, e_46_27, e_46_29, e_46_32, e_46_33, e_46_37, e_46_36, Option.bind_some, Option.toList_some, Option.toList_none, List.cons_append, List.nil_append, am_k1_i, am_k1_r, am_k1_u, am_k1_n, am_bo0, am_bo1, am_boi, am_ev_tb, am_tb_nil, am_rfs, am_rfn, eq_self, and_self, if_true, if_false, show ¬ (1 : Int32) = 0 from by decide, show ¬ (0 : Int32) = 1 from by decide, not_true, not_false_eq_true, and_true, true_and, and_false, false_and, or_true, true_or, or_false, false_or, c_within, h1, h2]; rfl
    · by_cases h3 : v = 32
      · subst h3
        simp only [n_46, e_46_0, e_46_1, e_46_3, e_46_5, e_46_8, e_46_11, e_46_12, e_46_13, e_46_14, e_46_16, e_46_18, e_46_21, e_46_24, e_46_25, e_46_26, e_46_27, e_46_29, e_46_32, e_46_33, e_46_37, e_46_36, Option.bind_some, Option.toList_some, Option.toList_none, List.cons_append, List.nil_append, am_k1_i, am_k1_r, am_k1_u, am_k1_n, am_bo0, am_bo1, am_boi, am_ev_tb, am_tb_nil, am_rfs, am_rfn, eq_self, and_self, if_true, if_false, show ¬ (1 : Int32) = 0 from by decide, show ¬ (0 : Int32) = 1 from by decide, not_true, not_false_eq_true, and_true, true_and, and_false, false_and, or_true, true_or, or_false, false_or, c_within, h1, h2]; rfl
      · simp only [n_46, e_46_0, e_46_1, e_46_3, e_46_5, e_46_8, e_46_11, e_46_12, e_46_13, e_46_14, e_46_16, e_46_18, e_46_21, e_46_24, e_46_25, e_46_26, e_46_27, e_46_29, e_46_32, e_46_33, e_46_37, e_46_36, Option.bind_some, Option.toList_some, Option.toList_none, List.cons_append, List.nil_append, am_k1_i, am_k1_r, am_k1_u, am_k1_n, am_bo0, am_bo1, am_boi, am_ev_tb, am_tb_nil, am_rfs, am_rfn, eq_self, and_self, if_true, if_false, show ¬ (1 : Int32) = 0 from by decide, show ¬ (0 : Int32) = 1 from by decide, not_true, not_false_eq_true, and_true, true_and, and_false, false_and, or_true, true_or, or_false, false_or, c_within, h1, h2, h3]; rfl
theorem c_at (lo : cl_Obj G h o) {t p : Nat} (ht : am_i h (o + 80) 1 = nI t) (ht96 : t ≤ 96) (hp : p < t) : am_evm G (d + 1) 69 [.ref (o + 80), .int (nI p)] h = some (some (.int (am_i h (o + 81) p &&& 255)), h) := by
  have h1 : ¬ nI p < 0 := nI_pos (by omega)
  have h2 : ¬ nI t ≤ nI p := nI_ge hp (by omega)
  simp only [n_69, e_69_0, e_69_1, e_69_4, e_69_5, e_69_6, e_69_9, e_69_12, e_69_13, e_69_16, e_69_17, e_69_18, e_69_21, e_69_22, e_69_27, e_69_25, Option.bind_some, Option.toList_some, Option.toList_none, List.cons_append, List.nil_append, am_k1_i, am_k1_r, am_k1_u, am_k1_n, am_bo0, am_bo1, am_boi, am_ev_tb, am_tb_nil, am_rfs, am_rfn, eq_self, and_self, if_true, if_false, show ¬ (1 : Int32) = 0 from by decide, show ¬ (0 : Int32) = 1 from by decide, not_true, not_false_eq_true, and_true, true_and, and_false, false_and, or_true, true_or, or_false, false_or, co_tp lo, ht, h1, h2, co_tb lo, co_ba lo (show p < 96 by omega), am_cl (show p < 2147483648 by omega)]
theorem c_addWord (lo : cl_Obj G h o) {W : Nat} {s pl : Int32} (hW : am_i h (o + 79) 5 = nI W) (hW96 : W < 96) : am_evm G d 45 [.ref (o + 79), .int s, .int pl] h = some (none, am_pi (am_pi (am_pi (am_pi h (o + 82) W s) (o + 83) W pl) (o + 84) W 1) (o + 79) 5 (nI (W + 1))) := by
  have hlt : ¬ (96 : Int32) ≤ nI W := nI_ge (b := 96) hW96 (by decide)
  have q1 : am_i (am_pi h (o + 82) W s) (o + 79) = am_i h (o + 79) := (am_pi_o _ (by omega)).1
  have q2 : am_i (am_pi (am_pi h (o + 82) W s) (o + 83) W pl) (o + 79) = am_i h (o + 79) := by rw [(am_pi_o _ (by omega)).1, q1]
  have q3 : am_i (am_pi (am_pi (am_pi h (o + 82) W s) (o + 83) W pl) (o + 84) W 1) (o + 79) = am_i h (o + 79) := by rw [(am_pi_o _ (by omega)).1, q2]
  simp only [n_45, e_45_0, e_45_1, e_45_4, e_45_6, e_45_9, e_45_10, e_45_13, e_45_14, e_45_17, e_45_18, e_45_19, e_45_20, e_45_23, e_45_24, e_45_27, e_45_28, e_45_29, e_45_30, e_45_33, e_45_34, e_45_37, e_45_38, e_45_39, e_45_40, e_45_41, e_45_44, e_45_45, e_45_46, e_45_49, Option.bind_some, Option.toList_some, Option.toList_none, List.cons_append, List.nil_append, am_k1_i, am_k1_r, am_k1_u, am_k1_n, am_bo0, am_bo1, am_boi, am_ev_tb, am_tb_nil, am_rfs, am_rfn, eq_self, and_self, if_true, if_false, show ¬ (1 : Int32) = 0 from by decide, show ¬ (0 : Int32) = 1 from by decide, not_true, not_false_eq_true, and_true, true_and, and_false, false_and, or_true, true_or, or_false, false_or, co_rd lo, hW, hlt, co_e1 lo, co_e2 lo, co_e3 lo, co_1w lo (show W < 97 by omega), co_2w lo (show W < 97 by omega), co_3w lo (show W < 97 by omega), am_cl (show W < 2147483648 by omega), am_ob_pi, am_pi_r, am_iw_pi, q1, q2, q3, nI_1]
/-- the rows of words as the class keeps them -/
def cw_A (h : am_H) (o W : Nat) (c st ln : Nat → Nat) : Prop := ∀ k, k < W → am_i h (o + 82) k = nI (tk_so c (st k)) ∧ am_i h (o + 83) k = nI (st k) ∧ am_i h (o + 84) k = nI (ln k)
def cw_S (o : Nat) : Nat → Prop := fun b => b = o + 79 ∨ b = o + 82 ∨ b = o + 83 ∨ b = o + 84
theorem cw_A.add {W p : Nat} {c st ln : Nat → Nat} {s : Int32} {h : am_H} (A : cw_A h o W c st ln) (hs : s = nI (tk_so c p)) : cw_A (am_pi (am_pi (am_pi (am_pi h (o + 82) W s) (o + 83) W (nI p)) (o + 84) W 1) (o + 79) 5 (nI (W + 1))) o (W + 1) c (tk_u st W p) (tk_u ln W 1) := by
  intro k hk
  by_cases e : k = W
  · subst e
    rw [tk_us, tk_us]
    refine ⟨?_, ?_, ?_⟩
    · rw [am_pi_i, if_neg (by omega), am_pi_i, if_neg (by omega), am_pi_i, if_neg (by omega), am_pi_i, if_pos ⟨rfl, rfl⟩, hs]
    · rw [am_pi_i, if_neg (by omega), am_pi_i, if_neg (by omega), am_pi_i, if_pos ⟨rfl, rfl⟩]
    · rw [am_pi_i, if_neg (by omega), am_pi_i, if_pos ⟨rfl, rfl⟩]; rfl
  · obtain ⟨a1, a2, a3⟩ := A k (by omega)
    rw [tk_un e, tk_un e]
    refine ⟨?_, ?_, ?_⟩
    · rw [am_pi_i, if_neg (by omega), am_pi_i, if_neg (by omega), am_pi_i, if_neg (by omega), am_pi_i, if_neg (by omega), a1]
    · rw [am_pi_i, if_neg (by omega), am_pi_i, if_neg (by omega), am_pi_i, if_neg (by omega), am_pi_i, if_neg (by omega), a2]
    · rw [am_pi_i, if_neg (by omega), am_pi_i, if_neg (by omega), am_pi_i, if_neg (by omega), am_pi_i, if_neg (by omega), a3]
theorem tk_c4 (v : Int32) : tk_c v = 0 ∨ tk_c v = 1 ∨ tk_c v = 2 ∨ tk_c v = 3 := by have := tk_c_le v; omega
set_option maxHeartbeats 1000000 in
theorem c_split_l (lo : cl_Obj G h o) {t : Nat} {T : Nat → Int32} (ht : am_i h (o + 80) 1 = nI t) (ht96 : t ≤ 96) (hT : ∀ j, j < t → am_i h (o + 81) j &&& 255 = T j) : ∀ j p h' W st ln x3 x4, p + j = t → am_fr (cw_S o) h h' → (∀ k, k ≠ 5 → am_i h' (o + 79) k = am_i h (o + 79) k) → am_i h' (o + 79) 5 = nI W → cw_A h' o W (fun j => tk_c (T j)) st ln → tk_Sp (fun j => tk_c (T j)) p W st ln → ∃ h2 W2 st2 ln2, am_ev G (d + 2) 44 9 [some (.ref (o + 79)), some (.int (nI (if p = 0 then 0 else tk_c (T (p - 1))))), some (.int (nI p)), x3, x4] [] h' = some (none, h2) ∧ am_fr (cw_S o) h h2 ∧ (∀ k, k ≠ 5 → am_i h2 (o + 79) k = am_i h (o + 79) k) ∧ am_i h2 (o + 79) 5 = nI W2 ∧ cw_A h2 o W2 (fun j => tk_c (T j)) st2 ln2 ∧ (am_i h2 (o + 82) W2 = 5 ∧ am_i h2 (o + 83) W2 = nI (st2 W2) ∧ am_i h2 (o + 84) W2 = nI (ln2 W2)) ∧ tk_Env T t W2 st2 ln2 := by
  intro j
  induction j with
  | zero =>
    intro p h' W st ln x3 x4 hp f hk hW A S
    obtain rfl : p = t := by omega
    have lo' := lo.fr f
    have ht' : am_i h' (o + 80) 1 = nI p := by rw [f.i1 (fun z => by unfold cw_S at z; omega)]; exact ht
    have hWp : W ≤ p := S.1
    have q1 : ∀ x, am_i (am_pi h' (o + 82) W x) (o + 79) = am_i h' (o + 79) := fun x => (am_pi_o _ (by omega)).1
    have q2 : ∀ x y, am_i (am_pi (am_pi h' (o + 82) W x) (o + 83) W y) (o + 79) = am_i h' (o + 79) := fun x y => by rw [(am_pi_o _ (by omega)).1, q1]
    have q3 : ∀ x, am_i (am_pi h' (o + 82) W x) (o + 80) 1 = nI p := fun x => by rw [(am_pi_o _ (by omega)).1, ht']
    have f2 : am_fr (cw_S o) h (am_pi (am_pi (am_pi h' (o + 82) W 5) (o + 83) W (nI p)) (o + 84) W 0) := f.tr (((am_fr.pi (Or.inr (Or.inl rfl))).tr (am_fr.pi (Or.inr (Or.inr (Or.inl rfl))))).tr (am_fr.pi (Or.inr (Or.inr (Or.inr rfl)))))
    have q4 : am_i (am_pi (am_pi (am_pi h' (o + 82) W 5) (o + 83) W (nI p)) (o + 84) W 0) (o + 79) = am_i h' (o + 79) := by rw [(am_pi_o _ (by omega)).1, q2]
    refine ⟨am_pi (am_pi (am_pi h' (o + 82) W 5) (o + 83) W (nI p)) (o + 84) W 0, W, tk_u st W p, tk_u ln W 0, ?_, f2, fun k hk2 => by rw [q4]; exact hk k hk2, by rw [q4]; exact hW, fun k hk2 => ?_, ⟨?_, ?_, ?_⟩, ht96, ⟨S.1, ?_, fun k hk2 => ?_⟩, tk_us, tk_us⟩
    · rw [e_44_9]
      simp only [n_44, e_44_0, e_44_1, e_44_2, e_44_5, f_44_6, e_44_7, f_44_8, e_44_10, e_44_11, e_44_14, e_44_17, e_44_20, e_44_21, e_44_24, e_44_25, e_44_28, f_44_31, e_44_32, e_44_33, e_44_34, e_44_37, e_44_38, e_44_41, e_44_42, e_44_43, e_44_46, e_44_47, e_44_48, e_44_51, e_44_52, e_44_53, e_44_56, e_44_57, e_44_58, e_44_61, e_44_62, f_44_66, e_44_68, e_44_69, e_44_71, e_44_74, e_44_75, e_44_79, e_44_80, e_44_83, e_44_112, f_44_113, f_44_114, e_44_117, e_44_78, e_44_65, e_44_86, e_44_87, e_44_90, e_44_91, e_44_94, e_44_97, e_44_98, e_44_101, e_44_102, e_44_105, e_44_106, e_44_107, e_44_108, e_44_109, e_44_110, e_44_111, e_44_120, e_44_121, e_44_124, e_44_125, e_44_128, e_44_129, e_44_130, e_44_131, e_44_134, e_44_135, e_44_138, e_44_139, e_44_142, e_44_145, e_44_146, e_44_147, e_44_150, e_44_151, e_44_154, e_44_155, e_44_156, Option.bind_some, Option.toList_some, Option.toList_none, List.cons_append, List.nil_append, am_k1_i, am_k1_r, am_k1_u, am_k1_n, am_bo0, am_bo1, am_boi, am_ev_tb, am_tb_nil, am_rfs, am_rfn, eq_self, and_self, if_true, if_false, show ¬ (1 : Int32) = 0 from by decide, show ¬ (0 : Int32) = 1 from by decide, not_true, not_false_eq_true, and_true, true_and, and_false, false_and, or_true, true_or, or_false, false_or, co_rd lo', co_e0 lo', co_tp lo', ht', Int32.le_refl, co_e1 lo', hW, co_1w lo' (show W < 97 by omega), am_cl (show W < 2147483648 by omega), am_ob_pi, am_pi_r, am_iw_pi, co_e2 lo', co_2w lo' (show W < 97 by omega), co_e3 lo', co_3w lo' (show W < 97 by omega), q1, q2, q3]
    · obtain ⟨a1, a2, a3⟩ := A k hk2
      rw [tk_un (by omega), tk_un (by omega)]
      refine ⟨?_, ?_, ?_⟩
      · rw [am_pi_i, if_neg (by omega), am_pi_i, if_neg (by omega), am_pi_i, if_neg (by omega), a1]
      · rw [am_pi_i, if_neg (by omega), am_pi_i, if_neg (by omega), am_pi_i, if_neg (by omega), a2]
      · rw [am_pi_i, if_neg (by omega), am_pi_i, if_neg (by omega), am_pi_i, if_neg (by omega), a3]
    · rw [am_pi_i, if_neg (by omega), am_pi_i, if_neg (by omega), am_pi_i, if_pos ⟨rfl, rfl⟩]
    · rw [am_pi_i, if_neg (by omega), am_pi_i, if_pos ⟨rfl, rfl⟩, tk_us]
    · rw [am_pi_i, if_pos ⟨rfl, rfl⟩, tk_us]; rfl
    · have h2 := S.2.1
      intro j hj
      by_cases hW0 : 0 < W
      · rw [if_pos hW0] at hj h2
        rw [tk_un (by omega)] at hj
        exact h2 j hj
      · rw [if_neg hW0] at hj h2
        exact h2 j hj
    · have h3 := S.2.2 k hk2
      rw [tk_un (by omega), tk_un (by omega)]
      unfold tk_nx at h3 ⊢
      by_cases hk1 : k + 1 < W
      · rw [if_pos hk1] at h3 ⊢
        rw [tk_un (by omega)]
        exact h3
      · rw [if_neg hk1] at h3 ⊢
        exact h3
  | succ j ih =>
    intro p h' W st ln x3 x4 hp f hk hW A S
    have lo' := lo.fr f
    have ht' : am_i h' (o + 80) 1 = nI t := by rw [f.i1 (fun z => by unfold cw_S at z; omega)]; exact ht
    have hTp : am_i h' (o + 81) p &&& 255 = T p := by rw [f.i1 (fun z => by unfold cw_S at z; omega)]; exact hT p (by omega)
    have hWp : W ≤ p := S.1
    have hlt : ¬ nI t ≤ nI p := nI_ge (by omega) (by omega)
    have hat := c_at (d := d) lo' ht' ht96 (show p < t by omega)
    rw [hTp] at hat
    have eB : ∀ s, tk_c (T p) = s → nI (if p + 1 = 0 then 0 else tk_c (T (p + 1 - 1))) = nI s := fun s hs => by rw [if_neg (by omega), Nat.add_sub_cancel, hs]
    -- a word begins
    have fin : ∀ s : Int32, ∀ y3 y4, s = nI (tk_so (fun j => tk_c (T j)) p) → tk_c (T p) ≠ 0 → (tk_c (T p) = 1 ∨ p = 0 ∨ tk_c (T p) ≠ tk_c (T (p - 1))) → ∃ h2 W2 st2 ln2, am_ev G (d + 2) 44 9 [some (.ref (o + 79)), some (.int (nI (tk_c (T p)))), some (.int (nI (p + 1))), y3, y4] [] (am_pi (am_pi (am_pi (am_pi h' (o + 82) W s) (o + 83) W (nI p)) (o + 84) W 1) (o + 79) 5 (nI (W + 1))) = some (none, h2) ∧ am_fr (cw_S o) h h2 ∧ (∀ k, k ≠ 5 → am_i h2 (o + 79) k = am_i h (o + 79) k) ∧ am_i h2 (o + 79) 5 = nI W2 ∧ cw_A h2 o W2 (fun j => tk_c (T j)) st2 ln2 ∧ (am_i h2 (o + 82) W2 = 5 ∧ am_i h2 (o + 83) W2 = nI (st2 W2) ∧ am_i h2 (o + 84) W2 = nI (ln2 W2)) ∧ tk_Env T t W2 st2 ln2 := by
      intro s y3 y4 hs h0 hn
      have := ih (p + 1) (am_pi (am_pi (am_pi (am_pi h' (o + 82) W s) (o + 83) W (nI p)) (o + 84) W 1) (o + 79) 5 (nI (W + 1))) (W + 1) (tk_u st W p) (tk_u ln W 1) y3 y4 (by omega) (f.tr ((((am_fr.pi (Or.inr (Or.inl rfl))).tr (am_fr.pi (Or.inr (Or.inr (Or.inl rfl))))).tr (am_fr.pi (Or.inr (Or.inr (Or.inr rfl))))).tr (am_fr.pi (Or.inl rfl)))) (fun k hk2 => by rw [am_pi_i, if_neg (fun z => hk2 z.2), am_pi_i, if_neg (by omega), am_pi_i, if_neg (by omega), am_pi_i, if_neg (by omega)]; exact hk k hk2) (by rw [am_pi_i, if_pos ⟨rfl, rfl⟩]) (A.add hs) (tk_new h0 hn S)
      rw [eB _ rfl] at this
      exact this
    have haw : ∀ s : Int32, _ := fun s => c_addWord (d := d + 1) lo' (s := s) (pl := nI p) hW (show W < 96 by omega)
    rcases tk_c4 (T p) with e | e | e | e
    · -- blank
      have := ih (p + 1) h' W st ln (some (.int 0)) x4 (by omega) f hk hW A (tk_blank e S)
      rw [eB _ e] at this
      rw [e_44_9]
      simp only [n_44, e_44_0, e_44_1, e_44_2, e_44_5, f_44_6, e_44_7, f_44_8, e_44_10, e_44_11, e_44_14, e_44_17, e_44_20, e_44_21, e_44_24, e_44_25, e_44_28, f_44_31, e_44_32, e_44_33, e_44_34, e_44_37, e_44_38, e_44_41, e_44_42, e_44_43, e_44_46, e_44_47, e_44_48, e_44_51, e_44_52, e_44_53, e_44_56, e_44_57, e_44_58, e_44_61, e_44_62, f_44_66, e_44_68, e_44_69, e_44_71, e_44_74, e_44_75, e_44_79, e_44_80, e_44_83, e_44_112, f_44_113, f_44_114, e_44_117, e_44_78, e_44_65, e_44_86, e_44_87, e_44_90, e_44_91, e_44_94, e_44_97, e_44_98, e_44_101, e_44_102, e_44_105, e_44_106, e_44_107, e_44_108, e_44_109, e_44_110, e_44_111, e_44_120, e_44_121, e_44_124, e_44_125, e_44_128, e_44_129, e_44_130, e_44_131, e_44_134, e_44_135, e_44_138, e_44_139, e_44_142, e_44_145, e_44_146, e_44_147, e_44_150, e_44_151, e_44_154, e_44_155, e_44_156, Option.bind_some, Option.toList_some, Option.toList_none, List.cons_append, List.nil_append, am_k1_i, am_k1_r, am_k1_u, am_k1_n, am_bo0, am_bo1, am_boi, am_ev_tb, am_tb_nil, am_rfs, am_rfn, eq_self, and_self, if_true, if_false, show ¬ (1 : Int32) = 0 from by decide, show ¬ (0 : Int32) = 1 from by decide, not_true, not_false_eq_true, and_true, true_and, and_false, false_and, or_true, true_or, or_false, false_or, co_rd lo', co_e0 lo', co_tp lo', ht', hlt, hat, c_sortOf, e, show nI 0 = (0 : Int32) from rfl, ne_0_1, ne_0_2, ne_0_3, ne_0_4, ne_0_5, ne_1_0, ne_1_2, ne_1_3, ne_1_4, ne_1_5, ne_2_0, ne_2_1, ne_2_3, ne_2_4, ne_2_5, ne_3_0, ne_3_1, ne_3_2, ne_3_4, ne_3_5, ne_4_0, ne_4_1, ne_4_2, ne_4_3, ne_4_5, ne_5_0, ne_5_1, ne_5_2, ne_5_3, ne_5_4, nI_1]
      exact this
    · -- sign
      have hso : (1 : Int32) = nI (tk_so (fun j => tk_c (T j)) p) := by unfold tk_so; rw [if_pos e]; rfl
      have := fin 1 (some (.int 1)) (some (.int 0)) hso (by rw [e]; decide) (Or.inl e)
      rw [e] at this
      rw [e_44_9]
      simp only [n_44, e_44_0, e_44_1, e_44_2, e_44_5, f_44_6, e_44_7, f_44_8, e_44_10, e_44_11, e_44_14, e_44_17, e_44_20, e_44_21, e_44_24, e_44_25, e_44_28, f_44_31, e_44_32, e_44_33, e_44_34, e_44_37, e_44_38, e_44_41, e_44_42, e_44_43, e_44_46, e_44_47, e_44_48, e_44_51, e_44_52, e_44_53, e_44_56, e_44_57, e_44_58, e_44_61, e_44_62, f_44_66, e_44_68, e_44_69, e_44_71, e_44_74, e_44_75, e_44_79, e_44_80, e_44_83, e_44_112, f_44_113, f_44_114, e_44_117, e_44_78, e_44_65, e_44_86, e_44_87, e_44_90, e_44_91, e_44_94, e_44_97, e_44_98, e_44_101, e_44_102, e_44_105, e_44_106, e_44_107, e_44_108, e_44_109, e_44_110, e_44_111, e_44_120, e_44_121, e_44_124, e_44_125, e_44_128, e_44_129, e_44_130, e_44_131, e_44_134, e_44_135, e_44_138, e_44_139, e_44_142, e_44_145, e_44_146, e_44_147, e_44_150, e_44_151, e_44_154, e_44_155, e_44_156, Option.bind_some, Option.toList_some, Option.toList_none, List.cons_append, List.nil_append, am_k1_i, am_k1_r, am_k1_u, am_k1_n, am_bo0, am_bo1, am_boi, am_ev_tb, am_tb_nil, am_rfs, am_rfn, eq_self, and_self, if_true, if_false, show ¬ (1 : Int32) = 0 from by decide, show ¬ (0 : Int32) = 1 from by decide, not_true, not_false_eq_true, and_true, true_and, and_false, false_and, or_true, true_or, or_false, false_or, co_rd lo', co_e0 lo', co_tp lo', ht', hlt, hat, c_sortOf, e, show nI 1 = (1 : Int32) from rfl, ne_0_1, ne_0_2, ne_0_3, ne_0_4, ne_0_5, ne_1_0, ne_1_2, ne_1_3, ne_1_4, ne_1_5, ne_2_0, ne_2_1, ne_2_3, ne_2_4, ne_2_5, ne_3_0, ne_3_1, ne_3_2, ne_3_4, ne_3_5, ne_4_0, ne_4_1, ne_4_2, ne_4_3, ne_4_5, ne_5_0, ne_5_1, ne_5_2, ne_5_3, ne_5_4, haw, nI_1]
      exact this
    · -- letters, digits
      have hmore : 0 < p → tk_c (T (p - 1)) = 2 → ∃ h2 W2 st2 ln2, am_ev G (d + 2) 44 9 [some (.ref (o + 79)), some (.int 2), some (.int (nI p)), x3, x4] [] h' = some (none, h2) ∧ am_fr (cw_S o) h h2 ∧ (∀ k, k ≠ 5 → am_i h2 (o + 79) k = am_i h (o + 79) k) ∧ am_i h2 (o + 79) 5 = nI W2 ∧ cw_A h2 o W2 (fun j => tk_c (T j)) st2 ln2 ∧ (am_i h2 (o + 82) W2 = 5 ∧ am_i h2 (o + 83) W2 = nI (st2 W2) ∧ am_i h2 (o + 84) W2 = nI (ln2 W2)) ∧ tk_Env T t W2 st2 ln2 := by
        intro hp0 eb
        obtain ⟨hW0, S2⟩ := tk_more (c := fun j => tk_c (T j)) (p := p) (by show tk_c (T p) ≠ 0; omega) (by show tk_c (T p) ≠ 1; omega) hp0 (by show tk_c (T p) = tk_c (T (p - 1)); omega) S
        have hle : ¬ nI W ≤ 0 := nI_nle hW0 (by omega)
        have hs1 : nI W - 1 = nI (W - 1) := pk_sub (b := 1) hW0
        have hl := (A (W - 1) (by omega)).2.2
        have := ih (p + 1) (am_pi h' (o + 84) (W - 1) (nI (ln (W - 1) + 1))) W st (tk_u ln (W - 1) (ln (W - 1) + 1)) (some (.int 2)) x4 (by omega) (f.tr (am_fr.pi (Or.inr (Or.inr (Or.inr rfl))))) (fun k hk2 => by rw [am_pi_i, if_neg (by omega)]; exact hk k hk2) (by rw [am_pi_i, if_neg (by omega)]; exact hW) (fun k hk2 => by
          obtain ⟨a1, a2, a3⟩ := A k hk2
          refine ⟨by rw [am_pi_i, if_neg (by omega)]; exact a1, by rw [am_pi_i, if_neg (by omega)]; exact a2, ?_⟩
          by_cases ek : k = W - 1
          · rw [ek, tk_us, am_pi_i, if_pos ⟨rfl, rfl⟩]
          · rw [tk_un ek, am_pi_i, if_neg (fun z => ek z.2)]; exact a3) S2
        rw [eB _ e] at this
        rw [e_44_9]
        simp only [n_44, e_44_0, e_44_1, e_44_2, e_44_5, f_44_6, e_44_7, f_44_8, e_44_10, e_44_11, e_44_14, e_44_17, e_44_20, e_44_21, e_44_24, e_44_25, e_44_28, f_44_31, e_44_32, e_44_33, e_44_34, e_44_37, e_44_38, e_44_41, e_44_42, e_44_43, e_44_46, e_44_47, e_44_48, e_44_51, e_44_52, e_44_53, e_44_56, e_44_57, e_44_58, e_44_61, e_44_62, f_44_66, e_44_68, e_44_69, e_44_71, e_44_74, e_44_75, e_44_79, e_44_80, e_44_83, e_44_112, f_44_113, f_44_114, e_44_117, e_44_78, e_44_65, e_44_86, e_44_87, e_44_90, e_44_91, e_44_94, e_44_97, e_44_98, e_44_101, e_44_102, e_44_105, e_44_106, e_44_107, e_44_108, e_44_109, e_44_110, e_44_111, e_44_120, e_44_121, e_44_124, e_44_125, e_44_128, e_44_129, e_44_130, e_44_131, e_44_134, e_44_135, e_44_138, e_44_139, e_44_142, e_44_145, e_44_146, e_44_147, e_44_150, e_44_151, e_44_154, e_44_155, e_44_156, Option.bind_some, Option.toList_some, Option.toList_none, List.cons_append, List.nil_append, am_k1_i, am_k1_r, am_k1_u, am_k1_n, am_bo0, am_bo1, am_boi, am_ev_tb, am_tb_nil, am_rfs, am_rfn, eq_self, and_self, if_true, if_false, show ¬ (1 : Int32) = 0 from by decide, show ¬ (0 : Int32) = 1 from by decide, not_true, not_false_eq_true, and_true, true_and, and_false, false_and, or_true, true_or, or_false, false_or, co_rd lo', co_e0 lo', co_tp lo', ht', hlt, hat, c_sortOf, e, show nI 2 = (2 : Int32) from rfl, ne_0_1, ne_0_2, ne_0_3, ne_0_4, ne_0_5, ne_1_0, ne_1_2, ne_1_3, ne_1_4, ne_1_5, ne_2_0, ne_2_1, ne_2_3, ne_2_4, ne_2_5, ne_3_0, ne_3_1, ne_3_2, ne_3_4, ne_3_5, ne_4_0, ne_4_1, ne_4_2, ne_4_3, ne_4_5, ne_5_0, ne_5_1, ne_5_2, ne_5_3, ne_5_4, hW, hle, hs1, co_e3 lo', co_3a lo' (show W - 1 < 97 by omega), co_3w lo' (show W - 1 < 97 by omega), am_cl (show W - 1 < 2147483648 by omega), hl, nI_1]
        exact this
      have h0 : tk_c (T p) ≠ 0 := by omega
      have hso : ∀ b, b = 0 ∨ b = 1 → tk_c (T (p - 1)) = b ∨ p = 0 → (2 : Int32) = nI (tk_so (fun j => tk_c (T j)) p) := fun b hb hq => by
        show (2 : Int32) = nI (if tk_c (T p) = 1 then 1 else if 0 < p ∧ (tk_c (T (p - 1)) = 2 ∨ tk_c (T (p - 1)) = 3) then 4 else tk_c (T p))
        rw [if_neg (by rw [e]; decide), if_neg (fun z => by rcases hq with q | q <;> omega), e]
        rfl
      have hso4 : 0 < p → tk_c (T (p - 1)) = 3 → (4 : Int32) = nI (tk_so (fun j => tk_c (T j)) p) := fun h1 h2 => by
        show (4 : Int32) = nI (if tk_c (T p) = 1 then 1 else if 0 < p ∧ (tk_c (T (p - 1)) = 2 ∨ tk_c (T (p - 1)) = 3) then 4 else tk_c (T p))
        rw [if_neg (by rw [e]; decide), if_pos ⟨h1, by omega⟩]
        rfl
      by_cases hp0 : p = 0
      · have := fin 2 (some (.int 2)) (some (.int 0)) (hso 0 (Or.inl rfl) (Or.inr hp0)) h0 (Or.inr (Or.inl hp0))
        rw [e] at this
        rw [if_pos hp0, e_44_9]
        simp only [n_44, e_44_0, e_44_1, e_44_2, e_44_5, f_44_6, e_44_7, f_44_8, e_44_10, e_44_11, e_44_14, e_44_17, e_44_20, e_44_21, e_44_24, e_44_25, e_44_28, f_44_31, e_44_32, e_44_33, e_44_34, e_44_37, e_44_38, e_44_41, e_44_42, e_44_43, e_44_46, e_44_47, e_44_48, e_44_51, e_44_52, e_44_53, e_44_56, e_44_57, e_44_58, e_44_61, e_44_62, f_44_66, e_44_68, e_44_69, e_44_71, e_44_74, e_44_75, e_44_79, e_44_80, e_44_83, e_44_112, f_44_113, f_44_114, e_44_117, e_44_78, e_44_65, e_44_86, e_44_87, e_44_90, e_44_91, e_44_94, e_44_97, e_44_98, e_44_101, e_44_102, e_44_105, e_44_106, e_44_107, e_44_108, e_44_109, e_44_110, e_44_111, e_44_120, e_44_121, e_44_124, e_44_125, e_44_128, e_44_129, e_44_130, e_44_131, e_44_134, e_44_135, e_44_138, e_44_139, e_44_142, e_44_145, e_44_146, e_44_147, e_44_150, e_44_151, e_44_154, e_44_155, e_44_156, Option.bind_some, Option.toList_some, Option.toList_none, List.cons_append, List.nil_append, am_k1_i, am_k1_r, am_k1_u, am_k1_n, am_bo0, am_bo1, am_boi, am_ev_tb, am_tb_nil, am_rfs, am_rfn, eq_self, and_self, if_true, if_false, show ¬ (1 : Int32) = 0 from by decide, show ¬ (0 : Int32) = 1 from by decide, not_true, not_false_eq_true, and_true, true_and, and_false, false_and, or_true, true_or, or_false, false_or, co_rd lo', co_e0 lo', co_tp lo', ht', hlt, hat, c_sortOf, e, show nI 2 = (2 : Int32) from rfl, show nI 0 = (0 : Int32) from rfl, ne_0_1, ne_0_2, ne_0_3, ne_0_4, ne_0_5, ne_1_0, ne_1_2, ne_1_3, ne_1_4, ne_1_5, ne_2_0, ne_2_1, ne_2_3, ne_2_4, ne_2_5, ne_3_0, ne_3_1, ne_3_2, ne_3_4, ne_3_5, ne_4_0, ne_4_1, ne_4_2, ne_4_3, ne_4_5, ne_5_0, ne_5_1, ne_5_2, ne_5_3, ne_5_4, haw, nI_1]
        exact this
      · rw [if_neg hp0]
        rcases tk_c4 (T (p - 1)) with eb | eb | eb | eb
        · have := fin 2 (some (.int 2)) (some (.int 0)) (hso 0 (by omega) (Or.inl eb)) h0 (Or.inr (Or.inr (by omega)))
          rw [e] at this
          rw [eb, e_44_9]
          simp only [n_44, e_44_0, e_44_1, e_44_2, e_44_5, f_44_6, e_44_7, f_44_8, e_44_10, e_44_11, e_44_14, e_44_17, e_44_20, e_44_21, e_44_24, e_44_25, e_44_28, f_44_31, e_44_32, e_44_33, e_44_34, e_44_37, e_44_38, e_44_41, e_44_42, e_44_43, e_44_46, e_44_47, e_44_48, e_44_51, e_44_52, e_44_53, e_44_56, e_44_57, e_44_58, e_44_61, e_44_62, f_44_66, e_44_68, e_44_69, e_44_71, e_44_74, e_44_75, e_44_79, e_44_80, e_44_83, e_44_112, f_44_113, f_44_114, e_44_117, e_44_78, e_44_65, e_44_86, e_44_87, e_44_90, e_44_91, e_44_94, e_44_97, e_44_98, e_44_101, e_44_102, e_44_105, e_44_106, e_44_107, e_44_108, e_44_109, e_44_110, e_44_111, e_44_120, e_44_121, e_44_124, e_44_125, e_44_128, e_44_129, e_44_130, e_44_131, e_44_134, e_44_135, e_44_138, e_44_139, e_44_142, e_44_145, e_44_146, e_44_147, e_44_150, e_44_151, e_44_154, e_44_155, e_44_156, Option.bind_some, Option.toList_some, Option.toList_none, List.cons_append, List.nil_append, am_k1_i, am_k1_r, am_k1_u, am_k1_n, am_bo0, am_bo1, am_boi, am_ev_tb, am_tb_nil, am_rfs, am_rfn, eq_self, and_self, if_true, if_false, show ¬ (1 : Int32) = 0 from by decide, show ¬ (0 : Int32) = 1 from by decide, not_true, not_false_eq_true, and_true, true_and, and_false, false_and, or_true, true_or, or_false, false_or, co_rd lo', co_e0 lo', co_tp lo', ht', hlt, hat, c_sortOf, e, show nI 2 = (2 : Int32) from rfl, show nI 0 = (0 : Int32) from rfl, ne_0_1, ne_0_2, ne_0_3, ne_0_4, ne_0_5, ne_1_0, ne_1_2, ne_1_3, ne_1_4, ne_1_5, ne_2_0, ne_2_1, ne_2_3, ne_2_4, ne_2_5, ne_3_0, ne_3_1, ne_3_2, ne_3_4, ne_3_5, ne_4_0, ne_4_1, ne_4_2, ne_4_3, ne_4_5, ne_5_0, ne_5_1, ne_5_2, ne_5_3, ne_5_4, haw, nI_1]
          exact this
        · have := fin 2 (some (.int 2)) (some (.int 0)) (hso 1 (by omega) (Or.inl eb)) h0 (Or.inr (Or.inr (by omega)))
          rw [e] at this
          rw [eb, e_44_9]
          simp only [n_44, e_44_0, e_44_1, e_44_2, e_44_5, f_44_6, e_44_7, f_44_8, e_44_10, e_44_11, e_44_14, e_44_17, e_44_20, e_44_21, e_44_24, e_44_25, e_44_28, f_44_31, e_44_32, e_44_33, e_44_34, e_44_37, e_44_38, e_44_41, e_44_42, e_44_43, e_44_46, e_44_47, e_44_48, e_44_51, e_44_52, e_44_53, e_44_56, e_44_57, e_44_58, e_44_61, e_44_62, f_44_66, e_44_68, e_44_69, e_44_71, e_44_74, e_44_75, e_44_79, e_44_80, e_44_83, e_44_112, f_44_113, f_44_114, e_44_117, e_44_78, e_44_65, e_44_86, e_44_87, e_44_90, e_44_91, e_44_94, e_44_97, e_44_98, e_44_101, e_44_102, e_44_105, e_44_106, e_44_107, e_44_108, e_44_109, e_44_110, e_44_111, e_44_120, e_44_121, e_44_124, e_44_125, e_44_128, e_44_129, e_44_130, e_44_131, e_44_134, e_44_135, e_44_138, e_44_139, e_44_142, e_44_145, e_44_146, e_44_147, e_44_150, e_44_151, e_44_154, e_44_155, e_44_156, Option.bind_some, Option.toList_some, Option.toList_none, List.cons_append, List.nil_append, am_k1_i, am_k1_r, am_k1_u, am_k1_n, am_bo0, am_bo1, am_boi, am_ev_tb, am_tb_nil, am_rfs, am_rfn, eq_self, and_self, if_true, if_false, show ¬ (1 : Int32) = 0 from by decide, show ¬ (0 : Int32) = 1 from by decide, not_true, not_false_eq_true, and_true, true_and, and_false, false_and, or_true, true_or, or_false, false_or, co_rd lo', co_e0 lo', co_tp lo', ht', hlt, hat, c_sortOf, e, show nI 2 = (2 : Int32) from rfl, show nI 1 = (1 : Int32) from rfl, ne_0_1, ne_0_2, ne_0_3, ne_0_4, ne_0_5, ne_1_0, ne_1_2, ne_1_3, ne_1_4, ne_1_5, ne_2_0, ne_2_1, ne_2_3, ne_2_4, ne_2_5, ne_3_0, ne_3_1, ne_3_2, ne_3_4, ne_3_5, ne_4_0, ne_4_1, ne_4_2, ne_4_3, ne_4_5, ne_5_0, ne_5_1, ne_5_2, ne_5_3, ne_5_4, haw, nI_1]
          exact this
        · rw [eb]
          exact hmore (by omega) eb
        · have := fin 4 (some (.int 2)) (some (.int 1)) (hso4 (by omega) eb) h0 (Or.inr (Or.inr (by omega)))
          rw [e] at this
          rw [eb, e_44_9]
          simp only [n_44, e_44_0, e_44_1, e_44_2, e_44_5, f_44_6, e_44_7, f_44_8, e_44_10, e_44_11, e_44_14, e_44_17, e_44_20, e_44_21, e_44_24, e_44_25, e_44_28, f_44_31, e_44_32, e_44_33, e_44_34, e_44_37, e_44_38, e_44_41, e_44_42, e_44_43, e_44_46, e_44_47, e_44_48, e_44_51, e_44_52, e_44_53, e_44_56, e_44_57, e_44_58, e_44_61, e_44_62, f_44_66, e_44_68, e_44_69, e_44_71, e_44_74, e_44_75, e_44_79, e_44_80, e_44_83, e_44_112, f_44_113, f_44_114, e_44_117, e_44_78, e_44_65, e_44_86, e_44_87, e_44_90, e_44_91, e_44_94, e_44_97, e_44_98, e_44_101, e_44_102, e_44_105, e_44_106, e_44_107, e_44_108, e_44_109, e_44_110, e_44_111, e_44_120, e_44_121, e_44_124, e_44_125, e_44_128, e_44_129, e_44_130, e_44_131, e_44_134, e_44_135, e_44_138, e_44_139, e_44_142, e_44_145, e_44_146, e_44_147, e_44_150, e_44_151, e_44_154, e_44_155, e_44_156, Option.bind_some, Option.toList_some, Option.toList_none, List.cons_append, List.nil_append, am_k1_i, am_k1_r, am_k1_u, am_k1_n, am_bo0, am_bo1, am_boi, am_ev_tb, am_tb_nil, am_rfs, am_rfn, eq_self, and_self, if_true, if_false, show ¬ (1 : Int32) = 0 from by decide, show ¬ (0 : Int32) = 1 from by decide, not_true, not_false_eq_true, and_true, true_and, and_false, false_and, or_true, true_or, or_false, false_or, co_rd lo', co_e0 lo', co_tp lo', ht', hlt, hat, c_sortOf, e, show nI 2 = (2 : Int32) from rfl, show nI 3 = (3 : Int32) from rfl, ne_0_1, ne_0_2, ne_0_3, ne_0_4, ne_0_5, ne_1_0, ne_1_2, ne_1_3, ne_1_4, ne_1_5, ne_2_0, ne_2_1, ne_2_3, ne_2_4, ne_2_5, ne_3_0, ne_3_1, ne_3_2, ne_3_4, ne_3_5, ne_4_0, ne_4_1, ne_4_2, ne_4_3, ne_4_5, ne_5_0, ne_5_1, ne_5_2, ne_5_3, ne_5_4, haw, nI_1]
          exact this
    · -- letters, digits
      have hmore : 0 < p → tk_c (T (p - 1)) = 3 → ∃ h2 W2 st2 ln2, am_ev G (d + 2) 44 9 [some (.ref (o + 79)), some (.int 3), some (.int (nI p)), x3, x4] [] h' = some (none, h2) ∧ am_fr (cw_S o) h h2 ∧ (∀ k, k ≠ 5 → am_i h2 (o + 79) k = am_i h (o + 79) k) ∧ am_i h2 (o + 79) 5 = nI W2 ∧ cw_A h2 o W2 (fun j => tk_c (T j)) st2 ln2 ∧ (am_i h2 (o + 82) W2 = 5 ∧ am_i h2 (o + 83) W2 = nI (st2 W2) ∧ am_i h2 (o + 84) W2 = nI (ln2 W2)) ∧ tk_Env T t W2 st2 ln2 := by
        intro hp0 eb
        obtain ⟨hW0, S2⟩ := tk_more (c := fun j => tk_c (T j)) (p := p) (by show tk_c (T p) ≠ 0; omega) (by show tk_c (T p) ≠ 1; omega) hp0 (by show tk_c (T p) = tk_c (T (p - 1)); omega) S
        have hle : ¬ nI W ≤ 0 := nI_nle hW0 (by omega)
        have hs1 : nI W - 1 = nI (W - 1) := pk_sub (b := 1) hW0
        have hl := (A (W - 1) (by omega)).2.2
        have := ih (p + 1) (am_pi h' (o + 84) (W - 1) (nI (ln (W - 1) + 1))) W st (tk_u ln (W - 1) (ln (W - 1) + 1)) (some (.int 3)) x4 (by omega) (f.tr (am_fr.pi (Or.inr (Or.inr (Or.inr rfl))))) (fun k hk2 => by rw [am_pi_i, if_neg (by omega)]; exact hk k hk2) (by rw [am_pi_i, if_neg (by omega)]; exact hW) (fun k hk2 => by
          obtain ⟨a1, a2, a3⟩ := A k hk2
          refine ⟨by rw [am_pi_i, if_neg (by omega)]; exact a1, by rw [am_pi_i, if_neg (by omega)]; exact a2, ?_⟩
          by_cases ek : k = W - 1
          · rw [ek, tk_us, am_pi_i, if_pos ⟨rfl, rfl⟩]
          · rw [tk_un ek, am_pi_i, if_neg (fun z => ek z.2)]; exact a3) S2
        rw [eB _ e] at this
        rw [e_44_9]
        simp only [n_44, e_44_0, e_44_1, e_44_2, e_44_5, f_44_6, e_44_7, f_44_8, e_44_10, e_44_11, e_44_14, e_44_17, e_44_20, e_44_21, e_44_24, e_44_25, e_44_28, f_44_31, e_44_32, e_44_33, e_44_34, e_44_37, e_44_38, e_44_41, e_44_42, e_44_43, e_44_46, e_44_47, e_44_48, e_44_51, e_44_52, e_44_53, e_44_56, e_44_57, e_44_58, e_44_61, e_44_62, f_44_66, e_44_68, e_44_69, e_44_71, e_44_74, e_44_75, e_44_79, e_44_80, e_44_83, e_44_112, f_44_113, f_44_114, e_44_117, e_44_78, e_44_65, e_44_86, e_44_87, e_44_90, e_44_91, e_44_94, e_44_97, e_44_98, e_44_101, e_44_102, e_44_105, e_44_106, e_44_107, e_44_108, e_44_109, e_44_110, e_44_111, e_44_120, e_44_121, e_44_124, e_44_125, e_44_128, e_44_129, e_44_130, e_44_131, e_44_134, e_44_135, e_44_138, e_44_139, e_44_142, e_44_145, e_44_146, e_44_147, e_44_150, e_44_151, e_44_154, e_44_155, e_44_156, Option.bind_some, Option.toList_some, Option.toList_none, List.cons_append, List.nil_append, am_k1_i, am_k1_r, am_k1_u, am_k1_n, am_bo0, am_bo1, am_boi, am_ev_tb, am_tb_nil, am_rfs, am_rfn, eq_self, and_self, if_true, if_false, show ¬ (1 : Int32) = 0 from by decide, show ¬ (0 : Int32) = 1 from by decide, not_true, not_false_eq_true, and_true, true_and, and_false, false_and, or_true, true_or, or_false, false_or, co_rd lo', co_e0 lo', co_tp lo', ht', hlt, hat, c_sortOf, e, show nI 3 = (3 : Int32) from rfl, ne_0_1, ne_0_2, ne_0_3, ne_0_4, ne_0_5, ne_1_0, ne_1_2, ne_1_3, ne_1_4, ne_1_5, ne_2_0, ne_2_1, ne_2_3, ne_2_4, ne_2_5, ne_3_0, ne_3_1, ne_3_2, ne_3_4, ne_3_5, ne_4_0, ne_4_1, ne_4_2, ne_4_3, ne_4_5, ne_5_0, ne_5_1, ne_5_2, ne_5_3, ne_5_4, hW, hle, hs1, co_e3 lo', co_3a lo' (show W - 1 < 97 by omega), co_3w lo' (show W - 1 < 97 by omega), am_cl (show W - 1 < 2147483648 by omega), hl, nI_1]
        exact this
      have h0 : tk_c (T p) ≠ 0 := by omega
      have hso : ∀ b, b = 0 ∨ b = 1 → tk_c (T (p - 1)) = b ∨ p = 0 → (3 : Int32) = nI (tk_so (fun j => tk_c (T j)) p) := fun b hb hq => by
        show (3 : Int32) = nI (if tk_c (T p) = 1 then 1 else if 0 < p ∧ (tk_c (T (p - 1)) = 2 ∨ tk_c (T (p - 1)) = 3) then 4 else tk_c (T p))
        rw [if_neg (by rw [e]; decide), if_neg (fun z => by rcases hq with q | q <;> omega), e]
        rfl
      have hso4 : 0 < p → tk_c (T (p - 1)) = 2 → (4 : Int32) = nI (tk_so (fun j => tk_c (T j)) p) := fun h1 h2 => by
        show (4 : Int32) = nI (if tk_c (T p) = 1 then 1 else if 0 < p ∧ (tk_c (T (p - 1)) = 2 ∨ tk_c (T (p - 1)) = 3) then 4 else tk_c (T p))
        rw [if_neg (by rw [e]; decide), if_pos ⟨h1, by omega⟩]
        rfl
      by_cases hp0 : p = 0
      · have := fin 3 (some (.int 3)) (some (.int 0)) (hso 0 (Or.inl rfl) (Or.inr hp0)) h0 (Or.inr (Or.inl hp0))
        rw [e] at this
        rw [if_pos hp0, e_44_9]
        simp only [n_44, e_44_0, e_44_1, e_44_2, e_44_5, f_44_6, e_44_7, f_44_8, e_44_10, e_44_11, e_44_14, e_44_17, e_44_20, e_44_21, e_44_24, e_44_25, e_44_28, f_44_31, e_44_32, e_44_33, e_44_34, e_44_37, e_44_38, e_44_41, e_44_42, e_44_43, e_44_46, e_44_47, e_44_48, e_44_51, e_44_52, e_44_53, e_44_56, e_44_57, e_44_58, e_44_61, e_44_62, f_44_66, e_44_68, e_44_69, e_44_71, e_44_74, e_44_75, e_44_79, e_44_80, e_44_83, e_44_112, f_44_113, f_44_114, e_44_117, e_44_78, e_44_65, e_44_86, e_44_87, e_44_90, e_44_91, e_44_94, e_44_97, e_44_98, e_44_101, e_44_102, e_44_105, e_44_106, e_44_107, e_44_108, e_44_109, e_44_110, e_44_111, e_44_120, e_44_121, e_44_124, e_44_125, e_44_128, e_44_129, e_44_130, e_44_131, e_44_134, e_44_135, e_44_138, e_44_139, e_44_142, e_44_145, e_44_146, e_44_147, e_44_150, e_44_151, e_44_154, e_44_155, e_44_156, Option.bind_some, Option.toList_some, Option.toList_none, List.cons_append, List.nil_append, am_k1_i, am_k1_r, am_k1_u, am_k1_n, am_bo0, am_bo1, am_boi, am_ev_tb, am_tb_nil, am_rfs, am_rfn, eq_self, and_self, if_true, if_false, show ¬ (1 : Int32) = 0 from by decide, show ¬ (0 : Int32) = 1 from by decide, not_true, not_false_eq_true, and_true, true_and, and_false, false_and, or_true, true_or, or_false, false_or, co_rd lo', co_e0 lo', co_tp lo', ht', hlt, hat, c_sortOf, e, show nI 3 = (3 : Int32) from rfl, show nI 0 = (0 : Int32) from rfl, ne_0_1, ne_0_2, ne_0_3, ne_0_4, ne_0_5, ne_1_0, ne_1_2, ne_1_3, ne_1_4, ne_1_5, ne_2_0, ne_2_1, ne_2_3, ne_2_4, ne_2_5, ne_3_0, ne_3_1, ne_3_2, ne_3_4, ne_3_5, ne_4_0, ne_4_1, ne_4_2, ne_4_3, ne_4_5, ne_5_0, ne_5_1, ne_5_2, ne_5_3, ne_5_4, haw, nI_1]
        exact this
      · rw [if_neg hp0]
        rcases tk_c4 (T (p - 1)) with eb | eb | eb | eb
        · have := fin 3 (some (.int 3)) (some (.int 0)) (hso 0 (by omega) (Or.inl eb)) h0 (Or.inr (Or.inr (by omega)))
          rw [e] at this
          rw [eb, e_44_9]
          simp only [n_44, e_44_0, e_44_1, e_44_2, e_44_5, f_44_6, e_44_7, f_44_8, e_44_10, e_44_11, e_44_14, e_44_17, e_44_20, e_44_21, e_44_24, e_44_25, e_44_28, f_44_31, e_44_32, e_44_33, e_44_34, e_44_37, e_44_38, e_44_41, e_44_42, e_44_43, e_44_46, e_44_47, e_44_48, e_44_51, e_44_52, e_44_53, e_44_56, e_44_57, e_44_58, e_44_61, e_44_62, f_44_66, e_44_68, e_44_69, e_44_71, e_44_74, e_44_75, e_44_79, e_44_80, e_44_83, e_44_112, f_44_113, f_44_114, e_44_117, e_44_78, e_44_65, e_44_86, e_44_87, e_44_90, e_44_91, e_44_94, e_44_97, e_44_98, e_44_101, e_44_102, e_44_105, e_44_106, e_44_107, e_44_108, e_44_109, e_44_110, e_44_111, e_44_120, e_44_121, e_44_124, e_44_125, e_44_128, e_44_129, e_44_130, e_44_131, e_44_134, e_44_135, e_44_138, e_44_139, e_44_142, e_44_145, e_44_146, e_44_147, e_44_150, e_44_151, e_44_154, e_44_155, e_44_156, Option.bind_some, Option.toList_some, Option.toList_none, List.cons_append, List.nil_append, am_k1_i, am_k1_r, am_k1_u, am_k1_n, am_bo0, am_bo1, am_boi, am_ev_tb, am_tb_nil, am_rfs, am_rfn, eq_self, and_self, if_true, if_false, show ¬ (1 : Int32) = 0 from by decide, show ¬ (0 : Int32) = 1 from by decide, not_true, not_false_eq_true, and_true, true_and, and_false, false_and, or_true, true_or, or_false, false_or, co_rd lo', co_e0 lo', co_tp lo', ht', hlt, hat, c_sortOf, e, show nI 3 = (3 : Int32) from rfl, show nI 0 = (0 : Int32) from rfl, ne_0_1, ne_0_2, ne_0_3, ne_0_4, ne_0_5, ne_1_0, ne_1_2, ne_1_3, ne_1_4, ne_1_5, ne_2_0, ne_2_1, ne_2_3, ne_2_4, ne_2_5, ne_3_0, ne_3_1, ne_3_2, ne_3_4, ne_3_5, ne_4_0, ne_4_1, ne_4_2, ne_4_3, ne_4_5, ne_5_0, ne_5_1, ne_5_2, ne_5_3, ne_5_4, haw, nI_1]
          exact this
        · have := fin 3 (some (.int 3)) (some (.int 0)) (hso 1 (by omega) (Or.inl eb)) h0 (Or.inr (Or.inr (by omega)))
          rw [e] at this
          rw [eb, e_44_9]
          simp only [n_44, e_44_0, e_44_1, e_44_2, e_44_5, f_44_6, e_44_7, f_44_8, e_44_10, e_44_11, e_44_14, e_44_17, e_44_20, e_44_21, e_44_24, e_44_25, e_44_28, f_44_31, e_44_32, e_44_33, e_44_34, e_44_37, e_44_38, e_44_41, e_44_42, e_44_43, e_44_46, e_44_47, e_44_48, e_44_51, e_44_52, e_44_53, e_44_56, e_44_57, e_44_58, e_44_61, e_44_62, f_44_66, e_44_68, e_44_69, e_44_71, e_44_74, e_44_75, e_44_79, e_44_80, e_44_83, e_44_112, f_44_113, f_44_114, e_44_117, e_44_78, e_44_65, e_44_86, e_44_87, e_44_90, e_44_91, e_44_94, e_44_97, e_44_98, e_44_101, e_44_102, e_44_105, e_44_106, e_44_107, e_44_108, e_44_109, e_44_110, e_44_111, e_44_120, e_44_121, e_44_124, e_44_125, e_44_128, e_44_129, e_44_130, e_44_131, e_44_134, e_44_135, e_44_138, e_44_139, e_44_142, e_44_145, e_44_146, e_44_147, e_44_150, e_44_151, e_44_154, e_44_155, e_44_156, Option.bind_some, Option.toList_some, Option.toList_none, List.cons_append, List.nil_append, am_k1_i, am_k1_r, am_k1_u, am_k1_n, am_bo0, am_bo1, am_boi, am_ev_tb, am_tb_nil, am_rfs, am_rfn, eq_self, and_self, if_true, if_false, show ¬ (1 : Int32) = 0 from by decide, show ¬ (0 : Int32) = 1 from by decide, not_true, not_false_eq_true, and_true, true_and, and_false, false_and, or_true, true_or, or_false, false_or, co_rd lo', co_e0 lo', co_tp lo', ht', hlt, hat, c_sortOf, e, show nI 3 = (3 : Int32) from rfl, show nI 1 = (1 : Int32) from rfl, ne_0_1, ne_0_2, ne_0_3, ne_0_4, ne_0_5, ne_1_0, ne_1_2, ne_1_3, ne_1_4, ne_1_5, ne_2_0, ne_2_1, ne_2_3, ne_2_4, ne_2_5, ne_3_0, ne_3_1, ne_3_2, ne_3_4, ne_3_5, ne_4_0, ne_4_1, ne_4_2, ne_4_3, ne_4_5, ne_5_0, ne_5_1, ne_5_2, ne_5_3, ne_5_4, haw, nI_1]
          exact this
        · have := fin 4 (some (.int 3)) (some (.int 1)) (hso4 (by omega) eb) h0 (Or.inr (Or.inr (by omega)))
          rw [e] at this
          rw [eb, e_44_9]
          simp only [n_44, e_44_0, e_44_1, e_44_2, e_44_5, f_44_6, e_44_7, f_44_8, e_44_10, e_44_11, e_44_14, e_44_17, e_44_20, e_44_21, e_44_24, e_44_25, e_44_28, f_44_31, e_44_32, e_44_33, e_44_34, e_44_37, e_44_38, e_44_41, e_44_42, e_44_43, e_44_46, e_44_47, e_44_48, e_44_51, e_44_52, e_44_53, e_44_56, e_44_57, e_44_58, e_44_61, e_44_62, f_44_66, e_44_68, e_44_69, e_44_71, e_44_74, e_44_75, e_44_79, e_44_80, e_44_83, e_44_112, f_44_113, f_44_114, e_44_117, e_44_78, e_44_65, e_44_86, e_44_87, e_44_90, e_44_91, e_44_94, e_44_97, e_44_98, e_44_101, e_44_102, e_44_105, e_44_106, e_44_107, e_44_108, e_44_109, e_44_110, e_44_111, e_44_120, e_44_121, e_44_124, e_44_125, e_44_128, e_44_129, e_44_130, e_44_131, e_44_134, e_44_135, e_44_138, e_44_139, e_44_142, e_44_145, e_44_146, e_44_147, e_44_150, e_44_151, e_44_154, e_44_155, e_44_156, Option.bind_some, Option.toList_some, Option.toList_none, List.cons_append, List.nil_append, am_k1_i, am_k1_r, am_k1_u, am_k1_n, am_bo0, am_bo1, am_boi, am_ev_tb, am_tb_nil, am_rfs, am_rfn, eq_self, and_self, if_true, if_false, show ¬ (1 : Int32) = 0 from by decide, show ¬ (0 : Int32) = 1 from by decide, not_true, not_false_eq_true, and_true, true_and, and_false, false_and, or_true, true_or, or_false, false_or, co_rd lo', co_e0 lo', co_tp lo', ht', hlt, hat, c_sortOf, e, show nI 3 = (3 : Int32) from rfl, show nI 2 = (2 : Int32) from rfl, ne_0_1, ne_0_2, ne_0_3, ne_0_4, ne_0_5, ne_1_0, ne_1_2, ne_1_3, ne_1_4, ne_1_5, ne_2_0, ne_2_1, ne_2_3, ne_2_4, ne_2_5, ne_3_0, ne_3_1, ne_3_2, ne_3_4, ne_3_5, ne_4_0, ne_4_1, ne_4_2, ne_4_3, ne_4_5, ne_5_0, ne_5_1, ne_5_2, ne_5_3, ne_5_4, haw, nI_1]
          exact this
        · rw [eb]
          exact hmore (by omega) eb
theorem c_splitTape (lo : cl_Obj G h o) {t : Nat} {T : Nat → Int32} (ht : am_i h (o + 80) 1 = nI t) (ht96 : t ≤ 96) (hT : ∀ j, j < t → am_i h (o + 81) j &&& 255 = T j) : ∃ h2 W st ln, am_evm G (d + 2) 44 [.ref (o + 79)] h = some (none, h2) ∧ am_fr (cw_S o) h h2 ∧ (∀ k, k ≠ 5 → am_i h2 (o + 79) k = am_i h (o + 79) k) ∧ am_i h2 (o + 79) 5 = nI W ∧ cw_A h2 o W (fun j => tk_c (T j)) st ln ∧ (am_i h2 (o + 82) W = 5 ∧ am_i h2 (o + 83) W = nI (st W) ∧ am_i h2 (o + 84) W = nI (ln W)) ∧ tk_Env T t W st ln := by
  have f1 : am_fr (cw_S o) h (am_pi h (o + 79) 5 0) := am_fr.pi (Or.inl rfl)
  obtain ⟨h2, W, st, ln, e, f2, k2, w2, a2, b2, s2⟩ := c_split_l (d := d) (h := am_pi h (o + 79) 5 0) (T := T) (lo.fr f1) (t := t) (by rw [(am_pi_o _ (by omega)).1]; exact ht) ht96 (fun j hj => by rw [(am_pi_o _ (by omega)).1]; exact hT j hj) t 0 (am_pi h (o + 79) 5 0) 0 (fun _ => 0) (fun _ => 0) none none (by omega) am_fr.rf (fun _ _ => rfl) (by rw [am_pi_i, if_pos ⟨rfl, rfl⟩]; rfl) (fun k hk => absurd hk (Nat.not_lt_zero k)) tk_Sp0
  refine ⟨h2, W, st, ln, ?_, f1.tr f2, fun k hk => by rw [k2 k hk, am_pi_i, if_neg (fun z => hk z.2)], w2, a2, b2, s2⟩
  rw [← e]
  simp only [n_44, e_44_0, e_44_1, e_44_2, e_44_5, f_44_6, e_44_7, f_44_8, e_44_10, e_44_11, e_44_14, e_44_17, e_44_20, e_44_21, e_44_24, e_44_25, e_44_28, f_44_31, e_44_32, e_44_33, e_44_34, e_44_37, e_44_38, e_44_41, e_44_42, e_44_43, e_44_46, e_44_47, e_44_48, e_44_51, e_44_52, e_44_53, e_44_56, e_44_57, e_44_58, e_44_61, e_44_62, f_44_66, e_44_68, e_44_69, e_44_71, e_44_74, e_44_75, e_44_79, e_44_80, e_44_83, e_44_112, f_44_113, f_44_114, e_44_117, e_44_78, e_44_65, e_44_86, e_44_87, e_44_90, e_44_91, e_44_94, e_44_97, e_44_98, e_44_101, e_44_102, e_44_105, e_44_106, e_44_107, e_44_108, e_44_109, e_44_110, e_44_111, e_44_120, e_44_121, e_44_124, e_44_125, e_44_128, e_44_129, e_44_130, e_44_131, e_44_134, e_44_135, e_44_138, e_44_139, e_44_142, e_44_145, e_44_146, e_44_147, e_44_150, e_44_151, e_44_154, e_44_155, e_44_156, Option.bind_some, Option.toList_some, Option.toList_none, List.cons_append, List.nil_append, am_k1_i, am_k1_r, am_k1_u, am_k1_n, am_bo0, am_bo1, am_boi, am_ev_tb, am_tb_nil, am_rfs, am_rfn, eq_self, and_self, if_true, if_false, show ¬ (1 : Int32) = 0 from by decide, show ¬ (0 : Int32) = 1 from by decide, not_true, not_false_eq_true, and_true, true_and, and_false, false_and, or_true, true_or, or_false, false_or, co_rd lo]
  rfl
end CT
