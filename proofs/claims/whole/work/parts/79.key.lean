/-! the first word -/
section KW
variable {G : Nat → Nat} {d : Nat} {h0 h : am_H} {o t W key k : Nat} {T : Nat → Int32} {st ln : Nat → Nat}
theorem e_231_5n {l0 l1 : Option Value} {v0 v1 : Int32} : am_ev G (d + 1) 231 5 [l0, l1] [.null, .int v1, .int v0] h = (am_evm G d 233 [.int v0, .int v1, .null] h).bind (fun q => am_ev G (d + 1) 231 8 [l0, l1] (q.1.toList ++ []) q.2) := am_e_call am_M231 (by decide +kernel : decode cJ0_checkIndex_df160 5 = .ok (.invokestatic 1059, 3)) rfl rfl rfl (am_n_st (by decide +kernel : am_lk am_biT 11 1059 = none)) (am_c_st (vs := [.int v0, .int v1, .null]) (by decide +kernel : am_lk am_mlT 11 1059 = some (233, 0)) am_M233 rfl rfl rfl (by simp) (by simp [am_slt, Value.category])) rfl
theorem n_233n {a0 a1 : Int32} : am_evm G d 233 [.int a0, .int a1, .null] h = am_ev G d 233 0 [some (.int a0), some (.int a1), some .null] [] h := rfl
/-- a word constant: its row of bytes w, n of them, x -/
def ks (G : Nat → Nat) (h : am_H) (s w n : Nat) (x : Nat → Int32) : Prop := (am_str G s = some w ∧ w < G 0 ∧ am_sh h w = (32, n) ∧ am_i h w = x) ∧ n ≤ 4 ∧ ∀ j, j < n → ((x j &&& 255).toUInt32 % 65536).toInt32 = x j ∧ am_bo .char (x j)
theorem ks_len {s w n : Nat} {x : Nat → Int32} (K : ks G h s w n x) : am_evm G (d + 1) 227 [.ref s] h = some (some (.int (nI n)), h) := by
  obtain ⟨⟨k1, k2, k3, k4⟩, k5, k6⟩ := K
  have hal : am_al G h w := Or.inr ⟨k2, by rw [k3]; exact ⟨by show 30 ≤ 32; decide, by show 32 ≤ 32; decide⟩⟩
  have hb : am_bo .byte 0 := rfl
  have hi : (am_str G s).isSome = true := by rw [k1]; rfl
  have hn : Int32.ofNat (am_sh h w).2 >>> ((0 : Int32) &&& 31) = nI n := by
    rw [k3]
    rcases (show n = 0 ∨ n = 1 ∨ n = 2 ∨ n = 3 ∨ n = 4 by omega) with rfl | rfl | rfl | rfl | rfl <;> decide
  have ec : am_evm G d 229 [.ref s] h = some (some (.int 0), h) := by
    simp only [n_229, e_229_0, e_229_3, e_229_6, e_229_10, f_229_14, e_229_13, e_229_7 k1, Option.bind_some, Option.toList_some, Option.toList_none, List.cons_append, List.nil_append, am_k1_i, am_k1_r, am_k1_u, am_k1_n, am_bo0, am_bo1, am_boi, am_ev_tb, am_tb_nil, am_rfs, am_rfn, eq_self, and_self, if_true, if_false, show ¬ (1 : Int32) = 0 from by decide, show ¬ (0 : Int32) = 1 from by decide, not_true, not_false_eq_true, and_true, true_and, and_false, false_and, or_true, true_or, or_false, false_or, hb]
  simp only [n_227, e_227_0, e_227_4, e_227_5, e_227_6, e_227_9, e_227_10, e_227_1 k1, Option.bind_some, Option.toList_some, Option.toList_none, List.cons_append, List.nil_append, am_k1_i, am_k1_r, am_k1_u, am_k1_n, am_bo0, am_bo1, am_boi, am_ev_tb, am_tb_nil, am_rfs, am_rfn, eq_self, and_self, if_true, if_false, show ¬ (1 : Int32) = 0 from by decide, show ¬ (0 : Int32) = 1 from by decide, not_true, not_false_eq_true, and_true, true_and, and_false, false_and, or_true, true_or, or_false, false_or, hal, hi, ec, hn]
theorem ks_chk {i n : Nat} (hi : i < n) (hn : n ≤ 4) : am_evm G (d + 1) 231 [.int (nI i), .int (nI n)] h = some (none, h) := by
  have h1 : ¬ nI i < 0 := nI_pos (by omega)
  have h2 : nI i < nI n := nI_lt hi (by omega)
  by_cases q : G 6 = 0
  · have hf : am_fmt G = .null := by unfold am_fmt; rw [if_pos q]; rfl
    simp only [n_231, e_231_0, e_231_1, e_231_2, e_231_5, e_231_8, e_231_9, e_231_5n, n_233n, n_233, e_233_0, e_233_1, e_233_4, e_233_5, e_233_6, e_233_9, e_233_10, e_233_11, e_233_16, e_233_17, Option.bind_some, Option.toList_some, Option.toList_none, List.cons_append, List.nil_append, am_k1_i, am_k1_r, am_k1_u, am_k1_n, am_bo0, am_bo1, am_boi, am_ev_tb, am_tb_nil, am_rfs, am_rfn, eq_self, and_self, if_true, if_false, show ¬ (1 : Int32) = 0 from by decide, show ¬ (0 : Int32) = 1 from by decide, not_true, not_false_eq_true, and_true, true_and, and_false, false_and, or_true, true_or, or_false, false_or, hf, h1, h2]
  · have hf : am_fmt G = .ref (G 6 - 1) := by unfold am_fmt; rw [if_neg q]; rfl
    simp only [n_231, e_231_0, e_231_1, e_231_2, e_231_5, e_231_8, e_231_9, n_233, e_233_0, e_233_1, e_233_4, e_233_5, e_233_6, e_233_9, e_233_10, e_233_11, e_233_16, e_233_17, Option.bind_some, Option.toList_some, Option.toList_none, List.cons_append, List.nil_append, am_k1_i, am_k1_r, am_k1_u, am_k1_n, am_bo0, am_bo1, am_boi, am_ev_tb, am_tb_nil, am_rfs, am_rfn, eq_self, and_self, if_true, if_false, show ¬ (1 : Int32) = 0 from by decide, show ¬ (0 : Int32) = 1 from by decide, not_true, not_false_eq_true, and_true, true_and, and_false, false_and, or_true, true_or, or_false, false_or, hf, h1, h2]
theorem ks_at {s w n i : Nat} {x : Nat → Int32} (K : ks G h s w n x) (hi : i < n) : am_evm G (d + 3) 228 [.ref s, .int (nI i)] h = some (some (.int (x i)), h) := by
  obtain ⟨⟨k1, k2, k3, k4⟩, k5, k6⟩ := K
  obtain ⟨q1, q2⟩ := k6 i hi
  have hal : am_al G h w := Or.inr ⟨k2, by rw [k3]; exact ⟨by show 30 ≤ 32; decide, by show 32 ≤ 32; decide⟩⟩
  have hst : (am_str G s).isSome = true := by rw [k1]; rfl
  have hba : am_ba G h w (nI i) := ⟨Or.inr ⟨k2, by rw [k3]⟩, by rw [k3]; exact nI_in hi (by omega)⟩
  have hsz : Int32.ofNat (am_sh h w).2 = nI n := by rw [k3]; rfl
  have el : am_evm G (d + 2) 230 [.ref s] h = some (some (.int 1), h) := by
    simp only [n_230, e_230_0, e_230_3, e_230_6, e_230_10, e_230_13, e_230_14, f_230_18, e_230_17, e_230_7 k1, Option.bind_some, Option.toList_some, Option.toList_none, List.cons_append, List.nil_append, am_k1_i, am_k1_r, am_k1_u, am_k1_n, am_bo0, am_bo1, am_boi, am_ev_tb, am_tb_nil, am_rfs, am_rfn, eq_self, and_self, if_true, if_false, show ¬ (1 : Int32) = 0 from by decide, show ¬ (0 : Int32) = 1 from by decide, not_true, not_false_eq_true, and_true, true_and, and_false, false_and, or_true, true_or, or_false, false_or]
  have ec : am_evm G (d + 2) 232 [.ref w, .int (nI i)] h = some (some (.int (x i)), h) := by
    simp only [n_232, e_232_0, e_232_1, e_232_2, e_232_3, e_232_6, e_232_7, e_232_8, e_232_9, e_232_12, e_232_13, f_232_14, Option.bind_some, Option.toList_some, Option.toList_none, List.cons_append, List.nil_append, am_k1_i, am_k1_r, am_k1_u, am_k1_n, am_bo0, am_bo1, am_boi, am_ev_tb, am_tb_nil, am_rfs, am_rfn, eq_self, and_self, if_true, if_false, show ¬ (1 : Int32) = 0 from by decide, show ¬ (0 : Int32) = 1 from by decide, not_true, not_false_eq_true, and_true, true_and, and_false, false_and, or_true, true_or, or_false, false_or, hal, hsz, ks_chk hi k5, hba, am_cl (show i < 2147483648 by omega), k4, q1, q2]
  simp only [n_228, e_228_0, e_228_1, e_228_4, e_228_7, e_228_11, e_228_12, f_228_15, e_228_16, e_228_17, e_228_20, e_228_8 k1, Option.bind_some, Option.toList_some, Option.toList_none, List.cons_append, List.nil_append, am_k1_i, am_k1_r, am_k1_u, am_k1_n, am_bo0, am_bo1, am_boi, am_ev_tb, am_tb_nil, am_rfs, am_rfn, eq_self, and_self, if_true, if_false, show ¬ (1 : Int32) = 0 from by decide, show ¬ (0 : Int32) = 1 from by decide, not_true, not_false_eq_true, and_true, true_and, and_false, false_and, or_true, true_or, or_false, false_or, hst, el, ec, q2]
def tk_is (T : Nat → Int32) (st ln : Nat → Nat) (k n : Nat) (x : Nat → Int32) : Prop := ln k = n ∧ ∀ j, j < n → T (st k + j) = x j
theorem c_iw_l (E : pc_E G h0 o T t W st ln key) (f : am_fr (pc_Q o) h0 h) {s w n : Nat} {x : Nat → Int32} (K : ks G h s w n x) (hk : k < W) (h6 : am_i h (o + 79) 6 = nI k) (hn : ln k = n) : ∀ j i, i + j = n → (∀ q, q < i → T (st k + q) = x q) → ∃ v : Int32, am_ev G (d + 4) 51 20 [some (.ref (o + 79)), some (.ref s), some (.int (nI i))] [] h = some (some (.int v), h) ∧ ((v = 1 ∧ tk_is T st ln k n x) ∨ (v = 0 ∧ ¬ tk_is T st ln k n x)) := by
  have lo := pc_lo E f
  have hW := pc_W E
  have hst : (am_str G s).isSome = true := by rw [K.1.1]; rfl
  obtain ⟨⟨w1, w2, w3⟩, -⟩ := E.2.2.1.w hk
  have n4 := K.2.1
  intro j
  induction j with
  | zero =>
    intro i hi hq
    obtain rfl : i = n := by omega
    refine ⟨1, ?_, Or.inl ⟨rfl, hn, hq⟩⟩
    rw [e_51_20]
    simp only [n_51, e_51_0, e_51_1, e_51_4, e_51_5, e_51_8, e_51_9, e_51_10, e_51_13, e_51_16, f_51_17, e_51_18, f_51_19, e_51_21, e_51_22, e_51_25, e_51_28, e_51_29, e_51_32, e_51_33, e_51_36, e_51_37, e_51_40, e_51_41, e_51_42, e_51_43, e_51_46, e_51_47, e_51_48, e_51_51, e_51_54, f_51_55, f_51_56, e_51_59, e_51_62, f_51_63, Option.bind_some, Option.toList_some, Option.toList_none, List.cons_append, List.nil_append, am_k1_i, am_k1_r, am_k1_u, am_k1_n, am_bo0, am_bo1, am_boi, am_ev_tb, am_tb_nil, am_rfs, am_rfn, eq_self, and_self, if_true, if_false, show ¬ (1 : Int32) = 0 from by decide, show ¬ (0 : Int32) = 1 from by decide, not_true, not_false_eq_true, and_true, true_and, and_false, false_and, or_true, true_or, or_false, false_or, hst, ks_len K, Int32.le_refl]
  | succ j ih =>
    intro i hi hq
    have hlt : ¬ nI n ≤ nI i := nI_ge (by omega) (by omega)
    have hat := pc_at (d := d + 2) E f (p := st k + i) (by omega)
    have hch := ks_at (d := d) K (show i < n by omega)
    rw [e_51_20]
    by_cases he : T (st k + i) = x i
    · simp only [n_51, e_51_0, e_51_1, e_51_4, e_51_5, e_51_8, e_51_9, e_51_10, e_51_13, e_51_16, f_51_17, e_51_18, f_51_19, e_51_21, e_51_22, e_51_25, e_51_28, e_51_29, e_51_32, e_51_33, e_51_36, e_51_37, e_51_40, e_51_41, e_51_42, e_51_43, e_51_46, e_51_47, e_51_48, e_51_51, e_51_54, f_51_55, f_51_56, e_51_59, e_51_62, f_51_63, Option.bind_some, Option.toList_some, Option.toList_none, List.cons_append, List.nil_append, am_k1_i, am_k1_r, am_k1_u, am_k1_n, am_bo0, am_bo1, am_boi, am_ev_tb, am_tb_nil, am_rfs, am_rfn, eq_self, and_self, if_true, if_false, show ¬ (1 : Int32) = 0 from by decide, show ¬ (0 : Int32) = 1 from by decide, not_true, not_false_eq_true, and_true, true_and, and_false, false_and, or_true, true_or, or_false, false_or, hst, ks_len K, hlt, co_rd lo, co_e0 lo, co_tp lo, co_e2 lo, h6, co_2a lo (show k < 97 by omega), am_cl (show k < 2147483648 by omega), pc_st E f (Nat.le_of_lt hk), nI_add, hat, hch, he, nI_1]
      exact ih (i + 1) (by omega) (fun q hq2 => by
        by_cases e : q = i
        · rw [e]; exact he
        · exact hq q (by omega))
    · refine ⟨0, ?_, Or.inr ⟨rfl, fun z => he (z.2 i (by omega))⟩⟩
      simp only [n_51, e_51_0, e_51_1, e_51_4, e_51_5, e_51_8, e_51_9, e_51_10, e_51_13, e_51_16, f_51_17, e_51_18, f_51_19, e_51_21, e_51_22, e_51_25, e_51_28, e_51_29, e_51_32, e_51_33, e_51_36, e_51_37, e_51_40, e_51_41, e_51_42, e_51_43, e_51_46, e_51_47, e_51_48, e_51_51, e_51_54, f_51_55, f_51_56, e_51_59, e_51_62, f_51_63, Option.bind_some, Option.toList_some, Option.toList_none, List.cons_append, List.nil_append, am_k1_i, am_k1_r, am_k1_u, am_k1_n, am_bo0, am_bo1, am_boi, am_ev_tb, am_tb_nil, am_rfs, am_rfn, eq_self, and_self, if_true, if_false, show ¬ (1 : Int32) = 0 from by decide, show ¬ (0 : Int32) = 1 from by decide, not_true, not_false_eq_true, and_true, true_and, and_false, false_and, or_true, true_or, or_false, false_or, hst, ks_len K, hlt, co_rd lo, co_e0 lo, co_tp lo, co_e2 lo, h6, co_2a lo (show k < 97 by omega), am_cl (show k < 2147483648 by omega), pc_st E f (Nat.le_of_lt hk), nI_add, hat, hch, he]
theorem c_isWord (E : pc_E G h0 o T t W st ln key) (f : am_fr (pc_Q o) h0 h) {s w n : Nat} {x : Nat → Int32} (K : ks G h s w n x) (hn0 : 0 < n) (hk : k ≤ W) (h6 : am_i h (o + 79) 6 = nI k) : ∃ v : Int32, am_evm G (d + 4) 51 [.ref (o + 79), .ref s] h = some (some (.int v), h) ∧ ((v = 1 ∧ tk_is T st ln k n x) ∨ (v = 0 ∧ ¬ tk_is T st ln k n x)) := by
  have lo := pc_lo E f
  have hW := pc_W E
  have ht96 := E.2.2.1.1
  have hst : (am_str G s).isSome = true := by rw [K.1.1]; rfl
  have n4 := K.2.1
  by_cases hl : ln k = n
  · have hkW : k < W := by
      apply Classical.byContradiction
      intro z
      have := E.2.2.1.2.2.2
      rw [show k = W by omega] at hl
      omega
    obtain ⟨v, e, hv⟩ := c_iw_l (d := d) E f K hkW h6 hl n 0 (by omega) (fun q hq => absurd hq (Nat.not_lt_zero q))
    refine ⟨v, ?_, hv⟩
    rw [← e]
    simp only [n_51, e_51_0, e_51_1, e_51_4, e_51_5, e_51_8, e_51_9, e_51_10, e_51_13, e_51_16, f_51_17, e_51_18, f_51_19, e_51_21, e_51_22, e_51_25, e_51_28, e_51_29, e_51_32, e_51_33, e_51_36, e_51_37, e_51_40, e_51_41, e_51_42, e_51_43, e_51_46, e_51_47, e_51_48, e_51_51, e_51_54, f_51_55, f_51_56, e_51_59, e_51_62, f_51_63, Option.bind_some, Option.toList_some, Option.toList_none, List.cons_append, List.nil_append, am_k1_i, am_k1_r, am_k1_u, am_k1_n, am_bo0, am_bo1, am_boi, am_ev_tb, am_tb_nil, am_rfs, am_rfn, eq_self, and_self, if_true, if_false, show ¬ (1 : Int32) = 0 from by decide, show ¬ (0 : Int32) = 1 from by decide, not_true, not_false_eq_true, and_true, true_and, and_false, false_and, or_true, true_or, or_false, false_or, co_rd lo, co_e3 lo, h6, co_3a lo (show k < 97 by omega), am_cl (show k < 2147483648 by omega), pc_ln E f hk, hst, ks_len K, hl]
    rfl
  · refine ⟨0, ?_, Or.inr ⟨rfl, fun z => hl z.1⟩⟩
    have hb : ln k ≤ 96 := by
      by_cases z : k < W
      · have := (E.2.2.1.w z).1; omega
      · rw [show k = W by omega, E.2.2.1.2.2.2]; omega
    have hne : ¬ nI (ln k) = nI n := fun z => hl ((nI_eq (by omega) (by omega)).mp z)
    simp only [n_51, e_51_0, e_51_1, e_51_4, e_51_5, e_51_8, e_51_9, e_51_10, e_51_13, e_51_16, f_51_17, e_51_18, f_51_19, e_51_21, e_51_22, e_51_25, e_51_28, e_51_29, e_51_32, e_51_33, e_51_36, e_51_37, e_51_40, e_51_41, e_51_42, e_51_43, e_51_46, e_51_47, e_51_48, e_51_51, e_51_54, f_51_55, f_51_56, e_51_59, e_51_62, f_51_63, Option.bind_some, Option.toList_some, Option.toList_none, List.cons_append, List.nil_append, am_k1_i, am_k1_r, am_k1_u, am_k1_n, am_bo0, am_bo1, am_boi, am_ev_tb, am_tb_nil, am_rfs, am_rfn, eq_self, and_self, if_true, if_false, show ¬ (1 : Int32) = 0 from by decide, show ¬ (0 : Int32) = 1 from by decide, not_true, not_false_eq_true, and_true, true_and, and_false, false_and, or_true, true_or, or_false, false_or, co_rd lo, co_e3 lo, h6, co_3a lo (show k < 97 by omega), am_cl (show k < 2147483648 by omega), pc_ln E f hk, hst, ks_len K, hne]
theorem cl_E.k0 (E : cl_E G h) : ks G h (G 3) (G 7) 3 (am_TX 0) := ⟨⟨if_pos rfl, E.2.2.1.1, E.2.2.1.2.1, E.2.2.1.2.2⟩, by omega, fun j hj => by
  rcases (show j = 0 ∨ j = 1 ∨ j = 2 by omega) with rfl | rfl | rfl <;> exact ⟨by decide, rfl⟩⟩
theorem cl_E.k1 (E : cl_E G h) : ks G h (G 4) (G 8) 4 (am_TX 1) := ⟨⟨(if_neg (fun z => E.2.2.2.2.2.1 z.symm)).trans (if_pos rfl), E.2.2.2.1.1, E.2.2.2.1.2.1, E.2.2.2.1.2.2⟩, by omega, fun j hj => by
  rcases (show j = 0 ∨ j = 1 ∨ j = 2 ∨ j = 3 by omega) with rfl | rfl | rfl | rfl <;> exact ⟨by decide, rfl⟩⟩
theorem cl_E.k2 (E : cl_E G h) : ks G h (G 5) (G 9) 4 (am_TX 2) := ⟨⟨(if_neg (fun z => E.2.2.2.2.2.2.1 z.symm)).trans ((if_neg (fun z => E.2.2.2.2.2.2.2 z.symm)).trans (if_pos rfl)), E.2.2.2.2.1.1, E.2.2.2.2.1.2.1, E.2.2.2.2.1.2.2⟩, by omega, fun j hj => by
  rcases (show j = 0 ∨ j = 1 ∨ j = 2 ∨ j = 3 by omega) with rfl | rfl | rfl | rfl <;> exact ⟨by decide, rfl⟩⟩
/-- the key that the first word is -/
def tk_key (T : Nat → Int32) (st ln : Nat → Nat) (q : Option Nat) : Prop := match q with
  | some 0 => tk_is T st ln 0 3 (am_TX 0)
  | some 1 => ¬ tk_is T st ln 0 3 (am_TX 0) ∧ tk_is T st ln 0 4 (am_TX 1)
  | some 2 => ¬ tk_is T st ln 0 3 (am_TX 0) ∧ ¬ tk_is T st ln 0 4 (am_TX 1) ∧ tk_is T st ln 0 4 (am_TX 2)
  | some _ => False
  | none => ¬ tk_is T st ln 0 3 (am_TX 0) ∧ ¬ tk_is T st ln 0 4 (am_TX 1) ∧ ¬ tk_is T st ln 0 4 (am_TX 2)
theorem tk_key_ex (T : Nat → Int32) (st ln : Nat → Nat) : tk_key T st ln none ∨ ∃ q, q < 3 ∧ tk_key T st ln (some q) := by
  by_cases h0 : tk_is T st ln 0 3 (am_TX 0)
  · exact Or.inr ⟨0, by omega, h0⟩
  by_cases h1 : tk_is T st ln 0 4 (am_TX 1)
  · exact Or.inr ⟨1, by omega, h0, h1⟩
  by_cases h2 : tk_is T st ln 0 4 (am_TX 2)
  · exact Or.inr ⟨2, by omega, h0, h1, h2⟩
  exact Or.inl ⟨h0, h1, h2⟩
def tk_kv (z : Int32) : Option Nat → Int32
  | some n => nI n
  | none => z
theorem c_key (E : pc_E G h0 o T t W st ln key) (f : am_fr (pc_Q o) h0 h) (h6 : am_i h (o + 79) 6 = 0) {q : Option Nat} (hq : tk_key T st ln q) {D : Nat} : am_evm G (D + 5) 50 [.ref (o + 79)] h = am_ev G (D + 5) 50 42 [some (.ref (o + 79))] [.int (tk_kv (-1000000005) q), .ref (o + 79)] h := by
  have lo := pc_lo E f
  have cE : cl_E G h := cl_E.fr (S := pc_Q o) E.1.2.1 f.2.2.1 (fun b hb => f.i1 (fun z => by unfold pc_Q at z; have := E.1.2.2; omega))
  obtain ⟨v0, e0, q0⟩ := c_isWord (d := D) E f cE.k0 (by omega) (Nat.zero_le W) h6
  obtain ⟨v1, e1, q1⟩ := c_isWord (d := D) E f cE.k1 (by omega) (Nat.zero_le W) h6
  obtain ⟨v2, e2, q2⟩ := c_isWord (d := D) E f cE.k2 (by omega) (Nat.zero_le W) h6
  match q, hq with
  | some 0, hq =>
    have z0 : v0 = 1 := by rcases q0 with z | z; exact z.1; exact absurd hq z.2
    subst z0
    simp only [n_50, e_50_0, e_50_1, e_50_2, e_50_4, e_50_7, e_50_10, e_50_11, e_50_45, e_50_46, e_50_49, e_50_51, e_50_54, e_50_55, e_50_58, e_50_65, e_50_61, e_50_62, e_50_14, e_50_15, e_50_17, e_50_20, e_50_23, e_50_24, e_50_27, e_50_28, e_50_30, e_50_33, e_50_36, e_50_37, e_50_40, Option.bind_some, Option.toList_some, Option.toList_none, List.cons_append, List.nil_append, am_k1_i, am_k1_r, am_k1_u, am_k1_n, am_bo0, am_bo1, am_boi, am_ev_tb, am_tb_nil, am_rfs, am_rfn, eq_self, and_self, if_true, if_false, show ¬ (1 : Int32) = 0 from by decide, show ¬ (0 : Int32) = 1 from by decide, not_true, not_false_eq_true, and_true, true_and, and_false, false_and, or_true, true_or, or_false, false_or, co_rd lo, e0]
    rfl
  | some 1, hq =>
    have z0 : v0 = 0 := by rcases q0 with z | z; exact absurd z.2 hq.1; exact z.1
    have z1 : v1 = 1 := by rcases q1 with z | z; exact z.1; exact absurd hq.2 z.2
    subst z0 z1
    simp only [n_50, e_50_0, e_50_1, e_50_2, e_50_4, e_50_7, e_50_10, e_50_11, e_50_45, e_50_46, e_50_49, e_50_51, e_50_54, e_50_55, e_50_58, e_50_65, e_50_61, e_50_62, e_50_14, e_50_15, e_50_17, e_50_20, e_50_23, e_50_24, e_50_27, e_50_28, e_50_30, e_50_33, e_50_36, e_50_37, e_50_40, Option.bind_some, Option.toList_some, Option.toList_none, List.cons_append, List.nil_append, am_k1_i, am_k1_r, am_k1_u, am_k1_n, am_bo0, am_bo1, am_boi, am_ev_tb, am_tb_nil, am_rfs, am_rfn, eq_self, and_self, if_true, if_false, show ¬ (1 : Int32) = 0 from by decide, show ¬ (0 : Int32) = 1 from by decide, not_true, not_false_eq_true, and_true, true_and, and_false, false_and, or_true, true_or, or_false, false_or, co_rd lo, e0, e1]
    rfl
  | some 2, hq =>
    have z0 : v0 = 0 := by rcases q0 with z | z; exact absurd z.2 hq.1; exact z.1
    have z1 : v1 = 0 := by rcases q1 with z | z; exact absurd z.2 hq.2.1; exact z.1
    have z2 : v2 = 1 := by rcases q2 with z | z; exact z.1; exact absurd hq.2.2 z.2
    subst z0 z1 z2
    simp only [n_50, e_50_0, e_50_1, e_50_2, e_50_4, e_50_7, e_50_10, e_50_11, e_50_45, e_50_46, e_50_49, e_50_51, e_50_54, e_50_55, e_50_58, e_50_65, e_50_61, e_50_62, e_50_14, e_50_15, e_50_17, e_50_20, e_50_23, e_50_24, e_50_27, e_50_28, e_50_30, e_50_33, e_50_36, e_50_37, e_50_40, Option.bind_some, Option.toList_some, Option.toList_none, List.cons_append, List.nil_append, am_k1_i, am_k1_r, am_k1_u, am_k1_n, am_bo0, am_bo1, am_boi, am_ev_tb, am_tb_nil, am_rfs, am_rfn, eq_self, and_self, if_true, if_false, show ¬ (1 : Int32) = 0 from by decide, show ¬ (0 : Int32) = 1 from by decide, not_true, not_false_eq_true, and_true, true_and, and_false, false_and, or_true, true_or, or_false, false_or, co_rd lo, e0, e1, e2]
    rfl
  | some (n + 3), hq => exact hq.elim
  | none, hq =>
    have z0 : v0 = 0 := by rcases q0 with z | z; exact absurd z.2 hq.1; exact z.1
    have z1 : v1 = 0 := by rcases q1 with z | z; exact absurd z.2 hq.2.1; exact z.1
    have z2 : v2 = 0 := by rcases q2 with z | z; exact absurd z.2 hq.2.2; exact z.1
    subst z0 z1 z2
    simp only [n_50, e_50_0, e_50_1, e_50_2, e_50_4, e_50_7, e_50_10, e_50_11, e_50_45, e_50_46, e_50_49, e_50_51, e_50_54, e_50_55, e_50_58, e_50_65, e_50_61, e_50_62, e_50_14, e_50_15, e_50_17, e_50_20, e_50_23, e_50_24, e_50_27, e_50_28, e_50_30, e_50_33, e_50_36, e_50_37, e_50_40, Option.bind_some, Option.toList_some, Option.toList_none, List.cons_append, List.nil_append, am_k1_i, am_k1_r, am_k1_u, am_k1_n, am_bo0, am_bo1, am_boi, am_ev_tb, am_tb_nil, am_rfs, am_rfn, eq_self, and_self, if_true, if_false, show ¬ (1 : Int32) = 0 from by decide, show ¬ (0 : Int32) = 1 from by decide, not_true, not_false_eq_true, and_true, true_and, and_false, false_and, or_true, true_or, or_false, false_or, co_rd lo, e0, e1, e2]
    rfl
end KW
section KR
variable {G : Nat → Nat} {d : Nat} {h : am_H} {m t W : Nat} {T : Nat → Int32} {st ln : Nat → Nat}
theorem m_word3 (l : cm_Lay G h m) (E : tk_Env T t W st ln) (hT : ∀ j, j < t → am_i h (m + 13) j = T j) (R : rt_at T W st ln h m 0) {a b c : Int32} : am_evm G d 191 [.ref m, .int a, .int b, .int c, .int 0] h = some (some (.int (if tk_kd T W st ln 0 = 1 ∧ ln 0 = 3 ∧ T (st 0) = a ∧ T (st 0 + 1) = b ∧ T (st 0 + 2) = c then 1 else 0)), h) := by
  obtain ⟨r1, r2, r3, r4, r5, r6⟩ := R
  have ht96 := E.1
  have hle : tk_kd T W st ln 0 ≤ 4 := by unfold tk_kd; (repeat' split) <;> omega
  by_cases h1 : tk_kd T W st ln 0 = 1
  · have hk : 0 < W := tk_lt (T := T) (st := st) (ln := ln) (by omega)
    obtain ⟨⟨w1, w2, w3⟩, -⟩ := E.w hk
    have hsub : nI (st 0 + ln 0) - nI (st 0) = nI (ln 0) := by rw [pk_sub (by omega), Nat.add_sub_cancel_left]
    rw [h1] at r3
    by_cases h2 : ln 0 = 3
    · have h2' : nI (ln 0) = 3 := by rw [h2]; rfl
      have t0 := hT (st 0) (by omega)
      have t1 := hT (st 0 + 1) (by omega)
      have t2 := hT (st 0 + 2) (by omega)
      have a2 : nI (st 0) + 2 = nI (st 0 + 2) := nI_add _ 2
      by_cases h3 : T (st 0) = a
      · by_cases h4 : T (st 0 + 1) = b
        · by_cases h5 : T (st 0 + 2) = c
          · rw [if_pos ⟨h1, h2, h3, h4, h5⟩]
            simp only [n_191, e_191_0, e_191_2, e_191_5, e_191_6, f_191_10, e_191_12, e_191_13, e_191_16, e_191_17, e_191_20, e_191_21, e_191_24, e_191_25, e_191_28, e_191_29, e_191_31, e_191_34, e_191_35, e_191_38, e_191_39, e_191_42, e_191_43, e_191_44, e_191_47, e_191_48, e_191_51, e_191_52, e_191_55, e_191_56, e_191_57, e_191_58, e_191_59, e_191_62, e_191_63, e_191_66, e_191_67, e_191_70, e_191_71, e_191_72, e_191_73, e_191_74, e_191_77, e_191_79, e_191_82, e_191_83, e_191_86, e_191_87, e_191_90, e_191_91, e_191_92, e_191_93, e_191_95, e_191_98, e_191_99, f_191_103, e_191_102, e_191_9, Option.bind_some, Option.toList_some, Option.toList_none, List.cons_append, List.nil_append, am_k1_i, am_k1_r, am_k1_u, am_k1_n, am_bo0, am_bo1, am_boi, am_ev_tb, am_tb_nil, am_rfs, am_rfn, eq_self, and_self, if_true, if_false, show ¬ (1 : Int32) = 0 from by decide, show ¬ (0 : Int32) = 1 from by decide, not_true, not_false_eq_true, and_true, true_and, and_false, false_and, or_true, true_or, or_false, false_or, cm_ob l, r3, show nI 1 = (1 : Int32) from rfl, r1, r2, hsub, h2', cm_r13 l, cm_ia13 l (show st 0 < 96 by omega), cm_ia13 l (show st 0 + 1 < 96 by omega), cm_ia13 l (show st 0 + 2 < 96 by omega), am_cl (show st 0 < 2147483648 by omega), am_cl (show st 0 + 1 < 2147483648 by omega), am_cl (show st 0 + 2 < 2147483648 by omega), t0, t1, t2, h3, nI_1, h4, a2, h5]
          · simp only [n_191, e_191_0, e_191_2, e_191_5, e_191_6, f_191_10, e_191_12, e_191_13, e_191_16, e_191_17, e_191_20, e_191_21, e_191_24, e_191_25, e_191_28, e_191_29, e_191_31, e_191_34, e_191_35, e_191_38, e_191_39, e_191_42, e_191_43, e_191_44, e_191_47, e_191_48, e_191_51, e_191_52, e_191_55, e_191_56, e_191_57, e_191_58, e_191_59, e_191_62, e_191_63, e_191_66, e_191_67, e_191_70, e_191_71, e_191_72, e_191_73, e_191_74, e_191_77, e_191_79, e_191_82, e_191_83, e_191_86, e_191_87, e_191_90, e_191_91, e_191_92, e_191_93, e_191_95, e_191_98, e_191_99, f_191_103, e_191_102, e_191_9, Option.bind_some, Option.toList_some, Option.toList_none, List.cons_append, List.nil_append, am_k1_i, am_k1_r, am_k1_u, am_k1_n, am_bo0, am_bo1, am_boi, am_ev_tb, am_tb_nil, am_rfs, am_rfn, eq_self, and_self, if_true, if_false, show ¬ (1 : Int32) = 0 from by decide, show ¬ (0 : Int32) = 1 from by decide, not_true, not_false_eq_true, and_true, true_and, and_false, false_and, or_true, true_or, or_false, false_or, cm_ob l, r3, show nI 1 = (1 : Int32) from rfl, r1, r2, hsub, h2', cm_r13 l, cm_ia13 l (show st 0 < 96 by omega), cm_ia13 l (show st 0 + 1 < 96 by omega), cm_ia13 l (show st 0 + 2 < 96 by omega), am_cl (show st 0 < 2147483648 by omega), am_cl (show st 0 + 1 < 2147483648 by omega), am_cl (show st 0 + 2 < 2147483648 by omega), t0, t1, t2, h3, nI_1, h4, a2, h5]
        · simp only [n_191, e_191_0, e_191_2, e_191_5, e_191_6, f_191_10, e_191_12, e_191_13, e_191_16, e_191_17, e_191_20, e_191_21, e_191_24, e_191_25, e_191_28, e_191_29, e_191_31, e_191_34, e_191_35, e_191_38, e_191_39, e_191_42, e_191_43, e_191_44, e_191_47, e_191_48, e_191_51, e_191_52, e_191_55, e_191_56, e_191_57, e_191_58, e_191_59, e_191_62, e_191_63, e_191_66, e_191_67, e_191_70, e_191_71, e_191_72, e_191_73, e_191_74, e_191_77, e_191_79, e_191_82, e_191_83, e_191_86, e_191_87, e_191_90, e_191_91, e_191_92, e_191_93, e_191_95, e_191_98, e_191_99, f_191_103, e_191_102, e_191_9, Option.bind_some, Option.toList_some, Option.toList_none, List.cons_append, List.nil_append, am_k1_i, am_k1_r, am_k1_u, am_k1_n, am_bo0, am_bo1, am_boi, am_ev_tb, am_tb_nil, am_rfs, am_rfn, eq_self, and_self, if_true, if_false, show ¬ (1 : Int32) = 0 from by decide, show ¬ (0 : Int32) = 1 from by decide, not_true, not_false_eq_true, and_true, true_and, and_false, false_and, or_true, true_or, or_false, false_or, cm_ob l, r3, show nI 1 = (1 : Int32) from rfl, r1, r2, hsub, h2', cm_r13 l, cm_ia13 l (show st 0 < 96 by omega), cm_ia13 l (show st 0 + 1 < 96 by omega), am_cl (show st 0 < 2147483648 by omega), am_cl (show st 0 + 1 < 2147483648 by omega), t0, t1, h3, nI_1, h4]
      · simp only [n_191, e_191_0, e_191_2, e_191_5, e_191_6, f_191_10, e_191_12, e_191_13, e_191_16, e_191_17, e_191_20, e_191_21, e_191_24, e_191_25, e_191_28, e_191_29, e_191_31, e_191_34, e_191_35, e_191_38, e_191_39, e_191_42, e_191_43, e_191_44, e_191_47, e_191_48, e_191_51, e_191_52, e_191_55, e_191_56, e_191_57, e_191_58, e_191_59, e_191_62, e_191_63, e_191_66, e_191_67, e_191_70, e_191_71, e_191_72, e_191_73, e_191_74, e_191_77, e_191_79, e_191_82, e_191_83, e_191_86, e_191_87, e_191_90, e_191_91, e_191_92, e_191_93, e_191_95, e_191_98, e_191_99, f_191_103, e_191_102, e_191_9, Option.bind_some, Option.toList_some, Option.toList_none, List.cons_append, List.nil_append, am_k1_i, am_k1_r, am_k1_u, am_k1_n, am_bo0, am_bo1, am_boi, am_ev_tb, am_tb_nil, am_rfs, am_rfn, eq_self, and_self, if_true, if_false, show ¬ (1 : Int32) = 0 from by decide, show ¬ (0 : Int32) = 1 from by decide, not_true, not_false_eq_true, and_true, true_and, and_false, false_and, or_true, true_or, or_false, false_or, cm_ob l, r3, show nI 1 = (1 : Int32) from rfl, r1, r2, hsub, h2', cm_r13 l, cm_ia13 l (show st 0 < 96 by omega), am_cl (show st 0 < 2147483648 by omega), t0, h3]
    · have h2' : ¬ nI (ln 0) = 3 := fun z => h2 ((nI_eq (b := 3) (by omega) (by decide)).mp z)
      simp only [n_191, e_191_0, e_191_2, e_191_5, e_191_6, f_191_10, e_191_12, e_191_13, e_191_16, e_191_17, e_191_20, e_191_21, e_191_24, e_191_25, e_191_28, e_191_29, e_191_31, e_191_34, e_191_35, e_191_38, e_191_39, e_191_42, e_191_43, e_191_44, e_191_47, e_191_48, e_191_51, e_191_52, e_191_55, e_191_56, e_191_57, e_191_58, e_191_59, e_191_62, e_191_63, e_191_66, e_191_67, e_191_70, e_191_71, e_191_72, e_191_73, e_191_74, e_191_77, e_191_79, e_191_82, e_191_83, e_191_86, e_191_87, e_191_90, e_191_91, e_191_92, e_191_93, e_191_95, e_191_98, e_191_99, f_191_103, e_191_102, e_191_9, Option.bind_some, Option.toList_some, Option.toList_none, List.cons_append, List.nil_append, am_k1_i, am_k1_r, am_k1_u, am_k1_n, am_bo0, am_bo1, am_boi, am_ev_tb, am_tb_nil, am_rfs, am_rfn, eq_self, and_self, if_true, if_false, show ¬ (1 : Int32) = 0 from by decide, show ¬ (0 : Int32) = 1 from by decide, not_true, not_false_eq_true, and_true, true_and, and_false, false_and, or_true, true_or, or_false, false_or, cm_ob l, r3, show nI 1 = (1 : Int32) from rfl, r1, r2, hsub, h2', h2]
  · have h1' : ¬ nI (tk_kd T W st ln 0) = 1 := fun z => h1 ((nI_eq (b := 1) (by omega) (by decide)).mp z)
    simp only [n_191, e_191_0, e_191_2, e_191_5, e_191_6, f_191_10, e_191_12, e_191_13, e_191_16, e_191_17, e_191_20, e_191_21, e_191_24, e_191_25, e_191_28, e_191_29, e_191_31, e_191_34, e_191_35, e_191_38, e_191_39, e_191_42, e_191_43, e_191_44, e_191_47, e_191_48, e_191_51, e_191_52, e_191_55, e_191_56, e_191_57, e_191_58, e_191_59, e_191_62, e_191_63, e_191_66, e_191_67, e_191_70, e_191_71, e_191_72, e_191_73, e_191_74, e_191_77, e_191_79, e_191_82, e_191_83, e_191_86, e_191_87, e_191_90, e_191_91, e_191_92, e_191_93, e_191_95, e_191_98, e_191_99, f_191_103, e_191_102, e_191_9, Option.bind_some, Option.toList_some, Option.toList_none, List.cons_append, List.nil_append, am_k1_i, am_k1_r, am_k1_u, am_k1_n, am_bo0, am_bo1, am_boi, am_ev_tb, am_tb_nil, am_rfs, am_rfn, eq_self, and_self, if_true, if_false, show ¬ (1 : Int32) = 0 from by decide, show ¬ (0 : Int32) = 1 from by decide, not_true, not_false_eq_true, and_true, true_and, and_false, false_and, or_true, true_or, or_false, false_or, cm_ob l, r3, h1', h1]
theorem m_word4 (l : cm_Lay G h m) (E : tk_Env T t W st ln) (hT : ∀ j, j < t → am_i h (m + 13) j = T j) (R : rt_at T W st ln h m 0) {a b c e : Int32} (he : ¬ e = 0) : am_evm G d 191 [.ref m, .int a, .int b, .int c, .int e] h = some (some (.int (if tk_kd T W st ln 0 = 1 ∧ ln 0 = 4 ∧ T (st 0) = a ∧ T (st 0 + 1) = b ∧ T (st 0 + 2) = c ∧ T (st 0 + 3) = e then 1 else 0)), h) := by
  obtain ⟨r1, r2, r3, r4, r5, r6⟩ := R
  have ht96 := E.1
  have hle : tk_kd T W st ln 0 ≤ 4 := by unfold tk_kd; (repeat' split) <;> omega
  by_cases h1 : tk_kd T W st ln 0 = 1
  · have hk : 0 < W := tk_lt (T := T) (st := st) (ln := ln) (by omega)
    obtain ⟨⟨w1, w2, w3⟩, -⟩ := E.w hk
    have hsub : nI (st 0 + ln 0) - nI (st 0) = nI (ln 0) := by rw [pk_sub (by omega), Nat.add_sub_cancel_left]
    rw [h1] at r3
    by_cases h2 : ln 0 = 4
    · have h2' : nI (ln 0) = 4 := by rw [h2]; rfl
      have t0 := hT (st 0) (by omega)
      have t1 := hT (st 0 + 1) (by omega)
      have t2 := hT (st 0 + 2) (by omega)
      have t3 := hT (st 0 + 3) (by omega)
      have a2 : nI (st 0) + 2 = nI (st 0 + 2) := nI_add _ 2
      have a3 : nI (st 0) + 3 = nI (st 0 + 3) := nI_add _ 3
      by_cases h3 : T (st 0) = a
      · by_cases h4 : T (st 0 + 1) = b
        · by_cases h5 : T (st 0 + 2) = c
          · by_cases h6 : T (st 0 + 3) = e
            · rw [if_pos ⟨h1, h2, h3, h4, h5, h6⟩]
              simp only [n_191, e_191_0, e_191_2, e_191_5, e_191_6, f_191_10, e_191_12, e_191_13, e_191_16, e_191_17, e_191_20, e_191_21, e_191_24, e_191_25, e_191_28, e_191_29, e_191_31, e_191_34, e_191_35, e_191_38, e_191_39, e_191_42, e_191_43, e_191_44, e_191_47, e_191_48, e_191_51, e_191_52, e_191_55, e_191_56, e_191_57, e_191_58, e_191_59, e_191_62, e_191_63, e_191_66, e_191_67, e_191_70, e_191_71, e_191_72, e_191_73, e_191_74, e_191_77, e_191_79, e_191_82, e_191_83, e_191_86, e_191_87, e_191_90, e_191_91, e_191_92, e_191_93, e_191_95, e_191_98, e_191_99, f_191_103, e_191_102, e_191_9, Option.bind_some, Option.toList_some, Option.toList_none, List.cons_append, List.nil_append, am_k1_i, am_k1_r, am_k1_u, am_k1_n, am_bo0, am_bo1, am_boi, am_ev_tb, am_tb_nil, am_rfs, am_rfn, eq_self, and_self, if_true, if_false, show ¬ (1 : Int32) = 0 from by decide, show ¬ (0 : Int32) = 1 from by decide, not_true, not_false_eq_true, and_true, true_and, and_false, false_and, or_true, true_or, or_false, false_or, he, cm_ob l, r3, show nI 1 = (1 : Int32) from rfl, r1, r2, hsub, h2', cm_r13 l, cm_ia13 l (show st 0 < 96 by omega), cm_ia13 l (show st 0 + 1 < 96 by omega), cm_ia13 l (show st 0 + 2 < 96 by omega), cm_ia13 l (show st 0 + 3 < 96 by omega), am_cl (show st 0 < 2147483648 by omega), am_cl (show st 0 + 1 < 2147483648 by omega), am_cl (show st 0 + 2 < 2147483648 by omega), am_cl (show st 0 + 3 < 2147483648 by omega), t0, t1, t2, t3, h3, nI_1, h4, a2, a3, h5, h6]
            · simp only [n_191, e_191_0, e_191_2, e_191_5, e_191_6, f_191_10, e_191_12, e_191_13, e_191_16, e_191_17, e_191_20, e_191_21, e_191_24, e_191_25, e_191_28, e_191_29, e_191_31, e_191_34, e_191_35, e_191_38, e_191_39, e_191_42, e_191_43, e_191_44, e_191_47, e_191_48, e_191_51, e_191_52, e_191_55, e_191_56, e_191_57, e_191_58, e_191_59, e_191_62, e_191_63, e_191_66, e_191_67, e_191_70, e_191_71, e_191_72, e_191_73, e_191_74, e_191_77, e_191_79, e_191_82, e_191_83, e_191_86, e_191_87, e_191_90, e_191_91, e_191_92, e_191_93, e_191_95, e_191_98, e_191_99, f_191_103, e_191_102, e_191_9, Option.bind_some, Option.toList_some, Option.toList_none, List.cons_append, List.nil_append, am_k1_i, am_k1_r, am_k1_u, am_k1_n, am_bo0, am_bo1, am_boi, am_ev_tb, am_tb_nil, am_rfs, am_rfn, eq_self, and_self, if_true, if_false, show ¬ (1 : Int32) = 0 from by decide, show ¬ (0 : Int32) = 1 from by decide, not_true, not_false_eq_true, and_true, true_and, and_false, false_and, or_true, true_or, or_false, false_or, he, cm_ob l, r3, show nI 1 = (1 : Int32) from rfl, r1, r2, hsub, h2', cm_r13 l, cm_ia13 l (show st 0 < 96 by omega), cm_ia13 l (show st 0 + 1 < 96 by omega), cm_ia13 l (show st 0 + 2 < 96 by omega), cm_ia13 l (show st 0 + 3 < 96 by omega), am_cl (show st 0 < 2147483648 by omega), am_cl (show st 0 + 1 < 2147483648 by omega), am_cl (show st 0 + 2 < 2147483648 by omega), am_cl (show st 0 + 3 < 2147483648 by omega), t0, t1, t2, t3, h3, nI_1, h4, a2, a3, h5, h6]
          · simp only [n_191, e_191_0, e_191_2, e_191_5, e_191_6, f_191_10, e_191_12, e_191_13, e_191_16, e_191_17, e_191_20, e_191_21, e_191_24, e_191_25, e_191_28, e_191_29, e_191_31, e_191_34, e_191_35, e_191_38, e_191_39, e_191_42, e_191_43, e_191_44, e_191_47, e_191_48, e_191_51, e_191_52, e_191_55, e_191_56, e_191_57, e_191_58, e_191_59, e_191_62, e_191_63, e_191_66, e_191_67, e_191_70, e_191_71, e_191_72, e_191_73, e_191_74, e_191_77, e_191_79, e_191_82, e_191_83, e_191_86, e_191_87, e_191_90, e_191_91, e_191_92, e_191_93, e_191_95, e_191_98, e_191_99, f_191_103, e_191_102, e_191_9, Option.bind_some, Option.toList_some, Option.toList_none, List.cons_append, List.nil_append, am_k1_i, am_k1_r, am_k1_u, am_k1_n, am_bo0, am_bo1, am_boi, am_ev_tb, am_tb_nil, am_rfs, am_rfn, eq_self, and_self, if_true, if_false, show ¬ (1 : Int32) = 0 from by decide, show ¬ (0 : Int32) = 1 from by decide, not_true, not_false_eq_true, and_true, true_and, and_false, false_and, or_true, true_or, or_false, false_or, he, cm_ob l, r3, show nI 1 = (1 : Int32) from rfl, r1, r2, hsub, h2', cm_r13 l, cm_ia13 l (show st 0 < 96 by omega), cm_ia13 l (show st 0 + 1 < 96 by omega), cm_ia13 l (show st 0 + 2 < 96 by omega), am_cl (show st 0 < 2147483648 by omega), am_cl (show st 0 + 1 < 2147483648 by omega), am_cl (show st 0 + 2 < 2147483648 by omega), t0, t1, t2, h3, nI_1, h4, a2, h5]
        · simp only [n_191, e_191_0, e_191_2, e_191_5, e_191_6, f_191_10, e_191_12, e_191_13, e_191_16, e_191_17, e_191_20, e_191_21, e_191_24, e_191_25, e_191_28, e_191_29, e_191_31, e_191_34, e_191_35, e_191_38, e_191_39, e_191_42, e_191_43, e_191_44, e_191_47, e_191_48, e_191_51, e_191_52, e_191_55, e_191_56, e_191_57, e_191_58, e_191_59, e_191_62, e_191_63, e_191_66, e_191_67, e_191_70, e_191_71, e_191_72, e_191_73, e_191_74, e_191_77, e_191_79, e_191_82, e_191_83, e_191_86, e_191_87, e_191_90, e_191_91, e_191_92, e_191_93, e_191_95, e_191_98, e_191_99, f_191_103, e_191_102, e_191_9, Option.bind_some, Option.toList_some, Option.toList_none, List.cons_append, List.nil_append, am_k1_i, am_k1_r, am_k1_u, am_k1_n, am_bo0, am_bo1, am_boi, am_ev_tb, am_tb_nil, am_rfs, am_rfn, eq_self, and_self, if_true, if_false, show ¬ (1 : Int32) = 0 from by decide, show ¬ (0 : Int32) = 1 from by decide, not_true, not_false_eq_true, and_true, true_and, and_false, false_and, or_true, true_or, or_false, false_or, he, cm_ob l, r3, show nI 1 = (1 : Int32) from rfl, r1, r2, hsub, h2', cm_r13 l, cm_ia13 l (show st 0 < 96 by omega), cm_ia13 l (show st 0 + 1 < 96 by omega), am_cl (show st 0 < 2147483648 by omega), am_cl (show st 0 + 1 < 2147483648 by omega), t0, t1, h3, nI_1, h4]
      · simp only [n_191, e_191_0, e_191_2, e_191_5, e_191_6, f_191_10, e_191_12, e_191_13, e_191_16, e_191_17, e_191_20, e_191_21, e_191_24, e_191_25, e_191_28, e_191_29, e_191_31, e_191_34, e_191_35, e_191_38, e_191_39, e_191_42, e_191_43, e_191_44, e_191_47, e_191_48, e_191_51, e_191_52, e_191_55, e_191_56, e_191_57, e_191_58, e_191_59, e_191_62, e_191_63, e_191_66, e_191_67, e_191_70, e_191_71, e_191_72, e_191_73, e_191_74, e_191_77, e_191_79, e_191_82, e_191_83, e_191_86, e_191_87, e_191_90, e_191_91, e_191_92, e_191_93, e_191_95, e_191_98, e_191_99, f_191_103, e_191_102, e_191_9, Option.bind_some, Option.toList_some, Option.toList_none, List.cons_append, List.nil_append, am_k1_i, am_k1_r, am_k1_u, am_k1_n, am_bo0, am_bo1, am_boi, am_ev_tb, am_tb_nil, am_rfs, am_rfn, eq_self, and_self, if_true, if_false, show ¬ (1 : Int32) = 0 from by decide, show ¬ (0 : Int32) = 1 from by decide, not_true, not_false_eq_true, and_true, true_and, and_false, false_and, or_true, true_or, or_false, false_or, he, cm_ob l, r3, show nI 1 = (1 : Int32) from rfl, r1, r2, hsub, h2', cm_r13 l, cm_ia13 l (show st 0 < 96 by omega), am_cl (show st 0 < 2147483648 by omega), t0, h3]
    · have h2' : ¬ nI (ln 0) = 4 := fun z => h2 ((nI_eq (b := 4) (by omega) (by decide)).mp z)
      simp only [n_191, e_191_0, e_191_2, e_191_5, e_191_6, f_191_10, e_191_12, e_191_13, e_191_16, e_191_17, e_191_20, e_191_21, e_191_24, e_191_25, e_191_28, e_191_29, e_191_31, e_191_34, e_191_35, e_191_38, e_191_39, e_191_42, e_191_43, e_191_44, e_191_47, e_191_48, e_191_51, e_191_52, e_191_55, e_191_56, e_191_57, e_191_58, e_191_59, e_191_62, e_191_63, e_191_66, e_191_67, e_191_70, e_191_71, e_191_72, e_191_73, e_191_74, e_191_77, e_191_79, e_191_82, e_191_83, e_191_86, e_191_87, e_191_90, e_191_91, e_191_92, e_191_93, e_191_95, e_191_98, e_191_99, f_191_103, e_191_102, e_191_9, Option.bind_some, Option.toList_some, Option.toList_none, List.cons_append, List.nil_append, am_k1_i, am_k1_r, am_k1_u, am_k1_n, am_bo0, am_bo1, am_boi, am_ev_tb, am_tb_nil, am_rfs, am_rfn, eq_self, and_self, if_true, if_false, show ¬ (1 : Int32) = 0 from by decide, show ¬ (0 : Int32) = 1 from by decide, not_true, not_false_eq_true, and_true, true_and, and_false, false_and, or_true, true_or, or_false, false_or, he, cm_ob l, r3, show nI 1 = (1 : Int32) from rfl, r1, r2, hsub, h2', h2]
  · have h1' : ¬ nI (tk_kd T W st ln 0) = 1 := fun z => h1 ((nI_eq (b := 1) (by omega) (by decide)).mp z)
    simp only [n_191, e_191_0, e_191_2, e_191_5, e_191_6, f_191_10, e_191_12, e_191_13, e_191_16, e_191_17, e_191_20, e_191_21, e_191_24, e_191_25, e_191_28, e_191_29, e_191_31, e_191_34, e_191_35, e_191_38, e_191_39, e_191_42, e_191_43, e_191_44, e_191_47, e_191_48, e_191_51, e_191_52, e_191_55, e_191_56, e_191_57, e_191_58, e_191_59, e_191_62, e_191_63, e_191_66, e_191_67, e_191_70, e_191_71, e_191_72, e_191_73, e_191_74, e_191_77, e_191_79, e_191_82, e_191_83, e_191_86, e_191_87, e_191_90, e_191_91, e_191_92, e_191_93, e_191_95, e_191_98, e_191_99, f_191_103, e_191_102, e_191_9, Option.bind_some, Option.toList_some, Option.toList_none, List.cons_append, List.nil_append, am_k1_i, am_k1_r, am_k1_u, am_k1_n, am_bo0, am_bo1, am_boi, am_ev_tb, am_tb_nil, am_rfs, am_rfn, eq_self, and_self, if_true, if_false, show ¬ (1 : Int32) = 0 from by decide, show ¬ (0 : Int32) = 1 from by decide, not_true, not_false_eq_true, and_true, true_and, and_false, false_and, or_true, true_or, or_false, false_or, he, cm_ob l, r3, h1', h1]
/-- the first word of letters is one of its own -/
theorem tk_is1 (E : tk_Env T t W st ln) {n : Nat} {x : Nat → Int32} (hn : 0 < n) (hx : tk_c (x 0) = 2) (I : tk_is T st ln 0 n x) : tk_kd T W st ln 0 = 1 := by
  have hk : 0 < W := by
    apply Classical.byContradiction
    intro z
    have h1 := E.2.2.2
    have h2 := I.1
    rw [show W = 0 by omega] at h1
    omega
  have ec : tk_c (T (st 0)) = 2 := by
    have := I.2 0 hn
    rw [Nat.add_zero] at this
    rw [this]; exact hx
  refine tk_kd_2 hk ec (fun z => ?_)
  have h2 := E.2.1.2.1
  rw [if_pos hk] at h2
  have h3 : tk_c (T (st 0 - 1)) = 0 := h2 (st 0 - 1) (by omega)
  omega
theorem m_key (l : cm_Lay G h m) (E : tk_Env T t W st ln) (hT : ∀ j, j < t → am_i h (m + 13) j = T j) (R : rt_at T W st ln h m 0) {q : Option Nat} (hq : tk_key T st ln q) : am_evm G (d + 1) 192 [.ref m] h = some (some (.int (tk_kv (-1) q)), h) := by
  have e0 := m_word3 (d := d) l E hT R (a := 109) (b := 97) (c := 121)
  have e1 := m_word4 (d := d) l E hT R (a := 99) (b := 111) (c := 115) (e := 116) (by decide)
  have e2 := m_word4 (d := d) l E hT R (a := 98) (b := 111) (c := 108) (e := 100) (by decide)
  have i0 : tk_is T st ln 0 3 (am_TX 0) ↔ (tk_kd T W st ln 0 = 1 ∧ ln 0 = 3 ∧ T (st 0) = 109 ∧ T (st 0 + 1) = 97 ∧ T (st 0 + 2) = 121) := by
    constructor
    · intro I; exact ⟨tk_is1 E (by omega) (by decide) I, I.1, I.2 0 (by omega), I.2 1 (by omega), I.2 2 (by omega)⟩
    · rintro ⟨-, z1, z2, z3, z4⟩
      refine ⟨z1, fun j hj => ?_⟩
      rcases (show j = 0 ∨ j = 1 ∨ j = 2 by omega) with rfl | rfl | rfl
      · exact z2
      · exact z3
      · exact z4
  have i1 : tk_is T st ln 0 4 (am_TX 1) ↔ (tk_kd T W st ln 0 = 1 ∧ ln 0 = 4 ∧ T (st 0) = 99 ∧ T (st 0 + 1) = 111 ∧ T (st 0 + 2) = 115 ∧ T (st 0 + 3) = 116) := by
    constructor
    · intro I; exact ⟨tk_is1 E (by omega) (by decide) I, I.1, I.2 0 (by omega), I.2 1 (by omega), I.2 2 (by omega), I.2 3 (by omega)⟩
    · rintro ⟨-, z1, z2, z3, z4, z5⟩
      refine ⟨z1, fun j hj => ?_⟩
      rcases (show j = 0 ∨ j = 1 ∨ j = 2 ∨ j = 3 by omega) with rfl | rfl | rfl | rfl
      · exact z2
      · exact z3
      · exact z4
      · exact z5
  have i2 : tk_is T st ln 0 4 (am_TX 2) ↔ (tk_kd T W st ln 0 = 1 ∧ ln 0 = 4 ∧ T (st 0) = 98 ∧ T (st 0 + 1) = 111 ∧ T (st 0 + 2) = 108 ∧ T (st 0 + 3) = 100) := by
    constructor
    · intro I; exact ⟨tk_is1 E (by omega) (by decide) I, I.1, I.2 0 (by omega), I.2 1 (by omega), I.2 2 (by omega), I.2 3 (by omega)⟩
    · rintro ⟨-, z1, z2, z3, z4, z5⟩
      refine ⟨z1, fun j hj => ?_⟩
      rcases (show j = 0 ∨ j = 1 ∨ j = 2 ∨ j = 3 by omega) with rfl | rfl | rfl | rfl
      · exact z2
      · exact z3
      · exact z4
      · exact z5
  match q, hq with
  | some 0, hq =>
    rw [if_pos (i0.mp hq)] at e0
    simp only [n_192, e_192_0, e_192_1, e_192_3, e_192_5, e_192_7, e_192_8, e_192_11, e_192_14, e_192_15, e_192_16, e_192_17, e_192_19, e_192_21, e_192_23, e_192_25, e_192_28, e_192_31, e_192_32, e_192_33, e_192_34, e_192_36, e_192_38, e_192_40, e_192_42, e_192_45, e_192_48, e_192_49, e_192_53, e_192_52, Option.bind_some, Option.toList_some, Option.toList_none, List.cons_append, List.nil_append, am_k1_i, am_k1_r, am_k1_u, am_k1_n, am_bo0, am_bo1, am_boi, am_ev_tb, am_tb_nil, am_rfs, am_rfn, eq_self, and_self, if_true, if_false, show ¬ (1 : Int32) = 0 from by decide, show ¬ (0 : Int32) = 1 from by decide, not_true, not_false_eq_true, and_true, true_and, and_false, false_and, or_true, true_or, or_false, false_or, cm_ob l, e0]
    rfl
  | some 1, hq =>
    rw [if_neg (fun z => hq.1 (i0.mpr z))] at e0
    rw [if_pos (i1.mp hq.2)] at e1
    simp only [n_192, e_192_0, e_192_1, e_192_3, e_192_5, e_192_7, e_192_8, e_192_11, e_192_14, e_192_15, e_192_16, e_192_17, e_192_19, e_192_21, e_192_23, e_192_25, e_192_28, e_192_31, e_192_32, e_192_33, e_192_34, e_192_36, e_192_38, e_192_40, e_192_42, e_192_45, e_192_48, e_192_49, e_192_53, e_192_52, Option.bind_some, Option.toList_some, Option.toList_none, List.cons_append, List.nil_append, am_k1_i, am_k1_r, am_k1_u, am_k1_n, am_bo0, am_bo1, am_boi, am_ev_tb, am_tb_nil, am_rfs, am_rfn, eq_self, and_self, if_true, if_false, show ¬ (1 : Int32) = 0 from by decide, show ¬ (0 : Int32) = 1 from by decide, not_true, not_false_eq_true, and_true, true_and, and_false, false_and, or_true, true_or, or_false, false_or, cm_ob l, e0, e1]
    rfl
  | some 2, hq =>
    rw [if_neg (fun z => hq.1 (i0.mpr z))] at e0
    rw [if_neg (fun z => hq.2.1 (i1.mpr z))] at e1
    rw [if_pos (i2.mp hq.2.2)] at e2
    simp only [n_192, e_192_0, e_192_1, e_192_3, e_192_5, e_192_7, e_192_8, e_192_11, e_192_14, e_192_15, e_192_16, e_192_17, e_192_19, e_192_21, e_192_23, e_192_25, e_192_28, e_192_31, e_192_32, e_192_33, e_192_34, e_192_36, e_192_38, e_192_40, e_192_42, e_192_45, e_192_48, e_192_49, e_192_53, e_192_52, Option.bind_some, Option.toList_some, Option.toList_none, List.cons_append, List.nil_append, am_k1_i, am_k1_r, am_k1_u, am_k1_n, am_bo0, am_bo1, am_boi, am_ev_tb, am_tb_nil, am_rfs, am_rfn, eq_self, and_self, if_true, if_false, show ¬ (1 : Int32) = 0 from by decide, show ¬ (0 : Int32) = 1 from by decide, not_true, not_false_eq_true, and_true, true_and, and_false, false_and, or_true, true_or, or_false, false_or, cm_ob l, e0, e1, e2]
    rfl
  | some (n + 3), hq => exact hq.elim
  | none, hq =>
    rw [if_neg (fun z => hq.1 (i0.mpr z))] at e0
    rw [if_neg (fun z => hq.2.1 (i1.mpr z))] at e1
    rw [if_neg (fun z => hq.2.2 (i2.mpr z))] at e2
    simp only [n_192, e_192_0, e_192_1, e_192_3, e_192_5, e_192_7, e_192_8, e_192_11, e_192_14, e_192_15, e_192_16, e_192_17, e_192_19, e_192_21, e_192_23, e_192_25, e_192_28, e_192_31, e_192_32, e_192_33, e_192_34, e_192_36, e_192_38, e_192_40, e_192_42, e_192_45, e_192_48, e_192_49, e_192_53, e_192_52, Option.bind_some, Option.toList_some, Option.toList_none, List.cons_append, List.nil_append, am_k1_i, am_k1_r, am_k1_u, am_k1_n, am_bo0, am_bo1, am_boi, am_ev_tb, am_tb_nil, am_rfs, am_rfn, eq_self, and_self, if_true, if_false, show ¬ (1 : Int32) = 0 from by decide, show ¬ (0 : Int32) = 1 from by decide, not_true, not_false_eq_true, and_true, true_and, and_false, false_and, or_true, true_or, or_false, false_or, cm_ob l, e0, e1, e2]
    rfl
end KR
