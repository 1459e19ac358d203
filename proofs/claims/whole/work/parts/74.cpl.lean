/-! the class reads a side, level by level -/
def pd_n (l op nt : Nat) : Nat := 16 * (8 - op) + (8 - nt) + (if l = 5 then 0 else 12 - 2 * l) + 8
def pc_Y (l : Nat) : Nat := if l = 5 then 54 else 52
def pc_V (o l op nt : Nat) : List Value := if l = 5 then [.ref (o + 79), .int (nI op), .int (nI nt)] else [.ref (o + 79), .int (nI l), .int (nI op), .int (nI nt)]
def pc_O (G : Nat → Nat) (h0 : am_H) (o W key l k op nt k2 : Nat) (sub : List (Int32 × Int32)) : Prop := ∀ D h out, pd_n l op nt ≤ D → out.length + (W - k) ≤ 96 → am_fr (pc_Q o) h0 h → pc_S h o W key k out → ∃ h2, am_evm G D (pc_Y l) (pc_V o l op nt) h = some (none, h2) ∧ am_fr (pc_Q o) h0 h2 ∧ pc_S h2 o W key k2 (out ++ sub)
def pc_N (G : Nat → Nat) (h0 : am_H) (o W key : Nat) (st : Nat → Nat) (l k op nt k2 : Nat) : Prop := ∀ D h out, pd_n l op nt ≤ D → out.length + (W - k) ≤ 96 → am_fr (pc_Q o) h0 h → pc_S h o W key k out → ∃ h2, am_evm G D (pc_Y l) (pc_V o l op nt) h = some (none, h2) ∧ am_fr (pc_Q o) h0 h2 ∧ pc_X h2 o W st k2
def pl_m (l : Nat) : Nat := if l = 2 then 1 else 96
def pc_LO (G : Nat → Nat) (h0 : am_H) (o W key l i k op nt k2 : Nat) (sub : List (Int32 × Int32)) : Prop := ∀ D h out x6, pd_n l op nt ≤ D → out.length + (W - k) ≤ 96 → am_fr (pc_Q o) h0 h → pc_S h o W key k out → ∃ h2, am_ev G D 52 47 [some (.ref (o + 79)), some (.int (nI l)), some (.int (nI op)), some (.int (nI nt)), some (.int (nI (pl_m l))), some (.int (nI i)), x6] [] h = some (none, h2) ∧ am_fr (pc_Q o) h0 h2 ∧ pc_S h2 o W key k2 (out ++ sub)
def pc_LN (G : Nat → Nat) (h0 : am_H) (o W key : Nat) (st : Nat → Nat) (l i k op nt k2 : Nat) : Prop := ∀ D h out x6, pd_n l op nt ≤ D → out.length + (W - k) ≤ 96 → am_fr (pc_Q o) h0 h → pc_S h o W key k out → ∃ h2, am_ev G D 52 47 [some (.ref (o + 79)), some (.int (nI l)), some (.int (nI op)), some (.int (nI nt)), some (.int (nI (pl_m l))), some (.int (nI i)), x6] [] h = some (none, h2) ∧ am_fr (pc_Q o) h0 h2 ∧ pc_X h2 o W st k2
section PL
variable {G : Nat → Nat} {h0 : am_H} {o t W key l i k k1 k2 op nt : Nat} {T : Nat → Int32} {st ln : Nat → Nat} {s1 s2 : List (Int32 × Int32)}
/-- a side of any level, called as such -/
theorem pc_sideO (E : pc_E G h0 o T t W st ln key) (hl : l ≤ 5) (H : pc_O G h0 o W key l k op nt k2 s1) {D : Nat} {h : am_H} {out : List (Int32 × Int32)} (hD : pd_n l op nt + 1 ≤ D) (ho : out.length + (W - k) ≤ 96) (f : am_fr (pc_Q o) h0 h) (S : pc_S h o W key k out) : ∃ h2, am_evm G D 52 [.ref (o + 79), .int (nI l), .int (nI op), .int (nI nt)] h = some (none, h2) ∧ am_fr (pc_Q o) h0 h2 ∧ pc_S h2 o W key k2 (out ++ s1) := by
  obtain ⟨D, rfl⟩ : ∃ D2, D = D2 + 1 := ⟨D - 1, by omega⟩
  by_cases h5 : l = 5
  · subst h5
    obtain ⟨h2, e, f2, S2⟩ := H D h out (by omega) ho f S
    refine ⟨h2, ?_, f2, S2⟩
    have e' : am_evm G D 54 [.ref (o + 79), .int (nI op), .int (nI nt)] h = some (none, h2) := e
    simp only [n_52, e_52_0, e_52_1, e_52_4, e_52_6, e_52_9, e_52_10, e_52_11, e_52_12, e_52_15, e_52_16, e_52_17, e_52_18, e_52_21, e_52_22, e_52_23, e_52_24, e_52_25, e_52_26, e_52_27, e_52_28, e_52_31, e_52_32, e_52_33, e_52_36, e_52_37, f_52_42, e_52_44, f_52_45, e_52_49, e_52_51, e_52_54, e_52_55, e_52_58, e_52_60, e_52_63, e_52_64, e_52_67, e_52_70, e_52_71, e_52_74, e_52_75, f_52_78, e_52_80, e_52_81, e_52_84, e_52_85, e_52_86, e_52_87, e_52_88, e_52_89, e_52_90, e_52_93, e_52_94, e_52_97, e_52_99, e_52_100, f_52_103, e_52_106, e_52_109, e_52_40, Option.bind_some, Option.toList_some, Option.toList_none, List.cons_append, List.nil_append, am_k1_i, am_k1_r, am_k1_u, am_k1_n, am_bo0, am_bo1, am_boi, am_ev_tb, am_tb_nil, am_rfs, am_rfn, eq_self, and_self, if_true, if_false, show ¬ (1 : Int32) = 0 from by decide, show ¬ (0 : Int32) = 1 from by decide, not_true, not_false_eq_true, and_true, true_and, and_false, false_and, or_true, true_or, or_false, false_or, co_rd (pc_lo E f), S.1.2.2.2.2.2, show ¬ nI 5 < 5 from by decide, e']
  · obtain ⟨h2, e, f2, S2⟩ := H (D + 1) h out (by omega) ho f S
    unfold pc_Y pc_V at e
    rw [if_neg h5, if_neg h5] at e
    exact ⟨h2, e, f2, S2⟩
theorem pc_sideN (E : pc_E G h0 o T t W st ln key) (hl : l ≤ 5) (H : pc_N G h0 o W key st l k op nt k2) {D : Nat} {h : am_H} {out : List (Int32 × Int32)} (hD : pd_n l op nt + 1 ≤ D) (ho : out.length + (W - k) ≤ 96) (f : am_fr (pc_Q o) h0 h) (S : pc_S h o W key k out) : ∃ h2, am_evm G D 52 [.ref (o + 79), .int (nI l), .int (nI op), .int (nI nt)] h = some (none, h2) ∧ am_fr (pc_Q o) h0 h2 ∧ pc_X h2 o W st k2 := by
  obtain ⟨D, rfl⟩ : ∃ D2, D = D2 + 1 := ⟨D - 1, by omega⟩
  by_cases h5 : l = 5
  · subst h5
    obtain ⟨h2, e, f2, S2⟩ := H D h out (by omega) ho f S
    refine ⟨h2, ?_, f2, S2⟩
    have e' : am_evm G D 54 [.ref (o + 79), .int (nI op), .int (nI nt)] h = some (none, h2) := e
    simp only [n_52, e_52_0, e_52_1, e_52_4, e_52_6, e_52_9, e_52_10, e_52_11, e_52_12, e_52_15, e_52_16, e_52_17, e_52_18, e_52_21, e_52_22, e_52_23, e_52_24, e_52_25, e_52_26, e_52_27, e_52_28, e_52_31, e_52_32, e_52_33, e_52_36, e_52_37, f_52_42, e_52_44, f_52_45, e_52_49, e_52_51, e_52_54, e_52_55, e_52_58, e_52_60, e_52_63, e_52_64, e_52_67, e_52_70, e_52_71, e_52_74, e_52_75, f_52_78, e_52_80, e_52_81, e_52_84, e_52_85, e_52_86, e_52_87, e_52_88, e_52_89, e_52_90, e_52_93, e_52_94, e_52_97, e_52_99, e_52_100, f_52_103, e_52_106, e_52_109, e_52_40, Option.bind_some, Option.toList_some, Option.toList_none, List.cons_append, List.nil_append, am_k1_i, am_k1_r, am_k1_u, am_k1_n, am_bo0, am_bo1, am_boi, am_ev_tb, am_tb_nil, am_rfs, am_rfn, eq_self, and_self, if_true, if_false, show ¬ (1 : Int32) = 0 from by decide, show ¬ (0 : Int32) = 1 from by decide, not_true, not_false_eq_true, and_true, true_and, and_false, false_and, or_true, true_or, or_false, false_or, co_rd (pc_lo E f), S.1.2.2.2.2.2, show ¬ nI 5 < 5 from by decide, e']
  · obtain ⟨h2, e, f2, S2⟩ := H (D + 1) h out (by omega) ho f S
    unfold pc_Y pc_V at e
    rw [if_neg h5, if_neg h5] at e
    exact ⟨h2, e, f2, S2⟩
theorem pd_1 (hl : l < 5) : pd_n (l + 1) op nt + 1 + 1 ≤ pd_n l op nt := by
  unfold pd_n
  rw [if_neg (show ¬ l = 5 by omega)]
  split <;> omega
theorem pd_8 : 8 ≤ pd_n l op nt := by unfold pd_n; omega
/-- the sign at a word, as the class asks for it -/
def tk_sg (T : Nat → Int32) (W : Nat) (st ln : Nat → Nat) (k : Nat) : Int32 := if tk_kd T W st ln k = 3 then T (st k) else -1000000005
theorem pc_stop (E : pc_E G h0 o T t W st ln key) (hl : l < 5) (hk : k ≤ W) (hi : i ≤ 96) (hs : pl_m l ≤ i ∨ ¬ tk_lv (tk_sg T W st ln k) = nI l) : pc_LO G h0 o W key l i k op nt k [] := by
  intro D h out x6 hD ho f S
  have h8 := pd_8 (l := l) (op := op) (nt := nt)
  obtain ⟨D, rfl⟩ : ∃ D2, D = D2 + 3 := ⟨D - 3, by omega⟩
  have hp : pl_m l ≤ 96 := by unfold pl_m; split <;> omega
  refine ⟨h, ?_, f, by rw [List.append_nil]; exact S⟩
  rw [e_52_47]
  by_cases h1 : pl_m l ≤ i
  · have hle : nI (pl_m l) ≤ nI i := nI_le h1 (by omega)
    simp only [n_52, e_52_0, e_52_1, e_52_4, e_52_6, e_52_9, e_52_10, e_52_11, e_52_12, e_52_15, e_52_16, e_52_17, e_52_18, e_52_21, e_52_22, e_52_23, e_52_24, e_52_25, e_52_26, e_52_27, e_52_28, e_52_31, e_52_32, e_52_33, e_52_36, e_52_37, f_52_42, e_52_44, f_52_45, e_52_49, e_52_51, e_52_54, e_52_55, e_52_58, e_52_60, e_52_63, e_52_64, e_52_67, e_52_70, e_52_71, e_52_74, e_52_75, f_52_78, e_52_80, e_52_81, e_52_84, e_52_85, e_52_86, e_52_87, e_52_88, e_52_89, e_52_90, e_52_93, e_52_94, e_52_97, e_52_99, e_52_100, f_52_103, e_52_106, e_52_109, e_52_40, Option.bind_some, Option.toList_some, Option.toList_none, List.cons_append, List.nil_append, am_k1_i, am_k1_r, am_k1_u, am_k1_n, am_bo0, am_bo1, am_boi, am_ev_tb, am_tb_nil, am_rfs, am_rfn, eq_self, and_self, if_true, if_false, show ¬ (1 : Int32) = 0 from by decide, show ¬ (0 : Int32) = 1 from by decide, not_true, not_false_eq_true, and_true, true_and, and_false, false_and, or_true, true_or, or_false, false_or, hle]
  · have hle : ¬ nI (pl_m l) ≤ nI i := nI_ge (by omega) (by omega)
    have hsg := c_sign (d := D) E f hk S.1.2.1
    have hlv : ¬ tk_lv (if tk_kd T W st ln k = 3 then T (st k) else -1000000005) = nI l := hs.resolve_left h1
    simp only [n_52, e_52_0, e_52_1, e_52_4, e_52_6, e_52_9, e_52_10, e_52_11, e_52_12, e_52_15, e_52_16, e_52_17, e_52_18, e_52_21, e_52_22, e_52_23, e_52_24, e_52_25, e_52_26, e_52_27, e_52_28, e_52_31, e_52_32, e_52_33, e_52_36, e_52_37, f_52_42, e_52_44, f_52_45, e_52_49, e_52_51, e_52_54, e_52_55, e_52_58, e_52_60, e_52_63, e_52_64, e_52_67, e_52_70, e_52_71, e_52_74, e_52_75, f_52_78, e_52_80, e_52_81, e_52_84, e_52_85, e_52_86, e_52_87, e_52_88, e_52_89, e_52_90, e_52_93, e_52_94, e_52_97, e_52_99, e_52_100, f_52_103, e_52_106, e_52_109, e_52_40, Option.bind_some, Option.toList_some, Option.toList_none, List.cons_append, List.nil_append, am_k1_i, am_k1_r, am_k1_u, am_k1_n, am_bo0, am_bo1, am_boi, am_ev_tb, am_tb_nil, am_rfs, am_rfn, eq_self, and_self, if_true, if_false, show ¬ (1 : Int32) = 0 from by decide, show ¬ (0 : Int32) = 1 from by decide, not_true, not_false_eq_true, and_true, true_and, and_false, false_and, or_true, true_or, or_false, false_or, hle, co_rd (pc_lo E f), S.1.2.2.2.2.2, hsg, c_levelOf, hlv]
theorem pc_goO (E : pc_E G h0 o T t W st ln key) (hl : l < 5) (hk : k < W) (hi : i < pl_m l) (h3 : tk_kd T W st ln k = 3) (hs : tk_lv (T (st k)) = nI l) (hk1 : k1 ≤ W) (hkk : k + 1 ≤ k1) (hs1 : s1.length ≤ k1 - (k + 1)) (H : pc_O G h0 o W key (l + 1) (k + 1) op nt k1 s1) (H2 : pc_LO G h0 o W key l (i + 1) k1 op nt k2 s2) : pc_LO G h0 o W key l i k op nt k2 (s1 ++ [(2, T (st k))] ++ s2) := by
  intro D h out x6 hD ho f S
  have h8 := pd_8 (l := l) (op := op) (nt := nt)
  have h9 := pd_1 (op := op) (nt := nt) hl
  obtain ⟨D, rfl⟩ : ∃ D2, D = D2 + 3 := ⟨D - 3, by omega⟩
  have hp : pl_m l ≤ 96 := by unfold pl_m; split <;> omega
  have hle : ¬ nI (pl_m l) ≤ nI i := nI_ge hi (by omega)
  have hsg := c_sign (d := D) E f (Nat.le_of_lt hk) S.1.2.1
  rw [if_pos h3] at hsg
  obtain ⟨ha, ea, fa, Sa⟩ := c_goOn (d := D + 2) E f hk S
  obtain ⟨hb, eb, fb, Sb⟩ := pc_sideO E (show l + 1 ≤ 5 by omega) H (D := D + 2) (out := out) (by omega) (by omega) fa Sa
  obtain ⟨hc, ec, fc, Sc⟩ := c_addStepS (d := D + 2) (v := 20000 + T (st k)) (u := T (st k)) E fb rfl (by rw [List.length_append]; omega) Sb
  obtain ⟨hd, ed, fd, Sd⟩ := H2 (D + 3) hc (out ++ s1 ++ [(2, T (st k))]) (some (.int (T (st k)))) hD (by rw [List.length_append, List.length_append]; show out.length + s1.length + 1 + (W - k1) ≤ 96; omega) fc Sc
  refine ⟨hd, ?_, fd, by rw [show out ++ (s1 ++ [(2, T (st k))] ++ s2) = out ++ s1 ++ [(2, T (st k))] ++ s2 from by simp only [List.append_assoc]]; exact Sd⟩
  rw [← ed, e_52_47]
  simp only [n_52, e_52_0, e_52_1, e_52_4, e_52_6, e_52_9, e_52_10, e_52_11, e_52_12, e_52_15, e_52_16, e_52_17, e_52_18, e_52_21, e_52_22, e_52_23, e_52_24, e_52_25, e_52_26, e_52_27, e_52_28, e_52_31, e_52_32, e_52_33, e_52_36, e_52_37, f_52_42, e_52_44, f_52_45, e_52_49, e_52_51, e_52_54, e_52_55, e_52_58, e_52_60, e_52_63, e_52_64, e_52_67, e_52_70, e_52_71, e_52_74, e_52_75, f_52_78, e_52_80, e_52_81, e_52_84, e_52_85, e_52_86, e_52_87, e_52_88, e_52_89, e_52_90, e_52_93, e_52_94, e_52_97, e_52_99, e_52_100, f_52_103, e_52_106, e_52_109, e_52_40, Option.bind_some, Option.toList_some, Option.toList_none, List.cons_append, List.nil_append, am_k1_i, am_k1_r, am_k1_u, am_k1_n, am_bo0, am_bo1, am_boi, am_ev_tb, am_tb_nil, am_rfs, am_rfn, eq_self, and_self, if_true, if_false, show ¬ (1 : Int32) = 0 from by decide, show ¬ (0 : Int32) = 1 from by decide, not_true, not_false_eq_true, and_true, true_and, and_false, false_and, or_true, true_or, or_false, false_or, hle, co_rd (pc_lo E f), S.1.2.2.2.2.2, hsg, c_levelOf, hs, ea, co_rd (pc_lo E fa), nI_1, eb, co_rd (pc_lo E fb), ec]
theorem pc_goN1 (E : pc_E G h0 o T t W st ln key) (hl : l < 5) (hk : k < W) (hi : i < pl_m l) (h3 : tk_kd T W st ln k = 3) (hs : tk_lv (T (st k)) = nI l) (hk2 : k2 ≤ W) (H : pc_N G h0 o W key st (l + 1) (k + 1) op nt k2) : pc_LN G h0 o W key st l i k op nt k2 := by
  intro D h out x6 hD ho f S
  have h8 := pd_8 (l := l) (op := op) (nt := nt)
  have h9 := pd_1 (op := op) (nt := nt) hl
  obtain ⟨D, rfl⟩ : ∃ D2, D = D2 + 3 := ⟨D - 3, by omega⟩
  have hp : pl_m l ≤ 96 := by unfold pl_m; split <;> omega
  have hle : ¬ nI (pl_m l) ≤ nI i := nI_ge hi (by omega)
  have hsg := c_sign (d := D) E f (Nat.le_of_lt hk) S.1.2.1
  rw [if_pos h3] at hsg
  obtain ⟨ha, ea, fa, Sa⟩ := c_goOn (d := D + 2) E f hk S
  obtain ⟨hb, eb, fb, Xb⟩ := pc_sideN E (show l + 1 ≤ 5 by omega) H (D := D + 2) (out := out) (by omega) (by omega) fa Sa
  obtain ⟨hc, ec, fc, Xc⟩ := c_addStepX (d := D + 2) (v := 20000 + T (st k)) E fb Xb
  have hX := pc_Xn E hk2 Xc
  refine ⟨hc, ?_, fc, Xc⟩
  rw [e_52_47]
  simp only [n_52, e_52_0, e_52_1, e_52_4, e_52_6, e_52_9, e_52_10, e_52_11, e_52_12, e_52_15, e_52_16, e_52_17, e_52_18, e_52_21, e_52_22, e_52_23, e_52_24, e_52_25, e_52_26, e_52_27, e_52_28, e_52_31, e_52_32, e_52_33, e_52_36, e_52_37, f_52_42, e_52_44, f_52_45, e_52_49, e_52_51, e_52_54, e_52_55, e_52_58, e_52_60, e_52_63, e_52_64, e_52_67, e_52_70, e_52_71, e_52_74, e_52_75, f_52_78, e_52_80, e_52_81, e_52_84, e_52_85, e_52_86, e_52_87, e_52_88, e_52_89, e_52_90, e_52_93, e_52_94, e_52_97, e_52_99, e_52_100, f_52_103, e_52_106, e_52_109, e_52_40, Option.bind_some, Option.toList_some, Option.toList_none, List.cons_append, List.nil_append, am_k1_i, am_k1_r, am_k1_u, am_k1_n, am_bo0, am_bo1, am_boi, am_ev_tb, am_tb_nil, am_rfs, am_rfn, eq_self, and_self, if_true, if_false, show ¬ (1 : Int32) = 0 from by decide, show ¬ (0 : Int32) = 1 from by decide, not_true, not_false_eq_true, and_true, true_and, and_false, false_and, or_true, true_or, or_false, false_or, hle, co_rd (pc_lo E f), S.1.2.2.2.2.2, hsg, c_levelOf, hs, ea, co_rd (pc_lo E fa), nI_1, eb, co_rd (pc_lo E fb), ec]
  rw [e_52_47]
  by_cases h2 : nI (pl_m l) ≤ nI (i + 1)
  · simp only [n_52, e_52_0, e_52_1, e_52_4, e_52_6, e_52_9, e_52_10, e_52_11, e_52_12, e_52_15, e_52_16, e_52_17, e_52_18, e_52_21, e_52_22, e_52_23, e_52_24, e_52_25, e_52_26, e_52_27, e_52_28, e_52_31, e_52_32, e_52_33, e_52_36, e_52_37, f_52_42, e_52_44, f_52_45, e_52_49, e_52_51, e_52_54, e_52_55, e_52_58, e_52_60, e_52_63, e_52_64, e_52_67, e_52_70, e_52_71, e_52_74, e_52_75, f_52_78, e_52_80, e_52_81, e_52_84, e_52_85, e_52_86, e_52_87, e_52_88, e_52_89, e_52_90, e_52_93, e_52_94, e_52_97, e_52_99, e_52_100, f_52_103, e_52_106, e_52_109, e_52_40, Option.bind_some, Option.toList_some, Option.toList_none, List.cons_append, List.nil_append, am_k1_i, am_k1_r, am_k1_u, am_k1_n, am_bo0, am_bo1, am_boi, am_ev_tb, am_tb_nil, am_rfs, am_rfn, eq_self, and_self, if_true, if_false, show ¬ (1 : Int32) = 0 from by decide, show ¬ (0 : Int32) = 1 from by decide, not_true, not_false_eq_true, and_true, true_and, and_false, false_and, or_true, true_or, or_false, false_or, h2]
  · simp only [n_52, e_52_0, e_52_1, e_52_4, e_52_6, e_52_9, e_52_10, e_52_11, e_52_12, e_52_15, e_52_16, e_52_17, e_52_18, e_52_21, e_52_22, e_52_23, e_52_24, e_52_25, e_52_26, e_52_27, e_52_28, e_52_31, e_52_32, e_52_33, e_52_36, e_52_37, f_52_42, e_52_44, f_52_45, e_52_49, e_52_51, e_52_54, e_52_55, e_52_58, e_52_60, e_52_63, e_52_64, e_52_67, e_52_70, e_52_71, e_52_74, e_52_75, f_52_78, e_52_80, e_52_81, e_52_84, e_52_85, e_52_86, e_52_87, e_52_88, e_52_89, e_52_90, e_52_93, e_52_94, e_52_97, e_52_99, e_52_100, f_52_103, e_52_106, e_52_109, e_52_40, Option.bind_some, Option.toList_some, Option.toList_none, List.cons_append, List.nil_append, am_k1_i, am_k1_r, am_k1_u, am_k1_n, am_bo0, am_bo1, am_boi, am_ev_tb, am_tb_nil, am_rfs, am_rfn, eq_self, and_self, if_true, if_false, show ¬ (1 : Int32) = 0 from by decide, show ¬ (0 : Int32) = 1 from by decide, not_true, not_false_eq_true, and_true, true_and, and_false, false_and, or_true, true_or, or_false, false_or, h2, co_rd (pc_lo E fc), hX]
theorem pc_goN2 (E : pc_E G h0 o T t W st ln key) (hl : l < 5) (hk : k < W) (hi : i < pl_m l) (h3 : tk_kd T W st ln k = 3) (hs : tk_lv (T (st k)) = nI l) (hk1 : k1 ≤ W) (hkk : k + 1 ≤ k1) (hs1 : s1.length ≤ k1 - (k + 1)) (H : pc_O G h0 o W key (l + 1) (k + 1) op nt k1 s1) (H2 : pc_LN G h0 o W key st l (i + 1) k1 op nt k2) : pc_LN G h0 o W key st l i k op nt k2 := by
  intro D h out x6 hD ho f S
  have h8 := pd_8 (l := l) (op := op) (nt := nt)
  have h9 := pd_1 (op := op) (nt := nt) hl
  obtain ⟨D, rfl⟩ : ∃ D2, D = D2 + 3 := ⟨D - 3, by omega⟩
  have hp : pl_m l ≤ 96 := by unfold pl_m; split <;> omega
  have hle : ¬ nI (pl_m l) ≤ nI i := nI_ge hi (by omega)
  have hsg := c_sign (d := D) E f (Nat.le_of_lt hk) S.1.2.1
  rw [if_pos h3] at hsg
  obtain ⟨ha, ea, fa, Sa⟩ := c_goOn (d := D + 2) E f hk S
  obtain ⟨hb, eb, fb, Sb⟩ := pc_sideO E (show l + 1 ≤ 5 by omega) H (D := D + 2) (out := out) (by omega) (by omega) fa Sa
  obtain ⟨hc, ec, fc, Sc⟩ := c_addStepS (d := D + 2) (v := 20000 + T (st k)) (u := T (st k)) E fb rfl (by rw [List.length_append]; omega) Sb
  obtain ⟨hd, ed, fd, Xd⟩ := H2 (D + 3) hc (out ++ s1 ++ [(2, T (st k))]) (some (.int (T (st k)))) hD (by rw [List.length_append, List.length_append]; show out.length + s1.length + 1 + (W - k1) ≤ 96; omega) fc Sc
  refine ⟨hd, ?_, fd, Xd⟩
  rw [← ed, e_52_47]
  simp only [n_52, e_52_0, e_52_1, e_52_4, e_52_6, e_52_9, e_52_10, e_52_11, e_52_12, e_52_15, e_52_16, e_52_17, e_52_18, e_52_21, e_52_22, e_52_23, e_52_24, e_52_25, e_52_26, e_52_27, e_52_28, e_52_31, e_52_32, e_52_33, e_52_36, e_52_37, f_52_42, e_52_44, f_52_45, e_52_49, e_52_51, e_52_54, e_52_55, e_52_58, e_52_60, e_52_63, e_52_64, e_52_67, e_52_70, e_52_71, e_52_74, e_52_75, f_52_78, e_52_80, e_52_81, e_52_84, e_52_85, e_52_86, e_52_87, e_52_88, e_52_89, e_52_90, e_52_93, e_52_94, e_52_97, e_52_99, e_52_100, f_52_103, e_52_106, e_52_109, e_52_40, Option.bind_some, Option.toList_some, Option.toList_none, List.cons_append, List.nil_append, am_k1_i, am_k1_r, am_k1_u, am_k1_n, am_bo0, am_bo1, am_boi, am_ev_tb, am_tb_nil, am_rfs, am_rfn, eq_self, and_self, if_true, if_false, show ¬ (1 : Int32) = 0 from by decide, show ¬ (0 : Int32) = 1 from by decide, not_true, not_false_eq_true, and_true, true_and, and_false, false_and, or_true, true_or, or_false, false_or, hle, co_rd (pc_lo E f), S.1.2.2.2.2.2, hsg, c_levelOf, hs, ea, co_rd (pc_lo E fa), nI_1, eb, co_rd (pc_lo E fb), ec]
theorem pl_c (l : Nat) (hl : l < 5) : (if nI l = 2 then (1 : Int32) else 96) = nI (pl_m l) := by
  unfold pl_m
  by_cases h2 : l = 2
  · subst h2; rfl
  · rw [if_neg h2, if_neg (show ¬ nI l = 2 from fun z => h2 ((nI_eq (b := 2) (by omega) (by decide)).mp z))]; rfl
theorem pc_head (E : pc_E G h0 o T t W st ln key) (hl : l < 5) {D : Nat} {h h2 : am_H} (f : am_fr (pc_Q o) h0 h) (h10 : am_i h (o + 79) 10 = -1000000005) (e : am_evm G D 52 [.ref (o + 79), .int (nI (l + 1)), .int (nI op), .int (nI nt)] h = some (none, h2)) : am_evm G (D + 1) 52 [.ref (o + 79), .int (nI l), .int (nI op), .int (nI nt)] h = am_ev G (D + 1) 52 47 [some (.ref (o + 79)), some (.int (nI l)), some (.int (nI op)), some (.int (nI nt)), some (.int (nI (pl_m l))), some (.int (nI 0)), none] [] h2 := by
  have hlt : nI l < 5 := nI_lt (b := 5) hl (by decide)
  rw [← pl_c l hl]
  by_cases q2 : nI l = 2
  · have q3 : (nI l = 2) = True := eq_true q2
    rw [if_pos q2]
    simp only [n_52, e_52_0, e_52_1, e_52_4, e_52_6, e_52_9, e_52_10, e_52_11, e_52_12, e_52_15, e_52_16, e_52_17, e_52_18, e_52_21, e_52_22, e_52_23, e_52_24, e_52_25, e_52_26, e_52_27, e_52_28, e_52_31, e_52_32, e_52_33, e_52_36, e_52_37, f_52_42, e_52_44, f_52_45, e_52_49, e_52_51, e_52_54, e_52_55, e_52_58, e_52_60, e_52_63, e_52_64, e_52_67, e_52_70, e_52_71, e_52_74, e_52_75, f_52_78, e_52_80, e_52_81, e_52_84, e_52_85, e_52_86, e_52_87, e_52_88, e_52_89, e_52_90, e_52_93, e_52_94, e_52_97, e_52_99, e_52_100, f_52_103, e_52_106, e_52_109, e_52_40, Option.bind_some, Option.toList_some, Option.toList_none, List.cons_append, List.nil_append, am_k1_i, am_k1_r, am_k1_u, am_k1_n, am_bo0, am_bo1, am_boi, am_ev_tb, am_tb_nil, am_rfs, am_rfn, eq_self, and_self, if_true, if_false, show ¬ (1 : Int32) = 0 from by decide, show ¬ (0 : Int32) = 1 from by decide, not_true, not_false_eq_true, and_true, true_and, and_false, false_and, or_true, true_or, or_false, false_or, co_rd (pc_lo E f), h10, hlt, nI_1, e, q3]
    rfl
  · rw [if_neg q2]
    simp only [n_52, e_52_0, e_52_1, e_52_4, e_52_6, e_52_9, e_52_10, e_52_11, e_52_12, e_52_15, e_52_16, e_52_17, e_52_18, e_52_21, e_52_22, e_52_23, e_52_24, e_52_25, e_52_26, e_52_27, e_52_28, e_52_31, e_52_32, e_52_33, e_52_36, e_52_37, f_52_42, e_52_44, f_52_45, e_52_49, e_52_51, e_52_54, e_52_55, e_52_58, e_52_60, e_52_63, e_52_64, e_52_67, e_52_70, e_52_71, e_52_74, e_52_75, f_52_78, e_52_80, e_52_81, e_52_84, e_52_85, e_52_86, e_52_87, e_52_88, e_52_89, e_52_90, e_52_93, e_52_94, e_52_97, e_52_99, e_52_100, f_52_103, e_52_106, e_52_109, e_52_40, Option.bind_some, Option.toList_some, Option.toList_none, List.cons_append, List.nil_append, am_k1_i, am_k1_r, am_k1_u, am_k1_n, am_bo0, am_bo1, am_boi, am_ev_tb, am_tb_nil, am_rfs, am_rfn, eq_self, and_self, if_true, if_false, show ¬ (1 : Int32) = 0 from by decide, show ¬ (0 : Int32) = 1 from by decide, not_true, not_false_eq_true, and_true, true_and, and_false, false_and, or_true, true_or, or_false, false_or, co_rd (pc_lo E f), h10, hlt, nI_1, e, q2]
    rfl
theorem pc_okO (E : pc_E G h0 o T t W st ln key) (hl : l < 5) (hkk : k ≤ k1) (hk1 : k1 ≤ W) (hs1 : s1.length ≤ k1 - k) (H : pc_O G h0 o W key (l + 1) k op nt k1 s1) (H2 : pc_LO G h0 o W key l 0 k1 op nt k2 s2) : pc_O G h0 o W key l k op nt k2 (s1 ++ s2) := by
  intro D h out hD ho f S
  have h8 := pd_8 (l := l) (op := op) (nt := nt)
  have h9 := pd_1 (op := op) (nt := nt) hl
  obtain ⟨D, rfl⟩ : ∃ D2, D = D2 + 1 := ⟨D - 1, by omega⟩
  obtain ⟨hb, eb, fb, Sb⟩ := pc_sideO E (show l + 1 ≤ 5 by omega) H (D := D) (out := out) (by omega) ho f S
  obtain ⟨hd, ed, fd, Sd⟩ := H2 (D + 1) hb (out ++ s1) none hD (by rw [List.length_append]; omega) fb Sb
  refine ⟨hd, ?_, fd, by rw [← List.append_assoc]; exact Sd⟩
  unfold pc_Y pc_V
  rw [if_neg (show ¬ l = 5 by omega), if_neg (show ¬ l = 5 by omega), pc_head E hl f S.1.2.2.2.2.2 eb]
  exact ed
theorem pc_okN1 (E : pc_E G h0 o T t W st ln key) (hl : l < 5) (hk2 : k2 ≤ W) (H : pc_N G h0 o W key st (l + 1) k op nt k2) : pc_N G h0 o W key st l k op nt k2 := by
  intro D h out hD ho f S
  have h8 := pd_8 (l := l) (op := op) (nt := nt)
  have h9 := pd_1 (op := op) (nt := nt) hl
  obtain ⟨D, rfl⟩ : ∃ D2, D = D2 + 1 := ⟨D - 1, by omega⟩
  obtain ⟨hb, eb, fb, Xb⟩ := pc_sideN E (show l + 1 ≤ 5 by omega) H (D := D) (out := out) (by omega) ho f S
  refine ⟨hb, ?_, fb, Xb⟩
  unfold pc_Y pc_V
  rw [if_neg (show ¬ l = 5 by omega), if_neg (show ¬ l = 5 by omega), pc_head E hl f S.1.2.2.2.2.2 eb, e_52_47]
  have hX := pc_Xn E hk2 Xb
  have hle : ¬ nI (pl_m l) ≤ nI 0 := nI_ge (by unfold pl_m; split <;> omega) (by unfold pl_m; split <;> omega)
  simp only [n_52, e_52_0, e_52_1, e_52_4, e_52_6, e_52_9, e_52_10, e_52_11, e_52_12, e_52_15, e_52_16, e_52_17, e_52_18, e_52_21, e_52_22, e_52_23, e_52_24, e_52_25, e_52_26, e_52_27, e_52_28, e_52_31, e_52_32, e_52_33, e_52_36, e_52_37, f_52_42, e_52_44, f_52_45, e_52_49, e_52_51, e_52_54, e_52_55, e_52_58, e_52_60, e_52_63, e_52_64, e_52_67, e_52_70, e_52_71, e_52_74, e_52_75, f_52_78, e_52_80, e_52_81, e_52_84, e_52_85, e_52_86, e_52_87, e_52_88, e_52_89, e_52_90, e_52_93, e_52_94, e_52_97, e_52_99, e_52_100, f_52_103, e_52_106, e_52_109, e_52_40, Option.bind_some, Option.toList_some, Option.toList_none, List.cons_append, List.nil_append, am_k1_i, am_k1_r, am_k1_u, am_k1_n, am_bo0, am_bo1, am_boi, am_ev_tb, am_tb_nil, am_rfs, am_rfn, eq_self, and_self, if_true, if_false, show ¬ (1 : Int32) = 0 from by decide, show ¬ (0 : Int32) = 1 from by decide, not_true, not_false_eq_true, and_true, true_and, and_false, false_and, or_true, true_or, or_false, false_or, hle, co_rd (pc_lo E fb), hX]
theorem pc_okN2 (E : pc_E G h0 o T t W st ln key) (hl : l < 5) (hkk : k ≤ k1) (hk1 : k1 ≤ W) (hs1 : s1.length ≤ k1 - k) (H : pc_O G h0 o W key (l + 1) k op nt k1 s1) (H2 : pc_LN G h0 o W key st l 0 k1 op nt k2) : pc_N G h0 o W key st l k op nt k2 := by
  intro D h out hD ho f S
  have h8 := pd_8 (l := l) (op := op) (nt := nt)
  have h9 := pd_1 (op := op) (nt := nt) hl
  obtain ⟨D, rfl⟩ : ∃ D2, D = D2 + 1 := ⟨D - 1, by omega⟩
  obtain ⟨hb, eb, fb, Sb⟩ := pc_sideO E (show l + 1 ≤ 5 by omega) H (D := D) (out := out) (by omega) ho f S
  obtain ⟨hd, ed, fd, Xd⟩ := H2 (D + 1) hb (out ++ s1) none hD (by rw [List.length_append]; omega) fb Sb
  refine ⟨hd, ?_, fd, Xd⟩
  unfold pc_Y pc_V
  rw [if_neg (show ¬ l = 5 by omega), if_neg (show ¬ l = 5 by omega), pc_head E hl f S.1.2.2.2.2.2 eb]
  exact ed
end PL
