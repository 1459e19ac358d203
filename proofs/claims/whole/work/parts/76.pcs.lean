/-! a piece, on the class's side -/
theorem mt_nc_le (key i : Nat) : 97 ≤ mt_nc key i ∧ mt_nc key i ≤ 122 := by
  unfold mt_nc
  (repeat' split) <;> omega
theorem am_NA_nc : ∀ key, key < 3 → ∀ i, i < 3 → am_NA (key * 3 + i) = nI (mt_nc key i) := by decide
theorem pd_p {op nt : Nat} : pd_n 5 op nt = 16 * (8 - op) + (8 - nt) + 8 := by unfold pd_n; rw [if_pos rfl]
theorem pd_not {op nt : Nat} (hn : nt < 8) : pd_n 5 op (nt + 1) + 1 ≤ pd_n 5 op nt := by rw [pd_p, pd_p]; omega
theorem pd_par {op nt : Nat} (hn : op < 8) : pd_n 0 (op + 1) nt + 2 ≤ pd_n 5 op nt := by rw [pd_p]; unfold pd_n; rw [if_neg (by decide)]; omega
section PP
variable {G : Nat → Nat} {h0 : am_H} {o t W key k k1 k2 op nt : Nat} {T : Nat → Int32} {st ln : Nat → Nat} {s1 : List (Int32 × Int32)}
theorem tk_w3 (E : pc_E G h0 o T t W st ln key) (hk : k < W) : (tk_so (fun j => tk_c (T j)) (st k) = 1 ∧ tk_kd T W st ln k = 3) ∨ (tk_so (fun j => tk_c (T j)) (st k) = 2 ∧ tk_kd T W st ln k = 1 ∧ tk_c (T (st k)) = 2) ∨ (tk_so (fun j => tk_c (T j)) (st k) = 3 ∧ tk_kd T W st ln k = (if ln k ≤ 4 then 2 else 4) ∧ tk_c (T (st k)) = 3) ∨ (tk_so (fun j => tk_c (T j)) (st k) = 4 ∧ tk_kd T W st ln k = 4) := by
  have w5 := (E.2.2.1.w hk).2.2.1
  rcases tk_c4 (T (st k)) with ec | ec | ec | ec
  · exact absurd ec w5
  · exact Or.inl ⟨if_pos ec, tk_kd_1 hk ec⟩
  · by_cases hg : 0 < st k ∧ (tk_c (T (st k - 1)) = 2 ∨ tk_c (T (st k - 1)) = 3)
    · exact Or.inr (Or.inr (Or.inr ⟨(if_neg (show ¬ tk_c (T (st k)) = 1 by omega)).trans (if_pos hg), tk_kd_g hk (by omega) hg⟩))
    · exact Or.inr (Or.inl ⟨((if_neg (show ¬ tk_c (T (st k)) = 1 by omega)).trans (if_neg hg)).trans ec, tk_kd_2 hk ec hg, ec⟩)
  · by_cases hg : 0 < st k ∧ (tk_c (T (st k - 1)) = 2 ∨ tk_c (T (st k - 1)) = 3)
    · exact Or.inr (Or.inr (Or.inr ⟨(if_neg (show ¬ tk_c (T (st k)) = 1 by omega)).trans (if_pos hg), tk_kd_g hk (by omega) hg⟩))
    · exact Or.inr (Or.inr (Or.inl ⟨((if_neg (show ¬ tk_c (T (st k)) = 1 by omega)).trans (if_neg hg)).trans ec, tk_kd_3 hk ec hg, ec⟩))
theorem tk_lt (h : tk_kd T W st ln k ≠ 0) : k < W := by
  apply Classical.byContradiction
  intro z
  exact h (if_neg z)
theorem c_rn_l (E : pc_E G h0 o T t W st ln key) {D : Nat} {h : am_H} {out : List (Int32 × Int32)} (f : am_fr (pc_Q o) h0 h) (hk : k < W) (hc : tk_c (T (st k)) = 3) (hl : out.length < 96) (h4 : ln k ≤ 4) (S : pc_S h o W key k out) : ∃ h2, am_fr (pc_Q o) h0 h2 ∧ pc_S h2 o W key (k + 1) (out ++ [(0, nI (tk_num T (st k) (ln k)))]) ∧ ∀ j i, i + j = ln k → am_ev G (D + 3) 56 22 [some (.ref (o + 79)), some (.int (nI (tk_num T (st k) i))), some (.int (nI i))] [] h = some (none, h2) := by
  have lo := pc_lo E f
  have hW := pc_W E
  have ht96 := E.2.2.1.1
  obtain ⟨⟨w1, w2, w3⟩, w4, w5, w6, w7, w8⟩ := E.2.2.1.w hk
  obtain ⟨h2, e, f2, S2⟩ := c_addPiece (d := D + 1) (v := nI (tk_num T (st k) (ln k))) (y := (0, nI (tk_num T (st k) (ln k)))) E f (Or.inl ⟨rfl, rfl⟩) (show ¬ (0 : Int32) = 2 from by decide) hk hl S
  refine ⟨h2, f2, S2, ?_⟩
  intro j
  induction j with
  | zero =>
    intro i hi
    obtain rfl : i = ln k := by omega
    rw [e_56_22]
    simp only [n_56, e_56_0, e_56_1, e_56_4, e_56_5, e_56_8, e_56_9, e_56_10, e_56_13, e_56_14, e_56_17, e_56_18, f_56_19, e_56_20, f_56_21, e_56_23, e_56_24, e_56_27, e_56_28, e_56_31, e_56_32, e_56_35, e_56_37, e_56_38, e_56_39, e_56_40, e_56_43, e_56_44, e_56_47, e_56_48, e_56_51, e_56_52, e_56_53, e_56_54, e_56_57, e_56_58, e_56_60, f_56_61, f_56_62, e_56_65, e_56_68, e_56_69, e_56_70, e_56_73, Option.bind_some, Option.toList_some, Option.toList_none, List.cons_append, List.nil_append, am_k1_i, am_k1_r, am_k1_u, am_k1_n, am_bo0, am_bo1, am_boi, am_ev_tb, am_tb_nil, am_rfs, am_rfn, eq_self, and_self, if_true, if_false, show ¬ (1 : Int32) = 0 from by decide, show ¬ (0 : Int32) = 1 from by decide, not_true, not_false_eq_true, and_true, true_and, and_false, false_and, or_true, true_or, or_false, false_or, co_rd lo, co_e3 lo, S.1.2.1, co_3a lo (show k < 97 by omega), am_cl (show k < 2147483648 by omega), pc_ln E f (Nat.le_of_lt hk), Int32.le_refl, e]
  | succ j ih =>
    intro i hi
    have hlt : ¬ nI (ln k) ≤ nI i := nI_ge (by omega) (by omega)
    have hn := tk_num_s (T := T) (b := st k) (l := i) (by rw [w4 (st k + i) (by omega) (by omega)]; exact hc)
    rw [e_56_22]
    simp only [n_56, e_56_0, e_56_1, e_56_4, e_56_5, e_56_8, e_56_9, e_56_10, e_56_13, e_56_14, e_56_17, e_56_18, f_56_19, e_56_20, f_56_21, e_56_23, e_56_24, e_56_27, e_56_28, e_56_31, e_56_32, e_56_35, e_56_37, e_56_38, e_56_39, e_56_40, e_56_43, e_56_44, e_56_47, e_56_48, e_56_51, e_56_52, e_56_53, e_56_54, e_56_57, e_56_58, e_56_60, f_56_61, f_56_62, e_56_65, e_56_68, e_56_69, e_56_70, e_56_73, Option.bind_some, Option.toList_some, Option.toList_none, List.cons_append, List.nil_append, am_k1_i, am_k1_r, am_k1_u, am_k1_n, am_bo0, am_bo1, am_boi, am_ev_tb, am_tb_nil, am_rfs, am_rfn, eq_self, and_self, if_true, if_false, show ¬ (1 : Int32) = 0 from by decide, show ¬ (0 : Int32) = 1 from by decide, not_true, not_false_eq_true, and_true, true_and, and_false, false_and, or_true, true_or, or_false, false_or, co_rd lo, co_e3 lo, S.1.2.1, co_3a lo (show k < 97 by omega), am_cl (show k < 2147483648 by omega), pc_ln E f (Nat.le_of_lt hk), hlt, co_e0 lo, co_tp lo, co_e2 lo, co_2a lo (show k < 97 by omega), pc_st E f (Nat.le_of_lt hk), nI_add, pc_at E f (show st k + i < t by omega), hn, nI_1]
    exact ih (i + 1) (by omega)
theorem pc_num (E : pc_E G h0 o T t W st ln key) (h2 : tk_kd T W st ln k = 2) : pc_O G h0 o W key 5 k op nt (k + 1) [(0, nI (tk_num T (st k) (ln k)))] := by
  intro D h out hD ho f S
  have h8 := pd_8 (l := 5) (op := op) (nt := nt)
  have hk : k < W := tk_lt (T := T) (st := st) (ln := ln) (by omega)
  obtain ⟨D, rfl⟩ : ∃ D2, D = D2 + 4 := ⟨D - 4, by omega⟩
  have lo := pc_lo E f
  have hW := pc_W E
  rcases tk_w3 E hk with ⟨_, q⟩ | ⟨_, q, _⟩ | ⟨q1, q2, q3⟩ | ⟨_, q⟩
  · omega
  · omega
  · have h4 : ln k ≤ 4 := by
      apply Classical.byContradiction
      intro z
      rw [if_neg z] at q2
      omega
    have hs := pc_so E f (Nat.le_of_lt hk)
    rw [if_pos hk, q1] at hs
    obtain ⟨hb, fb, Sb, eb⟩ := c_rn_l (D := D) E f hk q3 (by omega) h4 S
    have e0 := eb (ln k) 0 (by omega)
    refine ⟨hb, ?_, fb, Sb⟩
    have er : am_evm G (D + 3) 56 [.ref (o + 79)] h = some (none, hb) := by
      have hle : nI (ln k) ≤ 4 := nI_le (b := 4) h4 (by decide)
      rw [← e0]
      simp only [n_56, e_56_0, e_56_1, e_56_4, e_56_5, e_56_8, e_56_9, e_56_10, e_56_13, e_56_14, e_56_17, e_56_18, f_56_19, e_56_20, f_56_21, e_56_23, e_56_24, e_56_27, e_56_28, e_56_31, e_56_32, e_56_35, e_56_37, e_56_38, e_56_39, e_56_40, e_56_43, e_56_44, e_56_47, e_56_48, e_56_51, e_56_52, e_56_53, e_56_54, e_56_57, e_56_58, e_56_60, f_56_61, f_56_62, e_56_65, e_56_68, e_56_69, e_56_70, e_56_73, Option.bind_some, Option.toList_some, Option.toList_none, List.cons_append, List.nil_append, am_k1_i, am_k1_r, am_k1_u, am_k1_n, am_bo0, am_bo1, am_boi, am_ev_tb, am_tb_nil, am_rfs, am_rfn, eq_self, and_self, if_true, if_false, show ¬ (1 : Int32) = 0 from by decide, show ¬ (0 : Int32) = 1 from by decide, not_true, not_false_eq_true, and_true, true_and, and_false, false_and, or_true, true_or, or_false, false_or, co_rd lo, co_e3 lo, S.1.2.1, co_3a lo (show k < 97 by omega), am_cl (show k < 2147483648 by omega), pc_ln E f (Nat.le_of_lt hk), hle]
      rfl
    show am_evm G (D + 4) 54 [.ref (o + 79), .int (nI op), .int (nI nt)] h = _
    simp only [n_54, e_54_0, e_54_1, e_54_4, e_54_5, e_54_8, e_54_9, e_54_10, e_54_13, e_54_14, e_54_17, e_54_116, e_54_20, e_54_21, e_54_24, e_54_25, e_54_28, e_54_29, e_54_30, e_54_33, e_54_34, e_54_37, e_54_40, e_54_41, e_54_44, e_54_46, e_54_49, e_54_50, e_54_52, e_54_55, e_54_56, e_54_59, e_54_60, e_54_61, e_54_62, e_54_63, e_54_64, e_54_67, e_54_68, e_54_71, e_54_74, e_54_77, e_54_78, e_54_81, e_54_83, e_54_86, e_54_87, e_54_89, e_54_92, e_54_93, e_54_96, e_54_97, e_54_98, e_54_99, e_54_100, e_54_101, e_54_102, e_54_105, e_54_106, e_54_109, e_54_112, e_54_113, Option.bind_some, Option.toList_some, Option.toList_none, List.cons_append, List.nil_append, am_k1_i, am_k1_r, am_k1_u, am_k1_n, am_bo0, am_bo1, am_boi, am_ev_tb, am_tb_nil, am_rfs, am_rfn, eq_self, and_self, if_true, if_false, show ¬ (1 : Int32) = 0 from by decide, show ¬ (0 : Int32) = 1 from by decide, not_true, not_false_eq_true, and_true, true_and, and_false, false_and, or_true, true_or, or_false, false_or, co_rd lo, co_e1 lo, S.1.2.1, co_1a lo (show k < 97 by omega), am_cl (show k < 2147483648 by omega), hs, show nI 3 = (3 : Int32) from rfl, er]
  · omega
theorem c_nm_miss (E : pc_E G h0 o T t W st ln key) {D i : Nat} {h : am_H} {out : List (Int32 × Int32)} {x3 : Option Value} (f : am_fr (pc_Q o) h0 h) (hk : k < W) (hi : i < 3) (hm : ¬ (ln k = 1 ∧ T (st k) = nI (mt_nc key i))) (S : pc_S h o W key k out) : ∃ x, am_ev G (D + 3) 57 19 [some (.ref (o + 79)), some (.int (T (st k))), some (.int (nI i)), x3] [] h = am_ev G (D + 3) 57 19 [some (.ref (o + 79)), some (.int (T (st k))), some (.int (nI (i + 1))), x] [] h := by
  have lo := pc_lo E f
  have hW := pc_W E
  have hkey := E.2.2.2.2.2
  have ht96 := E.2.2.1.1
  obtain ⟨⟨w1, w2, w3⟩, -⟩ := E.2.2.1.w hk
  have cE : cl_E G h := cl_E.fr (S := pc_Q o) E.1.2.1 f.2.2.1 (fun b hb => f.i1 (fun z => by unfold pc_Q at z; have := E.1.2.2; omega))
  obtain ⟨g1, g2, g3⟩ := cE.2.1
  have hlt : ¬ (3 : Int32) ≤ nI i := nI_ge (b := 3) hi (by decide)
  have hpl : nI key * 3 + nI i = nI (key * 3 + i) := by rw [show (3 : Int32) = nI 3 from rfl, pk_mul, nI_add]
  have hal : am_al G h (G 2) := Or.inr ⟨g1, by rw [g2]; decide⟩
  have hw9 : 0 ≤ nI (key * 3 + i) ∧ nI (key * 3 + i) ≤ Int32.ofNat (am_sh h (G 2)).2 - 1 := by rw [g2]; exact (mt_ix (c := 9) (by omega)).mpr ⟨key * 3 + i, by omega, rfl⟩
  have hca : am_ca G h (G 2) (nI (key * 3 + i)) := ⟨⟨g1, by rw [g2]⟩, by rw [g2]; exact nI_in (show key * 3 + i < 9 by omega) (by decide)⟩
  refine ⟨some (.int (nI (key * 3 + i))), ?_⟩
  rw [e_57_19]
  by_cases h1 : ln k = 1
  · have h1' : nI (ln k) = 1 := by rw [h1]; rfl
    have hne : ¬ nI (mt_nc key i) = T (st k) := fun z => hm ⟨h1, z.symm⟩
    simp only [n_57, e_57_0, e_57_1, e_57_4, e_57_5, e_57_8, e_57_9, e_57_12, e_57_13, f_57_16, e_57_17, f_57_18, e_57_20, e_57_21, e_57_24, e_57_25, e_57_28, e_57_29, e_57_30, e_57_31, f_57_32, e_57_33, e_57_34, e_57_37, e_57_38, e_57_41, e_57_42, e_57_43, e_57_46, e_57_47, e_57_48, e_57_51, e_57_52, e_57_53, e_57_54, e_57_57, e_57_60, e_57_63, e_57_64, e_57_65, e_57_66, e_57_69, e_57_70, e_57_73, e_57_74, e_57_75, e_57_78, f_57_79, e_57_82, e_57_85, e_57_86, e_57_89, Option.bind_some, Option.toList_some, Option.toList_none, List.cons_append, List.nil_append, am_k1_i, am_k1_r, am_k1_u, am_k1_n, am_bo0, am_bo1, am_boi, am_ev_tb, am_tb_nil, am_rfs, am_rfn, eq_self, and_self, if_true, if_false, show ¬ (1 : Int32) = 0 from by decide, show ¬ (0 : Int32) = 1 from by decide, not_true, not_false_eq_true, and_true, true_and, and_false, false_and, or_true, true_or, or_false, false_or, hlt, co_rd lo, S.1.2.2.2.2.1, hpl, co_e3 lo, S.1.2.1, co_3a lo (show k < 97 by omega), am_cl (show k < 2147483648 by omega), pc_ln E f (Nat.le_of_lt hk), h1', hal, c_within, hw9, hca, am_cl (show key * 3 + i < 2147483648 by omega), g3, am_NA_nc key hkey i hi, hne, nI_1]
  · have h1' : ¬ nI (ln k) = 1 := fun z => h1 ((nI_eq (b := 1) (by omega) (by decide)).mp z)
    simp only [n_57, e_57_0, e_57_1, e_57_4, e_57_5, e_57_8, e_57_9, e_57_12, e_57_13, f_57_16, e_57_17, f_57_18, e_57_20, e_57_21, e_57_24, e_57_25, e_57_28, e_57_29, e_57_30, e_57_31, f_57_32, e_57_33, e_57_34, e_57_37, e_57_38, e_57_41, e_57_42, e_57_43, e_57_46, e_57_47, e_57_48, e_57_51, e_57_52, e_57_53, e_57_54, e_57_57, e_57_60, e_57_63, e_57_64, e_57_65, e_57_66, e_57_69, e_57_70, e_57_73, e_57_74, e_57_75, e_57_78, f_57_79, e_57_82, e_57_85, e_57_86, e_57_89, Option.bind_some, Option.toList_some, Option.toList_none, List.cons_append, List.nil_append, am_k1_i, am_k1_r, am_k1_u, am_k1_n, am_bo0, am_bo1, am_boi, am_ev_tb, am_tb_nil, am_rfs, am_rfn, eq_self, and_self, if_true, if_false, show ¬ (1 : Int32) = 0 from by decide, show ¬ (0 : Int32) = 1 from by decide, not_true, not_false_eq_true, and_true, true_and, and_false, false_and, or_true, true_or, or_false, false_or, hlt, co_rd lo, S.1.2.2.2.2.1, hpl, co_e3 lo, S.1.2.1, co_3a lo (show k < 97 by omega), am_cl (show k < 2147483648 by omega), pc_ln E f (Nat.le_of_lt hk), h1', nI_1]
theorem c_nm_hit (E : pc_E G h0 o T t W st ln key) {D i : Nat} {h : am_H} {out : List (Int32 × Int32)} {x3 : Option Value} (f : am_fr (pc_Q o) h0 h) (hk : k < W) (hi : i < 3) (h1 : ln k = 1) (he : T (st k) = nI (mt_nc key i)) (hl : out.length < 96) (S : pc_S h o W key k out) : ∃ h2, am_ev G (D + 3) 57 19 [some (.ref (o + 79)), some (.int (T (st k))), some (.int (nI i)), x3] [] h = some (none, h2) ∧ am_fr (pc_Q o) h0 h2 ∧ pc_S h2 o W key (k + 1) (out ++ [(1, T (st k))]) := by
  have lo := pc_lo E f
  have hW := pc_W E
  have hkey := E.2.2.2.2.2
  have cE : cl_E G h := cl_E.fr (S := pc_Q o) E.1.2.1 f.2.2.1 (fun b hb => f.i1 (fun z => by unfold pc_Q at z; have := E.1.2.2; omega))
  obtain ⟨g1, g2, g3⟩ := cE.2.1
  have hlt : ¬ (3 : Int32) ≤ nI i := nI_ge (b := 3) hi (by decide)
  have hpl : nI key * 3 + nI i = nI (key * 3 + i) := by rw [show (3 : Int32) = nI 3 from rfl, pk_mul, nI_add]
  have hal : am_al G h (G 2) := Or.inr ⟨g1, by rw [g2]; decide⟩
  have hw9 : 0 ≤ nI (key * 3 + i) ∧ nI (key * 3 + i) ≤ Int32.ofNat (am_sh h (G 2)).2 - 1 := by rw [g2]; exact (mt_ix (c := 9) (by omega)).mpr ⟨key * 3 + i, by omega, rfl⟩
  have hca : am_ca G h (G 2) (nI (key * 3 + i)) := ⟨⟨g1, by rw [g2]⟩, by rw [g2]; exact nI_in (show key * 3 + i < 9 by omega) (by decide)⟩
  have h1' : nI (ln k) = 1 := by rw [h1]; rfl
  have h10 : (10000 : Int32) + nI i = nI (10000 + i) := nI_add 10000 i
  obtain ⟨h2, e, f2, S2⟩ := c_addPiece (d := D + 1) (v := nI (10000 + i)) (y := (1, T (st k))) E f (Or.inr (Or.inl ⟨rfl, i, hi, he, rfl⟩)) (show ¬ (1 : Int32) = 2 from by decide) hk hl S
  refine ⟨h2, ?_, f2, S2⟩
  rw [e_57_19]
  simp only [n_57, e_57_0, e_57_1, e_57_4, e_57_5, e_57_8, e_57_9, e_57_12, e_57_13, f_57_16, e_57_17, f_57_18, e_57_20, e_57_21, e_57_24, e_57_25, e_57_28, e_57_29, e_57_30, e_57_31, f_57_32, e_57_33, e_57_34, e_57_37, e_57_38, e_57_41, e_57_42, e_57_43, e_57_46, e_57_47, e_57_48, e_57_51, e_57_52, e_57_53, e_57_54, e_57_57, e_57_60, e_57_63, e_57_64, e_57_65, e_57_66, e_57_69, e_57_70, e_57_73, e_57_74, e_57_75, e_57_78, f_57_79, e_57_82, e_57_85, e_57_86, e_57_89, Option.bind_some, Option.toList_some, Option.toList_none, List.cons_append, List.nil_append, am_k1_i, am_k1_r, am_k1_u, am_k1_n, am_bo0, am_bo1, am_boi, am_ev_tb, am_tb_nil, am_rfs, am_rfn, eq_self, and_self, if_true, if_false, show ¬ (1 : Int32) = 0 from by decide, show ¬ (0 : Int32) = 1 from by decide, not_true, not_false_eq_true, and_true, true_and, and_false, false_and, or_true, true_or, or_false, false_or, hlt, co_rd lo, S.1.2.2.2.2.1, hpl, co_e3 lo, S.1.2.1, co_3a lo (show k < 97 by omega), am_cl (show k < 2147483648 by omega), pc_ln E f (Nat.le_of_lt hk), h1', hal, c_within, hw9, hca, am_cl (show key * 3 + i < 2147483648 by omega), g3, am_NA_nc key hkey i hi, he, h10, e]
theorem c_nm_head (E : pc_E G h0 o T t W st ln key) {D : Nat} {h : am_H} {out : List (Int32 × Int32)} (f : am_fr (pc_Q o) h0 h) (hk : k < W) (S : pc_S h o W key k out) : am_evm G (D + 3) 57 [.ref (o + 79)] h = am_ev G (D + 3) 57 19 [some (.ref (o + 79)), some (.int (T (st k))), some (.int (nI 0)), none] [] h := by
  have lo := pc_lo E f
  have hW := pc_W E
  obtain ⟨⟨w1, w2, w3⟩, -⟩ := E.2.2.1.w hk
  simp only [n_57, e_57_0, e_57_1, e_57_4, e_57_5, e_57_8, e_57_9, e_57_12, e_57_13, f_57_16, e_57_17, f_57_18, e_57_20, e_57_21, e_57_24, e_57_25, e_57_28, e_57_29, e_57_30, e_57_31, f_57_32, e_57_33, e_57_34, e_57_37, e_57_38, e_57_41, e_57_42, e_57_43, e_57_46, e_57_47, e_57_48, e_57_51, e_57_52, e_57_53, e_57_54, e_57_57, e_57_60, e_57_63, e_57_64, e_57_65, e_57_66, e_57_69, e_57_70, e_57_73, e_57_74, e_57_75, e_57_78, f_57_79, e_57_82, e_57_85, e_57_86, e_57_89, Option.bind_some, Option.toList_some, Option.toList_none, List.cons_append, List.nil_append, am_k1_i, am_k1_r, am_k1_u, am_k1_n, am_bo0, am_bo1, am_boi, am_ev_tb, am_tb_nil, am_rfs, am_rfn, eq_self, and_self, if_true, if_false, show ¬ (1 : Int32) = 0 from by decide, show ¬ (0 : Int32) = 1 from by decide, not_true, not_false_eq_true, and_true, true_and, and_false, false_and, or_true, true_or, or_false, false_or, co_rd lo, co_e0 lo, co_tp lo, co_e2 lo, S.1.2.1, co_2a lo (show k < 97 by omega), am_cl (show k < 2147483648 by omega), pc_st E f (Nat.le_of_lt hk), pc_at E f (show st k < t by omega)]
  rfl
theorem pc_pname (E : pc_E G h0 o T t W st ln key) (hk : k < W) {D : Nat} {h h2 : am_H} {out : List (Int32 × Int32)} (f : am_fr (pc_Q o) h0 h) (h1 : tk_kd T W st ln k = 1) (S : pc_S h o W key k out) (e : am_evm G (D + 3) 57 [.ref (o + 79)] h = some (none, h2)) : am_evm G (D + 4) 54 [.ref (o + 79), .int (nI op), .int (nI nt)] h = some (none, h2) := by
  have lo := pc_lo E f
  have hW := pc_W E
  have hs := pc_so E f (Nat.le_of_lt hk)
  rw [if_pos hk] at hs
  rcases tk_w3 E hk with ⟨_, q⟩ | ⟨q1, q, _⟩ | ⟨q1, q2, q3⟩ | ⟨_, q⟩
  · omega
  · rw [q1] at hs
    simp only [n_54, e_54_0, e_54_1, e_54_4, e_54_5, e_54_8, e_54_9, e_54_10, e_54_13, e_54_14, e_54_17, e_54_116, e_54_20, e_54_21, e_54_24, e_54_25, e_54_28, e_54_29, e_54_30, e_54_33, e_54_34, e_54_37, e_54_40, e_54_41, e_54_44, e_54_46, e_54_49, e_54_50, e_54_52, e_54_55, e_54_56, e_54_59, e_54_60, e_54_61, e_54_62, e_54_63, e_54_64, e_54_67, e_54_68, e_54_71, e_54_74, e_54_77, e_54_78, e_54_81, e_54_83, e_54_86, e_54_87, e_54_89, e_54_92, e_54_93, e_54_96, e_54_97, e_54_98, e_54_99, e_54_100, e_54_101, e_54_102, e_54_105, e_54_106, e_54_109, e_54_112, e_54_113, Option.bind_some, Option.toList_some, Option.toList_none, List.cons_append, List.nil_append, am_k1_i, am_k1_r, am_k1_u, am_k1_n, am_bo0, am_bo1, am_boi, am_ev_tb, am_tb_nil, am_rfs, am_rfn, eq_self, and_self, if_true, if_false, show ¬ (1 : Int32) = 0 from by decide, show ¬ (0 : Int32) = 1 from by decide, not_true, not_false_eq_true, and_true, true_and, and_false, false_and, or_true, true_or, or_false, false_or, co_rd lo, co_e1 lo, S.1.2.1, co_1a lo (show k < 97 by omega), am_cl (show k < 2147483648 by omega), hs, show nI 2 = (2 : Int32) from rfl, ne_0_1, ne_0_2, ne_0_3, ne_0_4, ne_0_5, ne_1_0, ne_1_2, ne_1_3, ne_1_4, ne_1_5, ne_2_0, ne_2_1, ne_2_3, ne_2_4, ne_2_5, ne_3_0, ne_3_1, ne_3_2, ne_3_4, ne_3_5, ne_4_0, ne_4_1, ne_4_2, ne_4_3, ne_4_5, ne_5_0, ne_5_1, ne_5_2, ne_5_3, ne_5_4, e]
  · split at q2 <;> omega
  · omega
theorem pc_name (E : pc_E G h0 o T t W st ln key) (h1 : tk_kd T W st ln k = 1) {i : Nat} (hi : i < 3) (hl1 : ln k = 1) (he : T (st k) = nI (mt_nc key i)) : pc_O G h0 o W key 5 k op nt (k + 1) [(1, T (st k))] := by
  intro D h out hD ho f S
  have h8 := pd_8 (l := 5) (op := op) (nt := nt)
  have hk : k < W := tk_lt (T := T) (st := st) (ln := ln) (by omega)
  obtain ⟨D, rfl⟩ : ∃ D2, D = D2 + 4 := ⟨D - 4, by omega⟩
  have key2 : ∀ j q x3, q + j = 3 → (∀ p, p < q → ¬ T (st k) = nI (mt_nc key p)) → ∃ h2, am_ev G (D + 3) 57 19 [some (.ref (o + 79)), some (.int (T (st k))), some (.int (nI q)), x3] [] h = some (none, h2) ∧ am_fr (pc_Q o) h0 h2 ∧ pc_S h2 o W key (k + 1) (out ++ [(1, T (st k))]) := by
    intro j
    induction j with
    | zero => intro q x3 hq hp; exact absurd he (hp i (by omega))
    | succ j ih =>
      intro q x3 hq hp
      by_cases hm : T (st k) = nI (mt_nc key q)
      · exact c_nm_hit E f hk (by omega) hl1 hm (by omega) S
      · obtain ⟨x, ex⟩ := c_nm_miss (D := D) (x3 := x3) E f hk (show q < 3 by omega) (fun z => hm z.2) S
        rw [ex]
        exact ih (q + 1) x (by omega) (fun p hp2 => by
          by_cases e : p = q
          · rw [e]; exact hm
          · exact hp p (by omega))
  obtain ⟨h2, e2, f2, S2⟩ := key2 3 0 none (by omega) (fun p hp => absurd hp (Nat.not_lt_zero p))
  exact ⟨h2, pc_pname E hk f h1 S ((c_nm_head E f hk S).trans e2), f2, S2⟩
theorem pc_nameN (E : pc_E G h0 o T t W st ln key) (h1 : tk_kd T W st ln k = 1) (hn : ∀ i, i < 3 → ¬ (ln k = 1 ∧ T (st k) = nI (mt_nc key i))) : pc_N G h0 o W key st 5 k op nt k := by
  intro D h out hD ho f S
  have h8 := pd_8 (l := 5) (op := op) (nt := nt)
  have hk : k < W := tk_lt (T := T) (st := st) (ln := ln) (by omega)
  obtain ⟨D, rfl⟩ : ∃ D2, D = D2 + 4 := ⟨D - 4, by omega⟩
  obtain ⟨h2, e, f2, X2⟩ := c_fail (d := D + 2) E f (Nat.le_of_lt hk) (by omega) S
  have key2 : ∀ j q x3, q + j = 3 → am_ev G (D + 3) 57 19 [some (.ref (o + 79)), some (.int (T (st k))), some (.int (nI q)), x3] [] h = some (none, h2) := by
    intro j
    induction j with
    | zero =>
      intro q x3 hq
      obtain rfl : q = 3 := by omega
      rw [e_57_19]
      simp only [n_57, e_57_0, e_57_1, e_57_4, e_57_5, e_57_8, e_57_9, e_57_12, e_57_13, f_57_16, e_57_17, f_57_18, e_57_20, e_57_21, e_57_24, e_57_25, e_57_28, e_57_29, e_57_30, e_57_31, f_57_32, e_57_33, e_57_34, e_57_37, e_57_38, e_57_41, e_57_42, e_57_43, e_57_46, e_57_47, e_57_48, e_57_51, e_57_52, e_57_53, e_57_54, e_57_57, e_57_60, e_57_63, e_57_64, e_57_65, e_57_66, e_57_69, e_57_70, e_57_73, e_57_74, e_57_75, e_57_78, f_57_79, e_57_82, e_57_85, e_57_86, e_57_89, Option.bind_some, Option.toList_some, Option.toList_none, List.cons_append, List.nil_append, am_k1_i, am_k1_r, am_k1_u, am_k1_n, am_bo0, am_bo1, am_boi, am_ev_tb, am_tb_nil, am_rfs, am_rfn, eq_self, and_self, if_true, if_false, show ¬ (1 : Int32) = 0 from by decide, show ¬ (0 : Int32) = 1 from by decide, not_true, not_false_eq_true, and_true, true_and, and_false, false_and, or_true, true_or, or_false, false_or, show (3 : Int32) ≤ nI 3 from by decide, co_rd (pc_lo E f), e]
    | succ j ih =>
      intro q x3 hq
      obtain ⟨x, ex⟩ := c_nm_miss (D := D) (x3 := x3) E f hk (show q < 3 by omega) (hn q (by omega)) S
      rw [ex]
      exact ih (q + 1) x (by omega)
  exact ⟨h2, pc_pname E hk f h1 S ((c_nm_head E f hk S).trans (key2 3 0 none (by omega))), f2, X2⟩
/-- at a sign the class asks which -/
theorem pc_psign (E : pc_E G h0 o T t W st ln key) (h3 : tk_kd T W st ln k = 3) {D : Nat} {h : am_H} {out : List (Int32 × Int32)} (f : am_fr (pc_Q o) h0 h) (S : pc_S h o W key k out) : am_evm G (D + 4) 54 [.ref (o + 79), .int (nI op), .int (nI nt)] h = (if T (st k) = 33 then am_ev G (D + 4) 54 49 [some (.ref (o + 79)), some (.int (nI op)), some (.int (nI nt))] [] h else am_ev G (D + 4) 54 77 [some (.ref (o + 79)), some (.int (nI op)), some (.int (nI nt))] [] h) := by
  have lo := pc_lo E f
  have hW := pc_W E
  have hk : k < W := tk_lt (T := T) (st := st) (ln := ln) (by omega)
  have hs := pc_so E f (Nat.le_of_lt hk)
  rw [if_pos hk, (tk_kd3.mp h3).2] at hs
  have hsg := c_sign (d := D + 1) E f (Nat.le_of_lt hk) S.1.2.1
  rw [if_pos h3] at hsg
  simp only [n_54, e_54_0, e_54_1, e_54_4, e_54_5, e_54_8, e_54_9, e_54_10, e_54_13, e_54_14, e_54_17, e_54_116, e_54_20, e_54_21, e_54_24, e_54_25, e_54_28, e_54_29, e_54_30, e_54_33, e_54_34, e_54_37, e_54_40, e_54_41, e_54_44, e_54_46, e_54_50, e_54_52, e_54_55, e_54_56, e_54_59, e_54_60, e_54_61, e_54_62, e_54_63, e_54_64, e_54_67, e_54_68, e_54_71, e_54_74, e_54_78, e_54_81, e_54_83, e_54_86, e_54_87, e_54_89, e_54_92, e_54_93, e_54_96, e_54_97, e_54_98, e_54_99, e_54_100, e_54_101, e_54_102, e_54_105, e_54_106, e_54_109, e_54_112, e_54_113, Option.bind_some, Option.toList_some, Option.toList_none, List.cons_append, List.nil_append, am_k1_i, am_k1_r, am_k1_u, am_k1_n, am_bo0, am_bo1, am_boi, am_ev_tb, am_tb_nil, am_rfs, am_rfn, eq_self, and_self, if_true, if_false, show ¬ (1 : Int32) = 0 from by decide, show ¬ (0 : Int32) = 1 from by decide, not_true, not_false_eq_true, and_true, true_and, and_false, false_and, or_true, true_or, or_false, false_or, co_rd lo, co_e1 lo, S.1.2.1, co_1a lo (show k < 97 by omega), am_cl (show k < 2147483648 by omega), hs, show nI 1 = (1 : Int32) from rfl, ne_0_1, ne_0_2, ne_0_3, ne_0_4, ne_0_5, ne_1_0, ne_1_2, ne_1_3, ne_1_4, ne_1_5, ne_2_0, ne_2_1, ne_2_3, ne_2_4, ne_2_5, ne_3_0, ne_3_1, ne_3_2, ne_3_4, ne_3_5, ne_4_0, ne_4_1, ne_4_2, ne_4_3, ne_4_5, ne_5_0, ne_5_1, ne_5_2, ne_5_3, ne_5_4, hsg]
theorem pc_notO (E : pc_E G h0 o T t W st ln key) (h3 : tk_kd T W st ln k = 3) (he : T (st k) = 33) (hn : nt < 8) (hkk : k + 1 ≤ k1) (hk1 : k1 ≤ W) (hs1 : s1.length ≤ k1 - (k + 1)) (H : pc_O G h0 o W key 5 (k + 1) op (nt + 1) k1 s1) : pc_O G h0 o W key 5 k op nt k1 (s1 ++ [(2, 33)]) := by
  intro D h out hD ho f S
  have h8 := pd_8 (l := 5) (op := op) (nt := nt)
  have h9 := pd_not (op := op) hn
  have hk : k < W := tk_lt (T := T) (st := st) (ln := ln) (by omega)
  obtain ⟨D, rfl⟩ : ∃ D2, D = D2 + 4 := ⟨D - 4, by omega⟩
  have hlt : ¬ (8 : Int32) ≤ nI nt := nI_ge (b := 8) hn (by decide)
  obtain ⟨ha, ea, fa, Sa⟩ := c_goOn (d := D + 3) E f hk S
  obtain ⟨hb, eb, fb, Sb⟩ := H (D + 3) ha out (by omega) (by omega) fa Sa
  have eb2 : am_evm G (D + 3) 54 [.ref (o + 79), .int (nI op), .int (nI (nt + 1))] ha = some (none, hb) := eb
  obtain ⟨hc, ec, fc, Sc⟩ := c_addStepS (d := D + 3) (v := 20033) (u := 33) E fb rfl (by rw [List.length_append]; omega) Sb
  refine ⟨hc, ?_, fc, by rw [← List.append_assoc]; exact Sc⟩
  show am_evm G (D + 4) 54 [.ref (o + 79), .int (nI op), .int (nI nt)] h = _
  rw [pc_psign E h3 f S, if_pos he, e_54_49]
  simp only [n_54, e_54_0, e_54_1, e_54_4, e_54_5, e_54_8, e_54_9, e_54_10, e_54_13, e_54_14, e_54_17, e_54_116, e_54_20, e_54_21, e_54_24, e_54_25, e_54_28, e_54_29, e_54_30, e_54_33, e_54_34, e_54_37, e_54_40, e_54_41, e_54_44, e_54_46, e_54_50, e_54_52, e_54_55, e_54_56, e_54_59, e_54_60, e_54_61, e_54_62, e_54_63, e_54_64, e_54_67, e_54_68, e_54_71, e_54_74, e_54_78, e_54_81, e_54_83, e_54_86, e_54_87, e_54_89, e_54_92, e_54_93, e_54_96, e_54_97, e_54_98, e_54_99, e_54_100, e_54_101, e_54_102, e_54_105, e_54_106, e_54_109, e_54_112, e_54_113, Option.bind_some, Option.toList_some, Option.toList_none, List.cons_append, List.nil_append, am_k1_i, am_k1_r, am_k1_u, am_k1_n, am_bo0, am_bo1, am_boi, am_ev_tb, am_tb_nil, am_rfs, am_rfn, eq_self, and_self, if_true, if_false, show ¬ (1 : Int32) = 0 from by decide, show ¬ (0 : Int32) = 1 from by decide, not_true, not_false_eq_true, and_true, true_and, and_false, false_and, or_true, true_or, or_false, false_or, hlt, co_rd (pc_lo E f), ea, co_rd (pc_lo E fa), nI_1, eb2, co_rd (pc_lo E fb), ec]
theorem pc_notN (E : pc_E G h0 o T t W st ln key) (h3 : tk_kd T W st ln k = 3) (he : T (st k) = 33) (hn : nt < 8) (H : pc_N G h0 o W key st 5 (k + 1) op (nt + 1) k2) : pc_N G h0 o W key st 5 k op nt k2 := by
  intro D h out hD ho f S
  have h8 := pd_8 (l := 5) (op := op) (nt := nt)
  have h9 := pd_not (op := op) hn
  have hk : k < W := tk_lt (T := T) (st := st) (ln := ln) (by omega)
  obtain ⟨D, rfl⟩ : ∃ D2, D = D2 + 4 := ⟨D - 4, by omega⟩
  have hlt : ¬ (8 : Int32) ≤ nI nt := nI_ge (b := 8) hn (by decide)
  obtain ⟨ha, ea, fa, Sa⟩ := c_goOn (d := D + 3) E f hk S
  obtain ⟨hb, eb, fb, Xb⟩ := H (D + 3) ha out (by omega) (by omega) fa Sa
  have eb2 : am_evm G (D + 3) 54 [.ref (o + 79), .int (nI op), .int (nI (nt + 1))] ha = some (none, hb) := eb
  obtain ⟨hc, ec, fc, Xc⟩ := c_addStepX (d := D + 3) (v := 20033) E fb Xb
  refine ⟨hc, ?_, fc, Xc⟩
  show am_evm G (D + 4) 54 [.ref (o + 79), .int (nI op), .int (nI nt)] h = _
  rw [pc_psign E h3 f S, if_pos he, e_54_49]
  simp only [n_54, e_54_0, e_54_1, e_54_4, e_54_5, e_54_8, e_54_9, e_54_10, e_54_13, e_54_14, e_54_17, e_54_116, e_54_20, e_54_21, e_54_24, e_54_25, e_54_28, e_54_29, e_54_30, e_54_33, e_54_34, e_54_37, e_54_40, e_54_41, e_54_44, e_54_46, e_54_50, e_54_52, e_54_55, e_54_56, e_54_59, e_54_60, e_54_61, e_54_62, e_54_63, e_54_64, e_54_67, e_54_68, e_54_71, e_54_74, e_54_78, e_54_81, e_54_83, e_54_86, e_54_87, e_54_89, e_54_92, e_54_93, e_54_96, e_54_97, e_54_98, e_54_99, e_54_100, e_54_101, e_54_102, e_54_105, e_54_106, e_54_109, e_54_112, e_54_113, Option.bind_some, Option.toList_some, Option.toList_none, List.cons_append, List.nil_append, am_k1_i, am_k1_r, am_k1_u, am_k1_n, am_bo0, am_bo1, am_boi, am_ev_tb, am_tb_nil, am_rfs, am_rfn, eq_self, and_self, if_true, if_false, show ¬ (1 : Int32) = 0 from by decide, show ¬ (0 : Int32) = 1 from by decide, not_true, not_false_eq_true, and_true, true_and, and_false, false_and, or_true, true_or, or_false, false_or, hlt, co_rd (pc_lo E f), ea, co_rd (pc_lo E fa), nI_1, eb2, co_rd (pc_lo E fb), ec]
theorem pc_par77 (E : pc_E G h0 o T t W st ln key) (h3 : tk_kd T W st ln k = 3) {D : Nat} {h : am_H} {out : List (Int32 × Int32)} (f : am_fr (pc_Q o) h0 h) (S : pc_S h o W key k out) : am_ev G (D + 4) 54 77 [some (.ref (o + 79)), some (.int (nI op)), some (.int (nI nt))] [] h = (if T (st k) = 40 then am_ev G (D + 4) 54 86 [some (.ref (o + 79)), some (.int (nI op)), some (.int (nI nt))] [] h else am_ev G (D + 4) 54 112 [some (.ref (o + 79)), some (.int (nI op)), some (.int (nI nt))] [] h) := by
  have hk : k < W := tk_lt (T := T) (st := st) (ln := ln) (by omega)
  have hsg := c_sign (d := D + 1) E f (Nat.le_of_lt hk) S.1.2.1
  rw [if_pos h3] at hsg
  rw [e_54_77]
  simp only [n_54, e_54_0, e_54_1, e_54_4, e_54_5, e_54_8, e_54_9, e_54_10, e_54_13, e_54_14, e_54_17, e_54_116, e_54_20, e_54_21, e_54_24, e_54_25, e_54_28, e_54_29, e_54_30, e_54_33, e_54_34, e_54_37, e_54_40, e_54_41, e_54_44, e_54_46, e_54_50, e_54_52, e_54_55, e_54_56, e_54_59, e_54_60, e_54_61, e_54_62, e_54_63, e_54_64, e_54_67, e_54_68, e_54_71, e_54_74, e_54_78, e_54_81, e_54_83, e_54_87, e_54_89, e_54_92, e_54_93, e_54_96, e_54_97, e_54_98, e_54_99, e_54_100, e_54_101, e_54_102, e_54_105, e_54_106, e_54_109, e_54_113, Option.bind_some, Option.toList_some, Option.toList_none, List.cons_append, List.nil_append, am_k1_i, am_k1_r, am_k1_u, am_k1_n, am_bo0, am_bo1, am_boi, am_ev_tb, am_tb_nil, am_rfs, am_rfn, eq_self, and_self, if_true, if_false, show ¬ (1 : Int32) = 0 from by decide, show ¬ (0 : Int32) = 1 from by decide, not_true, not_false_eq_true, and_true, true_and, and_false, false_and, or_true, true_or, or_false, false_or, co_rd (pc_lo E f), hsg]
theorem pc_parO (E : pc_E G h0 o T t W st ln key) (h3 : tk_kd T W st ln k = 3) (he : T (st k) = 40) (hn : op < 8) (hkk : k + 1 ≤ k1) (hk1 : k1 ≤ W) (hs1 : s1.length ≤ k1 - (k + 1)) (H : pc_O G h0 o W key 0 (k + 1) (op + 1) nt k1 s1) (h31 : tk_kd T W st ln k1 = 3) (he1 : T (st k1) = 41) : pc_O G h0 o W key 5 k op nt (k1 + 1) s1 := by
  intro D h out hD ho f S
  have h8 := pd_8 (l := 5) (op := op) (nt := nt)
  have h9 := pd_par (nt := nt) hn
  have hk : k < W := tk_lt (T := T) (st := st) (ln := ln) (by omega)
  have hkW : k1 < W := tk_lt (T := T) (st := st) (ln := ln) (by omega)
  obtain ⟨D, rfl⟩ : ∃ D2, D = D2 + 4 := ⟨D - 4, by omega⟩
  have hlt : ¬ (8 : Int32) ≤ nI op := nI_ge (b := 8) hn (by decide)
  obtain ⟨ha, ea, fa, Sa⟩ := c_goOn (d := D + 3) E f hk S
  obtain ⟨hb, eb, fb, Sb⟩ := pc_sideO E (l := 0) (by omega) H (D := D + 3) (out := out) (by omega) (by omega) fa Sa
  have eb2 : am_evm G (D + 3) 52 [.ref (o + 79), .int 0, .int (nI (op + 1)), .int (nI nt)] ha = some (none, hb) := eb
  have hsg := c_sign (d := D) E fb hk1 Sb.1.2.1
  rw [if_pos h31, he1] at hsg
  obtain ⟨hc, ec, fc, Sc⟩ := c_goOn (d := D + 2) E fb hkW Sb
  have er : am_evm G (D + 3) 55 [.ref (o + 79)] hb = some (none, hc) := by
    simp only [n_55, e_55_0, e_55_1, e_55_4, e_55_6, e_55_9, e_55_10, e_55_13, e_55_15, e_55_18, e_55_19, e_55_22, e_55_29, e_55_25, e_55_26, Option.bind_some, Option.toList_some, Option.toList_none, List.cons_append, List.nil_append, am_k1_i, am_k1_r, am_k1_u, am_k1_n, am_bo0, am_bo1, am_boi, am_ev_tb, am_tb_nil, am_rfs, am_rfn, eq_self, and_self, if_true, if_false, show ¬ (1 : Int32) = 0 from by decide, show ¬ (0 : Int32) = 1 from by decide, not_true, not_false_eq_true, and_true, true_and, and_false, false_and, or_true, true_or, or_false, false_or, co_rd (pc_lo E fb), Sb.1.2.2.2.2.2, hsg, ec]
  refine ⟨hc, ?_, fc, Sc⟩
  show am_evm G (D + 4) 54 [.ref (o + 79), .int (nI op), .int (nI nt)] h = _
  rw [pc_psign E h3 f S, if_neg (by rw [he]; decide), pc_par77 E h3 f S, if_pos he, e_54_86]
  simp only [n_54, e_54_0, e_54_1, e_54_4, e_54_5, e_54_8, e_54_9, e_54_10, e_54_13, e_54_14, e_54_17, e_54_116, e_54_20, e_54_21, e_54_24, e_54_25, e_54_28, e_54_29, e_54_30, e_54_33, e_54_34, e_54_37, e_54_40, e_54_41, e_54_44, e_54_46, e_54_50, e_54_52, e_54_55, e_54_56, e_54_59, e_54_60, e_54_61, e_54_62, e_54_63, e_54_64, e_54_67, e_54_68, e_54_71, e_54_74, e_54_78, e_54_81, e_54_83, e_54_87, e_54_89, e_54_92, e_54_93, e_54_96, e_54_97, e_54_98, e_54_99, e_54_100, e_54_101, e_54_102, e_54_105, e_54_106, e_54_109, e_54_113, Option.bind_some, Option.toList_some, Option.toList_none, List.cons_append, List.nil_append, am_k1_i, am_k1_r, am_k1_u, am_k1_n, am_bo0, am_bo1, am_boi, am_ev_tb, am_tb_nil, am_rfs, am_rfn, eq_self, and_self, if_true, if_false, show ¬ (1 : Int32) = 0 from by decide, show ¬ (0 : Int32) = 1 from by decide, not_true, not_false_eq_true, and_true, true_and, and_false, false_and, or_true, true_or, or_false, false_or, hlt, co_rd (pc_lo E f), ea, co_rd (pc_lo E fa), nI_1, eb2, co_rd (pc_lo E fb), er]
theorem pc_parN1 (E : pc_E G h0 o T t W st ln key) (h3 : tk_kd T W st ln k = 3) (he : T (st k) = 40) (hn : op < 8) (hk2 : k2 ≤ W) (H : pc_N G h0 o W key st 0 (k + 1) (op + 1) nt k2) : pc_N G h0 o W key st 5 k op nt k2 := by
  intro D h out hD ho f S
  have h8 := pd_8 (l := 5) (op := op) (nt := nt)
  have h9 := pd_par (nt := nt) hn
  have hk : k < W := tk_lt (T := T) (st := st) (ln := ln) (by omega)
  obtain ⟨D, rfl⟩ : ∃ D2, D = D2 + 4 := ⟨D - 4, by omega⟩
  have hlt : ¬ (8 : Int32) ≤ nI op := nI_ge (b := 8) hn (by decide)
  obtain ⟨ha, ea, fa, Sa⟩ := c_goOn (d := D + 3) E f hk S
  obtain ⟨hb, eb, fb, Xb⟩ := pc_sideN E (l := 0) (by omega) H (D := D + 3) (out := out) (by omega) (by omega) fa Sa
  have eb2 : am_evm G (D + 3) 52 [.ref (o + 79), .int 0, .int (nI (op + 1)), .int (nI nt)] ha = some (none, hb) := eb
  have ef := c_failX (d := D + 2) E fb hk2 Xb
  have hX := pc_Xn E hk2 Xb
  have er : am_evm G (D + 3) 55 [.ref (o + 79)] hb = some (none, hb) := by
    simp only [n_55, e_55_0, e_55_1, e_55_4, e_55_6, e_55_9, e_55_10, e_55_13, e_55_15, e_55_18, e_55_19, e_55_22, e_55_29, e_55_25, e_55_26, Option.bind_some, Option.toList_some, Option.toList_none, List.cons_append, List.nil_append, am_k1_i, am_k1_r, am_k1_u, am_k1_n, am_bo0, am_bo1, am_boi, am_ev_tb, am_tb_nil, am_rfs, am_rfn, eq_self, and_self, if_true, if_false, show ¬ (1 : Int32) = 0 from by decide, show ¬ (0 : Int32) = 1 from by decide, not_true, not_false_eq_true, and_true, true_and, and_false, false_and, or_true, true_or, or_false, false_or, co_rd (pc_lo E fb), hX, ef]
  refine ⟨hb, ?_, fb, Xb⟩
  show am_evm G (D + 4) 54 [.ref (o + 79), .int (nI op), .int (nI nt)] h = _
  rw [pc_psign E h3 f S, if_neg (by rw [he]; decide), pc_par77 E h3 f S, if_pos he, e_54_86]
  simp only [n_54, e_54_0, e_54_1, e_54_4, e_54_5, e_54_8, e_54_9, e_54_10, e_54_13, e_54_14, e_54_17, e_54_116, e_54_20, e_54_21, e_54_24, e_54_25, e_54_28, e_54_29, e_54_30, e_54_33, e_54_34, e_54_37, e_54_40, e_54_41, e_54_44, e_54_46, e_54_50, e_54_52, e_54_55, e_54_56, e_54_59, e_54_60, e_54_61, e_54_62, e_54_63, e_54_64, e_54_67, e_54_68, e_54_71, e_54_74, e_54_78, e_54_81, e_54_83, e_54_87, e_54_89, e_54_92, e_54_93, e_54_96, e_54_97, e_54_98, e_54_99, e_54_100, e_54_101, e_54_102, e_54_105, e_54_106, e_54_109, e_54_113, Option.bind_some, Option.toList_some, Option.toList_none, List.cons_append, List.nil_append, am_k1_i, am_k1_r, am_k1_u, am_k1_n, am_bo0, am_bo1, am_boi, am_ev_tb, am_tb_nil, am_rfs, am_rfn, eq_self, and_self, if_true, if_false, show ¬ (1 : Int32) = 0 from by decide, show ¬ (0 : Int32) = 1 from by decide, not_true, not_false_eq_true, and_true, true_and, and_false, false_and, or_true, true_or, or_false, false_or, hlt, co_rd (pc_lo E f), ea, co_rd (pc_lo E fa), nI_1, eb2, co_rd (pc_lo E fb), er]
theorem pc_parN2 (E : pc_E G h0 o T t W st ln key) (h3 : tk_kd T W st ln k = 3) (he : T (st k) = 40) (hn : op < 8) (hkk : k + 1 ≤ k1) (hk1 : k1 ≤ W) (hs1 : s1.length ≤ k1 - (k + 1)) (H : pc_O G h0 o W key 0 (k + 1) (op + 1) nt k1 s1) (hc : ¬ (tk_kd T W st ln k1 = 3 ∧ T (st k1) = 41)) : pc_N G h0 o W key st 5 k op nt k1 := by
  intro D h out hD ho f S
  have h8 := pd_8 (l := 5) (op := op) (nt := nt)
  have h9 := pd_par (nt := nt) hn
  have hk : k < W := tk_lt (T := T) (st := st) (ln := ln) (by omega)
  obtain ⟨D, rfl⟩ : ∃ D2, D = D2 + 4 := ⟨D - 4, by omega⟩
  have hlt : ¬ (8 : Int32) ≤ nI op := nI_ge (b := 8) hn (by decide)
  obtain ⟨ha, ea, fa, Sa⟩ := c_goOn (d := D + 3) E f hk S
  obtain ⟨hb, eb, fb, Sb⟩ := pc_sideO E (l := 0) (by omega) H (D := D + 3) (out := out) (by omega) (by omega) fa Sa
  have eb2 : am_evm G (D + 3) 52 [.ref (o + 79), .int 0, .int (nI (op + 1)), .int (nI nt)] ha = some (none, hb) := eb
  have hsg := c_sign (d := D) E fb hk1 Sb.1.2.1
  have hne : ¬ (if tk_kd T W st ln k1 = 3 then T (st k1) else -1000000005) = 41 := fun z => by
    by_cases q : tk_kd T W st ln k1 = 3
    · rw [if_pos q] at z; exact hc ⟨q, z⟩
    · rw [if_neg q] at z; exact absurd z (by decide)
  obtain ⟨hd, ed, fd, Xd⟩ := c_fail (d := D + 2) E fb hk1 (by rw [List.length_append]; omega) Sb
  have er : am_evm G (D + 3) 55 [.ref (o + 79)] hb = some (none, hd) := by
    simp only [n_55, e_55_0, e_55_1, e_55_4, e_55_6, e_55_9, e_55_10, e_55_13, e_55_15, e_55_18, e_55_19, e_55_22, e_55_29, e_55_25, e_55_26, Option.bind_some, Option.toList_some, Option.toList_none, List.cons_append, List.nil_append, am_k1_i, am_k1_r, am_k1_u, am_k1_n, am_bo0, am_bo1, am_boi, am_ev_tb, am_tb_nil, am_rfs, am_rfn, eq_self, and_self, if_true, if_false, show ¬ (1 : Int32) = 0 from by decide, show ¬ (0 : Int32) = 1 from by decide, not_true, not_false_eq_true, and_true, true_and, and_false, false_and, or_true, true_or, or_false, false_or, co_rd (pc_lo E fb), Sb.1.2.2.2.2.2, hsg, hne, ed]
  refine ⟨hd, ?_, fd, Xd⟩
  show am_evm G (D + 4) 54 [.ref (o + 79), .int (nI op), .int (nI nt)] h = _
  rw [pc_psign E h3 f S, if_neg (by rw [he]; decide), pc_par77 E h3 f S, if_pos he, e_54_86]
  simp only [n_54, e_54_0, e_54_1, e_54_4, e_54_5, e_54_8, e_54_9, e_54_10, e_54_13, e_54_14, e_54_17, e_54_116, e_54_20, e_54_21, e_54_24, e_54_25, e_54_28, e_54_29, e_54_30, e_54_33, e_54_34, e_54_37, e_54_40, e_54_41, e_54_44, e_54_46, e_54_50, e_54_52, e_54_55, e_54_56, e_54_59, e_54_60, e_54_61, e_54_62, e_54_63, e_54_64, e_54_67, e_54_68, e_54_71, e_54_74, e_54_78, e_54_81, e_54_83, e_54_87, e_54_89, e_54_92, e_54_93, e_54_96, e_54_97, e_54_98, e_54_99, e_54_100, e_54_101, e_54_102, e_54_105, e_54_106, e_54_109, e_54_113, Option.bind_some, Option.toList_some, Option.toList_none, List.cons_append, List.nil_append, am_k1_i, am_k1_r, am_k1_u, am_k1_n, am_bo0, am_bo1, am_boi, am_ev_tb, am_tb_nil, am_rfs, am_rfn, eq_self, and_self, if_true, if_false, show ¬ (1 : Int32) = 0 from by decide, show ¬ (0 : Int32) = 1 from by decide, not_true, not_false_eq_true, and_true, true_and, and_false, false_and, or_true, true_or, or_false, false_or, hlt, co_rd (pc_lo E f), ea, co_rd (pc_lo E fa), nI_1, eb2, co_rd (pc_lo E fb), er]
theorem pc_bad3 (E : pc_E G h0 o T t W st ln key) (hop : op ≤ 8) (hnt : nt ≤ 8) (h3 : tk_kd T W st ln k = 3) (h33 : ¬ (T (st k) = 33 ∧ nt < 8)) (h40 : ¬ (T (st k) = 40 ∧ op < 8)) : pc_N G h0 o W key st 5 k op nt k := by
  intro D h out hD ho f S
  have h8 := pd_8 (l := 5) (op := op) (nt := nt)
  have hk : k < W := tk_lt (T := T) (st := st) (ln := ln) (by omega)
  obtain ⟨D, rfl⟩ : ∃ D2, D = D2 + 4 := ⟨D - 4, by omega⟩
  obtain ⟨hd, ed, fd, Xd⟩ := c_fail (d := D + 3) E f (Nat.le_of_lt hk) (by omega) S
  refine ⟨hd, ?_, fd, Xd⟩
  show am_evm G (D + 4) 54 [.ref (o + 79), .int (nI op), .int (nI nt)] h = _
  have e112 : am_ev G (D + 4) 54 112 [some (.ref (o + 79)), some (.int (nI op)), some (.int (nI nt))] [] h = some (none, hd) := by
    rw [e_54_112]
    simp only [n_54, e_54_0, e_54_1, e_54_4, e_54_5, e_54_8, e_54_9, e_54_10, e_54_13, e_54_14, e_54_17, e_54_116, e_54_20, e_54_21, e_54_24, e_54_25, e_54_28, e_54_29, e_54_30, e_54_33, e_54_34, e_54_37, e_54_40, e_54_41, e_54_44, e_54_46, e_54_50, e_54_52, e_54_55, e_54_56, e_54_59, e_54_60, e_54_61, e_54_62, e_54_63, e_54_64, e_54_67, e_54_68, e_54_71, e_54_74, e_54_78, e_54_81, e_54_83, e_54_87, e_54_89, e_54_92, e_54_93, e_54_96, e_54_97, e_54_98, e_54_99, e_54_100, e_54_101, e_54_102, e_54_105, e_54_106, e_54_109, e_54_113, Option.bind_some, Option.toList_some, Option.toList_none, List.cons_append, List.nil_append, am_k1_i, am_k1_r, am_k1_u, am_k1_n, am_bo0, am_bo1, am_boi, am_ev_tb, am_tb_nil, am_rfs, am_rfn, eq_self, and_self, if_true, if_false, show ¬ (1 : Int32) = 0 from by decide, show ¬ (0 : Int32) = 1 from by decide, not_true, not_false_eq_true, and_true, true_and, and_false, false_and, or_true, true_or, or_false, false_or, co_rd (pc_lo E f), ed]
  have e77 : am_ev G (D + 4) 54 77 [some (.ref (o + 79)), some (.int (nI op)), some (.int (nI nt))] [] h = some (none, hd) := by
    rw [pc_par77 E h3 f S]
    by_cases q : T (st k) = 40
    · have hle : (8 : Int32) ≤ nI op := nI_le (a := 8) (by have : ¬ op < 8 := fun z => h40 ⟨q, z⟩; omega) (by omega)
      rw [if_pos q, e_54_86, ← e112]
      simp only [n_54, e_54_0, e_54_1, e_54_4, e_54_5, e_54_8, e_54_9, e_54_10, e_54_13, e_54_14, e_54_17, e_54_116, e_54_20, e_54_21, e_54_24, e_54_25, e_54_28, e_54_29, e_54_30, e_54_33, e_54_34, e_54_37, e_54_40, e_54_41, e_54_44, e_54_46, e_54_50, e_54_52, e_54_55, e_54_56, e_54_59, e_54_60, e_54_61, e_54_62, e_54_63, e_54_64, e_54_67, e_54_68, e_54_71, e_54_74, e_54_78, e_54_81, e_54_83, e_54_87, e_54_89, e_54_92, e_54_93, e_54_96, e_54_97, e_54_98, e_54_99, e_54_100, e_54_101, e_54_102, e_54_105, e_54_106, e_54_109, e_54_113, Option.bind_some, Option.toList_some, Option.toList_none, List.cons_append, List.nil_append, am_k1_i, am_k1_r, am_k1_u, am_k1_n, am_bo0, am_bo1, am_boi, am_ev_tb, am_tb_nil, am_rfs, am_rfn, eq_self, and_self, if_true, if_false, show ¬ (1 : Int32) = 0 from by decide, show ¬ (0 : Int32) = 1 from by decide, not_true, not_false_eq_true, and_true, true_and, and_false, false_and, or_true, true_or, or_false, false_or, hle]
    · rw [if_neg q, e112]
  rw [pc_psign E h3 f S]
  by_cases q : T (st k) = 33
  · have hle : (8 : Int32) ≤ nI nt := nI_le (a := 8) (by have : ¬ nt < 8 := fun z => h33 ⟨q, z⟩; omega) (by omega)
    rw [if_pos q, e_54_49, ← e77]
    simp only [n_54, e_54_0, e_54_1, e_54_4, e_54_5, e_54_8, e_54_9, e_54_10, e_54_13, e_54_14, e_54_17, e_54_116, e_54_20, e_54_21, e_54_24, e_54_25, e_54_28, e_54_29, e_54_30, e_54_33, e_54_34, e_54_37, e_54_40, e_54_41, e_54_44, e_54_46, e_54_50, e_54_52, e_54_55, e_54_56, e_54_59, e_54_60, e_54_61, e_54_62, e_54_63, e_54_64, e_54_67, e_54_68, e_54_71, e_54_74, e_54_78, e_54_81, e_54_83, e_54_87, e_54_89, e_54_92, e_54_93, e_54_96, e_54_97, e_54_98, e_54_99, e_54_100, e_54_101, e_54_102, e_54_105, e_54_106, e_54_109, e_54_113, Option.bind_some, Option.toList_some, Option.toList_none, List.cons_append, List.nil_append, am_k1_i, am_k1_r, am_k1_u, am_k1_n, am_bo0, am_bo1, am_boi, am_ev_tb, am_tb_nil, am_rfs, am_rfn, eq_self, and_self, if_true, if_false, show ¬ (1 : Int32) = 0 from by decide, show ¬ (0 : Int32) = 1 from by decide, not_true, not_false_eq_true, and_true, true_and, and_false, false_and, or_true, true_or, or_false, false_or, hle]
  · rw [if_neg q, e77]
theorem pc_bad (E : pc_E G h0 o T t W st ln key) (hk : k ≤ W) (hq : tk_kd T W st ln k = 0 ∨ tk_kd T W st ln k = 4) : pc_N G h0 o W key st 5 k op nt k := by
  intro D h out hD ho f S
  have h8 := pd_8 (l := 5) (op := op) (nt := nt)
  obtain ⟨D, rfl⟩ : ∃ D2, D = D2 + 4 := ⟨D - 4, by omega⟩
  have lo := pc_lo E f
  have hW := pc_W E
  show ∃ h2, am_evm G (D + 4) 54 [.ref (o + 79), .int (nI op), .int (nI nt)] h = some (none, h2) ∧ _
  have hs := pc_so E f hk
  have n3 : ¬ tk_kd T W st ln k = 3 := by omega
  have hsg := c_sign (d := D + 1) E f hk S.1.2.1
  rw [if_neg n3] at hsg
  obtain ⟨hd, ed, fd, Xd⟩ := c_fail (d := D + 3) E f hk (by omega) S
  have other : ∀ v : Int32, am_i h (o + 82) k = v → ¬ v = 3 → ¬ v = 2 → ∃ h2, am_evm G (D + 4) 54 [.ref (o + 79), .int (nI op), .int (nI nt)] h = some (none, h2) ∧ am_fr (pc_Q o) h0 h2 ∧ pc_X h2 o W st k := fun v hv v3 v2 => ⟨hd, by
    simp only [n_54, e_54_0, e_54_1, e_54_4, e_54_5, e_54_8, e_54_9, e_54_10, e_54_13, e_54_14, e_54_17, e_54_116, e_54_20, e_54_21, e_54_24, e_54_25, e_54_28, e_54_29, e_54_30, e_54_33, e_54_34, e_54_37, e_54_40, e_54_41, e_54_44, e_54_46, e_54_49, e_54_50, e_54_52, e_54_55, e_54_56, e_54_59, e_54_60, e_54_61, e_54_62, e_54_63, e_54_64, e_54_67, e_54_68, e_54_71, e_54_74, e_54_77, e_54_78, e_54_81, e_54_83, e_54_86, e_54_87, e_54_89, e_54_92, e_54_93, e_54_96, e_54_97, e_54_98, e_54_99, e_54_100, e_54_101, e_54_102, e_54_105, e_54_106, e_54_109, e_54_112, e_54_113, Option.bind_some, Option.toList_some, Option.toList_none, List.cons_append, List.nil_append, am_k1_i, am_k1_r, am_k1_u, am_k1_n, am_bo0, am_bo1, am_boi, am_ev_tb, am_tb_nil, am_rfs, am_rfn, eq_self, and_self, if_true, if_false, show ¬ (1 : Int32) = 0 from by decide, show ¬ (0 : Int32) = 1 from by decide, not_true, not_false_eq_true, and_true, true_and, and_false, false_and, or_true, true_or, or_false, false_or, co_rd lo, co_e1 lo, S.1.2.1, co_1a lo (show k < 97 by omega), am_cl (show k < 2147483648 by omega), hv, v3, v2, hsg, show ¬ (-1000000005 : Int32) = 33 from by decide, show ¬ (-1000000005 : Int32) = 40 from by decide, ed], fd, Xd⟩
  by_cases hkW : k < W
  · rw [if_pos hkW] at hs
    rcases tk_w3 E hkW with ⟨_, q⟩ | ⟨_, q, _⟩ | ⟨q1, q2, q3⟩ | ⟨q1, q⟩
    · omega
    · omega
    · have h4 : ¬ ln k ≤ 4 := fun z => by
        rw [if_pos z] at q2
        omega
      rw [q1] at hs
      have w := (E.2.2.1.w hkW).1
      have ht96 := E.2.2.1.1
      obtain ⟨he, ee, fe, Xe⟩ := c_fail (d := D + 2) E f hk (by omega) S
      have hle : ¬ nI (ln k) ≤ 4 := nI_ge (a := 4) (by omega) (by omega)
      refine ⟨he, ?_, fe, Xe⟩
      have er : am_evm G (D + 3) 56 [.ref (o + 79)] h = some (none, he) := by
        simp only [n_56, e_56_0, e_56_1, e_56_4, e_56_5, e_56_8, e_56_9, e_56_10, e_56_13, e_56_14, e_56_17, e_56_18, f_56_19, e_56_20, f_56_21, e_56_23, e_56_24, e_56_27, e_56_28, e_56_31, e_56_32, e_56_35, e_56_37, e_56_38, e_56_39, e_56_40, e_56_43, e_56_44, e_56_47, e_56_48, e_56_51, e_56_52, e_56_53, e_56_54, e_56_57, e_56_58, e_56_60, f_56_61, f_56_62, e_56_65, e_56_68, e_56_69, e_56_70, e_56_73, Option.bind_some, Option.toList_some, Option.toList_none, List.cons_append, List.nil_append, am_k1_i, am_k1_r, am_k1_u, am_k1_n, am_bo0, am_bo1, am_boi, am_ev_tb, am_tb_nil, am_rfs, am_rfn, eq_self, and_self, if_true, if_false, show ¬ (1 : Int32) = 0 from by decide, show ¬ (0 : Int32) = 1 from by decide, not_true, not_false_eq_true, and_true, true_and, and_false, false_and, or_true, true_or, or_false, false_or, co_rd lo, co_e3 lo, S.1.2.1, co_3a lo (show k < 97 by omega), am_cl (show k < 2147483648 by omega), pc_ln E f hk, hle, ee]
      simp only [n_54, e_54_0, e_54_1, e_54_4, e_54_5, e_54_8, e_54_9, e_54_10, e_54_13, e_54_14, e_54_17, e_54_116, e_54_20, e_54_21, e_54_24, e_54_25, e_54_28, e_54_29, e_54_30, e_54_33, e_54_34, e_54_37, e_54_40, e_54_41, e_54_44, e_54_46, e_54_49, e_54_50, e_54_52, e_54_55, e_54_56, e_54_59, e_54_60, e_54_61, e_54_62, e_54_63, e_54_64, e_54_67, e_54_68, e_54_71, e_54_74, e_54_77, e_54_78, e_54_81, e_54_83, e_54_86, e_54_87, e_54_89, e_54_92, e_54_93, e_54_96, e_54_97, e_54_98, e_54_99, e_54_100, e_54_101, e_54_102, e_54_105, e_54_106, e_54_109, e_54_112, e_54_113, Option.bind_some, Option.toList_some, Option.toList_none, List.cons_append, List.nil_append, am_k1_i, am_k1_r, am_k1_u, am_k1_n, am_bo0, am_bo1, am_boi, am_ev_tb, am_tb_nil, am_rfs, am_rfn, eq_self, and_self, if_true, if_false, show ¬ (1 : Int32) = 0 from by decide, show ¬ (0 : Int32) = 1 from by decide, not_true, not_false_eq_true, and_true, true_and, and_false, false_and, or_true, true_or, or_false, false_or, co_rd lo, co_e1 lo, S.1.2.1, co_1a lo (show k < 97 by omega), am_cl (show k < 2147483648 by omega), hs, show nI 3 = (3 : Int32) from rfl, er]
    · rw [q1] at hs
      exact other 4 hs (by decide) (by decide)
  · rw [if_neg hkW] at hs
    exact other 5 hs (by decide) (by decide)
end PP
