/-! the reference reads a side, level by level -/
def rp_Y (l : Nat) : Nat := if l = 0 then 195 else if l = 1 then 196 else if l = 2 then 197 else if l = 3 then 198 else if l = 4 then 199 else 200
def rp_O (G : Nat → Nat) (h0 : am_H) (m : Nat) (T : Nat → Int32) (W : Nat) (st ln : Nat → Nat) (key A l k op nt k2 : Nat) (sub : List (Int32 × Int32)) : Prop := ∀ D h out, pd_n l op nt ≤ D → out.length + (W - k) ≤ 96 → rp_F h0 h m A → rp_S T W st ln A h m k op nt out → ∃ h2, am_evm G D (rp_Y l) [.ref m, .int (nI key)] h = some (some (.int 1), h2) ∧ rp_F h0 h2 m A ∧ rp_S T W st ln A h2 m k2 op nt (out ++ sub)
def rp_N (G : Nat → Nat) (h0 : am_H) (m : Nat) (T : Nat → Int32) (W : Nat) (st ln : Nat → Nat) (key A l k op nt k2 : Nat) : Prop := ∀ D h out, pd_n l op nt ≤ D → out.length + (W - k) ≤ 96 → rp_F h0 h m A → rp_S T W st ln A h m k op nt out → ∃ h2, am_evm G D (rp_Y l) [.ref m, .int (nI key)] h = some (some (.int 0), h2) ∧ rp_F h0 h2 m A ∧ am_i h2 m 15 = nI (st k2)
def rp_pc (l i : Nat) : Nat := if l = 2 ∧ 0 < i then 62 else 10
def rp_lc (l m key : Nat) (x : Option Value) : am_L := if l < 2 then [some (.ref m), some (.int (nI key))] else [some (.ref m), some (.int (nI key)), x]
def rp_LO (G : Nat → Nat) (h0 : am_H) (m : Nat) (T : Nat → Int32) (W : Nat) (st ln : Nat → Nat) (key A l i k op nt k2 : Nat) (sub : List (Int32 × Int32)) : Prop := ∀ D h out x, pd_n l op nt ≤ D → out.length + (W - k) ≤ 96 → rp_F h0 h m A → rp_S T W st ln A h m k op nt out → ∃ h2, am_ev G D (rp_Y l) (rp_pc l i) (rp_lc l m key x) [] h = some (some (.int 1), h2) ∧ rp_F h0 h2 m A ∧ rp_S T W st ln A h2 m k2 op nt (out ++ sub)
def rp_LN (G : Nat → Nat) (h0 : am_H) (m : Nat) (T : Nat → Int32) (W : Nat) (st ln : Nat → Nat) (key A l i k op nt k2 : Nat) : Prop := ∀ D h out x, pd_n l op nt ≤ D → out.length + (W - k) ≤ 96 → rp_F h0 h m A → rp_S T W st ln A h m k op nt out → ∃ h2, am_ev G D (rp_Y l) (rp_pc l i) (rp_lc l m key x) [] h = some (some (.int 0), h2) ∧ rp_F h0 h2 m A ∧ am_i h2 m 15 = nI (st k2)
theorem tk_lv_in (v : Int32) : (v = 38 ∧ tk_lv v = 1) ∨ ((v = 42 ∨ v = 47) ∧ tk_lv v = 4) ∨ ((v = 43 ∨ v = 45) ∧ tk_lv v = 3) ∨ ((v = 60 ∨ v = 61 ∨ v = 62) ∧ tk_lv v = 2) ∨ (v = 124 ∧ tk_lv v = 0) ∨ tk_lv v = -1000000005 := by
  by_cases h1 : v = 38
  · subst h1; exact Or.inl ⟨rfl, by decide⟩
  by_cases h2 : v = 42
  · subst h2; exact Or.inr (Or.inl ⟨Or.inl rfl, by decide⟩)
  by_cases h5 : v = 47
  · subst h5; exact Or.inr (Or.inl ⟨Or.inr rfl, by decide⟩)
  by_cases h3 : v = 43
  · subst h3; exact Or.inr (Or.inr (Or.inl ⟨Or.inl rfl, by decide⟩))
  by_cases h4 : v = 45
  · subst h4; exact Or.inr (Or.inr (Or.inl ⟨Or.inr rfl, by decide⟩))
  by_cases h6 : v = 60
  · subst h6; exact Or.inr (Or.inr (Or.inr (Or.inl ⟨Or.inl rfl, by decide⟩)))
  by_cases h7 : v = 61
  · subst h7; exact Or.inr (Or.inr (Or.inr (Or.inl ⟨Or.inr (Or.inl rfl), by decide⟩)))
  by_cases h8 : v = 62
  · subst h8; exact Or.inr (Or.inr (Or.inr (Or.inl ⟨Or.inr (Or.inr rfl), by decide⟩)))
  by_cases h9 : v = 124
  · subst h9; exact Or.inr (Or.inr (Or.inr (Or.inr (Or.inl ⟨rfl, by decide⟩))))
  refine Or.inr (Or.inr (Or.inr (Or.inr (Or.inr ?_))))
  unfold tk_lv
  simp only [h1, h2, h3, h4, h5, h6, h7, h8, h9, if_false]
theorem tk_lv_op {v : Int32} {l : Nat} (hl : l < 5) (h : tk_lv v = nI l) : mt_op v := by
  unfold mt_op
  rcases tk_lv_in v with ⟨e, _⟩ | ⟨e | e, _⟩ | ⟨e | e, _⟩ | ⟨e | e | e, _⟩ | ⟨e, _⟩ | e
  · subst e; decide
  · subst e; decide
  · subst e; decide
  · subst e; decide
  · subst e; decide
  · subst e; decide
  · subst e; decide
  · subst e; decide
  · subst e; decide
  · rw [e] at h; exact absurd h.symm (pc_ne (by omega))
section RL
variable {G : Nat → Nat} {h0 : am_H} {m t W key A i k k1 k2 op nt : Nat} {T : Nat → Int32} {st ln : Nat → Nat} {s1 s2 : List (Int32 × Int32)}
theorem tk_lv_0 {v : Int32} (h : tk_lv v = nI 0) : v = 124 := by
  rcases tk_lv_in v with ⟨e, q⟩ | ⟨e, q⟩ | ⟨e, q⟩ | ⟨e, q⟩ | ⟨e, q⟩ | q
  · rw [q] at h; exact absurd h (by decide)
  · rw [q] at h; exact absurd h (by decide)
  · rw [q] at h; exact absurd h (by decide)
  · rw [q] at h; exact absurd h (by decide)
  · exact e
  · rw [q] at h; exact absurd h (by decide)
theorem rp_stop_0 (E : rp_E G h0 m T t W st ln key A) (hk : k ≤ W) (hs : ¬ tk_lv (tk_sg T W st ln k) = nI 0) : rp_LO G h0 m T W st ln key A 0 i k op nt k [] := by
  intro D h out x hD ho F S
  have h8 := pd_8 (l := 0) (op := op) (nt := nt)
  obtain ⟨D, rfl⟩ : ∃ D2, D = D2 + 3 := ⟨D - 3, by omega⟩
  have l0 := rp_l E F
  refine ⟨h, ?_, F, by rw [List.append_nil]; exact S⟩
  have hn : ∀ c, tk_lv c = nI 0 → ¬ (tk_kd T W st ln k = 3 ∧ T (st k) = c) := fun c hc z => hs (by unfold tk_sg; rw [if_pos z.1, z.2]; exact hc)
  show am_ev G (D + 3) 195 10 [some (.ref m), some (.int (nI key))] [] h = _
  have i124 := m_isSign (d := D + 2) (c := 124) E F S.1
  rw [if_neg (hn 124 (by decide))] at i124
  rw [e_195_10]
  simp only [n_195, e_195_0, e_195_1, e_195_2, e_195_5, e_195_8, f_195_9, e_195_11, e_195_13, e_195_16, e_195_19, e_195_20, e_195_23, e_195_24, e_195_25, e_195_28, e_195_31, f_195_32, e_195_33, e_195_34, e_195_35, e_195_37, e_195_40, e_195_43, f_195_44, Option.bind_some, Option.toList_some, Option.toList_none, List.cons_append, List.nil_append, am_k1_i, am_k1_r, am_k1_u, am_k1_n, am_bo0, am_bo1, am_boi, am_ev_tb, am_tb_nil, am_rfs, am_rfn, eq_self, and_self, if_true, if_false, show ¬ (1 : Int32) = 0 from by decide, show ¬ (0 : Int32) = 1 from by decide, not_true, not_false_eq_true, and_true, true_and, and_false, false_and, or_true, true_or, or_false, false_or, cm_ob l0, i124]
theorem rp_goO_0 (E : rp_E G h0 m T t W st ln key A) (hk : k < W) (hi : i < pl_m 0) (h3 : tk_kd T W st ln k = 3) (hs : tk_lv (T (st k)) = nI 0) (hk1 : k1 ≤ W) (hkk : k + 1 ≤ k1) (hs1 : s1.length ≤ k1 - (k + 1)) (H : rp_O G h0 m T W st ln key A 1 (k + 1) op nt k1 s1) (H2 : rp_LO G h0 m T W st ln key A 0 (i + 1) k1 op nt k2 s2) : rp_LO G h0 m T W st ln key A 0 i k op nt k2 (s1 ++ [(2, T (st k))] ++ s2) := by
  intro D h out x hD ho F S
  have h8 := pd_8 (l := 0) (op := op) (nt := nt)
  have h9 : pd_n 1 op nt + 1 + 1 ≤ pd_n 0 op nt := pd_1 (l := 0) (by omega)
  obtain ⟨D, rfl⟩ : ∃ D2, D = D2 + 3 := ⟨D - 3, by omega⟩
  have l0 := rp_l E F
  have q19 := S.1.2.2.2.1 h3
  obtain ⟨ha, ea, Fa, Sa⟩ := rp_next (d := D) E F hk (by omega) S
  obtain ⟨hb, eb, Fb, Sb⟩ := H (D + 2) ha out (by omega) (by omega) Fa Sa
  have eb2 : am_evm G (D + 2) 196 [.ref m, .int (nI key)] ha = some (some (.int 1), hb) := eb
  obtain ⟨hc, ec, Fc, Sc⟩ := rp_stepS (d := D + 2) (u := T (st k)) E Fb (by rw [List.length_append]; omega) Sb
  obtain ⟨hd, ed, Fd, Sd⟩ := H2 (D + 3) hc (out ++ s1 ++ [(2, T (st k))]) (none) hD (by rw [List.length_append, List.length_append]; show out.length + s1.length + 1 + (W - k1) ≤ 96; omega) Fc Sc
  have ed2 : am_ev G (D + 3) 195 10 [some (.ref m), some (.int (nI key))] [] hc = some (some (.int 1), hd) := ed
  refine ⟨hd, ?_, Fd, by rw [show out ++ (s1 ++ [(2, T (st k))] ++ s2) = out ++ s1 ++ [(2, T (st k))] ++ s2 from by simp only [List.append_assoc]]; exact Sd⟩
  show am_ev G (D + 3) 195 10 [some (.ref m), some (.int (nI key))] [] h = _
  have e := tk_lv_0 hs
  have i124 := m_isSign (d := D + 2) (c := 124) E F S.1
  rw [if_pos ⟨h3, e⟩] at i124
  rw [e] at ec
  rw [← ed2, e_195_10]
  simp only [n_195, e_195_0, e_195_1, e_195_2, e_195_5, e_195_8, f_195_9, e_195_11, e_195_13, e_195_16, e_195_19, e_195_20, e_195_23, e_195_24, e_195_25, e_195_28, e_195_31, f_195_32, e_195_33, e_195_34, e_195_35, e_195_37, e_195_40, e_195_43, f_195_44, Option.bind_some, Option.toList_some, Option.toList_none, List.cons_append, List.nil_append, am_k1_i, am_k1_r, am_k1_u, am_k1_n, am_bo0, am_bo1, am_boi, am_ev_tb, am_tb_nil, am_rfs, am_rfn, eq_self, and_self, if_true, if_false, show ¬ (1 : Int32) = 0 from by decide, show ¬ (0 : Int32) = 1 from by decide, not_true, not_false_eq_true, and_true, true_and, and_false, false_and, or_true, true_or, or_false, false_or, cm_ob l0, ea, cm_ob (rp_l E Fa), eb2, cm_ob (rp_l E Fb), ec, i124]
theorem rp_goN1_0 (E : rp_E G h0 m T t W st ln key A) (hk : k < W) (hi : i < pl_m 0) (h3 : tk_kd T W st ln k = 3) (hs : tk_lv (T (st k)) = nI 0) (H : rp_N G h0 m T W st ln key A 1 (k + 1) op nt k2) : rp_LN G h0 m T W st ln key A 0 i k op nt k2 := by
  intro D h out x hD ho F S
  have h8 := pd_8 (l := 0) (op := op) (nt := nt)
  have h9 : pd_n 1 op nt + 1 + 1 ≤ pd_n 0 op nt := pd_1 (l := 0) (by omega)
  obtain ⟨D, rfl⟩ : ∃ D2, D = D2 + 3 := ⟨D - 3, by omega⟩
  have l0 := rp_l E F
  have q19 := S.1.2.2.2.1 h3
  obtain ⟨ha, ea, Fa, Sa⟩ := rp_next (d := D) E F hk (by omega) S
  obtain ⟨hb, eb, Fb, Xb⟩ := H (D + 2) ha out (by omega) (by omega) Fa Sa
  have eb2 : am_evm G (D + 2) 196 [.ref m, .int (nI key)] ha = some (some (.int 0), hb) := eb
  refine ⟨hb, ?_, Fb, Xb⟩
  show am_ev G (D + 3) 195 10 [some (.ref m), some (.int (nI key))] [] h = _
  have e := tk_lv_0 hs
  have i124 := m_isSign (d := D + 2) (c := 124) E F S.1
  rw [if_pos ⟨h3, e⟩] at i124
  rw [e_195_10]
  simp only [n_195, e_195_0, e_195_1, e_195_2, e_195_5, e_195_8, f_195_9, e_195_11, e_195_13, e_195_16, e_195_19, e_195_20, e_195_23, e_195_24, e_195_25, e_195_28, e_195_31, f_195_32, e_195_33, e_195_34, e_195_35, e_195_37, e_195_40, e_195_43, f_195_44, Option.bind_some, Option.toList_some, Option.toList_none, List.cons_append, List.nil_append, am_k1_i, am_k1_r, am_k1_u, am_k1_n, am_bo0, am_bo1, am_boi, am_ev_tb, am_tb_nil, am_rfs, am_rfn, eq_self, and_self, if_true, if_false, show ¬ (1 : Int32) = 0 from by decide, show ¬ (0 : Int32) = 1 from by decide, not_true, not_false_eq_true, and_true, true_and, and_false, false_and, or_true, true_or, or_false, false_or, cm_ob l0, ea, cm_ob (rp_l E Fa), eb2, i124]
theorem rp_goN2_0 (E : rp_E G h0 m T t W st ln key A) (hk : k < W) (hi : i < pl_m 0) (h3 : tk_kd T W st ln k = 3) (hs : tk_lv (T (st k)) = nI 0) (hk1 : k1 ≤ W) (hkk : k + 1 ≤ k1) (hs1 : s1.length ≤ k1 - (k + 1)) (H : rp_O G h0 m T W st ln key A 1 (k + 1) op nt k1 s1) (H2 : rp_LN G h0 m T W st ln key A 0 (i + 1) k1 op nt k2) : rp_LN G h0 m T W st ln key A 0 i k op nt k2 := by
  intro D h out x hD ho F S
  have h8 := pd_8 (l := 0) (op := op) (nt := nt)
  have h9 : pd_n 1 op nt + 1 + 1 ≤ pd_n 0 op nt := pd_1 (l := 0) (by omega)
  obtain ⟨D, rfl⟩ : ∃ D2, D = D2 + 3 := ⟨D - 3, by omega⟩
  have l0 := rp_l E F
  have q19 := S.1.2.2.2.1 h3
  obtain ⟨ha, ea, Fa, Sa⟩ := rp_next (d := D) E F hk (by omega) S
  obtain ⟨hb, eb, Fb, Sb⟩ := H (D + 2) ha out (by omega) (by omega) Fa Sa
  have eb2 : am_evm G (D + 2) 196 [.ref m, .int (nI key)] ha = some (some (.int 1), hb) := eb
  obtain ⟨hc, ec, Fc, Sc⟩ := rp_stepS (d := D + 2) (u := T (st k)) E Fb (by rw [List.length_append]; omega) Sb
  obtain ⟨hd, ed, Fd, Sd⟩ := H2 (D + 3) hc (out ++ s1 ++ [(2, T (st k))]) (none) hD (by rw [List.length_append, List.length_append]; show out.length + s1.length + 1 + (W - k1) ≤ 96; omega) Fc Sc
  have ed2 : am_ev G (D + 3) 195 10 [some (.ref m), some (.int (nI key))] [] hc = some (some (.int 0), hd) := ed
  refine ⟨hd, ?_, Fd, Sd⟩
  show am_ev G (D + 3) 195 10 [some (.ref m), some (.int (nI key))] [] h = _
  have e := tk_lv_0 hs
  have i124 := m_isSign (d := D + 2) (c := 124) E F S.1
  rw [if_pos ⟨h3, e⟩] at i124
  rw [e] at ec
  rw [← ed2, e_195_10]
  simp only [n_195, e_195_0, e_195_1, e_195_2, e_195_5, e_195_8, f_195_9, e_195_11, e_195_13, e_195_16, e_195_19, e_195_20, e_195_23, e_195_24, e_195_25, e_195_28, e_195_31, f_195_32, e_195_33, e_195_34, e_195_35, e_195_37, e_195_40, e_195_43, f_195_44, Option.bind_some, Option.toList_some, Option.toList_none, List.cons_append, List.nil_append, am_k1_i, am_k1_r, am_k1_u, am_k1_n, am_bo0, am_bo1, am_boi, am_ev_tb, am_tb_nil, am_rfs, am_rfn, eq_self, and_self, if_true, if_false, show ¬ (1 : Int32) = 0 from by decide, show ¬ (0 : Int32) = 1 from by decide, not_true, not_false_eq_true, and_true, true_and, and_false, false_and, or_true, true_or, or_false, false_or, cm_ob l0, ea, cm_ob (rp_l E Fa), eb2, cm_ob (rp_l E Fb), ec, i124]
theorem rp_okO_0 (E : rp_E G h0 m T t W st ln key A) (hkk : k ≤ k1) (hk1 : k1 ≤ W) (hs1 : s1.length ≤ k1 - k) (H : rp_O G h0 m T W st ln key A 1 k op nt k1 s1) (H2 : rp_LO G h0 m T W st ln key A 0 0 k1 op nt k2 s2) : rp_O G h0 m T W st ln key A 0 k op nt k2 (s1 ++ s2) := by
  intro D h out hD ho F S
  have h8 := pd_8 (l := 0) (op := op) (nt := nt)
  have h9 : pd_n 1 op nt + 1 + 1 ≤ pd_n 0 op nt := pd_1 (l := 0) (by omega)
  obtain ⟨D, rfl⟩ : ∃ D2, D = D2 + 1 := ⟨D - 1, by omega⟩
  have l0 := rp_l E F
  obtain ⟨hb, eb, Fb, Sb⟩ := H D h out (by omega) ho F S
  have eb2 : am_evm G D 196 [.ref m, .int (nI key)] h = some (some (.int 1), hb) := eb
  obtain ⟨hd, ed, Fd, Sd⟩ := H2 (D + 1) hb (out ++ s1) none hD (by rw [List.length_append]; omega) Fb Sb
  have ed2 : am_ev G (D + 1) 195 10 [some (.ref m), some (.int (nI key))] [] hb = some (some (.int 1), hd) := ed
  refine ⟨hd, ?_, Fd, by rw [← List.append_assoc]; exact Sd⟩
  show am_evm G (D + 1) 195 [.ref m, .int (nI key)] h = _
  rw [← ed2]
  simp only [n_195, e_195_0, e_195_1, e_195_2, e_195_5, e_195_8, f_195_9, e_195_11, e_195_13, e_195_16, e_195_19, e_195_20, e_195_23, e_195_24, e_195_25, e_195_28, e_195_31, f_195_32, e_195_33, e_195_34, e_195_35, e_195_37, e_195_40, e_195_43, f_195_44, Option.bind_some, Option.toList_some, Option.toList_none, List.cons_append, List.nil_append, am_k1_i, am_k1_r, am_k1_u, am_k1_n, am_bo0, am_bo1, am_boi, am_ev_tb, am_tb_nil, am_rfs, am_rfn, eq_self, and_self, if_true, if_false, show ¬ (1 : Int32) = 0 from by decide, show ¬ (0 : Int32) = 1 from by decide, not_true, not_false_eq_true, and_true, true_and, and_false, false_and, or_true, true_or, or_false, false_or, cm_ob l0, eb2]
theorem rp_okN1_0 (E : rp_E G h0 m T t W st ln key A) (H : rp_N G h0 m T W st ln key A 1 k op nt k2) : rp_N G h0 m T W st ln key A 0 k op nt k2 := by
  intro D h out hD ho F S
  have h8 := pd_8 (l := 0) (op := op) (nt := nt)
  have h9 : pd_n 1 op nt + 1 + 1 ≤ pd_n 0 op nt := pd_1 (l := 0) (by omega)
  obtain ⟨D, rfl⟩ : ∃ D2, D = D2 + 1 := ⟨D - 1, by omega⟩
  have l0 := rp_l E F
  obtain ⟨hb, eb, Fb, Xb⟩ := H D h out (by omega) ho F S
  have eb2 : am_evm G D 196 [.ref m, .int (nI key)] h = some (some (.int 0), hb) := eb
  refine ⟨hb, ?_, Fb, Xb⟩
  show am_evm G (D + 1) 195 [.ref m, .int (nI key)] h = _
  simp only [n_195, e_195_0, e_195_1, e_195_2, e_195_5, e_195_8, f_195_9, e_195_11, e_195_13, e_195_16, e_195_19, e_195_20, e_195_23, e_195_24, e_195_25, e_195_28, e_195_31, f_195_32, e_195_33, e_195_34, e_195_35, e_195_37, e_195_40, e_195_43, f_195_44, Option.bind_some, Option.toList_some, Option.toList_none, List.cons_append, List.nil_append, am_k1_i, am_k1_r, am_k1_u, am_k1_n, am_bo0, am_bo1, am_boi, am_ev_tb, am_tb_nil, am_rfs, am_rfn, eq_self, and_self, if_true, if_false, show ¬ (1 : Int32) = 0 from by decide, show ¬ (0 : Int32) = 1 from by decide, not_true, not_false_eq_true, and_true, true_and, and_false, false_and, or_true, true_or, or_false, false_or, cm_ob l0, eb2]
theorem rp_okN2_0 (E : rp_E G h0 m T t W st ln key A) (hkk : k ≤ k1) (hk1 : k1 ≤ W) (hs1 : s1.length ≤ k1 - k) (H : rp_O G h0 m T W st ln key A 1 k op nt k1 s1) (H2 : rp_LN G h0 m T W st ln key A 0 0 k1 op nt k2) : rp_N G h0 m T W st ln key A 0 k op nt k2 := by
  intro D h out hD ho F S
  have h8 := pd_8 (l := 0) (op := op) (nt := nt)
  have h9 : pd_n 1 op nt + 1 + 1 ≤ pd_n 0 op nt := pd_1 (l := 0) (by omega)
  obtain ⟨D, rfl⟩ : ∃ D2, D = D2 + 1 := ⟨D - 1, by omega⟩
  have l0 := rp_l E F
  obtain ⟨hb, eb, Fb, Sb⟩ := H D h out (by omega) ho F S
  have eb2 : am_evm G D 196 [.ref m, .int (nI key)] h = some (some (.int 1), hb) := eb
  obtain ⟨hd, ed, Fd, Sd⟩ := H2 (D + 1) hb (out ++ s1) none hD (by rw [List.length_append]; omega) Fb Sb
  have ed2 : am_ev G (D + 1) 195 10 [some (.ref m), some (.int (nI key))] [] hb = some (some (.int 0), hd) := ed
  refine ⟨hd, ?_, Fd, Sd⟩
  show am_evm G (D + 1) 195 [.ref m, .int (nI key)] h = _
  rw [← ed2]
  simp only [n_195, e_195_0, e_195_1, e_195_2, e_195_5, e_195_8, f_195_9, e_195_11, e_195_13, e_195_16, e_195_19, e_195_20, e_195_23, e_195_24, e_195_25, e_195_28, e_195_31, f_195_32, e_195_33, e_195_34, e_195_35, e_195_37, e_195_40, e_195_43, f_195_44, Option.bind_some, Option.toList_some, Option.toList_none, List.cons_append, List.nil_append, am_k1_i, am_k1_r, am_k1_u, am_k1_n, am_bo0, am_bo1, am_boi, am_ev_tb, am_tb_nil, am_rfs, am_rfn, eq_self, and_self, if_true, if_false, show ¬ (1 : Int32) = 0 from by decide, show ¬ (0 : Int32) = 1 from by decide, not_true, not_false_eq_true, and_true, true_and, and_false, false_and, or_true, true_or, or_false, false_or, cm_ob l0, eb2]
theorem tk_lv_1 {v : Int32} (h : tk_lv v = nI 1) : v = 38 := by
  rcases tk_lv_in v with ⟨e, q⟩ | ⟨e, q⟩ | ⟨e, q⟩ | ⟨e, q⟩ | ⟨e, q⟩ | q
  · exact e
  · rw [q] at h; exact absurd h (by decide)
  · rw [q] at h; exact absurd h (by decide)
  · rw [q] at h; exact absurd h (by decide)
  · rw [q] at h; exact absurd h (by decide)
  · rw [q] at h; exact absurd h (by decide)
theorem rp_stop_1 (E : rp_E G h0 m T t W st ln key A) (hk : k ≤ W) (hs : ¬ tk_lv (tk_sg T W st ln k) = nI 1) : rp_LO G h0 m T W st ln key A 1 i k op nt k [] := by
  intro D h out x hD ho F S
  have h8 := pd_8 (l := 1) (op := op) (nt := nt)
  obtain ⟨D, rfl⟩ : ∃ D2, D = D2 + 3 := ⟨D - 3, by omega⟩
  have l0 := rp_l E F
  refine ⟨h, ?_, F, by rw [List.append_nil]; exact S⟩
  have hn : ∀ c, tk_lv c = nI 1 → ¬ (tk_kd T W st ln k = 3 ∧ T (st k) = c) := fun c hc z => hs (by unfold tk_sg; rw [if_pos z.1, z.2]; exact hc)
  show am_ev G (D + 3) 196 10 [some (.ref m), some (.int (nI key))] [] h = _
  have i38 := m_isSign (d := D + 2) (c := 38) E F S.1
  rw [if_neg (hn 38 (by decide))] at i38
  rw [e_196_10]
  simp only [n_196, e_196_0, e_196_1, e_196_2, e_196_5, e_196_8, f_196_9, e_196_11, e_196_13, e_196_16, e_196_19, e_196_20, e_196_23, e_196_24, e_196_25, e_196_28, e_196_31, f_196_32, e_196_33, e_196_34, e_196_35, e_196_37, e_196_40, e_196_43, f_196_44, Option.bind_some, Option.toList_some, Option.toList_none, List.cons_append, List.nil_append, am_k1_i, am_k1_r, am_k1_u, am_k1_n, am_bo0, am_bo1, am_boi, am_ev_tb, am_tb_nil, am_rfs, am_rfn, eq_self, and_self, if_true, if_false, show ¬ (1 : Int32) = 0 from by decide, show ¬ (0 : Int32) = 1 from by decide, not_true, not_false_eq_true, and_true, true_and, and_false, false_and, or_true, true_or, or_false, false_or, cm_ob l0, i38]
theorem rp_goO_1 (E : rp_E G h0 m T t W st ln key A) (hk : k < W) (hi : i < pl_m 1) (h3 : tk_kd T W st ln k = 3) (hs : tk_lv (T (st k)) = nI 1) (hk1 : k1 ≤ W) (hkk : k + 1 ≤ k1) (hs1 : s1.length ≤ k1 - (k + 1)) (H : rp_O G h0 m T W st ln key A 2 (k + 1) op nt k1 s1) (H2 : rp_LO G h0 m T W st ln key A 1 (i + 1) k1 op nt k2 s2) : rp_LO G h0 m T W st ln key A 1 i k op nt k2 (s1 ++ [(2, T (st k))] ++ s2) := by
  intro D h out x hD ho F S
  have h8 := pd_8 (l := 1) (op := op) (nt := nt)
  have h9 : pd_n 2 op nt + 1 + 1 ≤ pd_n 1 op nt := pd_1 (l := 1) (by omega)
  obtain ⟨D, rfl⟩ : ∃ D2, D = D2 + 3 := ⟨D - 3, by omega⟩
  have l0 := rp_l E F
  have q19 := S.1.2.2.2.1 h3
  obtain ⟨ha, ea, Fa, Sa⟩ := rp_next (d := D) E F hk (by omega) S
  obtain ⟨hb, eb, Fb, Sb⟩ := H (D + 2) ha out (by omega) (by omega) Fa Sa
  have eb2 : am_evm G (D + 2) 197 [.ref m, .int (nI key)] ha = some (some (.int 1), hb) := eb
  obtain ⟨hc, ec, Fc, Sc⟩ := rp_stepS (d := D + 2) (u := T (st k)) E Fb (by rw [List.length_append]; omega) Sb
  obtain ⟨hd, ed, Fd, Sd⟩ := H2 (D + 3) hc (out ++ s1 ++ [(2, T (st k))]) (none) hD (by rw [List.length_append, List.length_append]; show out.length + s1.length + 1 + (W - k1) ≤ 96; omega) Fc Sc
  have ed2 : am_ev G (D + 3) 196 10 [some (.ref m), some (.int (nI key))] [] hc = some (some (.int 1), hd) := ed
  refine ⟨hd, ?_, Fd, by rw [show out ++ (s1 ++ [(2, T (st k))] ++ s2) = out ++ s1 ++ [(2, T (st k))] ++ s2 from by simp only [List.append_assoc]]; exact Sd⟩
  show am_ev G (D + 3) 196 10 [some (.ref m), some (.int (nI key))] [] h = _
  have e := tk_lv_1 hs
  have i38 := m_isSign (d := D + 2) (c := 38) E F S.1
  rw [if_pos ⟨h3, e⟩] at i38
  rw [e] at ec
  rw [← ed2, e_196_10]
  simp only [n_196, e_196_0, e_196_1, e_196_2, e_196_5, e_196_8, f_196_9, e_196_11, e_196_13, e_196_16, e_196_19, e_196_20, e_196_23, e_196_24, e_196_25, e_196_28, e_196_31, f_196_32, e_196_33, e_196_34, e_196_35, e_196_37, e_196_40, e_196_43, f_196_44, Option.bind_some, Option.toList_some, Option.toList_none, List.cons_append, List.nil_append, am_k1_i, am_k1_r, am_k1_u, am_k1_n, am_bo0, am_bo1, am_boi, am_ev_tb, am_tb_nil, am_rfs, am_rfn, eq_self, and_self, if_true, if_false, show ¬ (1 : Int32) = 0 from by decide, show ¬ (0 : Int32) = 1 from by decide, not_true, not_false_eq_true, and_true, true_and, and_false, false_and, or_true, true_or, or_false, false_or, cm_ob l0, ea, cm_ob (rp_l E Fa), eb2, cm_ob (rp_l E Fb), ec, i38]
theorem rp_goN1_1 (E : rp_E G h0 m T t W st ln key A) (hk : k < W) (hi : i < pl_m 1) (h3 : tk_kd T W st ln k = 3) (hs : tk_lv (T (st k)) = nI 1) (H : rp_N G h0 m T W st ln key A 2 (k + 1) op nt k2) : rp_LN G h0 m T W st ln key A 1 i k op nt k2 := by
  intro D h out x hD ho F S
  have h8 := pd_8 (l := 1) (op := op) (nt := nt)
  have h9 : pd_n 2 op nt + 1 + 1 ≤ pd_n 1 op nt := pd_1 (l := 1) (by omega)
  obtain ⟨D, rfl⟩ : ∃ D2, D = D2 + 3 := ⟨D - 3, by omega⟩
  have l0 := rp_l E F
  have q19 := S.1.2.2.2.1 h3
  obtain ⟨ha, ea, Fa, Sa⟩ := rp_next (d := D) E F hk (by omega) S
  obtain ⟨hb, eb, Fb, Xb⟩ := H (D + 2) ha out (by omega) (by omega) Fa Sa
  have eb2 : am_evm G (D + 2) 197 [.ref m, .int (nI key)] ha = some (some (.int 0), hb) := eb
  refine ⟨hb, ?_, Fb, Xb⟩
  show am_ev G (D + 3) 196 10 [some (.ref m), some (.int (nI key))] [] h = _
  have e := tk_lv_1 hs
  have i38 := m_isSign (d := D + 2) (c := 38) E F S.1
  rw [if_pos ⟨h3, e⟩] at i38
  rw [e_196_10]
  simp only [n_196, e_196_0, e_196_1, e_196_2, e_196_5, e_196_8, f_196_9, e_196_11, e_196_13, e_196_16, e_196_19, e_196_20, e_196_23, e_196_24, e_196_25, e_196_28, e_196_31, f_196_32, e_196_33, e_196_34, e_196_35, e_196_37, e_196_40, e_196_43, f_196_44, Option.bind_some, Option.toList_some, Option.toList_none, List.cons_append, List.nil_append, am_k1_i, am_k1_r, am_k1_u, am_k1_n, am_bo0, am_bo1, am_boi, am_ev_tb, am_tb_nil, am_rfs, am_rfn, eq_self, and_self, if_true, if_false, show ¬ (1 : Int32) = 0 from by decide, show ¬ (0 : Int32) = 1 from by decide, not_true, not_false_eq_true, and_true, true_and, and_false, false_and, or_true, true_or, or_false, false_or, cm_ob l0, ea, cm_ob (rp_l E Fa), eb2, i38]
theorem rp_goN2_1 (E : rp_E G h0 m T t W st ln key A) (hk : k < W) (hi : i < pl_m 1) (h3 : tk_kd T W st ln k = 3) (hs : tk_lv (T (st k)) = nI 1) (hk1 : k1 ≤ W) (hkk : k + 1 ≤ k1) (hs1 : s1.length ≤ k1 - (k + 1)) (H : rp_O G h0 m T W st ln key A 2 (k + 1) op nt k1 s1) (H2 : rp_LN G h0 m T W st ln key A 1 (i + 1) k1 op nt k2) : rp_LN G h0 m T W st ln key A 1 i k op nt k2 := by
  intro D h out x hD ho F S
  have h8 := pd_8 (l := 1) (op := op) (nt := nt)
  have h9 : pd_n 2 op nt + 1 + 1 ≤ pd_n 1 op nt := pd_1 (l := 1) (by omega)
  obtain ⟨D, rfl⟩ : ∃ D2, D = D2 + 3 := ⟨D - 3, by omega⟩
  have l0 := rp_l E F
  have q19 := S.1.2.2.2.1 h3
  obtain ⟨ha, ea, Fa, Sa⟩ := rp_next (d := D) E F hk (by omega) S
  obtain ⟨hb, eb, Fb, Sb⟩ := H (D + 2) ha out (by omega) (by omega) Fa Sa
  have eb2 : am_evm G (D + 2) 197 [.ref m, .int (nI key)] ha = some (some (.int 1), hb) := eb
  obtain ⟨hc, ec, Fc, Sc⟩ := rp_stepS (d := D + 2) (u := T (st k)) E Fb (by rw [List.length_append]; omega) Sb
  obtain ⟨hd, ed, Fd, Sd⟩ := H2 (D + 3) hc (out ++ s1 ++ [(2, T (st k))]) (none) hD (by rw [List.length_append, List.length_append]; show out.length + s1.length + 1 + (W - k1) ≤ 96; omega) Fc Sc
  have ed2 : am_ev G (D + 3) 196 10 [some (.ref m), some (.int (nI key))] [] hc = some (some (.int 0), hd) := ed
  refine ⟨hd, ?_, Fd, Sd⟩
  show am_ev G (D + 3) 196 10 [some (.ref m), some (.int (nI key))] [] h = _
  have e := tk_lv_1 hs
  have i38 := m_isSign (d := D + 2) (c := 38) E F S.1
  rw [if_pos ⟨h3, e⟩] at i38
  rw [e] at ec
  rw [← ed2, e_196_10]
  simp only [n_196, e_196_0, e_196_1, e_196_2, e_196_5, e_196_8, f_196_9, e_196_11, e_196_13, e_196_16, e_196_19, e_196_20, e_196_23, e_196_24, e_196_25, e_196_28, e_196_31, f_196_32, e_196_33, e_196_34, e_196_35, e_196_37, e_196_40, e_196_43, f_196_44, Option.bind_some, Option.toList_some, Option.toList_none, List.cons_append, List.nil_append, am_k1_i, am_k1_r, am_k1_u, am_k1_n, am_bo0, am_bo1, am_boi, am_ev_tb, am_tb_nil, am_rfs, am_rfn, eq_self, and_self, if_true, if_false, show ¬ (1 : Int32) = 0 from by decide, show ¬ (0 : Int32) = 1 from by decide, not_true, not_false_eq_true, and_true, true_and, and_false, false_and, or_true, true_or, or_false, false_or, cm_ob l0, ea, cm_ob (rp_l E Fa), eb2, cm_ob (rp_l E Fb), ec, i38]
theorem rp_okO_1 (E : rp_E G h0 m T t W st ln key A) (hkk : k ≤ k1) (hk1 : k1 ≤ W) (hs1 : s1.length ≤ k1 - k) (H : rp_O G h0 m T W st ln key A 2 k op nt k1 s1) (H2 : rp_LO G h0 m T W st ln key A 1 0 k1 op nt k2 s2) : rp_O G h0 m T W st ln key A 1 k op nt k2 (s1 ++ s2) := by
  intro D h out hD ho F S
  have h8 := pd_8 (l := 1) (op := op) (nt := nt)
  have h9 : pd_n 2 op nt + 1 + 1 ≤ pd_n 1 op nt := pd_1 (l := 1) (by omega)
  obtain ⟨D, rfl⟩ : ∃ D2, D = D2 + 1 := ⟨D - 1, by omega⟩
  have l0 := rp_l E F
  obtain ⟨hb, eb, Fb, Sb⟩ := H D h out (by omega) ho F S
  have eb2 : am_evm G D 197 [.ref m, .int (nI key)] h = some (some (.int 1), hb) := eb
  obtain ⟨hd, ed, Fd, Sd⟩ := H2 (D + 1) hb (out ++ s1) none hD (by rw [List.length_append]; omega) Fb Sb
  have ed2 : am_ev G (D + 1) 196 10 [some (.ref m), some (.int (nI key))] [] hb = some (some (.int 1), hd) := ed
  refine ⟨hd, ?_, Fd, by rw [← List.append_assoc]; exact Sd⟩
  show am_evm G (D + 1) 196 [.ref m, .int (nI key)] h = _
  rw [← ed2]
  simp only [n_196, e_196_0, e_196_1, e_196_2, e_196_5, e_196_8, f_196_9, e_196_11, e_196_13, e_196_16, e_196_19, e_196_20, e_196_23, e_196_24, e_196_25, e_196_28, e_196_31, f_196_32, e_196_33, e_196_34, e_196_35, e_196_37, e_196_40, e_196_43, f_196_44, Option.bind_some, Option.toList_some, Option.toList_none, List.cons_append, List.nil_append, am_k1_i, am_k1_r, am_k1_u, am_k1_n, am_bo0, am_bo1, am_boi, am_ev_tb, am_tb_nil, am_rfs, am_rfn, eq_self, and_self, if_true, if_false, show ¬ (1 : Int32) = 0 from by decide, show ¬ (0 : Int32) = 1 from by decide, not_true, not_false_eq_true, and_true, true_and, and_false, false_and, or_true, true_or, or_false, false_or, cm_ob l0, eb2]
theorem rp_okN1_1 (E : rp_E G h0 m T t W st ln key A) (H : rp_N G h0 m T W st ln key A 2 k op nt k2) : rp_N G h0 m T W st ln key A 1 k op nt k2 := by
  intro D h out hD ho F S
  have h8 := pd_8 (l := 1) (op := op) (nt := nt)
  have h9 : pd_n 2 op nt + 1 + 1 ≤ pd_n 1 op nt := pd_1 (l := 1) (by omega)
  obtain ⟨D, rfl⟩ : ∃ D2, D = D2 + 1 := ⟨D - 1, by omega⟩
  have l0 := rp_l E F
  obtain ⟨hb, eb, Fb, Xb⟩ := H D h out (by omega) ho F S
  have eb2 : am_evm G D 197 [.ref m, .int (nI key)] h = some (some (.int 0), hb) := eb
  refine ⟨hb, ?_, Fb, Xb⟩
  show am_evm G (D + 1) 196 [.ref m, .int (nI key)] h = _
  simp only [n_196, e_196_0, e_196_1, e_196_2, e_196_5, e_196_8, f_196_9, e_196_11, e_196_13, e_196_16, e_196_19, e_196_20, e_196_23, e_196_24, e_196_25, e_196_28, e_196_31, f_196_32, e_196_33, e_196_34, e_196_35, e_196_37, e_196_40, e_196_43, f_196_44, Option.bind_some, Option.toList_some, Option.toList_none, List.cons_append, List.nil_append, am_k1_i, am_k1_r, am_k1_u, am_k1_n, am_bo0, am_bo1, am_boi, am_ev_tb, am_tb_nil, am_rfs, am_rfn, eq_self, and_self, if_true, if_false, show ¬ (1 : Int32) = 0 from by decide, show ¬ (0 : Int32) = 1 from by decide, not_true, not_false_eq_true, and_true, true_and, and_false, false_and, or_true, true_or, or_false, false_or, cm_ob l0, eb2]
theorem rp_okN2_1 (E : rp_E G h0 m T t W st ln key A) (hkk : k ≤ k1) (hk1 : k1 ≤ W) (hs1 : s1.length ≤ k1 - k) (H : rp_O G h0 m T W st ln key A 2 k op nt k1 s1) (H2 : rp_LN G h0 m T W st ln key A 1 0 k1 op nt k2) : rp_N G h0 m T W st ln key A 1 k op nt k2 := by
  intro D h out hD ho F S
  have h8 := pd_8 (l := 1) (op := op) (nt := nt)
  have h9 : pd_n 2 op nt + 1 + 1 ≤ pd_n 1 op nt := pd_1 (l := 1) (by omega)
  obtain ⟨D, rfl⟩ : ∃ D2, D = D2 + 1 := ⟨D - 1, by omega⟩
  have l0 := rp_l E F
  obtain ⟨hb, eb, Fb, Sb⟩ := H D h out (by omega) ho F S
  have eb2 : am_evm G D 197 [.ref m, .int (nI key)] h = some (some (.int 1), hb) := eb
  obtain ⟨hd, ed, Fd, Sd⟩ := H2 (D + 1) hb (out ++ s1) none hD (by rw [List.length_append]; omega) Fb Sb
  have ed2 : am_ev G (D + 1) 196 10 [some (.ref m), some (.int (nI key))] [] hb = some (some (.int 0), hd) := ed
  refine ⟨hd, ?_, Fd, Sd⟩
  show am_evm G (D + 1) 196 [.ref m, .int (nI key)] h = _
  rw [← ed2]
  simp only [n_196, e_196_0, e_196_1, e_196_2, e_196_5, e_196_8, f_196_9, e_196_11, e_196_13, e_196_16, e_196_19, e_196_20, e_196_23, e_196_24, e_196_25, e_196_28, e_196_31, f_196_32, e_196_33, e_196_34, e_196_35, e_196_37, e_196_40, e_196_43, f_196_44, Option.bind_some, Option.toList_some, Option.toList_none, List.cons_append, List.nil_append, am_k1_i, am_k1_r, am_k1_u, am_k1_n, am_bo0, am_bo1, am_boi, am_ev_tb, am_tb_nil, am_rfs, am_rfn, eq_self, and_self, if_true, if_false, show ¬ (1 : Int32) = 0 from by decide, show ¬ (0 : Int32) = 1 from by decide, not_true, not_false_eq_true, and_true, true_and, and_false, false_and, or_true, true_or, or_false, false_or, cm_ob l0, eb2]
theorem tk_lv_2 {v : Int32} (h : tk_lv v = nI 2) : v = 60 ∨ v = 61 ∨ v = 62 := by
  rcases tk_lv_in v with ⟨e, q⟩ | ⟨e, q⟩ | ⟨e, q⟩ | ⟨e, q⟩ | ⟨e, q⟩ | q
  · rw [q] at h; exact absurd h (by decide)
  · rw [q] at h; exact absurd h (by decide)
  · rw [q] at h; exact absurd h (by decide)
  · exact e
  · rw [q] at h; exact absurd h (by decide)
  · rw [q] at h; exact absurd h (by decide)
theorem rp_stop_2 (E : rp_E G h0 m T t W st ln key A) (hk : k ≤ W) (hs : 1 ≤ i ∨ ¬ tk_lv (tk_sg T W st ln k) = nI 2) : rp_LO G h0 m T W st ln key A 2 i k op nt k [] := by
  intro D h out x hD ho F S
  have h8 := pd_8 (l := 2) (op := op) (nt := nt)
  obtain ⟨D, rfl⟩ : ∃ D2, D = D2 + 3 := ⟨D - 3, by omega⟩
  have l0 := rp_l E F
  refine ⟨h, ?_, F, by rw [List.append_nil]; exact S⟩
  by_cases hi : 0 < i
  · show am_ev G (D + 3) 197 (rp_pc 2 i) [some (.ref m), some (.int (nI key)), x] [] h = _
    rw [show rp_pc 2 i = 62 from if_pos ⟨rfl, hi⟩, e_197_62]
    simp only [n_197, e_197_0, e_197_1, e_197_2, e_197_5, e_197_8, f_197_9, e_197_11, e_197_13, e_197_16, e_197_19, e_197_20, e_197_22, e_197_25, e_197_28, e_197_29, e_197_31, e_197_34, e_197_37, e_197_38, f_197_41, e_197_42, e_197_43, e_197_46, e_197_47, e_197_48, e_197_51, e_197_54, f_197_55, e_197_56, e_197_57, e_197_58, e_197_59, f_197_63, Option.bind_some, Option.toList_some, Option.toList_none, List.cons_append, List.nil_append, am_k1_i, am_k1_r, am_k1_u, am_k1_n, am_bo0, am_bo1, am_boi, am_ev_tb, am_tb_nil, am_rfs, am_rfn, eq_self, and_self, if_true, if_false, show ¬ (1 : Int32) = 0 from by decide, show ¬ (0 : Int32) = 1 from by decide, not_true, not_false_eq_true, and_true, true_and, and_false, false_and, or_true, true_or, or_false, false_or]
  · have hs : ¬ tk_lv (tk_sg T W st ln k) = nI 2 := hs.resolve_left (by omega)
    have hn : ∀ c, tk_lv c = nI 2 → ¬ (tk_kd T W st ln k = 3 ∧ T (st k) = c) := fun c hc z => hs (by unfold tk_sg; rw [if_pos z.1, z.2]; exact hc)
    show am_ev G (D + 3) 197 (rp_pc 2 i) [some (.ref m), some (.int (nI key)), x] [] h = _
    have i60 := m_isSign (d := D + 2) (c := 60) E F S.1
    rw [if_neg (hn 60 (by decide))] at i60
    have i61 := m_isSign (d := D + 2) (c := 61) E F S.1
    rw [if_neg (hn 61 (by decide))] at i61
    have i62 := m_isSign (d := D + 2) (c := 62) E F S.1
    rw [if_neg (hn 62 (by decide))] at i62
    rw [show rp_pc 2 i = 10 from if_neg (fun z => hi z.2), e_197_10]
    simp only [n_197, e_197_0, e_197_1, e_197_2, e_197_5, e_197_8, f_197_9, e_197_11, e_197_13, e_197_16, e_197_19, e_197_20, e_197_22, e_197_25, e_197_28, e_197_29, e_197_31, e_197_34, e_197_37, e_197_38, f_197_41, e_197_42, e_197_43, e_197_46, e_197_47, e_197_48, e_197_51, e_197_54, f_197_55, e_197_56, e_197_57, e_197_58, e_197_59, f_197_63, Option.bind_some, Option.toList_some, Option.toList_none, List.cons_append, List.nil_append, am_k1_i, am_k1_r, am_k1_u, am_k1_n, am_bo0, am_bo1, am_boi, am_ev_tb, am_tb_nil, am_rfs, am_rfn, eq_self, and_self, if_true, if_false, show ¬ (1 : Int32) = 0 from by decide, show ¬ (0 : Int32) = 1 from by decide, not_true, not_false_eq_true, and_true, true_and, and_false, false_and, or_true, true_or, or_false, false_or, cm_ob l0, i60, i61, i62]
    try rw [e_197_62]
    try simp only [n_197, e_197_0, e_197_1, e_197_2, e_197_5, e_197_8, f_197_9, e_197_11, e_197_13, e_197_16, e_197_19, e_197_20, e_197_22, e_197_25, e_197_28, e_197_29, e_197_31, e_197_34, e_197_37, e_197_38, f_197_41, e_197_42, e_197_43, e_197_46, e_197_47, e_197_48, e_197_51, e_197_54, f_197_55, e_197_56, e_197_57, e_197_58, e_197_59, f_197_63, Option.bind_some, Option.toList_some, Option.toList_none, List.cons_append, List.nil_append, am_k1_i, am_k1_r, am_k1_u, am_k1_n, am_bo0, am_bo1, am_boi, am_ev_tb, am_tb_nil, am_rfs, am_rfn, eq_self, and_self, if_true, if_false, show ¬ (1 : Int32) = 0 from by decide, show ¬ (0 : Int32) = 1 from by decide, not_true, not_false_eq_true, and_true, true_and, and_false, false_and, or_true, true_or, or_false, false_or]
theorem rp_goO_2 (E : rp_E G h0 m T t W st ln key A) (hk : k < W) (hi : i < pl_m 2) (h3 : tk_kd T W st ln k = 3) (hs : tk_lv (T (st k)) = nI 2) (hk1 : k1 ≤ W) (hkk : k + 1 ≤ k1) (hs1 : s1.length ≤ k1 - (k + 1)) (H : rp_O G h0 m T W st ln key A 3 (k + 1) op nt k1 s1) (H2 : rp_LO G h0 m T W st ln key A 2 (i + 1) k1 op nt k2 s2) : rp_LO G h0 m T W st ln key A 2 i k op nt k2 (s1 ++ [(2, T (st k))] ++ s2) := by
  intro D h out x hD ho F S
  have h8 := pd_8 (l := 2) (op := op) (nt := nt)
  have h9 : pd_n 3 op nt + 1 + 1 ≤ pd_n 2 op nt := pd_1 (l := 2) (by omega)
  obtain ⟨D, rfl⟩ : ∃ D2, D = D2 + 3 := ⟨D - 3, by omega⟩
  have l0 := rp_l E F
  have q19 := S.1.2.2.2.1 h3
  obtain ⟨ha, ea, Fa, Sa⟩ := rp_next (d := D) E F hk (by omega) S
  obtain ⟨hb, eb, Fb, Sb⟩ := H (D + 2) ha out (by omega) (by omega) Fa Sa
  have eb2 : am_evm G (D + 2) 198 [.ref m, .int (nI key)] ha = some (some (.int 1), hb) := eb
  obtain ⟨hc, ec, Fc, Sc⟩ := rp_stepS (d := D + 2) (u := T (st k)) E Fb (by rw [List.length_append]; omega) Sb
  obtain ⟨hd, ed, Fd, Sd⟩ := H2 (D + 3) hc (out ++ s1 ++ [(2, T (st k))]) (some (.int (T (st k)))) hD (by rw [List.length_append, List.length_append]; show out.length + s1.length + 1 + (W - k1) ≤ 96; omega) Fc Sc
  have ed2 : am_ev G (D + 3) 197 62 [some (.ref m), some (.int (nI key)), some (.int (T (st k)))] [] hc = some (some (.int 1), hd) := by have q := ed; rw [show rp_pc 2 (i + 1) = 62 from if_pos ⟨rfl, by omega⟩] at q; exact q
  refine ⟨hd, ?_, Fd, by rw [show out ++ (s1 ++ [(2, T (st k))] ++ s2) = out ++ s1 ++ [(2, T (st k))] ++ s2 from by simp only [List.append_assoc]]; exact Sd⟩
  have hi0 : ¬ 0 < i := by have : i < 1 := hi; omega
  show am_ev G (D + 3) 197 (rp_pc 2 i) [some (.ref m), some (.int (nI key)), x] [] h = _
  rw [show rp_pc 2 i = 10 from if_neg (fun z => hi0 z.2)]
  rcases tk_lv_2 hs with e | e | e
  · have i60 := m_isSign (d := D + 2) (c := 60) E F S.1
    rw [if_pos ⟨h3, e⟩] at i60
    rw [← ed2, e_197_10]
    simp only [n_197, e_197_0, e_197_1, e_197_2, e_197_5, e_197_8, f_197_9, e_197_11, e_197_13, e_197_16, e_197_19, e_197_20, e_197_22, e_197_25, e_197_28, e_197_29, e_197_31, e_197_34, e_197_37, e_197_38, f_197_41, e_197_42, e_197_43, e_197_46, e_197_47, e_197_48, e_197_51, e_197_54, f_197_55, e_197_56, e_197_57, e_197_58, e_197_59, f_197_63, Option.bind_some, Option.toList_some, Option.toList_none, List.cons_append, List.nil_append, am_k1_i, am_k1_r, am_k1_u, am_k1_n, am_bo0, am_bo1, am_boi, am_ev_tb, am_tb_nil, am_rfs, am_rfn, eq_self, and_self, if_true, if_false, show ¬ (1 : Int32) = 0 from by decide, show ¬ (0 : Int32) = 1 from by decide, not_true, not_false_eq_true, and_true, true_and, and_false, false_and, or_true, true_or, or_false, false_or, cm_ob l0, ea, cm_ob (rp_l E Fa), eb2, cm_ob (rp_l E Fb), ec, q19, i60]
  · have i60 := m_isSign (d := D + 2) (c := 60) E F S.1
    rw [if_neg (fun q => by rw [e] at q; exact absurd q.2 (by decide))] at i60
    have i61 := m_isSign (d := D + 2) (c := 61) E F S.1
    rw [if_pos ⟨h3, e⟩] at i61
    rw [← ed2, e_197_10]
    simp only [n_197, e_197_0, e_197_1, e_197_2, e_197_5, e_197_8, f_197_9, e_197_11, e_197_13, e_197_16, e_197_19, e_197_20, e_197_22, e_197_25, e_197_28, e_197_29, e_197_31, e_197_34, e_197_37, e_197_38, f_197_41, e_197_42, e_197_43, e_197_46, e_197_47, e_197_48, e_197_51, e_197_54, f_197_55, e_197_56, e_197_57, e_197_58, e_197_59, f_197_63, Option.bind_some, Option.toList_some, Option.toList_none, List.cons_append, List.nil_append, am_k1_i, am_k1_r, am_k1_u, am_k1_n, am_bo0, am_bo1, am_boi, am_ev_tb, am_tb_nil, am_rfs, am_rfn, eq_self, and_self, if_true, if_false, show ¬ (1 : Int32) = 0 from by decide, show ¬ (0 : Int32) = 1 from by decide, not_true, not_false_eq_true, and_true, true_and, and_false, false_and, or_true, true_or, or_false, false_or, cm_ob l0, ea, cm_ob (rp_l E Fa), eb2, cm_ob (rp_l E Fb), ec, q19, i60, i61]
  · have i60 := m_isSign (d := D + 2) (c := 60) E F S.1
    rw [if_neg (fun q => by rw [e] at q; exact absurd q.2 (by decide))] at i60
    have i61 := m_isSign (d := D + 2) (c := 61) E F S.1
    rw [if_neg (fun q => by rw [e] at q; exact absurd q.2 (by decide))] at i61
    have i62 := m_isSign (d := D + 2) (c := 62) E F S.1
    rw [if_pos ⟨h3, e⟩] at i62
    rw [← ed2, e_197_10]
    simp only [n_197, e_197_0, e_197_1, e_197_2, e_197_5, e_197_8, f_197_9, e_197_11, e_197_13, e_197_16, e_197_19, e_197_20, e_197_22, e_197_25, e_197_28, e_197_29, e_197_31, e_197_34, e_197_37, e_197_38, f_197_41, e_197_42, e_197_43, e_197_46, e_197_47, e_197_48, e_197_51, e_197_54, f_197_55, e_197_56, e_197_57, e_197_58, e_197_59, f_197_63, Option.bind_some, Option.toList_some, Option.toList_none, List.cons_append, List.nil_append, am_k1_i, am_k1_r, am_k1_u, am_k1_n, am_bo0, am_bo1, am_boi, am_ev_tb, am_tb_nil, am_rfs, am_rfn, eq_self, and_self, if_true, if_false, show ¬ (1 : Int32) = 0 from by decide, show ¬ (0 : Int32) = 1 from by decide, not_true, not_false_eq_true, and_true, true_and, and_false, false_and, or_true, true_or, or_false, false_or, cm_ob l0, ea, cm_ob (rp_l E Fa), eb2, cm_ob (rp_l E Fb), ec, q19, i60, i61, i62]
theorem rp_goN1_2 (E : rp_E G h0 m T t W st ln key A) (hk : k < W) (hi : i < pl_m 2) (h3 : tk_kd T W st ln k = 3) (hs : tk_lv (T (st k)) = nI 2) (H : rp_N G h0 m T W st ln key A 3 (k + 1) op nt k2) : rp_LN G h0 m T W st ln key A 2 i k op nt k2 := by
  intro D h out x hD ho F S
  have h8 := pd_8 (l := 2) (op := op) (nt := nt)
  have h9 : pd_n 3 op nt + 1 + 1 ≤ pd_n 2 op nt := pd_1 (l := 2) (by omega)
  obtain ⟨D, rfl⟩ : ∃ D2, D = D2 + 3 := ⟨D - 3, by omega⟩
  have l0 := rp_l E F
  have q19 := S.1.2.2.2.1 h3
  obtain ⟨ha, ea, Fa, Sa⟩ := rp_next (d := D) E F hk (by omega) S
  obtain ⟨hb, eb, Fb, Xb⟩ := H (D + 2) ha out (by omega) (by omega) Fa Sa
  have eb2 : am_evm G (D + 2) 198 [.ref m, .int (nI key)] ha = some (some (.int 0), hb) := eb
  refine ⟨hb, ?_, Fb, Xb⟩
  have hi0 : ¬ 0 < i := by have : i < 1 := hi; omega
  show am_ev G (D + 3) 197 (rp_pc 2 i) [some (.ref m), some (.int (nI key)), x] [] h = _
  rw [show rp_pc 2 i = 10 from if_neg (fun z => hi0 z.2)]
  rcases tk_lv_2 hs with e | e | e
  · have i60 := m_isSign (d := D + 2) (c := 60) E F S.1
    rw [if_pos ⟨h3, e⟩] at i60
    rw [e_197_10]
    simp only [n_197, e_197_0, e_197_1, e_197_2, e_197_5, e_197_8, f_197_9, e_197_11, e_197_13, e_197_16, e_197_19, e_197_20, e_197_22, e_197_25, e_197_28, e_197_29, e_197_31, e_197_34, e_197_37, e_197_38, f_197_41, e_197_42, e_197_43, e_197_46, e_197_47, e_197_48, e_197_51, e_197_54, f_197_55, e_197_56, e_197_57, e_197_58, e_197_59, f_197_63, Option.bind_some, Option.toList_some, Option.toList_none, List.cons_append, List.nil_append, am_k1_i, am_k1_r, am_k1_u, am_k1_n, am_bo0, am_bo1, am_boi, am_ev_tb, am_tb_nil, am_rfs, am_rfn, eq_self, and_self, if_true, if_false, show ¬ (1 : Int32) = 0 from by decide, show ¬ (0 : Int32) = 1 from by decide, not_true, not_false_eq_true, and_true, true_and, and_false, false_and, or_true, true_or, or_false, false_or, cm_ob l0, ea, cm_ob (rp_l E Fa), eb2, q19, i60]
  · have i60 := m_isSign (d := D + 2) (c := 60) E F S.1
    rw [if_neg (fun q => by rw [e] at q; exact absurd q.2 (by decide))] at i60
    have i61 := m_isSign (d := D + 2) (c := 61) E F S.1
    rw [if_pos ⟨h3, e⟩] at i61
    rw [e_197_10]
    simp only [n_197, e_197_0, e_197_1, e_197_2, e_197_5, e_197_8, f_197_9, e_197_11, e_197_13, e_197_16, e_197_19, e_197_20, e_197_22, e_197_25, e_197_28, e_197_29, e_197_31, e_197_34, e_197_37, e_197_38, f_197_41, e_197_42, e_197_43, e_197_46, e_197_47, e_197_48, e_197_51, e_197_54, f_197_55, e_197_56, e_197_57, e_197_58, e_197_59, f_197_63, Option.bind_some, Option.toList_some, Option.toList_none, List.cons_append, List.nil_append, am_k1_i, am_k1_r, am_k1_u, am_k1_n, am_bo0, am_bo1, am_boi, am_ev_tb, am_tb_nil, am_rfs, am_rfn, eq_self, and_self, if_true, if_false, show ¬ (1 : Int32) = 0 from by decide, show ¬ (0 : Int32) = 1 from by decide, not_true, not_false_eq_true, and_true, true_and, and_false, false_and, or_true, true_or, or_false, false_or, cm_ob l0, ea, cm_ob (rp_l E Fa), eb2, q19, i60, i61]
  · have i60 := m_isSign (d := D + 2) (c := 60) E F S.1
    rw [if_neg (fun q => by rw [e] at q; exact absurd q.2 (by decide))] at i60
    have i61 := m_isSign (d := D + 2) (c := 61) E F S.1
    rw [if_neg (fun q => by rw [e] at q; exact absurd q.2 (by decide))] at i61
    have i62 := m_isSign (d := D + 2) (c := 62) E F S.1
    rw [if_pos ⟨h3, e⟩] at i62
    rw [e_197_10]
    simp only [n_197, e_197_0, e_197_1, e_197_2, e_197_5, e_197_8, f_197_9, e_197_11, e_197_13, e_197_16, e_197_19, e_197_20, e_197_22, e_197_25, e_197_28, e_197_29, e_197_31, e_197_34, e_197_37, e_197_38, f_197_41, e_197_42, e_197_43, e_197_46, e_197_47, e_197_48, e_197_51, e_197_54, f_197_55, e_197_56, e_197_57, e_197_58, e_197_59, f_197_63, Option.bind_some, Option.toList_some, Option.toList_none, List.cons_append, List.nil_append, am_k1_i, am_k1_r, am_k1_u, am_k1_n, am_bo0, am_bo1, am_boi, am_ev_tb, am_tb_nil, am_rfs, am_rfn, eq_self, and_self, if_true, if_false, show ¬ (1 : Int32) = 0 from by decide, show ¬ (0 : Int32) = 1 from by decide, not_true, not_false_eq_true, and_true, true_and, and_false, false_and, or_true, true_or, or_false, false_or, cm_ob l0, ea, cm_ob (rp_l E Fa), eb2, q19, i60, i61, i62]
theorem rp_goN2_2 (E : rp_E G h0 m T t W st ln key A) (hk : k < W) (hi : i < pl_m 2) (h3 : tk_kd T W st ln k = 3) (hs : tk_lv (T (st k)) = nI 2) (hk1 : k1 ≤ W) (hkk : k + 1 ≤ k1) (hs1 : s1.length ≤ k1 - (k + 1)) (H : rp_O G h0 m T W st ln key A 3 (k + 1) op nt k1 s1) (H2 : rp_LN G h0 m T W st ln key A 2 (i + 1) k1 op nt k2) : rp_LN G h0 m T W st ln key A 2 i k op nt k2 := by
  intro D h out x hD ho F S
  have h8 := pd_8 (l := 2) (op := op) (nt := nt)
  have h9 : pd_n 3 op nt + 1 + 1 ≤ pd_n 2 op nt := pd_1 (l := 2) (by omega)
  obtain ⟨D, rfl⟩ : ∃ D2, D = D2 + 3 := ⟨D - 3, by omega⟩
  have l0 := rp_l E F
  have q19 := S.1.2.2.2.1 h3
  obtain ⟨ha, ea, Fa, Sa⟩ := rp_next (d := D) E F hk (by omega) S
  obtain ⟨hb, eb, Fb, Sb⟩ := H (D + 2) ha out (by omega) (by omega) Fa Sa
  have eb2 : am_evm G (D + 2) 198 [.ref m, .int (nI key)] ha = some (some (.int 1), hb) := eb
  obtain ⟨hc, ec, Fc, Sc⟩ := rp_stepS (d := D + 2) (u := T (st k)) E Fb (by rw [List.length_append]; omega) Sb
  obtain ⟨hd, ed, Fd, Sd⟩ := H2 (D + 3) hc (out ++ s1 ++ [(2, T (st k))]) (some (.int (T (st k)))) hD (by rw [List.length_append, List.length_append]; show out.length + s1.length + 1 + (W - k1) ≤ 96; omega) Fc Sc
  have ed2 : am_ev G (D + 3) 197 62 [some (.ref m), some (.int (nI key)), some (.int (T (st k)))] [] hc = some (some (.int 0), hd) := by have q := ed; rw [show rp_pc 2 (i + 1) = 62 from if_pos ⟨rfl, by omega⟩] at q; exact q
  refine ⟨hd, ?_, Fd, Sd⟩
  have hi0 : ¬ 0 < i := by have : i < 1 := hi; omega
  show am_ev G (D + 3) 197 (rp_pc 2 i) [some (.ref m), some (.int (nI key)), x] [] h = _
  rw [show rp_pc 2 i = 10 from if_neg (fun z => hi0 z.2)]
  rcases tk_lv_2 hs with e | e | e
  · have i60 := m_isSign (d := D + 2) (c := 60) E F S.1
    rw [if_pos ⟨h3, e⟩] at i60
    rw [← ed2, e_197_10]
    simp only [n_197, e_197_0, e_197_1, e_197_2, e_197_5, e_197_8, f_197_9, e_197_11, e_197_13, e_197_16, e_197_19, e_197_20, e_197_22, e_197_25, e_197_28, e_197_29, e_197_31, e_197_34, e_197_37, e_197_38, f_197_41, e_197_42, e_197_43, e_197_46, e_197_47, e_197_48, e_197_51, e_197_54, f_197_55, e_197_56, e_197_57, e_197_58, e_197_59, f_197_63, Option.bind_some, Option.toList_some, Option.toList_none, List.cons_append, List.nil_append, am_k1_i, am_k1_r, am_k1_u, am_k1_n, am_bo0, am_bo1, am_boi, am_ev_tb, am_tb_nil, am_rfs, am_rfn, eq_self, and_self, if_true, if_false, show ¬ (1 : Int32) = 0 from by decide, show ¬ (0 : Int32) = 1 from by decide, not_true, not_false_eq_true, and_true, true_and, and_false, false_and, or_true, true_or, or_false, false_or, cm_ob l0, ea, cm_ob (rp_l E Fa), eb2, cm_ob (rp_l E Fb), ec, q19, i60]
  · have i60 := m_isSign (d := D + 2) (c := 60) E F S.1
    rw [if_neg (fun q => by rw [e] at q; exact absurd q.2 (by decide))] at i60
    have i61 := m_isSign (d := D + 2) (c := 61) E F S.1
    rw [if_pos ⟨h3, e⟩] at i61
    rw [← ed2, e_197_10]
    simp only [n_197, e_197_0, e_197_1, e_197_2, e_197_5, e_197_8, f_197_9, e_197_11, e_197_13, e_197_16, e_197_19, e_197_20, e_197_22, e_197_25, e_197_28, e_197_29, e_197_31, e_197_34, e_197_37, e_197_38, f_197_41, e_197_42, e_197_43, e_197_46, e_197_47, e_197_48, e_197_51, e_197_54, f_197_55, e_197_56, e_197_57, e_197_58, e_197_59, f_197_63, Option.bind_some, Option.toList_some, Option.toList_none, List.cons_append, List.nil_append, am_k1_i, am_k1_r, am_k1_u, am_k1_n, am_bo0, am_bo1, am_boi, am_ev_tb, am_tb_nil, am_rfs, am_rfn, eq_self, and_self, if_true, if_false, show ¬ (1 : Int32) = 0 from by decide, show ¬ (0 : Int32) = 1 from by decide, not_true, not_false_eq_true, and_true, true_and, and_false, false_and, or_true, true_or, or_false, false_or, cm_ob l0, ea, cm_ob (rp_l E Fa), eb2, cm_ob (rp_l E Fb), ec, q19, i60, i61]
  · have i60 := m_isSign (d := D + 2) (c := 60) E F S.1
    rw [if_neg (fun q => by rw [e] at q; exact absurd q.2 (by decide))] at i60
    have i61 := m_isSign (d := D + 2) (c := 61) E F S.1
    rw [if_neg (fun q => by rw [e] at q; exact absurd q.2 (by decide))] at i61
    have i62 := m_isSign (d := D + 2) (c := 62) E F S.1
    rw [if_pos ⟨h3, e⟩] at i62
    rw [← ed2, e_197_10]
    simp only [n_197, e_197_0, e_197_1, e_197_2, e_197_5, e_197_8, f_197_9, e_197_11, e_197_13, e_197_16, e_197_19, e_197_20, e_197_22, e_197_25, e_197_28, e_197_29, e_197_31, e_197_34, e_197_37, e_197_38, f_197_41, e_197_42, e_197_43, e_197_46, e_197_47, e_197_48, e_197_51, e_197_54, f_197_55, e_197_56, e_197_57, e_197_58, e_197_59, f_197_63, Option.bind_some, Option.toList_some, Option.toList_none, List.cons_append, List.nil_append, am_k1_i, am_k1_r, am_k1_u, am_k1_n, am_bo0, am_bo1, am_boi, am_ev_tb, am_tb_nil, am_rfs, am_rfn, eq_self, and_self, if_true, if_false, show ¬ (1 : Int32) = 0 from by decide, show ¬ (0 : Int32) = 1 from by decide, not_true, not_false_eq_true, and_true, true_and, and_false, false_and, or_true, true_or, or_false, false_or, cm_ob l0, ea, cm_ob (rp_l E Fa), eb2, cm_ob (rp_l E Fb), ec, q19, i60, i61, i62]
theorem rp_okO_2 (E : rp_E G h0 m T t W st ln key A) (hkk : k ≤ k1) (hk1 : k1 ≤ W) (hs1 : s1.length ≤ k1 - k) (H : rp_O G h0 m T W st ln key A 3 k op nt k1 s1) (H2 : rp_LO G h0 m T W st ln key A 2 0 k1 op nt k2 s2) : rp_O G h0 m T W st ln key A 2 k op nt k2 (s1 ++ s2) := by
  intro D h out hD ho F S
  have h8 := pd_8 (l := 2) (op := op) (nt := nt)
  have h9 : pd_n 3 op nt + 1 + 1 ≤ pd_n 2 op nt := pd_1 (l := 2) (by omega)
  obtain ⟨D, rfl⟩ : ∃ D2, D = D2 + 1 := ⟨D - 1, by omega⟩
  have l0 := rp_l E F
  obtain ⟨hb, eb, Fb, Sb⟩ := H D h out (by omega) ho F S
  have eb2 : am_evm G D 198 [.ref m, .int (nI key)] h = some (some (.int 1), hb) := eb
  obtain ⟨hd, ed, Fd, Sd⟩ := H2 (D + 1) hb (out ++ s1) none hD (by rw [List.length_append]; omega) Fb Sb
  have ed2 : am_ev G (D + 1) 197 10 [some (.ref m), some (.int (nI key)), none] [] hb = some (some (.int 1), hd) := ed
  refine ⟨hd, ?_, Fd, by rw [← List.append_assoc]; exact Sd⟩
  show am_evm G (D + 1) 197 [.ref m, .int (nI key)] h = _
  rw [← ed2]
  simp only [n_197, e_197_0, e_197_1, e_197_2, e_197_5, e_197_8, f_197_9, e_197_11, e_197_13, e_197_16, e_197_19, e_197_20, e_197_22, e_197_25, e_197_28, e_197_29, e_197_31, e_197_34, e_197_37, e_197_38, f_197_41, e_197_42, e_197_43, e_197_46, e_197_47, e_197_48, e_197_51, e_197_54, f_197_55, e_197_56, e_197_57, e_197_58, e_197_59, f_197_63, Option.bind_some, Option.toList_some, Option.toList_none, List.cons_append, List.nil_append, am_k1_i, am_k1_r, am_k1_u, am_k1_n, am_bo0, am_bo1, am_boi, am_ev_tb, am_tb_nil, am_rfs, am_rfn, eq_self, and_self, if_true, if_false, show ¬ (1 : Int32) = 0 from by decide, show ¬ (0 : Int32) = 1 from by decide, not_true, not_false_eq_true, and_true, true_and, and_false, false_and, or_true, true_or, or_false, false_or, cm_ob l0, eb2]
theorem rp_okN1_2 (E : rp_E G h0 m T t W st ln key A) (H : rp_N G h0 m T W st ln key A 3 k op nt k2) : rp_N G h0 m T W st ln key A 2 k op nt k2 := by
  intro D h out hD ho F S
  have h8 := pd_8 (l := 2) (op := op) (nt := nt)
  have h9 : pd_n 3 op nt + 1 + 1 ≤ pd_n 2 op nt := pd_1 (l := 2) (by omega)
  obtain ⟨D, rfl⟩ : ∃ D2, D = D2 + 1 := ⟨D - 1, by omega⟩
  have l0 := rp_l E F
  obtain ⟨hb, eb, Fb, Xb⟩ := H D h out (by omega) ho F S
  have eb2 : am_evm G D 198 [.ref m, .int (nI key)] h = some (some (.int 0), hb) := eb
  refine ⟨hb, ?_, Fb, Xb⟩
  show am_evm G (D + 1) 197 [.ref m, .int (nI key)] h = _
  simp only [n_197, e_197_0, e_197_1, e_197_2, e_197_5, e_197_8, f_197_9, e_197_11, e_197_13, e_197_16, e_197_19, e_197_20, e_197_22, e_197_25, e_197_28, e_197_29, e_197_31, e_197_34, e_197_37, e_197_38, f_197_41, e_197_42, e_197_43, e_197_46, e_197_47, e_197_48, e_197_51, e_197_54, f_197_55, e_197_56, e_197_57, e_197_58, e_197_59, f_197_63, Option.bind_some, Option.toList_some, Option.toList_none, List.cons_append, List.nil_append, am_k1_i, am_k1_r, am_k1_u, am_k1_n, am_bo0, am_bo1, am_boi, am_ev_tb, am_tb_nil, am_rfs, am_rfn, eq_self, and_self, if_true, if_false, show ¬ (1 : Int32) = 0 from by decide, show ¬ (0 : Int32) = 1 from by decide, not_true, not_false_eq_true, and_true, true_and, and_false, false_and, or_true, true_or, or_false, false_or, cm_ob l0, eb2]
theorem rp_okN2_2 (E : rp_E G h0 m T t W st ln key A) (hkk : k ≤ k1) (hk1 : k1 ≤ W) (hs1 : s1.length ≤ k1 - k) (H : rp_O G h0 m T W st ln key A 3 k op nt k1 s1) (H2 : rp_LN G h0 m T W st ln key A 2 0 k1 op nt k2) : rp_N G h0 m T W st ln key A 2 k op nt k2 := by
  intro D h out hD ho F S
  have h8 := pd_8 (l := 2) (op := op) (nt := nt)
  have h9 : pd_n 3 op nt + 1 + 1 ≤ pd_n 2 op nt := pd_1 (l := 2) (by omega)
  obtain ⟨D, rfl⟩ : ∃ D2, D = D2 + 1 := ⟨D - 1, by omega⟩
  have l0 := rp_l E F
  obtain ⟨hb, eb, Fb, Sb⟩ := H D h out (by omega) ho F S
  have eb2 : am_evm G D 198 [.ref m, .int (nI key)] h = some (some (.int 1), hb) := eb
  obtain ⟨hd, ed, Fd, Sd⟩ := H2 (D + 1) hb (out ++ s1) none hD (by rw [List.length_append]; omega) Fb Sb
  have ed2 : am_ev G (D + 1) 197 10 [some (.ref m), some (.int (nI key)), none] [] hb = some (some (.int 0), hd) := ed
  refine ⟨hd, ?_, Fd, Sd⟩
  show am_evm G (D + 1) 197 [.ref m, .int (nI key)] h = _
  rw [← ed2]
  simp only [n_197, e_197_0, e_197_1, e_197_2, e_197_5, e_197_8, f_197_9, e_197_11, e_197_13, e_197_16, e_197_19, e_197_20, e_197_22, e_197_25, e_197_28, e_197_29, e_197_31, e_197_34, e_197_37, e_197_38, f_197_41, e_197_42, e_197_43, e_197_46, e_197_47, e_197_48, e_197_51, e_197_54, f_197_55, e_197_56, e_197_57, e_197_58, e_197_59, f_197_63, Option.bind_some, Option.toList_some, Option.toList_none, List.cons_append, List.nil_append, am_k1_i, am_k1_r, am_k1_u, am_k1_n, am_bo0, am_bo1, am_boi, am_ev_tb, am_tb_nil, am_rfs, am_rfn, eq_self, and_self, if_true, if_false, show ¬ (1 : Int32) = 0 from by decide, show ¬ (0 : Int32) = 1 from by decide, not_true, not_false_eq_true, and_true, true_and, and_false, false_and, or_true, true_or, or_false, false_or, cm_ob l0, eb2]
theorem tk_lv_3 {v : Int32} (h : tk_lv v = nI 3) : v = 43 ∨ v = 45 := by
  rcases tk_lv_in v with ⟨e, q⟩ | ⟨e, q⟩ | ⟨e, q⟩ | ⟨e, q⟩ | ⟨e, q⟩ | q
  · rw [q] at h; exact absurd h (by decide)
  · rw [q] at h; exact absurd h (by decide)
  · exact e
  · rw [q] at h; exact absurd h (by decide)
  · rw [q] at h; exact absurd h (by decide)
  · rw [q] at h; exact absurd h (by decide)
theorem rp_stop_3 (E : rp_E G h0 m T t W st ln key A) (hk : k ≤ W) (hs : ¬ tk_lv (tk_sg T W st ln k) = nI 3) : rp_LO G h0 m T W st ln key A 3 i k op nt k [] := by
  intro D h out x hD ho F S
  have h8 := pd_8 (l := 3) (op := op) (nt := nt)
  obtain ⟨D, rfl⟩ : ∃ D2, D = D2 + 3 := ⟨D - 3, by omega⟩
  have l0 := rp_l E F
  refine ⟨h, ?_, F, by rw [List.append_nil]; exact S⟩
  have hn : ∀ c, tk_lv c = nI 3 → ¬ (tk_kd T W st ln k = 3 ∧ T (st k) = c) := fun c hc z => hs (by unfold tk_sg; rw [if_pos z.1, z.2]; exact hc)
  show am_ev G (D + 3) 198 10 [some (.ref m), some (.int (nI key)), x] [] h = _
  have i43 := m_isSign (d := D + 2) (c := 43) E F S.1
  rw [if_neg (hn 43 (by decide))] at i43
  have i45 := m_isSign (d := D + 2) (c := 45) E F S.1
  rw [if_neg (hn 45 (by decide))] at i45
  rw [e_198_10]
  simp only [n_198, e_198_0, e_198_1, e_198_2, e_198_5, e_198_8, f_198_9, e_198_11, e_198_13, e_198_16, e_198_19, e_198_20, e_198_22, e_198_25, e_198_28, e_198_29, f_198_32, e_198_33, e_198_34, e_198_37, e_198_38, e_198_39, e_198_42, e_198_45, f_198_46, e_198_47, e_198_48, e_198_49, e_198_50, e_198_53, e_198_56, f_198_57, Option.bind_some, Option.toList_some, Option.toList_none, List.cons_append, List.nil_append, am_k1_i, am_k1_r, am_k1_u, am_k1_n, am_bo0, am_bo1, am_boi, am_ev_tb, am_tb_nil, am_rfs, am_rfn, eq_self, and_self, if_true, if_false, show ¬ (1 : Int32) = 0 from by decide, show ¬ (0 : Int32) = 1 from by decide, not_true, not_false_eq_true, and_true, true_and, and_false, false_and, or_true, true_or, or_false, false_or, cm_ob l0, i43, i45]
theorem rp_goO_3 (E : rp_E G h0 m T t W st ln key A) (hk : k < W) (hi : i < pl_m 3) (h3 : tk_kd T W st ln k = 3) (hs : tk_lv (T (st k)) = nI 3) (hk1 : k1 ≤ W) (hkk : k + 1 ≤ k1) (hs1 : s1.length ≤ k1 - (k + 1)) (H : rp_O G h0 m T W st ln key A 4 (k + 1) op nt k1 s1) (H2 : rp_LO G h0 m T W st ln key A 3 (i + 1) k1 op nt k2 s2) : rp_LO G h0 m T W st ln key A 3 i k op nt k2 (s1 ++ [(2, T (st k))] ++ s2) := by
  intro D h out x hD ho F S
  have h8 := pd_8 (l := 3) (op := op) (nt := nt)
  have h9 : pd_n 4 op nt + 1 + 1 ≤ pd_n 3 op nt := pd_1 (l := 3) (by omega)
  obtain ⟨D, rfl⟩ : ∃ D2, D = D2 + 3 := ⟨D - 3, by omega⟩
  have l0 := rp_l E F
  have q19 := S.1.2.2.2.1 h3
  obtain ⟨ha, ea, Fa, Sa⟩ := rp_next (d := D) E F hk (by omega) S
  obtain ⟨hb, eb, Fb, Sb⟩ := H (D + 2) ha out (by omega) (by omega) Fa Sa
  have eb2 : am_evm G (D + 2) 199 [.ref m, .int (nI key)] ha = some (some (.int 1), hb) := eb
  obtain ⟨hc, ec, Fc, Sc⟩ := rp_stepS (d := D + 2) (u := T (st k)) E Fb (by rw [List.length_append]; omega) Sb
  obtain ⟨hd, ed, Fd, Sd⟩ := H2 (D + 3) hc (out ++ s1 ++ [(2, T (st k))]) (some (.int (T (st k)))) hD (by rw [List.length_append, List.length_append]; show out.length + s1.length + 1 + (W - k1) ≤ 96; omega) Fc Sc
  have ed2 : am_ev G (D + 3) 198 10 [some (.ref m), some (.int (nI key)), some (.int (T (st k)))] [] hc = some (some (.int 1), hd) := ed
  refine ⟨hd, ?_, Fd, by rw [show out ++ (s1 ++ [(2, T (st k))] ++ s2) = out ++ s1 ++ [(2, T (st k))] ++ s2 from by simp only [List.append_assoc]]; exact Sd⟩
  show am_ev G (D + 3) 198 10 [some (.ref m), some (.int (nI key)), x] [] h = _
  rcases tk_lv_3 hs with e | e
  · have i43 := m_isSign (d := D + 2) (c := 43) E F S.1
    rw [if_pos ⟨h3, e⟩] at i43
    rw [← ed2, e_198_10]
    simp only [n_198, e_198_0, e_198_1, e_198_2, e_198_5, e_198_8, f_198_9, e_198_11, e_198_13, e_198_16, e_198_19, e_198_20, e_198_22, e_198_25, e_198_28, e_198_29, f_198_32, e_198_33, e_198_34, e_198_37, e_198_38, e_198_39, e_198_42, e_198_45, f_198_46, e_198_47, e_198_48, e_198_49, e_198_50, e_198_53, e_198_56, f_198_57, Option.bind_some, Option.toList_some, Option.toList_none, List.cons_append, List.nil_append, am_k1_i, am_k1_r, am_k1_u, am_k1_n, am_bo0, am_bo1, am_boi, am_ev_tb, am_tb_nil, am_rfs, am_rfn, eq_self, and_self, if_true, if_false, show ¬ (1 : Int32) = 0 from by decide, show ¬ (0 : Int32) = 1 from by decide, not_true, not_false_eq_true, and_true, true_and, and_false, false_and, or_true, true_or, or_false, false_or, cm_ob l0, ea, cm_ob (rp_l E Fa), eb2, cm_ob (rp_l E Fb), ec, q19, i43]
  · have i43 := m_isSign (d := D + 2) (c := 43) E F S.1
    rw [if_neg (fun q => by rw [e] at q; exact absurd q.2 (by decide))] at i43
    have i45 := m_isSign (d := D + 2) (c := 45) E F S.1
    rw [if_pos ⟨h3, e⟩] at i45
    rw [← ed2, e_198_10]
    simp only [n_198, e_198_0, e_198_1, e_198_2, e_198_5, e_198_8, f_198_9, e_198_11, e_198_13, e_198_16, e_198_19, e_198_20, e_198_22, e_198_25, e_198_28, e_198_29, f_198_32, e_198_33, e_198_34, e_198_37, e_198_38, e_198_39, e_198_42, e_198_45, f_198_46, e_198_47, e_198_48, e_198_49, e_198_50, e_198_53, e_198_56, f_198_57, Option.bind_some, Option.toList_some, Option.toList_none, List.cons_append, List.nil_append, am_k1_i, am_k1_r, am_k1_u, am_k1_n, am_bo0, am_bo1, am_boi, am_ev_tb, am_tb_nil, am_rfs, am_rfn, eq_self, and_self, if_true, if_false, show ¬ (1 : Int32) = 0 from by decide, show ¬ (0 : Int32) = 1 from by decide, not_true, not_false_eq_true, and_true, true_and, and_false, false_and, or_true, true_or, or_false, false_or, cm_ob l0, ea, cm_ob (rp_l E Fa), eb2, cm_ob (rp_l E Fb), ec, q19, i43, i45]
theorem rp_goN1_3 (E : rp_E G h0 m T t W st ln key A) (hk : k < W) (hi : i < pl_m 3) (h3 : tk_kd T W st ln k = 3) (hs : tk_lv (T (st k)) = nI 3) (H : rp_N G h0 m T W st ln key A 4 (k + 1) op nt k2) : rp_LN G h0 m T W st ln key A 3 i k op nt k2 := by
  intro D h out x hD ho F S
  have h8 := pd_8 (l := 3) (op := op) (nt := nt)
  have h9 : pd_n 4 op nt + 1 + 1 ≤ pd_n 3 op nt := pd_1 (l := 3) (by omega)
  obtain ⟨D, rfl⟩ : ∃ D2, D = D2 + 3 := ⟨D - 3, by omega⟩
  have l0 := rp_l E F
  have q19 := S.1.2.2.2.1 h3
  obtain ⟨ha, ea, Fa, Sa⟩ := rp_next (d := D) E F hk (by omega) S
  obtain ⟨hb, eb, Fb, Xb⟩ := H (D + 2) ha out (by omega) (by omega) Fa Sa
  have eb2 : am_evm G (D + 2) 199 [.ref m, .int (nI key)] ha = some (some (.int 0), hb) := eb
  refine ⟨hb, ?_, Fb, Xb⟩
  show am_ev G (D + 3) 198 10 [some (.ref m), some (.int (nI key)), x] [] h = _
  rcases tk_lv_3 hs with e | e
  · have i43 := m_isSign (d := D + 2) (c := 43) E F S.1
    rw [if_pos ⟨h3, e⟩] at i43
    rw [e_198_10]
    simp only [n_198, e_198_0, e_198_1, e_198_2, e_198_5, e_198_8, f_198_9, e_198_11, e_198_13, e_198_16, e_198_19, e_198_20, e_198_22, e_198_25, e_198_28, e_198_29, f_198_32, e_198_33, e_198_34, e_198_37, e_198_38, e_198_39, e_198_42, e_198_45, f_198_46, e_198_47, e_198_48, e_198_49, e_198_50, e_198_53, e_198_56, f_198_57, Option.bind_some, Option.toList_some, Option.toList_none, List.cons_append, List.nil_append, am_k1_i, am_k1_r, am_k1_u, am_k1_n, am_bo0, am_bo1, am_boi, am_ev_tb, am_tb_nil, am_rfs, am_rfn, eq_self, and_self, if_true, if_false, show ¬ (1 : Int32) = 0 from by decide, show ¬ (0 : Int32) = 1 from by decide, not_true, not_false_eq_true, and_true, true_and, and_false, false_and, or_true, true_or, or_false, false_or, cm_ob l0, ea, cm_ob (rp_l E Fa), eb2, q19, i43]
  · have i43 := m_isSign (d := D + 2) (c := 43) E F S.1
    rw [if_neg (fun q => by rw [e] at q; exact absurd q.2 (by decide))] at i43
    have i45 := m_isSign (d := D + 2) (c := 45) E F S.1
    rw [if_pos ⟨h3, e⟩] at i45
    rw [e_198_10]
    simp only [n_198, e_198_0, e_198_1, e_198_2, e_198_5, e_198_8, f_198_9, e_198_11, e_198_13, e_198_16, e_198_19, e_198_20, e_198_22, e_198_25, e_198_28, e_198_29, f_198_32, e_198_33, e_198_34, e_198_37, e_198_38, e_198_39, e_198_42, e_198_45, f_198_46, e_198_47, e_198_48, e_198_49, e_198_50, e_198_53, e_198_56, f_198_57, Option.bind_some, Option.toList_some, Option.toList_none, List.cons_append, List.nil_append, am_k1_i, am_k1_r, am_k1_u, am_k1_n, am_bo0, am_bo1, am_boi, am_ev_tb, am_tb_nil, am_rfs, am_rfn, eq_self, and_self, if_true, if_false, show ¬ (1 : Int32) = 0 from by decide, show ¬ (0 : Int32) = 1 from by decide, not_true, not_false_eq_true, and_true, true_and, and_false, false_and, or_true, true_or, or_false, false_or, cm_ob l0, ea, cm_ob (rp_l E Fa), eb2, q19, i43, i45]
theorem rp_goN2_3 (E : rp_E G h0 m T t W st ln key A) (hk : k < W) (hi : i < pl_m 3) (h3 : tk_kd T W st ln k = 3) (hs : tk_lv (T (st k)) = nI 3) (hk1 : k1 ≤ W) (hkk : k + 1 ≤ k1) (hs1 : s1.length ≤ k1 - (k + 1)) (H : rp_O G h0 m T W st ln key A 4 (k + 1) op nt k1 s1) (H2 : rp_LN G h0 m T W st ln key A 3 (i + 1) k1 op nt k2) : rp_LN G h0 m T W st ln key A 3 i k op nt k2 := by
  intro D h out x hD ho F S
  have h8 := pd_8 (l := 3) (op := op) (nt := nt)
  have h9 : pd_n 4 op nt + 1 + 1 ≤ pd_n 3 op nt := pd_1 (l := 3) (by omega)
  obtain ⟨D, rfl⟩ : ∃ D2, D = D2 + 3 := ⟨D - 3, by omega⟩
  have l0 := rp_l E F
  have q19 := S.1.2.2.2.1 h3
  obtain ⟨ha, ea, Fa, Sa⟩ := rp_next (d := D) E F hk (by omega) S
  obtain ⟨hb, eb, Fb, Sb⟩ := H (D + 2) ha out (by omega) (by omega) Fa Sa
  have eb2 : am_evm G (D + 2) 199 [.ref m, .int (nI key)] ha = some (some (.int 1), hb) := eb
  obtain ⟨hc, ec, Fc, Sc⟩ := rp_stepS (d := D + 2) (u := T (st k)) E Fb (by rw [List.length_append]; omega) Sb
  obtain ⟨hd, ed, Fd, Sd⟩ := H2 (D + 3) hc (out ++ s1 ++ [(2, T (st k))]) (some (.int (T (st k)))) hD (by rw [List.length_append, List.length_append]; show out.length + s1.length + 1 + (W - k1) ≤ 96; omega) Fc Sc
  have ed2 : am_ev G (D + 3) 198 10 [some (.ref m), some (.int (nI key)), some (.int (T (st k)))] [] hc = some (some (.int 0), hd) := ed
  refine ⟨hd, ?_, Fd, Sd⟩
  show am_ev G (D + 3) 198 10 [some (.ref m), some (.int (nI key)), x] [] h = _
  rcases tk_lv_3 hs with e | e
  · have i43 := m_isSign (d := D + 2) (c := 43) E F S.1
    rw [if_pos ⟨h3, e⟩] at i43
    rw [← ed2, e_198_10]
    simp only [n_198, e_198_0, e_198_1, e_198_2, e_198_5, e_198_8, f_198_9, e_198_11, e_198_13, e_198_16, e_198_19, e_198_20, e_198_22, e_198_25, e_198_28, e_198_29, f_198_32, e_198_33, e_198_34, e_198_37, e_198_38, e_198_39, e_198_42, e_198_45, f_198_46, e_198_47, e_198_48, e_198_49, e_198_50, e_198_53, e_198_56, f_198_57, Option.bind_some, Option.toList_some, Option.toList_none, List.cons_append, List.nil_append, am_k1_i, am_k1_r, am_k1_u, am_k1_n, am_bo0, am_bo1, am_boi, am_ev_tb, am_tb_nil, am_rfs, am_rfn, eq_self, and_self, if_true, if_false, show ¬ (1 : Int32) = 0 from by decide, show ¬ (0 : Int32) = 1 from by decide, not_true, not_false_eq_true, and_true, true_and, and_false, false_and, or_true, true_or, or_false, false_or, cm_ob l0, ea, cm_ob (rp_l E Fa), eb2, cm_ob (rp_l E Fb), ec, q19, i43]
  · have i43 := m_isSign (d := D + 2) (c := 43) E F S.1
    rw [if_neg (fun q => by rw [e] at q; exact absurd q.2 (by decide))] at i43
    have i45 := m_isSign (d := D + 2) (c := 45) E F S.1
    rw [if_pos ⟨h3, e⟩] at i45
    rw [← ed2, e_198_10]
    simp only [n_198, e_198_0, e_198_1, e_198_2, e_198_5, e_198_8, f_198_9, e_198_11, e_198_13, e_198_16, e_198_19, e_198_20, e_198_22, e_198_25, e_198_28, e_198_29, f_198_32, e_198_33, e_198_34, e_198_37, e_198_38, e_198_39, e_198_42, e_198_45, f_198_46, e_198_47, e_198_48, e_198_49, e_198_50, e_198_53, e_198_56, f_198_57, Option.bind_some, Option.toList_some, Option.toList_none, List.cons_append, List.nil_append, am_k1_i, am_k1_r, am_k1_u, am_k1_n, am_bo0, am_bo1, am_boi, am_ev_tb, am_tb_nil, am_rfs, am_rfn, eq_self, and_self, if_true, if_false, show ¬ (1 : Int32) = 0 from by decide, show ¬ (0 : Int32) = 1 from by decide, not_true, not_false_eq_true, and_true, true_and, and_false, false_and, or_true, true_or, or_false, false_or, cm_ob l0, ea, cm_ob (rp_l E Fa), eb2, cm_ob (rp_l E Fb), ec, q19, i43, i45]
theorem rp_okO_3 (E : rp_E G h0 m T t W st ln key A) (hkk : k ≤ k1) (hk1 : k1 ≤ W) (hs1 : s1.length ≤ k1 - k) (H : rp_O G h0 m T W st ln key A 4 k op nt k1 s1) (H2 : rp_LO G h0 m T W st ln key A 3 0 k1 op nt k2 s2) : rp_O G h0 m T W st ln key A 3 k op nt k2 (s1 ++ s2) := by
  intro D h out hD ho F S
  have h8 := pd_8 (l := 3) (op := op) (nt := nt)
  have h9 : pd_n 4 op nt + 1 + 1 ≤ pd_n 3 op nt := pd_1 (l := 3) (by omega)
  obtain ⟨D, rfl⟩ : ∃ D2, D = D2 + 1 := ⟨D - 1, by omega⟩
  have l0 := rp_l E F
  obtain ⟨hb, eb, Fb, Sb⟩ := H D h out (by omega) ho F S
  have eb2 : am_evm G D 199 [.ref m, .int (nI key)] h = some (some (.int 1), hb) := eb
  obtain ⟨hd, ed, Fd, Sd⟩ := H2 (D + 1) hb (out ++ s1) none hD (by rw [List.length_append]; omega) Fb Sb
  have ed2 : am_ev G (D + 1) 198 10 [some (.ref m), some (.int (nI key)), none] [] hb = some (some (.int 1), hd) := ed
  refine ⟨hd, ?_, Fd, by rw [← List.append_assoc]; exact Sd⟩
  show am_evm G (D + 1) 198 [.ref m, .int (nI key)] h = _
  rw [← ed2]
  simp only [n_198, e_198_0, e_198_1, e_198_2, e_198_5, e_198_8, f_198_9, e_198_11, e_198_13, e_198_16, e_198_19, e_198_20, e_198_22, e_198_25, e_198_28, e_198_29, f_198_32, e_198_33, e_198_34, e_198_37, e_198_38, e_198_39, e_198_42, e_198_45, f_198_46, e_198_47, e_198_48, e_198_49, e_198_50, e_198_53, e_198_56, f_198_57, Option.bind_some, Option.toList_some, Option.toList_none, List.cons_append, List.nil_append, am_k1_i, am_k1_r, am_k1_u, am_k1_n, am_bo0, am_bo1, am_boi, am_ev_tb, am_tb_nil, am_rfs, am_rfn, eq_self, and_self, if_true, if_false, show ¬ (1 : Int32) = 0 from by decide, show ¬ (0 : Int32) = 1 from by decide, not_true, not_false_eq_true, and_true, true_and, and_false, false_and, or_true, true_or, or_false, false_or, cm_ob l0, eb2]
theorem rp_okN1_3 (E : rp_E G h0 m T t W st ln key A) (H : rp_N G h0 m T W st ln key A 4 k op nt k2) : rp_N G h0 m T W st ln key A 3 k op nt k2 := by
  intro D h out hD ho F S
  have h8 := pd_8 (l := 3) (op := op) (nt := nt)
  have h9 : pd_n 4 op nt + 1 + 1 ≤ pd_n 3 op nt := pd_1 (l := 3) (by omega)
  obtain ⟨D, rfl⟩ : ∃ D2, D = D2 + 1 := ⟨D - 1, by omega⟩
  have l0 := rp_l E F
  obtain ⟨hb, eb, Fb, Xb⟩ := H D h out (by omega) ho F S
  have eb2 : am_evm G D 199 [.ref m, .int (nI key)] h = some (some (.int 0), hb) := eb
  refine ⟨hb, ?_, Fb, Xb⟩
  show am_evm G (D + 1) 198 [.ref m, .int (nI key)] h = _
  simp only [n_198, e_198_0, e_198_1, e_198_2, e_198_5, e_198_8, f_198_9, e_198_11, e_198_13, e_198_16, e_198_19, e_198_20, e_198_22, e_198_25, e_198_28, e_198_29, f_198_32, e_198_33, e_198_34, e_198_37, e_198_38, e_198_39, e_198_42, e_198_45, f_198_46, e_198_47, e_198_48, e_198_49, e_198_50, e_198_53, e_198_56, f_198_57, Option.bind_some, Option.toList_some, Option.toList_none, List.cons_append, List.nil_append, am_k1_i, am_k1_r, am_k1_u, am_k1_n, am_bo0, am_bo1, am_boi, am_ev_tb, am_tb_nil, am_rfs, am_rfn, eq_self, and_self, if_true, if_false, show ¬ (1 : Int32) = 0 from by decide, show ¬ (0 : Int32) = 1 from by decide, not_true, not_false_eq_true, and_true, true_and, and_false, false_and, or_true, true_or, or_false, false_or, cm_ob l0, eb2]
theorem rp_okN2_3 (E : rp_E G h0 m T t W st ln key A) (hkk : k ≤ k1) (hk1 : k1 ≤ W) (hs1 : s1.length ≤ k1 - k) (H : rp_O G h0 m T W st ln key A 4 k op nt k1 s1) (H2 : rp_LN G h0 m T W st ln key A 3 0 k1 op nt k2) : rp_N G h0 m T W st ln key A 3 k op nt k2 := by
  intro D h out hD ho F S
  have h8 := pd_8 (l := 3) (op := op) (nt := nt)
  have h9 : pd_n 4 op nt + 1 + 1 ≤ pd_n 3 op nt := pd_1 (l := 3) (by omega)
  obtain ⟨D, rfl⟩ : ∃ D2, D = D2 + 1 := ⟨D - 1, by omega⟩
  have l0 := rp_l E F
  obtain ⟨hb, eb, Fb, Sb⟩ := H D h out (by omega) ho F S
  have eb2 : am_evm G D 199 [.ref m, .int (nI key)] h = some (some (.int 1), hb) := eb
  obtain ⟨hd, ed, Fd, Sd⟩ := H2 (D + 1) hb (out ++ s1) none hD (by rw [List.length_append]; omega) Fb Sb
  have ed2 : am_ev G (D + 1) 198 10 [some (.ref m), some (.int (nI key)), none] [] hb = some (some (.int 0), hd) := ed
  refine ⟨hd, ?_, Fd, Sd⟩
  show am_evm G (D + 1) 198 [.ref m, .int (nI key)] h = _
  rw [← ed2]
  simp only [n_198, e_198_0, e_198_1, e_198_2, e_198_5, e_198_8, f_198_9, e_198_11, e_198_13, e_198_16, e_198_19, e_198_20, e_198_22, e_198_25, e_198_28, e_198_29, f_198_32, e_198_33, e_198_34, e_198_37, e_198_38, e_198_39, e_198_42, e_198_45, f_198_46, e_198_47, e_198_48, e_198_49, e_198_50, e_198_53, e_198_56, f_198_57, Option.bind_some, Option.toList_some, Option.toList_none, List.cons_append, List.nil_append, am_k1_i, am_k1_r, am_k1_u, am_k1_n, am_bo0, am_bo1, am_boi, am_ev_tb, am_tb_nil, am_rfs, am_rfn, eq_self, and_self, if_true, if_false, show ¬ (1 : Int32) = 0 from by decide, show ¬ (0 : Int32) = 1 from by decide, not_true, not_false_eq_true, and_true, true_and, and_false, false_and, or_true, true_or, or_false, false_or, cm_ob l0, eb2]
theorem tk_lv_4 {v : Int32} (h : tk_lv v = nI 4) : v = 42 ∨ v = 47 := by
  rcases tk_lv_in v with ⟨e, q⟩ | ⟨e, q⟩ | ⟨e, q⟩ | ⟨e, q⟩ | ⟨e, q⟩ | q
  · rw [q] at h; exact absurd h (by decide)
  · exact e
  · rw [q] at h; exact absurd h (by decide)
  · rw [q] at h; exact absurd h (by decide)
  · rw [q] at h; exact absurd h (by decide)
  · rw [q] at h; exact absurd h (by decide)
theorem rp_stop_4 (E : rp_E G h0 m T t W st ln key A) (hk : k ≤ W) (hs : ¬ tk_lv (tk_sg T W st ln k) = nI 4) : rp_LO G h0 m T W st ln key A 4 i k op nt k [] := by
  intro D h out x hD ho F S
  have h8 := pd_8 (l := 4) (op := op) (nt := nt)
  obtain ⟨D, rfl⟩ : ∃ D2, D = D2 + 3 := ⟨D - 3, by omega⟩
  have l0 := rp_l E F
  refine ⟨h, ?_, F, by rw [List.append_nil]; exact S⟩
  have hn : ∀ c, tk_lv c = nI 4 → ¬ (tk_kd T W st ln k = 3 ∧ T (st k) = c) := fun c hc z => hs (by unfold tk_sg; rw [if_pos z.1, z.2]; exact hc)
  show am_ev G (D + 3) 199 10 [some (.ref m), some (.int (nI key)), x] [] h = _
  have i42 := m_isSign (d := D + 2) (c := 42) E F S.1
  rw [if_neg (hn 42 (by decide))] at i42
  have i47 := m_isSign (d := D + 2) (c := 47) E F S.1
  rw [if_neg (hn 47 (by decide))] at i47
  rw [e_199_10]
  simp only [n_199, e_199_0, e_199_1, e_199_2, e_199_5, e_199_8, f_199_9, e_199_11, e_199_13, e_199_16, e_199_19, e_199_20, e_199_22, e_199_25, e_199_28, e_199_29, f_199_32, e_199_33, e_199_34, e_199_37, e_199_38, e_199_39, e_199_42, e_199_45, f_199_46, e_199_47, e_199_48, e_199_49, e_199_50, e_199_53, e_199_56, f_199_57, Option.bind_some, Option.toList_some, Option.toList_none, List.cons_append, List.nil_append, am_k1_i, am_k1_r, am_k1_u, am_k1_n, am_bo0, am_bo1, am_boi, am_ev_tb, am_tb_nil, am_rfs, am_rfn, eq_self, and_self, if_true, if_false, show ¬ (1 : Int32) = 0 from by decide, show ¬ (0 : Int32) = 1 from by decide, not_true, not_false_eq_true, and_true, true_and, and_false, false_and, or_true, true_or, or_false, false_or, cm_ob l0, i42, i47]
theorem rp_goO_4 (E : rp_E G h0 m T t W st ln key A) (hk : k < W) (hi : i < pl_m 4) (h3 : tk_kd T W st ln k = 3) (hs : tk_lv (T (st k)) = nI 4) (hk1 : k1 ≤ W) (hkk : k + 1 ≤ k1) (hs1 : s1.length ≤ k1 - (k + 1)) (H : rp_O G h0 m T W st ln key A 5 (k + 1) op nt k1 s1) (H2 : rp_LO G h0 m T W st ln key A 4 (i + 1) k1 op nt k2 s2) : rp_LO G h0 m T W st ln key A 4 i k op nt k2 (s1 ++ [(2, T (st k))] ++ s2) := by
  intro D h out x hD ho F S
  have h8 := pd_8 (l := 4) (op := op) (nt := nt)
  have h9 : pd_n 5 op nt + 1 + 1 ≤ pd_n 4 op nt := pd_1 (l := 4) (by omega)
  obtain ⟨D, rfl⟩ : ∃ D2, D = D2 + 3 := ⟨D - 3, by omega⟩
  have l0 := rp_l E F
  have q19 := S.1.2.2.2.1 h3
  obtain ⟨ha, ea, Fa, Sa⟩ := rp_next (d := D) E F hk (by omega) S
  obtain ⟨hb, eb, Fb, Sb⟩ := H (D + 2) ha out (by omega) (by omega) Fa Sa
  have eb2 : am_evm G (D + 2) 200 [.ref m, .int (nI key)] ha = some (some (.int 1), hb) := eb
  obtain ⟨hc, ec, Fc, Sc⟩ := rp_stepS (d := D + 2) (u := T (st k)) E Fb (by rw [List.length_append]; omega) Sb
  obtain ⟨hd, ed, Fd, Sd⟩ := H2 (D + 3) hc (out ++ s1 ++ [(2, T (st k))]) (some (.int (T (st k)))) hD (by rw [List.length_append, List.length_append]; show out.length + s1.length + 1 + (W - k1) ≤ 96; omega) Fc Sc
  have ed2 : am_ev G (D + 3) 199 10 [some (.ref m), some (.int (nI key)), some (.int (T (st k)))] [] hc = some (some (.int 1), hd) := ed
  refine ⟨hd, ?_, Fd, by rw [show out ++ (s1 ++ [(2, T (st k))] ++ s2) = out ++ s1 ++ [(2, T (st k))] ++ s2 from by simp only [List.append_assoc]]; exact Sd⟩
  show am_ev G (D + 3) 199 10 [some (.ref m), some (.int (nI key)), x] [] h = _
  rcases tk_lv_4 hs with e | e
  · have i42 := m_isSign (d := D + 2) (c := 42) E F S.1
    rw [if_pos ⟨h3, e⟩] at i42
    rw [← ed2, e_199_10]
    simp only [n_199, e_199_0, e_199_1, e_199_2, e_199_5, e_199_8, f_199_9, e_199_11, e_199_13, e_199_16, e_199_19, e_199_20, e_199_22, e_199_25, e_199_28, e_199_29, f_199_32, e_199_33, e_199_34, e_199_37, e_199_38, e_199_39, e_199_42, e_199_45, f_199_46, e_199_47, e_199_48, e_199_49, e_199_50, e_199_53, e_199_56, f_199_57, Option.bind_some, Option.toList_some, Option.toList_none, List.cons_append, List.nil_append, am_k1_i, am_k1_r, am_k1_u, am_k1_n, am_bo0, am_bo1, am_boi, am_ev_tb, am_tb_nil, am_rfs, am_rfn, eq_self, and_self, if_true, if_false, show ¬ (1 : Int32) = 0 from by decide, show ¬ (0 : Int32) = 1 from by decide, not_true, not_false_eq_true, and_true, true_and, and_false, false_and, or_true, true_or, or_false, false_or, cm_ob l0, ea, cm_ob (rp_l E Fa), eb2, cm_ob (rp_l E Fb), ec, q19, i42]
  · have i42 := m_isSign (d := D + 2) (c := 42) E F S.1
    rw [if_neg (fun q => by rw [e] at q; exact absurd q.2 (by decide))] at i42
    have i47 := m_isSign (d := D + 2) (c := 47) E F S.1
    rw [if_pos ⟨h3, e⟩] at i47
    rw [← ed2, e_199_10]
    simp only [n_199, e_199_0, e_199_1, e_199_2, e_199_5, e_199_8, f_199_9, e_199_11, e_199_13, e_199_16, e_199_19, e_199_20, e_199_22, e_199_25, e_199_28, e_199_29, f_199_32, e_199_33, e_199_34, e_199_37, e_199_38, e_199_39, e_199_42, e_199_45, f_199_46, e_199_47, e_199_48, e_199_49, e_199_50, e_199_53, e_199_56, f_199_57, Option.bind_some, Option.toList_some, Option.toList_none, List.cons_append, List.nil_append, am_k1_i, am_k1_r, am_k1_u, am_k1_n, am_bo0, am_bo1, am_boi, am_ev_tb, am_tb_nil, am_rfs, am_rfn, eq_self, and_self, if_true, if_false, show ¬ (1 : Int32) = 0 from by decide, show ¬ (0 : Int32) = 1 from by decide, not_true, not_false_eq_true, and_true, true_and, and_false, false_and, or_true, true_or, or_false, false_or, cm_ob l0, ea, cm_ob (rp_l E Fa), eb2, cm_ob (rp_l E Fb), ec, q19, i42, i47]
theorem rp_goN1_4 (E : rp_E G h0 m T t W st ln key A) (hk : k < W) (hi : i < pl_m 4) (h3 : tk_kd T W st ln k = 3) (hs : tk_lv (T (st k)) = nI 4) (H : rp_N G h0 m T W st ln key A 5 (k + 1) op nt k2) : rp_LN G h0 m T W st ln key A 4 i k op nt k2 := by
  intro D h out x hD ho F S
  have h8 := pd_8 (l := 4) (op := op) (nt := nt)
  have h9 : pd_n 5 op nt + 1 + 1 ≤ pd_n 4 op nt := pd_1 (l := 4) (by omega)
  obtain ⟨D, rfl⟩ : ∃ D2, D = D2 + 3 := ⟨D - 3, by omega⟩
  have l0 := rp_l E F
  have q19 := S.1.2.2.2.1 h3
  obtain ⟨ha, ea, Fa, Sa⟩ := rp_next (d := D) E F hk (by omega) S
  obtain ⟨hb, eb, Fb, Xb⟩ := H (D + 2) ha out (by omega) (by omega) Fa Sa
  have eb2 : am_evm G (D + 2) 200 [.ref m, .int (nI key)] ha = some (some (.int 0), hb) := eb
  refine ⟨hb, ?_, Fb, Xb⟩
  show am_ev G (D + 3) 199 10 [some (.ref m), some (.int (nI key)), x] [] h = _
  rcases tk_lv_4 hs with e | e
  · have i42 := m_isSign (d := D + 2) (c := 42) E F S.1
    rw [if_pos ⟨h3, e⟩] at i42
    rw [e_199_10]
    simp only [n_199, e_199_0, e_199_1, e_199_2, e_199_5, e_199_8, f_199_9, e_199_11, e_199_13, e_199_16, e_199_19, e_199_20, e_199_22, e_199_25, e_199_28, e_199_29, f_199_32, e_199_33, e_199_34, e_199_37, e_199_38, e_199_39, e_199_42, e_199_45, f_199_46, e_199_47, e_199_48, e_199_49, e_199_50, e_199_53, e_199_56, f_199_57, Option.bind_some, Option.toList_some, Option.toList_none, List.cons_append, List.nil_append, am_k1_i, am_k1_r, am_k1_u, am_k1_n, am_bo0, am_bo1, am_boi, am_ev_tb, am_tb_nil, am_rfs, am_rfn, eq_self, and_self, if_true, if_false, show ¬ (1 : Int32) = 0 from by decide, show ¬ (0 : Int32) = 1 from by decide, not_true, not_false_eq_true, and_true, true_and, and_false, false_and, or_true, true_or, or_false, false_or, cm_ob l0, ea, cm_ob (rp_l E Fa), eb2, q19, i42]
  · have i42 := m_isSign (d := D + 2) (c := 42) E F S.1
    rw [if_neg (fun q => by rw [e] at q; exact absurd q.2 (by decide))] at i42
    have i47 := m_isSign (d := D + 2) (c := 47) E F S.1
    rw [if_pos ⟨h3, e⟩] at i47
    rw [e_199_10]
    simp only [n_199, e_199_0, e_199_1, e_199_2, e_199_5, e_199_8, f_199_9, e_199_11, e_199_13, e_199_16, e_199_19, e_199_20, e_199_22, e_199_25, e_199_28, e_199_29, f_199_32, e_199_33, e_199_34, e_199_37, e_199_38, e_199_39, e_199_42, e_199_45, f_199_46, e_199_47, e_199_48, e_199_49, e_199_50, e_199_53, e_199_56, f_199_57, Option.bind_some, Option.toList_some, Option.toList_none, List.cons_append, List.nil_append, am_k1_i, am_k1_r, am_k1_u, am_k1_n, am_bo0, am_bo1, am_boi, am_ev_tb, am_tb_nil, am_rfs, am_rfn, eq_self, and_self, if_true, if_false, show ¬ (1 : Int32) = 0 from by decide, show ¬ (0 : Int32) = 1 from by decide, not_true, not_false_eq_true, and_true, true_and, and_false, false_and, or_true, true_or, or_false, false_or, cm_ob l0, ea, cm_ob (rp_l E Fa), eb2, q19, i42, i47]
theorem rp_goN2_4 (E : rp_E G h0 m T t W st ln key A) (hk : k < W) (hi : i < pl_m 4) (h3 : tk_kd T W st ln k = 3) (hs : tk_lv (T (st k)) = nI 4) (hk1 : k1 ≤ W) (hkk : k + 1 ≤ k1) (hs1 : s1.length ≤ k1 - (k + 1)) (H : rp_O G h0 m T W st ln key A 5 (k + 1) op nt k1 s1) (H2 : rp_LN G h0 m T W st ln key A 4 (i + 1) k1 op nt k2) : rp_LN G h0 m T W st ln key A 4 i k op nt k2 := by
  intro D h out x hD ho F S
  have h8 := pd_8 (l := 4) (op := op) (nt := nt)
  have h9 : pd_n 5 op nt + 1 + 1 ≤ pd_n 4 op nt := pd_1 (l := 4) (by omega)
  obtain ⟨D, rfl⟩ : ∃ D2, D = D2 + 3 := ⟨D - 3, by omega⟩
  have l0 := rp_l E F
  have q19 := S.1.2.2.2.1 h3
  obtain ⟨ha, ea, Fa, Sa⟩ := rp_next (d := D) E F hk (by omega) S
  obtain ⟨hb, eb, Fb, Sb⟩ := H (D + 2) ha out (by omega) (by omega) Fa Sa
  have eb2 : am_evm G (D + 2) 200 [.ref m, .int (nI key)] ha = some (some (.int 1), hb) := eb
  obtain ⟨hc, ec, Fc, Sc⟩ := rp_stepS (d := D + 2) (u := T (st k)) E Fb (by rw [List.length_append]; omega) Sb
  obtain ⟨hd, ed, Fd, Sd⟩ := H2 (D + 3) hc (out ++ s1 ++ [(2, T (st k))]) (some (.int (T (st k)))) hD (by rw [List.length_append, List.length_append]; show out.length + s1.length + 1 + (W - k1) ≤ 96; omega) Fc Sc
  have ed2 : am_ev G (D + 3) 199 10 [some (.ref m), some (.int (nI key)), some (.int (T (st k)))] [] hc = some (some (.int 0), hd) := ed
  refine ⟨hd, ?_, Fd, Sd⟩
  show am_ev G (D + 3) 199 10 [some (.ref m), some (.int (nI key)), x] [] h = _
  rcases tk_lv_4 hs with e | e
  · have i42 := m_isSign (d := D + 2) (c := 42) E F S.1
    rw [if_pos ⟨h3, e⟩] at i42
    rw [← ed2, e_199_10]
    simp only [n_199, e_199_0, e_199_1, e_199_2, e_199_5, e_199_8, f_199_9, e_199_11, e_199_13, e_199_16, e_199_19, e_199_20, e_199_22, e_199_25, e_199_28, e_199_29, f_199_32, e_199_33, e_199_34, e_199_37, e_199_38, e_199_39, e_199_42, e_199_45, f_199_46, e_199_47, e_199_48, e_199_49, e_199_50, e_199_53, e_199_56, f_199_57, Option.bind_some, Option.toList_some, Option.toList_none, List.cons_append, List.nil_append, am_k1_i, am_k1_r, am_k1_u, am_k1_n, am_bo0, am_bo1, am_boi, am_ev_tb, am_tb_nil, am_rfs, am_rfn, eq_self, and_self, if_true, if_false, show ¬ (1 : Int32) = 0 from by decide, show ¬ (0 : Int32) = 1 from by decide, not_true, not_false_eq_true, and_true, true_and, and_false, false_and, or_true, true_or, or_false, false_or, cm_ob l0, ea, cm_ob (rp_l E Fa), eb2, cm_ob (rp_l E Fb), ec, q19, i42]
  · have i42 := m_isSign (d := D + 2) (c := 42) E F S.1
    rw [if_neg (fun q => by rw [e] at q; exact absurd q.2 (by decide))] at i42
    have i47 := m_isSign (d := D + 2) (c := 47) E F S.1
    rw [if_pos ⟨h3, e⟩] at i47
    rw [← ed2, e_199_10]
    simp only [n_199, e_199_0, e_199_1, e_199_2, e_199_5, e_199_8, f_199_9, e_199_11, e_199_13, e_199_16, e_199_19, e_199_20, e_199_22, e_199_25, e_199_28, e_199_29, f_199_32, e_199_33, e_199_34, e_199_37, e_199_38, e_199_39, e_199_42, e_199_45, f_199_46, e_199_47, e_199_48, e_199_49, e_199_50, e_199_53, e_199_56, f_199_57, Option.bind_some, Option.toList_some, Option.toList_none, List.cons_append, List.nil_append, am_k1_i, am_k1_r, am_k1_u, am_k1_n, am_bo0, am_bo1, am_boi, am_ev_tb, am_tb_nil, am_rfs, am_rfn, eq_self, and_self, if_true, if_false, show ¬ (1 : Int32) = 0 from by decide, show ¬ (0 : Int32) = 1 from by decide, not_true, not_false_eq_true, and_true, true_and, and_false, false_and, or_true, true_or, or_false, false_or, cm_ob l0, ea, cm_ob (rp_l E Fa), eb2, cm_ob (rp_l E Fb), ec, q19, i42, i47]
theorem rp_okO_4 (E : rp_E G h0 m T t W st ln key A) (hkk : k ≤ k1) (hk1 : k1 ≤ W) (hs1 : s1.length ≤ k1 - k) (H : rp_O G h0 m T W st ln key A 5 k op nt k1 s1) (H2 : rp_LO G h0 m T W st ln key A 4 0 k1 op nt k2 s2) : rp_O G h0 m T W st ln key A 4 k op nt k2 (s1 ++ s2) := by
  intro D h out hD ho F S
  have h8 := pd_8 (l := 4) (op := op) (nt := nt)
  have h9 : pd_n 5 op nt + 1 + 1 ≤ pd_n 4 op nt := pd_1 (l := 4) (by omega)
  obtain ⟨D, rfl⟩ : ∃ D2, D = D2 + 1 := ⟨D - 1, by omega⟩
  have l0 := rp_l E F
  obtain ⟨hb, eb, Fb, Sb⟩ := H D h out (by omega) ho F S
  have eb2 : am_evm G D 200 [.ref m, .int (nI key)] h = some (some (.int 1), hb) := eb
  obtain ⟨hd, ed, Fd, Sd⟩ := H2 (D + 1) hb (out ++ s1) none hD (by rw [List.length_append]; omega) Fb Sb
  have ed2 : am_ev G (D + 1) 199 10 [some (.ref m), some (.int (nI key)), none] [] hb = some (some (.int 1), hd) := ed
  refine ⟨hd, ?_, Fd, by rw [← List.append_assoc]; exact Sd⟩
  show am_evm G (D + 1) 199 [.ref m, .int (nI key)] h = _
  rw [← ed2]
  simp only [n_199, e_199_0, e_199_1, e_199_2, e_199_5, e_199_8, f_199_9, e_199_11, e_199_13, e_199_16, e_199_19, e_199_20, e_199_22, e_199_25, e_199_28, e_199_29, f_199_32, e_199_33, e_199_34, e_199_37, e_199_38, e_199_39, e_199_42, e_199_45, f_199_46, e_199_47, e_199_48, e_199_49, e_199_50, e_199_53, e_199_56, f_199_57, Option.bind_some, Option.toList_some, Option.toList_none, List.cons_append, List.nil_append, am_k1_i, am_k1_r, am_k1_u, am_k1_n, am_bo0, am_bo1, am_boi, am_ev_tb, am_tb_nil, am_rfs, am_rfn, eq_self, and_self, if_true, if_false, show ¬ (1 : Int32) = 0 from by decide, show ¬ (0 : Int32) = 1 from by decide, not_true, not_false_eq_true, and_true, true_and, and_false, false_and, or_true, true_or, or_false, false_or, cm_ob l0, eb2]
theorem rp_okN1_4 (E : rp_E G h0 m T t W st ln key A) (H : rp_N G h0 m T W st ln key A 5 k op nt k2) : rp_N G h0 m T W st ln key A 4 k op nt k2 := by
  intro D h out hD ho F S
  have h8 := pd_8 (l := 4) (op := op) (nt := nt)
  have h9 : pd_n 5 op nt + 1 + 1 ≤ pd_n 4 op nt := pd_1 (l := 4) (by omega)
  obtain ⟨D, rfl⟩ : ∃ D2, D = D2 + 1 := ⟨D - 1, by omega⟩
  have l0 := rp_l E F
  obtain ⟨hb, eb, Fb, Xb⟩ := H D h out (by omega) ho F S
  have eb2 : am_evm G D 200 [.ref m, .int (nI key)] h = some (some (.int 0), hb) := eb
  refine ⟨hb, ?_, Fb, Xb⟩
  show am_evm G (D + 1) 199 [.ref m, .int (nI key)] h = _
  simp only [n_199, e_199_0, e_199_1, e_199_2, e_199_5, e_199_8, f_199_9, e_199_11, e_199_13, e_199_16, e_199_19, e_199_20, e_199_22, e_199_25, e_199_28, e_199_29, f_199_32, e_199_33, e_199_34, e_199_37, e_199_38, e_199_39, e_199_42, e_199_45, f_199_46, e_199_47, e_199_48, e_199_49, e_199_50, e_199_53, e_199_56, f_199_57, Option.bind_some, Option.toList_some, Option.toList_none, List.cons_append, List.nil_append, am_k1_i, am_k1_r, am_k1_u, am_k1_n, am_bo0, am_bo1, am_boi, am_ev_tb, am_tb_nil, am_rfs, am_rfn, eq_self, and_self, if_true, if_false, show ¬ (1 : Int32) = 0 from by decide, show ¬ (0 : Int32) = 1 from by decide, not_true, not_false_eq_true, and_true, true_and, and_false, false_and, or_true, true_or, or_false, false_or, cm_ob l0, eb2]
theorem rp_okN2_4 (E : rp_E G h0 m T t W st ln key A) (hkk : k ≤ k1) (hk1 : k1 ≤ W) (hs1 : s1.length ≤ k1 - k) (H : rp_O G h0 m T W st ln key A 5 k op nt k1 s1) (H2 : rp_LN G h0 m T W st ln key A 4 0 k1 op nt k2) : rp_N G h0 m T W st ln key A 4 k op nt k2 := by
  intro D h out hD ho F S
  have h8 := pd_8 (l := 4) (op := op) (nt := nt)
  have h9 : pd_n 5 op nt + 1 + 1 ≤ pd_n 4 op nt := pd_1 (l := 4) (by omega)
  obtain ⟨D, rfl⟩ : ∃ D2, D = D2 + 1 := ⟨D - 1, by omega⟩
  have l0 := rp_l E F
  obtain ⟨hb, eb, Fb, Sb⟩ := H D h out (by omega) ho F S
  have eb2 : am_evm G D 200 [.ref m, .int (nI key)] h = some (some (.int 1), hb) := eb
  obtain ⟨hd, ed, Fd, Sd⟩ := H2 (D + 1) hb (out ++ s1) none hD (by rw [List.length_append]; omega) Fb Sb
  have ed2 : am_ev G (D + 1) 199 10 [some (.ref m), some (.int (nI key)), none] [] hb = some (some (.int 0), hd) := ed
  refine ⟨hd, ?_, Fd, Sd⟩
  show am_evm G (D + 1) 199 [.ref m, .int (nI key)] h = _
  rw [← ed2]
  simp only [n_199, e_199_0, e_199_1, e_199_2, e_199_5, e_199_8, f_199_9, e_199_11, e_199_13, e_199_16, e_199_19, e_199_20, e_199_22, e_199_25, e_199_28, e_199_29, f_199_32, e_199_33, e_199_34, e_199_37, e_199_38, e_199_39, e_199_42, e_199_45, f_199_46, e_199_47, e_199_48, e_199_49, e_199_50, e_199_53, e_199_56, f_199_57, Option.bind_some, Option.toList_some, Option.toList_none, List.cons_append, List.nil_append, am_k1_i, am_k1_r, am_k1_u, am_k1_n, am_bo0, am_bo1, am_boi, am_ev_tb, am_tb_nil, am_rfs, am_rfn, eq_self, and_self, if_true, if_false, show ¬ (1 : Int32) = 0 from by decide, show ¬ (0 : Int32) = 1 from by decide, not_true, not_false_eq_true, and_true, true_and, and_false, false_and, or_true, true_or, or_false, false_or, cm_ob l0, eb2]
end RL
