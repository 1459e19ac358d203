/-! what is made at the beginning -/
section IN
variable {G : Nat → Nat} {d : Nat} {h h2 : am_H} {a b c k n s x : Nat} {v : Option Nat} {w : Int32}
theorem ob_nw (ho : am_ob G h b c) : am_ob G (am_new h k n s) b c := ⟨⟨ho.1.1, Nat.lt_succ_of_lt ho.1.2⟩, by rw [nw_sh (Nat.ne_of_lt ho.1.2)]; exact ho.2⟩
theorem ob_n0 (hG : G 0 ≤ am_top h) : am_ob G (am_new h k n s) (am_top h) k := ⟨⟨hG, Nat.lt_succ_self _⟩, by rw [nw_sh0]⟩
theorem ob_pr : am_ob G (am_pr h x k v) b c ↔ am_ob G h b c := Iff.rfl
theorem gl_nw (hG : G 0 ≤ am_top h) : G 0 ≤ am_top (am_new h k n s) := Nat.le_succ_of_le hG
theorem gl_pr : (G 0 ≤ am_top (am_pr h x k v)) ↔ G 0 ≤ am_top h := Iff.rfl
theorem gl_pi : (G 0 ≤ am_top (am_pi h x k w)) ↔ G 0 ≤ am_top h := Iff.rfl
theorem iw_nw {j : Int32} (hG : G 0 ≤ am_top h) (hj : ¬ (j < 0 ∨ n ≤ j.toNatClampNeg)) : am_iw G (am_new h 20 n s) (am_top h) j := ⟨⟨⟨hG, Nat.lt_succ_self _⟩, by rw [nw_sh0]⟩, by rw [nw_sh0]; exact hj⟩
theorem c_iP : am_evm G (d + 1) 36 [.ref a] h = some (none, h) := by simp only [n_36, e_36_0, e_36_1, e_36_4, Option.bind_some, Option.toList_some, Option.toList_none, List.cons_append, List.nil_append, am_k1_i, am_k1_r, am_k1_u, am_k1_n, am_bo0, am_bo1, am_boi, am_ev_tb, am_tb_nil, am_rfs, am_rfn, eq_self]
theorem c_iD : am_evm G (d + 1) 1 [.ref a] h = some (none, h) := by simp only [n_1, e_1_0, e_1_1, e_1_4, Option.bind_some, Option.toList_some, Option.toList_none, List.cons_append, List.nil_append, am_k1_i, am_k1_r, am_k1_u, am_k1_n, am_bo0, am_bo1, am_boi, am_ev_tb, am_tb_nil, am_rfs, am_rfn, eq_self]
theorem nn_24 : am_nn 24 := ⟨by decide, by decide⟩
theorem nn_96 : am_nn 96 := ⟨by decide, by decide⟩
theorem nn_97 : am_nn 97 := ⟨by decide, by decide⟩
theorem nn_12 : am_nn 12 := ⟨by decide, by decide⟩
theorem nn_8 : am_nn 8 := ⟨by decide, by decide⟩
theorem nn_14 : am_nn 14 := ⟨by decide, by decide⟩
theorem nn_3 : am_nn 3 := ⟨by decide, by decide⟩
theorem nn_4 : am_nn 4 := ⟨by decide, by decide⟩
theorem nn_5 : am_nn 5 := ⟨by decide, by decide⟩
theorem nn_60 : am_nn 60 := ⟨by decide, by decide⟩
theorem pr_ne {y : Nat} (hy : y ≠ x) : am_r (am_pr h x k v) y = am_r h y := (am_fq.pr (h := h) (x := x) (k := k) (v := v) (S := fun _ => False)).2.2.2.1 y hy
/-- a sheet -/
theorem c_iS (ho : am_ob G h a 4) (hG : G 0 ≤ am_top h) : ∃ h2, am_evm G (d + 1) 60 [.ref a] h = some (none, h2) ∧ (am_top h2 = am_top h + 1 ∧ am_sl h2 = am_sl h + 24) ∧ am_ex (fun b => b = a) h h2 ∧ am_r h2 a 0 = some (am_top h) ∧ am_sh h2 (am_top h) = (20, 24) ∧ am_i h2 a 1 = -1 ∧ am_i h2 a 2 = 0 ∧ ∀ j, am_i h2 (am_top h) j = 0 := by
  have hne : a ≠ am_top h := Nat.ne_of_lt ho.1.2
  refine ⟨am_pi (am_pi (am_pr (am_new h 20 24 24) a 0 (some (am_top h))) a 1 (-1)) a 2 0, ?_, ⟨rfl, rfl⟩, ?_, ?_, nw_sh0 (sl := 24), ?_, ?_, fun j => ?_⟩
  · simp only [n_60, e_60_0, e_60_1, e_60_4, e_60_5, f_60_7, e_60_9, e_60_12, e_60_13, e_60_14, e_60_17, e_60_18, e_60_19, e_60_22, Option.bind_some, Option.toList_some, Option.toList_none, List.cons_append, List.nil_append, am_k1_i, am_k1_r, am_k1_u, am_k1_n, am_bo0, am_bo1, am_boi, am_ev_tb, am_tb_nil, am_rfs, am_rfn, eq_self, and_self, if_true, if_false, show ¬ (1 : Int32) = 0 from by decide, show ¬ (0 : Int32) = 1 from by decide, not_true, not_false_eq_true, and_true, true_and, and_false, false_and, or_true, true_or, or_false, false_or, nn_24, show (24 : Int32).toNatClampNeg = 24 from rfl, ob_nw ho, ob_pr, am_ob_pi]
  · exact am_ex.new (X := fun b => b = a) |>.tr (am_ex.pr rfl) |>.tr (am_ex.pi rfl) |>.tr (am_ex.pi rfl)
  · show am_r (am_pr (am_new h 20 24 24) a 0 (some (am_top h))) a 0 = _
    rw [am_pr_r, if_pos rfl]
  · rw [am_pi_i, if_neg (by omega), am_pi_i, if_pos ⟨rfl, rfl⟩]
  · rw [am_pi_i, if_pos ⟨rfl, rfl⟩]
  · rw [am_pi_i, if_neg (fun z => hne z.1.symm), am_pi_i, if_neg (fun z => hne z.1.symm)]
    show am_i (am_new h 20 24 24) (am_top h) j = 0
    rw [nw_i0]
/-- a slot -/
theorem c_iL (ho : am_ob G h a 5) (hG : G 0 ≤ am_top h) : ∃ h2, am_evm G (d + 2) 65 [.ref a] h = some (none, h2) ∧ (am_top h2 = am_top h + 3 ∧ am_sl h2 = am_sl h + 33) ∧ am_ex (fun b => b = a) h h2 ∧ (am_r h2 a 0 = some (am_top h) ∧ am_r h2 a 1 = some (am_top h + 1) ∧ (am_sh h2 (am_top h)).1 = 2 ∧ (am_sh h2 (am_top h + 1)).1 = 4 ∧ am_r h2 (am_top h + 1) 0 = some (am_top h + 2) ∧ am_sh h2 (am_top h + 2) = (20, 24)) ∧ am_i h2 a 3 = 0 := by
  have hne : a < am_top h := ho.1.2
  let h1 := am_pr (am_new h 2 0 6) a 0 (some (am_top h))
  let h3 := am_new h1 4 0 3
  have hG1 : G 0 ≤ am_top h1 := Nat.le_succ_of_le hG
  have hG3 : G 0 ≤ am_top h3 := Nat.le_succ_of_le hG1
  have o3 : am_ob G h3 (am_top h1) 4 := ob_n0 (h := h1) (k := 4) (n := 0) (s := 3) hG1
  have oa1 : am_ob G h1 a 5 := ob_nw (k := 2) (n := 0) (s := 6) ho
  have oa3 : am_ob G h3 a 5 := ob_nw (k := 4) (n := 0) (s := 3) oa1
  obtain ⟨h4, e4, ⟨t4, s4⟩, x4, r4, sh4, -⟩ := c_iS (d := d) o3 hG3
  have t1 : am_top h1 = am_top h + 1 := rfl
  have t3 : am_top h3 = am_top h + 2 := rfl
  have oa4 : am_ob G h4 a 5 := ⟨⟨oa3.1.1, by omega⟩, by rw [x4.2.1 a (by omega)]; exact oa3.2⟩
  refine ⟨am_pi (am_pi (am_pr h4 a 1 (some (am_top h1))) a 2 0) a 3 0, ?_, ⟨?_, ?_⟩, ?_, ⟨?_, ?_, ?_, ?_, ?_, ?_⟩, ?_⟩
  · have e : am_evm G (d + 2) 65 [.ref a] h = am_ev G (d + 2) 65 19 [some (.ref a)] [.ref (am_top h1), .ref a] h3 := by
      simp only [n_65, e_65_0, e_65_1, e_65_4, e_65_5, e_65_8, e_65_9, e_65_12, e_65_15, e_65_16, e_65_20, e_65_23, e_65_26, e_65_27, e_65_28, e_65_31, e_65_32, e_65_33, e_65_36, Option.bind_some, Option.toList_some, Option.toList_none, List.cons_append, List.nil_append, am_k1_i, am_k1_r, am_k1_u, am_k1_n, am_bo0, am_bo1, am_boi, am_ev_tb, am_tb_nil, am_rfs, am_rfn, eq_self, and_self, if_true, if_false, show ¬ (1 : Int32) = 0 from by decide, show ¬ (0 : Int32) = 1 from by decide, not_true, not_false_eq_true, and_true, true_and, and_false, false_and, or_true, true_or, or_false, false_or, c_iP, ob_nw ho]
      rfl
    rw [e, e_65_19]
    simp only [n_65, e_65_0, e_65_1, e_65_4, e_65_5, e_65_8, e_65_9, e_65_12, e_65_15, e_65_16, e_65_20, e_65_23, e_65_26, e_65_27, e_65_28, e_65_31, e_65_32, e_65_33, e_65_36, Option.bind_some, Option.toList_some, Option.toList_none, List.cons_append, List.nil_append, am_k1_i, am_k1_r, am_k1_u, am_k1_n, am_bo0, am_bo1, am_boi, am_ev_tb, am_tb_nil, am_rfs, am_rfn, eq_self, and_self, if_true, if_false, show ¬ (1 : Int32) = 0 from by decide, show ¬ (0 : Int32) = 1 from by decide, not_true, not_false_eq_true, and_true, true_and, and_false, false_and, or_true, true_or, or_false, false_or, e4, oa4, ob_pr, am_ob_pi]
  · show am_top h4 = _; omega
  · show am_sl h4 = _
    rw [s4]
    show am_sl h + 6 + 3 + 24 = am_sl h + 33
    omega
  · have e1 : am_ex (fun b => b = a) h h3 := am_ex.new (X := fun b => b = a) |>.tr (am_ex.pr rfl) |>.tr am_ex.new
    have e2 : am_ex (fun b => b = a) h4 (am_pi (am_pi (am_pr h4 a 1 (some (am_top h1))) a 2 0) a 3 0) := am_ex.pr (X := fun b => b = a) rfl |>.tr (am_ex.pi rfl) |>.tr (am_ex.pi rfl)
    refine ⟨by have := e1.1; have := e2.1; omega, fun b hb => (e2.2.1 b (by omega)).trans ((x4.2.1 b (by omega)).trans (e1.2.1 b hb)), fun b hb hx => ?_⟩
    have z1 := e1.2.2 b hb hx
    have z2 := x4.2.2 b (by omega) (by show ¬ b = am_top h1; omega)
    have z3 := e2.2.2 b (by omega) hx
    exact ⟨z3.1.trans (z2.1.trans z1.1), z3.2.trans (z2.2.trans z1.2)⟩
  · show am_r (am_pr h4 a 1 (some (am_top h1))) a 0 = _
    rw [am_pr_r, if_neg (by decide), (x4.2.2 a (by omega) (by show ¬ a = am_top h1; omega)).2, show am_r h3 a = am_r h1 a from nw_r (by omega)]
    show am_r (am_pr (am_new h 2 0 6) a 0 (some (am_top h))) a 0 = _
    rw [am_pr_r, if_pos rfl]
  · show am_r (am_pr h4 a 1 (some (am_top h1))) a 1 = _
    rw [am_pr_r, if_pos rfl]
    rfl
  · show (am_sh h4 (am_top h)).1 = 2
    rw [x4.2.1 (am_top h) (by omega), show am_sh h3 (am_top h) = am_sh h1 (am_top h) from nw_sh (by omega)]
    show (am_sh (am_new h 2 0 6) (am_top h)).1 = 2
    rw [nw_sh0]
  · show (am_sh h4 (am_top h + 1)).1 = 4
    rw [x4.2.1 (am_top h + 1) (by omega)]
    exact o3.2
  · show am_r (am_pr h4 a 1 (some (am_top h1))) (am_top h + 1) 0 = _
    rw [pr_ne (by omega)]
    exact r4
  · show am_sh h4 (am_top h + 2) = _
    exact sh4
  · rw [am_pi_i, if_pos ⟨rfl, rfl⟩]
/-- a tape -/
theorem c_iT (ho : am_ob G h a 6) (hG : G 0 ≤ am_top h) : ∃ h2, am_evm G (d + 1) 67 [.ref a] h = some (none, h2) ∧ (am_top h2 = am_top h + 1 ∧ am_sl h2 = am_sl h + 96) ∧ am_ex (fun b => b = a) h h2 ∧ am_r h2 a 0 = some (am_top h) ∧ am_sh h2 (am_top h) = (21, 96) ∧ am_i h2 a 1 = 0 := by
  refine ⟨am_pi (am_pr (am_new h 21 96 96) a 0 (some (am_top h))) a 1 0, ?_, ⟨rfl, rfl⟩, ?_, ?_, nw_sh0 (sl := 96), ?_⟩
  · simp only [n_67, e_67_0, e_67_1, e_67_4, e_67_5, f_67_7, e_67_9, e_67_12, e_67_13, e_67_14, e_67_17, Option.bind_some, Option.toList_some, Option.toList_none, List.cons_append, List.nil_append, am_k1_i, am_k1_r, am_k1_u, am_k1_n, am_bo0, am_bo1, am_boi, am_ev_tb, am_tb_nil, am_rfs, am_rfn, eq_self, and_self, if_true, if_false, show ¬ (1 : Int32) = 0 from by decide, show ¬ (0 : Int32) = 1 from by decide, not_true, not_false_eq_true, and_true, true_and, and_false, false_and, or_true, true_or, or_false, false_or, nn_96, show (96 : Int32).toNatClampNeg = 96 from rfl, ob_nw ho, ob_pr, am_ob_pi]
  · exact am_ex.new (X := fun b => b = a) |>.tr (am_ex.pr rfl) |>.tr (am_ex.pi rfl)
  · show am_r (am_pr (am_new h 21 96 96) a 0 (some (am_top h))) a 0 = _
    rw [am_pr_r, if_pos rfl]
  · rw [am_pi_i, if_pos ⟨rfl, rfl⟩]
/-- a reader, its tape made -/
theorem c_iR2 (ho : am_ob G h a 3) : ∃ h2, am_ev G d 41 15 [some (.ref a)] [] h = some (none, h2) ∧ (am_top h2 = am_top h + 4 ∧ am_sl h2 = am_sl h + 387) ∧ am_ex (fun b => b = a) h h2 ∧ (am_r h2 a 0 = am_r h a 0 ∧ am_r h2 a 1 = some (am_top h) ∧ am_r h2 a 2 = some (am_top h + 1) ∧ am_r h2 a 3 = some (am_top h + 2) ∧ am_r h2 a 4 = some (am_top h + 3)) ∧ am_sh h2 (am_top h) = (20, 97) ∧ am_sh h2 (am_top h + 1) = (20, 97) ∧ am_sh h2 (am_top h + 2) = (20, 97) ∧ am_sh h2 (am_top h + 3) = (20, 96) := by
  have hne : a < am_top h := ho.1.2
  let h1 := am_pr (am_new h 20 97 97) a 1 (some (am_top h))
  let h3 := am_pr (am_new h1 20 97 97) a 2 (some (am_top h + 1))
  let h4 := am_pr (am_new h3 20 97 97) a 3 (some (am_top h + 2))
  let h5 := am_pr (am_new h4 20 96 96) a 4 (some (am_top h + 3))
  let h6 := am_pi (am_pi (am_pi (am_pi (am_pi (am_pi h5 a 5 0) a 6 0) a 7 0) a 8 0) a 9 (-1000000005)) a 10 (-1000000005)
  refine ⟨h6, ?_, ⟨rfl, ?_⟩, ?_, ⟨?_, ?_, ?_, ?_, ?_⟩, ?_, ?_, ?_, ?_⟩
  · simp (maxDischargeDepth := 20) only [e_41_15, e_41_16, f_41_18, e_41_20, e_41_23, e_41_24, f_41_26, e_41_28, e_41_31, e_41_32, f_41_34, e_41_36, e_41_39, e_41_40, f_41_42, e_41_44, e_41_47, e_41_48, e_41_49, e_41_52, e_41_53, e_41_54, e_41_57, e_41_58, e_41_59, e_41_62, e_41_63, e_41_64, e_41_67, e_41_68, e_41_70, e_41_73, e_41_74, e_41_76, e_41_79, Option.bind_some, Option.toList_some, Option.toList_none, List.cons_append, List.nil_append, am_k1_i, am_k1_r, am_k1_u, am_k1_n, am_bo0, am_bo1, am_boi, am_ev_tb, am_tb_nil, am_rfs, am_rfn, eq_self, and_self, if_true, if_false, show ¬ (1 : Int32) = 0 from by decide, show ¬ (0 : Int32) = 1 from by decide, not_true, not_false_eq_true, and_true, true_and, and_false, false_and, or_true, true_or, or_false, false_or, nn_97, nn_96, show (97 : Int32).toNatClampNeg = 97 from rfl, show (96 : Int32).toNatClampNeg = 96 from rfl, ho, ob_nw, ob_pr, am_ob_pi]
    rfl
  · show am_sl h + 97 + 97 + 97 + 96 = _; omega
  · exact am_ex.new (X := fun b => b = a) |>.tr (am_ex.pr rfl) |>.tr am_ex.new |>.tr (am_ex.pr rfl) |>.tr am_ex.new |>.tr (am_ex.pr rfl) |>.tr am_ex.new |>.tr (am_ex.pr rfl) |>.tr (am_ex.pi rfl) |>.tr (am_ex.pi rfl) |>.tr (am_ex.pi rfl) |>.tr (am_ex.pi rfl) |>.tr (am_ex.pi rfl) |>.tr (am_ex.pi rfl)
  · show am_r (am_pr (am_new h4 20 96 96) a 4 (some (am_top h + 3))) a 0 = _
    rw [am_pr_r, if_neg (by decide), nw_r (by show a ≠ am_top h + 3; omega)]
    show am_r (am_pr (am_new h3 20 97 97) a 3 (some (am_top h + 2))) a 0 = _
    rw [am_pr_r, if_neg (by decide), nw_r (by show a ≠ am_top h + 2; omega)]
    show am_r (am_pr (am_new h1 20 97 97) a 2 (some (am_top h + 1))) a 0 = _
    rw [am_pr_r, if_neg (by decide), nw_r (by show a ≠ am_top h + 1; omega)]
    show am_r (am_pr (am_new h 20 97 97) a 1 (some (am_top h))) a 0 = _
    rw [am_pr_r, if_neg (by decide), nw_r (by omega)]
  · show am_r (am_pr (am_new h4 20 96 96) a 4 (some (am_top h + 3))) a 1 = _
    rw [am_pr_r, if_neg (by decide), nw_r (by show a ≠ am_top h + 3; omega)]
    show am_r (am_pr (am_new h3 20 97 97) a 3 (some (am_top h + 2))) a 1 = _
    rw [am_pr_r, if_neg (by decide), nw_r (by show a ≠ am_top h + 2; omega)]
    show am_r (am_pr (am_new h1 20 97 97) a 2 (some (am_top h + 1))) a 1 = _
    rw [am_pr_r, if_neg (by decide), nw_r (by show a ≠ am_top h + 1; omega)]
    show am_r (am_pr (am_new h 20 97 97) a 1 (some (am_top h))) a 1 = _
    rw [am_pr_r, if_pos rfl]
  · show am_r (am_pr (am_new h4 20 96 96) a 4 (some (am_top h + 3))) a 2 = _
    rw [am_pr_r, if_neg (by decide), nw_r (by show a ≠ am_top h + 3; omega)]
    show am_r (am_pr (am_new h3 20 97 97) a 3 (some (am_top h + 2))) a 2 = _
    rw [am_pr_r, if_neg (by decide), nw_r (by show a ≠ am_top h + 2; omega)]
    show am_r (am_pr (am_new h1 20 97 97) a 2 (some (am_top h + 1))) a 2 = _
    rw [am_pr_r, if_pos rfl]
  · show am_r (am_pr (am_new h4 20 96 96) a 4 (some (am_top h + 3))) a 3 = _
    rw [am_pr_r, if_neg (by decide), nw_r (by show a ≠ am_top h + 3; omega)]
    show am_r (am_pr (am_new h3 20 97 97) a 3 (some (am_top h + 2))) a 3 = _
    rw [am_pr_r, if_pos rfl]
  · show am_r (am_pr (am_new h4 20 96 96) a 4 (some (am_top h + 3))) a 4 = _
    rw [am_pr_r, if_pos rfl]
  · show am_sh (am_new h4 20 96 96) (am_top h) = _
    rw [nw_sh (by show am_top h ≠ am_top h + 3; omega)]
    show am_sh (am_new h3 20 97 97) (am_top h) = _
    rw [nw_sh (by show am_top h ≠ am_top h + 2; omega)]
    show am_sh (am_new h1 20 97 97) (am_top h) = _
    rw [nw_sh (by show am_top h ≠ am_top h + 1; omega)]
    exact nw_sh0 (sl := 97)
  · show am_sh (am_new h4 20 96 96) (am_top h + 1) = _
    rw [nw_sh (by show am_top h + 1 ≠ am_top h + 3; omega)]
    show am_sh (am_new h3 20 97 97) (am_top h + 1) = _
    rw [nw_sh (by show am_top h + 1 ≠ am_top h + 2; omega)]
    exact nw_sh0 (h := h1) (sl := 97)
  · show am_sh (am_new h4 20 96 96) (am_top h + 2) = _
    rw [nw_sh (by show am_top h + 2 ≠ am_top h + 3; omega)]
    exact nw_sh0 (h := h3) (sl := 97)
  · exact nw_sh0 (h := h4) (sl := 96)
end IN
