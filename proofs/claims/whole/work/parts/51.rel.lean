/-! the class's hall beside the reference's row -/
/-- a step of the class's code beside one of the reference's -/
def mt_cs (key : Nat) (x w v : Int32) : Prop := (w = 0 ∧ x = v) ∨ (w = 1 ∧ ∃ i, i < 3 ∧ v = nI (mt_nc key i) ∧ x = nI (10000 + i)) ∨ (w = 2 ∧ x = 20000 + v)
def cl_T1 (G : Nat → Nat) (h : am_H) (b : Nat) (σ : Nat → Int32) (t : Nat) : Prop := ∃ c key L, (G 0 + 136 ≤ b ∧ b < am_top h ∧ (am_sh h b).1 = 7) ∧ (am_i h b 0 = σ (114 + 200 * t) ∧ am_i h b 1 = σ (114 + 200 * t + 1) ∧ am_r h b 2 = some c) ∧ (G 0 + 136 ≤ c ∧ c < am_top h ∧ am_sh h c = (20, L)) ∧ mt_txt σ t key L ∧ ∀ k, k < L → mt_cs key (am_i h c k) (mt_w σ t k) (mt_v σ t k)
def cl_R (G : Nat → Nat) (h : am_H) (a : Nat) (σ : Nat → Int32) (n nd nt : Nat) : Prop := cl_Hall G h a ∧ (am_i h a 5 = σ 0 ∧ am_i h a 6 = σ 1 ∧ am_i h a 7 = σ 2 ∧ am_i h a 8 = σ 3 ∧ am_i h a 9 = σ 4) ∧ (∀ p, p < n → (∀ j, j < 5 → am_i h (a + 6 + p) j = σ (6 + 5 * p + j)) ∧ am_i h (a + 6 + p) 5 = mt_fol (mt_T σ) n p) ∧ (∀ q, q < nd → ∀ j, j < 6 → am_i h (a + 18 + q) j = σ (66 + 6 * q + j)) ∧ (∀ t, t < nt → ∃ b, am_r h (a + 3) t = some b ∧ cl_T1 G h b σ t) ∧ ∀ k, k < 3 → am_i h (a + 4) k = mt_nn (mt_last σ (nI k) nt)
theorem cl_T1.fr {G : Nat → Nat} {h h2 : am_H} {b t : Nat} {σ : Nat → Int32} {S : Nat → Prop} (x : cl_T1 G h b σ t) (f : am_fr S h h2) (hS : ∀ b, S b → b < G 0 + 136) : cl_T1 G h2 b σ t := by
  obtain ⟨c, key, L, ⟨h1, h2', h3⟩, ⟨h4, h5, h6⟩, ⟨h7, h8, h9⟩, hx, hk⟩ := x
  have ib : am_i h2 b = am_i h b := f.i1 (fun z => by have := hS b z; omega)
  have ic : am_i h2 c = am_i h c := f.i1 (fun z => by have := hS c z; omega)
  refine ⟨c, key, L, ⟨h1, by rw [f.1]; exact h2', by rw [f.2.2.1]; exact h3⟩, ⟨by rw [ib]; exact h4, by rw [ib]; exact h5, by rw [f.2.2.2.1]; exact h6⟩, ⟨h7, by rw [f.1]; exact h8, by rw [f.2.2.1]; exact h9⟩, hx, fun k hk2 => by rw [ic]; exact hk k hk2⟩
/-- what may change beside a hall: other cells below the texts, and its stack -/
def cl_off (G : Nat → Nat) (a : Nat) (S : Nat → Prop) : Prop := ∀ b, S b → b < G 0 + 136 ∧ (b < a ∨ b = a + 5 ∨ a + 25 < b)
theorem cl_R.fr {G : Nat → Nat} {h h2 : am_H} {a n nd nt : Nat} {σ : Nat → Int32} {S : Nat → Prop} (r : cl_R G h a σ n nd nt) (hn : n ≤ 12) (hd : nd ≤ 8) (f : am_fr S h h2) (hS : cl_off G a S) : cl_R G h2 a σ n nd nt := by
  obtain ⟨l, hc, hp, hq, ht, hk⟩ := r
  have e : ∀ k, k ≤ 25 → k ≠ 5 → am_i h2 (a + k) = am_i h (a + k) := fun k h1 h2 => f.i1 (fun z => by have := (hS _ z).2; omega)
  have e0 : am_i h2 a = am_i h a := e 0 (by omega) (by omega)
  refine ⟨l.fr f, by rw [e0]; exact hc, fun p hp2 => ?_, fun q hq2 j hj => ?_, fun t ht2 => ?_, fun k hk2 => ?_⟩
  · rw [show a + 6 + p = a + (6 + p) by omega, e (6 + p) (by omega) (by omega), ← Nat.add_assoc]
    exact hp p hp2
  · rw [show a + 18 + q = a + (18 + q) by omega, e (18 + q) (by omega) (by omega), ← Nat.add_assoc]
    exact hq q hq2 j hj
  · obtain ⟨b, h1, h3⟩ := ht t ht2
    exact ⟨b, by rw [f.2.2.2.1]; exact h1, h3.fr f (fun b hb => (hS b hb).1)⟩
  · rw [e 4 (by omega) (by omega)]
    exact hk k hk2
def mt_bcf (x : Int32) : Int32 := let a := x - ((x.toUInt32 >>> ((1 : Int32).toUInt32 &&& Int32.toUInt32 31)).toInt32 &&& 1431655765); let b := (a &&& 858993459) + ((a.toUInt32 >>> ((2 : Int32).toUInt32 &&& Int32.toUInt32 31)).toInt32 &&& 858993459); let c := b + (b.toUInt32 >>> ((4 : Int32).toUInt32 &&& Int32.toUInt32 31)).toInt32 &&& 252645135; let e := c + (c.toUInt32 >>> ((8 : Int32).toUInt32 &&& Int32.toUInt32 31)).toInt32; let f := e + (e.toUInt32 >>> ((16 : Int32).toUInt32 &&& Int32.toUInt32 31)).toInt32; f &&& 63
theorem mt_bc2 : ∀ i, i < 64 → ∀ j, j < 64 → mt_bcf (nI (64 * i + j)) = mt_ones (nI (64 * i + j)) := by decide +kernel
theorem mt_bc : ∀ k, k < 4096 → mt_bcf (nI k) = mt_ones (nI k) := by
  intro k hk
  have := mt_bc2 (k / 64) (by omega) (k % 64) (by omega)
  rw [show 64 * (k / 64) + k % 64 = k by omega] at this
  exact this
section CR
variable {G : Nat → Nat} {d : Nat} {h : am_H} {a : Nat} {σ : Nat → Int32} {n nd nt : Nat}
theorem c_bitCount {x : Int32} (hx : ∀ i, 12 ≤ i → i < 32 → bt x i = false) : am_evm G d 226 [.int x] h = some (some (.int (mt_ones x)), h) := by
  obtain ⟨k, hk, rfl⟩ := mt_small (n := 12) (by omega) hx
  rw [← mt_bc k hk]
  simp only [n_226, e_226_0, e_226_1, e_226_2, e_226_3, e_226_4, e_226_7, e_226_8, f_226_9, e_226_10, e_226_11, e_226_14, e_226_15, e_226_16, e_226_17, e_226_18, e_226_21, e_226_22, f_226_23, e_226_24, e_226_25, e_226_26, e_226_27, e_226_28, e_226_29, e_226_32, f_226_33, e_226_34, e_226_35, e_226_36, e_226_38, e_226_39, f_226_40, e_226_41, e_226_42, e_226_43, e_226_45, e_226_46, f_226_47, e_226_48, e_226_49, e_226_51, e_226_52, Option.bind_some, Option.toList_some, Option.toList_none, List.cons_append, List.nil_append, am_k1_i, am_k1_r, am_k1_u, am_k1_n, am_bo0, am_bo1, am_boi, am_ev_tb, am_tb_nil, am_rfs, am_rfn, eq_self]
  rfl
theorem c_bitCountN {c : Nat} {x y : Int32} (hc : c ≤ 12) : am_evm G d 226 [.int (mt_every (nI c) &&& x)] h = some (some (.int (mt_ones (mt_every (nI c) &&& x))), h) := c_bitCount (fun i h1 h2 => by rw [b_and, mt_every_bt c hc i h2, decide_eq_false (by omega), Bool.false_and])
theorem mt_left12 (hn : σ 0 = nI n) (hn12 : n ≤ 12) {p : Nat} : ∀ i, n ≤ i → i < 32 → bt (mt_left σ p) i = false := fun i h1 h2 => by
  unfold mt_left
  rw [b_and, hn, mt_every_bt n hn12 i h2, decide_eq_false (by omega), Bool.false_and]
theorem cr_p (r : cl_R G h a σ n nd nt) {p j : Nat} (hp : p < n) (hj : j < 5) : am_i h (a + 6 + p) j = σ (6 + 5 * p + j) := (r.2.2.1 p hp).1 j hj
theorem cr_f (r : cl_R G h a σ n nd nt) {p : Nat} (hp : p < n) : am_i h (a + 6 + p) 5 = mt_fol (mt_T σ) n p := (r.2.2.1 p hp).2
theorem cr_d (r : cl_R G h a σ n nd nt) {q j : Nat} (hq : q < nd) (hj : j < 6) : am_i h (a + 18 + q) j = σ (66 + 6 * q + j) := r.2.2.2.1 q hq j hj
theorem c_everyone3 (r : cl_R G h a σ n nd nt) : am_evm G d 11 [.ref a] h = some (some (.int (mt_every (σ 0))), h) := by rw [c_everyone r.1, r.2.1.1]
theorem c_leftOn3 (r : cl_R G h a σ n nd nt) (hd : nd ≤ 8) {p : Nat} (hp : p < nd) : am_evm G (d + 1) 19 [.ref a, .ref (a + 18 + p)] h = some (some (.int (mt_left σ p)), h) := by
  rw [c_leftOn r.1 (by omega), r.2.1.1, cr_d r hp (by omega)]
  rfl
theorem c_goersBy3 (r : cl_R G h a σ n nd nt) (hn : n ≤ 12) {p : Nat} (hp : p < n) : am_evm G (d + 1) 18 [.ref a, .int (nI p)] h = some (some (.int (mt_go σ n p)), h) := by
  rw [c_goersBy r.1 (by omega), cr_f r hp]
  rfl
theorem c_leftCount (r : cl_R G h a σ n nd nt) (hs : mt_wf σ n nd nt) {p : Nat} (hp : p < nd) : am_evm G (d + 2) 20 [.ref a, .ref (a + 18 + p)] h = some (some (.int (mt_ones (mt_left σ p))), h) := by
  have hb : ∀ i, 12 ≤ i → i < 32 → bt (mt_left σ p) i = false := fun i h1 h2 => mt_left12 hs.1.1.1 hs.1.1.2 i (by have := hs.1.1.2; omega) h2
  simp only [n_20, e_20_0, e_20_1, e_20_2, e_20_5, e_20_8, Option.bind_some, Option.toList_some, Option.toList_none, List.cons_append, List.nil_append, am_k1_i, am_k1_r, am_k1_u, am_k1_n, am_bo0, am_bo1, am_boi, am_ev_tb, am_tb_nil, am_rfs, am_rfn, eq_self, ha_ob r.1, c_leftOn3 r hs.1.2.1.2 hp, c_bitCount hb]
theorem c_deedsWithout_l (r : cl_R G h a σ n nd nt) (hs : mt_wf σ n nd nt) {p : Nat} (hp : p < 12) : ∀ j q, q + j = nd → am_ev G (d + 1) 21 4 [some (.ref a), some (.int (nI p)), some (.int (mt_gone σ p q)), some (.int (nI q))] [] h = some (some (.int (mt_gone σ p nd)), h) := by
  have hd := hs.1.2.1.2
  intro j
  induction j with
  | zero =>
    intro q hq
    obtain rfl : q = nd := by omega
    rw [e_21_4]
    simp only [n_21, e_21_0, f_21_1, e_21_2, f_21_3, e_21_5, e_21_6, e_21_9, e_21_12, e_21_13, e_21_14, e_21_17, e_21_18, e_21_19, e_21_22, e_21_23, e_21_26, f_21_27, f_21_28, e_21_31, e_21_34, e_21_35, Option.bind_some, Option.toList_some, Option.toList_none, List.cons_append, List.nil_append, am_k1_i, am_k1_r, am_k1_u, am_k1_n, am_bo0, am_bo1, am_boi, am_ev_tb, am_tb_nil, am_rfs, am_rfn, eq_self, and_self, if_true, if_false, show ¬ (1 : Int32) = 0 from by decide, show ¬ (0 : Int32) = 1 from by decide, not_true, not_false_eq_true, and_true, true_and, and_false, false_and, or_true, true_or, or_false, false_or, ha_ob r.1, r.2.1.2.1, hs.1.2.1.1, Int32.le_refl]
  | succ j ih =>
    intro q hq
    have hlt : ¬ nI nd ≤ nI q := nI_ge (by omega) (by omega)
    rw [e_21_4]
    simp only [n_21, e_21_0, f_21_1, e_21_2, f_21_3, e_21_5, e_21_6, e_21_9, e_21_12, e_21_13, e_21_14, e_21_17, e_21_18, e_21_19, e_21_22, e_21_23, e_21_26, f_21_27, f_21_28, e_21_31, e_21_34, e_21_35, Option.bind_some, Option.toList_some, Option.toList_none, List.cons_append, List.nil_append, am_k1_i, am_k1_r, am_k1_u, am_k1_n, am_bo0, am_bo1, am_boi, am_ev_tb, am_tb_nil, am_rfs, am_rfn, eq_self, and_self, if_true, if_false, show ¬ (1 : Int32) = 0 from by decide, show ¬ (0 : Int32) = 1 from by decide, not_true, not_false_eq_true, and_true, true_and, and_false, false_and, or_true, true_or, or_false, false_or, ha_ob r.1, r.2.1.2.1, hs.1.2.1.1, hlt, ha_r1 r.1, ha_d1 r.1 (show q < 8 by omega), am_cl (show q < 2147483648 by omega), ha_d2 r.1 (show q < 8 by omega), ha_d3 r.1 (show q < 8 by omega), cr_d r (show q < nd by omega) (show 3 < 6 by omega), c_bitAt (show p < 32 by omega), nI_1]
    exact ih (q + 1) (by omega)
theorem c_deedsWithout (r : cl_R G h a σ n nd nt) (hs : mt_wf σ n nd nt) {p : Nat} (hp : p < 12) : am_evm G (d + 1) 21 [.ref a, .int (nI p)] h = some (some (.int (mt_gone σ p nd)), h) := by
  simp only [n_21, e_21_0, f_21_1, e_21_2, f_21_3, e_21_5, e_21_6, e_21_9, e_21_12, e_21_13, e_21_14, e_21_17, e_21_18, e_21_19, e_21_22, e_21_23, e_21_26, f_21_27, f_21_28, e_21_31, e_21_34, e_21_35, Option.bind_some, Option.toList_some, Option.toList_none, List.cons_append, List.nil_append, am_k1_i, am_k1_r, am_k1_u, am_k1_n, am_bo0, am_bo1, am_boi, am_ev_tb, am_tb_nil, am_rfs, am_rfn, eq_self]
  exact c_deedsWithout_l r hs hp nd 0 (by omega)
theorem c_sayingsOfAll_l (r : cl_R G h a σ n nd nt) (hs : mt_wf σ n nd nt) : ∀ j q, q + j = nd → am_ev G d 22 4 [some (.ref a), some (.int (mt_sum σ 4 q)), some (.int (nI q))] [] h = some (some (.int (mt_sum σ 4 nd)), h) := by
  have hd := hs.1.2.1.2
  intro j
  induction j with
  | zero =>
    intro q hq
    obtain rfl : q = nd := by omega
    rw [e_22_4]
    simp only [n_22, e_22_0, f_22_1, e_22_2, f_22_3, e_22_5, e_22_6, e_22_9, e_22_12, e_22_13, e_22_14, e_22_17, e_22_18, e_22_19, e_22_22, f_22_23, f_22_24, e_22_27, e_22_30, e_22_31, Option.bind_some, Option.toList_some, Option.toList_none, List.cons_append, List.nil_append, am_k1_i, am_k1_r, am_k1_u, am_k1_n, am_bo0, am_bo1, am_boi, am_ev_tb, am_tb_nil, am_rfs, am_rfn, eq_self, and_self, if_true, if_false, show ¬ (1 : Int32) = 0 from by decide, show ¬ (0 : Int32) = 1 from by decide, not_true, not_false_eq_true, and_true, true_and, and_false, false_and, or_true, true_or, or_false, false_or, ha_ob r.1, r.2.1.2.1, hs.1.2.1.1, Int32.le_refl]
  | succ j ih =>
    intro q hq
    have hlt : ¬ nI nd ≤ nI q := nI_ge (by omega) (by omega)
    rw [e_22_4]
    simp only [n_22, e_22_0, f_22_1, e_22_2, f_22_3, e_22_5, e_22_6, e_22_9, e_22_12, e_22_13, e_22_14, e_22_17, e_22_18, e_22_19, e_22_22, f_22_23, f_22_24, e_22_27, e_22_30, e_22_31, Option.bind_some, Option.toList_some, Option.toList_none, List.cons_append, List.nil_append, am_k1_i, am_k1_r, am_k1_u, am_k1_n, am_bo0, am_bo1, am_boi, am_ev_tb, am_tb_nil, am_rfs, am_rfn, eq_self, and_self, if_true, if_false, show ¬ (1 : Int32) = 0 from by decide, show ¬ (0 : Int32) = 1 from by decide, not_true, not_false_eq_true, and_true, true_and, and_false, false_and, or_true, true_or, or_false, false_or, ha_ob r.1, r.2.1.2.1, hs.1.2.1.1, hlt, ha_r1 r.1, ha_d1 r.1 (show q < 8 by omega), am_cl (show q < 2147483648 by omega), ha_d2 r.1 (show q < 8 by omega), ha_d3 r.1 (show q < 8 by omega), cr_d r (show q < nd by omega) (show 4 < 6 by omega), nI_1]
    exact ih (q + 1) (by omega)
theorem c_sayingsOfAll (r : cl_R G h a σ n nd nt) (hs : mt_wf σ n nd nt) : am_evm G d 22 [.ref a] h = some (some (.int (mt_sum σ 4 nd)), h) := by
  simp only [n_22, e_22_0, f_22_1, e_22_2, f_22_3, e_22_5, e_22_6, e_22_9, e_22_12, e_22_13, e_22_14, e_22_17, e_22_18, e_22_19, e_22_22, f_22_23, f_22_24, e_22_27, e_22_30, e_22_31, Option.bind_some, Option.toList_some, Option.toList_none, List.cons_append, List.nil_append, am_k1_i, am_k1_r, am_k1_u, am_k1_n, am_bo0, am_bo1, am_boi, am_ev_tb, am_tb_nil, am_rfs, am_rfn, eq_self]
  exact c_sayingsOfAll_l r hs nd 0 (by omega)
theorem c_liesOfAll_l (r : cl_R G h a σ n nd nt) (hs : mt_wf σ n nd nt) : ∀ j q, q + j = nd → am_ev G d 23 4 [some (.ref a), some (.int (mt_sum σ 5 q)), some (.int (nI q))] [] h = some (some (.int (mt_sum σ 5 nd)), h) := by
  have hd := hs.1.2.1.2
  intro j
  induction j with
  | zero =>
    intro q hq
    obtain rfl : q = nd := by omega
    rw [e_23_4]
    simp only [n_23, e_23_0, f_23_1, e_23_2, f_23_3, e_23_5, e_23_6, e_23_9, e_23_12, e_23_13, e_23_14, e_23_17, e_23_18, e_23_19, e_23_22, f_23_23, f_23_24, e_23_27, e_23_30, e_23_31, Option.bind_some, Option.toList_some, Option.toList_none, List.cons_append, List.nil_append, am_k1_i, am_k1_r, am_k1_u, am_k1_n, am_bo0, am_bo1, am_boi, am_ev_tb, am_tb_nil, am_rfs, am_rfn, eq_self, and_self, if_true, if_false, show ¬ (1 : Int32) = 0 from by decide, show ¬ (0 : Int32) = 1 from by decide, not_true, not_false_eq_true, and_true, true_and, and_false, false_and, or_true, true_or, or_false, false_or, ha_ob r.1, r.2.1.2.1, hs.1.2.1.1, Int32.le_refl]
  | succ j ih =>
    intro q hq
    have hlt : ¬ nI nd ≤ nI q := nI_ge (by omega) (by omega)
    rw [e_23_4]
    simp only [n_23, e_23_0, f_23_1, e_23_2, f_23_3, e_23_5, e_23_6, e_23_9, e_23_12, e_23_13, e_23_14, e_23_17, e_23_18, e_23_19, e_23_22, f_23_23, f_23_24, e_23_27, e_23_30, e_23_31, Option.bind_some, Option.toList_some, Option.toList_none, List.cons_append, List.nil_append, am_k1_i, am_k1_r, am_k1_u, am_k1_n, am_bo0, am_bo1, am_boi, am_ev_tb, am_tb_nil, am_rfs, am_rfn, eq_self, and_self, if_true, if_false, show ¬ (1 : Int32) = 0 from by decide, show ¬ (0 : Int32) = 1 from by decide, not_true, not_false_eq_true, and_true, true_and, and_false, false_and, or_true, true_or, or_false, false_or, ha_ob r.1, r.2.1.2.1, hs.1.2.1.1, hlt, ha_r1 r.1, ha_d1 r.1 (show q < 8 by omega), am_cl (show q < 2147483648 by omega), ha_d2 r.1 (show q < 8 by omega), ha_d3 r.1 (show q < 8 by omega), cr_d r (show q < nd by omega) (show 5 < 6 by omega), nI_1]
    exact ih (q + 1) (by omega)
theorem c_liesOfAll (r : cl_R G h a σ n nd nt) (hs : mt_wf σ n nd nt) : am_evm G d 23 [.ref a] h = some (some (.int (mt_sum σ 5 nd)), h) := by
  simp only [n_23, e_23_0, f_23_1, e_23_2, f_23_3, e_23_5, e_23_6, e_23_9, e_23_12, e_23_13, e_23_14, e_23_17, e_23_18, e_23_19, e_23_22, f_23_23, f_23_24, e_23_27, e_23_30, e_23_31, Option.bind_some, Option.toList_some, Option.toList_none, List.cons_append, List.nil_append, am_k1_i, am_k1_r, am_k1_u, am_k1_n, am_bo0, am_bo1, am_boi, am_ev_tb, am_tb_nil, am_rfs, am_rfn, eq_self]
  exact c_liesOfAll_l r hs nd 0 (by omega)
theorem c_shareOf_l (r : cl_R G h a σ n nd nt) (hs : mt_wf σ n nd nt) {p : Nat} (hp : p < 12) : ∀ j q x4, q + j = nd → am_ev G (d + 2) 35 4 [some (.ref a), some (.int (nI p)), some (.int (mt_fallN σ p q)), some (.int (nI q)), x4] [] h = some (some (.int (mt_fallN σ p nd)), h) := by
  have hd := hs.1.2.1.2
  intro j
  induction j with
  | zero =>
    intro q x4 hq
    obtain rfl : q = nd := by omega
    rw [e_35_4]
    simp only [n_35, e_35_0, f_35_1, e_35_2, f_35_3, e_35_5, e_35_6, e_35_9, e_35_12, e_35_13, e_35_14, e_35_17, e_35_18, e_35_19, f_35_22, e_35_24, e_35_26, e_35_27, e_35_30, e_35_33, e_35_34, e_35_37, e_35_39, e_35_42, e_35_43, f_35_44, f_35_45, e_35_48, e_35_51, e_35_52, Option.bind_some, Option.toList_some, Option.toList_none, List.cons_append, List.nil_append, am_k1_i, am_k1_r, am_k1_u, am_k1_n, am_bo0, am_bo1, am_boi, am_ev_tb, am_tb_nil, am_rfs, am_rfn, eq_self, and_self, if_true, if_false, show ¬ (1 : Int32) = 0 from by decide, show ¬ (0 : Int32) = 1 from by decide, not_true, not_false_eq_true, and_true, true_and, and_false, false_and, or_true, true_or, or_false, false_or, ha_ob r.1, r.2.1.2.1, hs.1.2.1.1, Int32.le_refl]
  | succ j ih =>
    intro q x4 hq
    have hlt : ¬ nI nd ≤ nI q := nI_ge (by omega) (by omega)
    have hb : ∀ i, 12 ≤ i → i < 32 → bt (mt_left σ q) i = false := fun i h1 h2 => mt_left12 hs.1.1.1 hs.1.1.2 i (by have := hs.1.1.2; omega) h2
    have := ih (q + 1)
    rw [mt_fallN] at this
    rw [e_35_4]
    by_cases hl : bt (mt_left σ q) p = true
    · have h0 : ¬ mt_ones (mt_left σ q) = 0 := by
        rw [mt_ones_c]
        exact nI_ne0 (mt_c_pos hl 12 hp) (by have := mt_c_le (mt_left σ q) 12; omega)
      have hm : ¬ mt_b (mt_left σ q) p = 0 := fun z => mt_b0.mp z hl
      rw [if_pos hl] at this
      simp only [n_35, e_35_0, f_35_1, e_35_2, f_35_3, e_35_5, e_35_6, e_35_9, e_35_12, e_35_13, e_35_14, e_35_17, e_35_18, e_35_19, f_35_22, e_35_24, e_35_26, e_35_27, e_35_30, e_35_33, e_35_34, e_35_37, e_35_39, e_35_42, e_35_43, f_35_44, f_35_45, e_35_48, e_35_51, e_35_52, Option.bind_some, Option.toList_some, Option.toList_none, List.cons_append, List.nil_append, am_k1_i, am_k1_r, am_k1_u, am_k1_n, am_bo0, am_bo1, am_boi, am_ev_tb, am_tb_nil, am_rfs, am_rfn, eq_self, and_self, if_true, if_false, show ¬ (1 : Int32) = 0 from by decide, show ¬ (0 : Int32) = 1 from by decide, not_true, not_false_eq_true, and_true, true_and, and_false, false_and, or_true, true_or, or_false, false_or, ha_ob r.1, r.2.1.2.1, hs.1.2.1.1, hlt, ha_r1 r.1, ha_d1 r.1 (show q < 8 by omega), am_cl (show q < 2147483648 by omega), ha_d2 r.1 (show q < 8 by omega), c_leftOn3 r hd (show q < nd by omega), c_hasBit (show p < 32 by omega), hm, c_bitCount hb, h0, nI_1]
      exact this _ (by omega)
    · have hm : mt_b (mt_left σ q) p = 0 := mt_b0.mpr hl
      rw [if_neg hl] at this
      simp only [n_35, e_35_0, f_35_1, e_35_2, f_35_3, e_35_5, e_35_6, e_35_9, e_35_12, e_35_13, e_35_14, e_35_17, e_35_18, e_35_19, f_35_22, e_35_24, e_35_26, e_35_27, e_35_30, e_35_33, e_35_34, e_35_37, e_35_39, e_35_42, e_35_43, f_35_44, f_35_45, e_35_48, e_35_51, e_35_52, Option.bind_some, Option.toList_some, Option.toList_none, List.cons_append, List.nil_append, am_k1_i, am_k1_r, am_k1_u, am_k1_n, am_bo0, am_bo1, am_boi, am_ev_tb, am_tb_nil, am_rfs, am_rfn, eq_self, and_self, if_true, if_false, show ¬ (1 : Int32) = 0 from by decide, show ¬ (0 : Int32) = 1 from by decide, not_true, not_false_eq_true, and_true, true_and, and_false, false_and, or_true, true_or, or_false, false_or, ha_ob r.1, r.2.1.2.1, hs.1.2.1.1, hlt, ha_r1 r.1, ha_d1 r.1 (show q < 8 by omega), am_cl (show q < 2147483648 by omega), ha_d2 r.1 (show q < 8 by omega), c_leftOn3 r hd (show q < nd by omega), c_hasBit (show p < 32 by omega), hm, nI_1]
      rw [Int32.add_zero] at this
      exact this _ (by omega)
theorem c_shareOf (r : cl_R G h a σ n nd nt) (hs : mt_wf σ n nd nt) {p : Nat} (hp : p < 12) : am_evm G (d + 2) 35 [.ref a, .int (nI p)] h = some (some (.int (nI (mt_fall σ p nd))), h) := by
  rw [← mt_fall_eq _ hp]
  simp only [n_35, e_35_0, f_35_1, e_35_2, f_35_3, e_35_5, e_35_6, e_35_9, e_35_12, e_35_13, e_35_14, e_35_17, e_35_18, e_35_19, f_35_22, e_35_24, e_35_26, e_35_27, e_35_30, e_35_33, e_35_34, e_35_37, e_35_39, e_35_42, e_35_43, f_35_44, f_35_45, e_35_48, e_35_51, e_35_52, Option.bind_some, Option.toList_some, Option.toList_none, List.cons_append, List.nil_append, am_k1_i, am_k1_r, am_k1_u, am_k1_n, am_bo0, am_bo1, am_boi, am_ev_tb, am_tb_nil, am_rfs, am_rfn, eq_self]
  exact c_shareOf_l r hs hp nd 0 _ (by omega)
theorem c_leastOf_l {x : Int32} : ∀ j k, k + j = 12 → am_ev G (d + 2) 127 2 [some (.int x), some (.int (nI k))] [] h = some (some (.int (mt_nn (mt_lo x j k))), h) := by
  intro j
  induction j with
  | zero =>
    intro k hk
    obtain rfl : k = 12 := by omega
    rw [e_127_2]
    simp only [n_127, e_127_0, f_127_1, e_127_3, e_127_5, e_127_8, e_127_9, e_127_10, e_127_13, e_127_16, e_127_17, f_127_18, e_127_21, e_127_24, e_127_26, Option.bind_some, Option.toList_some, Option.toList_none, List.cons_append, List.nil_append, am_k1_i, am_k1_r, am_k1_u, am_k1_n, am_bo0, am_bo1, am_boi, am_ev_tb, am_tb_nil, am_rfs, am_rfn, eq_self, and_self, if_true, if_false, show ¬ (1 : Int32) = 0 from by decide, show ¬ (0 : Int32) = 1 from by decide, not_true, not_false_eq_true, and_true, true_and, and_false, false_and, or_true, true_or, or_false, false_or, show (12 : Int32) ≤ nI 12 from by decide]
    rfl
  | succ j ih =>
    intro k hk
    rw [e_127_2]
    have hlt : ¬ (12 : Int32) ≤ nI k := nI_ge (show k < 12 by omega) (by decide)
    by_cases hb : bt x k = true
    · have hm : ¬ mt_b x k = 0 := fun z => mt_b0.mp z hb
      have hne : ¬ nI k = -1 := fun z => by have := nI_pos' (n := k) (by omega); rw [z] at this; exact absurd this (by decide)
      simp only [n_127, e_127_0, f_127_1, e_127_3, e_127_5, e_127_8, e_127_9, e_127_10, e_127_13, e_127_16, e_127_17, f_127_18, e_127_21, e_127_24, e_127_26, Option.bind_some, Option.toList_some, Option.toList_none, List.cons_append, List.nil_append, am_k1_i, am_k1_r, am_k1_u, am_k1_n, am_bo0, am_bo1, am_boi, am_ev_tb, am_tb_nil, am_rfs, am_rfn, eq_self, and_self, if_true, if_false, show ¬ (1 : Int32) = 0 from by decide, show ¬ (0 : Int32) = 1 from by decide, not_true, not_false_eq_true, and_true, true_and, and_false, false_and, or_true, true_or, or_false, false_or, hlt, c_hasBit (show k < 32 by omega), hm, mt_lo, hb, mt_nn, hne]
    · have hm : mt_b x k = 0 := mt_b0.mpr hb
      simp only [n_127, e_127_0, f_127_1, e_127_3, e_127_5, e_127_8, e_127_9, e_127_10, e_127_13, e_127_16, e_127_17, f_127_18, e_127_21, e_127_24, e_127_26, Option.bind_some, Option.toList_some, Option.toList_none, List.cons_append, List.nil_append, am_k1_i, am_k1_r, am_k1_u, am_k1_n, am_bo0, am_bo1, am_boi, am_ev_tb, am_tb_nil, am_rfs, am_rfn, eq_self, and_self, if_true, if_false, show ¬ (1 : Int32) = 0 from by decide, show ¬ (0 : Int32) = 1 from by decide, not_true, not_false_eq_true, and_true, true_and, and_false, false_and, or_true, true_or, or_false, false_or, hlt, c_hasBit (show k < 32 by omega), hm, nI_1]
      rw [mt_lo, if_neg hb]
      exact ih (k + 1) (by omega)
theorem c_leastOf {x : Int32} : am_evm G (d + 2) 127 [.int x] h = some (some (.int (mt_nn (mt_least x))), h) := by
  simp only [n_127, e_127_0, f_127_1, e_127_3, e_127_5, e_127_8, e_127_9, e_127_10, e_127_13, e_127_16, e_127_17, f_127_18, e_127_21, e_127_24, e_127_26, Option.bind_some, Option.toList_some, Option.toList_none, List.cons_append, List.nil_append, am_k1_i, am_k1_r, am_k1_u, am_k1_n, am_bo0, am_bo1, am_boi, am_ev_tb, am_tb_nil, am_rfs, am_rfn, eq_self]
  exact c_leastOf_l 12 0 rfl
theorem c_greatestOf_l {x : Int32} : ∀ n, n ≤ 12 → am_ev G (d + 2) 128 3 [some (.int x), some (.int (nI n - 1))] [] h = some (some (.int (mt_nn (mt_hi x n))), h) := by
  intro n
  induction n with
  | zero =>
    intro _
    rw [e_128_3]
    simp only [n_128, e_128_0, f_128_2, e_128_4, e_128_7, e_128_8, e_128_9, e_128_12, e_128_15, e_128_16, f_128_17, e_128_20, e_128_23, e_128_25, Option.bind_some, Option.toList_some, Option.toList_none, List.cons_append, List.nil_append, am_k1_i, am_k1_r, am_k1_u, am_k1_n, am_bo0, am_bo1, am_boi, am_ev_tb, am_tb_nil, am_rfs, am_rfn, eq_self, and_self, if_true, if_false, show ¬ (1 : Int32) = 0 from by decide, show ¬ (0 : Int32) = 1 from by decide, not_true, not_false_eq_true, and_true, true_and, and_false, false_and, or_true, true_or, or_false, false_or, show nI 0 - 1 < 0 from by decide]
    rfl
  | succ n ih =>
    intro hn
    rw [nI_pred, e_128_3]
    have hlt : ¬ nI n < 0 := nI_pos (by omega)
    by_cases hb : bt x n = true
    · have hm : ¬ mt_b x n = 0 := fun z => mt_b0.mp z hb
      have hne : ¬ nI n = -1 := fun z => by have := nI_pos' (n := n) (by omega); rw [z] at this; exact absurd this (by decide)
      simp only [n_128, e_128_0, f_128_2, e_128_4, e_128_7, e_128_8, e_128_9, e_128_12, e_128_15, e_128_16, f_128_17, e_128_20, e_128_23, e_128_25, Option.bind_some, Option.toList_some, Option.toList_none, List.cons_append, List.nil_append, am_k1_i, am_k1_r, am_k1_u, am_k1_n, am_bo0, am_bo1, am_boi, am_ev_tb, am_tb_nil, am_rfs, am_rfn, eq_self, and_self, if_true, if_false, show ¬ (1 : Int32) = 0 from by decide, show ¬ (0 : Int32) = 1 from by decide, not_true, not_false_eq_true, and_true, true_and, and_false, false_and, or_true, true_or, or_false, false_or, hlt, c_hasBit (show n < 32 by omega), hm, mt_hi, hb, mt_nn, hne]
    · have hm : mt_b x n = 0 := mt_b0.mpr hb
      simp only [n_128, e_128_0, f_128_2, e_128_4, e_128_7, e_128_8, e_128_9, e_128_12, e_128_15, e_128_16, f_128_17, e_128_20, e_128_23, e_128_25, Option.bind_some, Option.toList_some, Option.toList_none, List.cons_append, List.nil_append, am_k1_i, am_k1_r, am_k1_u, am_k1_n, am_bo0, am_bo1, am_boi, am_ev_tb, am_tb_nil, am_rfs, am_rfn, eq_self, and_self, if_true, if_false, show ¬ (1 : Int32) = 0 from by decide, show ¬ (0 : Int32) = 1 from by decide, not_true, not_false_eq_true, and_true, true_and, and_false, false_and, or_true, true_or, or_false, false_or, hlt, c_hasBit (show n < 32 by omega), hm]
      rw [mt_hi, if_neg hb, show nI n + (-1) = nI n - 1 from (Int32.sub_eq_add_neg _ _).symm]
      exact ih (by omega)
theorem c_greatestOf {x : Int32} : am_evm G (d + 2) 128 [.int x] h = some (some (.int (mt_nn (mt_great x))), h) := by
  simp only [n_128, e_128_0, f_128_2, e_128_4, e_128_7, e_128_8, e_128_9, e_128_12, e_128_15, e_128_16, f_128_17, e_128_20, e_128_23, e_128_25, Option.bind_some, Option.toList_some, Option.toList_none, List.cons_append, List.nil_append, am_k1_i, am_k1_r, am_k1_u, am_k1_n, am_bo0, am_bo1, am_boi, am_ev_tb, am_tb_nil, am_rfs, am_rfn, eq_self]
  exact c_greatestOf_l 12 (by omega)
theorem c_withBit {x v : Int32} {k : Nat} (hv : v = 0 ∨ v = 1) : am_evm G d 126 [.int x, .int (nI k), .int v] h = some (some (.int (mt_wb x k v)), h) := by
  unfold mt_wb
  rcases hv with rfl | rfl
  · simp only [n_126, e_126_0, e_126_1, e_126_2, e_126_5, e_126_6, e_126_7, e_126_8, e_126_9, e_126_10, e_126_20, e_126_13, e_126_14, e_126_15, e_126_16, e_126_17, e_126_18, e_126_19, Option.bind_some, Option.toList_some, Option.toList_none, List.cons_append, List.nil_append, am_k1_i, am_k1_r, am_k1_u, am_k1_n, am_bo0, am_bo1, am_boi, am_ev_tb, am_tb_nil, am_rfs, am_rfn, eq_self, and_self, if_true, if_false, show ¬ (1 : Int32) = 0 from by decide, show ¬ (0 : Int32) = 1 from by decide, not_true, not_false_eq_true, and_true, true_and, and_false, false_and, or_true, true_or, or_false, false_or]
  · simp only [n_126, e_126_0, e_126_1, e_126_2, e_126_5, e_126_6, e_126_7, e_126_8, e_126_9, e_126_10, e_126_20, e_126_13, e_126_14, e_126_15, e_126_16, e_126_17, e_126_18, e_126_19, Option.bind_some, Option.toList_some, Option.toList_none, List.cons_append, List.nil_append, am_k1_i, am_k1_r, am_k1_u, am_k1_n, am_bo0, am_bo1, am_boi, am_ev_tb, am_tb_nil, am_rfs, am_rfn, eq_self, and_self, if_true, if_false, show ¬ (1 : Int32) = 0 from by decide, show ¬ (0 : Int32) = 1 from by decide, not_true, not_false_eq_true, and_true, true_and, and_false, false_and, or_true, true_or, or_false, false_or]
theorem c_firstOf {x y : Int32} : am_evm G (d + 3) 31 [.ref a, .int x, .int y] h = some (some (.int (mt_nn (mt_least (if x = 0 then y else x)))), h) := by
  by_cases hx : x = 0
  · simp only [n_31, e_31_0, e_31_1, e_31_4, e_31_5, e_31_9, e_31_12, e_31_8, Option.bind_some, Option.toList_some, Option.toList_none, List.cons_append, List.nil_append, am_k1_i, am_k1_r, am_k1_u, am_k1_n, am_bo0, am_bo1, am_boi, am_ev_tb, am_tb_nil, am_rfs, am_rfn, eq_self, and_self, if_true, if_false, show ¬ (1 : Int32) = 0 from by decide, show ¬ (0 : Int32) = 1 from by decide, not_true, not_false_eq_true, and_true, true_and, and_false, false_and, or_true, true_or, or_false, false_or, hx, c_leastOf]
  · simp only [n_31, e_31_0, e_31_1, e_31_4, e_31_5, e_31_9, e_31_12, e_31_8, Option.bind_some, Option.toList_some, Option.toList_none, List.cons_append, List.nil_append, am_k1_i, am_k1_r, am_k1_u, am_k1_n, am_bo0, am_bo1, am_boi, am_ev_tb, am_tb_nil, am_rfs, am_rfn, eq_self, and_self, if_true, if_false, show ¬ (1 : Int32) = 0 from by decide, show ¬ (0 : Int32) = 1 from by decide, not_true, not_false_eq_true, and_true, true_and, and_false, false_and, or_true, true_or, or_false, false_or, hx, c_leastOf]
theorem c_held3 {v : Int32} {most : Int32} (hm : 0 ≤ most) : am_evm G (d + 1) 118 [.int v, .int 0, .int most] h = some (some (.int (mt_held v most)), h) := by
  have hz : (0 : Int32).toInt = 0 := rfl
  have key : (if 0 < (if v < most then v else most) then (if v < most then v else most) else 0) = mt_held v most := by
    unfold mt_held
    rw [Int32.le_iff_toInt_le] at hm
    apply Int32.toInt_inj.mp
    simp only [Int32.lt_iff_toInt_lt]
    (repeat' split) <;> omega
  rw [c_held, key]
end CR
