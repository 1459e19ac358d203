/-! the object as it is made -/
section IO
variable {G : Nat → Nat} {d : Nat} {h h2 p : am_H} {o a A : Nat} {X : Nat → Prop}
def hk (G : Nat → Nat) (h : am_H) (a : Nat) : Prop := cl_Hall G h a ∧ (am_i h a 5 = 0 ∧ am_i h a 6 = 0 ∧ am_i h a 7 = 0 ∧ am_i h a 8 = 2 ∧ am_i h a 9 = 1) ∧ (∀ k, k < 3 → am_i h (a + 4) k = -1000000005) ∧ ∀ t, am_r h (a + 3) t = none
theorem hk.ex (k : hk G h a) (e : am_ex X h h2) (hx : ∀ b, X b → b < a ∨ a + 25 < b) : hk G h2 a := by
  have ht := k.1.1.2.1
  refine ⟨k.1.ex e (fun b hb => by have := hx b hb; omega), ?_, ?_, ?_⟩
  · rw [(e.2.2 a (by omega) (fun z => by have := hx _ z; omega)).1]; exact k.2.1
  · rw [(e.2.2 (a + 4) (by omega) (fun z => by have := hx _ z; omega)).1]; exact k.2.2.1
  · rw [(e.2.2 (a + 3) (by omega) (fun z => by have := hx _ z; omega)).2]; exact k.2.2.2
theorem ex_new {kd n s : Nat} (e : am_ex (fun b => b = am_top p) (am_new p kd n s) h2) : am_ex (fun _ => False) p h2 := by
  refine ⟨by have := e.1; rw [nw_t] at this; omega, fun b hb => (e.2.1 b (by rw [nw_t]; omega)).trans (nw_sh (by omega)), fun b hb _ => ?_⟩
  obtain ⟨z1, z2⟩ := e.2.2 b (by rw [nw_t]; omega) (show ¬ b = am_top p by omega)
  exact ⟨z1.trans (nw_i (by omega)), z2.trans (nw_r (by omega))⟩
theorem ob_ex {b c : Nat} (ho : am_ob G h b c) (e : am_ex X h h2) : am_ob G h2 b c := ⟨⟨ho.1.1, Nat.lt_of_lt_of_le ho.1.2 e.1⟩, by rw [e.2.1 b ho.1.2]; exact ho.2⟩
theorem io_h0 (ho : am_ob G p o 8) (hA : am_top p = A) (hG : G 0 ≤ A) : ∃ h1, am_ev G (d + 3) 73 4 [some (.ref o), none] [] p = am_ev G (d + 3) 73 15 [some (.ref o), none] [] (am_pr h1 o 0 (some A)) ∧ (am_top h1 = A + 26 ∧ am_sl h1 = am_sl p + 263) ∧ am_ex (fun _ => False) p h1 ∧ hk G h1 A := by
  have oA : am_ob G (am_new p 1 0 10) A 1 := by rw [← hA]; exact ob_n0 (by omega)
  obtain ⟨h1, e, ⟨t, s⟩, x, k1, k2, k3, k4⟩ := c_iH (d := d) oA (by rw [nw_t, hA]) hG
  have x' : am_ex (fun _ => False) p h1 := ex_new (by rw [hA]; exact x)
  have o1 := ob_ex ho x'
  refine ⟨h1, ?_, ⟨t, by rw [s, nw_sl]⟩, x', k1, k2, k3, k4⟩
  rw [e_73_4]
  simp only [e_73_5, e_73_8, e_73_9, e_73_12, Option.bind_some, Option.toList_some, Option.toList_none, List.cons_append, List.nil_append, am_k1_i, am_k1_r, am_k1_u, am_k1_n, am_bo0, am_bo1, am_boi, am_ev_tb, am_tb_nil, am_rfs, am_rfn, eq_self, and_self, if_true, if_false, show ¬ (1 : Int32) = 0 from by decide, show ¬ (0 : Int32) = 1 from by decide, not_true, not_false_eq_true, and_true, true_and, and_false, false_and, or_true, true_or, or_false, false_or, hA, e, o1]
theorem io_h1 (ho : am_ob G p o 8) (hA : am_top p = A) (hG : G 0 ≤ A) : ∃ h1, am_ev G (d + 3) 73 15 [some (.ref o), none] [] p = am_ev G (d + 3) 73 26 [some (.ref o), none] [] (am_pr h1 o 1 (some A)) ∧ (am_top h1 = A + 26 ∧ am_sl h1 = am_sl p + 263) ∧ am_ex (fun _ => False) p h1 ∧ hk G h1 A := by
  have oA : am_ob G (am_new p 1 0 10) A 1 := by rw [← hA]; exact ob_n0 (by omega)
  obtain ⟨h1, e, ⟨t, s⟩, x, k1, k2, k3, k4⟩ := c_iH (d := d) oA (by rw [nw_t, hA]) hG
  have x' : am_ex (fun _ => False) p h1 := ex_new (by rw [hA]; exact x)
  have o1 := ob_ex ho x'
  refine ⟨h1, ?_, ⟨t, by rw [s, nw_sl]⟩, x', k1, k2, k3, k4⟩
  rw [e_73_15]
  simp only [e_73_16, e_73_19, e_73_20, e_73_23, Option.bind_some, Option.toList_some, Option.toList_none, List.cons_append, List.nil_append, am_k1_i, am_k1_r, am_k1_u, am_k1_n, am_bo0, am_bo1, am_boi, am_ev_tb, am_tb_nil, am_rfs, am_rfn, eq_self, and_self, if_true, if_false, show ¬ (1 : Int32) = 0 from by decide, show ¬ (0 : Int32) = 1 from by decide, not_true, not_false_eq_true, and_true, true_and, and_false, false_and, or_true, true_or, or_false, false_or, hA, e, o1]
theorem io_h2 (ho : am_ob G p o 8) (hA : am_top p = A) (hG : G 0 ≤ A) : ∃ h1, am_ev G (d + 3) 73 26 [some (.ref o), none] [] p = am_ev G (d + 3) 73 37 [some (.ref o), none] [] (am_pr h1 o 2 (some A)) ∧ (am_top h1 = A + 26 ∧ am_sl h1 = am_sl p + 263) ∧ am_ex (fun _ => False) p h1 ∧ hk G h1 A := by
  have oA : am_ob G (am_new p 1 0 10) A 1 := by rw [← hA]; exact ob_n0 (by omega)
  obtain ⟨h1, e, ⟨t, s⟩, x, k1, k2, k3, k4⟩ := c_iH (d := d) oA (by rw [nw_t, hA]) hG
  have x' : am_ex (fun _ => False) p h1 := ex_new (by rw [hA]; exact x)
  have o1 := ob_ex ho x'
  refine ⟨h1, ?_, ⟨t, by rw [s, nw_sl]⟩, x', k1, k2, k3, k4⟩
  rw [e_73_26]
  simp only [e_73_27, e_73_30, e_73_31, e_73_34, Option.bind_some, Option.toList_some, Option.toList_none, List.cons_append, List.nil_append, am_k1_i, am_k1_r, am_k1_u, am_k1_n, am_bo0, am_bo1, am_boi, am_ev_tb, am_tb_nil, am_rfs, am_rfn, eq_self, and_self, if_true, if_false, show ¬ (1 : Int32) = 0 from by decide, show ¬ (0 : Int32) = 1 from by decide, not_true, not_false_eq_true, and_true, true_and, and_false, false_and, or_true, true_or, or_false, false_or, hA, e, o1]
/-- a reader, from its first byte -/
theorem c_iR (ho : am_ob G h a 3) (hG : G 0 ≤ am_top h) : ∃ h2, am_evm G (d + 2) 41 [.ref a] h = some (none, h2) ∧ (am_top h2 = am_top h + 6 ∧ am_sl h2 = am_sl h + 485) ∧ am_ex (fun b => b = a) h h2 ∧ (am_r h2 a 0 = some (am_top h) ∧ am_r h2 a 1 = some (am_top h + 2) ∧ am_r h2 a 2 = some (am_top h + 3) ∧ am_r h2 a 3 = some (am_top h + 4) ∧ am_r h2 a 4 = some (am_top h + 5)) ∧ ((am_sh h2 (am_top h)).1 = 6 ∧ am_r h2 (am_top h) 0 = some (am_top h + 1) ∧ am_sh h2 (am_top h + 1) = (21, 96) ∧ am_i h2 (am_top h) 1 = 0) ∧ am_sh h2 (am_top h + 2) = (20, 97) ∧ am_sh h2 (am_top h + 3) = (20, 97) ∧ am_sh h2 (am_top h + 4) = (20, 97) ∧ am_sh h2 (am_top h + 5) = (20, 96) := by
  have hne : a < am_top h := ho.1.2
  have oT : am_ob G (am_new h 6 0 2) (am_top h) 6 := ob_n0 hG
  obtain ⟨h1, e1, ⟨t1, s1⟩, x1, r1, w1, i1⟩ := c_iT (d := d) oT (by rw [nw_t]; omega)
  rw [nw_t] at t1 r1 w1
  rw [nw_sl] at s1
  have x1' : am_ex (fun _ => False) h h1 := ex_new x1
  have o1 := ob_ex ho x1'
  have o2 : am_ob G (am_pr h1 a 0 (some (am_top h))) a 3 := o1
  have sT : (am_sh h1 (am_top h)).1 = 6 := (ob_ex oT x1).2
  obtain ⟨h2, e2, ⟨t2, s2⟩, x2, ⟨q0, q1, q2, q3, q4⟩, w2, w3, w4, w5⟩ := c_iR2 (d := d + 2) o2
  have tp : am_top (am_pr h1 a 0 (some (am_top h))) = am_top h + 2 := t1
  have sp : am_sl (am_pr h1 a 0 (some (am_top h))) = am_sl h1 := rfl
  rw [tp] at t2 q1 q2 q3 q4 w2 w3 w4 w5
  rw [am_pr_r, if_pos rfl] at q0
  obtain ⟨z1, z2⟩ := x2.2.2 (am_top h) (by rw [tp]; omega) (show ¬ am_top h = a by omega)
  refine ⟨h2, ?_, ⟨by omega, by omega⟩, ((x1'.wd (Y := fun b => b = a) (fun _ _ z => z.elim)).tr (am_ex.pr (X := fun b => b = a) rfl)).tr x2, ⟨q0, q1, q2, q3, q4⟩, ⟨?_, ?_, ?_, ?_⟩, w2, w3, w4, w5⟩
  · rw [n_41]
    simp only [e_41_0, e_41_1, e_41_4, e_41_5, e_41_8, e_41_9, e_41_12, Option.bind_some, Option.toList_some, Option.toList_none, List.cons_append, List.nil_append, am_k1_i, am_k1_r, am_k1_u, am_k1_n, am_bo0, am_bo1, am_boi, am_ev_tb, am_tb_nil, am_rfs, am_rfn, eq_self, and_self, if_true, if_false, show ¬ (1 : Int32) = 0 from by decide, show ¬ (0 : Int32) = 1 from by decide, not_true, not_false_eq_true, and_true, true_and, and_false, false_and, or_true, true_or, or_false, false_or, e1, o1]
    exact e2
  · rw [x2.2.1 (am_top h) (by rw [tp]; omega)]; exact sT
  · rw [z2, pr_ne (by omega)]; exact r1
  · rw [x2.2.1 (am_top h + 1) (by rw [tp]; omega)]; exact w1
  · rw [z1]; exact i1
theorem io_r (ho : am_ob G p o 8) (hA : am_top p = A) (hG : G 0 ≤ A) : ∃ h1, am_ev G (d + 3) 73 37 [some (.ref o), none] [] p = am_ev G (d + 3) 73 48 [some (.ref o), none] [] (am_pr h1 o 3 (some A)) ∧ (am_top h1 = A + 7 ∧ am_sl h1 = am_sl p + 496) ∧ am_ex (fun _ => False) p h1 ∧ (am_sh h1 A).1 = 3 ∧ (am_r h1 A 0 = some (A + 1) ∧ am_r h1 A 1 = some (A + 3) ∧ am_r h1 A 2 = some (A + 4) ∧ am_r h1 A 3 = some (A + 5) ∧ am_r h1 A 4 = some (A + 6)) ∧ ((am_sh h1 (A + 1)).1 = 6 ∧ am_r h1 (A + 1) 0 = some (A + 2) ∧ am_sh h1 (A + 2) = (21, 96) ∧ am_i h1 (A + 1) 1 = 0) ∧ am_sh h1 (A + 3) = (20, 97) ∧ am_sh h1 (A + 4) = (20, 97) ∧ am_sh h1 (A + 5) = (20, 97) ∧ am_sh h1 (A + 6) = (20, 96) := by
  have oA : am_ob G (am_new p 3 0 11) A 3 := by rw [← hA]; exact ob_n0 (by omega)
  obtain ⟨h1, e, ⟨t, s⟩, x, k1, k2, k3, k4, k5, k6⟩ := c_iR (d := d) oA (by rw [nw_t, hA]; omega)
  have x' : am_ex (fun _ => False) p h1 := ex_new (by rw [hA]; exact x)
  have o1 := ob_ex ho x'
  rw [nw_t, hA] at t k1 k2 k3 k4 k5 k6
  refine ⟨h1, ?_, ⟨t, by rw [s, nw_sl]⟩, x', (ob_ex oA x).2, k1, k2, k3, k4, k5, k6⟩
  rw [e_73_37]
  simp only [e_73_38, e_73_41, e_73_42, e_73_45, Option.bind_some, Option.toList_some, Option.toList_none, List.cons_append, List.nil_append, am_k1_i, am_k1_r, am_k1_u, am_k1_n, am_bo0, am_bo1, am_boi, am_ev_tb, am_tb_nil, am_rfs, am_rfn, eq_self, and_self, if_true, if_false, show ¬ (1 : Int32) = 0 from by decide, show ¬ (0 : Int32) = 1 from by decide, not_true, not_false_eq_true, and_true, true_and, and_false, false_and, or_true, true_or, or_false, false_or, hA, e, o1]
theorem io_t {rd tp : Nat} (ho : am_ob G p o 8) (hr : am_r p o 3 = some rd) (hd : am_ob G p rd 3) (ht : am_r p rd 0 = some tp) : am_ev G (d + 3) 73 48 [some (.ref o), none] [] p = am_ev G (d + 3) 73 59 [some (.ref o), none] [] (am_pr p o 4 (some tp)) := by
  rw [e_73_48]
  simp only [e_73_49, e_73_50, e_73_53, e_73_56, Option.bind_some, Option.toList_some, Option.toList_none, List.cons_append, List.nil_append, am_k1_i, am_k1_r, am_k1_u, am_k1_n, am_bo0, am_bo1, am_boi, am_ev_tb, am_tb_nil, am_rfs, am_rfn, eq_self, and_self, if_true, if_false, show ¬ (1 : Int32) = 0 from by decide, show ¬ (0 : Int32) = 1 from by decide, not_true, not_false_eq_true, and_true, true_and, and_false, false_and, or_true, true_or, or_false, false_or, ho, hr, hd, ht]
theorem io_w (ho : am_ob G p o 8) (hA : am_top p = A) : am_ev G (d + 3) 73 59 [some (.ref o), none] [] p = am_ev G (d + 3) 73 95 [some (.ref o), some (.int (nI 0))] [] (am_pi (am_pi (am_pr (am_new (am_pr (am_new (am_pr (am_new p 25 4 4) o 5 (some A)) 26 5 5) o 6 (some (A + 1))) 20 60 60) o 7 (some (A + 2))) o 8 0) o 9 0) := by
  subst hA
  have o1 : am_ob G (am_new p 25 4 4) o 8 := ob_nw ho
  have o2 : am_ob G (am_new (am_pr (am_new p 25 4 4) o 5 (some (am_top p))) 26 5 5) o 8 := ob_nw (s := 5) (show am_ob G (am_pr (am_new p 25 4 4) o 5 (some (am_top p))) o 8 from o1)
  have o3 : am_ob G (am_new (am_pr (am_new (am_pr (am_new p 25 4 4) o 5 (some (am_top p))) 26 5 5) o 6 (some (am_top p + 1))) 20 60 60) o 8 := ob_nw (s := 60) (show am_ob G (am_pr (am_new (am_pr (am_new p 25 4 4) o 5 (some (am_top p))) 26 5 5) o 6 (some (am_top p + 1))) o 8 from o2)
  have t1 : am_top (am_pr (am_new p 25 4 4) o 5 (some (am_top p))) = am_top p + 1 := rfl
  have t2 : am_top (am_pr (am_new (am_pr (am_new p 25 4 4) o 5 (some (am_top p))) 26 5 5) o 6 (some (am_top p + 1))) = am_top p + 2 := rfl
  rw [e_73_59]
  simp only [e_73_60, f_73_61, e_73_64, e_73_67, e_73_68, f_73_69, e_73_72, e_73_75, e_73_76, f_73_78, e_73_80, e_73_83, e_73_84, e_73_85, e_73_88, e_73_89, e_73_90b0, e_73_90b1, e_73_93, f_73_94, Option.bind_some, Option.toList_some, Option.toList_none, List.cons_append, List.nil_append, am_k1_i, am_k1_r, am_k1_u, am_k1_n, am_bo0, am_bo1, am_boi, am_ev_tb, am_tb_nil, am_rfs, am_rfn, eq_self, and_self, if_true, if_false, show ¬ (1 : Int32) = 0 from by decide, show ¬ (0 : Int32) = 1 from by decide, not_true, not_false_eq_true, and_true, true_and, and_false, false_and, or_true, true_or, or_false, false_or, nn_4, nn_5, nn_60, show (4 : Int32).toNatClampNeg = 4 from rfl, show (5 : Int32).toNatClampNeg = 5 from rfl, show (60 : Int32).toNatClampNeg = 60 from rfl, o1, o2, o3, t1, t2, ob_pr, am_ob_pi]
  rfl
def sf (h : am_H) (x : Nat) : Prop := (am_sh h x).1 = 4 ∧ am_r h x 0 = some (x + 1) ∧ am_sh h (x + 1) = (20, 24) ∧ am_i h x 1 = -1 ∧ am_i h x 2 = 0 ∧ ∀ j, am_i h (x + 1) j = 0
theorem sf.ex {x : Nat} (k : sf h x) (hx : x + 1 < am_top h) (e : am_ex X h h2) (h1 : ¬ X x) (h2' : ¬ X (x + 1)) : sf h2 x := by
  obtain ⟨k1, k2, k3, k4, k5, k6⟩ := k
  obtain ⟨z1, z2⟩ := e.2.2 x (by omega) h1
  refine ⟨by rw [e.2.1 x (by omega)]; exact k1, by rw [z2]; exact k2, by rw [e.2.1 _ hx]; exact k3, by rw [z1]; exact k4, by rw [z1]; exact k5, fun j => ?_⟩
  rw [(e.2.2 _ hx h2').1]; exact k6 j
def lf (h : am_H) (x : Nat) : Prop := (am_sh h x).1 = 5 ∧ (am_r h x 0 = some (x + 1) ∧ am_r h x 1 = some (x + 2) ∧ (am_sh h (x + 1)).1 = 2 ∧ (am_sh h (x + 2)).1 = 4 ∧ am_r h (x + 2) 0 = some (x + 3) ∧ am_sh h (x + 3) = (20, 24)) ∧ am_i h x 3 = 0
theorem lf.ex {x : Nat} (k : lf h x) (hx : x + 3 < am_top h) (e : am_ex X h h2) (h1 : ¬ X x) (h2' : ¬ X (x + 2)) : lf h2 x := by
  obtain ⟨k1, ⟨k2, k3, k4, k5, k6, k7⟩, k8⟩ := k
  obtain ⟨z1, z2⟩ := e.2.2 x (by omega) h1
  exact ⟨by rw [e.2.1 x (by omega)]; exact k1, ⟨by rw [z2]; exact k2, by rw [z2]; exact k3, by rw [e.2.1 _ (by omega)]; exact k4, by rw [e.2.1 _ (by omega)]; exact k5, by rw [(e.2.2 _ (by omega) h2').2]; exact k6, by rw [e.2.1 _ hx]; exact k7⟩, by rw [z1]; exact k8⟩
theorem io_ls {q0 : Nat} (ho : am_ob G h o 8) (hr : am_r h o 5 = some q0) (hp : G 0 ≤ q0 ∧ q0 < am_top h) (hs : am_sh h q0 = (25, 4)) (hne : o ≠ q0) : ∀ j q h', q + j = 4 → (am_top h' = am_top h + 2 * q ∧ am_sl h' = am_sl h + 27 * q) → am_ex (fun b => b = q0) h h' → (∀ i, i < q → am_r h' q0 i = some (am_top h + 2 * i) ∧ sf h' (am_top h + 2 * i)) → ∃ h2, am_ev G (d + 3) 73 95 [some (.ref o), some (.int (nI q))] [] h' = am_ev G (d + 3) 73 121 [some (.ref o), some (.int (nI 0))] [] h2 ∧ (am_top h2 = am_top h + 2 * 4 ∧ am_sl h2 = am_sl h + 27 * 4) ∧ am_ex (fun b => b = q0) h h2 ∧ ∀ i, i < 4 → am_r h2 q0 i = some (am_top h + 2 * i) ∧ sf h2 (am_top h + 2 * i) := by
  intro j
  induction j with
  | zero =>
    intro q h' hq ht ex hi
    obtain rfl : q = 4 := by omega
    refine ⟨h', ?_, ht, ex, hi⟩
    rw [e_73_95]
    simp only [n_73, e_73_0, e_73_1, e_73_4, e_73_5, e_73_8, e_73_9, e_73_12, e_73_15, e_73_16, e_73_19, e_73_20, e_73_23, e_73_26, e_73_27, e_73_30, e_73_31, e_73_34, e_73_37, e_73_38, e_73_41, e_73_42, e_73_45, e_73_48, e_73_49, e_73_50, e_73_53, e_73_56, e_73_59, e_73_60, f_73_61, e_73_64, e_73_67, e_73_68, f_73_69, e_73_72, e_73_75, e_73_76, f_73_78, e_73_80, e_73_83, e_73_84, e_73_85, e_73_88, e_73_89, e_73_90b0, e_73_90b1, e_73_93, f_73_94, e_73_96, e_73_97, e_73_100, e_73_101, e_73_104, e_73_105, e_73_108, e_73_109, e_73_112, f_73_113, e_73_116, e_73_119, f_73_120, e_73_122, e_73_123, e_73_126, e_73_127, e_73_130, e_73_131, e_73_134, e_73_135, e_73_138, f_73_139, e_73_142, e_73_145, Option.bind_some, Option.toList_some, Option.toList_none, List.cons_append, List.nil_append, am_k1_i, am_k1_r, am_k1_u, am_k1_n, am_bo0, am_bo1, am_boi, am_ev_tb, am_tb_nil, am_rfs, am_rfn, eq_self, and_self, if_true, if_false, show ¬ (1 : Int32) = 0 from by decide, show ¬ (0 : Int32) = 1 from by decide, not_true, not_false_eq_true, and_true, true_and, and_false, false_and, or_true, true_or, or_false, false_or, show (4 : Int32) ≤ nI 4 from by decide]
    try rfl
  | succ j ih =>
    intro q h' hq ht ex hi
    have hlt : ¬ (4 : Int32) ≤ nI q := nI_ge (b := 4) (by omega) (by decide)
    have hle := ex.1
    have oa : am_ob G h' o 8 := ob_ex ho ex
    have ra : am_r h' o 5 = some q0 := by rw [(ex.2.2 o ho.1.2 (show ¬ o = q0 from hne)).2]; exact hr
    have oT : am_ob G (am_new h' 4 0 3) (am_top h') 4 := ob_n0 (by omega)
    obtain ⟨hc, ec, ⟨tc, sc⟩, xc, k1, k2, k3, k4, k5⟩ := c_iS (d := d + 1) oT (by rw [nw_t]; omega)
    rw [nw_t] at tc k1 k2 k5
    have sp : am_sh hc q0 = (25, 4) := by rw [xc.2.1 q0 (by rw [nw_t]; omega), nw_sh (by omega), ex.2.1 q0 hp.2]; exact hs
    have hw : am_rw G hc q0 (nI q) (am_top h') := by
      refine ⟨⟨⟨⟨hp.1, by omega⟩, ?_⟩, ?_⟩, ⟨by omega, by omega⟩, ?_⟩
      · rw [sp]; exact ⟨by decide, by decide⟩
      · rw [sp]; exact nI_in (show q < 4 by omega) (by decide)
      · rw [sp, (ob_ex oT xc).2]; rfl
    have xh : am_ex (fun _ => False) h' hc := ex_new xc
    rw [e_73_95]
    simp only [n_73, e_73_0, e_73_1, e_73_4, e_73_5, e_73_8, e_73_9, e_73_12, e_73_15, e_73_16, e_73_19, e_73_20, e_73_23, e_73_26, e_73_27, e_73_30, e_73_31, e_73_34, e_73_37, e_73_38, e_73_41, e_73_42, e_73_45, e_73_48, e_73_49, e_73_50, e_73_53, e_73_56, e_73_59, e_73_60, f_73_61, e_73_64, e_73_67, e_73_68, f_73_69, e_73_72, e_73_75, e_73_76, f_73_78, e_73_80, e_73_83, e_73_84, e_73_85, e_73_88, e_73_89, e_73_90b0, e_73_90b1, e_73_93, f_73_94, e_73_96, e_73_97, e_73_100, e_73_101, e_73_104, e_73_105, e_73_108, e_73_109, e_73_112, f_73_113, e_73_116, e_73_119, f_73_120, e_73_122, e_73_123, e_73_126, e_73_127, e_73_130, e_73_131, e_73_134, e_73_135, e_73_138, f_73_139, e_73_142, e_73_145, Option.bind_some, Option.toList_some, Option.toList_none, List.cons_append, List.nil_append, am_k1_i, am_k1_r, am_k1_u, am_k1_n, am_bo0, am_bo1, am_boi, am_ev_tb, am_tb_nil, am_rfs, am_rfn, eq_self, and_self, if_true, if_false, show ¬ (1 : Int32) = 0 from by decide, show ¬ (0 : Int32) = 1 from by decide, not_true, not_false_eq_true, and_true, true_and, and_false, false_and, or_true, true_or, or_false, false_or, hlt, oa, ra, ec, hw, am_cl (show q < 2147483648 by omega), nI_1]
    refine ih (q + 1) (am_pr hc q0 q (some (am_top h'))) (by omega) ⟨?_, ?_⟩ (ex.tr ((xh.wd (fun _ _ z => z.elim)).tr (am_ex.pr rfl))) (fun i hi2 => ?_)
    · show am_top hc = _; omega
    · show am_sl hc = _; rw [sc, nw_sl]; omega
    · rw [am_pr_r]
      by_cases e : i = q
      · rw [if_pos e, e, ← ht.1]
        refine ⟨rfl, ?_⟩
        have F : sf hc (am_top h') := ⟨(ob_ex oT xc).2, k1, k2, k3, k4, k5⟩
        exact F.ex (by omega) (am_ex.pr (X := fun b => b = q0) rfl) (by omega) (by omega)
      · obtain ⟨z1, z2⟩ := hi i (by omega)
        rw [if_neg e, (xh.2.2 q0 (by omega) id).2]
        refine ⟨z1, ?_⟩
        have F := z2.ex (by omega) xh id id
        exact F.ex (by omega) (am_ex.pr (X := fun b => b = q0) rfl) (by omega) (by omega)
theorem io_ll {q0 : Nat} (ho : am_ob G h o 8) (hr : am_r h o 6 = some q0) (hp : G 0 ≤ q0 ∧ q0 < am_top h) (hs : am_sh h q0 = (26, 5)) (hne : o ≠ q0) : ∀ j q h', q + j = 5 → (am_top h' = am_top h + 4 * q ∧ am_sl h' = am_sl h + 37 * q) → am_ex (fun b => b = q0) h h' → (∀ i, i < q → am_r h' q0 i = some (am_top h + 4 * i) ∧ lf h' (am_top h + 4 * i)) → ∃ h2, am_ev G (d + 3) 73 121 [some (.ref o), some (.int (nI q))] [] h' = some (none, h2) ∧ (am_top h2 = am_top h + 4 * 5 ∧ am_sl h2 = am_sl h + 37 * 5) ∧ am_ex (fun b => b = q0) h h2 ∧ ∀ i, i < 5 → am_r h2 q0 i = some (am_top h + 4 * i) ∧ lf h2 (am_top h + 4 * i) := by
  intro j
  induction j with
  | zero =>
    intro q h' hq ht ex hi
    obtain rfl : q = 5 := by omega
    refine ⟨h', ?_, ht, ex, hi⟩
    rw [e_73_121]
    simp only [n_73, e_73_0, e_73_1, e_73_4, e_73_5, e_73_8, e_73_9, e_73_12, e_73_15, e_73_16, e_73_19, e_73_20, e_73_23, e_73_26, e_73_27, e_73_30, e_73_31, e_73_34, e_73_37, e_73_38, e_73_41, e_73_42, e_73_45, e_73_48, e_73_49, e_73_50, e_73_53, e_73_56, e_73_59, e_73_60, f_73_61, e_73_64, e_73_67, e_73_68, f_73_69, e_73_72, e_73_75, e_73_76, f_73_78, e_73_80, e_73_83, e_73_84, e_73_85, e_73_88, e_73_89, e_73_90b0, e_73_90b1, e_73_93, f_73_94, e_73_96, e_73_97, e_73_100, e_73_101, e_73_104, e_73_105, e_73_108, e_73_109, e_73_112, f_73_113, e_73_116, e_73_119, f_73_120, e_73_122, e_73_123, e_73_126, e_73_127, e_73_130, e_73_131, e_73_134, e_73_135, e_73_138, f_73_139, e_73_142, e_73_145, Option.bind_some, Option.toList_some, Option.toList_none, List.cons_append, List.nil_append, am_k1_i, am_k1_r, am_k1_u, am_k1_n, am_bo0, am_bo1, am_boi, am_ev_tb, am_tb_nil, am_rfs, am_rfn, eq_self, and_self, if_true, if_false, show ¬ (1 : Int32) = 0 from by decide, show ¬ (0 : Int32) = 1 from by decide, not_true, not_false_eq_true, and_true, true_and, and_false, false_and, or_true, true_or, or_false, false_or, show (5 : Int32) ≤ nI 5 from by decide]
    try rfl
  | succ j ih =>
    intro q h' hq ht ex hi
    have hlt : ¬ (5 : Int32) ≤ nI q := nI_ge (b := 5) (by omega) (by decide)
    have hle := ex.1
    have oa : am_ob G h' o 8 := ob_ex ho ex
    have ra : am_r h' o 6 = some q0 := by rw [(ex.2.2 o ho.1.2 (show ¬ o = q0 from hne)).2]; exact hr
    have oT : am_ob G (am_new h' 5 0 4) (am_top h') 5 := ob_n0 (by omega)
    obtain ⟨hc, ec, ⟨tc, sc⟩, xc, k1, k2⟩ := c_iL (d := d) oT (by rw [nw_t]; omega)
    rw [nw_t] at tc k1
    have sp : am_sh hc q0 = (26, 5) := by rw [xc.2.1 q0 (by rw [nw_t]; omega), nw_sh (by omega), ex.2.1 q0 hp.2]; exact hs
    have hw : am_rw G hc q0 (nI q) (am_top h') := by
      refine ⟨⟨⟨⟨hp.1, by omega⟩, ?_⟩, ?_⟩, ⟨by omega, by omega⟩, ?_⟩
      · rw [sp]; exact ⟨by decide, by decide⟩
      · rw [sp]; exact nI_in (show q < 5 by omega) (by decide)
      · rw [sp, (ob_ex oT xc).2]; rfl
    have xh : am_ex (fun _ => False) h' hc := ex_new xc
    rw [e_73_121]
    simp only [n_73, e_73_0, e_73_1, e_73_4, e_73_5, e_73_8, e_73_9, e_73_12, e_73_15, e_73_16, e_73_19, e_73_20, e_73_23, e_73_26, e_73_27, e_73_30, e_73_31, e_73_34, e_73_37, e_73_38, e_73_41, e_73_42, e_73_45, e_73_48, e_73_49, e_73_50, e_73_53, e_73_56, e_73_59, e_73_60, f_73_61, e_73_64, e_73_67, e_73_68, f_73_69, e_73_72, e_73_75, e_73_76, f_73_78, e_73_80, e_73_83, e_73_84, e_73_85, e_73_88, e_73_89, e_73_90b0, e_73_90b1, e_73_93, f_73_94, e_73_96, e_73_97, e_73_100, e_73_101, e_73_104, e_73_105, e_73_108, e_73_109, e_73_112, f_73_113, e_73_116, e_73_119, f_73_120, e_73_122, e_73_123, e_73_126, e_73_127, e_73_130, e_73_131, e_73_134, e_73_135, e_73_138, f_73_139, e_73_142, e_73_145, Option.bind_some, Option.toList_some, Option.toList_none, List.cons_append, List.nil_append, am_k1_i, am_k1_r, am_k1_u, am_k1_n, am_bo0, am_bo1, am_boi, am_ev_tb, am_tb_nil, am_rfs, am_rfn, eq_self, and_self, if_true, if_false, show ¬ (1 : Int32) = 0 from by decide, show ¬ (0 : Int32) = 1 from by decide, not_true, not_false_eq_true, and_true, true_and, and_false, false_and, or_true, true_or, or_false, false_or, hlt, oa, ra, ec, hw, am_cl (show q < 2147483648 by omega), nI_1]
    refine ih (q + 1) (am_pr hc q0 q (some (am_top h'))) (by omega) ⟨?_, ?_⟩ (ex.tr ((xh.wd (fun _ _ z => z.elim)).tr (am_ex.pr rfl))) (fun i hi2 => ?_)
    · show am_top hc = _; omega
    · show am_sl hc = _; rw [sc, nw_sl]; omega
    · rw [am_pr_r]
      by_cases e : i = q
      · rw [if_pos e, e, ← ht.1]
        refine ⟨rfl, ?_⟩
        have F : lf hc (am_top h') := ⟨(ob_ex oT xc).2, k1, k2⟩
        exact F.ex (by omega) (am_ex.pr (X := fun b => b = q0) rfl) (by omega) (by omega)
      · obtain ⟨z1, z2⟩ := hi i (by omega)
        rw [if_neg e, (xh.2.2 q0 (by omega) id).2]
        refine ⟨z1, ?_⟩
        have F := z2.ex (by omega) xh id id
        exact F.ex (by omega) (am_ex.pr (X := fun b => b = q0) rfl) (by omega) (by omega)
end IO
