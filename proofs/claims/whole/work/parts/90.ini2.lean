/-! the object and the reference, as they stand at first -/
section IZ
variable {G : Nat → Nat} {d : Nat} {h : am_H} {o m : Nat}
def io_X (o : Nat) : Nat → Prop := fun b => b = o ∨ b = o + 86 ∨ b = o + 87
set_option maxHeartbeats 16000000 in
theorem c_init (ho : am_ob G h o 8) (ht : am_top h = o + 1) (hG : G 0 ≤ o) : ∃ h9, am_evm G (d + 3) 73 [.ref o] h = some (none, h9) ∧ (am_top h9 = o + 117 ∧ am_sl h9 ≤ am_sl h + 5000) ∧ am_ex (fun b => b = o) h h9 ∧ cl_Obj G h9 o ∧ (hk G h9 (o + 1) ∧ hk G h9 (o + 27) ∧ hk G h9 (o + 53)) ∧ (am_i h9 (o + 79) 1 = 0 ∧ am_i h9 o 8 = 0 ∧ am_i h9 o 9 = 0) ∧ (∀ i, i < 4 → sf h9 (o + 89 + 2 * i)) ∧ ∀ i, i < 5 → lf h9 (o + 97 + 4 * i) := by
  have e0 : am_evm G (d + 3) 73 [.ref o] h = am_ev G (d + 3) 73 4 [some (.ref o), none] [] h := by
    simp only [n_73, e_73_0, e_73_1, Option.bind_some, Option.toList_some, Option.toList_none, List.cons_append, List.nil_append, am_k1_i, am_k1_r, am_k1_u, am_k1_n, am_bo0, am_bo1, am_boi, am_ev_tb, am_tb_nil, am_rfs, am_rfn, eq_self]
  obtain ⟨h1, e1, ⟨t1, s1⟩, x1, k1⟩ := io_h0 (d := d) ho ht (by omega)
  let p1 := am_pr h1 o 0 (some (o + 1))
  have o1' : am_ob G h1 o 8 := ob_ex ho x1
  have o1 : am_ob G p1 o 8 := o1'
  have tp1 : am_top p1 = o + 27 := by show am_top h1 = _; omega
  obtain ⟨h2, e2, ⟨t2, s2⟩, x2, k2⟩ := io_h1 (d := d) o1 tp1 (by omega)
  let p2 := am_pr h2 o 1 (some (o + 27))
  have o2' : am_ob G h2 o 8 := ob_ex o1 x2
  have o2 : am_ob G p2 o 8 := o2'
  have tp2 : am_top p2 = o + 53 := by show am_top h2 = _; omega
  obtain ⟨h3, e3, ⟨t3, s3⟩, x3, k3⟩ := io_h2 (d := d) o2 tp2 (by omega)
  let p3 := am_pr h3 o 2 (some (o + 53))
  have o3' : am_ob G h3 o 8 := ob_ex o2 x3
  have o3 : am_ob G p3 o 8 := o3'
  have tp3 : am_top p3 = o + 79 := by show am_top h3 = _; omega
  obtain ⟨h4, e4, ⟨t4, s4⟩, x4, k4⟩ := io_t (d := d) o3 tp3 (by omega)
  let p4 := am_pr h4 o 3 (some (o + 79))
  have o4' : am_ob G h4 o 8 := ob_ex o3 x4
  have o4 : am_ob G p4 o 8 := o4'
  have tp4 : am_top p4 = o + 81 := by show am_top h4 = _; omega
  have r43 : am_r p4 o 3 = some (o + 79) := by
    show am_r (am_pr h4 o 3 (some (o + 79))) o 3 = _
    rw [am_pr_r, if_pos rfl]
  obtain ⟨h5, e5, ⟨t5, s5⟩, x5, k5⟩ := io_r (d := d) o4 tp4 (by omega) r43
  let p5 := am_pr h5 o 4 (some (o + 81))
  have o5' : am_ob G h5 o 8 := ob_ex o4 x5
  have o5 : am_ob G p5 o 8 := o5'
  have tp5 : am_top p5 = o + 86 := by show am_top h5 = _; omega
  have e6 := io_w (d := d) o5 tp5
  let q1 := am_pr (am_new p5 25 4 4) o 5 (some (o + 86))
  let q2 := am_pr (am_new q1 26 5 5) o 6 (some (o + 86 + 1))
  let q3 := am_pr (am_new q2 20 60 60) o 7 (some (o + 86 + 2))
  let p8 := am_pi (am_pi q3 o 8 0) o 9 0
  have tq1 : am_top q1 = o + 87 := by show am_top p5 + 1 = _; omega
  have tq2 : am_top q2 = o + 88 := by show am_top p5 + 1 + 1 = _; omega
  have tp8 : am_top p8 = o + 89 := by show am_top p5 + 1 + 1 + 1 = _; omega
  have xq1 : am_ex (fun b => b = o) p5 q1 := am_ex.new (X := fun b => b = o) |>.tr (am_ex.pr rfl)
  have xq2 : am_ex (fun b => b = o) q1 q2 := am_ex.new (X := fun b => b = o) |>.tr (am_ex.pr rfl)
  have xq3 : am_ex (fun b => b = o) q2 p8 := am_ex.new (X := fun b => b = o) |>.tr (am_ex.pr rfl) |>.tr (am_ex.pi rfl) |>.tr (am_ex.pi rfl)
  have x8 : am_ex (fun b => b = o) p5 p8 := (xq1.tr xq2).tr xq3
  have o8 : am_ob G p8 o 8 := ob_ex o5 x8
  have sh86 : am_sh p8 (o + 86) = (25, 4) := by
    rw [xq3.2.1 _ (by omega), xq2.2.1 _ (by omega), ← tp5]
    exact nw_sh0 (h := p5) (sl := 4)
  have sh87 : am_sh p8 (o + 87) = (26, 5) := by
    rw [xq3.2.1 _ (by omega), ← tq1]
    exact nw_sh0 (h := q1) (sl := 5)
  have sh88 : am_sh p8 (o + 88) = (20, 60) := by
    rw [← tq2]
    exact nw_sh0 (h := q2) (sl := 60)
  have r7 : am_r p8 o 7 = some (o + 88) := by
    show am_r (am_pr (am_new q2 20 60 60) o 7 (some (o + 86 + 2))) o 7 = _
    rw [am_pr_r, if_pos rfl]
  have rl7 : ∀ j, j ≠ 7 → am_r p8 o j = am_r q2 o j := fun j hj => by
    show am_r (am_pr (am_new q2 20 60 60) o 7 (some (o + 86 + 2))) o j = _
    rw [am_pr_r, if_neg hj, nw_r (by omega)]
  have r6 : am_r p8 o 6 = some (o + 87) := by
    rw [rl7 6 (by decide)]
    show am_r (am_pr (am_new q1 26 5 5) o 6 (some (o + 86 + 1))) o 6 = _
    rw [am_pr_r, if_pos rfl]
  have rl6 : ∀ j, j ≠ 7 → j ≠ 6 → am_r p8 o j = am_r q1 o j := fun j h7 h6 => by
    rw [rl7 j h7]
    show am_r (am_pr (am_new q1 26 5 5) o 6 (some (o + 86 + 1))) o j = _
    rw [am_pr_r, if_neg h6, nw_r (by omega)]
  have r5 : am_r p8 o 5 = some (o + 86) := by
    rw [rl6 5 (by decide) (by decide)]
    show am_r (am_pr (am_new p5 25 4 4) o 5 (some (o + 86))) o 5 = _
    rw [am_pr_r, if_pos rfl]
  have rl5 : ∀ j, j < 5 → am_r p8 o j = am_r p5 o j := fun j hj => by
    rw [rl6 j (by omega) (by omega)]
    show am_r (am_pr (am_new p5 25 4 4) o 5 (some (o + 86))) o j = _
    rw [am_pr_r, if_neg (by omega), nw_r (by omega)]
  have r4 : am_r p8 o 4 = some (o + 81) := by
    rw [rl5 4 (by omega)]
    show am_r (am_pr h5 o 4 (some (o + 81))) o 4 = _
    rw [am_pr_r, if_pos rfl]
  have rl4 : ∀ j, j < 4 → am_r p8 o j = am_r p4 o j := fun j hj => by
    rw [rl5 j (by omega)]
    show am_r (am_pr h5 o 4 (some (o + 81))) o j = _
    rw [am_pr_r, if_neg (by omega), (x5.2.2 o (by omega) id).2]
  have r3 : am_r p8 o 3 = some (o + 79) := by rw [rl4 3 (by omega)]; exact r43
  have rl3 : ∀ j, j < 3 → am_r p8 o j = am_r p3 o j := fun j hj => by
    rw [rl4 j (by omega)]
    show am_r (am_pr h4 o 3 (some (o + 79))) o j = _
    rw [am_pr_r, if_neg (by omega), (x4.2.2 o (by omega) id).2]
  have r2 : am_r p8 o 2 = some (o + 53) := by
    rw [rl3 2 (by omega)]
    show am_r (am_pr h3 o 2 (some (o + 53))) o 2 = _
    rw [am_pr_r, if_pos rfl]
  have rl2 : ∀ j, j < 2 → am_r p8 o j = am_r p2 o j := fun j hj => by
    rw [rl3 j (by omega)]
    show am_r (am_pr h3 o 2 (some (o + 53))) o j = _
    rw [am_pr_r, if_neg (by omega), (x3.2.2 o (by omega) id).2]
  have r1 : am_r p8 o 1 = some (o + 27) := by
    rw [rl2 1 (by omega)]
    show am_r (am_pr h2 o 1 (some (o + 27))) o 1 = _
    rw [am_pr_r, if_pos rfl]
  have r0 : am_r p8 o 0 = some (o + 1) := by
    rw [rl2 0 (by omega)]
    show am_r (am_pr h2 o 1 (some (o + 27))) o 0 = _
    rw [am_pr_r, if_neg (by omega), (x2.2.2 o (by omega) id).2]
    show am_r (am_pr h1 o 0 (some (o + 1))) o 0 = _
    rw [am_pr_r, if_pos rfl]
  have E8 : am_evm G (d + 3) 73 [.ref o] h = am_ev G (d + 3) 73 99 [some (.ref o), some (.int (nI 0))] [] p8 := by
    rw [e0, e1]
    show am_ev G (d + 3) 73 15 [some (.ref o), none] [] p1 = _
    rw [e2]
    show am_ev G (d + 3) 73 26 [some (.ref o), none] [] p2 = _
    rw [e3]
    show am_ev G (d + 3) 73 37 [some (.ref o), none] [] p3 = _
    rw [e4]
    show am_ev G (d + 3) 73 48 [some (.ref o), none] [] p4 = _
    rw [e5]
    show am_ev G (d + 3) 73 63 [some (.ref o), none] [] p5 = _
    rw [e6]
  have xp1 : am_ex (io_X o) h1 p1 := am_ex.pr (Or.inl rfl)
  have xp2 : am_ex (io_X o) h2 p2 := am_ex.pr (Or.inl rfl)
  have xp3 : am_ex (io_X o) h3 p3 := am_ex.pr (Or.inl rfl)
  have xp4 : am_ex (io_X o) h4 p4 := am_ex.pr (Or.inl rfl)
  have xp5 : am_ex (io_X o) h5 p5 := am_ex.pr (Or.inl rfl)
  have sl8 : am_sl p8 = am_sl h5 + 69 := by show am_sl h5 + 4 + 5 + 60 = _; omega
  have sl1 : am_sl p1 = am_sl h1 := rfl
  have sl2 : am_sl p2 = am_sl h2 := rfl
  have sl3 : am_sl p3 = am_sl h3 := rfl
  have sl4 : am_sl p4 = am_sl h4 := rfl
  have i88 : am_i p8 o 8 = 0 ∧ am_i p8 o 9 = 0 := by
    refine ⟨?_, ?_⟩
    · show am_i (am_pi (am_pi q3 o 8 0) o 9 0) o 8 = 0
      rw [am_pi_i, if_neg (by omega), am_pi_i, if_pos ⟨rfl, rfl⟩]
    · show am_i (am_pi (am_pi q3 o 8 0) o 9 0) o 9 = 0
      rw [am_pi_i, if_pos ⟨rfl, rfl⟩]
  clear e0 e1 e2 e3 e4 e5 e6 rl7 rl6 rl5 rl4 rl3 rl2 r43 o1' o2' o3' o4' o5'
  clear_value p8 q3 q2 q1 p5 p4 p3 p2 p1
  obtain ⟨ha, ea, ⟨ta, sa⟩, xa, fa⟩ := io_ls (d := d) (q0 := o + 86) o8 r5 ⟨by omega, by omega⟩ sh86 (by omega) 4 0 p8 (by omega) ⟨by omega, by omega⟩ am_ex.rf (fun i hi => absurd hi (Nat.not_lt_zero i))
  rw [tp8] at fa
  have oa : am_ob G ha o 8 := ob_ex o8 xa
  have ra : am_r ha o = am_r p8 o := (xa.2.2 o (by omega) (show ¬ o = o + 86 by omega)).2
  have tha : am_top ha = o + 97 := by omega
  have l87 : o + 87 < am_top p8 := by omega
  have sa87 : am_sh ha (o + 87) = (26, 5) := (xa.2.1 (o + 87) l87).trans sh87
  have ra6 : am_r ha o 6 = some (o + 87) := (congrFun ra 6).trans r6
  have g87 : G 0 ≤ o + 87 ∧ o + 87 < am_top ha := ⟨by omega, by omega⟩
  obtain ⟨hb, eb, ⟨tb, sb⟩, xb, fb⟩ := io_ll (d := d) (q0 := o + 87) oa ra6 g87 sa87 (by omega) 5 0 ha (by omega) ⟨by omega, by omega⟩ am_ex.rf (fun i hi => absurd hi (Nat.not_lt_zero i))
  rw [tha] at fb
  have thb : am_top hb = o + 117 := by omega
  have rb : am_r hb o = am_r p8 o := ((xb.2.2 o (by omega) (show ¬ o = o + 87 by omega)).2).trans ra
  -- from each stage to the last
  have T8 : am_ex (io_X o) p8 hb := (xa.wd (fun b _ z => Or.inr (Or.inl z))).tr (xb.wd (fun b _ z => Or.inr (Or.inr z)))
  have T5 : am_ex (io_X o) h5 hb := xp5 |>.tr (x8.wd (fun b _ z => Or.inl z)) |>.tr T8
  have T4 : am_ex (io_X o) h4 hb := xp4 |>.tr (x5.wd (fun b _ z => z.elim)) |>.tr T5
  have T3 : am_ex (io_X o) h3 hb := xp3 |>.tr (x4.wd (fun b _ z => z.elim)) |>.tr T4
  have T2 : am_ex (io_X o) h2 hb := xp2 |>.tr (x3.wd (fun b _ z => z.elim)) |>.tr T3
  have T1 : am_ex (io_X o) h1 hb := xp1 |>.tr (x2.wd (fun b _ z => z.elim)) |>.tr T2
  have T0 : am_ex (io_X o) h hb := (x1.wd (fun b _ z => z.elim)).tr T1
  have N : ∀ k, k ≠ 0 → k ≠ 86 → k ≠ 87 → ¬ io_X o (o + k) := fun k z1 z2 z3 z => by unfold io_X at z; omega
  have i8 : am_i hb o 8 = 0 ∧ am_i hb o 9 = 0 := by
    rw [(xb.2.2 o (by omega) (show ¬ o = o + 87 by omega)).1, (xa.2.2 o (by omega) (show ¬ o = o + 86 by omega)).1]
    exact i88
  have fS : ∀ i, i < 4 → am_r hb (o + 86) i = some (o + 89 + 2 * i) ∧ sf hb (o + 89 + 2 * i) := fun i hi => by
    obtain ⟨z1, z2⟩ := fa i hi
    refine ⟨by rw [(xb.2.2 (o + 86) (by omega) (show ¬ o + 86 = o + 87 by omega)).2]; exact z1, z2.ex (by omega) xb (show ¬ o + 89 + 2 * i = o + 87 by omega) (show ¬ o + 89 + 2 * i + 1 = o + 87 by omega)⟩
  refine ⟨hb, ?_, ⟨thb, by omega⟩, ?_, ?_, ⟨k1.ex T1 (fun b z => by unfold io_X at z; omega), k2.ex T2 (fun b z => by unfold io_X at z; omega), k3.ex T3 (fun b z => by unfold io_X at z; omega)⟩, ⟨?_, i8.1, i8.2⟩, fun i hi => (fS i hi).2, fun i hi => (fb i hi).2⟩
  · rw [E8, ea, eb]
  · exact T0.wd (fun b hb2 z => by unfold io_X at z; show b = o; omega)
  · obtain ⟨k41, k42, k43, k44⟩ := k4
    obtain ⟨k51, ⟨k52, k53, k54, k55, k56⟩, k57, k58, k59, k60⟩ := k5
    have z79 := T4.2.2 (o + 79) (by omega) (N 79 (by omega) (by omega) (by omega))
    have z81 := T5.2.2 (o + 81) (by omega) (N 81 (by omega) (by omega) (by omega))
    refine ⟨⟨hG, by omega, (ob_ex (ob_ex o8 xa) xb).2⟩, ?_, ⟨by rw [T4.2.1 _ (by omega)]; exact k41, by rw [z79.2]; exact k42, by rw [T4.2.1 _ (by omega)]; exact k43⟩, ⟨by rw [T5.2.1 _ (by omega)]; exact k51, by rw [z81.2]; exact k52, by rw [z81.2]; exact k53, by rw [z81.2]; exact k54, by rw [z81.2]; exact k55, by rw [z81.2]; exact k56, by rw [T5.2.1 _ (by omega)]; exact k57, by rw [T5.2.1 _ (by omega)]; exact k58, by rw [T5.2.1 _ (by omega)]; exact k59, by rw [T5.2.1 _ (by omega)]; exact k60⟩, ⟨by rw [T8.2.1 _ (by omega)]; exact sh86, by rw [T8.2.1 _ (by omega)]; exact sh87, by rw [T8.2.1 _ (by omega)]; exact sh88⟩, fun i hi => ?_, fun i hi => ?_⟩
    · rw [rb]; exact ⟨r0, r1, r2, r3, r4, r5, r6, r7⟩
    · obtain ⟨z1, z2⟩ := fS i hi
      exact ⟨z1, z2.1, by rw [z2.2.1], z2.2.2.1⟩
    · obtain ⟨z1, z2⟩ := fb i hi
      exact ⟨z1, z2.1, z2.2.1.1, z2.2.1.2.1, z2.2.1.2.2.1, z2.2.1.2.2.2.1, z2.2.1.2.2.2.2.1, z2.2.1.2.2.2.2.2⟩
  · rw [(T4.2.2 (o + 79) (by omega) (N 79 (by omega) (by omega) (by omega))).1]
    exact k4.2.2.2
/-- both made: all holds -/
theorem iv_0 {h1 : am_H} (ho : o = G 0) (hm : m = o + 117) (cE : cl_E G h1) (lo : cl_Obj G h1 o) (k1 : hk G h1 (o + 1)) (k2 : hk G h1 (o + 27)) (k3 : hk G h1 (o + 53)) (z1 : am_i h1 (o + 79) 1 = 0) (z2 : am_i h1 o 8 = 0) (z3 : am_i h1 o 9 = 0) (fs : ∀ i, i < 4 → sf h1 (o + 89 + 2 * i)) (fl : ∀ i, i < 5 → lf h1 (o + 97 + 4 * i)) (lm : cm_Lay G h1 m) (m0 : am_i h1 m = fun _ => 0) (m1 : am_i h1 (m + 1) = fun k => if k = 4 then 1 else if k = 3 then 2 else 0) (m4 : ∀ k, k < 4 → am_i h1 (m + 4) k = -1) (mj : ∀ j, 2 ≤ j → j ≤ 18 → j ≠ 4 → am_i h1 (m + j) = fun _ => 0) : iv G h1 o m := by
  have tx : ∀ a, hk G h1 a → cl_Tx G h1 a := fun a k t _ => Or.inl (k.2.2.2 t)
  refine ⟨⟨⟨ho, hm⟩, lm, lo, ⟨k1.1, k2.1, k3.1⟩, ⟨tx _ k1, tx _ k2, tx _ k3⟩, cE⟩, ⟨0, 0, 0, ?_, ?_⟩, ⟨by rw [z3, m0], Or.inl (by rw [m0])⟩, ⟨0, by omega, z1, by rw [m0]; rfl, fun j hj => absurd hj (Nat.not_lt_zero j)⟩, fun i hi => ?_, fun i hi => ?_, ⟨0, by omega, z2, by rw [m0]; rfl, fun k hk => absurd hk (Nat.not_lt_zero k)⟩⟩
  · rw [m1]
    exact ⟨⟨⟨rfl, by omega⟩, ⟨rfl, by omega⟩, rfl, by omega⟩, fun p hp => absurd hp (Nat.not_lt_zero p), fun p hp => absurd hp (Nat.not_lt_zero p), fun p hp => absurd hp (Nat.not_lt_zero p)⟩
  · rw [m1]
    refine ⟨k1.1, ⟨k1.2.1.1, k1.2.1.2.1, k1.2.1.2.2.1, k1.2.1.2.2.2.1, k1.2.1.2.2.2.2⟩, fun p hp => absurd hp (Nat.not_lt_zero p), fun p hp => absurd hp (Nat.not_lt_zero p), fun p hp => absurd hp (Nat.not_lt_zero p), fun k hk => ?_⟩
    rw [k1.2.2.1 k hk]
    rfl
  · obtain ⟨f1, f2, f3, f4, f5, f6⟩ := fs i hi
    refine ⟨by rw [f4, m4 i hi], Or.inl (m4 i hi), 0, by omega, f5, by rw [mj 5 (by omega) (by omega) (by omega)]; rfl, fun k hk => ?_⟩
    rw [mj 6 (by omega) (by omega) (by omega), show o + 90 + 2 * i = o + 89 + 2 * i + 1 by omega]
    exact f6 k
  · obtain ⟨f1, f2, f3⟩ := fl i hi
    have m7 : am_i h1 (m + 7) i = 0 := by rw [mj 7 (by omega) (by omega) (by omega)]
    refine ⟨by rw [f3, m7], fun z => ?_, fun z => ?_, fun z => ?_⟩
    · rw [m7] at z; exact absurd z (by decide)
    · rw [m7] at z; exact absurd z (by decide)
    · rw [m7] at z; exact absurd z (by decide)
end IZ
