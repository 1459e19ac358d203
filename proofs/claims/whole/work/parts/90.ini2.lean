/-! the object and the reference, as they stand at first -/
section IZ
variable {G : Nat → Nat} {d : Nat} {h p : am_H} {o m A : Nat}
theorem ex_o {h1 h2 : am_H} {k v : Nat} (x : am_ex (fun _ => False) p h1) : am_ex (fun b => b = o) p (am_pr h1 o k (some v)) := (x.wd (fun _ _ z => z.elim)).tr (am_ex.pr rfl)
theorem io_H0 (ho : am_ob G p o 8) (hA : am_top p = A) (hG : G 0 ≤ o) (hoA : o < A) : ∃ p1, am_ev G (d + 3) 73 4 [some (.ref o), none] [] p = am_ev G (d + 3) 73 15 [some (.ref o), none] [] p1 ∧ (am_top p1 = A + 26 ∧ am_sl p1 = am_sl p + 263) ∧ am_ex (fun b => b = o) p p1 ∧ (∀ j, am_r p1 o j = if j = 0 then some A else am_r p o j) ∧ hk G p1 A := by
  obtain ⟨h1, e, ts, x, k⟩ := io_h0 (d := d) ho hA (by omega)
  have hx : am_ex (fun b => b = o) h1 (am_pr h1 o 0 (some A)) := am_ex.pr rfl
  exact ⟨_, e, ts, ex_o (h2 := h1) x, fun j => by rw [am_pr_r, (x.2.2 o ho.1.2 id).2], k.ex hx (fun b z => Or.inl (by rw [show b = o from z]; exact hoA))⟩
theorem io_H1 (ho : am_ob G p o 8) (hA : am_top p = A) (hG : G 0 ≤ o) (hoA : o < A) : ∃ p1, am_ev G (d + 3) 73 15 [some (.ref o), none] [] p = am_ev G (d + 3) 73 26 [some (.ref o), none] [] p1 ∧ (am_top p1 = A + 26 ∧ am_sl p1 = am_sl p + 263) ∧ am_ex (fun b => b = o) p p1 ∧ (∀ j, am_r p1 o j = if j = 1 then some A else am_r p o j) ∧ hk G p1 A := by
  obtain ⟨h1, e, ts, x, k⟩ := io_h1 (d := d) ho hA (by omega)
  have hx : am_ex (fun b => b = o) h1 (am_pr h1 o 1 (some A)) := am_ex.pr rfl
  exact ⟨_, e, ts, ex_o (h2 := h1) x, fun j => by rw [am_pr_r, (x.2.2 o ho.1.2 id).2], k.ex hx (fun b z => Or.inl (by rw [show b = o from z]; exact hoA))⟩
theorem io_H2 (ho : am_ob G p o 8) (hA : am_top p = A) (hG : G 0 ≤ o) (hoA : o < A) : ∃ p1, am_ev G (d + 3) 73 26 [some (.ref o), none] [] p = am_ev G (d + 3) 73 37 [some (.ref o), none] [] p1 ∧ (am_top p1 = A + 26 ∧ am_sl p1 = am_sl p + 263) ∧ am_ex (fun b => b = o) p p1 ∧ (∀ j, am_r p1 o j = if j = 2 then some A else am_r p o j) ∧ hk G p1 A := by
  obtain ⟨h1, e, ts, x, k⟩ := io_h2 (d := d) ho hA (by omega)
  have hx : am_ex (fun b => b = o) h1 (am_pr h1 o 2 (some A)) := am_ex.pr rfl
  exact ⟨_, e, ts, ex_o (h2 := h1) x, fun j => by rw [am_pr_r, (x.2.2 o ho.1.2 id).2], k.ex hx (fun b z => Or.inl (by rw [show b = o from z]; exact hoA))⟩
theorem io_R (ho : am_ob G p o 8) (hA : am_top p = A) (hG : G 0 ≤ o) (hoA : o < A) : ∃ p1, am_ev G (d + 3) 73 37 [some (.ref o), none] [] p = am_ev G (d + 3) 73 48 [some (.ref o), none] [] p1 ∧ (am_top p1 = A + 7 ∧ am_sl p1 = am_sl p + 496) ∧ am_ex (fun b => b = o) p p1 ∧ (∀ j, am_r p1 o j = if j = 3 then some A else am_r p o j) ∧ (am_sh p1 A).1 = 3 ∧ (am_r p1 A 0 = some (A + 1) ∧ am_r p1 A 1 = some (A + 3) ∧ am_r p1 A 2 = some (A + 4) ∧ am_r p1 A 3 = some (A + 5) ∧ am_r p1 A 4 = some (A + 6)) ∧ ((am_sh p1 (A + 1)).1 = 6 ∧ am_r p1 (A + 1) 0 = some (A + 2) ∧ am_sh p1 (A + 2) = (21, 96) ∧ am_i p1 (A + 1) 1 = 0) ∧ am_sh p1 (A + 3) = (20, 97) ∧ am_sh p1 (A + 4) = (20, 97) ∧ am_sh p1 (A + 5) = (20, 97) ∧ am_sh p1 (A + 6) = (20, 96) := by
  obtain ⟨h1, e, ts, x, k1, k2, ⟨k3, k4, k5, k6⟩, k7⟩ := io_r (d := d) ho hA (by omega)
  exact ⟨_, e, ts, ex_o (h2 := h1) x, fun j => by rw [am_pr_r, (x.2.2 o ho.1.2 id).2], k1, by rw [pr_ne (by omega)]; exact k2, ⟨k3, by rw [pr_ne (by omega)]; exact k4, k5, k6⟩, k7⟩
theorem io_W (ho : am_ob G p o 8) (hA : am_top p = A) (hoA : o < A) : ∃ p1, am_ev G (d + 3) 73 59 [some (.ref o), none] [] p = am_ev G (d + 3) 73 95 [some (.ref o), some (.int (nI 0))] [] p1 ∧ (am_top p1 = A + 3 ∧ am_sl p1 = am_sl p + 69) ∧ am_ex (fun b => b = o) p p1 ∧ (∀ j, am_r p1 o j = if j = 7 then some (A + 2) else if j = 6 then some (A + 1) else if j = 5 then some A else am_r p o j) ∧ (am_sh p1 A = (25, 4) ∧ am_sh p1 (A + 1) = (26, 5) ∧ am_sh p1 (A + 2) = (20, 60)) ∧ am_i p1 o 8 = 0 ∧ am_i p1 o 9 = 0 := by
  have e := io_w (d := d) ho hA
  refine ⟨_, e, ⟨?_, rfl⟩, ?_, fun j => ?_, ⟨?_, ?_, ?_⟩, ?_, ?_⟩
  · show am_top p + 1 + 1 + 1 = _; omega
  · exact am_ex.new (X := fun b => b = o) |>.tr (am_ex.pr rfl) |>.tr am_ex.new |>.tr (am_ex.pr rfl) |>.tr am_ex.new |>.tr (am_ex.pr rfl) |>.tr (am_ex.pi rfl) |>.tr (am_ex.pi rfl)
  · show am_r (am_pr (am_new (am_pr (am_new (am_pr (am_new p 25 4 4) o 5 (some A)) 26 5 5) o 6 (some (A + 1))) 20 60 60) o 7 (some (A + 2))) o j = _
    rw [am_pr_r]
    by_cases z7 : j = 7
    · rw [if_pos z7, if_pos z7]
    rw [if_neg z7, if_neg z7, nw_r (by show o ≠ am_top p + 1 + 1; omega), am_pr_r]
    by_cases z6 : j = 6
    · rw [if_pos z6, if_pos z6]
    rw [if_neg z6, if_neg z6, nw_r (by show o ≠ am_top p + 1; omega), am_pr_r]
    by_cases z5 : j = 5
    · rw [if_pos z5, if_pos z5]
    rw [if_neg z5, if_neg z5, nw_r (by omega)]
  · show am_sh (am_new (am_pr (am_new (am_pr (am_new p 25 4 4) o 5 (some A)) 26 5 5) o 6 (some (A + 1))) 20 60 60) A = _
    rw [nw_sh (by show A ≠ am_top p + 1 + 1; omega)]
    show am_sh (am_new (am_pr (am_new p 25 4 4) o 5 (some A)) 26 5 5) A = _
    rw [nw_sh (by show A ≠ am_top p + 1; omega)]
    show am_sh (am_new p 25 4 4) A = _
    rw [← hA, nw_sh0]
  · show am_sh (am_new (am_pr (am_new (am_pr (am_new p 25 4 4) o 5 (some A)) 26 5 5) o 6 (some (A + 1))) 20 60 60) (A + 1) = _
    rw [nw_sh (by show A + 1 ≠ am_top p + 1 + 1; omega)]
    show am_sh (am_new (am_pr (am_new p 25 4 4) o 5 (some A)) 26 5 5) (A + 1) = _
    rw [show A + 1 = am_top (am_pr (am_new p 25 4 4) o 5 (some A)) from by show A + 1 = am_top p + 1; omega, nw_sh0]
  · show am_sh (am_new (am_pr (am_new (am_pr (am_new p 25 4 4) o 5 (some A)) 26 5 5) o 6 (some (A + 1))) 20 60 60) (A + 2) = _
    rw [show A + 2 = am_top (am_pr (am_new (am_pr (am_new p 25 4 4) o 5 (some A)) 26 5 5) o 6 (some (A + 1))) from by show A + 2 = am_top p + 1 + 1; omega, nw_sh0]
  · rw [am_pi_i, if_neg (by omega), am_pi_i, if_pos ⟨rfl, rfl⟩]
  · rw [am_pi_i, if_pos ⟨rfl, rfl⟩]
def io_Y (G : Nat → Nat) (h p : am_H) (o : Nat) : Prop := (am_top p = o + 89 ∧ am_sl p ≤ am_sl h + 2000) ∧ am_ob G p o 8 ∧ am_ex (fun b => b = o) h p ∧ (hk G p (o + 1) ∧ hk G p (o + 27) ∧ hk G p (o + 53)) ∧ ((am_sh p (o + 80)).1 = 6 ∧ am_r p (o + 80) 0 = some (o + 81) ∧ am_sh p (o + 81) = (21, 96) ∧ am_i p (o + 80) 1 = 0) ∧ ((am_sh p (o + 79)).1 = 3 ∧ (am_r p (o + 79) 0 = some (o + 80) ∧ am_r p (o + 79) 1 = some (o + 82) ∧ am_r p (o + 79) 2 = some (o + 83) ∧ am_r p (o + 79) 3 = some (o + 84) ∧ am_r p (o + 79) 4 = some (o + 85)) ∧ am_sh p (o + 82) = (20, 97) ∧ am_sh p (o + 83) = (20, 97) ∧ am_sh p (o + 84) = (20, 97) ∧ am_sh p (o + 85) = (20, 96)) ∧ (am_sh p (o + 86) = (25, 4) ∧ am_sh p (o + 87) = (26, 5) ∧ am_sh p (o + 88) = (20, 60)) ∧ (am_r p o 0 = some (o + 1) ∧ am_r p o 1 = some (o + 27) ∧ am_r p o 2 = some (o + 53) ∧ am_r p o 3 = some (o + 79) ∧ am_r p o 4 = some (o + 80) ∧ am_r p o 5 = some (o + 86) ∧ am_r p o 6 = some (o + 87) ∧ am_r p o 7 = some (o + 88)) ∧ am_i p o 8 = 0 ∧ am_i p o 9 = 0
theorem c_initA (ho : am_ob G h o 8) (ht : am_top h = o + 1) (hG : G 0 ≤ o) : ∃ p, am_evm G (d + 3) 73 [.ref o] h = am_ev G (d + 3) 73 95 [some (.ref o), some (.int (nI 0))] [] p ∧ io_Y G h p o := by
  have e0 : am_evm G (d + 3) 73 [.ref o] h = am_ev G (d + 3) 73 4 [some (.ref o), none] [] h := by
    simp only [n_73, e_73_0, e_73_1, Option.bind_some, Option.toList_some, Option.toList_none, List.cons_append, List.nil_append, am_k1_i, am_k1_r, am_k1_u, am_k1_n, am_bo0, am_bo1, am_boi, am_ev_tb, am_tb_nil, am_rfs, am_rfn, eq_self]
  obtain ⟨p1, e1, ⟨t1, s1⟩, x1, r1, k1⟩ := io_H0 (d := d) ho ht hG (by omega)
  have o1 := ob_ex ho x1
  obtain ⟨p2, e2, ⟨t2, s2⟩, x2, r2, k2⟩ := io_H1 (d := d) o1 t1 hG (by omega)
  have o2 := ob_ex o1 x2
  obtain ⟨p3, e3, ⟨t3, s3⟩, x3, r3, k3⟩ := io_H2 (d := d) o2 t2 hG (by omega)
  have o3 := ob_ex o2 x3
  obtain ⟨p4, e4, ⟨t4, s4⟩, x4, r4, m1, m2, m3, m4⟩ := io_R (d := d) o3 t3 hG (by omega)
  have o4 := ob_ex o3 x4
  have e5 := io_t (d := d) o4 (r4 3) ⟨⟨by omega, by omega⟩, m1⟩ m2.1
  have x5 : am_ex (fun b => b = o) p4 (am_pr p4 o 4 (some (o + 1 + 26 + 26 + 26 + 1))) := am_ex.pr rfl
  have r5 : ∀ j, am_r (am_pr p4 o 4 (some (o + 1 + 26 + 26 + 26 + 1))) o j = if j = 4 then some (o + 1 + 26 + 26 + 26 + 1) else am_r p4 o j := fun j => am_pr_r
  have t5 : am_top (am_pr p4 o 4 (some (o + 1 + 26 + 26 + 26 + 1))) = o + 1 + 26 + 26 + 26 + 7 := t4
  have s5 : am_sl (am_pr p4 o 4 (some (o + 1 + 26 + 26 + 26 + 1))) = am_sl p4 := rfl
  have o5 := ob_ex o4 x5
  obtain ⟨p6, e6, ⟨t6, s6⟩, x6, r6, k6, i6⟩ := io_W (d := d) o5 t5 (by omega)
  have o6 := ob_ex o5 x6
  refine ⟨p6, e0.trans (e1.trans (e2.trans (e3.trans (e4.trans (e5.trans e6))))), ⟨by omega, by omega⟩, o6, ((((x1.tr x2).tr x3).tr x4).tr x5).tr x6, ?_, ?_, ?_, k6, ?_, i6⟩
  · have y3 := (x4.tr x5).tr x6
    have y2 := x3.tr y3
    have y1 := x2.tr y2
    refine ⟨k1.ex y1 (fun b z => ?_), k2.ex y2 (fun b z => ?_), k3.ex y3 (fun b z => ?_)⟩
    · have : b = o := z; omega
    · have : b = o := z; omega
    · have : b = o := z; omega
  · have y4 := x5.tr x6
    obtain ⟨z1, z2⟩ := y4.2.2 (o + 80) (by omega) (show ¬ o + 80 = o by omega)
    rw [y4.2.1 (o + 80) (by omega), y4.2.1 (o + 81) (by omega), z1, z2]
    exact m3
  · have y4 := x5.tr x6
    obtain ⟨z1, z2⟩ := y4.2.2 (o + 79) (by omega) (show ¬ o + 79 = o by omega)
    rw [y4.2.1 (o + 79) (by omega), y4.2.1 (o + 82) (by omega), y4.2.1 (o + 83) (by omega), y4.2.1 (o + 84) (by omega), y4.2.1 (o + 85) (by omega), z2]
    exact ⟨m1, m2, m4⟩
  · rw [r6 0, r6 1, r6 2, r6 3, r6 4, r6 5, r6 6, r6 7, r5 0, r5 1, r5 2, r5 3, r5 4, r4 0, r4 1, r4 2, r4 3, r3 0, r3 1, r3 2, r2 0, r2 1, r1 0]
    exact ⟨rfl, rfl, rfl, rfl, rfl, rfl, rfl, rfl⟩
theorem c_init (ho : am_ob G h o 8) (ht : am_top h = o + 1) (hG : G 0 ≤ o) : ∃ h9, am_evm G (d + 3) 73 [.ref o] h = some (none, h9) ∧ (am_top h9 = o + 117 ∧ am_sl h9 ≤ am_sl h + 5000) ∧ am_ex (fun b => b = o) h h9 ∧ cl_Obj G h9 o ∧ (hk G h9 (o + 1) ∧ hk G h9 (o + 27) ∧ hk G h9 (o + 53)) ∧ (am_i h9 (o + 80) 1 = 0 ∧ am_i h9 o 8 = 0 ∧ am_i h9 o 9 = 0) ∧ (∀ i, i < 4 → sf h9 (o + 89 + 2 * i)) ∧ ∀ i, i < 5 → lf h9 (o + 97 + 4 * i) := by
  obtain ⟨p8, E8, ⟨tp8, sl8⟩, o8, x8, ⟨k1, k2, k3⟩, k4, k5, ⟨sh86, sh87, sh88⟩, R, i88⟩ := c_initA (d := d) ho ht hG
  obtain ⟨ha, ea, ⟨ta, sa⟩, xa, fa⟩ := io_ls (d := d) (q0 := o + 86) o8 R.2.2.2.2.2.1 ⟨by omega, by omega⟩ sh86 (by omega) 4 0 p8 (by omega) ⟨by omega, by omega⟩ am_ex.rf (fun i hi => absurd hi (Nat.not_lt_zero i))
  rw [tp8] at fa
  have oa : am_ob G ha o 8 := ob_ex o8 xa
  have ra : am_r ha o = am_r p8 o := (xa.2.2 o (by omega) (show ¬ o = o + 86 by omega)).2
  have tha : am_top ha = o + 97 := by omega
  have sa87 : am_sh ha (o + 87) = (26, 5) := (xa.2.1 (o + 87) (by omega)).trans sh87
  have ra6 : am_r ha o 6 = some (o + 87) := (congrFun ra 6).trans R.2.2.2.2.2.2.1
  obtain ⟨hb, eb, ⟨tb, sb⟩, xb, fb⟩ := io_ll (d := d) (q0 := o + 87) oa ra6 ⟨by omega, by omega⟩ sa87 (by omega) 5 0 ha (by omega) ⟨by omega, by omega⟩ am_ex.rf (fun i hi => absurd hi (Nat.not_lt_zero i))
  rw [tha] at fb
  have thb : am_top hb = o + 117 := by omega
  have rb : am_r hb o = am_r p8 o := ((xb.2.2 o (by omega) (show ¬ o = o + 87 by omega)).2).trans ra
  have ib : am_i hb o = am_i p8 o := ((xb.2.2 o (by omega) (show ¬ o = o + 87 by omega)).1).trans (xa.2.2 o (by omega) (show ¬ o = o + 86 by omega)).1
  have T8 : am_ex (fun b => b = o + 86 ∨ b = o + 87) p8 hb := (xa.wd (fun b _ z => Or.inl z)).tr (xb.wd (fun b _ z => Or.inr z))
  have N : ∀ k, k ≠ 86 → k ≠ 87 → ¬ (o + k = o + 86 ∨ o + k = o + 87) := fun k z1 z2 z => by omega
  have fS : ∀ i, i < 4 → am_r hb (o + 86) i = some (o + 89 + 2 * i) ∧ sf hb (o + 89 + 2 * i) := fun i hi => by
    obtain ⟨z1, z2⟩ := fa i hi
    refine ⟨by rw [(xb.2.2 (o + 86) (by omega) (show ¬ o + 86 = o + 87 by omega)).2]; exact z1, z2.ex (by omega) xb (show ¬ o + 89 + 2 * i = o + 87 by omega) (show ¬ o + 89 + 2 * i + 1 = o + 87 by omega)⟩
  have z80 := T8.2.2 (o + 80) (by omega) (N 80 (by omega) (by omega))
  have z79 := T8.2.2 (o + 79) (by omega) (N 79 (by omega) (by omega))
  have xall : am_ex (fun b => b = o) h hb := ⟨by omega, fun b hb2 => (T8.2.1 b (by omega)).trans (x8.2.1 b hb2), fun b hb2 hx => ⟨(T8.2.2 b (by omega) (fun z => by omega)).1.trans (x8.2.2 b hb2 hx).1, (T8.2.2 b (by omega) (fun z => by omega)).2.trans (x8.2.2 b hb2 hx).2⟩⟩
  have Z : ∀ k, k < 89 → am_sh hb (o + k) = am_sh p8 (o + k) := fun k hk => T8.2.1 (o + k) (by omega)
  refine ⟨hb, by rw [E8, ea, eb], ⟨thb, by omega⟩, xall, ?_, ⟨k1.ex T8 (fun b z => by omega), k2.ex T8 (fun b z => by omega), k3.ex T8 (fun b z => by omega)⟩, ⟨by rw [z80.1]; exact k4.2.2.2, by rw [ib]; exact i88.1, by rw [ib]; exact i88.2⟩, fun i hi => (fS i hi).2, fun i hi => (fb i hi).2⟩
  refine ⟨⟨hG, by omega, (ob_ex oa xb).2⟩, by rw [rb]; exact R, ?_, ?_, ⟨by rw [Z 86 (by omega)]; exact sh86, by rw [Z 87 (by omega)]; exact sh87, by rw [Z 88 (by omega)]; exact sh88⟩, fun i hi => ?_, fun i hi => ?_⟩
  · rw [Z 80 (by omega), Z 81 (by omega), z80.2]
    exact ⟨k4.1, k4.2.1, k4.2.2.1⟩
  · rw [Z 79 (by omega), Z 82 (by omega), Z 83 (by omega), Z 84 (by omega), Z 85 (by omega), z79.2]
    exact ⟨k5.1, k5.2.1.1, k5.2.1.2.1, k5.2.1.2.2.1, k5.2.1.2.2.2.1, k5.2.1.2.2.2.2, k5.2.2⟩
  · obtain ⟨z1, z2⟩ := fS i hi
    exact ⟨z1, z2.1, by rw [z2.2.1, show o + 89 + 2 * i + 1 = o + 90 + 2 * i by omega], by rw [show o + 90 + 2 * i = o + 89 + 2 * i + 1 by omega]; exact z2.2.2.1⟩
  · obtain ⟨z1, z2⟩ := fb i hi
    obtain ⟨y1, ⟨y2, y3, y4, y5, y6, y7⟩, y8⟩ := z2
    rw [show o + 98 + 4 * i = o + 97 + 4 * i + 1 by omega, show o + 99 + 4 * i = o + 97 + 4 * i + 2 by omega, show o + 100 + 4 * i = o + 97 + 4 * i + 3 by omega]
    exact ⟨z1, y1, y2, y3, y4, y5, y6, y7⟩
/-- both made: all holds -/
theorem iv_0 {h1 : am_H} (ho : o = G 0) (hm : m = o + 117) (cE : cl_E G h1) (lo : cl_Obj G h1 o) (k1 : hk G h1 (o + 1)) (k2 : hk G h1 (o + 27)) (k3 : hk G h1 (o + 53)) (z1 : am_i h1 (o + 80) 1 = 0) (z2 : am_i h1 o 8 = 0) (z3 : am_i h1 o 9 = 0) (fs : ∀ i, i < 4 → sf h1 (o + 89 + 2 * i)) (fl : ∀ i, i < 5 → lf h1 (o + 97 + 4 * i)) (lm : cm_Lay G h1 m) (m0 : am_i h1 m = fun _ => 0) (m1 : am_i h1 (m + 1) = fun k => if k = 4 then 1 else if k = 3 then 2 else 0) (m4 : ∀ k, k < 4 → am_i h1 (m + 4) k = -1) (mj : ∀ j, 2 ≤ j → j ≤ 18 → j ≠ 4 → am_i h1 (m + j) = fun _ => 0) : iv G h1 o m := by
  have tx : ∀ a, hk G h1 a → cl_Tx G h1 a := fun a k t _ => Or.inl (k.2.2.2 t)
  refine ⟨⟨⟨ho, hm⟩, lm, lo, ⟨k1.1, k2.1, k3.1⟩, ⟨tx _ k1, tx _ k2, tx _ k3⟩, cE⟩, ⟨0, 0, 0, ?_, ?_⟩, ⟨by rw [z3, m0], Or.inl (by rw [m0])⟩, ⟨0, by omega, z1, by rw [m0]; rfl, fun j hj => absurd hj (Nat.not_lt_zero j)⟩, fun i hi => ?_, fun i hi => ?_, ⟨0, by omega, z2, by rw [m0]; rfl, fun k hk => absurd hk (Nat.not_lt_zero k)⟩⟩
  · rw [m1]
    exact ⟨⟨⟨rfl, by omega⟩, ⟨rfl, by omega⟩, rfl, by omega⟩, fun p hp => absurd hp (Nat.not_lt_zero p), fun p hp => absurd hp (Nat.not_lt_zero p), fun p hp => absurd hp (Nat.not_lt_zero p)⟩
  · rw [m1]
    refine ⟨k1.1, ⟨k1.2.1.1, k1.2.1.2.1, k1.2.1.2.2.1, k1.2.1.2.2.2.1, k1.2.1.2.2.2.2⟩, fun p hp => absurd hp (Nat.not_lt_zero p), fun p hp => absurd hp (Nat.not_lt_zero p), fun p hp => absurd hp (Nat.not_lt_zero p), fun k hk => ?_⟩
    rw [k1.2.2.1 k hk]
    rfl
  · obtain ⟨f1, f2, f3, f4, f5, f6⟩ := fs i hi
    refine ⟨by rw [f4, m4 i hi], Or.inl (m4 i hi), 0, by omega, f5, by rw [mj 5 (by omega) (by omega) (by omega)]; rfl, fun k hk => ?_⟩
    rw [mj 6 (by omega) (by omega) (by omega), show o + 90 + 2 * i = o + 89 + 2 * i + 1 by omega]
    exact f6 k
  · obtain ⟨f1, f2, f3⟩ := fl i hi
    have m7 : am_i h1 (m + 7) i = 0 := by rw [mj 7 (by omega) (by omega) (by omega)]
    refine ⟨by rw [f3, m7], fun z => ?_, fun z => ?_, fun z => ?_⟩
    · rw [m7] at z; exact absurd z (by decide)
    · rw [m7] at z; exact absurd z (by decide)
    · rw [m7] at z; exact absurd z (by decide)
end IZ
