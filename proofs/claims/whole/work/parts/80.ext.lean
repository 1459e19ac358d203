/-! memory that has grown -/
def am_ex (X : Nat → Prop) (h h2 : am_H) : Prop := am_top h ≤ am_top h2 ∧ (∀ b, b < am_top h → am_sh h2 b = am_sh h b) ∧ ∀ b, b < am_top h → ¬ X b → am_i h2 b = am_i h b ∧ am_r h2 b = am_r h b
section EX
variable {G : Nat → Nat} {h h2 h3 : am_H} {X Y : Nat → Prop} {kd n sl a o m b : Nat}
theorem nw_t : am_top (am_new h kd n sl) = am_top h + 1 := rfl
theorem nw_sl : am_sl (am_new h kd n sl) = am_sl h + sl := rfl
theorem nw_sh (hb : b ≠ am_top h) : am_sh (am_new h kd n sl) b = am_sh h b := if_neg hb
theorem nw_i (hb : b ≠ am_top h) : am_i (am_new h kd n sl) b = am_i h b := if_neg hb
theorem nw_r (hb : b ≠ am_top h) : am_r (am_new h kd n sl) b = am_r h b := if_neg hb
theorem nw_sh0 : am_sh (am_new h kd n sl) (am_top h) = (kd, n) := if_pos rfl
theorem nw_i0 : am_i (am_new h kd n sl) (am_top h) = fun _ => 0 := if_pos rfl
theorem nw_r0 : am_r (am_new h kd n sl) (am_top h) = fun _ => none := if_pos rfl
theorem am_ex.rf : am_ex X h h := ⟨Nat.le_refl _, fun _ _ => rfl, fun _ _ _ => ⟨rfl, rfl⟩⟩
theorem am_ex.tr (e : am_ex X h h2) (f : am_ex X h2 h3) : am_ex X h h3 := ⟨Nat.le_trans e.1 f.1, fun b hb => (f.2.1 b (Nat.lt_of_lt_of_le hb e.1)).trans (e.2.1 b hb), fun b hb hx => ⟨(f.2.2 b (Nat.lt_of_lt_of_le hb e.1) hx).1.trans (e.2.2 b hb hx).1, (f.2.2 b (Nat.lt_of_lt_of_le hb e.1) hx).2.trans (e.2.2 b hb hx).2⟩⟩
theorem am_ex.wd (e : am_ex X h h2) (hs : ∀ b, b < am_top h → X b → Y b) : am_ex Y h h2 := ⟨e.1, e.2.1, fun b hb hy => e.2.2 b hb (fun z => hy (hs b hb z))⟩
theorem am_ex.new : am_ex X h (am_new h kd n sl) := ⟨Nat.le_succ _, fun b hb => nw_sh (Nat.ne_of_lt hb), fun b hb _ => ⟨nw_i (Nat.ne_of_lt hb), nw_r (Nat.ne_of_lt hb)⟩⟩
theorem am_ex.pi {k : Nat} {v : Int32} (hx : X a) : am_ex X h (am_pi h a k v) := ⟨Nat.le_refl _, fun _ _ => rfl, fun b _ hb => ⟨(am_pi_o b (fun e => hb (e ▸ hx))).1, rfl⟩⟩
theorem am_ex.pr {k : Nat} {v : Option Nat} (hx : X a) : am_ex X h (am_pr h a k v) := ⟨Nat.le_refl _, fun _ _ => rfl, fun b _ hb => ⟨rfl, by
  funext j
  show (if b = a ∧ j = k then v else am_r h b j) = am_r h b j
  exact if_neg (fun (z : b = a ∧ j = k) => hb (z.1 ▸ hx))⟩⟩
theorem am_fr.ex {S : Nat → Prop} (f : am_fr S h h2) (hs : ∀ b, S b → X b) : am_ex X h h2 := ⟨Nat.le_of_eq f.1.symm, fun b _ => by rw [f.2.2.1], fun b _ hb => ⟨f.i1 (fun z => hb (hs b z)), by rw [f.2.2.2.1]⟩⟩
theorem cm_Lay.ex (l : cm_Lay G h m) (e : am_ex X h h2) (hx : ¬ X m) : cm_Lay G h2 m := by
  obtain ⟨⟨a, b, c⟩, q⟩ := l
  have hle := e.1
  refine ⟨⟨a, by omega, by rw [e.2.1 m (by omega)]; exact c⟩, fun p hp => ?_⟩
  have hp18 : p.2.1 ≤ 18 := by
    have : ∀ p ∈ cm_T, p.2.1 ≤ 18 := by decide
    exact this p hp
  rw [(e.2.2 m (by omega) hx).2, e.2.1 (m + p.2.1) (by omega)]
  exact q p hp
theorem cl_Hall.ex (l : cl_Hall G h a) (e : am_ex X h h2) (hx : ∀ b, X b → b < a ∨ a + 2 < b) : cl_Hall G h2 a := by
  obtain ⟨⟨a1, a2, a3⟩, a4, a5, a6, a7⟩ := l
  have hle := e.1
  have r0 : am_r h2 a = am_r h a := (e.2.2 a (by omega) (fun z => by have := hx _ z; omega)).2
  have r1 : am_r h2 (a + 1) = am_r h (a + 1) := (e.2.2 (a + 1) (by omega) (fun z => by have := hx _ z; omega)).2
  have r2 : am_r h2 (a + 2) = am_r h (a + 2) := (e.2.2 (a + 2) (by omega) (fun z => by have := hx _ z; omega)).2
  refine ⟨⟨a1, by omega, by rw [e.2.1 a (by omega)]; exact a3⟩, by rw [r0]; exact a4, ?_, fun p hp => ?_, fun p hp => ?_⟩
  · rw [e.2.1 (a + 1) (by omega), e.2.1 (a + 2) (by omega), e.2.1 (a + 3) (by omega), e.2.1 (a + 4) (by omega), e.2.1 (a + 5) (by omega)]
    exact a5
  · rw [r1, e.2.1 (a + 6 + p) (by omega)]; exact a6 p hp
  · rw [r2, e.2.1 (a + 18 + p) (by omega)]; exact a7 p hp
theorem cl_Obj.ex (l : cl_Obj G h o) (e : am_ex X h h2) (hx : ∀ b, X b → b < o ∨ (o < b ∧ b < o + 79) ∨ o + 116 < b) : cl_Obj G h2 o := by
  obtain ⟨⟨b1, b2, b3⟩, a2, a3, a4, a5, a6, a7⟩ := l
  have hle := e.1
  have R : ∀ k, k = 0 ∨ (79 ≤ k ∧ k ≤ 116) → am_r h2 (o + k) = am_r h (o + k) := fun k hk => (e.2.2 (o + k) (by omega) (fun z => by have := hx _ z; omega)).2
  have Z : ∀ k, k ≤ 116 → am_sh h2 (o + k) = am_sh h (o + k) := fun k hk => e.2.1 (o + k) (by omega)
  refine ⟨⟨b1, by omega, by rw [show am_sh h2 o = am_sh h o from Z 0 (by omega)]; exact b3⟩, by rw [show am_r h2 o = am_r h o from R 0 (Or.inl rfl)]; exact a2, by rw [Z 80 (by omega), Z 81 (by omega), R 80 (by omega)]; exact a3, by rw [Z 79 (by omega), R 79 (by omega), Z 82 (by omega), Z 83 (by omega), Z 84 (by omega), Z 85 (by omega)]; exact a4, by rw [Z 86 (by omega), Z 87 (by omega), Z 88 (by omega)]; exact a5, fun i hi => ?_, fun i hi => ?_⟩
  · have := a6 i hi
    rw [R 86 (by omega), show am_sh h2 (o + 89 + 2 * i) = am_sh h (o + 89 + 2 * i) from by rw [Nat.add_assoc]; exact Z (89 + 2 * i) (by omega), show am_sh h2 (o + 90 + 2 * i) = am_sh h (o + 90 + 2 * i) from by rw [Nat.add_assoc]; exact Z (90 + 2 * i) (by omega), show am_r h2 (o + 89 + 2 * i) = am_r h (o + 89 + 2 * i) from by rw [Nat.add_assoc]; exact R (89 + 2 * i) (by omega)]
    exact this
  · have := a7 i hi
    rw [R 87 (by omega), show am_sh h2 (o + 97 + 4 * i) = am_sh h (o + 97 + 4 * i) from by rw [Nat.add_assoc]; exact Z (97 + 4 * i) (by omega), show am_sh h2 (o + 98 + 4 * i) = am_sh h (o + 98 + 4 * i) from by rw [Nat.add_assoc]; exact Z (98 + 4 * i) (by omega), show am_sh h2 (o + 99 + 4 * i) = am_sh h (o + 99 + 4 * i) from by rw [Nat.add_assoc]; exact Z (99 + 4 * i) (by omega), show am_sh h2 (o + 100 + 4 * i) = am_sh h (o + 100 + 4 * i) from by rw [Nat.add_assoc]; exact Z (100 + 4 * i) (by omega), show am_r h2 (o + 97 + 4 * i) = am_r h (o + 97 + 4 * i) from by rw [Nat.add_assoc]; exact R (97 + 4 * i) (by omega), show am_r h2 (o + 99 + 4 * i) = am_r h (o + 99 + 4 * i) from by rw [Nat.add_assoc]; exact R (99 + 4 * i) (by omega)]
    exact this
theorem cl_Tx.ex (t : cl_Tx G h a) (e : am_ex X h h2) (ha : a + 3 < am_top h) (hx : ¬ X (a + 3)) : cl_Tx G h2 a := by
  intro k hk
  have hle := e.1
  rw [(e.2.2 (a + 3) ha hx).2]
  rcases t k hk with q | ⟨b, q, ob⟩
  · exact Or.inl q
  · exact Or.inr ⟨b, q, ⟨ob.1.1, by have := ob.1.2; omega⟩, by rw [e.2.1 b ob.1.2]; exact ob.2⟩
theorem cl_E.ex (c : cl_E G h) (e : am_ex X h h2) (hG : G 0 ≤ am_top h) (hx : ∀ b, X b → G 0 ≤ b) : cl_E G h2 := by
  obtain ⟨⟨a1, a2, a3⟩, ⟨b1, b2, b3⟩, ⟨c1, c2, c3⟩, ⟨d1, d2, d3⟩, ⟨e1, e2, e3⟩, r⟩ := c
  have Z : ∀ b, b < G 0 → am_sh h2 b = am_sh h b := fun b hb => e.2.1 b (by omega)
  have I : ∀ b, b < G 0 → am_i h2 b = am_i h b := fun b hb => (e.2.2 b (by omega) (fun z => by have := hx b z; omega)).1
  exact ⟨⟨a1, by rw [Z _ a1]; exact a2, by rw [I _ a1]; exact a3⟩, ⟨b1, by rw [Z _ b1]; exact b2, by rw [I _ b1]; exact b3⟩, ⟨c1, by rw [Z _ c1]; exact c2, by rw [I _ c1]; exact c3⟩, ⟨d1, by rw [Z _ d1]; exact d2, by rw [I _ d1]; exact d3⟩, ⟨e1, by rw [Z _ e1]; exact e2, by rw [I _ e1]; exact e3⟩, r⟩
theorem iv_L.ex (l : iv_L G h o m) (e : am_ex (fun _ => False) h h2) : iv_L G h2 o m := by
  obtain ⟨l0, l1, l2, ⟨l3, l4, l5⟩, ⟨l6, l7, l8⟩, l9⟩ := l
  have ht := l2.1.2.1
  exact ⟨l0, l1.ex e id, l2.ex e (fun _ z => z.elim), ⟨l3.ex e (fun _ z => z.elim), l4.ex e (fun _ z => z.elim), l5.ex e (fun _ z => z.elim)⟩, ⟨l6.ex e (by omega) id, l7.ex e (by omega) id, l8.ex e (by omega) id⟩, l9.ex e (by have := l0.1; omega) (fun _ z => z.elim)⟩
variable {σ τ : Nat → Int32} {p nd nt : Nat}
theorem cl_T1.ex {t : Nat} (c : cl_T1 G h b σ t) (e : am_ex (fun _ => False) h h2) : cl_T1 G h2 b σ t := by
  obtain ⟨c, key, L, ⟨h1, h2', h3⟩, ⟨h4, h5, h6⟩, ⟨h7, h8, h9⟩, hx', hk⟩ := c
  have hle := e.1
  obtain ⟨ib, rb⟩ := e.2.2 b h2' id
  obtain ⟨ic, rc⟩ := e.2.2 c h8 id
  exact ⟨c, key, L, ⟨h1, by omega, by rw [e.2.1 b h2']; exact h3⟩, ⟨by rw [ib]; exact h4, by rw [ib]; exact h5, by rw [rb]; exact h6⟩, ⟨h7, by omega, by rw [e.2.1 c h8]; exact h9⟩, hx', fun k hk2 => by rw [ic]; exact hk k hk2⟩
theorem cl_R.ex (r : cl_R G h a σ p nd nt) (hp : p ≤ 12) (hd : nd ≤ 8) (e : am_ex (fun _ => False) h h2) : cl_R G h2 a σ p nd nt := by
  obtain ⟨l, hc, hpp, hq, ht, hk⟩ := r
  have htop := l.1.2.1
  have I : ∀ k, k ≤ 25 → am_i h2 (a + k) = am_i h (a + k) := fun k hk => (e.2.2 (a + k) (by omega) id).1
  refine ⟨l.ex e (fun _ z => z.elim), by rw [show am_i h2 a = am_i h a from I 0 (by omega)]; exact hc, fun q hq2 => ?_, fun q hq2 j hj => ?_, fun t ht2 => ?_, fun k hk2 => ?_⟩
  · rw [show am_i h2 (a + 6 + q) = am_i h (a + 6 + q) from by rw [Nat.add_assoc]; exact I (6 + q) (by omega)]; exact hpp q hq2
  · rw [show am_i h2 (a + 18 + q) = am_i h (a + 18 + q) from by rw [Nat.add_assoc]; exact I (18 + q) (by omega)]; exact hq q hq2 j hj
  · obtain ⟨b, h1, h3⟩ := ht t ht2
    exact ⟨b, by rw [(e.2.2 (a + 3) (by omega) id).2]; exact h1, h3.ex e⟩
  · rw [I 4 (by omega)]; exact hk k hk2
/-- what lies behind the texts that are there does not matter -/
theorem mt_wf_hi (hs : mt_wf σ p nd nt) (he : ∀ j, j < 114 + 200 * nt → σ j = τ j) : mt_wf τ p nd nt := by
  obtain ⟨⟨⟨a1, a2⟩, ⟨b1, b2⟩, c1, c2⟩, hP, hD, hT⟩ := hs
  refine ⟨⟨⟨by rw [← he 0 (by omega)]; exact a1, a2⟩, ⟨by rw [← he 1 (by omega)]; exact b1, b2⟩, by rw [← he 2 (by omega)]; exact c1, c2⟩, mt_wfP_congr a2 (fun j h1 h2 => he j (by omega)) hP, mt_wfD_congr b2 (fun j h1 h2 => he j (by omega)) hD, fun t ht => ?_⟩
  obtain ⟨key, L, hx⟩ := hT t ht
  exact ⟨key, L, mt_txt_congr (fun j h1 h2 => he j (by omega)) hx⟩
theorem cl_T1.hi {t : Nat} (c : cl_T1 G h b σ t) (he : ∀ j, 114 + 200 * t ≤ j → j < 114 + 200 * t + 200 → σ j = τ j) : cl_T1 G h b τ t := by
  obtain ⟨c, key, L, h1, ⟨h4, h5, h6⟩, h7, hx, hk⟩ := c
  have hL := hx.2.1.2
  refine ⟨c, key, L, h1, ⟨by rw [← he _ (by omega) (by omega)]; exact h4, by rw [← he _ (by omega) (by omega)]; exact h5, h6⟩, h7, mt_txt_congr he hx, fun k hk2 => ?_⟩
  have := hk k hk2
  unfold mt_w mt_v at this ⊢
  rw [← he _ (by omega) (by omega), ← he _ (by omega) (by omega)]
  exact this
theorem cl_R.hi (r : cl_R G h a σ p nd nt) (hs : mt_wf σ p nd nt) (he : ∀ j, j < 114 + 200 * nt → σ j = τ j) : cl_R G h a τ p nd nt := by
  obtain ⟨l, hc, hpp, hq, ht, hk⟩ := r
  have h12 := hs.1.1.2
  have h8 := hs.1.2.1.2
  refine ⟨l, by rw [← he 0 (by omega), ← he 1 (by omega), ← he 2 (by omega), ← he 3 (by omega), ← he 4 (by omega)]; exact hc, fun q hq2 => ⟨fun j hj => by rw [← he _ (by omega)]; exact (hpp q hq2).1 j hj, ?_⟩, fun q hq2 j hj => by rw [← he _ (by omega)]; exact hq q hq2 j hj, fun t ht2 => ?_, fun k hk2 => ?_⟩
  · rw [(hpp q hq2).2]
    exact mt_fol_congr hq2 (fun q2 hq3 => he _ (by omega))
  · obtain ⟨b, h1, h3⟩ := ht t ht2
    exact ⟨b, h1, h3.hi (fun j h5 h6 => he j (by omega))⟩
  · rw [hk k hk2, mt_last_congr nt (fun t ht2 => he _ (by omega))]
end EX
