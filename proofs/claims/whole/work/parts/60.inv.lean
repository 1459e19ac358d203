/-! the two sides: what holds between calls -/
def cl_Obj (G : Nat → Nat) (h : am_H) (o : Nat) : Prop := (G 0 ≤ o ∧ o + 116 < am_top h ∧ (am_sh h o).1 = 8) ∧ (am_r h o 0 = some (o + 1) ∧ am_r h o 1 = some (o + 27) ∧ am_r h o 2 = some (o + 53) ∧ am_r h o 3 = some (o + 79) ∧ am_r h o 4 = some (o + 80) ∧ am_r h o 5 = some (o + 86) ∧ am_r h o 6 = some (o + 87) ∧ am_r h o 7 = some (o + 88)) ∧ ((am_sh h (o + 80)).1 = 6 ∧ am_r h (o + 80) 0 = some (o + 81) ∧ am_sh h (o + 81) = (21, 96)) ∧ ((am_sh h (o + 79)).1 = 3 ∧ am_r h (o + 79) 0 = some (o + 80) ∧ am_r h (o + 79) 1 = some (o + 82) ∧ am_r h (o + 79) 2 = some (o + 83) ∧ am_r h (o + 79) 3 = some (o + 84) ∧ am_r h (o + 79) 4 = some (o + 85) ∧ am_sh h (o + 82) = (20, 97) ∧ am_sh h (o + 83) = (20, 97) ∧ am_sh h (o + 84) = (20, 97) ∧ am_sh h (o + 85) = (20, 96)) ∧ (am_sh h (o + 86) = (25, 4) ∧ am_sh h (o + 87) = (26, 5) ∧ am_sh h (o + 88) = (20, 60)) ∧ (∀ i, i < 4 → am_r h (o + 86) i = some (o + 89 + 2 * i) ∧ (am_sh h (o + 89 + 2 * i)).1 = 4 ∧ am_r h (o + 89 + 2 * i) 0 = some (o + 90 + 2 * i) ∧ am_sh h (o + 90 + 2 * i) = (20, 24)) ∧ ∀ i, i < 5 → am_r h (o + 87) i = some (o + 97 + 4 * i) ∧ (am_sh h (o + 97 + 4 * i)).1 = 5 ∧ am_r h (o + 97 + 4 * i) 0 = some (o + 98 + 4 * i) ∧ am_r h (o + 97 + 4 * i) 1 = some (o + 99 + 4 * i) ∧ (am_sh h (o + 98 + 4 * i)).1 = 2 ∧ (am_sh h (o + 99 + 4 * i)).1 = 4 ∧ am_r h (o + 99 + 4 * i) 0 = some (o + 100 + 4 * i) ∧ am_sh h (o + 100 + 4 * i) = (20, 24)
theorem cl_Obj.fq {G : Nat → Nat} {h h2 : am_H} {o x : Nat} {S : Nat → Prop} (l : cl_Obj G h o) (f : am_fq x S h h2) (hx : o < x ∧ x < o + 79) : cl_Obj G h2 o := by
  have e : ∀ k, k = 0 ∨ 79 ≤ k → am_r h2 (o + k) = am_r h (o + k) := fun k hk => f.2.2.2.1 (o + k) (by omega)
  obtain ⟨a1, a2, a3, a4, a5, a6, a7⟩ := l
  refine ⟨by rw [f.1, f.2.2.1]; exact a1, by rw [show am_r h2 o = am_r h o from e 0 (Or.inl rfl)]; exact a2, by rw [f.2.2.1, e 80 (by omega)]; exact a3, by rw [f.2.2.1, e 79 (by omega)]; exact a4, by rw [f.2.2.1]; exact a5, fun i hi => ?_, fun i hi => ?_⟩
  · have := a6 i hi
    rw [f.2.2.1, e 86 (by omega), show am_r h2 (o + 89 + 2 * i) = am_r h (o + 89 + 2 * i) from by rw [Nat.add_assoc]; exact e (89 + 2 * i) (by omega)]
    exact this
  · have := a7 i hi
    rw [f.2.2.1, e 87 (by omega), show am_r h2 (o + 97 + 4 * i) = am_r h (o + 97 + 4 * i) from by rw [Nat.add_assoc]; exact e (97 + 4 * i) (by omega), show am_r h2 (o + 99 + 4 * i) = am_r h (o + 99 + 4 * i) from by rw [Nat.add_assoc]; exact e (99 + 4 * i) (by omega)]
    exact this
section CO
variable {G : Nat → Nat} {h : am_H} {o : Nat}
theorem co_own (l : cl_Obj G h o) {k : Nat} (hk : k ≤ 116) : G 0 ≤ o + k ∧ o + k < am_top h := ⟨by have := l.1.1; omega, by have := l.1.2.1; omega⟩
theorem co_ob (l : cl_Obj G h o) : am_ob G h o 8 := ⟨⟨l.1.1, by have := l.1.2.1; omega⟩, l.1.2.2⟩
theorem co_r0 (l : cl_Obj G h o) : am_r h o 0 = some (o + 1) := l.2.1.1
theorem co_r1 (l : cl_Obj G h o) : am_r h o 1 = some (o + 27) := l.2.1.2.1
theorem co_r2 (l : cl_Obj G h o) : am_r h o 2 = some (o + 53) := l.2.1.2.2.1
theorem co_r3 (l : cl_Obj G h o) : am_r h o 3 = some (o + 79) := l.2.1.2.2.2.1
theorem co_r4 (l : cl_Obj G h o) : am_r h o 4 = some (o + 80) := l.2.1.2.2.2.2.1
theorem co_r5 (l : cl_Obj G h o) : am_r h o 5 = some (o + 86) := l.2.1.2.2.2.2.2.1
theorem co_r6 (l : cl_Obj G h o) : am_r h o 6 = some (o + 87) := l.2.1.2.2.2.2.2.2.1
theorem co_r7 (l : cl_Obj G h o) : am_r h o 7 = some (o + 88) := l.2.1.2.2.2.2.2.2.2
theorem co_tp (l : cl_Obj G h o) : am_ob G h (o + 80) 6 := ⟨co_own l (by omega), l.2.2.1.1⟩
theorem co_tb (l : cl_Obj G h o) : am_r h (o + 80) 0 = some (o + 81) := l.2.2.1.2.1
theorem co_ba (l : cl_Obj G h o) {j : Nat} (hj : j < 96) : am_ba G h (o + 81) (nI j) := ⟨Or.inl ⟨co_own l (by omega), by rw [l.2.2.1.2.2]⟩, by rw [l.2.2.1.2.2]; exact nI_in hj (by decide)⟩
theorem co_bw (l : cl_Obj G h o) {j : Nat} (hj : j < 96) : am_bw G h (o + 81) (nI j) := ⟨⟨co_own l (by omega), by rw [l.2.2.1.2.2]⟩, by rw [l.2.2.1.2.2]; exact nI_in hj (by decide)⟩
theorem co_s1 (l : cl_Obj G h o) {i : Nat} (hi : i < 4) : am_ra G h (o + 86) (nI i) := am_ra_of (co_own l (by omega)) l.2.2.2.2.1.1 (by decide) hi (by omega)
theorem co_s2 (l : cl_Obj G h o) {i : Nat} (hi : i < 4) : am_r h (o + 86) i = some (o + 89 + 2 * i) := (l.2.2.2.2.2.1 i hi).1
theorem co_s3 (l : cl_Obj G h o) {i : Nat} (hi : i < 4) : am_ob G h (o + 89 + 2 * i) 4 := ⟨by rw [Nat.add_assoc]; exact co_own l (by omega), (l.2.2.2.2.2.1 i hi).2.1⟩
theorem co_s4 (l : cl_Obj G h o) {i : Nat} (hi : i < 4) : am_r h (o + 89 + 2 * i) 0 = some (o + 90 + 2 * i) := (l.2.2.2.2.2.1 i hi).2.2.1
theorem co_s5 (l : cl_Obj G h o) {i j : Nat} (hi : i < 4) (hj : j < 24) : am_ia G h (o + 90 + 2 * i) (nI j) := am_ia_of (by rw [Nat.add_assoc]; exact co_own l (by omega)) (l.2.2.2.2.2.1 i hi).2.2.2 hj (by omega)
theorem co_s6 (l : cl_Obj G h o) {i j : Nat} (hi : i < 4) (hj : j < 24) : am_iw G h (o + 90 + 2 * i) (nI j) := am_iw_of (by rw [Nat.add_assoc]; exact co_own l (by omega)) (l.2.2.2.2.2.1 i hi).2.2.2 hj (by omega)
theorem co_o1 (l : cl_Obj G h o) {i : Nat} (hi : i < 5) : am_ra G h (o + 87) (nI i) := am_ra_of (co_own l (by omega)) l.2.2.2.2.1.2.1 (by decide) hi (by omega)
theorem co_o2 (l : cl_Obj G h o) {i : Nat} (hi : i < 5) : am_r h (o + 87) i = some (o + 97 + 4 * i) := (l.2.2.2.2.2.2 i hi).1
theorem co_o3 (l : cl_Obj G h o) {i : Nat} (hi : i < 5) : am_ob G h (o + 97 + 4 * i) 5 := ⟨by rw [Nat.add_assoc]; exact co_own l (by omega), (l.2.2.2.2.2.2 i hi).2.1⟩
theorem co_o4 (l : cl_Obj G h o) {i : Nat} (hi : i < 5) : am_r h (o + 97 + 4 * i) 0 = some (o + 98 + 4 * i) := (l.2.2.2.2.2.2 i hi).2.2.1
theorem co_o5 (l : cl_Obj G h o) {i : Nat} (hi : i < 5) : am_r h (o + 97 + 4 * i) 1 = some (o + 99 + 4 * i) := (l.2.2.2.2.2.2 i hi).2.2.2.1
theorem co_o6 (l : cl_Obj G h o) {i : Nat} (hi : i < 5) : am_ob G h (o + 98 + 4 * i) 2 := ⟨by rw [Nat.add_assoc]; exact co_own l (by omega), (l.2.2.2.2.2.2 i hi).2.2.2.2.1⟩
theorem co_o7 (l : cl_Obj G h o) {i : Nat} (hi : i < 5) : am_ob G h (o + 99 + 4 * i) 4 := ⟨by rw [Nat.add_assoc]; exact co_own l (by omega), (l.2.2.2.2.2.2 i hi).2.2.2.2.2.1⟩
theorem co_o8 (l : cl_Obj G h o) {i : Nat} (hi : i < 5) : am_r h (o + 99 + 4 * i) 0 = some (o + 100 + 4 * i) := (l.2.2.2.2.2.2 i hi).2.2.2.2.2.2.1
theorem co_o9 (l : cl_Obj G h o) {i j : Nat} (hi : i < 5) (hj : j < 24) : am_ia G h (o + 100 + 4 * i) (nI j) := am_ia_of (by rw [Nat.add_assoc]; exact co_own l (by omega)) (l.2.2.2.2.2.2 i hi).2.2.2.2.2.2.2 hj (by omega)
theorem co_w1 (l : cl_Obj G h o) {j : Nat} (hj : j < 60) : am_ia G h (o + 88) (nI j) := am_ia_of (co_own l (by omega)) l.2.2.2.2.1.2.2 hj (by omega)
theorem co_w2 (l : cl_Obj G h o) {j : Nat} (hj : j < 60) : am_iw G h (o + 88) (nI j) := am_iw_of (co_own l (by omega)) l.2.2.2.2.1.2.2 hj (by omega)
theorem cl_Obj.fr {h2 : am_H} {S : Nat → Prop} (l : cl_Obj G h o) (f : am_fr S h h2) : cl_Obj G h2 o := by
  unfold cl_Obj at l ⊢
  rw [f.1, f.2.2.1, f.2.2.2.1]
  exact l
end CO
def iv_I (G : Nat → Nat) (h : am_H) (o m : Nat) : Prop := am_i h o 9 = am_i h m 3 ∧ (am_i h m 3 = 0 ∨ (am_i h m 3 = 1 ∧ ∃ n nd nt, mt_wf (am_i h (m + 2)) n nd nt ∧ cl_R G h (o + 27) (am_i h (m + 2)) n nd nt))
def iv_T (h : am_H) (o m : Nat) : Prop := ∃ t, t ≤ 96 ∧ am_i h (o + 80) 1 = nI t ∧ am_i h m 14 = nI t ∧ ∀ j, j < t → am_i h (o + 81) j &&& 255 = am_i h (m + 13) j
def iv_H (h : am_H) (o m : Nat) : Prop := ∀ i, i < 4 → am_i h (o + 89 + 2 * i) 1 = am_i h (m + 4) i ∧ (am_i h (m + 4) i = -1 ∨ am_i h (m + 4) i = 0 ∨ am_i h (m + 4) i = 1) ∧ ∃ z, z ≤ 24 ∧ am_i h (o + 89 + 2 * i) 2 = nI z ∧ am_i h (m + 5) i = nI z ∧ ∀ k, k < 24 → am_i h (o + 90 + 2 * i) k = am_i h (m + 6) (24 * i + k)
def iv_O (h : am_H) (o m : Nat) : Prop := ∀ i, i < 5 → am_i h (o + 97 + 4 * i) 3 = am_i h (m + 7) i ∧ (am_i h (m + 7) i = 1 → ∃ k, k < 6 ∧ am_i h (o + 98 + 4 * i) 0 = nI k ∧ am_i h (m + 8) i = nI k ∧ am_i h (m + 9) i = mt_worth (nI k) (am_i h (o + 98 + 4 * i) 1)) ∧ (am_i h (m + 7) i = 2 → ∃ z, z ≤ 24 ∧ am_i h (o + 99 + 4 * i) 2 = nI z ∧ am_i h (m + 10) i = nI z ∧ ∀ k, k < 24 → am_i h (o + 100 + 4 * i) k = am_i h (m + 11) (24 * i + k)) ∧ (am_i h (m + 7) i = 3 → am_i h (o + 97 + 4 * i) 2 = am_i h (m + 8) i)
def iv_W (h : am_H) (o m : Nat) : Prop := ∃ w, w ≤ 60 ∧ am_i h o 8 = nI w ∧ am_i h m 29 = nI w ∧ ∀ k, k < w → am_i h (o + 88) k = am_i h (m + 17) k
def iv_L (G : Nat → Nat) (h : am_H) (o m : Nat) : Prop := (o = G 0 ∧ m = o + 117) ∧ cm_Lay G h m ∧ cl_Obj G h o ∧ (cl_Hall G h (o + 1) ∧ cl_Hall G h (o + 27) ∧ cl_Hall G h (o + 53)) ∧ (cl_Tx G h (o + 1) ∧ cl_Tx G h (o + 27) ∧ cl_Tx G h (o + 53)) ∧ cl_E G h
def iv_S (G : Nat → Nat) (h : am_H) (o m : Nat) : Prop := ∃ n nd nt, mt_wf (am_i h (m + 1)) n nd nt ∧ cl_R G h (o + 1) (am_i h (m + 1)) n nd nt
def iv (G : Nat → Nat) (h : am_H) (o m : Nat) : Prop := iv_L G h o m ∧ iv_S G h o m ∧ iv_I G h o m ∧ iv_T h o m ∧ iv_H h o m ∧ iv_O h o m ∧ iv_W h o m
theorem cl_Tx.fr {G : Nat → Nat} {h h2 : am_H} {a : Nat} {S : Nat → Prop} (t : cl_Tx G h a) (f : am_fr S h h2) : cl_Tx G h2 a := by
  intro k hk
  rw [f.2.2.2.1]
  rcases t k hk with e | ⟨b, e, ob⟩
  · exact Or.inl e
  · exact Or.inr ⟨b, e, ⟨ob.1.1, by rw [f.1]; exact ob.1.2⟩, by rw [f.2.2.1]; exact ob.2⟩
theorem cl_E.fr {G : Nat → Nat} {h h2 : am_H} {S : Nat → Prop} (e : cl_E G h) (hs : am_sh h2 = am_sh h) (hi : ∀ b, b < G 0 → am_i h2 b = am_i h b) : cl_E G h2 := by
  obtain ⟨⟨a1, a2, a3⟩, ⟨b1, b2, b3⟩, ⟨c1, c2, c3⟩, ⟨d1, d2, d3⟩, ⟨e1, e2, e3⟩, r⟩ := e
  exact ⟨⟨a1, by rw [hs]; exact a2, by rw [hi _ a1]; exact a3⟩, ⟨b1, by rw [hs]; exact b2, by rw [hi _ b1]; exact b3⟩, ⟨c1, by rw [hs]; exact c2, by rw [hi _ c1]; exact c3⟩, ⟨d1, by rw [hs]; exact d2, by rw [hi _ d1]; exact d3⟩, ⟨e1, by rw [hs]; exact e2, by rw [hi _ e1]; exact e3⟩, r⟩
section IV
variable {G : Nat → Nat} {h h2 : am_H} {o m : Nat} {S : Nat → Prop}
theorem iv_L.fr (l : iv_L G h o m) (f : am_fr S h h2) (hS : ∀ b, S b → o ≤ b) : iv_L G h2 o m := ⟨l.1, l.2.1.fr f, l.2.2.1.fr f, ⟨l.2.2.2.1.1.fr f, l.2.2.2.1.2.1.fr f, l.2.2.2.1.2.2.fr f⟩, ⟨l.2.2.2.2.1.1.fr f, l.2.2.2.2.1.2.1.fr f, l.2.2.2.2.1.2.2.fr f⟩, cl_E.fr (S := S) l.2.2.2.2.2 f.2.2.1 (fun b hb => f.i1 (fun z => by have := hS b z; have := l.1.1; omega))⟩
theorem iv_I.fr (i : iv_I G h o m) (l : iv_L G h o m) (f : am_fr S h h2) (h1 : ¬ S o) (h2' : ¬ S m) (h3 : ¬ S (m + 2)) (hS : cl_off G (o + 27) S) : iv_I G h2 o m := by
  unfold iv_I
  rw [f.i1 h1, f.i1 h2', f.i1 h3]
  refine ⟨i.1, i.2.imp id (fun ⟨e, n, nd, nt, w, r⟩ => ⟨e, n, nd, nt, w, r.fr w.1.1.2 w.1.2.1.2 f hS⟩)⟩
theorem iv_T.fr (i : iv_T h o m) (f : am_fr S h h2) (h1 : ¬ S (o + 80)) (h2' : ¬ S m) (h3 : ¬ S (o + 81)) (h4 : ¬ S (m + 13)) : iv_T h2 o m := by
  unfold iv_T
  rw [f.i1 h1, f.i1 h2', f.i1 h3, f.i1 h4]
  exact i
theorem iv_H.fr (i : iv_H h o m) (f : am_fr S h h2) (h1 : ∀ k, 89 ≤ k → k < 97 → ¬ S (o + k)) (h2' : ¬ S (m + 4)) (h3 : ¬ S (m + 5)) (h4 : ¬ S (m + 6)) : iv_H h2 o m := by
  intro k hk
  rw [show am_i h2 (o + 89 + 2 * k) = am_i h (o + 89 + 2 * k) from f.i1 (by rw [Nat.add_assoc]; exact h1 _ (by omega) (by omega)), show am_i h2 (o + 90 + 2 * k) = am_i h (o + 90 + 2 * k) from f.i1 (by rw [Nat.add_assoc]; exact h1 _ (by omega) (by omega)), f.i1 h2', f.i1 h3, f.i1 h4]
  exact i k hk
theorem iv_O.fr (i : iv_O h o m) (f : am_fr S h h2) (h1 : ∀ k, 97 ≤ k → k < 117 → ¬ S (o + k)) (h2' : ∀ k, 7 ≤ k → k < 12 → ¬ S (m + k)) : iv_O h2 o m := by
  intro k hk
  rw [show am_i h2 (o + 97 + 4 * k) = am_i h (o + 97 + 4 * k) from f.i1 (by rw [Nat.add_assoc]; exact h1 _ (by omega) (by omega)), show am_i h2 (o + 98 + 4 * k) = am_i h (o + 98 + 4 * k) from f.i1 (by rw [Nat.add_assoc]; exact h1 _ (by omega) (by omega)), show am_i h2 (o + 99 + 4 * k) = am_i h (o + 99 + 4 * k) from f.i1 (by rw [Nat.add_assoc]; exact h1 _ (by omega) (by omega)), show am_i h2 (o + 100 + 4 * k) = am_i h (o + 100 + 4 * k) from f.i1 (by rw [Nat.add_assoc]; exact h1 _ (by omega) (by omega)), f.i1 (h2' 7 (by omega) (by omega)), f.i1 (h2' 8 (by omega) (by omega)), f.i1 (h2' 9 (by omega) (by omega)), f.i1 (h2' 10 (by omega) (by omega)), f.i1 (h2' 11 (by omega) (by omega))]
  exact i k hk
theorem iv_W.fr (i : iv_W h o m) (f : am_fr S h h2) (h1 : ¬ S o) (h2' : ¬ S m) (h3 : ¬ S (o + 88)) (h4 : ¬ S (m + 17)) : iv_W h2 o m := by
  unfold iv_W
  rw [f.i1 h1, f.i1 h2', f.i1 h3, f.i1 h4]
  exact i
/-- the cells of the hall and of the reference's row -/
def iv_hs (o m : Nat) : Nat → Prop := fun b => (o + 1 ≤ b ∧ b ≤ o + 26) ∨ b = m + 1 ∨ b = m + 12 ∨ b = m + 14 ∨ b = m + 15
theorem iv.hall (i : iv G h o m) (f : am_fr (iv_hs o m) h h2) (s : iv_S G h2 o m) : iv G h2 o m := by
  obtain ⟨l, _, i1, i2, i3, i4, i5⟩ := i
  have hm : m = o + 117 := l.1.2
  have ho : o = G 0 := l.1.1
  have N : ∀ b, (b = o ∨ (o + 26 < b ∧ b ≠ m + 1 ∧ b ≠ m + 12 ∧ b ≠ m + 14 ∧ b ≠ m + 15)) → ¬ iv_hs o m b := fun b hb z => by
    unfold iv_hs at z
    omega
  refine ⟨l.fr f (fun b hb => by unfold iv_hs at hb; omega), s, i1.fr l f (N _ (by omega)) (N _ (by omega)) (N _ (by omega)) (fun b hb => by unfold iv_hs at hb; omega), i2.fr f (N _ (by omega)) (N _ (by omega)) (N _ (by omega)) (N _ (by omega)), i3.fr f (fun k h1 h2 => N _ (by omega)) (N _ (by omega)) (N _ (by omega)) (N _ (by omega)), i4.fr f (fun k h1 h2 => N _ (by omega)) (fun k h1 h2 => N _ (by omega)), i5.fr f (N _ (by omega)) (N _ (by omega)) (N _ (by omega)) (N _ (by omega))⟩
end IV
/-- a call on both sides: one answer, and all holds again -/
def sm (G : Nat → Nat) (h : am_H) (o m d yc yr : Nat) (vs : List Value) : Prop := ∃ v h2 h3, am_evm G (d + 200) yc (.ref o :: vs) h = some (some (.int v), h2) ∧ am_evm G (d + 200) yr (.ref m :: vs) h2 = some (some (.int v), h3) ∧ iv G h3 o m ∧ am_top h3 ≤ am_top h + 2 ∧ am_sl h3 ≤ am_sl h + 120
theorem sm_same {G : Nat → Nat} {h : am_H} {o m d yc yr : Nat} {vs : List Value} (i : iv G h o m) {v : Int32} (e1 : am_evm G (d + 200) yc (.ref o :: vs) h = some (some (.int v), h)) (e2 : am_evm G (d + 200) yr (.ref m :: vs) h = some (some (.int v), h)) : sm G h o m d yc yr vs := ⟨v, h, h, e1, e2, i, by omega, by omega⟩
theorem sm_hall {G : Nat → Nat} {h h2 h3 : am_H} {o m d yc yr n nd nt : Nat} {σ : Nat → Int32} {vs : List Value} (i : iv G h o m) {v : Int32} (e1 : am_evm G (d + 200) yc (.ref o :: vs) h = some (some (.int v), h2)) (e2 : am_evm G (d + 200) yr (.ref m :: vs) h2 = some (some (.int v), h3)) (f1 : am_fr (cl_H (o + 1)) h h2) (f2 : am_fr (fun b => b = m + 1 ∨ b = m + 12 ∨ b = m + 14 ∨ b = m + 15) h2 h3) (r : cl_R G h2 (o + 1) σ n nd nt) (hs : mt_wf σ n nd nt) (hσ : am_i h3 (m + 1) = σ) : sm G h o m d yc yr vs := by
  have hm : m = o + 117 := i.1.1.2
  have ho : o = G 0 := i.1.1.1
  have f : am_fr (iv_hs o m) h h3 := (f1.wd (fun b hb => Or.inl ⟨by have := hb.1; omega, by have := hb.2; omega⟩)).tr (f2.wd (fun b hb => Or.inr hb))
  refine ⟨v, h2, h3, e1, e2, i.hall f ⟨n, nd, nt, by rw [hσ]; exact hs, ?_⟩, by rw [f.1]; omega, by rw [f.2.1]; omega⟩
  rw [hσ]
  exact r.fr hs.1.1.2 hs.1.2.1.2 f2 (fun b hb => by omega)
