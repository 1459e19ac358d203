/-! where the cells lie: frames, the reference (at m), the class (at o) -/
def am_fr (S : Nat → Prop) (h h2 : am_H) : Prop := am_top h2 = am_top h ∧ am_sl h2 = am_sl h ∧ am_sh h2 = am_sh h ∧ am_r h2 = am_r h ∧ ∀ b, ¬ S b → am_i h2 b = am_i h b
theorem am_fr.rf {S : Nat → Prop} {h : am_H} : am_fr S h h := ⟨rfl, rfl, rfl, rfl, fun _ _ => rfl⟩
theorem am_fr.tr {S : Nat → Prop} {h h2 h3 : am_H} (a : am_fr S h h2) (b : am_fr S h2 h3) : am_fr S h h3 := ⟨b.1.trans a.1, b.2.1.trans a.2.1, b.2.2.1.trans a.2.2.1, b.2.2.2.1.trans a.2.2.2.1, fun c hc => (b.2.2.2.2 c hc).trans (a.2.2.2.2 c hc)⟩
theorem am_fr.wd {S T : Nat → Prop} {h h2 : am_H} (a : am_fr S h h2) (hs : ∀ b, S b → T b) : am_fr T h h2 := ⟨a.1, a.2.1, a.2.2.1, a.2.2.2.1, fun c hc => a.2.2.2.2 c (fun z => hc (hs c z))⟩
theorem am_fr.pi {S : Nat → Prop} {h : am_H} {a k : Nat} {v : Int32} (hs : S a) : am_fr S h (am_pi h a k v) := ⟨rfl, rfl, rfl, rfl, fun b hb => (am_pi_o b (fun e => hb (e ▸ hs))).1⟩
theorem am_fr.pa {S : Nat → Prop} {h : am_H} {a : Nat} {g : Nat → Int32} (hs : S a) : am_fr S h (am_pa h a g) := ⟨rfl, rfl, rfl, rfl, fun b hb => (am_pa_o b (fun e => hb (e ▸ hs))).1⟩
theorem am_cl {n : Nat} (h : n < 2147483648) : (nI n).toNatClampNeg = n := nI_clamp h
theorem am_ia_of {G : Nat → Nat} {h : am_H} {a n j : Nat} (ho : G 0 ≤ a ∧ a < am_top h) (hs : am_sh h a = (20, n)) (hj : j < n) (hn : n < 2147483648) : am_ia G h a (nI j) := ⟨Or.inl ⟨ho, by rw [hs]⟩, by rw [hs]; exact nI_in hj hn⟩
theorem am_iw_of {G : Nat → Nat} {h : am_H} {a n j : Nat} (ho : G 0 ≤ a ∧ a < am_top h) (hs : am_sh h a = (20, n)) (hj : j < n) (hn : n < 2147483648) : am_iw G h a (nI j) := ⟨⟨ho, by rw [hs]⟩, by rw [hs]; exact nI_in hj hn⟩
theorem am_ra_of {G : Nat → Nat} {h : am_H} {a k n j : Nat} (ho : G 0 ≤ a ∧ a < am_top h) (hs : am_sh h a = (k, n)) (hk : 22 ≤ k ∧ k ≤ 26) (hj : j < n) (hn : n < 2147483648) : am_ra G h a (nI j) := ⟨⟨ho, by rw [hs]; exact hk⟩, by rw [hs]; exact nI_in hj hn⟩
theorem am_pi_i {h : am_H} {a k b j : Nat} {v : Int32} : am_i (am_pi h a k v) b j = if b = a ∧ j = k then v else am_i h b j := rfl
theorem am_pi_r {h : am_H} {a k : Nat} {v : Int32} : am_r (am_pi h a k v) = am_r h := rfl
theorem am_pi_sh {h : am_H} {a k : Nat} {v : Int32} : am_sh (am_pi h a k v) = am_sh h := rfl
theorem am_pi_t {h : am_H} {a k : Nat} {v : Int32} : am_top (am_pi h a k v) = am_top h := rfl
theorem am_ob_pi {G : Nat → Nat} {h : am_H} {a k b c : Nat} {v : Int32} : am_ob G (am_pi h a k v) b c ↔ am_ob G h b c := Iff.rfl
theorem am_ia_pi {G : Nat → Nat} {h : am_H} {a k b : Nat} {v j : Int32} : am_ia G (am_pi h a k v) b j ↔ am_ia G h b j := Iff.rfl
theorem am_iw_pi {G : Nat → Nat} {h : am_H} {a k b : Nat} {v j : Int32} : am_iw G (am_pi h a k v) b j ↔ am_iw G h b j := Iff.rfl
theorem am_ra_pi {G : Nat → Nat} {h : am_H} {a k b : Nat} {v j : Int32} : am_ra G (am_pi h a k v) b j ↔ am_ra G h b j := Iff.rfl
def cm_T : List (Nat × Nat × Nat) := [(0, 1, 3114), (1, 2, 3114), (2, 3, 3114), (4, 4, 4), (5, 5, 4), (6, 6, 96), (7, 7, 5), (8, 8, 5), (9, 9, 5), (10, 10, 5), (11, 11, 120), (12, 12, 12), (13, 13, 96), (25, 14, 128), (26, 15, 100), (27, 16, 24), (28, 17, 60), (30, 18, 60)]
/-- the reference at m: its object, its rows -/
def cm_Lay (G : Nat → Nat) (h : am_H) (m : Nat) : Prop := (G 0 ≤ m ∧ m + 18 < am_top h ∧ (am_sh h m).1 = 9) ∧ ∀ q ∈ cm_T, am_r h m q.1 = some (m + q.2.1) ∧ am_sh h (m + q.2.1) = (20, q.2.2)
theorem cm_Lay.fr {G : Nat → Nat} {h h2 : am_H} {m : Nat} {S : Nat → Prop} (l : cm_Lay G h m) (f : am_fr S h h2) : cm_Lay G h2 m := by
  obtain ⟨⟨a, b, c⟩, e⟩ := l
  refine ⟨⟨a, by rw [f.1]; exact b, by rw [f.2.2.1]; exact c⟩, fun q hq => ?_⟩
  rw [f.2.2.2.1, f.2.2.1]
  exact e q hq
theorem cm_ob {G : Nat → Nat} {h : am_H} {m : Nat} (l : cm_Lay G h m) : am_ob G h m 9 := ⟨⟨l.1.1, by have := l.1.2.1; omega⟩, l.1.2.2⟩
theorem cm_own {G : Nat → Nat} {h : am_H} {m : Nat} (l : cm_Lay G h m) {k : Nat} (hk : k ≤ 18) : G 0 ≤ m + k ∧ m + k < am_top h := ⟨by have := l.1.1; omega, by have := l.1.2.1; omega⟩
theorem cm_r0 {G : Nat → Nat} {h : am_H} {m : Nat} (l : cm_Lay G h m) : am_r h m 0 = some (m + 1) := (l.2 (0, 1, 3114) (by decide)).1
theorem cm_s1 {G : Nat → Nat} {h : am_H} {m : Nat} (l : cm_Lay G h m) : am_sh h (m + 1) = (20, 3114) := (l.2 (0, 1, 3114) (by decide)).2
theorem cm_ia1 {G : Nat → Nat} {h : am_H} {m : Nat} (l : cm_Lay G h m) {j : Nat} (hj : j < 3114) : am_ia G h (m + 1) (nI j) := am_ia_of (cm_own l (by omega)) (cm_s1 l) hj (by omega)
theorem cm_iw1 {G : Nat → Nat} {h : am_H} {m : Nat} (l : cm_Lay G h m) {j : Nat} (hj : j < 3114) : am_iw G h (m + 1) (nI j) := am_iw_of (cm_own l (by omega)) (cm_s1 l) hj (by omega)
theorem cm_r1 {G : Nat → Nat} {h : am_H} {m : Nat} (l : cm_Lay G h m) : am_r h m 1 = some (m + 2) := (l.2 (1, 2, 3114) (by decide)).1
theorem cm_s2 {G : Nat → Nat} {h : am_H} {m : Nat} (l : cm_Lay G h m) : am_sh h (m + 2) = (20, 3114) := (l.2 (1, 2, 3114) (by decide)).2
theorem cm_ia2 {G : Nat → Nat} {h : am_H} {m : Nat} (l : cm_Lay G h m) {j : Nat} (hj : j < 3114) : am_ia G h (m + 2) (nI j) := am_ia_of (cm_own l (by omega)) (cm_s2 l) hj (by omega)
theorem cm_iw2 {G : Nat → Nat} {h : am_H} {m : Nat} (l : cm_Lay G h m) {j : Nat} (hj : j < 3114) : am_iw G h (m + 2) (nI j) := am_iw_of (cm_own l (by omega)) (cm_s2 l) hj (by omega)
theorem cm_r2 {G : Nat → Nat} {h : am_H} {m : Nat} (l : cm_Lay G h m) : am_r h m 2 = some (m + 3) := (l.2 (2, 3, 3114) (by decide)).1
theorem cm_s3 {G : Nat → Nat} {h : am_H} {m : Nat} (l : cm_Lay G h m) : am_sh h (m + 3) = (20, 3114) := (l.2 (2, 3, 3114) (by decide)).2
theorem cm_ia3 {G : Nat → Nat} {h : am_H} {m : Nat} (l : cm_Lay G h m) {j : Nat} (hj : j < 3114) : am_ia G h (m + 3) (nI j) := am_ia_of (cm_own l (by omega)) (cm_s3 l) hj (by omega)
theorem cm_iw3 {G : Nat → Nat} {h : am_H} {m : Nat} (l : cm_Lay G h m) {j : Nat} (hj : j < 3114) : am_iw G h (m + 3) (nI j) := am_iw_of (cm_own l (by omega)) (cm_s3 l) hj (by omega)
theorem cm_r4 {G : Nat → Nat} {h : am_H} {m : Nat} (l : cm_Lay G h m) : am_r h m 4 = some (m + 4) := (l.2 (4, 4, 4) (by decide)).1
theorem cm_s4 {G : Nat → Nat} {h : am_H} {m : Nat} (l : cm_Lay G h m) : am_sh h (m + 4) = (20, 4) := (l.2 (4, 4, 4) (by decide)).2
theorem cm_ia4 {G : Nat → Nat} {h : am_H} {m : Nat} (l : cm_Lay G h m) {j : Nat} (hj : j < 4) : am_ia G h (m + 4) (nI j) := am_ia_of (cm_own l (by omega)) (cm_s4 l) hj (by omega)
theorem cm_iw4 {G : Nat → Nat} {h : am_H} {m : Nat} (l : cm_Lay G h m) {j : Nat} (hj : j < 4) : am_iw G h (m + 4) (nI j) := am_iw_of (cm_own l (by omega)) (cm_s4 l) hj (by omega)
theorem cm_r5 {G : Nat → Nat} {h : am_H} {m : Nat} (l : cm_Lay G h m) : am_r h m 5 = some (m + 5) := (l.2 (5, 5, 4) (by decide)).1
theorem cm_s5 {G : Nat → Nat} {h : am_H} {m : Nat} (l : cm_Lay G h m) : am_sh h (m + 5) = (20, 4) := (l.2 (5, 5, 4) (by decide)).2
theorem cm_ia5 {G : Nat → Nat} {h : am_H} {m : Nat} (l : cm_Lay G h m) {j : Nat} (hj : j < 4) : am_ia G h (m + 5) (nI j) := am_ia_of (cm_own l (by omega)) (cm_s5 l) hj (by omega)
theorem cm_iw5 {G : Nat → Nat} {h : am_H} {m : Nat} (l : cm_Lay G h m) {j : Nat} (hj : j < 4) : am_iw G h (m + 5) (nI j) := am_iw_of (cm_own l (by omega)) (cm_s5 l) hj (by omega)
theorem cm_r6 {G : Nat → Nat} {h : am_H} {m : Nat} (l : cm_Lay G h m) : am_r h m 6 = some (m + 6) := (l.2 (6, 6, 96) (by decide)).1
theorem cm_s6 {G : Nat → Nat} {h : am_H} {m : Nat} (l : cm_Lay G h m) : am_sh h (m + 6) = (20, 96) := (l.2 (6, 6, 96) (by decide)).2
theorem cm_ia6 {G : Nat → Nat} {h : am_H} {m : Nat} (l : cm_Lay G h m) {j : Nat} (hj : j < 96) : am_ia G h (m + 6) (nI j) := am_ia_of (cm_own l (by omega)) (cm_s6 l) hj (by omega)
theorem cm_iw6 {G : Nat → Nat} {h : am_H} {m : Nat} (l : cm_Lay G h m) {j : Nat} (hj : j < 96) : am_iw G h (m + 6) (nI j) := am_iw_of (cm_own l (by omega)) (cm_s6 l) hj (by omega)
theorem cm_r7 {G : Nat → Nat} {h : am_H} {m : Nat} (l : cm_Lay G h m) : am_r h m 7 = some (m + 7) := (l.2 (7, 7, 5) (by decide)).1
theorem cm_s7 {G : Nat → Nat} {h : am_H} {m : Nat} (l : cm_Lay G h m) : am_sh h (m + 7) = (20, 5) := (l.2 (7, 7, 5) (by decide)).2
theorem cm_ia7 {G : Nat → Nat} {h : am_H} {m : Nat} (l : cm_Lay G h m) {j : Nat} (hj : j < 5) : am_ia G h (m + 7) (nI j) := am_ia_of (cm_own l (by omega)) (cm_s7 l) hj (by omega)
theorem cm_iw7 {G : Nat → Nat} {h : am_H} {m : Nat} (l : cm_Lay G h m) {j : Nat} (hj : j < 5) : am_iw G h (m + 7) (nI j) := am_iw_of (cm_own l (by omega)) (cm_s7 l) hj (by omega)
theorem cm_r8 {G : Nat → Nat} {h : am_H} {m : Nat} (l : cm_Lay G h m) : am_r h m 8 = some (m + 8) := (l.2 (8, 8, 5) (by decide)).1
theorem cm_s8 {G : Nat → Nat} {h : am_H} {m : Nat} (l : cm_Lay G h m) : am_sh h (m + 8) = (20, 5) := (l.2 (8, 8, 5) (by decide)).2
theorem cm_ia8 {G : Nat → Nat} {h : am_H} {m : Nat} (l : cm_Lay G h m) {j : Nat} (hj : j < 5) : am_ia G h (m + 8) (nI j) := am_ia_of (cm_own l (by omega)) (cm_s8 l) hj (by omega)
theorem cm_iw8 {G : Nat → Nat} {h : am_H} {m : Nat} (l : cm_Lay G h m) {j : Nat} (hj : j < 5) : am_iw G h (m + 8) (nI j) := am_iw_of (cm_own l (by omega)) (cm_s8 l) hj (by omega)
theorem cm_r9 {G : Nat → Nat} {h : am_H} {m : Nat} (l : cm_Lay G h m) : am_r h m 9 = some (m + 9) := (l.2 (9, 9, 5) (by decide)).1
theorem cm_s9 {G : Nat → Nat} {h : am_H} {m : Nat} (l : cm_Lay G h m) : am_sh h (m + 9) = (20, 5) := (l.2 (9, 9, 5) (by decide)).2
theorem cm_ia9 {G : Nat → Nat} {h : am_H} {m : Nat} (l : cm_Lay G h m) {j : Nat} (hj : j < 5) : am_ia G h (m + 9) (nI j) := am_ia_of (cm_own l (by omega)) (cm_s9 l) hj (by omega)
theorem cm_iw9 {G : Nat → Nat} {h : am_H} {m : Nat} (l : cm_Lay G h m) {j : Nat} (hj : j < 5) : am_iw G h (m + 9) (nI j) := am_iw_of (cm_own l (by omega)) (cm_s9 l) hj (by omega)
theorem cm_r10 {G : Nat → Nat} {h : am_H} {m : Nat} (l : cm_Lay G h m) : am_r h m 10 = some (m + 10) := (l.2 (10, 10, 5) (by decide)).1
theorem cm_s10 {G : Nat → Nat} {h : am_H} {m : Nat} (l : cm_Lay G h m) : am_sh h (m + 10) = (20, 5) := (l.2 (10, 10, 5) (by decide)).2
theorem cm_ia10 {G : Nat → Nat} {h : am_H} {m : Nat} (l : cm_Lay G h m) {j : Nat} (hj : j < 5) : am_ia G h (m + 10) (nI j) := am_ia_of (cm_own l (by omega)) (cm_s10 l) hj (by omega)
theorem cm_iw10 {G : Nat → Nat} {h : am_H} {m : Nat} (l : cm_Lay G h m) {j : Nat} (hj : j < 5) : am_iw G h (m + 10) (nI j) := am_iw_of (cm_own l (by omega)) (cm_s10 l) hj (by omega)
theorem cm_r11 {G : Nat → Nat} {h : am_H} {m : Nat} (l : cm_Lay G h m) : am_r h m 11 = some (m + 11) := (l.2 (11, 11, 120) (by decide)).1
theorem cm_s11 {G : Nat → Nat} {h : am_H} {m : Nat} (l : cm_Lay G h m) : am_sh h (m + 11) = (20, 120) := (l.2 (11, 11, 120) (by decide)).2
theorem cm_ia11 {G : Nat → Nat} {h : am_H} {m : Nat} (l : cm_Lay G h m) {j : Nat} (hj : j < 120) : am_ia G h (m + 11) (nI j) := am_ia_of (cm_own l (by omega)) (cm_s11 l) hj (by omega)
theorem cm_iw11 {G : Nat → Nat} {h : am_H} {m : Nat} (l : cm_Lay G h m) {j : Nat} (hj : j < 120) : am_iw G h (m + 11) (nI j) := am_iw_of (cm_own l (by omega)) (cm_s11 l) hj (by omega)
theorem cm_r12 {G : Nat → Nat} {h : am_H} {m : Nat} (l : cm_Lay G h m) : am_r h m 12 = some (m + 12) := (l.2 (12, 12, 12) (by decide)).1
theorem cm_s12 {G : Nat → Nat} {h : am_H} {m : Nat} (l : cm_Lay G h m) : am_sh h (m + 12) = (20, 12) := (l.2 (12, 12, 12) (by decide)).2
theorem cm_ia12 {G : Nat → Nat} {h : am_H} {m : Nat} (l : cm_Lay G h m) {j : Nat} (hj : j < 12) : am_ia G h (m + 12) (nI j) := am_ia_of (cm_own l (by omega)) (cm_s12 l) hj (by omega)
theorem cm_iw12 {G : Nat → Nat} {h : am_H} {m : Nat} (l : cm_Lay G h m) {j : Nat} (hj : j < 12) : am_iw G h (m + 12) (nI j) := am_iw_of (cm_own l (by omega)) (cm_s12 l) hj (by omega)
theorem cm_r13 {G : Nat → Nat} {h : am_H} {m : Nat} (l : cm_Lay G h m) : am_r h m 13 = some (m + 13) := (l.2 (13, 13, 96) (by decide)).1
theorem cm_s13 {G : Nat → Nat} {h : am_H} {m : Nat} (l : cm_Lay G h m) : am_sh h (m + 13) = (20, 96) := (l.2 (13, 13, 96) (by decide)).2
theorem cm_ia13 {G : Nat → Nat} {h : am_H} {m : Nat} (l : cm_Lay G h m) {j : Nat} (hj : j < 96) : am_ia G h (m + 13) (nI j) := am_ia_of (cm_own l (by omega)) (cm_s13 l) hj (by omega)
theorem cm_iw13 {G : Nat → Nat} {h : am_H} {m : Nat} (l : cm_Lay G h m) {j : Nat} (hj : j < 96) : am_iw G h (m + 13) (nI j) := am_iw_of (cm_own l (by omega)) (cm_s13 l) hj (by omega)
theorem cm_r25 {G : Nat → Nat} {h : am_H} {m : Nat} (l : cm_Lay G h m) : am_r h m 25 = some (m + 14) := (l.2 (25, 14, 128) (by decide)).1
theorem cm_s14 {G : Nat → Nat} {h : am_H} {m : Nat} (l : cm_Lay G h m) : am_sh h (m + 14) = (20, 128) := (l.2 (25, 14, 128) (by decide)).2
theorem cm_ia14 {G : Nat → Nat} {h : am_H} {m : Nat} (l : cm_Lay G h m) {j : Nat} (hj : j < 128) : am_ia G h (m + 14) (nI j) := am_ia_of (cm_own l (by omega)) (cm_s14 l) hj (by omega)
theorem cm_iw14 {G : Nat → Nat} {h : am_H} {m : Nat} (l : cm_Lay G h m) {j : Nat} (hj : j < 128) : am_iw G h (m + 14) (nI j) := am_iw_of (cm_own l (by omega)) (cm_s14 l) hj (by omega)
theorem cm_r26 {G : Nat → Nat} {h : am_H} {m : Nat} (l : cm_Lay G h m) : am_r h m 26 = some (m + 15) := (l.2 (26, 15, 100) (by decide)).1
theorem cm_s15 {G : Nat → Nat} {h : am_H} {m : Nat} (l : cm_Lay G h m) : am_sh h (m + 15) = (20, 100) := (l.2 (26, 15, 100) (by decide)).2
theorem cm_ia15 {G : Nat → Nat} {h : am_H} {m : Nat} (l : cm_Lay G h m) {j : Nat} (hj : j < 100) : am_ia G h (m + 15) (nI j) := am_ia_of (cm_own l (by omega)) (cm_s15 l) hj (by omega)
theorem cm_iw15 {G : Nat → Nat} {h : am_H} {m : Nat} (l : cm_Lay G h m) {j : Nat} (hj : j < 100) : am_iw G h (m + 15) (nI j) := am_iw_of (cm_own l (by omega)) (cm_s15 l) hj (by omega)
theorem cm_r27 {G : Nat → Nat} {h : am_H} {m : Nat} (l : cm_Lay G h m) : am_r h m 27 = some (m + 16) := (l.2 (27, 16, 24) (by decide)).1
theorem cm_s16 {G : Nat → Nat} {h : am_H} {m : Nat} (l : cm_Lay G h m) : am_sh h (m + 16) = (20, 24) := (l.2 (27, 16, 24) (by decide)).2
theorem cm_ia16 {G : Nat → Nat} {h : am_H} {m : Nat} (l : cm_Lay G h m) {j : Nat} (hj : j < 24) : am_ia G h (m + 16) (nI j) := am_ia_of (cm_own l (by omega)) (cm_s16 l) hj (by omega)
theorem cm_iw16 {G : Nat → Nat} {h : am_H} {m : Nat} (l : cm_Lay G h m) {j : Nat} (hj : j < 24) : am_iw G h (m + 16) (nI j) := am_iw_of (cm_own l (by omega)) (cm_s16 l) hj (by omega)
theorem cm_r28 {G : Nat → Nat} {h : am_H} {m : Nat} (l : cm_Lay G h m) : am_r h m 28 = some (m + 17) := (l.2 (28, 17, 60) (by decide)).1
theorem cm_s17 {G : Nat → Nat} {h : am_H} {m : Nat} (l : cm_Lay G h m) : am_sh h (m + 17) = (20, 60) := (l.2 (28, 17, 60) (by decide)).2
theorem cm_ia17 {G : Nat → Nat} {h : am_H} {m : Nat} (l : cm_Lay G h m) {j : Nat} (hj : j < 60) : am_ia G h (m + 17) (nI j) := am_ia_of (cm_own l (by omega)) (cm_s17 l) hj (by omega)
theorem cm_iw17 {G : Nat → Nat} {h : am_H} {m : Nat} (l : cm_Lay G h m) {j : Nat} (hj : j < 60) : am_iw G h (m + 17) (nI j) := am_iw_of (cm_own l (by omega)) (cm_s17 l) hj (by omega)
theorem cm_r30 {G : Nat → Nat} {h : am_H} {m : Nat} (l : cm_Lay G h m) : am_r h m 30 = some (m + 18) := (l.2 (30, 18, 60) (by decide)).1
theorem cm_s18 {G : Nat → Nat} {h : am_H} {m : Nat} (l : cm_Lay G h m) : am_sh h (m + 18) = (20, 60) := (l.2 (30, 18, 60) (by decide)).2
theorem cm_ia18 {G : Nat → Nat} {h : am_H} {m : Nat} (l : cm_Lay G h m) {j : Nat} (hj : j < 60) : am_ia G h (m + 18) (nI j) := am_ia_of (cm_own l (by omega)) (cm_s18 l) hj (by omega)
theorem cm_iw18 {G : Nat → Nat} {h : am_H} {m : Nat} (l : cm_Lay G h m) {j : Nat} (hj : j < 60) : am_iw G h (m + 18) (nI j) := am_iw_of (cm_own l (by omega)) (cm_s18 l) hj (by omega)
/-- a hall at a: its object, rows, people, deeds -/
def cl_Hall (G : Nat → Nat) (h : am_H) (a : Nat) : Prop := (G 0 ≤ a ∧ a + 25 < am_top h ∧ (am_sh h a).1 = 1) ∧ (am_r h a 0 = some (a + 1) ∧ am_r h a 1 = some (a + 2) ∧ am_r h a 2 = some (a + 3) ∧ am_r h a 3 = some (a + 4) ∧ am_r h a 4 = some (a + 5)) ∧ (am_sh h (a + 1) = (22, 12) ∧ am_sh h (a + 2) = (23, 8) ∧ am_sh h (a + 3) = (24, 14) ∧ am_sh h (a + 4) = (20, 3) ∧ am_sh h (a + 5) = (20, 96)) ∧ (∀ p, p < 12 → am_r h (a + 1) p = some (a + 6 + p) ∧ (am_sh h (a + 6 + p)).1 = 2) ∧ (∀ p, p < 8 → am_r h (a + 2) p = some (a + 18 + p) ∧ (am_sh h (a + 18 + p)).1 = 0)
theorem cl_Hall.fr {G : Nat → Nat} {h h2 : am_H} {a : Nat} {S : Nat → Prop} (l : cl_Hall G h a) (f : am_fr S h h2) : cl_Hall G h2 a := by
  unfold cl_Hall at l ⊢
  rw [f.1, f.2.2.1, f.2.2.2.1]
  exact l
section HL
variable {G : Nat → Nat} {h : am_H} {a : Nat}
theorem ha_own (l : cl_Hall G h a) {k : Nat} (hk : k ≤ 25) : G 0 ≤ a + k ∧ a + k < am_top h := ⟨by have := l.1.1; omega, by have := l.1.2.1; omega⟩
theorem ha_ob (l : cl_Hall G h a) : am_ob G h a 1 := ⟨⟨l.1.1, by have := l.1.2.1; omega⟩, l.1.2.2⟩
theorem ha_r0 (l : cl_Hall G h a) : am_r h a 0 = some (a + 1) := l.2.1.1
theorem ha_r1 (l : cl_Hall G h a) : am_r h a 1 = some (a + 2) := l.2.1.2.1
theorem ha_r2 (l : cl_Hall G h a) : am_r h a 2 = some (a + 3) := l.2.1.2.2.1
theorem ha_r3 (l : cl_Hall G h a) : am_r h a 3 = some (a + 4) := l.2.1.2.2.2.1
theorem ha_r4 (l : cl_Hall G h a) : am_r h a 4 = some (a + 5) := l.2.1.2.2.2.2
theorem ha_p1 (l : cl_Hall G h a) {p : Nat} (hp : p < 12) : am_ra G h (a + 1) (nI p) := am_ra_of (ha_own l (by omega)) l.2.2.1.1 (by decide) hp (by omega)
theorem ha_p2 (l : cl_Hall G h a) {p : Nat} (hp : p < 12) : am_r h (a + 1) p = some (a + 6 + p) := (l.2.2.2.1 p hp).1
theorem ha_p3 (l : cl_Hall G h a) {p : Nat} (hp : p < 12) : am_ob G h (a + 6 + p) 2 := ⟨by have := ha_own l (k := 6 + p) (by omega); rw [Nat.add_assoc]; exact this, (l.2.2.2.1 p hp).2⟩
theorem ha_d1 (l : cl_Hall G h a) {p : Nat} (hp : p < 8) : am_ra G h (a + 2) (nI p) := am_ra_of (ha_own l (by omega)) l.2.2.1.2.1 (by decide) hp (by omega)
theorem ha_d2 (l : cl_Hall G h a) {p : Nat} (hp : p < 8) : am_r h (a + 2) p = some (a + 18 + p) := (l.2.2.2.2 p hp).1
theorem ha_d3 (l : cl_Hall G h a) {p : Nat} (hp : p < 8) : am_ob G h (a + 18 + p) 0 := ⟨by have := ha_own l (k := 18 + p) (by omega); rw [Nat.add_assoc]; exact this, (l.2.2.2.2 p hp).2⟩
theorem ha_t1 (l : cl_Hall G h a) {p : Nat} (hp : p < 14) : am_ra G h (a + 3) (nI p) := am_ra_of (ha_own l (by omega)) l.2.2.1.2.2.1 (by decide) hp (by omega)
theorem ha_c1 (l : cl_Hall G h a) {p : Nat} (hp : p < 3) : am_ia G h (a + 4) (nI p) := am_ia_of (ha_own l (by omega)) l.2.2.1.2.2.2.1 hp (by omega)
theorem ha_c2 (l : cl_Hall G h a) {p : Nat} (hp : p < 3) : am_iw G h (a + 4) (nI p) := am_iw_of (ha_own l (by omega)) l.2.2.1.2.2.2.1 hp (by omega)
theorem ha_k1 (l : cl_Hall G h a) {p : Nat} (hp : p < 96) : am_ia G h (a + 5) (nI p) := am_ia_of (ha_own l (by omega)) l.2.2.1.2.2.2.2 hp (by omega)
theorem ha_k2 (l : cl_Hall G h a) {p : Nat} (hp : p < 96) : am_iw G h (a + 5) (nI p) := am_iw_of (ha_own l (by omega)) l.2.2.1.2.2.2.2 hp (by omega)
end HL
