/-! from the law's entry to its end -/
section EN
variable {G : Nat → Nat} {d : Nat} {X : am_H} {b L : Nat} {xs : Nat → Int32}
theorem law_start (hE : am_Env G X b L xs) : ∃ h2, am_ev G (d + 201) 0 0 [some (.ref b), none, none, none] [] X = am_ev G (d + 201) 0 18 [some (.ref b), some (.ref (G 0)), some (.ref (G 0 + 117)), some (.int (nI 0))] [] h2 ∧ iv G h2 (G 0) (G 0 + 117) ∧ sc G h2 b L xs ∧ am_top h2 = G 0 + 136 ∧ am_sl h2 ≤ 70000 := by
  obtain ⟨⟨tX, sX⟩, hb, cE⟩ := hE
  have cE : cl_E G X := cE
  have s0 : sc G X b L xs := hb
  have oO : am_ob G (am_new X 8 0 10) (G 0) 8 := by
    have := ob_n0 (G := G) (h := X) (k := 8) (n := 0) (s := 10) (by omega)
    rw [tX] at this
    exact this
  obtain ⟨h1, e1, ⟨t1, l1⟩, x1, lo, ⟨k1, k2, k3⟩, ⟨z1, z2, z3⟩, fs, fl⟩ := c_init (d := d + 197) oO (by rw [nw_t, tX]) (Nat.le_refl _)
  have y1 : am_ex (fun _ => False) X h1 := ex_new (by rw [tX]; exact x1)
  have oM : am_ob G (am_new h1 9 0 31) (G 0 + 117) 9 := by
    have := ob_n0 (G := G) (h := h1) (k := 9) (n := 0) (s := 31) (by omega)
    rw [t1] at this
    exact this
  have hz : am_i (am_new h1 9 0 31) (G 0 + 117) = fun _ => 0 := by
    have := nw_i0 (h := h1) (kd := 9) (n := 0) (sl := 31)
    rw [t1] at this
    exact this
  obtain ⟨h2, e2, ⟨t2, l2⟩, x2, lm, m0, m1, m4, mj⟩ := m_init (d := d + 199) oM (by rw [nw_t, t1]) hz
  have y2 : am_ex (fun _ => False) h1 h2 := ex_new (by rw [t1]; exact x2)
  have y : am_ex (fun _ => False) X h2 := y1.tr y2
  have hs2 : am_sl h2 ≤ 70000 := by
    rw [nw_sl] at l1 l2
    omega
  refine ⟨h2, ?_, ?_, ⟨s0.1, by rw [y.2.1 b (by have := s0.1; omega)]; exact s0.2.1, by rw [(y.2.2 b (by have := s0.1; omega) id).1]; exact s0.2.2⟩, by omega, hs2⟩
  · have q1 : am_ev G (d + 201) 0 0 [some (.ref b), none, none, none] [] X = am_ev G (d + 201) 0 8 [some (.ref b), some (.ref (G 0)), none, none] [] h1 := by
      rw [e_0_0]
      simp only [e_0_3, e_0_4, f_0_7, Option.bind_some, Option.toList_some, Option.toList_none, List.cons_append, List.nil_append, am_k1_i, am_k1_r, am_k1_u, am_k1_n, am_bo0, am_bo1, am_boi, am_ev_tb, am_tb_nil, am_rfs, am_rfn, eq_self, and_self, if_true, if_false, show ¬ (1 : Int32) = 0 from by decide, show ¬ (0 : Int32) = 1 from by decide, not_true, not_false_eq_true, and_true, true_and, and_false, false_and, or_true, true_or, or_false, false_or, tX, e1]
    rw [q1, e_0_8]
    simp only [e_0_11, e_0_12, f_0_15, e_0_16, f_0_17, Option.bind_some, Option.toList_some, Option.toList_none, List.cons_append, List.nil_append, am_k1_i, am_k1_r, am_k1_u, am_k1_n, am_bo0, am_bo1, am_boi, am_ev_tb, am_tb_nil, am_rfs, am_rfn, eq_self, and_self, if_true, if_false, show ¬ (1 : Int32) = 0 from by decide, show ¬ (0 : Int32) = 1 from by decide, not_true, not_false_eq_true, and_true, true_and, and_false, false_and, or_true, true_or, or_false, false_or, t1, e2]
    rfl
  · refine iv_0 rfl rfl ((cE.ex y1 (by omega) (fun _ z => z.elim)).ex y2 (by omega) (fun _ z => z.elim)) (lo.ex y2 (fun _ z => z.elim)) (k1.ex y2 (fun _ z => z.elim)) (k2.ex y2 (fun _ z => z.elim)) (k3.ex y2 (fun _ z => z.elim)) ?_ ?_ ?_ (fun i hi => (fs i hi).ex (by omega) y2 id id) (fun i hi => (fl i hi).ex (by omega) y2 id id) lm m0 m1 m4 mj
    · rw [(y2.2.2 (G 0 + 80) (by omega) id).1]; exact z1
    · rw [(y2.2.2 (G 0) (by omega) id).1]; exact z2
    · rw [(y2.2.2 (G 0) (by omega) id).1]; exact z3
theorem law_all (hL : L ≤ 3072) (hE : am_Env G X b L xs) : ∃ h9, am_ev G (d + 201) 0 0 [some (.ref b), none, none, none] [] X = some (some (.int 1), h9) ∧ am_top h9 - G 0 ≤ 600000 ∧ am_sl h9 ≤ 7302250 := by
  obtain ⟨h2, e, i, s, t, l⟩ := law_start (d := d) hE
  obtain ⟨h9, e9, t9, l9⟩ := law_l (d := d) hL 512 0 h2 (by omega) (by omega) i s
  exact ⟨h9, e.trans e9, by omega, by omega⟩
end EN
theorem am_claim : am_Claim := by
  intro G X b L xs hL hE
  obtain ⟨h9, e, t, l⟩ := law_all (d := 1099) hL hE
  obtain ⟨n, hn⟩ := am_ev_iff.mp e
  exact ⟨n, h9, hn, t, l⟩
