/-! the call text on both sides -/
section TE
variable {G : Nat → Nat} {h : am_H} {o m d : Nat}
theorem s_text (i : iv G h o m) : sm G h o m d 99 202 [] := by
  have hm : m = o + 117 := i.1.1.2
  have ho : o = G 0 := i.1.1.1
  have lm := i.1.2.1
  have lo := i.1.2.2.1
  obtain ⟨t, ht, t1, t2, t3⟩ := i.2.2.2.1
  obtain ⟨n, nd, nt, hs, r⟩ := i.2.1
  have h14 := hs.1.2.2.2
  have hA := rp_Ah nt h14
  obtain ⟨hc, W, st, ln, f0, EE, w5, c6, c7, c8, c10, e0⟩ := c_read0 (d := d + 196) (T := am_i h (m + 13)) lo i.1.2.2.2.2.2 ho t1 ht t3
  have env := (EE 0 (by omega)).2.2.1
  have hW := pc_W (EE 0 (by omega))
  -- the reference's own start, at any memory that has its cells as they are here
  have mkE : ∀ hr key, key < 3 → cm_Lay G hr m → am_i hr m 14 = am_i h m 14 → am_i hr (m + 13) = am_i h (m + 13) → rp_E G hr m (am_i h (m + 13)) t W st ln key (rp_A nt) := fun hr key hk l q1 q2 => ⟨l, ⟨by rw [q1]; exact t2, fun j _ => by rw [q2]⟩, env, hA.2, hk⟩
  have fN : ∀ h1, am_fr (pc_Q o) hc h1 → am_fr (rd_S o) h h1 := fun h1 f => f0.tr (f.wd (fun b hb => by unfold pc_Q at hb; unfold rd_S; omega))
  have mkEN : ∀ h1 key, key < 3 → am_fr (rd_S o) h h1 → rp_E G (am_pi h1 (o + 80) 1 0) m (am_i h (m + 13)) t W st ln key (rp_A nt) := fun h1 key hk f => by
    refine mkE _ key hk ((lm.fr f).fr (am_fr.pi (S := fun b => b = o + 80) rfl)) ?_ ?_
    · rw [(am_pi_o m (by omega)).1, f.i1 (fun z => by unfold rd_S at z; omega)]
    · rw [(am_pi_o (m + 13) (by omega)).1, f.i1 (fun z => by unfold rd_S at z; omega)]
  rcases tk_key_ex (am_i h (m + 13)) st ln with hq | ⟨key, hkey, hq⟩
  · obtain ⟨h1, er, f1, x10⟩ := c_readN (d := d + 193) (k2 := 0) (EE 0 (by omega)) w5 c6 c7 c8 c10 (Or.inr hq) (Nat.zero_le W) (Or.inl ⟨hq, rfl⟩) (by omega)
    exact sm_txN i hs (e0.trans er) (fN h1 f1) x10 (fun hr q1 Er => m_parseN (d := d + 196) (key := 0) (q := none) (k2 := 0) Er (by rw [q1]; exact hs.1.2.2.1) h14 hq (Or.inl ⟨rfl, rfl⟩) (by omega)) (mkEN h1 0 (by omega) (fN h1 f1))
  · have E := EE key hkey
    have h0 : 0 < W := by
      have hk1 : tk_kd (am_i h (m + 13)) W st ln 0 = 1 := by
        match key, hkey, hq with
        | 0, _, hq => exact tk_is1 env (by omega) (by decide) hq
        | 1, _, hq => exact tk_is1 env (by omega) (by decide) hq.2
        | 2, _, hq => exact tk_is1 env (by omega) (by decide) hq.2.2
        | n + 3, hlt, _ => omega
      exact tk_lt (T := am_i h (m + 13)) (st := st) (ln := ln) (by omega)
    rcases (pj_all (m := m) (A := rp_A nt) E W 0 0 (by omega) (by omega)).2 1 (by omega) (by omega) with ⟨k2, hk2, Hc, Hr⟩ | ⟨k2, sub, ⟨hk1, hk2, hsub⟩, hg, Hc, Hr⟩
    · obtain ⟨h1, er, f1, x10⟩ := c_readN (d := d + 193) (k2 := k2) E w5 c6 c7 c8 c10 (Or.inl h0) hk2 (Or.inr (Or.inl ⟨hq, Hc⟩)) (by omega)
      exact sm_txN i hs (e0.trans er) (fN h1 f1) x10 (fun hr q1 Er => m_parseN (d := d + 196) (q := some key) (k2 := k2) Er (by rw [q1]; exact hs.1.2.2.1) h14 hq (Or.inr (Or.inl ⟨rfl, Hr hr Er⟩)) (by omega)) (mkEN h1 key hkey (fN h1 f1))
    · by_cases hkW : k2 < W
      · obtain ⟨h1, er, f1, x10⟩ := c_readN (d := d + 193) (k2 := k2) E w5 c6 c7 c8 c10 (Or.inl h0) hk2 (Or.inr (Or.inr ⟨hq, hkW, sub, by omega, Hc⟩)) (by omega)
        exact sm_txN i hs (e0.trans er) (fN h1 f1) x10 (fun hr q1 Er => m_parseN (d := d + 196) (q := some key) (k2 := k2) Er (by rw [q1]; exact hs.1.2.2.1) h14 hq (Or.inr (Or.inr ⟨rfl, hkW, sub, Hr hr Er⟩)) (by omega)) (mkEN h1 key hkey (fN h1 f1))
      · obtain rfl : k2 = W := by omega
        obtain ⟨h2, hb, er, fb, q1, q2, q3, q4, q5⟩ := c_readO (d := d + 193) E w5 c6 c7 c8 c10 h0 hq (show sub.length ≤ 96 by omega) Hc (by omega)
        have fbN := fN hb fb
        have tc : am_top hc = am_top h := f0.1
        have Q : tx_Q h h2 hb o key sub := ⟨fbN, by rw [← tc, ← f0.2.1]; exact q1, q2, by rw [← tc]; exact q3, by rw [← tc]; exact q4, by rw [← tc]; exact q5⟩
        have er' : am_evm G (d + 199) 42 [.ref (o + 79)] h = some (some (.ref (am_top h)), h2) := by rw [← tc]; exact e0.trans er
        have htop := lm.1.2.1
        have I2 : ∀ b, b < am_top h → (b ≠ o + 79 ∧ (b < o + 82 ∨ o + 85 < b)) → am_i h2 b = am_i h b := fun b hb1 hb2 => by
          rw [(q2.2.2 b (by rw [fbN.1]; exact hb1) id).1, fbN.i1 (fun z => by unfold rd_S at z; omega)]
        have l2 : cm_Lay G h2 m := (lm.fr fbN).ex q2 id
        by_cases h14' : nt = 14
        · subst h14'
          have Er : rp_E G (am_pi h2 (o + 80) 1 0) m (am_i h (m + 13)) t k2 st ln key (rp_A 14) := mkE _ key hkey (l2.fr (am_fr.pi (S := fun b => b = o + 80) rfl)) (by rw [(am_pi_o m (by omega)).1, I2 m (by omega) (by omega)]) (by rw [(am_pi_o (m + 13) (by omega)).1, I2 (m + 13) (by omega) (by omega)])
          obtain ⟨h3, ep, F3, -⟩ := m_parseO (d := d + 196) Er (by rw [(am_pi_o (m + 1) (by omega)).1, I2 (m + 1) (by omega) (by omega)]; exact hs.1.2.2.1) h14 hq (Hr _ Er) (by omega)
          exact sm_txF i hs er' Q (by omega) hkey Er ⟨h3, ep, F3⟩
        · have l5 : cm_Lay G (tx_5 h2 o (am_top h) nt key) m := l2.fq (tx_5f (m := m)) (by omega)
          have I5 : ∀ b, b ≠ o + 80 → b ≠ o + 5 → b ≠ o + 1 → am_i (tx_5 h2 o (am_top h) nt key) b = am_i h2 b := fun b z1 z2 z3 => by
            unfold tx_5
            rw [(am_pi_o _ (by omega)).1, (am_pi_o _ (by omega)).1]
            show am_i (am_pi h2 (o + 80) 1 0) b = _
            rw [(am_pi_o _ (by omega)).1]
          have Er : rp_E G (tx_5 h2 o (am_top h) nt key) m (am_i h (m + 13)) t k2 st ln key (rp_A nt) := mkE _ key hkey l5 (by rw [I5 m (by omega) (by omega) (by omega), I2 m (by omega) (by omega)]) (by rw [I5 (m + 13) (by omega) (by omega) (by omega), I2 (m + 13) (by omega) (by omega)])
          exact sm_txO i hs (by omega) er' Q hg (by omega) hkey Er (m_parseO (d := d + 196) Er (by rw [I5 (m + 1) (by omega) (by omega) (by omega), I2 (m + 1) (by omega) (by omega)]; exact hs.1.2.2.1) h14 hq (Hr _ Er) (by omega))
end TE
