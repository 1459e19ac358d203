/-! both readers side by side -/
def pj (G : Nat → Nat) (hc : am_H) (o m t : Nat) (T : Nat → Int32) (W : Nat) (st ln : Nat → Nat) (key A l k op nt : Nat) : Prop := (∃ k2, k2 ≤ W ∧ pc_N G hc o W key st l k op nt k2 ∧ ∀ hr, rp_E G hr m T t W st ln key A → rp_N G hr m T W st ln key A l k op nt k2) ∨ ∃ k2 sub, (k < k2 ∧ k2 ≤ W ∧ sub.length ≤ k2 - k) ∧ ot_g key sub ∧ pc_O G hc o W key l k op nt k2 sub ∧ ∀ hr, rp_E G hr m T t W st ln key A → rp_O G hr m T W st ln key A l k op nt k2 sub
def pjl (G : Nat → Nat) (hc : am_H) (o m t : Nat) (T : Nat → Int32) (W : Nat) (st ln : Nat → Nat) (key A l i k op nt : Nat) : Prop := (∃ k2, k2 ≤ W ∧ pc_LN G hc o W key st l i k op nt k2 ∧ ∀ hr, rp_E G hr m T t W st ln key A → rp_LN G hr m T W st ln key A l i k op nt k2) ∨ ∃ k2 sub, (k ≤ k2 ∧ k2 ≤ W ∧ sub.length ≤ k2 - k) ∧ ot_h key sub ∧ pc_LO G hc o W key l i k op nt k2 sub ∧ ∀ hr, rp_E G hr m T t W st ln key A → rp_LO G hr m T W st ln key A l i k op nt k2 sub
section JT
variable {G : Nat → Nat} {hc hr : am_H} {o m t W key A l k op nt : Nat} {T : Nat → Int32} {st ln : Nat → Nat}
theorem rp_stop {i : Nat} (E : rp_E G hr m T t W st ln key A) (hl : l < 5) (hk : k ≤ W) (hs : (l = 2 ∧ 1 ≤ i) ∨ ¬ tk_lv (tk_sg T W st ln k) = nI l) : rp_LO G hr m T W st ln key A l i k op nt k [] := by
  rcases (show l = 0 ∨ l = 1 ∨ l = 2 ∨ l = 3 ∨ l = 4 by omega) with rfl | rfl | rfl | rfl | rfl
  · exact rp_stop_0 E hk (hs.resolve_left (by omega))
  · exact rp_stop_1 E hk (hs.resolve_left (by omega))
  · exact rp_stop_2 E hk (hs.imp (fun z => z.2) id)
  · exact rp_stop_3 E hk (hs.resolve_left (by omega))
  · exact rp_stop_4 E hk (hs.resolve_left (by omega))
theorem rp_goO {i k1 k2 : Nat} {s1 s2 : List (Int32 × Int32)} (E : rp_E G hr m T t W st ln key A) (hl : l < 5) (hk : k < W) (hi : i < pl_m l) (h3 : tk_kd T W st ln k = 3) (hs : tk_lv (T (st k)) = nI l) (hk1 : k1 ≤ W) (hkk : k + 1 ≤ k1) (hs1 : s1.length ≤ k1 - (k + 1)) (H : rp_O G hr m T W st ln key A (l + 1) (k + 1) op nt k1 s1) (H2 : rp_LO G hr m T W st ln key A l (i + 1) k1 op nt k2 s2) : rp_LO G hr m T W st ln key A l i k op nt k2 (s1 ++ [(2, T (st k))] ++ s2) := by
  rcases (show l = 0 ∨ l = 1 ∨ l = 2 ∨ l = 3 ∨ l = 4 by omega) with rfl | rfl | rfl | rfl | rfl
  · exact rp_goO_0 E hk hi h3 hs hk1 hkk hs1 H H2
  · exact rp_goO_1 E hk hi h3 hs hk1 hkk hs1 H H2
  · exact rp_goO_2 E hk hi h3 hs hk1 hkk hs1 H H2
  · exact rp_goO_3 E hk hi h3 hs hk1 hkk hs1 H H2
  · exact rp_goO_4 E hk hi h3 hs hk1 hkk hs1 H H2
theorem rp_goN1 {i k2 : Nat} (E : rp_E G hr m T t W st ln key A) (hl : l < 5) (hk : k < W) (hi : i < pl_m l) (h3 : tk_kd T W st ln k = 3) (hs : tk_lv (T (st k)) = nI l) (H : rp_N G hr m T W st ln key A (l + 1) (k + 1) op nt k2) : rp_LN G hr m T W st ln key A l i k op nt k2 := by
  rcases (show l = 0 ∨ l = 1 ∨ l = 2 ∨ l = 3 ∨ l = 4 by omega) with rfl | rfl | rfl | rfl | rfl
  · exact rp_goN1_0 E hk hi h3 hs H
  · exact rp_goN1_1 E hk hi h3 hs H
  · exact rp_goN1_2 E hk hi h3 hs H
  · exact rp_goN1_3 E hk hi h3 hs H
  · exact rp_goN1_4 E hk hi h3 hs H
theorem rp_goN2 {i k1 k2 : Nat} {s1 : List (Int32 × Int32)} (E : rp_E G hr m T t W st ln key A) (hl : l < 5) (hk : k < W) (hi : i < pl_m l) (h3 : tk_kd T W st ln k = 3) (hs : tk_lv (T (st k)) = nI l) (hk1 : k1 ≤ W) (hkk : k + 1 ≤ k1) (hs1 : s1.length ≤ k1 - (k + 1)) (H : rp_O G hr m T W st ln key A (l + 1) (k + 1) op nt k1 s1) (H2 : rp_LN G hr m T W st ln key A l (i + 1) k1 op nt k2) : rp_LN G hr m T W st ln key A l i k op nt k2 := by
  rcases (show l = 0 ∨ l = 1 ∨ l = 2 ∨ l = 3 ∨ l = 4 by omega) with rfl | rfl | rfl | rfl | rfl
  · exact rp_goN2_0 E hk hi h3 hs hk1 hkk hs1 H H2
  · exact rp_goN2_1 E hk hi h3 hs hk1 hkk hs1 H H2
  · exact rp_goN2_2 E hk hi h3 hs hk1 hkk hs1 H H2
  · exact rp_goN2_3 E hk hi h3 hs hk1 hkk hs1 H H2
  · exact rp_goN2_4 E hk hi h3 hs hk1 hkk hs1 H H2
theorem rp_okO {k1 k2 : Nat} {s1 s2 : List (Int32 × Int32)} (E : rp_E G hr m T t W st ln key A) (hl : l < 5) (hkk : k ≤ k1) (hk1 : k1 ≤ W) (hs1 : s1.length ≤ k1 - k) (H : rp_O G hr m T W st ln key A (l + 1) k op nt k1 s1) (H2 : rp_LO G hr m T W st ln key A l 0 k1 op nt k2 s2) : rp_O G hr m T W st ln key A l k op nt k2 (s1 ++ s2) := by
  rcases (show l = 0 ∨ l = 1 ∨ l = 2 ∨ l = 3 ∨ l = 4 by omega) with rfl | rfl | rfl | rfl | rfl
  · exact rp_okO_0 E hkk hk1 hs1 H H2
  · exact rp_okO_1 E hkk hk1 hs1 H H2
  · exact rp_okO_2 E hkk hk1 hs1 H H2
  · exact rp_okO_3 E hkk hk1 hs1 H H2
  · exact rp_okO_4 E hkk hk1 hs1 H H2
theorem rp_okN1 {k2 : Nat} (E : rp_E G hr m T t W st ln key A) (hl : l < 5) (H : rp_N G hr m T W st ln key A (l + 1) k op nt k2) : rp_N G hr m T W st ln key A l k op nt k2 := by
  rcases (show l = 0 ∨ l = 1 ∨ l = 2 ∨ l = 3 ∨ l = 4 by omega) with rfl | rfl | rfl | rfl | rfl
  · exact rp_okN1_0 E H
  · exact rp_okN1_1 E H
  · exact rp_okN1_2 E H
  · exact rp_okN1_3 E H
  · exact rp_okN1_4 E H
theorem rp_okN2 {k1 k2 : Nat} {s1 : List (Int32 × Int32)} (E : rp_E G hr m T t W st ln key A) (hl : l < 5) (hkk : k ≤ k1) (hk1 : k1 ≤ W) (hs1 : s1.length ≤ k1 - k) (H : rp_O G hr m T W st ln key A (l + 1) k op nt k1 s1) (H2 : rp_LN G hr m T W st ln key A l 0 k1 op nt k2) : rp_N G hr m T W st ln key A l k op nt k2 := by
  rcases (show l = 0 ∨ l = 1 ∨ l = 2 ∨ l = 3 ∨ l = 4 by omega) with rfl | rfl | rfl | rfl | rfl
  · exact rp_okN2_0 E hkk hk1 hs1 H H2
  · exact rp_okN2_1 E hkk hk1 hs1 H H2
  · exact rp_okN2_2 E hkk hk1 hs1 H H2
  · exact rp_okN2_3 E hkk hk1 hs1 H H2
  · exact rp_okN2_4 E hkk hk1 hs1 H H2
/-- the loop of a level, on both sides -/
theorem pj_loop (Ec : pc_E G hc o T t W st ln key) (hl : l < 5) {N : Nat} (IH : ∀ k, k ≤ W → W - k ≤ N → pj G hc o m t T W st ln key A (l + 1) k op nt) : ∀ n i k, k ≤ W → W - k ≤ n → W - k ≤ N + 1 → i + (W - k) ≤ 96 → (l = 2 → i ≤ 1) → pjl G hc o m t T W st ln key A l i k op nt := by
  have hW := pc_W Ec
  intro n
  induction n with
  | zero =>
    intro i k hk hn hN hi h2
    have hns : ¬ tk_lv (tk_sg T W st ln k) = nI l := by
      unfold tk_sg
      rw [if_neg (fun z => by have := (tk_kd3.mp z).1; omega)]
      rw [show tk_lv (-1000000005) = -1000000005 from by decide]
      exact fun z => pc_ne (x := l) (by omega) z.symm
    exact Or.inr ⟨k, [], ⟨Nat.le_refl k, hk, Nat.zero_le _⟩, ot_h0, pc_stop Ec hl hk (by omega) (Or.inr hns), fun hr Er => rp_stop Er hl hk (Or.inr hns)⟩
  | succ n ih =>
    intro i k hk hn hN hi h2
    by_cases hst : (l = 2 ∧ 1 ≤ i) ∨ ¬ tk_lv (tk_sg T W st ln k) = nI l
    · refine Or.inr ⟨k, [], ⟨Nat.le_refl k, hk, Nat.zero_le _⟩, ot_h0, pc_stop Ec hl hk (by omega) ?_, fun hr Er => rp_stop Er hl hk hst⟩
      rcases hst with ⟨e, z⟩ | z
      · left; rw [e]; exact z
      · exact Or.inr z
    · have hs' : tk_lv (tk_sg T W st ln k) = nI l := by
        apply Classical.byContradiction
        intro z
        exact hst (Or.inr z)
      have hi0 : ¬ (l = 2 ∧ 1 ≤ i) := fun z => hst (Or.inl z)
      have h3 : tk_kd T W st ln k = 3 := by
        apply Classical.byContradiction
        intro z
        unfold tk_sg at hs'
        rw [if_neg z, show tk_lv (-1000000005) = -1000000005 from by decide] at hs'
        exact pc_ne (x := l) (by omega) hs'.symm
      have hs : tk_lv (T (st k)) = nI l := by
        unfold tk_sg at hs'
        rw [if_pos h3] at hs'
        exact hs'
      have hkW : k < W := (tk_kd3.mp h3).1
      have him : i < pl_m l := by unfold pl_m; split <;> omega
      rcases IH (k + 1) (by omega) (by omega) with ⟨k2, hk2, Hc, Hr⟩ | ⟨k1, s1, ⟨hk1, hk1W, hs1⟩, hg, Hc, Hr⟩
      · exact Or.inl ⟨k2, hk2, pc_goN1 Ec hl hkW him h3 hs hk2 Hc, fun hr Er => rp_goN1 Er hl hkW him h3 hs (Hr hr Er)⟩
      · rcases ih (i + 1) k1 hk1W (by omega) (by omega) (by omega) (by omega) with ⟨k2, hk2, Lc, Lr⟩ | ⟨k2, s2, ⟨hk2, hk2W, hs2⟩, hh, Lc, Lr⟩
        · exact Or.inl ⟨k2, hk2, pc_goN2 Ec hl hkW him h3 hs hk1W (by omega) hs1 Hc Lc, fun hr Er => rp_goN2 Er hl hkW him h3 hs hk1W (by omega) hs1 (Hr hr Er) (Lr hr Er)⟩
        · refine Or.inr ⟨k2, s1 ++ [(2, T (st k))] ++ s2, ⟨by omega, hk2W, ?_⟩, ot_hs hg (tk_lv_op hl hs) hh, pc_goO Ec hl hkW him h3 hs hk1W (by omega) hs1 Hc Lc, fun hr Er => rp_goO Er hl hkW him h3 hs hk1W (by omega) hs1 (Hr hr Er) (Lr hr Er)⟩
          rw [List.length_append, List.length_append]
          show s1.length + 1 + s2.length ≤ k2 - k
          omega
/-- a level out of the next one -/
theorem pj_lvl (Ec : pc_E G hc o T t W st ln key) (hl : l < 5) {N : Nat} (IH : ∀ k, k ≤ W → W - k ≤ N → pj G hc o m t T W st ln key A (l + 1) k op nt) : ∀ k, k ≤ W → W - k ≤ N → pj G hc o m t T W st ln key A l k op nt := by
  have hW := pc_W Ec
  intro k hk hN
  rcases IH k hk hN with ⟨k2, hk2, Hc, Hr⟩ | ⟨k1, s1, ⟨hk1, hk1W, hs1⟩, hg, Hc, Hr⟩
  · exact Or.inl ⟨k2, hk2, pc_okN1 Ec hl hk2 Hc, fun hr Er => rp_okN1 Er hl (Hr hr Er)⟩
  · rcases pj_loop Ec hl IH (W - k1) 0 k1 hk1W (Nat.le_refl _) (by omega) (by omega) (by omega) with ⟨k2, hk2, Lc, Lr⟩ | ⟨k2, s2, ⟨hk2, hk2W, hs2⟩, hh, Lc, Lr⟩
    · exact Or.inl ⟨k2, hk2, pc_okN2 Ec hl (by omega) hk1W hs1 Hc Lc, fun hr Er => rp_okN2 Er hl (by omega) hk1W hs1 (Hr hr Er) (Lr hr Er)⟩
    · refine Or.inr ⟨k2, s1 ++ s2, ⟨by omega, hk2W, ?_⟩, ot_gh hg hh, pc_okO Ec hl (by omega) hk1W hs1 Hc Lc, fun hr Er => rp_okO Er hl (by omega) hk1W hs1 (Hr hr Er) (Lr hr Er)⟩
      rw [List.length_append]
      omega
/-- a piece out of what stands behind it -/
theorem pj_piece (Ec : pc_E G hc o T t W st ln key) (hop : op ≤ 8) (hnt : nt ≤ 8) (hk : k ≤ W) (I1 : k + 1 ≤ W → nt < 8 → pj G hc o m t T W st ln key A 5 (k + 1) op (nt + 1)) (I2 : k + 1 ≤ W → op < 8 → pj G hc o m t T W st ln key A 0 (k + 1) (op + 1) nt) : pj G hc o m t T W st ln key A 5 k op nt := by
  have hle : tk_kd T W st ln k ≤ 4 := by unfold tk_kd; (repeat' split) <;> omega
  by_cases k04 : tk_kd T W st ln k = 0 ∨ tk_kd T W st ln k = 4
  · exact Or.inl ⟨k, hk, pc_bad Ec hk k04, fun hr Er => rp_bad Er k04⟩
  have hkW : k < W := tk_lt (T := T) (st := st) (ln := ln) (by omega)
  by_cases k2 : tk_kd T W st ln k = 2
  · refine Or.inr ⟨k + 1, _, ⟨by omega, by omega, by show 1 ≤ k + 1 - k; omega⟩, ot_g0 ?_, pc_num Ec k2, fun hr Er => rp_num Er k2⟩
    rcases tk_w3 Ec hkW with ⟨_, q⟩ | ⟨_, q, _⟩ | ⟨q1, q2, q3⟩ | ⟨_, q⟩
    · omega
    · omega
    · have h4 : ln k ≤ 4 := by
        apply Classical.byContradiction
        intro z
        rw [if_neg z] at q2
        omega
      have hlt := tk_num_lt (T := T) (b := st k) (ln k) (fun j h1 h2 => by rw [(Ec.2.2.1.w hkW).2.1 j h1 h2]; exact q3)
      have : 10 ^ ln k ≤ 10 ^ 4 := Nat.pow_le_pow_right (by omega) h4
      omega
    · omega
  by_cases k1 : tk_kd T W st ln k = 1
  · by_cases hnm : ∃ i, i < 3 ∧ ln k = 1 ∧ T (st k) = nI (mt_nc key i)
    · obtain ⟨i, hi, hl1, he⟩ := hnm
      refine Or.inr ⟨k + 1, _, ⟨by omega, by omega, by show 1 ≤ k + 1 - k; omega⟩, ?_, pc_name Ec k1 hi hl1 he, fun hr Er => rp_name Er k1 hi hl1 he⟩
      rw [he]
      exact ot_g1 hi
    · have hn : ∀ i, i < 3 → ¬ (ln k = 1 ∧ T (st k) = nI (mt_nc key i)) := fun i hi z => hnm ⟨i, hi, z.1, z.2⟩
      exact Or.inl ⟨k, hk, pc_nameN Ec k1 hn, fun hr Er => rp_nameN Er k1 hn⟩
  have k3 : tk_kd T W st ln k = 3 := by omega
  by_cases h33 : T (st k) = 33 ∧ nt < 8
  · rcases I1 (by omega) h33.2 with ⟨k2, hk2, Hc, Hr⟩ | ⟨k1, s1, ⟨hk1, hk1W, hs1⟩, hg, Hc, Hr⟩
    · exact Or.inl ⟨k2, hk2, pc_notN Ec k3 h33.1 h33.2 Hc, fun hr Er => rp_notN Er k3 h33.1 h33.2 (Hr hr Er)⟩
    · refine Or.inr ⟨k1, s1 ++ [(2, 33)], ⟨by omega, hk1W, ?_⟩, ot_gn hg, pc_notO Ec k3 h33.1 h33.2 (by omega) hk1W hs1 Hc, fun hr Er => rp_notO Er k3 h33.1 h33.2 (by omega) hk1W hs1 (Hr hr Er)⟩
      rw [List.length_append]
      show s1.length + 1 ≤ k1 - k
      omega
  by_cases h40 : T (st k) = 40 ∧ op < 8
  · rcases I2 (by omega) h40.2 with ⟨k2, hk2, Hc, Hr⟩ | ⟨k1, s1, ⟨hk1, hk1W, hs1⟩, hg, Hc, Hr⟩
    · exact Or.inl ⟨k2, hk2, pc_parN1 Ec k3 h40.1 h40.2 hk2 Hc, fun hr Er => rp_parN1 Er k3 h40.1 h40.2 (Hr hr Er)⟩
    · by_cases hcl : tk_kd T W st ln k1 = 3 ∧ T (st k1) = 41
      · have hk1' : k1 < W := tk_lt (T := T) (st := st) (ln := ln) (by omega)
        exact Or.inr ⟨k1 + 1, s1, ⟨by omega, by omega, by omega⟩, hg, pc_parO Ec k3 h40.1 h40.2 (by omega) hk1W hs1 Hc hcl.1 hcl.2, fun hr Er => rp_parO Er k3 h40.1 h40.2 (by omega) hk1W hs1 (Hr hr Er) hcl.1 hcl.2⟩
      · exact Or.inl ⟨k1, hk1W, pc_parN2 Ec k3 h40.1 h40.2 (by omega) hk1W hs1 Hc hcl, fun hr Er => rp_parN2 Er k3 h40.1 h40.2 (by omega) hk1W hs1 (Hr hr Er) hcl⟩
  exact Or.inl ⟨k, hk, pc_bad3 Ec hop hnt k3 h33 h40, fun hr Er => rp_bad3 Er hop hnt k3 h33 h40⟩
theorem pj_down (Ec : pc_E G hc o T t W st ln key) {N : Nat} (I5 : ∀ k, k ≤ W → W - k ≤ N → pj G hc o m t T W st ln key A 5 k op nt) : ∀ k, k ≤ W → W - k ≤ N → pj G hc o m t T W st ln key A 0 k op nt := pj_lvl Ec (by omega) (pj_lvl Ec (by omega) (pj_lvl Ec (by omega) (pj_lvl Ec (by omega) (pj_lvl Ec (by omega) I5))))
theorem pj_all (Ec : pc_E G hc o T t W st ln key) : ∀ N op nt, op ≤ 8 → nt ≤ 8 → (∀ k, k ≤ W → W - k ≤ N → pj G hc o m t T W st ln key A 5 k op nt) ∧ ∀ k, k ≤ W → W - k ≤ N → pj G hc o m t T W st ln key A 0 k op nt := by
  intro N
  induction N with
  | zero =>
    intro op nt hop hnt
    have I5 : ∀ k, k ≤ W → W - k ≤ 0 → pj G hc o m t T W st ln key A 5 k op nt := fun k hk hN => pj_piece Ec hop hnt hk (fun z => by omega) (fun z => by omega)
    exact ⟨I5, pj_down Ec I5⟩
  | succ N ih =>
    intro op nt hop hnt
    have I5 : ∀ k, k ≤ W → W - k ≤ N + 1 → pj G hc o m t T W st ln key A 5 k op nt := fun k hk hN => pj_piece Ec hop hnt hk (fun z q => (ih op (nt + 1) hop (by omega)).1 (k + 1) z (by omega)) (fun z q => (ih (op + 1) nt (by omega) hnt).2 (k + 1) z (by omega))
    exact ⟨I5, pj_down Ec I5⟩
end JT
