/-! the walking machine is right, 5: rows, new cells, what is built in -/
section AMO
variable {p : Program} {l : Launch} {e : Env} {R : Room} {s : State} {m : MethodId} {args : Array Value} {below : List Frame} {meth : Method} {c : Code} {H : Heap} {locs : List Loc} {cells slots : Nat} {Q : State → Prop}
variable {cc : ByteArray} {pc : Nat} {ls : Array Slot} {st st2 : List Value} {D : va_G} {dA : Nat → ClassId} {G : Nat → Nat} {X h h2 : am_H} {cn x d : Nat} {ini : Bool}
theorem am_iald_ok (hC : am_Cx cc cn p c s m args) (hX : am_Xt G X D dA s s.heap) (hR : am_Rp G X D dA s.heap h H locs) (hd : decode cc pc = .ok (.iaload, 1)) (hg : am_ald G 20 30 st h = some (st2, h2))
    (k : W p l e R s m args below meth c H locs cells slots Q (F0 m (pc + 1) ls st2)) : h2 = h ∧ W p l e R s m args below meth c H locs cells slots Q (F0 m pc ls st) := by
  obtain ⟨hx, hb, hown, hts⟩ := hC
  unfold am_ald at hg
  split at hg
  · next j a r =>
    split at hg
    · next hc =>
      cases hg
      refine ⟨rfl, ?_⟩
      rcases hc.1 with h1 | h1
      · have hcell := am_ws_at (dA := dA) h1.1.1 h1.1.2
        rw [am_cell_int h1.2] at hcell
        exact va_iald hx hb hX.2.2.2.2.2 hR.2.2.1 (a - G 0) 0 hcell rfl hc.2 hd k
      · have hlow := hR.2.2.2.2.2 a h1.1
        have hT := (hX.1.1 a h1.1).1 (by rw [← hlow.1]; exact h1.2)
        exact va_ti hx hb hT hR.2.2.2.1 (by rw [← hlow.1]; exact hc.2) (by rw [hlow.2.1]) hd k
    · cases hg
  · cases hg
theorem am_bald_ok (hC : am_Cx cc cn p c s m args) (hX : am_Xt G X D dA s s.heap) (hR : am_Rp G X D dA s.heap h H locs) (hd : decode cc pc = .ok (.baload, 1)) (hg : am_ald G 21 32 st h = some (st2, h2))
    (k : W p l e R s m args below meth c H locs cells slots Q (F0 m (pc + 1) ls st2)) : h2 = h ∧ W p l e R s m args below meth c H locs cells slots Q (F0 m pc ls st) := by
  obtain ⟨hx, hb, hown, hts⟩ := hC
  unfold am_ald at hg
  split at hg
  · next j a r =>
    split at hg
    · next hc =>
      cases hg
      refine ⟨rfl, ?_⟩
      rcases hc.1 with h1 | h1
      · have hcell := am_ws_at (dA := dA) h1.1.1 h1.1.2
        rw [am_cell_byte h1.2] at hcell
        exact va_bald hx hb hX.2.2.2.2.2 hR.2.2.1 (a - G 0) 1 hcell rfl hc.2 hd k
      · have hlow := hR.2.2.2.2.2 a h1.1
        have hT := (hX.1.1 a h1.1).2.2 (by rw [← hlow.1]; exact h1.2)
        exact va_tb hx hb hT hR.2.2.2.1 (by rw [← hlow.1]; exact hc.2) (by rw [hlow.2.1]) hd k
    · cases hg
  · cases hg
theorem am_cld_ok (hC : am_Cx cc cn p c s m args) (hX : am_Xt G X D dA s s.heap) (hR : am_Rp G X D dA s.heap h H locs) (hd : decode cc pc = .ok (.caload, 1)) (hg : am_cld G st h = some (st2, h2))
    (k : W p l e R s m args below meth c H locs cells slots Q (F0 m (pc + 1) ls st2)) : h2 = h ∧ W p l e R s m args below meth c H locs cells slots Q (F0 m pc ls st) := by
  obtain ⟨hx, hb, hown, hts⟩ := hC
  unfold am_cld at hg
  split at hg
  · next j a r =>
    split at hg
    · next hc =>
      cases hg
      refine ⟨rfl, ?_⟩
      have hlow := hR.2.2.2.2.2 a hc.1.1
      have hT := (hX.1.1 a hc.1.1).2.1 (by rw [← hlow.1]; exact hc.1.2)
      exact va_tc hx hb hT hR.2.2.2.1 (by rw [← hlow.1]; exact hc.2) (by rw [hlow.2.1]) hd k
    · cases hg
  · cases hg
theorem am_aal_ok (hC : am_Cx cc cn p c s m args) (hX : am_Xt G X D dA s s.heap) (hR : am_Rp G X D dA s.heap h H locs) (hd : decode cc pc = .ok (.aaload, 1)) (hg : am_aal G st h = some (st2, h2))
    (k : W p l e R s m args below meth c H locs cells slots Q (F0 m (pc + 1) ls st2)) : h2 = h ∧ W p l e R s m args below meth c H locs cells slots Q (F0 m pc ls st) := by
  obtain ⟨hx, hb, hown, hts⟩ := hC
  unfold am_aal at hg
  split at hg
  · next j a r =>
    split at hg
    · next hc =>
      cases hg
      refine ⟨rfl, ?_⟩
      have hcell := am_ws_at (dA := dA) hc.1.1.1 hc.1.1.2
      rw [am_cell_ref hc.1.2.1] at hcell
      exact va_aldq hx hb hX.2.2.2.2.2 hR.2.2.1 (a - G 0) ((am_sh h a).1 - 20) hcell (am_tys_ref hc.1.2.1 hc.1.2.2) hc.2 hd k
    · cases hg
  · cases hg
theorem am_ias_ok (hC : am_Cx cc cn p c s m args) (hX : am_Xt G X D dA s s.heap) (hR : am_Rp G X D dA s.heap h H locs) (hd : decode cc pc = .ok (.iastore, 1)) (hg : am_ias G st h = some (st2, h2))
    (k : ∀ H2 locs2, am_Rp G X D dA s.heap h2 H2 locs2 → W p l e R s m args below meth c H2 locs2 cells slots Q (F0 m (pc + 1) ls st2)) : (am_top h2 = am_top h ∧ am_sl h2 = am_sl h) ∧ W p l e R s m args below meth c H locs cells slots Q (F0 m pc ls st) := by
  obtain ⟨hx, hb, hown, hts⟩ := hC
  unfold am_ias at hg
  split at hg
  · next v j a r =>
    split at hg
    · next hc =>
      cases hg
      refine ⟨⟨rfl, rfl⟩, ?_⟩
      have hcell := am_ws_at (dA := dA) hc.1.1.1 hc.1.1.2
      rw [am_cell_int hc.1.2] at hcell
      refine am_iastW hx hb hX.2.2.2.2.2 hR.2.2.1 am_ws_D hR.2.2.2.1 (a - G 0) 0 hcell rfl hc.2 hd fun H1 locs1 hP1 hS1 hz1 => ?_
      refine k H1 locs1 (am_Rp.upd' hR hc.1.1.1 rfl rfl am_pi_o ?_ hP1 hS1 hz1)
      rw [am_cell_int (h := am_pi h a j.toNatClampNeg v) hc.1.2, am_pi_s]
      rfl
    · cases hg
  · cases hg
theorem am_bas_ok (hC : am_Cx cc cn p c s m args) (hX : am_Xt G X D dA s s.heap) (hR : am_Rp G X D dA s.heap h H locs) (hd : decode cc pc = .ok (.bastore, 1)) (hg : am_bas G st h = some (st2, h2))
    (k : ∀ H2 locs2, am_Rp G X D dA s.heap h2 H2 locs2 → W p l e R s m args below meth c H2 locs2 cells slots Q (F0 m (pc + 1) ls st2)) : (am_top h2 = am_top h ∧ am_sl h2 = am_sl h) ∧ W p l e R s m args below meth c H locs cells slots Q (F0 m pc ls st) := by
  obtain ⟨hx, hb, hown, hts⟩ := hC
  unfold am_bas at hg
  split at hg
  · next v j a r =>
    split at hg
    · next hc =>
      cases hg
      refine ⟨⟨rfl, rfl⟩, ?_⟩
      have hcell := am_ws_at (dA := dA) hc.1.1.1 hc.1.1.2
      rw [am_cell_byte hc.1.2] at hcell
      refine am_bastW hx hb hX.2.2.2.2.2 hR.2.2.1 am_ws_D hR.2.2.2.1 (a - G 0) 1 hcell rfl hc.2 hd fun H1 locs1 hP1 hS1 hz1 => ?_
      refine k H1 locs1 (am_Rp.upd' hR hc.1.1.1 rfl rfl am_pi_o ?_ hP1 hS1 hz1)
      rw [am_cell_byte (h := am_pi h a j.toNatClampNeg v.toInt8.toInt32) hc.1.2, am_pi_s, vp_nar_byte]
      rfl
    · cases hg
  · cases hg
theorem am_aas_ok (hC : am_Cx cc cn p c s m args) (hX : am_Xt G X D dA s s.heap) (hR : am_Rp G X D dA s.heap h H locs) (hd : decode cc pc = .ok (.aastore, 1)) (hg : am_aas G st h = some (st2, h2))
    (k : ∀ H2 locs2, am_Rp G X D dA s.heap h2 H2 locs2 → W p l e R s m args below meth c H2 locs2 cells slots Q (F0 m (pc + 1) ls st2)) : (am_top h2 = am_top h ∧ am_sl h2 = am_sl h) ∧ W p l e R s m args below meth c H locs cells slots Q (F0 m pc ls st) := by
  obtain ⟨hx, hb, hown, hts⟩ := hC
  unfold am_aas at hg
  split at hg
  · next j a r =>
    split at hg
    · next hc =>
      cases hg
      refine ⟨⟨rfl, rfl⟩, ?_⟩
      have hcell := am_ws_at (dA := dA) hc.1.1.1 hc.1.1.2
      rw [am_cell_ref hc.1.2.1] at hcell
      refine am_astN hx hb hX.2.2.2.2.2 hR.2.2.1 am_ws_D hR.2.2.2.1 (a - G 0) ((am_sh h a).1 - 20) hcell (am_tys_ref hc.1.2.1 hc.1.2.2) hc.2 hd fun H1 locs1 hP1 hS1 hz1 => ?_
      refine k H1 locs1 (am_Rp.upd' hR hc.1.1.1 rfl rfl am_pr_o ?_ hP1 hS1 hz1)
      rw [am_cell_ref (h := am_pr h a j.toNatClampNeg none) hc.1.2.1, am_pr_s]
      rfl
    · cases hg
  · next v j a r =>
    split at hg
    · next hc =>
      cases hg
      obtain ⟨hc, hv1, hv2⟩ := hc
      refine ⟨⟨rfl, rfl⟩, ?_⟩
      have hcell := am_ws_at (dA := dA) hc.1.1.1 hc.1.1.2
      rw [am_cell_ref hc.1.2.1] at hcell
      have hcv := am_ws_at (dA := dA) hv1.1 hv1.2
      rw [am_cell_obj am_aC_lt hv2] at hcv
      refine am_astW hx hb hX.2.2.2.2.2 hR.2.2.1 am_ws_D hR.2.2.2.1 (a - G 0) ((am_sh h a).1 - 20) (v - G 0) (am_aC (am_sh h a).1) hcell (am_tys_ref hc.1.2.1 hc.1.2.2) hcv (am_vw am_aC_lt) hc.2 hd fun H1 locs1 hP1 hS1 hz1 => ?_
      refine k H1 locs1 (am_Rp.upd' hR hc.1.1.1 rfl rfl am_pr_o ?_ hP1 hS1 hz1)
      rw [am_cell_ref (h := am_pr h a j.toNatClampNeg (some v)) hc.1.2.1, am_pr_s]
      rfl
    · cases hg
  · cases hg
theorem am_aln_ok (hC : am_Cx cc cn p c s m args) (hX : am_Xt G X D dA s s.heap) (hR : am_Rp G X D dA s.heap h H locs) (hd : decode cc pc = .ok (.arraylength, 1)) (hg : am_aln G st h = some (st2, h2))
    (k : W p l e R s m args below meth c H locs cells slots Q (F0 m (pc + 1) ls st2)) : h2 = h ∧ W p l e R s m args below meth c H locs cells slots Q (F0 m pc ls st) := by
  obtain ⟨hx, hb, hown, hts⟩ := hC
  unfold am_aln at hg
  split at hg
  · next a r =>
    split at hg
    · next hc =>
      cases hg
      refine ⟨rfl, ?_⟩
      rcases hc with h1 | h1
      · have hcell := am_ws_at (dA := dA) h1.1.1 h1.1.2
        rcases (show (am_sh h a).1 = 20 ∨ (am_sh h a).1 = 21 ∨ 22 ≤ (am_sh h a).1 by omega) with z | z | z
        · rw [am_cell_int z] at hcell
          exact va_alen hx hb hX.2.2.2.2.2 hR.2.2.1 (a - G 0) 0 hcell rfl rfl hd k
        · rw [am_cell_byte z] at hcell
          exact va_alen hx hb hX.2.2.2.2.2 hR.2.2.1 (a - G 0) 1 hcell rfl rfl hd k
        · rw [am_cell_ref z] at hcell
          exact va_alen hx hb hX.2.2.2.2.2 hR.2.2.1 (a - G 0) ((am_sh h a).1 - 20) hcell (am_tys_ref z h1.2.2) rfl hd k
      · have hlow := hR.2.2.2.2.2 a h1.1
        obtain ⟨x1, x2, x3⟩ := hX.1.1 a h1.1
        rw [hlow.1] at h1 k
        rcases (show (am_sh X a).1 = 30 ∨ (am_sh X a).1 = 31 ∨ (am_sh X a).1 = 32 by omega) with z | z | z
        · exact va_tlen hx hb (x1 z) hR.2.2.2.1 rfl hd k
        · exact va_tlen hx hb (x2 z) hR.2.2.2.1 rfl hd k
        · exact va_tlen hx hb (x3 z) hR.2.2.2.1 rfl hd k
    · cases hg
  · cases hg
theorem am_new_o {kd n sl : Nat} : ∀ b, b < am_top h → am_sh (am_new h kd n sl) b = am_sh h b ∧ am_i (am_new h kd n sl) b = am_i h b ∧ am_r (am_new h kd n sl) b = am_r h b := by
  intro b hb
  have hne : b ≠ h.1 := Nat.ne_of_lt hb
  refine ⟨?_, ?_, ?_⟩
  · show (if b = h.1 then (kd, n) else h.2.2.1 b) = _
    rw [if_neg hne]
    rfl
  · show am_ua h.2.2.2.1 h.1 (fun _ => 0) b = _
    unfold am_ua
    rw [if_neg hne]
    rfl
  · show am_ua h.2.2.2.2 h.1 (fun _ => none) b = _
    unfold am_ua
    rw [if_neg hne]
    rfl
theorem am_new_sh {kd n sl : Nat} : am_sh (am_new h kd n sl) (am_top h) = (kd, n) := by
  show (if h.1 = h.1 then (kd, n) else h.2.2.1 h.1) = _
  rw [if_pos rfl]
theorem am_new_i {kd n sl : Nat} : am_i (am_new h kd n sl) (am_top h) = fun _ => 0 := by
  show am_ua h.2.2.2.1 h.1 (fun _ => 0) h.1 = _
  unfold am_ua
  rw [if_pos rfl]
theorem am_new_r {kd n sl : Nat} : am_r (am_new h kd n sl) (am_top h) = fun _ => none := by
  show am_ua h.2.2.2.2 h.1 (fun _ => none) h.1 = _
  unfold am_ua
  rw [if_pos rfl]
theorem am_Rp.grow {H1 : Heap} {kd n sl : Nat} (hR : am_Rp G X D dA s.heap h H locs) (hz : H1.size = am_top h + 1) (ho : ∀ q : Nat, q < am_top h → H1[q]? = H[q]?) (hc : va_at D vwCl (am_top h, am_cell dA (am_new h kd n sl) (am_top h)) H1) : am_Rp G X D dA s.heap (am_new h kd n sl) H1 locs := by
  obtain ⟨r1, r2, r3, r4, r5, r6⟩ := hR
  have hw := am_ws_push (B := G 0) (dA := dA) (h := h) (h2 := am_new h kd n sl) r2 rfl (fun b hb => am_cell_eq (am_new_o b hb).1 (am_new_o b hb).2.1 (am_new_o b hb).2.2)
  refine ⟨hz, Nat.le_succ_of_le r2, ?_, ?_, r5, fun b hb => ?_⟩
  · rw [← hw]
    refine va_P.app ?_ ?_
    · intro k q hq
      exact (r3 k q hq).kept (ho q.1 (by have := (r3 k q hq).lt; omega))
    · intro k q hq
      have hk : k = 0 := by
        have := (List.getElem?_eq_some_iff.mp hq).1
        simp at this
        exact this
      subst hk
      cases hq
      exact hc
  · have hsz : s.heap.size ≤ am_top h := by rw [← r1]; exact r4.1
    refine ⟨by omega, fun q h1 h2 => ?_, r4.2.2⟩
    rw [ho q (by omega)]
    exact r4.2.1 q h1 h2
  · rw [(am_new_o b (by omega)).1, (am_new_o b (by omega)).2.1, (am_new_o b (by omega)).2.2]
    exact r6 b hb
theorem am_nwa_ok {t : Jvm.ClassFile.ArrayType} (hC : am_Cx cc cn p c s m args) (hX : am_Xt G X D dA s s.heap) (hR : am_Rp G X D dA s.heap h H locs) (hd : decode cc pc = .ok (.newarray t, 2)) (hg : am_nwa t st h = some (st2, h2)) (hc1 : cells + (am_top h2 - am_top h) ≤ R.cells) (hs1 : slots + (am_sl h2 - am_sl h) ≤ R.slots)
    (k : ∀ H2 locs2, am_Rp G X D dA s.heap h2 H2 locs2 → W p l e R s m args below meth c H2 locs2 (cells + (am_top h2 - am_top h)) (slots + (am_sl h2 - am_sl h)) Q (F0 m (pc + 2) ls st2)) : W p l e R s m args below meth c H locs cells slots Q (F0 m pc ls st) := by
  obtain ⟨hx, hb, hown, hts⟩ := hC
  unfold am_nwa at hg
  split at hg
  · next n r =>
    split at hg
    · next hc =>
      cases hg
      have e1 : am_top (am_new h (am_nwk t) n.toNatClampNeg n.toNatClampNeg) - am_top h = 1 := by show am_top h + 1 - am_top h = 1; omega
      have e2 : am_sl (am_new h (am_nwk t) n.toNatClampNeg n.toNatClampNeg) - am_sl h = n.toNatClampNeg := by show am_sl h + _ - am_sl h = _; omega
      rw [e1, e2] at k
      rw [e1] at hc1
      rw [e2] at hs1
      cases t with
      | int =>
        refine va_newaK (atype := .int) hx hb (hts _ (am_in am_w_aI rfl)) (g := F0 m pc ls (.int n :: r)) rfl hd rfl hc.2.1 rfl (by show n.toNatClampNeg * 4 ≤ _; omega) hc1 hs1 hR.1 fun H1 cA g1 g2 g3 g4 g5 => ?_
        refine k H1 locs (am_Rp.grow hR g2 g3 ?_)
        rw [am_cell_int (h := am_new h (am_nwk .int) n.toNatClampNeg n.toNatClampNeg) (by rw [am_new_sh]; rfl), am_new_i, am_new_sh]
        have hA : dA 0 = cA := Option.some.inj (((hX.2.2.2.2.2.2 0 _ rfl).2).symm.trans g5)
        show H1[am_top h]? = some (vp_cell _ _)
        rw [g1, vp_cell_i, hA]
        rfl
      | byte =>
        refine va_newaK (atype := .byte) hx hb (hts _ (am_in am_w_aB rfl)) (g := F0 m pc ls (.int n :: r)) rfl hd rfl hc.2.1 rfl (by show n.toNatClampNeg * 1 ≤ _; omega) hc1 hs1 hR.1 fun H1 cA g1 g2 g3 g4 g5 => ?_
        refine k H1 locs (am_Rp.grow hR g2 g3 ?_)
        rw [am_cell_byte (h := am_new h (am_nwk .byte) n.toNatClampNeg n.toNatClampNeg) (by rw [am_new_sh]; rfl), am_new_i, am_new_sh]
        have hA : dA 1 = cA := Option.some.inj (((hX.2.2.2.2.2.2 1 _ rfl).2).symm.trans g5)
        show H1[am_top h]? = some (vp_cell _ _)
        rw [g1, vp_cell_i, hA]
        rfl
      | _ => exact absurd rfl hc.1
    · cases hg
  · cases hg
theorem am_anw_ok (hC : am_Cx cc cn p c s m args) (hX : am_Xt G X D dA s s.heap) (hR : am_Rp G X D dA s.heap h H locs) (hd : decode cc pc = .ok (.anewarray x, 3)) (hg : am_anw cn x st h = some (st2, h2)) (hc1 : cells + (am_top h2 - am_top h) ≤ R.cells) (hs1 : slots + (am_sl h2 - am_sl h) ≤ R.slots)
    (k : ∀ H2 locs2, am_Rp G X D dA s.heap h2 H2 locs2 → W p l e R s m args below meth c H2 locs2 (cells + (am_top h2 - am_top h)) (slots + (am_sl h2 - am_sl h)) Q (F0 m (pc + 3) ls st2)) : W p l e R s m args below meth c H locs cells slots Q (F0 m pc ls st) := by
  obtain ⟨hx, hb, hown, hts⟩ := hC
  unfold am_anw at hg
  split at hg
  · next n r =>
    split at hg
    · next ci hci =>
      split at hg
      · next hc =>
        cases hg
        obtain ⟨ps, h1⟩ := am_lk_in hci am_nlT_ok
        simp only [Bool.and_eq_true, decide_eq_true_eq] at h1
        have e1 : am_top (am_new h (am_kA ci) n.toNatClampNeg n.toNatClampNeg) - am_top h = 1 := by show am_top h + 1 - am_top h = 1; omega
        have e2 : am_sl (am_new h (am_kA ci) n.toNatClampNeg n.toNatClampNeg) - am_sl h = n.toNatClampNeg := by show am_sl h + _ - am_sl h = _; omega
        rw [e1, e2] at k
        rw [e1] at hc1
        rw [e2] at hs1
        have hkA : 22 ≤ am_kA ci := by rcases hc.1 with rfl | rfl | rfl | rfl | rfl <;> decide
        obtain ⟨o1, o2, o3, o4, o5⟩ := hX.2.2.2.1
        have hover : va_AO (am_cs ci) s := by
          rcases hc.1 with rfl | rfl | rfl | rfl | rfl
          · exact o1
          · exact o2
          · exact o3
          · exact o4
          · exact o5
        have hdA : ∃ kA comp, s.vm.classes[dA (am_kA ci - 20)]? = some kA ∧ kA.kind = .array comp (.object (am_cs ci)) ∧ s.vm.findClass (am_cs ci) = some comp ∧ s.vm.findClass ("[" ++ (FieldType.object (am_cs ci)).toString) = some (dA (am_kA ci - 20)) := by
          rcases hc.1 with rfl | rfl | rfl | rfl | rfl
          · exact (hX.2.2.2.2.2.2 2 _ rfl).2
          · exact (hX.2.2.2.2.2.2 3 _ rfl).2
          · exact (hX.2.2.2.2.2.2 4 _ rfl).2
          · exact (hX.2.2.2.2.2.2 5 _ rfl).2
          · exact (hX.2.2.2.2.2.2 6 _ rfl).2
        obtain ⟨-, -, -, -, -, hdA⟩ := hdA
        refine W.anew hx hb hown (hts _ (am_in (am_at_in h1.1) rfl)) (va_AO.use hover) (g := F0 m pc ls (.int n :: r)) rfl hd rfl hc.2.1 (by omega) hc1 hs1 fun cA kA comp f1 f2 f3 f4 => ?_
        have hA : dA (am_kA ci - 20) = cA := Option.some.inj (hdA.symm.trans f1)
        generalize hH1 : H.push ({ cls := cA, slots := Array.replicate n.toNatClampNeg .null, vm := .none } : Cell) = H1
        have z1 : H1.size = am_top h + 1 := by rw [← hH1, Array.size_push, hR.1]
        have e3 : H1[am_top h]? = some (arrV cA n.toNatClampNeg (fun _ => .null)) := by rw [← hR.1, ← hH1, Array.getElem?_push_size, ← arrV_new]
        have o3 : ∀ q : Nat, q < am_top h → H1[q]? = H[q]? := fun q hq => by rw [← hH1, Array.getElem?_push, if_neg (by rw [hR.1]; exact Nat.ne_of_lt hq)]
        have key := k H1 locs (am_Rp.grow hR z1 o3 (by
          rw [am_cell_ref (h := am_new h (am_kA ci) n.toNatClampNeg n.toNatClampNeg) (by rw [am_new_sh]; exact hkA), am_new_r, am_new_sh]
          show H1[am_top h]? = some (vp_cell _ _)
          rw [vp_cell_q, e3]
          show _ = some (arrV (dA (am_kA ci - 20)) _ _)
          rw [hA]
          rfl))
        rw [← hR.1] at key
        exact key
      · cases hg
    · cases hg
  · cases hg
theorem am_dflt {ci : Nat} {h : am_H} {n sl : Nat} (hc : ci < 10) : ∀ j, j < am_N ci → defaultValue (am_ty ci j) = vp_V (am_fs (am_new h ci n sl) (am_top h) ci) j := by
  intro j hj
  have hv : vp_V (am_fs (am_new h ci n sl) (am_top h) ci) j = am_fv (am_new h ci n sl) (am_top h) ci j := by
    unfold vp_V
    rw [List.getD_eq_getElem?_getD, am_fs_get hj]
    rfl
  rw [hv]
  unfold am_fv
  rw [am_new_i, am_new_r]
  have key : ∀ ci, ci < 10 → ∀ j, j < am_N ci → defaultValue (am_ty ci j) = (if am_isR ci j = true then Value.null else .int 0) := by
    intro ci hci j hj
    have h1 : (List.range 10).all (fun ci => (List.range (am_N ci)).all (fun j => decide (defaultValue (am_ty ci j) = (if am_isR ci j = true then Value.null else .int 0)))) = true := by decide +kernel
    exact of_decide_eq_true (List.all_eq_true.mp (List.all_eq_true.mp h1 ci (List.mem_range.mpr hci)) j (List.mem_range.mpr hj))
  exact key ci hc j hj
theorem am_nwo_ok (hC : am_Cx cc cn p c s m args) (hX : am_Xt G X D dA s s.heap) (hR : am_Rp G X D dA s.heap h H locs) (hd : decode cc pc = .ok (.new x, 3)) (hg : am_nwo cn x st h = some (st2, h2)) (hc1 : cells + (am_top h2 - am_top h) ≤ R.cells) (hs1 : slots + (am_sl h2 - am_sl h) ≤ R.slots)
    (k : ∀ H2 locs2, am_Rp G X D dA s.heap h2 H2 locs2 → W p l e R s m args below meth c H2 locs2 (cells + (am_top h2 - am_top h)) (slots + (am_sl h2 - am_sl h)) Q (F0 m (pc + 3) ls st2)) : W p l e R s m args below meth c H locs cells slots Q (F0 m pc ls st) := by
  obtain ⟨hx, hb, hown, hts⟩ := hC
  unfold am_nwo at hg
  split at hg
  · next ci hci =>
    cases hg
    obtain ⟨ps, h1⟩ := am_lk_in hci am_nlT_ok
    simp only [Bool.and_eq_true, decide_eq_true_eq] at h1
    have e1 : am_top (am_new h ci 0 (am_N ci)) - am_top h = 1 := by show am_top h + 1 - am_top h = 1; omega
    have e2 : am_sl (am_new h ci 0 (am_N ci)) - am_sl h = am_N ci := by show am_sl h + _ - am_sl h = _; omega
    rw [e1, e2] at k
    rw [e1] at hc1
    rw [e2] at hs1
    have hci10 := h1.2
    have h3 := List.all_eq_true.mp am_ciT_ok ci (List.mem_range.mpr hci10)
    have h4 : (.instantiable (am_cs ci) (am_N ci) : Cond) ∈ lw_tbl ∧ (.initialized (am_cs ci) : Cond) ∈ lw_tbl := by
      split at h3
      · simp only [Bool.and_eq_true] at h3
        exact ⟨am_at_in h3.1, am_at_in h3.2⟩
      · cases h3
    have hKn := hX.2.2.2.2.2.1 ci _ (am_vw hci10)
    refine W.newcK hx hb hown (hts _ (am_in (am_at_in h1.1) rfl)) (hts _ (am_in h4.1 rfl)) (hts _ (am_in h4.2 rfl)) (g := F0 m pc ls st) rfl hd hc1 hs1 hKn.2.1 hR.1 fun H1 kC hkC g1 g2 g3 => ?_
    refine k H1 locs (am_Rp.grow hR g2 g3 ?_)
    rw [am_cell_obj (h := am_new h ci 0 (am_N ci)) hci10 (by rw [am_new_sh])]
    exact ⟨_, am_vw hci10, (u_born (am_ty ci) hts (am_lays hci10) hKn hkC g1 (am_tyok hci10)).to (am_dflt hci10)⟩
  · cases hg
theorem am_oin_ok (hC : am_Cx cc cn p c s m args) (hml : c.maxLocals = ls.size) (hfr : d ≤ R.frames) (hlo : 60 * d ≤ R.locals) (hd : decode cc pc = .ok (.invokespecial x, 3)) (hg : am_oin d cn x st h = some (st2, h2))
    (k : W p l e R s m args below meth c H locs cells slots Q (F0 m (pc + 3) ls st2)) : h2 = h ∧ W p l e R s m args below meth c H locs cells slots Q (F0 m pc ls st) := by
  obtain ⟨hx, hb, hown, hts⟩ := hC
  unfold am_oin at hg
  split at hg
  · next a r =>
    split at hg
    · next hc =>
      have hcat : (r.map fun v => v.category).sum ≤ 8 := hc.2.2
      obtain ⟨ps, h1⟩ := am_lk_in hc.1 am_biT_ok
      cases hg
      refine ⟨rfl, ?_⟩
      exact W.objInit hx hb hown (hts _ (am_in (am_at_in h1) rfl)) (hts _ (am_in am_w_oi1 rfl)) (hts _ (am_in am_w_oi2 rfl)) (g := F0 m pc ls (.ref a :: st2)) rfl hml.symm rfl hd (by omega) (by show 2 * 0 + _ + 12 ≤ _; omega) k
    · cases hg
  · cases hg
theorem am_sta2_ok (hC : am_Cx cc cn p c s m args) (hX : am_Xt G X D dA s s.heap) (hR : am_Rp G X D dA s.heap h H locs) (hml : c.maxLocals = ls.size) (hfr : d ≤ R.frames) (hlo : 60 * d ≤ R.locals) (hce : cells ≤ R.cells) (hsl : slots ≤ R.slots) (hd : decode cc pc = .ok (.invokestatic x, 3)) (hg : am_sta2 G d cn x st h = some (st2, h2))
    (k : ∀ H2 locs2, am_Rp G X D dA s.heap h2 H2 locs2 → W p l e R s m args below meth c H2 locs2 cells slots Q (F0 m (pc + 3) ls st2)) : (am_top h2 = am_top h ∧ am_sl h2 = am_sl h) ∧ W p l e R s m args below meth c H locs cells slots Q (F0 m pc ls st) := by
  obtain ⟨hx, hb, hown, hts⟩ := hC
  unfold am_sta2 at hg
  split at hg
  · next n dp b sp a r =>
    split at hg
    · next hc =>
      obtain ⟨hc0, hca, hcb, hcn, hc4, hc5⟩ := hc
      obtain ⟨ps, h1⟩ := am_lk_in hc0.1 am_biT_ok
      have hcat : (r.map fun v => v.category).sum ≤ 8 := hc0.2.2
      cases hg
      refine ⟨⟨rfl, rfl⟩, ?_⟩
      have hcella := am_ws_at (dA := dA) hca.1.1 hca.1.2
      rw [am_cell_int hca.2] at hcella
      have hcellb := am_ws_at (dA := dA) hcb.1.1 hcb.1.2
      rw [am_cell_int hcb.2] at hcellb
      have hnf : nativeFrameWords "java/lang/System" "arraycopy" 5 = 7 := by decide
      refine am_copyW hx hb hml hown (hts _ (am_in (am_at_in h1) rfl)) (hts _ (am_in am_w_ac1 rfl)) (hts _ (am_in am_w_ac2 rfl)) (hts _ (am_in am_w_ac3 rfl)) hX.2.2.2.2.2 hR.2.2.1 am_ws_D hR.2.2.2.1 (a - G 0) (b - G 0) 0 0 hcella hcellb rfl rfl hcn.1 hcn.2.1 hcn.2.2 hc4 hc5 (by omega) (by rw [hnf]; omega) hd fun H1 locs1 hP1 hS1 hz1 => ?_
      refine k H1 locs1 (am_Rp.upd' hR hcb.1.1 rfl rfl am_pa_o ?_ hP1 hS1 hz1)
      rw [am_cell_int (h := am_pa h b (va_cpy (am_i h a) (am_i h b) sp.toNatClampNeg dp.toNatClampNeg n.toNatClampNeg)) hcb.2, am_pa_s]
      rfl
    · cases hg
  · next y x2 r _ =>
    split at hg
    · next hc =>
      have hcat : (r.map fun v => v.category).sum ≤ 8 := hc.2
      split at hg
      · next h2c =>
        cases hg
        obtain ⟨ps, h1⟩ := am_lk_in h2c am_biT_ok
        exact ⟨⟨rfl, rfl⟩, va_mmax hx hb hml hown (hts _ (am_in (am_at_in h1) rfl)) (hts _ (am_in am_w_max1 rfl)) (hts _ (am_in am_w_ma rfl)) (hts _ (am_in am_w_max2 rfl)) (by omega) (by omega) hce hsl hd (k H locs hR)⟩
      · split at hg
        · next h2c =>
          cases hg
          obtain ⟨ps, h1⟩ := am_lk_in h2c am_biT_ok
          exact ⟨⟨rfl, rfl⟩, va_mmin hx hb hml hown (hts _ (am_in (am_at_in h1) rfl)) (hts _ (am_in am_w_min1 rfl)) (hts _ (am_in am_w_ma rfl)) (hts _ (am_in am_w_min2 rfl)) (by omega) (by omega) hce hsl hd (k H locs hR)⟩
        · cases hg
    · cases hg
  · cases hg
end AMO
