/-! the walking machine is right, 9: the whole run -/
theorem am_mem_low {G : Nat → Nat} {X : am_H} {d cn : Nat} {ini : Bool} {i : Instr} {st st2 : List Value} {h h2 : am_H} (hl : am_low G X h) (ht : G 0 ≤ am_top h) (hg : am_mem G d cn ini i st h = some (st2, h2)) : am_low G X h2 := by
  have hup : ∀ (a : Nat) (h3 : am_H), G 0 ≤ a → am_sh h3 = am_sh h → (∀ b, b ≠ a → am_i h3 b = am_i h b ∧ am_r h3 b = am_r h b) → am_low G X h3 := by
    intro a h3 ha hs ho b hb
    have hne : b ≠ a := by omega
    rw [hs, (ho b hne).1, (ho b hne).2]
    exact hl b hb
  have hnw : ∀ kd n sl, am_low G X (am_new h kd n sl) := by
    intro kd n sl b hb
    have hb2 : b < am_top h := Nat.lt_of_lt_of_le hb ht
    rw [(am_new_o b hb2).1, (am_new_o b hb2).2.1, (am_new_o b hb2).2.2]
    exact hl b hb
  unfold am_mem at hg
  split at hg
  case h_1 => unfold am_ldc at hg; (repeat' (split at hg)) <;> cases hg <;> exact hl
  case h_2 => unfold am_ldcw at hg; (repeat' (split at hg)) <;> cases hg <;> exact hl
  case h_3 => unfold am_ldc2 at hg; (repeat' (split at hg)) <;> cases hg <;> exact hl
  case h_4 => unfold am_get at hg; (repeat' (split at hg)) <;> cases hg <;> exact hl
  case h_5 =>
    unfold am_put at hg
    split at hg
    · next v a r =>
      split at hg
      · next q hq =>
        split at hg
        · next hc =>
          split at hg
          · next h3 hpv =>
            cases hg
            obtain ⟨ps, h1⟩ := am_lk_in hq am_flT_ok
            simp only [Bool.and_eq_true, decide_eq_true_eq] at h1
            obtain ⟨e1, e2, e3, e4, e5, e6, e7⟩ := am_pv_ok h1.2 hpv
            exact hup a _ hc.1.1.1 e6 e7
          · cases hg
        · cases hg
      · cases hg
    · cases hg
  case h_6 => unfold am_gst at hg; (repeat' (split at hg)) <;> cases hg <;> exact hl
  case h_7 => unfold am_ald at hg; (repeat' (split at hg)) <;> cases hg <;> exact hl
  case h_8 => unfold am_ald at hg; (repeat' (split at hg)) <;> cases hg <;> exact hl
  case h_9 => unfold am_cld at hg; (repeat' (split at hg)) <;> cases hg <;> exact hl
  case h_10 => unfold am_aal at hg; (repeat' (split at hg)) <;> cases hg <;> exact hl
  case h_11 =>
    unfold am_ias at hg
    split at hg
    · split at hg
      · next hc => cases hg; exact hup _ _ hc.1.1.1 rfl am_pi_o
      · cases hg
    · cases hg
  case h_12 =>
    unfold am_bas at hg
    split at hg
    · split at hg
      · next hc => cases hg; exact hup _ _ hc.1.1.1 rfl am_pi_o
      · cases hg
    · cases hg
  case h_13 =>
    unfold am_aas at hg
    split at hg
    · split at hg
      · next hc => cases hg; exact hup _ _ hc.1.1.1 rfl am_pr_o
      · cases hg
    · split at hg
      · next hc => cases hg; exact hup _ _ hc.1.1.1.1 rfl am_pr_o
      · cases hg
    · cases hg
  case h_14 => unfold am_aln at hg; (repeat' (split at hg)) <;> cases hg <;> exact hl
  case h_15 => unfold am_nwa at hg; (repeat' (split at hg)) <;> cases hg <;> exact hnw _ _ _
  case h_16 => unfold am_anw at hg; (repeat' (split at hg)) <;> cases hg <;> exact hnw _ _ _
  case h_17 => unfold am_nwo at hg; (repeat' (split at hg)) <;> cases hg <;> exact hnw _ _ _
  case h_18 => unfold am_oin at hg; (repeat' (split at hg)) <;> cases hg <;> exact hl
  case h_19 =>
    unfold am_sta2 at hg
    split at hg
    · split at hg
      · next hc => cases hg; exact hup _ _ hc.2.2.1.1.1 rfl am_pa_o
      · cases hg
    · (repeat' (split at hg)) <;> cases hg <;> exact hl
    · cases hg
  case h_20 => cases hg
theorem am_run_low {G : Nat → Nat} {X : am_H} : ∀ (n d y pc : Nat) (L : am_L) (st : List Value) (h : am_H) (r : Option Value × am_H), am_low G X h → G 0 ≤ am_top h → am_run G n d y pc L st h = some r → am_low G X r.2 := by
  intro n
  induction n with
  | zero => intro d y pc L st h r hl ht hr; cases hr
  | succ n ih =>
    intro d y pc L st h r hl ht hr
    unfold am_run at hr
    split at hr
    · cases hr
    · next q hq =>
      obtain ⟨a, i, len, -, -, -, hcs⟩ := am_stp_ok hq
      rcases hcs with ⟨b, hb, e⟩ | ⟨-, ⟨L2, st2, hp, e⟩ | ⟨-, ⟨st2, h2, hm, e⟩ | ⟨-, ⟨q2, hc, e⟩ | ⟨-, v, hv, e⟩⟩⟩⟩
      · cases e; exact ih _ _ _ _ _ _ _ hl ht hr
      · cases e; exact ih _ _ _ _ _ _ _ hl ht hr
      · cases e
        exact ih _ _ _ _ _ _ _ (am_mem_low hl ht hm) (Nat.le_trans ht (am_mem_mono hm).1) hr
      · cases e
      · cases e
    · cases hr; exact hl
    · split at hr
      · cases hr
      · split at hr
        · cases hr
        · next r1 hr1 =>
          have h1 := ih _ _ _ _ _ _ _ hl ht hr1
          exact ih _ _ _ _ _ _ _ h1 (Nat.le_trans ht (am_run_mono _ _ _ _ _ _ _ _ hr1).1) hr
/-- the row of one length: from n steps of the walking machine to the machine -/
def am_Snd (l : Launch) (G : Nat → Nat) (X : am_H) (D : va_G) (dA : Nat → ClassId) (n : Nat) : Prop :=
  ∀ (d y pc : Nat) (L : am_L) (st : List Value) (h : am_H) (v : Option Value) (h9 : am_H), am_run G n d y pc L st h = some (v, h9) →
  ∀ (p : Program) (e : Env) (R : Room) (s : State) (m : MethodId) (args : Array Value) (below : List Frame) (meth : Method) (c : Code) (a : am_MI) (H : Heap) (locs : List Loc) (Q : State → Prop) (ls : Array Slot) (t0 s0 : Nat),
  am_B y a p s m args meth c → am_Xt G X D dA s s.heap → am_Rp G X D dA s.heap h H locs → am_Lr ls L → L.length = a.2.2.1 → d ≤ R.frames → 60 * d ≤ R.locals → t0 ≤ am_top h → s0 ≤ am_sl h → am_top h9 - t0 ≤ R.cells → am_sl h9 - s0 ≤ R.slots →
  (∀ (pc2 : Nat) (i : Instr) (ls2 : Array Slot) (st2 : List Value) (H2 : Heap) (locs2 : List Loc), decode a.2.1 pc2 = .ok (i, am_len i) → am_ret a.2.2.2.1 i st2 = some v → am_Rp G X D dA s.heap h9 H2 locs2 → W p l e R s m args below meth c H2 locs2 (am_top h9 - t0) (am_sl h9 - s0) Q (F0 m pc2 ls2 st2)) →
  W p l e R s m args below meth c H locs (am_top h - t0) (am_sl h - s0) Q (F0 m pc ls st)
theorem am_nosw {i : Instr} {G : Nat → Nat} {d cn : Nat} {ini : Bool} {L : am_L} {st : List Value} {h : am_H} {rt : Option FieldType} (hs : am_sw i = true) : am_pure i L st = none ∧ am_mem G d cn ini i st h = none ∧ am_call G h cn i st = none ∧ am_ret rt i st = none := by
  unfold am_sw at hs
  split at hs
  · exact ⟨rfl, rfl, rfl, rfl⟩
  · exact ⟨rfl, rfl, rfl, rfl⟩
  · cases hs
set_option maxHeartbeats 4000000 in
/-- a method's contract out of a run of it -/
theorem am_met {l : Launch} {G : Nat → Nat} {X : am_H} {D : va_G} {dA : Nat → ClassId} {n : Nat} (ih : am_Snd l G X D dA n) {d y : Nat} {vs : List Value} {h h9 : am_H} {v : Option Value} {b : am_MI} (hr : am_run G n d y 0 (am_entry y vs) [] h = some (v, h9)) (hb : am_ML[y]? = some b) (hlow : am_low G X h) (htop : G 0 ≤ am_top h) (hy : 0 < y) (hl : (am_slt vs).length ≤ b.2.2.1) :
    Met l b.1 (.code b.1 b.2.1 b.2.2.1 b.2.2.2.1 :: am_WS) { frames := d, cells := am_top h9 - am_top h, slots := am_sl h9 - am_sl h, locals := 60 * d } (am_Pc G X D dA vs h) (am_Qc G D dA v h9) (am_top h9 - am_top h) (am_sl h9 - am_sl h) (fun q => G 0 ≤ q) := by
  obtain ⟨hk1, qq, hk2⟩ := am_kn hb hy
  unfold am_mok at hk2
  simp only [Bool.and_eq_true, decide_eq_true_eq] at hk2
  obtain ⟨⟨⟨⟨⟨⟨⟨⟨⟨k1, k2⟩, k3⟩, k4⟩, k5⟩, k6⟩, k7⟩, k8⟩, k9⟩, k10⟩ := hk2
  refine Met.ofW (cc := b.2.1) (maxL := b.2.2.1) (ret := b.2.2.2.1) k4 rfl ?_
  intro p e s m args below meth c s₁ B hml hv
  obtain ⟨rfl, hsz, hXt, hP⟩ := hv
  have hts0 := atoms_spec (ws := .code b.1 b.2.1 b.2.2.1 b.2.2.2.1 :: am_WS) B.pre
  have hown : s.vm.findClass b.1.cls = some m.cls := findClass_of_methodNamed B.named
  have hnm : meth.name = b.1.name := (name_of_methodNamed B.named B.method).1
  have hlocks := B.notSynchronized
  have hret := B.returns
  have hx := B.exec
  have hbc := B.bytes
  obtain ⟨hLr, hlen⟩ := am_entry_ok hb hl
  rw [lg_entry_eq]
  have hB : am_B y b p s m vs.toArray meth c := by
    refine ⟨hb, ⟨hx, hbc, by rw [← k9]; exact hown, fun w hw => hts0 w (List.mem_cons_of_mem _ hw)⟩, hml, hret, hlocks, fun z => ?_⟩
    rw [if_pos z] at k10
    simp only [Bool.and_eq_true, decide_eq_true_eq] at k10
    rw [hnm, k10.1]
  have hRp : am_Rp G X D dA s.heap h s.heap [] := ⟨hsz, htop, hP, va_S.rf, by rw [hsz]; exact htop, hlow⟩
  have key := ih d y 0 (am_entry y vs) [] h v h9 hr p e { frames := d, cells := am_top h9 - am_top h, slots := am_sl h9 - am_sl h, locals := 60 * d } s m vs.toArray below meth c b s.heap [] (MQ below (am_Qc G D dA v h9) vs.toArray s (am_top h9 - am_top h) (am_sl h9 - am_sl h) (fun q => G 0 ≤ q)) _ (am_top h) (am_sl h) hB hXt hRp hLr hlen (Nat.le_refl _) (Nat.le_refl _) (Nat.le_refl _) (Nat.le_refl _) (Nat.le_refl _) (Nat.le_refl _) ?_
  · rw [Nat.sub_self, Nat.sub_self] at key
    exact key
  · intro pc2 i ls2 st2 H2 locs2 hd hrt hR2
    have hq : ∀ t : State, t.heap = H2 → s.WarmedH t.vm → am_Qc G D dA v h9 vs.toArray s (.returned v) t := by
      intro t ht hW
      exact ⟨rfl, by rw [ht]; exact hR2.1, by rw [ht]; exact hR2.2.2.1, hR2.2.2.2.1.F ht⟩
    have hf : ∀ q ∈ locs2, (fun q => G 0 ≤ q) q.base := hR2.2.2.2.1.2.2
    unfold am_ret at hrt
    split at hrt
    · split at hrt
      · split at hrt
        · next hn => cases hrt; exact W.vret hx hbc (hret.trans hn) hq hf hd hlocks
        · cases hrt
      · cases hrt
    · split at hrt
      · next z =>
        split at hrt
        · next ty hty =>
          split at hrt
          · next hn => cases hrt; exact W.zret hx hbc (hret.trans hty) hn hq hf hd hlocks
          · cases hrt
        · cases hrt
      · cases hrt
    · split at hrt
      · split at hrt
        · next hn => cases hrt; exact W.lret hx hbc (hret.trans hn) hq hf hd hlocks
        · cases hrt
      · cases hrt
    · split at hrt
      · next z =>
        split at hrt
        · next nm hty => cases hrt; exact W.aret hx hbc (hret.trans hty) (Or.inl ⟨_, rfl⟩) (Or.inr ⟨_, rfl⟩) hq hf hd hlocks
        · next nm hty => cases hrt; exact W.aret hx hbc (hret.trans hty) (Or.inr ⟨_, rfl⟩) (Or.inr ⟨_, rfl⟩) hq hf hd hlocks
        · cases hrt
      · split at hrt
        · next nm hty => cases hrt; exact W.aret hx hbc (hret.trans hty) (Or.inl ⟨_, rfl⟩) (Or.inl rfl) hq hf hd hlocks
        · next nm hty => cases hrt; exact W.aret hx hbc (hret.trans hty) (Or.inr ⟨_, rfl⟩) (Or.inl rfl) hq hf hd hlocks
        · cases hrt
      · cases hrt
    · cases hrt
set_option maxHeartbeats 4000000 in
theorem am_snd (l : Launch) (G : Nat → Nat) (X : am_H) (D : va_G) (dA : Nat → ClassId) : ∀ n, am_Snd l G X D dA n := by
  intro n
  induction n with
  | zero => intro d y pc L st h v h9 hr; cases hr
  | succ n ih =>
    intro d y pc L st h v h9 hr p e R s m args below meth c a H locs Q ls t0 s0 hB hX hR hL hlen hfr hlo ht hs hc9 hs9 K
    obtain ⟨ha, hC, hml, hret, hlocks, hnm⟩ := id hB
    have hls : ls.size = a.2.2.1 := hL.1.trans hlen
    unfold am_run at hr
    split at hr
    · cases hr
    · next q hq =>
      have hmono := am_run_mono _ _ _ _ _ _ _ _ hr
      obtain ⟨a2, i, len, ha2, hd, hlw, hcs⟩ := am_stp_ok hq
      cases ha.symm.trans ha2
      rcases hcs with ⟨b, hb, e0⟩ | ⟨-, ⟨L2, st2, hp, e0⟩ | ⟨-, ⟨st2, h2, hm, e0⟩ | ⟨-, ⟨q2, hc, e0⟩ | ⟨-, v2, hv, e0⟩⟩⟩⟩
      · cases e0
        exact am_br_ok hC.1 hC.2.1 hd hlw hb (ih _ _ _ _ _ _ _ _ hr p e R s m args below meth c a H locs Q ls t0 s0 hB hX hR hL hlen hfr hlo ht hs hc9 hs9 K)
      · cases e0
        have hl2 : len = am_len i := hlw.resolve_left (fun z => by rw [(am_nosw (G := G) (d := 0) (cn := 0) (ini := false) (h := h) (rt := none) z).1] at hp; cases hp)
        subst hl2
        exact am_pure_ok hC.1 hC.2.1 hd hp hL (fun ls2 hL2 => ih _ _ _ _ _ _ _ _ hr p e R s m args below meth c a H locs Q ls2 t0 s0 hB hX hR hL2 ((am_pure_len hp).trans hlen) hfr hlo ht hs hc9 hs9 K)
      · cases e0
        have hl2 : len = am_len i := hlw.resolve_left (fun z => by rw [(am_nosw (L := L) (rt := none) z).2.1] at hm; cases hm)
        subst hl2
        have hm2 := am_mem_mono hm
        have e1 : am_top h - t0 + (am_top h2 - am_top h) = am_top h2 - t0 := by omega
        have e2 : am_sl h - s0 + (am_sl h2 - am_sl h) = am_sl h2 - s0 := by omega
        have h91 : am_top h2 ≤ am_top h9 := hmono.1
        have h92 : am_sl h2 ≤ am_sl h9 := hmono.2
        refine am_mem_ok hC hX hR (fun z => hnm (by simpa using z)) (hml.trans hls.symm) hfr hlo hd hm (by rw [e1]; omega) (by rw [e2]; omega) (fun H2 locs2 hR2 => ?_)
        rw [e1, e2]
        exact ih _ _ _ _ _ _ _ _ hr p e R s m args below meth c a H2 locs2 Q ls t0 s0 hB hX hR2 hL hlen hfr hlo (Nat.le_trans ht hm2.1) (Nat.le_trans hs hm2.2) hc9 hs9 K
      · cases e0
      · cases e0
    · next v2 hq =>
      cases hr
      obtain ⟨a2, i, len, ha2, hd, hlw, hcs⟩ := am_stp_ok hq
      cases ha.symm.trans ha2
      rcases hcs with ⟨b, hb, e0⟩ | ⟨-, ⟨L2, st2, hp, e0⟩ | ⟨-, ⟨st2, h2, hm, e0⟩ | ⟨-, ⟨q2, hc, e0⟩ | ⟨-, v2, hv, e0⟩⟩⟩⟩
      · cases e0
      · cases e0
      · cases e0
      · cases e0
      · cases e0
        have hl2 : len = am_len i := hlw.resolve_left (fun z => by rw [(am_nosw (G := G) (d := 0) (cn := 0) (ini := false) (h := h) (L := L) z).2.2.2] at hv; cases hv)
        subst hl2
        exact K pc i ls st H locs hd hv hR
    · next q hq =>
      split at hr
      · cases hr
      · next d2 =>
        split at hr
        · cases hr
        · next r1 hr1 =>
          obtain ⟨a2, i, len, ha2, hd, hlw, hcs⟩ := am_stp_ok hq
          cases ha.symm.trans ha2
          rcases hcs with ⟨b, hb, e0⟩ | ⟨-, ⟨L2, st2, hp, e0⟩ | ⟨-, ⟨st2, h2, hm, e0⟩ | ⟨-, ⟨q2, hc, e0⟩ | ⟨-, v2, hv, e0⟩⟩⟩⟩
          · cases e0
          · cases e0
          · cases e0
          · cases e0
            have hl2 : len = am_len i := hlw.resolve_left (fun z => by rw [(am_nosw (d := 0) (ini := false) (L := L) (rt := none) z).2.2.1] at hc; cases hc)
            subst hl2
            obtain ⟨v1, h1⟩ := r1
            obtain ⟨y2, vs, rest⟩ := q
            have hm1 := am_run_mono _ _ _ _ _ _ _ _ hr1
            have hm2 := am_run_mono _ _ _ _ _ _ _ _ hr
            have hlow1 := am_run_low _ _ _ _ _ _ _ _ hR.2.2.2.2.2 hR.2.1 hr1
            have hb2 : ∃ b, am_ML[y2]? = some b := by
              cases hbb : am_ML[y2]? with
              | some b => exact ⟨b, rfl⟩
              | none =>
                cases n with
                | zero => cases hr1
                | succ n =>
                  unfold am_run at hr1
                  rw [show am_stp G d2 y2 0 (am_entry y2 vs) [] h = none by unfold am_stp; rw [hbb]] at hr1
                  cases hr1
            obtain ⟨b, hb2⟩ := hb2
            have e1 : am_top h - t0 + (am_top h1 - am_top h) = am_top h1 - t0 := by have := hm1.1; simp only at this; omega
            have e2 : am_sl h - s0 + (am_sl h1 - am_sl h) = am_sl h1 - s0 := by have := hm1.2; simp only at this; omega
            have h91 : am_top h1 ≤ am_top h9 := hm2.1
            have h92 : am_sl h1 ≤ am_sl h9 := hm2.2
            refine am_call_ok hB hX hR hls hfr hlo hd hc hb2 (fun z => am_met ih hr1 hb2 hR.2.2.2.2.2 hR.2.1 z.1 z.2) (by rw [e1]; omega) (by rw [e2]; omega) hlow1 (Nat.le_trans hR.2.1 hm1.1) (fun H1 locs1 hR1 => ?_)
            rw [e1, e2]
            exact ih _ _ _ _ _ _ _ _ hr p e R s m args below meth c a H1 locs1 Q ls t0 s0 hB hX hR1 hL hlen hfr hlo (Nat.le_trans ht hm1.1) (Nat.le_trans hs hm1.2) hc9 hs9 K
          · cases e0
