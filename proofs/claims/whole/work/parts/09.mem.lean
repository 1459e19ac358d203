/-! the walking machine is right, 6: all of the memory's instructions in one row -/
section AMM
variable {p : Program} {l : Launch} {e : Env} {R : Room} {s : State} {m : MethodId} {args : Array Value} {below : List Frame} {meth : Method} {c : Code} {H : Heap} {locs : List Loc} {cells slots : Nat} {Q : State → Prop}
variable {cc : ByteArray} {pc : Nat} {ls : Array Slot} {st st2 : List Value} {D : va_G} {dA : Nat → ClassId} {G : Nat → Nat} {X h h2 : am_H} {cn x d : Nat} {ini : Bool}
theorem am_same {h h2 : am_H} {st2 : List Value} (e1 : am_top h2 = am_top h) (e2 : am_sl h2 = am_sl h) (k : ∀ H2 locs2, am_Rp G X D dA s.heap h2 H2 locs2 → W p l e R s m args below meth c H2 locs2 (cells + (am_top h2 - am_top h)) (slots + (am_sl h2 - am_sl h)) Q (F0 m pc ls st2)) : ∀ H2 locs2, am_Rp G X D dA s.heap h2 H2 locs2 → W p l e R s m args below meth c H2 locs2 cells slots Q (F0 m pc ls st2) := by
  intro H2 locs2 h9
  have := k H2 locs2 h9
  rwa [e1, e2, Nat.sub_self, Nat.sub_self, Nat.add_zero, Nat.add_zero] at this
theorem am_one {X : Prop} {Y : Nat → Prop} (h : ∀ a b : Nat, True) : True := trivial
theorem am_mem_ok {i : Instr} (hC : am_Cx cc cn p c s m args) (hX : am_Xt G X D dA s s.heap) (hR : am_Rp G X D dA s.heap h H locs) (hini : ini = true → meth.name = "<init>") (hml : c.maxLocals = ls.size) (hfr : d ≤ R.frames) (hlo : 60 * d ≤ R.locals) (hd : decode cc pc = .ok (i, am_len i)) (hg : am_mem G d cn ini i st h = some (st2, h2)) (hc1 : cells + (am_top h2 - am_top h) ≤ R.cells) (hs1 : slots + (am_sl h2 - am_sl h) ≤ R.slots)
    (k : ∀ H2 locs2, am_Rp G X D dA s.heap h2 H2 locs2 → W p l e R s m args below meth c H2 locs2 (cells + (am_top h2 - am_top h)) (slots + (am_sl h2 - am_sl h)) Q (F0 m (pc + am_len i) ls st2)) : W p l e R s m args below meth c H locs cells slots Q (F0 m pc ls st) := by
  have hce : cells ≤ R.cells := by omega
  have hsl : slots ≤ R.slots := by omega
  have hrd : h2 = h → W p l e R s m args below meth c H locs cells slots Q (F0 m (pc + am_len i) ls st2) := by
    intro e0
    subst e0
    exact am_same rfl rfl k H locs hR
  unfold am_mem at hg
  split at hg
  · have e0 : h2 = h := by
      unfold am_ldc at hg
      split at hg
      · cases hg; rfl
      · split at hg
        · cases hg; rfl
        · split at hg
          · cases hg; rfl
          · split at hg
            · cases hg; rfl
            · cases hg
    exact (am_ldc_ok hC hX hd hg (hrd e0)).2
  · have e0 : h2 = h := by
      unfold am_ldcw at hg
      split at hg
      · cases hg; rfl
      · cases hg
    exact (am_ldcw_ok hC hd hg (hrd e0)).2
  · have e0 : h2 = h := by
      unfold am_ldc2 at hg
      split at hg
      · cases hg; rfl
      · cases hg
    exact (am_ldc2_ok hC hd hg (hrd e0)).2
  · have e0 : h2 = h := by
      unfold am_get at hg
      split at hg
      · split at hg
        · split at hg
          · cases hg; rfl
          · cases hg
        · split at hg
          · split at hg
            · split at hg
              · cases hg; rfl
              · split at hg
                · cases hg; rfl
                · cases hg
            · cases hg
          · cases hg
      · cases hg
    exact (am_get_ok hC hX hR hd hg (hrd e0)).2
  · have e0 : am_top h2 = am_top h ∧ am_sl h2 = am_sl h := by
      unfold am_put at hg
      split at hg
      · split at hg
        · next q hq =>
          split at hg
          · split at hg
            · next h3 hpv =>
              cases hg
              obtain ⟨ps, h1⟩ := am_lk_in hq am_flT_ok
              simp only [Bool.and_eq_true, decide_eq_true_eq] at h1
              obtain ⟨e1, e2, e3, e4, e5, e6, e7⟩ := am_pv_ok h1.2 hpv
              exact ⟨e4, e5⟩
            · cases hg
          · cases hg
        · cases hg
      · cases hg
    exact (am_put_ok hC hX hR hini hd hg (am_same e0.1 e0.2 k)).2
  · have e0 : h2 = h := by
      unfold am_gst at hg
      split at hg
      · cases hg; rfl
      · split at hg
        · cases hg; rfl
        · split at hg
          · cases hg; rfl
          · split at hg
            · cases hg; rfl
            · cases hg
    exact (am_gst_ok hC hX hR hd hg (hrd e0)).2
  · have e0 : h2 = h := by
      unfold am_ald at hg
      split at hg
      · split at hg
        · cases hg; rfl
        · cases hg
      · cases hg
    exact (am_iald_ok hC hX hR hd hg (hrd e0)).2
  · have e0 : h2 = h := by
      unfold am_ald at hg
      split at hg
      · split at hg
        · cases hg; rfl
        · cases hg
      · cases hg
    exact (am_bald_ok hC hX hR hd hg (hrd e0)).2
  · have e0 : h2 = h := by
      unfold am_cld at hg
      split at hg
      · split at hg
        · cases hg; rfl
        · cases hg
      · cases hg
    exact (am_cld_ok hC hX hR hd hg (hrd e0)).2
  · have e0 : h2 = h := by
      unfold am_aal at hg
      split at hg
      · split at hg
        · cases hg; rfl
        · cases hg
      · cases hg
    exact (am_aal_ok hC hX hR hd hg (hrd e0)).2
  · have e0 : am_top h2 = am_top h ∧ am_sl h2 = am_sl h := by
      unfold am_ias at hg
      split at hg
      · split at hg
        · cases hg; exact ⟨rfl, rfl⟩
        · cases hg
      · cases hg
    exact (am_ias_ok hC hX hR hd hg (am_same e0.1 e0.2 k)).2
  · have e0 : am_top h2 = am_top h ∧ am_sl h2 = am_sl h := by
      unfold am_bas at hg
      split at hg
      · split at hg
        · cases hg; exact ⟨rfl, rfl⟩
        · cases hg
      · cases hg
    exact (am_bas_ok hC hX hR hd hg (am_same e0.1 e0.2 k)).2
  · have e0 : am_top h2 = am_top h ∧ am_sl h2 = am_sl h := by
      unfold am_aas at hg
      split at hg
      · split at hg
        · cases hg; exact ⟨rfl, rfl⟩
        · cases hg
      · split at hg
        · cases hg; exact ⟨rfl, rfl⟩
        · cases hg
      · cases hg
    exact (am_aas_ok hC hX hR hd hg (am_same e0.1 e0.2 k)).2
  · have e0 : h2 = h := by
      unfold am_aln at hg
      split at hg
      · split at hg
        · cases hg; rfl
        · cases hg
      · cases hg
    exact (am_aln_ok hC hX hR hd hg (hrd e0)).2
  · exact am_nwa_ok hC hX hR hd hg hc1 hs1 k
  · exact am_anw_ok hC hX hR hd hg hc1 hs1 k
  · exact am_nwo_ok hC hX hR hd hg hc1 hs1 k
  · have e0 : h2 = h := by
      unfold am_oin at hg
      split at hg
      · split at hg
        · cases hg; rfl
        · cases hg
      · cases hg
    exact (am_oin_ok hC hml hfr hlo hd hg (hrd e0)).2
  · have e0 : am_top h2 = am_top h ∧ am_sl h2 = am_sl h := by
      unfold am_sta2 at hg
      split at hg
      · split at hg
        · cases hg; exact ⟨rfl, rfl⟩
        · cases hg
      · split at hg
        · split at hg
          · cases hg; exact ⟨rfl, rfl⟩
          · split at hg
            · cases hg; exact ⟨rfl, rfl⟩
            · cases hg
        · cases hg
      · cases hg
    exact (am_sta2_ok hC hX hR hml hfr hlo hce hsl hd hg (am_same e0.1 e0.2 k)).2
  · cases hg
end AMM
