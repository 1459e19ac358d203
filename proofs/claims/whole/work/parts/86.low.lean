/-! what a run never touches: what lies below, and the shapes of what is there -/
def am_lw (G : Nat → Nat) (h h2 : am_H) : Prop := am_top h ≤ am_top h2 ∧ (∀ b, b < am_top h → am_sh h2 b = am_sh h b) ∧ ∀ b, b < G 0 → am_i h2 b = am_i h b
section LW
variable {G : Nat → Nat} {h h2 h3 : am_H} {a k n s : Nat}
theorem am_lw.rf : am_lw G h h := ⟨Nat.le_refl _, fun _ _ => rfl, fun _ _ => rfl⟩
theorem am_lw.tr (x : am_lw G h h2) (y : am_lw G h2 h3) : am_lw G h h3 := ⟨Nat.le_trans x.1 y.1, fun b hb => (y.2.1 b (Nat.lt_of_lt_of_le hb x.1)).trans (x.2.1 b hb), fun b hb => (y.2.2 b hb).trans (x.2.2 b hb)⟩
theorem am_lw.pi {v : Int32} (ha : G 0 ≤ a) : am_lw G h (am_pi h a k v) := ⟨Nat.le_refl _, fun _ _ => rfl, fun b hb => (am_pi_o b (by omega)).1⟩
theorem am_lw.pa {g : Nat → Int32} (ha : G 0 ≤ a) : am_lw G h (am_pa h a g) := ⟨Nat.le_refl _, fun _ _ => rfl, fun b hb => (am_pa_o b (by omega)).1⟩
theorem am_lw.pr {v : Option Nat} : am_lw G h (am_pr h a k v) := ⟨Nat.le_refl _, fun _ _ => rfl, fun _ _ => rfl⟩
theorem am_lw.nw (hG : G 0 ≤ am_top h) : am_lw G h (am_new h k n s) := ⟨Nat.le_succ _, fun b hb => nw_sh (Nat.ne_of_lt hb), fun b hb => nw_i (by omega)⟩
theorem am_pv_lw {ci : Nat} {v : Value} (ha : G 0 ≤ a) (e : am_pv h a ci k v = some h2) : am_lw G h h2 := by
  unfold am_pv at e
  split at e
  · split at e
    · cases e; exact am_lw.pr
    · cases e; exact am_lw.pr
    · cases e
  · split at e
    · split at e
      · cases e; exact am_lw.pi ha
      · cases e
    · cases e
theorem am_mem_lw {d cn : Nat} {ini : Bool} {i : Instr} {st st2 : List Value} (hG : G 0 ≤ am_top h) (e : am_mem G d cn ini i st h = some (st2, h2)) : am_lw G h h2 := by
  unfold am_mem at e
  split at e
  · unfold am_ldc at e; (repeat' split at e) <;> cases e <;> exact am_lw.rf
  · unfold am_ldcw at e; (repeat' split at e) <;> cases e <;> exact am_lw.rf
  · unfold am_ldc2 at e; (repeat' split at e) <;> cases e <;> exact am_lw.rf
  · unfold am_get at e; (repeat' split at e) <;> cases e <;> exact am_lw.rf
  · unfold am_put at e
    split at e
    · split at e
      · split at e
        · next hc =>
          split at e
          · next hp => cases e; exact am_pv_lw hc.1.1.1 hp
          · cases e
        · cases e
      · cases e
    · cases e
  · unfold am_gst at e; (repeat' split at e) <;> cases e <;> exact am_lw.rf
  · unfold am_ald at e; (repeat' split at e) <;> cases e <;> exact am_lw.rf
  · unfold am_ald at e; (repeat' split at e) <;> cases e <;> exact am_lw.rf
  · unfold am_cld at e; (repeat' split at e) <;> cases e <;> exact am_lw.rf
  · unfold am_aal at e; (repeat' split at e) <;> cases e <;> exact am_lw.rf
  · unfold am_ias at e
    split at e
    · split at e
      · next hc => cases e; exact am_lw.pi hc.1.1.1
      · cases e
    · cases e
  · unfold am_bas at e
    split at e
    · split at e
      · next hc => cases e; exact am_lw.pi hc.1.1.1
      · cases e
    · cases e
  · unfold am_aas at e
    split at e
    · split at e
      · cases e; exact am_lw.pr
      · cases e
    · split at e
      · cases e; exact am_lw.pr
      · cases e
    · cases e
  · unfold am_aln at e; (repeat' split at e) <;> cases e <;> exact am_lw.rf
  · unfold am_nwa at e
    split at e
    · split at e
      · cases e; exact am_lw.nw hG
      · cases e
    · cases e
  · unfold am_anw at e
    split at e
    · split at e
      · split at e
        · cases e; exact am_lw.nw hG
        · cases e
      · cases e
    · cases e
  · unfold am_nwo at e
    split at e
    · cases e; exact am_lw.nw hG
    · cases e
  · unfold am_oin at e; (repeat' split at e) <;> cases e <;> exact am_lw.rf
  · unfold am_sta2 at e
    split at e
    · split at e
      · next hc => cases e; exact am_lw.pa hc.2.2.1.1.1
      · cases e
    · split at e
      · split at e
        · cases e; exact am_lw.rf
        · split at e
          · cases e; exact am_lw.rf
          · cases e
      · cases e
    · cases e
  · cases e
theorem am_stp_lw {d y pc : Nat} {L : am_L} {st : List Value} {q : Nat × am_L × List Value × am_H} (hG : G 0 ≤ am_top h) (e : am_stp G d y pc L st h = some (.inl q)) : am_lw G h q.2.2.2 := by
  unfold am_stp at e
  split at e
  · split at e
    · unfold am_op at e
      split at e
      · split at e
        · cases e; exact am_lw.rf
        · split at e
          · cases e; exact am_lw.rf
          · split at e
            · next w hw => cases e; exact am_mem_lw (st2 := w.1) (h2 := w.2) hG hw
            · split at e
              · cases e
              · split at e <;> cases e
      · cases e
    · cases e
  · cases e
theorem am_run_lw : ∀ (N d y pc : Nat) (L : am_L) (st : List Value) (h : am_H) (r : Option Value × am_H), G 0 ≤ am_top h → am_run G N d y pc L st h = some r → am_lw G h r.2 := by
  intro N
  induction N with
  | zero => intro d y pc L st h r _ e; cases e
  | succ N ih =>
    intro d y pc L st h r hG e
    unfold am_run at e
    split at e
    · cases e
    · next q hq =>
      have h1 := am_stp_lw hG hq
      exact h1.tr (ih _ _ _ _ _ _ _ (Nat.le_trans hG h1.1) e)
    · cases e; exact am_lw.rf
    · split at e
      · cases e
      · split at e
        · cases e
        · next r1 hr1 =>
          have h1 := ih _ _ _ _ _ _ _ hG hr1
          exact h1.tr (ih _ _ _ _ _ _ _ (Nat.le_trans hG h1.1) e)
theorem am_evm_lw {d y : Nat} {vs : List Value} {v : Option Value} (hG : G 0 ≤ am_top h) (e : am_evm G d y vs h = some (v, h2)) : am_lw G h h2 := by
  obtain ⟨N, hN⟩ := am_ev_iff.mp e
  exact am_run_lw N _ _ _ _ _ _ _ hG hN
end LW
