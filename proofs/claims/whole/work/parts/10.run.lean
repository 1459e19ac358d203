/-! the walking machine is right, 7: calls, ends, and the whole run -/
theorem am_kn {y : Nat} {a : am_MI} (h : am_ML[y]? = some a) (hy : 0 < y) : am_mkn a := by
  have h1 : a ∈ am_ML.drop 1 := by
    apply List.mem_of_getElem? (i := y - 1)
    rw [List.getElem?_drop, show 1 + (y - 1) = y by omega]
    exact h
  have e : am_ML.drop 1 = (am_ML0.drop 1 ++ (am_ML1 ++ (am_ML2 ++ (am_ML3 ++ (am_ML4 ++ (am_ML5 ++ (am_ML6 ++ (am_ML7 ++ (am_ML8 ++ (am_ML9 ++ (am_ML10 ++ am_ML11))))))))))) := rfl
  rw [e] at h1
  rcases List.mem_append.mp h1 with h1 | h1
  · exact am_kns_0 _ h1
  rcases List.mem_append.mp h1 with h1 | h1
  · exact am_kns_1 _ h1
  rcases List.mem_append.mp h1 with h1 | h1
  · exact am_kns_2 _ h1
  rcases List.mem_append.mp h1 with h1 | h1
  · exact am_kns_3 _ h1
  rcases List.mem_append.mp h1 with h1 | h1
  · exact am_kns_4 _ h1
  rcases List.mem_append.mp h1 with h1 | h1
  · exact am_kns_5 _ h1
  rcases List.mem_append.mp h1 with h1 | h1
  · exact am_kns_6 _ h1
  rcases List.mem_append.mp h1 with h1 | h1
  · exact am_kns_7 _ h1
  rcases List.mem_append.mp h1 with h1 | h1
  · exact am_kns_8 _ h1
  rcases List.mem_append.mp h1 with h1 | h1
  · exact am_kns_9 _ h1
  rcases List.mem_append.mp h1 with h1 | h1
  · exact am_kns_10 _ h1
  exact am_kns_11 _ h1
theorem am_slt_at (vs : List Value) : ∀ (i : Nat) (v : Value), (am_slt vs)[i]? = some (some v) → (lg_sl vs)[i]? = some (.val v) := by
  induction vs with
  | nil => intro i v h; simp [am_slt] at h
  | cons w t ih =>
    intro i v h
    have e1 : am_slt (w :: t) = (if w.category = 2 then [some w, none] else [some w]) ++ am_slt t := by simp [am_slt]
    have e2 : lg_sl (w :: t) = (if w.category = 2 then [.val w, .second] else [.val w]) ++ lg_sl t := by simp [lg_sl]
    rw [e1] at h
    rw [e2]
    by_cases hc : w.category = 2
    · rw [if_pos hc] at h ⊢
      match i, h with
      | 0, h => cases h; rfl
      | 1, h => cases h
      | i + 2, h => exact ih i v h
    · rw [if_neg hc] at h ⊢
      match i, h with
      | 0, h => cases h; rfl
      | i + 1, h => exact ih i v h
theorem am_slt_len (vs : List Value) : (am_slt vs).length = (lg_sl vs).length := by
  induction vs with
  | nil => rfl
  | cons w t ih =>
    have e1 : am_slt (w :: t) = (if w.category = 2 then [some w, none] else [some w]) ++ am_slt t := by simp [am_slt]
    have e2 : lg_sl (w :: t) = (if w.category = 2 then [.val w, .second] else [.val w]) ++ lg_sl t := by simp [lg_sl]
    rw [e1, e2, List.length_append, List.length_append, ih]
    split <;> rfl
theorem am_entry_ok {y : Nat} {a : am_MI} {vs : List Value} (ha : am_ML[y]? = some a) (hl : (am_slt vs).length ≤ a.2.2.1) : am_Lr ((lg_sl vs ++ List.replicate (a.2.2.1 - (lg_sl vs).length) Slot.unset).toArray) (am_entry y vs) ∧ (am_entry y vs).length = a.2.2.1 := by
  have hl2 : (lg_sl vs).length ≤ a.2.2.1 := by rw [← am_slt_len]; exact hl
  have hh := lv_entry vs hl2
  have hlen : (am_entry y vs).length = a.2.2.1 := by
    unfold am_entry
    rw [ha]
    simp
    omega
  refine ⟨⟨by rw [hh.1, hlen], hh.2.1, fun i v hv => ?_⟩, hlen⟩
  unfold am_entry at hv
  rw [ha] at hv
  simp only at hv
  rw [List.getElem?_toArray]
  by_cases hi : i < (am_slt vs).length
  · rw [List.getElem?_append_left hi] at hv
    rw [List.getElem?_append_left (by rw [← am_slt_len]; exact hi)]
    exact am_slt_at vs i v hv
  · rw [List.getElem?_append_right (by omega)] at hv
    have := List.mem_of_getElem? hv
    simp at this
theorem am_pure_len {i : Instr} {L L2 : am_L} {st st2 : List Value} (h : am_pure i L st = some (L2, st2)) : L2.length = L.length := by
  unfold am_pure at h
  split at h
  case h_6 | h_7 => unfold am_ldi at h; split at h <;> cases h; rfl
  case h_8 | h_9 => unfold am_ldl at h; split at h <;> cases h; rfl
  case h_10 | h_11 => unfold am_lda at h; split at h <;> cases h <;> rfl
  case h_12 | h_13 => obtain ⟨x, r, rfl, h1, h2, rfl, rfl⟩ := am_sti_ok h; simp
  case h_14 | h_15 => rcases am_sta_ok h with ⟨x, r, rfl, h1, h2, rfl, rfl⟩ | ⟨r, rfl, h1, h2, rfl, rfl⟩ <;> simp
  case h_16 =>
    unfold am_inc at h
    split at h
    · obtain ⟨h1, h2, rfl, rfl⟩ := am_sto_ok h; simp
    · cases h
  case h_26 | h_27 => obtain ⟨x, y, r, rfl, h0, rfl, rfl⟩ := am_d2_ok h; rfl
  case h_28 | h_29 | h_30 | h_31 => obtain ⟨x, r, rfl, rfl, rfl⟩ := am_u1_ok h; rfl
  case h_32 => unfold am_i2l at h; split at h <;> cases h; rfl
  case h_33 => unfold am_ladd at h; split at h <;> cases h; rfl
  case h_34 => unfold am_lcmp at h; split at h <;> cases h; rfl
  case h_35 =>
    unfold am_dup at h
    split at h
    · split at h <;> cases h; rfl
    · cases h
  case h_36 =>
    unfold am_dup2 at h
    split at h
    · split at h <;> cases h; rfl
    · cases h
  case h_37 =>
    unfold am_pop at h
    split at h
    · split at h <;> cases h; rfl
    · cases h
  all_goals first | (cases h; rfl) | (obtain ⟨x, y, r, rfl, rfl, rfl⟩ := am_b2_ok h; rfl) | cases h
theorem am_pv_mono {h h2 : am_H} {a ci k : Nat} {v : Value} (hv : am_pv h a ci k v = some h2) : am_top h2 = am_top h ∧ am_sl h2 = am_sl h := by
  unfold am_pv at hv
  split at hv
  · split at hv
    · cases hv; exact ⟨rfl, rfl⟩
    · cases hv; exact ⟨rfl, rfl⟩
    · cases hv
  · split at hv
    · split at hv
      · cases hv; exact ⟨rfl, rfl⟩
      · cases hv
    · cases hv
theorem am_new_m {h : am_H} {kd n sl : Nat} : am_top h ≤ am_top (am_new h kd n sl) ∧ am_sl h ≤ am_sl (am_new h kd n sl) := ⟨Nat.le_succ _, Nat.le_add_right _ _⟩
theorem am_mem_mono {G : Nat → Nat} {d cn : Nat} {ini : Bool} {i : Instr} {st st2 : List Value} {h h2 : am_H} (hg : am_mem G d cn ini i st h = some (st2, h2)) : am_top h ≤ am_top h2 ∧ am_sl h ≤ am_sl h2 := by
  have self : am_top h ≤ am_top h ∧ am_sl h ≤ am_sl h := ⟨Nat.le_refl _, Nat.le_refl _⟩
  unfold am_mem at hg
  split at hg
  case h_1 => unfold am_ldc at hg; (repeat' (split at hg)) <;> cases hg <;> exact self
  case h_2 => unfold am_ldcw at hg; (repeat' (split at hg)) <;> cases hg <;> exact self
  case h_3 => unfold am_ldc2 at hg; (repeat' (split at hg)) <;> cases hg <;> exact self
  case h_4 => unfold am_get at hg; (repeat' (split at hg)) <;> cases hg <;> exact self
  case h_5 =>
    unfold am_put at hg
    split at hg
    · split at hg
      · split at hg
        · split at hg
          · next h3 hpv => cases hg; obtain ⟨e1, e2⟩ := am_pv_mono hpv; rw [e1, e2]; exact self
          · cases hg
        · cases hg
      · cases hg
    · cases hg
  case h_6 => unfold am_gst at hg; (repeat' (split at hg)) <;> cases hg <;> exact self
  case h_7 => unfold am_ald at hg; (repeat' (split at hg)) <;> cases hg <;> exact self
  case h_8 => unfold am_ald at hg; (repeat' (split at hg)) <;> cases hg <;> exact self
  case h_9 => unfold am_cld at hg; (repeat' (split at hg)) <;> cases hg <;> exact self
  case h_10 => unfold am_aal at hg; (repeat' (split at hg)) <;> cases hg <;> exact self
  case h_11 => unfold am_ias at hg; (repeat' (split at hg)) <;> cases hg <;> exact self
  case h_12 => unfold am_bas at hg; (repeat' (split at hg)) <;> cases hg <;> exact self
  case h_13 => unfold am_aas at hg; (repeat' (split at hg)) <;> cases hg <;> exact self
  case h_14 => unfold am_aln at hg; (repeat' (split at hg)) <;> cases hg <;> exact self
  case h_15 => unfold am_nwa at hg; (repeat' (split at hg)) <;> cases hg <;> exact am_new_m
  case h_16 => unfold am_anw at hg; (repeat' (split at hg)) <;> cases hg <;> exact am_new_m
  case h_17 => unfold am_nwo at hg; (repeat' (split at hg)) <;> cases hg <;> exact am_new_m
  case h_18 => unfold am_oin at hg; (repeat' (split at hg)) <;> cases hg <;> exact self
  case h_19 => unfold am_sta2 at hg; (repeat' (split at hg)) <;> cases hg <;> exact self
  case h_20 => cases hg
/-- the step of a run, case by case -/
theorem am_stp_ok {G : Nat → Nat} {d y pc : Nat} {L : am_L} {st : List Value} {h : am_H} {z : am_S} (hs : am_stp G d y pc L st h = some z) : ∃ a i len, am_ML[y]? = some a ∧ decode a.2.1 pc = .ok (i, len) ∧ (am_sw i = true ∨ len = am_len i) ∧
    ((∃ q, am_br i pc st = some q ∧ z = .inl (q.1, L, q.2, h)) ∨ (am_br i pc st = none ∧ ((∃ L2 st2, am_pure i L st = some (L2, st2) ∧ z = .inl (pc + len, L2, st2, h)) ∨ (am_pure i L st = none ∧ ((∃ st2 h2, am_mem G d a.2.2.2.2.1 (a.2.2.2.2.2.2 == 2) i st h = some (st2, h2) ∧ z = .inl (pc + len, L, st2, h2)) ∨ (am_mem G d a.2.2.2.2.1 (a.2.2.2.2.2.2 == 2) i st h = none ∧ ((∃ q, am_call G h a.2.2.2.2.1 i st = some q ∧ z = .inr (.inr q)) ∨ (am_call G h a.2.2.2.2.1 i st = none ∧ ∃ v, am_ret a.2.2.2.1 i st = some v ∧ z = .inr (.inl v))))))))) := by
  unfold am_stp at hs
  split at hs
  · next a ha =>
    split at hs
    · next q hq =>
      refine ⟨a, q.1, q.2, ha, hq, ?_⟩
      unfold am_op at hs
      split at hs
      · next hl =>
        refine ⟨hl, ?_⟩
        split at hs
        · next r hr => cases hs; exact Or.inl ⟨r, hr, rfl⟩
        · next hr =>
          refine Or.inr ⟨hr, ?_⟩
          split at hs
          · next r2 hr2 => cases hs; exact Or.inl ⟨r2.1, r2.2, hr2, rfl⟩
          · next hr2 =>
            refine Or.inr ⟨hr2, ?_⟩
            split at hs
            · next r3 hr3 => cases hs; exact Or.inl ⟨r3.1, r3.2, hr3, rfl⟩
            · next hr3 =>
              refine Or.inr ⟨hr3, ?_⟩
              split at hs
              · next r4 hr4 => cases hs; exact Or.inl ⟨r4, hr4, rfl⟩
              · next hr4 =>
                refine Or.inr ⟨hr4, ?_⟩
                split at hs
                · next v hv => cases hs; exact ⟨v, hv, rfl⟩
                · cases hs
      · cases hs
    · cases hs
  · cases hs
theorem am_run_mono {G : Nat → Nat} : ∀ (n d y pc : Nat) (L : am_L) (st : List Value) (h : am_H) (r : Option Value × am_H), am_run G n d y pc L st h = some r → am_top h ≤ am_top r.2 ∧ am_sl h ≤ am_sl r.2 := by
  intro n
  induction n with
  | zero => intro d y pc L st h r hr; cases hr
  | succ n ih =>
    intro d y pc L st h r hr
    unfold am_run at hr
    split at hr
    · cases hr
    · next q hq =>
      have h1 := ih _ _ _ _ _ _ _ hr
      obtain ⟨a, i, len, -, -, -, hcs⟩ := am_stp_ok hq
      rcases hcs with ⟨b, hb, e⟩ | ⟨-, ⟨L2, st2, hp, e⟩ | ⟨-, ⟨st2, h2, hm, e⟩ | ⟨-, ⟨q2, hc, e⟩ | ⟨-, v, hv, e⟩⟩⟩⟩
      · cases e; exact h1
      · cases e; exact h1
      · cases e
        have h2m := am_mem_mono hm
        exact ⟨Nat.le_trans h2m.1 h1.1, Nat.le_trans h2m.2 h1.2⟩
      · cases e
      · cases e
    · cases hr; exact ⟨Nat.le_refl _, Nat.le_refl _⟩
    · split at hr
      · cases hr
      · split at hr
        · cases hr
        · next r1 hr1 =>
          have h1 := ih _ _ _ _ _ _ _ hr1
          have h2 := ih _ _ _ _ _ _ _ hr
          exact ⟨Nat.le_trans h1.1 h2.1, Nat.le_trans h1.2 h2.2⟩
