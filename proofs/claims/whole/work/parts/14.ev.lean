/-! what a run comes to, whatever its length: am_ev, with its own rows -/
theorem am_run_more {G : Nat → Nat} : ∀ (n d y pc : Nat) (L : am_L) (st : List Value) (h : am_H) (r : Option Value × am_H), am_run G n d y pc L st h = some r → am_run G (n + 1) d y pc L st h = some r := by
  intro n
  induction n with
  | zero => intro d y pc L st h r hr; cases hr
  | succ n ih =>
    intro d y pc L st h r hr
    rw [am_run]
    rw [am_run] at hr
    split at hr
    · cases hr
    · next q hq => try simp only [hq]
                   exact ih _ _ _ _ _ _ _ hr
    · next v hq => try simp only [hq]
                   exact hr
    · next q hq =>
      try simp only [hq]
      split at hr
      · cases hr
      · next d2 =>
        split at hr
        · cases hr
        · next r1 hr1 =>
          simp only [ih _ _ _ _ _ _ _ hr1]
          exact ih _ _ _ _ _ _ _ hr
theorem am_run_le {G : Nat → Nat} {n k d y pc : Nat} {L : am_L} {st : List Value} {h : am_H} {r : Option Value × am_H} (hr : am_run G n d y pc L st h = some r) : am_run G (n + k) d y pc L st h = some r := by
  induction k with
  | zero => exact hr
  | succ k ih => exact am_run_more _ _ _ _ _ _ _ _ ih
theorem am_run_det {G : Nat → Nat} {n k d y pc : Nat} {L : am_L} {st : List Value} {h : am_H} {r r2 : Option Value × am_H} (hr : am_run G n d y pc L st h = some r) (hr2 : am_run G k d y pc L st h = some r2) : r = r2 := by
  have h1 := am_run_le (k := k) hr
  have h2 := am_run_le (k := n) hr2
  rw [Nat.add_comm] at h2
  exact Option.some.inj (h1.symm.trans h2)
def am_Ev (G : Nat → Nat) (d y pc : Nat) (L : am_L) (st : List Value) (h : am_H) (r : Option Value × am_H) : Prop := ∃ n, am_run G n d y pc L st h = some r
noncomputable def am_ev (G : Nat → Nat) (d y pc : Nat) (L : am_L) (st : List Value) (h : am_H) : Option (Option Value × am_H) := @dite _ (∃ r, am_Ev G d y pc L st h r) (Classical.propDecidable _) (fun z => some (Classical.choose z)) (fun _ => none)
theorem am_ev_iff {G : Nat → Nat} {d y pc : Nat} {L : am_L} {st : List Value} {h : am_H} {r : Option Value × am_H} : am_ev G d y pc L st h = some r ↔ am_Ev G d y pc L st h r := by
  unfold am_ev
  constructor
  · intro hr
    split at hr
    · next z =>
      have e := Option.some.inj hr
      rw [← e]
      exact Classical.choose_spec z
    · cases hr
  · intro hr
    rw [dif_pos ⟨r, hr⟩]
    obtain ⟨n, hn⟩ := hr
    obtain ⟨k, hk⟩ := Classical.choose_spec (⟨r, n, hn⟩ : ∃ r, am_Ev G d y pc L st h r)
    exact congrArg some (am_run_det hk hn)
noncomputable def am_evm (G : Nat → Nat) (d y : Nat) (vs : List Value) (h : am_H) : Option (Option Value × am_H) := am_ev G d y 0 (am_entry y vs) [] h
theorem am_opt {α : Type} {a b : Option α} (h : ∀ r, a = some r ↔ b = some r) : a = b := by
  cases a with
  | none =>
    cases b with
    | none => rfl
    | some r => exact (h r).mpr rfl
  | some r => exact ((h r).mp rfl).symm
theorem am_ev_on {G : Nat → Nat} {d y pc : Nat} {L : am_L} {st : List Value} {h : am_H} {q : Nat × am_L × List Value × am_H} (hs : am_stp G d y pc L st h = some (.inl q)) : am_ev G d y pc L st h = am_ev G d y q.1 q.2.1 q.2.2.1 q.2.2.2 := by
  apply am_opt
  intro r
  rw [am_ev_iff, am_ev_iff]
  constructor
  · rintro ⟨n, hn⟩
    cases n with
    | zero => cases hn
    | succ n =>
      unfold am_run at hn
      simp only [hs] at hn
      exact ⟨n, hn⟩
  · rintro ⟨n, hn⟩
    refine ⟨n + 1, ?_⟩
    unfold am_run
    simp only [hs]
    exact hn
theorem am_ev_end {G : Nat → Nat} {d y pc : Nat} {L : am_L} {st : List Value} {h : am_H} {v : Option Value} (hs : am_stp G d y pc L st h = some (.inr (.inl v))) : am_ev G d y pc L st h = some (v, h) := by
  rw [am_ev_iff]
  refine ⟨1, ?_⟩
  unfold am_run
  simp only [hs]
theorem am_ev_call {G : Nat → Nat} {d y pc : Nat} {L : am_L} {st : List Value} {h : am_H} {q : Nat × List Value × List Value} (hs : am_stp G (d + 1) y pc L st h = some (.inr (.inr q))) : am_ev G (d + 1) y pc L st h = (am_evm G d q.1 q.2.1 h).bind (fun r => am_ev G (d + 1) y (pc + 3) L (r.1.toList ++ q.2.2) r.2) := by
  apply am_opt
  intro r
  rw [am_ev_iff, Option.bind_eq_some_iff]
  constructor
  · rintro ⟨n, hn⟩
    cases n with
    | zero => cases hn
    | succ n =>
      unfold am_run at hn
      simp only [hs] at hn
      split at hn
      · cases hn
      · next r1 hr1 => exact ⟨r1, am_ev_iff.mpr ⟨n, hr1⟩, am_ev_iff.mpr ⟨n, hn⟩⟩
  · rintro ⟨r1, h1, h2⟩
    obtain ⟨n, hn⟩ := am_ev_iff.mp h1
    obtain ⟨k, hk⟩ := am_ev_iff.mp h2
    refine ⟨n + k + 1, ?_⟩
    unfold am_run
    simp only [hs]
    rw [am_run_le (k := k) hn]
    simp only
    rw [Nat.add_comm n k]
    exact am_run_le (k := n) hk
/-! rows of one instruction -/
section AME
variable {G : Nat → Nat} {d y pc pc2 len : Nat} {a : am_MI} {i : Instr} {L L2 : am_L} {st st2 : List Value} {h h2 : am_H}
theorem am_e_pure (hM : am_ML[y]? = some a) (hd : decode a.2.1 pc = .ok (i, len)) (hl : len = am_len i) (hb : am_br i pc st = none) (hp : am_pure i L st = some (L2, st2)) (hpc : pc + len = pc2) : am_ev G d y pc L st h = am_ev G d y pc2 L2 st2 h := by
  subst hpc
  refine am_ev_on (q := (pc + len, L2, st2, h)) ?_
  unfold am_stp
  simp only [hM, hd]
  unfold am_op
  rw [if_pos (Or.inr hl)]
  simp only [hb, hp]
theorem am_e_br {q : Nat × List Value} (hM : am_ML[y]? = some a) (hd : decode a.2.1 pc = .ok (i, len)) (hl : am_sw i = true ∨ len = am_len i) (hb : am_br i pc st = some q) : am_ev G d y pc L st h = am_ev G d y q.1 L q.2 h := by
  refine am_ev_on (q := (q.1, L, q.2, h)) ?_
  unfold am_stp
  simp only [hM, hd]
  unfold am_op
  rw [if_pos hl]
  simp only [hb]
theorem am_e_mem (hM : am_ML[y]? = some a) (hd : decode a.2.1 pc = .ok (i, len)) (hl : len = am_len i) (hb : am_br i pc st = none) (hp : am_pure i L st = none) (hm : am_mem G d a.2.2.2.2.1 (a.2.2.2.2.2.2 == 2) i st h = some (st2, h2)) (hpc : pc + len = pc2) : am_ev G d y pc L st h = am_ev G d y pc2 L st2 h2 := by
  subst hpc
  refine am_ev_on (q := (pc + len, L, st2, h2)) ?_
  unfold am_stp
  simp only [hM, hd]
  unfold am_op
  rw [if_pos (Or.inr hl)]
  simp only [hb, hp, hm]
theorem am_e_ret {v : Option Value} (hM : am_ML[y]? = some a) (hd : decode a.2.1 pc = .ok (i, len)) (hl : len = am_len i) (hb : am_br i pc st = none) (hp : am_pure i L st = none) (hm : am_mem G d a.2.2.2.2.1 (a.2.2.2.2.2.2 == 2) i st h = none) (hc : am_call G h a.2.2.2.2.1 i st = none) (hr : am_ret a.2.2.2.1 i st = some v) : am_ev G d y pc L st h = some (v, h) := by
  refine am_ev_end ?_
  unfold am_stp
  simp only [hM, hd]
  unfold am_op
  rw [if_pos (Or.inr hl)]
  simp only [hb, hp, hm, hc, hr]
theorem am_e_call {q : Nat × List Value × List Value} (hM : am_ML[y]? = some a) (hd : decode a.2.1 pc = .ok (i, len)) (hl : len = am_len i) (hb : am_br i pc st = none) (hp : am_pure i L st = none) (hm : am_mem G (d + 1) a.2.2.2.2.1 (a.2.2.2.2.2.2 == 2) i st h = none) (hc : am_call G h a.2.2.2.2.1 i st = some q) (hpc : pc + 3 = pc2) : am_ev G (d + 1) y pc L st h = (am_evm G d q.1 q.2.1 h).bind (fun r => am_ev G (d + 1) y pc2 L (r.1.toList ++ q.2.2) r.2) := by
  subst hpc
  refine am_ev_call ?_
  unfold am_stp
  simp only [hM, hd]
  unfold am_op
  rw [if_pos (Or.inr hl)]
  simp only [hb, hp, hm, hc]
theorem am_e_if {c : Jvm.ClassFile.Cond} {off : Int} {x : Int32} {r : List Value} {t : Nat} {P : Prop} [dP : Decidable P] (hM : am_ML[y]? = some a) (hd : decode a.2.1 pc = .ok (.ifCond c off, 3)) (ht : (pc : Int) + off = (t : Int)) (hpc : pc + 3 = pc2) (hc : am_cc c x 0 = true ↔ P) : am_ev G d y pc L (.int x :: r) h = if P then am_ev G d y t L r h else am_ev G d y pc2 L r h := by
  have htg : am_tg pc off r = some (t, r) := by unfold am_tg; rw [ht, if_pos (Int.natCast_nonneg t), Int.toNat_natCast]
  by_cases hP : P
  · rw [if_pos hP]
    refine am_e_br (q := (t, r)) hM hd (Or.inr rfl) ?_
    show (match am_tg pc off r with | some q => some (if am_cc c x 0 = true then q else (pc + 3, r)) | none => none) = _
    rw [htg]
    simp only [hc.mpr hP, if_pos]
  · rw [if_neg hP, ← hpc]
    refine am_e_br (q := (pc + 3, r)) hM hd (Or.inr rfl) ?_
    show (match am_tg pc off r with | some q => some (if am_cc c x 0 = true then q else (pc + 3, r)) | none => none) = _
    rw [htg]
    simp only [if_neg (fun z => hP (hc.mp z))]
theorem am_e_icmp {c : Jvm.ClassFile.Cond} {off : Int} {x z : Int32} {r : List Value} {t : Nat} {P : Prop} [dP : Decidable P] (hM : am_ML[y]? = some a) (hd : decode a.2.1 pc = .ok (.if_icmp c off, 3)) (ht : (pc : Int) + off = (t : Int)) (hpc : pc + 3 = pc2) (hc : am_cc c x z = true ↔ P) : am_ev G d y pc L (.int z :: .int x :: r) h = if P then am_ev G d y t L r h else am_ev G d y pc2 L r h := by
  have htg : am_tg pc off r = some (t, r) := by unfold am_tg; rw [ht, if_pos (Int.natCast_nonneg t), Int.toNat_natCast]
  by_cases hP : P
  · rw [if_pos hP]
    refine am_e_br (q := (t, r)) hM hd (Or.inr rfl) ?_
    show (match am_tg pc off r with | some q => some (if am_cc c x z = true then q else (pc + 3, r)) | none => none) = _
    rw [htg]
    simp only [hc.mpr hP, if_pos]
  · rw [if_neg hP, ← hpc]
    refine am_e_br (q := (pc + 3, r)) hM hd (Or.inr rfl) ?_
    show (match am_tg pc off r with | some q => some (if am_cc c x z = true then q else (pc + 3, r)) | none => none) = _
    rw [htg]
    simp only [if_neg (fun q => hP (hc.mp q))]
theorem am_e_goto {off : Int} {r : List Value} {t : Nat} (hM : am_ML[y]? = some a) (hd : decode a.2.1 pc = .ok (.goto off, 3)) (ht : (pc : Int) + off = (t : Int)) : am_ev G d y pc L r h = am_ev G d y t L r h := by
  refine am_e_br (q := (t, r)) hM hd (Or.inr rfl) ?_
  show am_tg pc off r = _
  unfold am_tg
  rw [ht, if_pos (Int.natCast_nonneg t), Int.toNat_natCast]
theorem am_cat_le {r : List Value} (h : r.length ≤ 4) : am_cat r ≤ 8 := by
  have key : ∀ r : List Value, am_cat r ≤ 2 * r.length := by
    intro r
    induction r with
    | nil => exact Nat.le_refl _
    | cons v t ih =>
      have h1 : am_cat (v :: t) = v.category + am_cat t := by simp [am_cat]
      have h2 : v.category ≤ 2 := by rcases lv_cat v with h | h <;> omega
      rw [h1, List.length_cons]
      omega
  have := key r
  omega
end AME
