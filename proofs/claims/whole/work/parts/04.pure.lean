/-! the walking machine is right, 1: locals, stack, arithmetic, branches -/
def am_Lr (ls : Array Slot) (L : am_L) : Prop := ls.size = L.length ∧ lv_wf ls ∧ ∀ (i : Nat) (v : Value), L[i]? = some (some v) → ls[i]? = some (.val v)
def am_lv (L : am_L) : List (Nat × Value) := (List.range L.length).filterMap (fun i => match L[i]? with
  | some (some v) => some (i, v)
  | _ => none)
theorem am_lv_mem {L : am_L} {i : Nat} {v : Value} : (i, v) ∈ am_lv L ↔ L[i]? = some (some v) := by
  unfold am_lv
  rw [List.mem_filterMap]
  constructor
  · rintro ⟨j, -, h⟩
    split at h
    · next w hw => cases h; exact hw
    · cases h
  · intro h
    refine ⟨i, List.mem_range.mpr (List.getElem?_eq_some_iff.mp h).1, ?_⟩
    rw [h]
theorem am_Lr.has {ls : Array Slot} {L : am_L} (h : am_Lr ls L) : lv_has ls L.length (am_lv L) := ⟨h.1, h.2.1, fun q hq => h.2.2 q.1 q.2 (am_lv_mem.mp hq)⟩
theorem am_Lr.set {ls : Array Slot} {L : am_L} {i : Nat} {v : Value} (hn : i < L.length) (h2 : am_c1 (L.getD (i - 1) none) = true) (h : lv_has ls L.length ((i, v) :: (am_lv L).filter (fun q => !(q.1 == i) && !(q.1 + 1 == i && q.2.category == 2)))) : am_Lr ls (L.set i (some v)) := by
  refine ⟨by rw [List.length_set]; exact h.1, h.2.1, fun j w hw => ?_⟩
  rw [List.getElem?_set] at hw
  by_cases hj : i = j
  · subst hj
    rw [if_pos rfl, if_pos hn] at hw
    cases hw
    exact h.2.2 (i, v) List.mem_cons_self
  · rw [if_neg hj] at hw
    refine h.2.2 (j, w) (List.mem_cons_of_mem _ (List.mem_filter.mpr ⟨am_lv_mem.mpr hw, ?_⟩))
    have h5 : (j == i) = false := beq_eq_false_iff_ne.mpr (fun q => hj q.symm)
    show (!(j == i) && !(j + 1 == i && w.category == 2)) = true
    rw [h5]
    by_cases hji : j + 1 = i
    · have hc : w.category = 1 := by
        rw [← hji, Nat.add_sub_cancel, List.getD_eq_getElem?_getD, hw] at h2
        simpa [am_c1] using h2
      rw [hc]
      simp
    · simp [hji]
section AMP
variable {p : Program} {l : Launch} {e : Env} {R : Room} {s : State} {m : MethodId} {args : Array Value} {below : List Frame} {meth : Method} {c : Code} {H : Heap} {locs : List Loc} {cells slots : Nat} {Q : State → Prop}
variable {cc : ByteArray} {pc : Nat} {ls : Array Slot} {L L2 : am_L} {st st2 : List Value}
theorem am_ldi_ok {k : Nat} (hL : am_Lr ls L) (h : am_ldi L k st = some (L2, st2)) : ∃ x, ls[k]? = some (.val (.int x)) ∧ L2 = L ∧ st2 = .int x :: st := by
  unfold am_ldi at h
  split at h
  · next x hx => cases h; exact ⟨x, hL.2.2 _ _ hx, rfl, rfl⟩
  · cases h
theorem am_ldl_ok {k : Nat} (hL : am_Lr ls L) (h : am_ldl L k st = some (L2, st2)) : ∃ x, ls[k]? = some (.val (.long x)) ∧ L2 = L ∧ st2 = .long x :: st := by
  unfold am_ldl at h
  split at h
  · next x hx => cases h; exact ⟨x, hL.2.2 _ _ hx, rfl, rfl⟩
  · cases h
theorem am_lda_ok {k : Nat} (hL : am_Lr ls L) (h : am_lda L k st = some (L2, st2)) : (∃ x, ls[k]? = some (.val (.ref x)) ∧ L2 = L ∧ st2 = .ref x :: st) ∨ (ls[k]? = some (.val .null) ∧ L2 = L ∧ st2 = .null :: st) := by
  unfold am_lda at h
  split at h
  · next x hx => cases h; exact Or.inl ⟨x, hL.2.2 _ _ hx, rfl, rfl⟩
  · next hx => cases h; exact Or.inr ⟨hL.2.2 _ _ hx, rfl, rfl⟩
  · cases h
theorem am_sto_ok {k : Nat} {v : Value} (h : am_sto L k v st = some (L2, st2)) : k < L.length ∧ am_c1 (L.getD (k - 1) none) = true ∧ L2 = L.set k (some v) ∧ st2 = st := by
  unfold am_sto at h
  split at h
  · next hc => cases h; exact ⟨hc.1, hc.2, rfl, rfl⟩
  · cases h
theorem am_sti_ok {k : Nat} (h : am_sti L k st = some (L2, st2)) : ∃ x r, st = .int x :: r ∧ k < L.length ∧ am_c1 (L.getD (k - 1) none) = true ∧ L2 = L.set k (some (.int x)) ∧ st2 = r := by
  unfold am_sti at h
  split at h
  · next x r => obtain ⟨a, b, d, f⟩ := am_sto_ok h; exact ⟨x, r, rfl, a, b, d, f⟩
  · cases h
theorem am_sta_ok {k : Nat} (h : am_sta L k st = some (L2, st2)) : (∃ x r, st = .ref x :: r ∧ k < L.length ∧ am_c1 (L.getD (k - 1) none) = true ∧ L2 = L.set k (some (.ref x)) ∧ st2 = r) ∨ (∃ r, st = .null :: r ∧ k < L.length ∧ am_c1 (L.getD (k - 1) none) = true ∧ L2 = L.set k (some .null) ∧ st2 = r) := by
  unfold am_sta at h
  split at h
  · next x r => obtain ⟨a, b, d, f⟩ := am_sto_ok h; exact Or.inl ⟨x, r, rfl, a, b, d, f⟩
  · next r => obtain ⟨a, b, d, f⟩ := am_sto_ok h; exact Or.inr ⟨r, rfl, a, b, d, f⟩
  · cases h
theorem am_b2_ok {f : Int32 → Int32 → Int32} (h : am_b2 f L st = some (L2, st2)) : ∃ x y r, st = .int y :: .int x :: r ∧ L2 = L ∧ st2 = .int (f x y) :: r := by
  unfold am_b2 at h
  split at h
  · next y x r => cases h; exact ⟨x, y, r, rfl, rfl, rfl⟩
  · cases h
theorem am_d2_ok {f : Int32 → Int32 → Int32} (h : am_d2 f L st = some (L2, st2)) : ∃ x y r, st = .int y :: .int x :: r ∧ ¬ y = 0 ∧ L2 = L ∧ st2 = .int (f x y) :: r := by
  unfold am_d2 at h
  split at h
  · next y x r =>
    split at h
    · cases h
    · next hne => cases h; exact ⟨x, y, r, rfl, hne, rfl, rfl⟩
  · cases h
theorem am_u1_ok {f : Int32 → Int32} (h : am_u1 f L st = some (L2, st2)) : ∃ x r, st = .int x :: r ∧ L2 = L ∧ st2 = .int (f x) :: r := by
  unfold am_u1 at h
  split at h
  · next x r => cases h; exact ⟨x, r, rfl, rfl, rfl⟩
  · cases h
set_option maxHeartbeats 4000000 in
theorem am_pure_ok (hx : p.tables.exec = Jvm.exec) (hb : c.code = cc) {i : Instr} (hd : decode cc pc = .ok (i, am_len i)) (h : am_pure i L st = some (L2, st2)) (hL : am_Lr ls L)
    (k : ∀ ls2, am_Lr ls2 L2 → W p l e R s m args below meth c H locs cells slots Q (F0 m (pc + am_len i) ls2 st2)) : W p l e R s m args below meth c H locs cells slots Q (F0 m pc ls st) := by
  unfold am_pure at h
  split at h
  · cases h; exact lv_iconst hx hb hd rfl (k ls hL)
  · cases h; exact lv_bipush hx hb hd rfl (k ls hL)
  · cases h; exact lv_sipush hx hb hd rfl (k ls hL)
  · cases h; exact lv_lconst hx hb hd rfl (k ls hL)
  · cases h; exact lv_null hx hb hd (k ls hL)
  · obtain ⟨x, h1, rfl, rfl⟩ := am_ldi_ok hL h; exact lv_iload_n hx hb hd rfl h1 (k ls hL)
  · obtain ⟨x, h1, rfl, rfl⟩ := am_ldi_ok hL h; exact lv_iload hx hb hd h1 (k ls hL)
  · obtain ⟨x, h1, rfl, rfl⟩ := am_ldl_ok hL h; exact lv_lload_n hx hb hd rfl h1 (k ls hL)
  · obtain ⟨x, h1, rfl, rfl⟩ := am_ldl_ok hL h; exact lv_lload hx hb hd h1 (k ls hL)
  · rcases am_lda_ok hL h with ⟨x, h1, rfl, rfl⟩ | ⟨h1, rfl, rfl⟩
    · exact lv_aload_n hx hb hd rfl h1 (k ls hL)
    · exact lv_aload_nN hx hb hd rfl h1 (k ls hL)
  · rcases am_lda_ok hL h with ⟨x, h1, rfl, rfl⟩ | ⟨h1, rfl, rfl⟩
    · exact lv_aload hx hb hd h1 (k ls hL)
    · exact lv_aloadN hx hb hd h1 (k ls hL)
  · obtain ⟨x, r, rfl, h1, h2, rfl, rfl⟩ := am_sti_ok h; exact lv_istore_n hx hb hd rfl hL.has h1 rfl (fun ls2 h3 => k ls2 (am_Lr.set h1 h2 h3))
  · obtain ⟨x, r, rfl, h1, h2, rfl, rfl⟩ := am_sti_ok h; exact lv_istore hx hb hd hL.has h1 rfl (fun ls2 h3 => k ls2 (am_Lr.set h1 h2 h3))
  · rcases am_sta_ok h with ⟨x, r, rfl, h1, h2, rfl, rfl⟩ | ⟨r, rfl, h1, h2, rfl, rfl⟩
    · exact lv_astore_n hx hb hd rfl hL.has h1 rfl (fun ls2 h3 => k ls2 (am_Lr.set h1 h2 h3))
    · exact lv_astore_nN hx hb hd rfl hL.has h1 rfl (fun ls2 h3 => k ls2 (am_Lr.set h1 h2 h3))
  · rcases am_sta_ok h with ⟨x, r, rfl, h1, h2, rfl, rfl⟩ | ⟨r, rfl, h1, h2, rfl, rfl⟩
    · exact lv_astore hx hb hd hL.has h1 rfl (fun ls2 h3 => k ls2 (am_Lr.set h1 h2 h3))
    · exact lv_astoreN hx hb hd hL.has h1 rfl (fun ls2 h3 => k ls2 (am_Lr.set h1 h2 h3))
  · unfold am_inc at h
    split at h
    · next x hxx =>
      obtain ⟨h1, h2, rfl, rfl⟩ := am_sto_ok h
      obtain ⟨k0, hk0⟩ := List.getElem?_of_mem (am_lv_mem.mpr hxx)
      exact lv_iinc hx hb hd hL.has hk0 rfl h1 rfl (fun ls2 h3 => k ls2 (am_Lr.set h1 h2 h3))
    · cases h
  · obtain ⟨x, y, r, rfl, rfl, rfl⟩ := am_b2_ok h; exact lv_iadd hx hb hd (k ls hL)
  · obtain ⟨x, y, r, rfl, rfl, rfl⟩ := am_b2_ok h; exact lv_isub hx hb hd (k ls hL)
  · obtain ⟨x, y, r, rfl, rfl, rfl⟩ := am_b2_ok h; exact lv_imul hx hb hd (k ls hL)
  · obtain ⟨x, y, r, rfl, rfl, rfl⟩ := am_b2_ok h; exact lv_iand hx hb hd (k ls hL)
  · obtain ⟨x, y, r, rfl, rfl, rfl⟩ := am_b2_ok h; exact lv_ior hx hb hd (k ls hL)
  · obtain ⟨x, y, r, rfl, rfl, rfl⟩ := am_b2_ok h; exact lv_ixor hx hb hd (k ls hL)
  · obtain ⟨x, y, r, rfl, rfl, rfl⟩ := am_b2_ok h; exact lv_ishl hx hb hd (k ls hL)
  · obtain ⟨x, y, r, rfl, rfl, rfl⟩ := am_b2_ok h; exact lv_ishr hx hb hd (k ls hL)
  · obtain ⟨x, y, r, rfl, rfl, rfl⟩ := am_b2_ok h; exact lv_iushr hx hb hd rfl (k ls hL)
  · obtain ⟨x, y, r, rfl, h0, rfl, rfl⟩ := am_d2_ok h; exact lv_idiv hx hb hd h0 (k ls hL)
  · obtain ⟨x, y, r, rfl, h0, rfl, rfl⟩ := am_d2_ok h; exact lv_irem hx hb hd h0 (k ls hL)
  · obtain ⟨x, r, rfl, rfl, rfl⟩ := am_u1_ok h; exact lv_ineg hx hb hd (k ls hL)
  · obtain ⟨x, r, rfl, rfl, rfl⟩ := am_u1_ok h; exact lv_i2b hx hb hd rfl (k ls hL)
  · obtain ⟨x, r, rfl, rfl, rfl⟩ := am_u1_ok h; exact lv_i2s hx hb hd rfl (k ls hL)
  · obtain ⟨x, r, rfl, rfl, rfl⟩ := am_u1_ok h; exact lv_i2c hx hb hd rfl (k ls hL)
  · unfold am_i2l at h
    split at h
    · cases h; exact lv_i2l hx hb hd rfl (k ls hL)
    · cases h
  · unfold am_ladd at h
    split at h
    · cases h; exact lv_ladd hx hb hd (k ls hL)
    · cases h
  · unfold am_lcmp at h
    split at h
    · cases h; exact W.lcmp hx hb hd (k ls hL)
    · cases h
  · unfold am_dup at h
    split at h
    · split at h
      · next hc => cases h; exact lv_dup hx hb hd hc (k ls hL)
      · cases h
    · cases h
  · unfold am_dup2 at h
    split at h
    · split at h
      · next hc => cases h; exact lv_dup2_11 hx hb hd hc.1 hc.2 (k ls hL)
      · cases h
    · cases h
  · unfold am_pop at h
    split at h
    · split at h
      · next hc => cases h; exact lv_pop hx hb hd hc (k ls hL)
      · cases h
    · cases h
  · cases h
theorem am_tg_ok {off : Int} {q : Nat × List Value} (h : am_tg pc off st = some q) : (pc : Int) + off = (q.1 : Int) ∧ q.2 = st := by
  unfold am_tg at h
  split at h
  · next h0 => cases h; exact ⟨(Int.toNat_of_nonneg h0).symm, rfl⟩
  · cases h
set_option maxHeartbeats 4000000 in
theorem am_br_ok (hx : p.tables.exec = Jvm.exec) (hb : c.code = cc) {i : Instr} {len : Nat} (hd : decode cc pc = .ok (i, len)) (hl : am_sw i = true ∨ len = am_len i) {q : Nat × List Value} (h : am_br i pc st = some q)
    (k : W p l e R s m args below meth c H locs cells slots Q (F0 m q.1 ls q.2)) : W p l e R s m args below meth c H locs cells slots Q (F0 m pc ls st) := by
  unfold am_br at h
  split at h
  · have hl : len = 3 := hl.resolve_left (by intro h; cases h)
    subst hl
    obtain ⟨h1, h2⟩ := am_tg_ok h
    rw [h2] at k
    exact lv_goto hx hb hd h1 k
  · next cnd off =>
    have hl : len = 3 := hl.resolve_left (by intro h; cases h)
    subst hl
    split at h
    · next x r =>
      split at h
      · next q0 hq0 =>
        obtain ⟨h1, h2⟩ := am_tg_ok hq0
        have k1 : am_cc cnd x 0 = true → W p l e R s m args below meth c H locs cells slots Q (F0 m q0.1 ls r) := by
          intro hc
          rw [if_pos hc] at h
          cases h
          rw [h2] at k
          exact k
        have k2 : ¬ am_cc cnd x 0 = true → W p l e R s m args below meth c H locs cells slots Q (F0 m (pc + 3) ls r) := by
          intro hc
          rw [if_neg hc] at h
          cases h
          exact k
        cases cnd with
        | eq => exact lv_if_eq hx hb hd h1 (fun z => k1 (decide_eq_true z)) (fun z => k2 (fun y => z (of_decide_eq_true y)))
        | ne => exact lv_if_ne hx hb hd h1 (fun z => k1 (decide_eq_true z)) (fun z => k2 (fun y => (of_decide_eq_true y) z))
        | lt => exact lv_if_lt hx hb hd h1 (fun z => k1 (decide_eq_true z)) (fun z => k2 (fun y => z (of_decide_eq_true y)))
        | ge => exact lv_if_ge hx hb hd h1 (fun z => k1 (decide_eq_true z)) (fun z => k2 (fun y => z (of_decide_eq_true y)))
        | gt => exact lv_if_gt hx hb hd h1 (fun z => k1 (decide_eq_true z)) (fun z => k2 (fun y => z (of_decide_eq_true y)))
        | le => exact lv_if_le hx hb hd h1 (fun z => k1 (decide_eq_true z)) (fun z => k2 (fun y => z (of_decide_eq_true y)))
      · cases h
    · cases h
  · next cnd off =>
    have hl : len = 3 := hl.resolve_left (by intro h; cases h)
    subst hl
    split at h
    · next y x r =>
      split at h
      · next q0 hq0 =>
        obtain ⟨h1, h2⟩ := am_tg_ok hq0
        have k1 : am_cc cnd x y = true → W p l e R s m args below meth c H locs cells slots Q (F0 m q0.1 ls r) := by
          intro hc
          rw [if_pos hc] at h
          cases h
          rw [h2] at k
          exact k
        have k2 : ¬ am_cc cnd x y = true → W p l e R s m args below meth c H locs cells slots Q (F0 m (pc + 3) ls r) := by
          intro hc
          rw [if_neg hc] at h
          cases h
          exact k
        cases cnd with
        | eq => exact lv_icmp_eq hx hb hd h1 (fun z => k1 (decide_eq_true z)) (fun z => k2 (fun y => z (of_decide_eq_true y)))
        | ne => exact lv_icmp_ne hx hb hd h1 (fun z => k1 (decide_eq_true z)) (fun z => k2 (fun y => (of_decide_eq_true y) z))
        | lt => exact lv_icmp_lt hx hb hd h1 (fun z => k1 (decide_eq_true z)) (fun z => k2 (fun y => z (of_decide_eq_true y)))
        | ge => exact lv_icmp_ge hx hb hd h1 (fun z => k1 (decide_eq_true z)) (fun z => k2 (fun y => z (of_decide_eq_true y)))
        | gt => exact lv_icmp_gt hx hb hd h1 (fun z => k1 (decide_eq_true z)) (fun z => k2 (fun y => z (of_decide_eq_true y)))
        | le => exact lv_icmp_le hx hb hd h1 (fun z => k1 (decide_eq_true z)) (fun z => k2 (fun y => z (of_decide_eq_true y)))
      · cases h
    · cases h
  · next off =>
    have hl : len = 3 := hl.resolve_left (by intro h; cases h)
    subst hl
    split at h
    · obtain ⟨h1, h2⟩ := am_tg_ok h
      rw [h2] at k
      exact lv_ifnullN hx hb hd h1 k
    · cases h; exact lv_ifnull hx hb hd k
    · cases h
  · next off =>
    have hl : len = 3 := hl.resolve_left (by intro h; cases h)
    subst hl
    split at h
    · obtain ⟨h1, h2⟩ := am_tg_ok h
      rw [h2] at k
      exact lv_ifnonnull hx hb hd h1 k
    · cases h; exact lv_ifnonnullN hx hb hd k
    · cases h
  · split at h
    · split at h
      · next ho =>
        obtain ⟨h1, h2⟩ := am_tg_ok h
        rw [h2] at k
        exact lv_tableOut hx hb hd ho h1 k
      · next ho =>
        split at h
        · next off hoff =>
          obtain ⟨h1, h2⟩ := am_tg_ok h
          rw [h2] at k
          exact lv_tableIn hx hb hd (fun z => ho (Or.inl z)) (fun z => ho (Or.inr z)) hoff h1 k
        · cases h
    · cases h
  · split at h
    · split at h
      · next hp =>
        obtain ⟨h1, h2⟩ := am_tg_ok h
        rw [h2] at k
        exact lv_lookup hx hb hd hp rfl h1 k
      · cases h
    · cases h
  · cases h
end AMP
