/-! THE CLAIM OUT OF ONE WALK OF THE LAW'S BODY. Your part is whole_start (and what it stands on); all else here is the same for every law, but numbers. -/
def R_law : String := "NeverSaidLaw"
def lw_P (b : Addr) (xs : List Int32) (args : Array Value) (s : State) : Prop := args = #[.ref b] ∧ s.IntsAt b xs ∧ xs.length ≤ 3072 ∧ (Jvm.Cond.and given_1 narrow_1).before args s = true
def lw_Q (_ : Array Value) (s : State) (o : Outcome) (t : State) : Prop := o = .returned (some (.int 1)) ∧ Framed s o t [] 600000 7302250
def lw_Z (below : List Frame) (a : Array Value) (s : State) : State → Prop := fun t => ∃ o, t.status = .running ∧ Ended t below o ∧ lw_Q a s o t
/-- the law's own end, with 1 on the stack, nothing written that was there before, its room as the claim has it -/
theorem lw_ret {p : Program} {l : Launch} {e : Env} {s : State} {m : MethodId} {below : List Frame} {meth : Method} {c : Code} {b : Nat} (hx : p.tables.exec = Jvm.exec) (hb : c.code = code) (hr : meth.sig.returnType = ret) (hlocks : meth.locks = false) {pc : Nat} {H : Heap} {ls : Array Slot} (hdg : decode code pc = .ok (.ireturn, 1)) : W p l e room_1 s m #[Value.ref b] below meth c H [] 600000 7302250 (lw_Z below #[Value.ref b] s) (F0 m pc ls [.int 1]) := by
  intro T hT X
  obtain ⟨fs, hret, hrun, hended, hW, hframe⟩ := X.leave (v := some (.int 1)) (hlocks := hlocks) (fun h => by rw [hr] at h; cases h)
  have hmeth' : T.vm.method? m = some meth := X.method'
  refine ⟨T.setFrames fs, ?_, .returned (some (.int 1)), hrun, hended, rfl, ⟨_, rfl⟩, hW, hframe⟩
  jvm_step X.here [X.here.top, hx, hb, hdg, hmeth', hr, ret, narrow_b1]
  (try refine ⟨rfl, ?_⟩); (try refine ⟨rfl, ?_⟩)
  first | (intro acts; rw [hret _ acts rfl rfl rfl]) | rw [hret _ _ rfl rfl rfl]
  exact Steps.refl _
/-- what holds at the law's entry: the machine, the code, the tables' words (any of lw_tbl by 'hts w (by decide +kernel)'), the script of L ints xs at the cell b, what the Statement gives of the start (any of its parts by flat_of_before) -/
def lw_At (p : Program) (s : State) (m : MethodId) (meth : Method) (c : Code) (b L : Nat) (xs : Nat → Int32) : Prop :=
  p.tables.exec = Jvm.exec ∧ c.code = code ∧ meth.sig.returnType = ret ∧ c.maxLocals = 4 ∧ s.vm.findClass R_law = some m.cls ∧ (∀ w ∈ lw_tbl, w.before #[Value.ref b] s = true) ∧ va_X b L xs s s.heap ∧ b < s.heap.size ∧ meth.locks = false ∧ (Jvm.Cond.and given_1 narrow_1).before #[Value.ref b] s = true

/-! from the law's entry to the walking machine -/
def am_KA (j : Nat) : Int32 := ([-1000000005, 0, 0, 1, 2, 0] : List Int32).getD j 0
def am_NA (j : Nat) : Int32 := ([115, 112, 119, 108, 119, 110, 98, 115, 110] : List Int32).getD j 0
def am_TX (i j : Nat) : Int32 := (([[109, 97, 121], [99, 111, 115, 116], [98, 111, 108, 100]] : List (List Int32)).getD i []).getD j 0
/-- what lies below at the law's entry -/
def am_Env (G : Nat → Nat) (X : am_H) (b L : Nat) (xs : Nat → Int32) : Prop := (am_top X = G 0 ∧ am_sl X = 0) ∧ (b < G 0 ∧ am_sh X b = (30, L) ∧ am_i X b = xs) ∧ (G 1 < G 0 ∧ am_sh X (G 1) = (30, 6) ∧ am_i X (G 1) = am_KA) ∧ (G 2 < G 0 ∧ am_sh X (G 2) = (31, 9) ∧ am_i X (G 2) = am_NA) ∧ (G 7 < G 0 ∧ am_sh X (G 7) = (32, 3) ∧ am_i X (G 7) = am_TX 0) ∧ (G 8 < G 0 ∧ am_sh X (G 8) = (32, 4) ∧ am_i X (G 8) = am_TX 1) ∧ (G 9 < G 0 ∧ am_sh X (G 9) = (32, 4) ∧ am_i X (G 9) = am_TX 2) ∧ G 3 ≠ G 4 ∧ G 3 ≠ G 5 ∧ G 4 ≠ G 5
/-- the claim in the walking machine's words -/
def am_Claim : Prop := ∀ (G : Nat → Nat) (X : am_H) (b L : Nat) (xs : Nat → Int32), L ≤ 3072 → am_Env G X b L xs → ∃ (n : Nat) (h9 : am_H), am_run G n 1300 0 0 [some (.ref b), none, none, none] [] X = some (some (.int 1), h9) ∧ am_top h9 - G 0 ≤ 600000 ∧ am_sl h9 ≤ 7302250
theorem am_T_ne {ty ty2 : FieldType} {t N N2 : Nat} {f f2 : Nat → Value} {A : Nat → Prop} {s : State} {H : Heap} (h1 : va_T ty t N f A s H) (h2 : va_T ty2 t N2 f2 A s H) : ty = ty2 ∧ Int32.ofNat N = Int32.ofNat N2 ∧ ∀ j, j < N → j < N2 → f j = f2 j := by
  obtain ⟨c1, a1, ⟨a2, k1, b1, cm1, b2⟩, a3, a4, a5, a6, a7⟩ := h1
  obtain ⟨c2, d1, ⟨d2, k2, e1, cm2, e2⟩, d3, d4, d5, d6, d7⟩ := h2
  cases a1.symm.trans d1
  cases b1.symm.trans e1
  have e := b2.symm.trans e2
  refine ⟨by injection e, a5.symm.trans d5, fun j h3 h4 => Option.some.inj ((a6 j h3).symm.trans (d6 j h4))⟩
set_option maxHeartbeats 8000000 in
theorem am_begin {s : State} {b L : Nat} {xs : Nat → Int32} (hL : L ≤ 3072) (hts : ∀ w ∈ lw_tbl, w.before #[Value.ref b] s = true) (hX : va_X b L xs s s.heap) (hbl : b < s.heap.size) (hgv : (Jvm.Cond.and given_1 narrow_1).before #[Value.ref b] s = true) : ∃ (G : Nat → Nat) (X : am_H) (D : va_G) (dA : Nat → ClassId), am_Xt G X D dA s s.heap ∧ G 0 = s.heap.size ∧ am_Env G X b L xs := by
  have hs := flat_of_before _ hgv
  have hA : ∀ a : Nat, a < s.heap.size → ¬ (fun q => s.heap.size ≤ q) a := fun a h => Nat.not_le.mpr h
  -- the rows of numbers
  obtain ⟨tK, hK1, hK2⟩ := va_Tof (tm := .static "NeverSaid" "KIND_ABOVE" "[I") (ty := .int) (N := 6) (f := fun j => .int (am_KA j)) (A := fun q => s.heap.size ≤ q) (by decide) (hs _ (by decide +kernel)) (va_eqt (z := 6) (hs _ (by decide +kernel))) (fun j hj => by
    match j, hj with
    | 0, _ => exact va_eqt (z := -1000000005) (hs (.eq (.elem (.static "NeverSaid" "KIND_ABOVE" "[I") (.int 0)) (.int (-1000000005))) (by decide +kernel))
    | 1, _ => exact va_eqt (z := 0) (hs (.eq (.elem (.static "NeverSaid" "KIND_ABOVE" "[I") (.int 1)) (.int 0)) (by decide +kernel))
    | 2, _ => exact va_eqt (z := 0) (hs (.eq (.elem (.static "NeverSaid" "KIND_ABOVE" "[I") (.int 2)) (.int 0)) (by decide +kernel))
    | 3, _ => exact va_eqt (z := 1) (hs (.eq (.elem (.static "NeverSaid" "KIND_ABOVE" "[I") (.int 3)) (.int 1)) (by decide +kernel))
    | 4, _ => exact va_eqt (z := 2) (hs (.eq (.elem (.static "NeverSaid" "KIND_ABOVE" "[I") (.int 4)) (.int 2)) (by decide +kernel))
    | 5, _ => exact va_eqt (z := 0) (hs (.eq (.elem (.static "NeverSaid" "KIND_ABOVE" "[I") (.int 5)) (.int 0)) (by decide +kernel))) hA
  obtain ⟨tN, hN1, hN2⟩ := va_Tof (tm := .static "NeverSaid" "NAMES" "[C") (ty := .char) (N := 9) (f := fun j => .int (am_NA j)) (A := fun q => s.heap.size ≤ q) (by decide) (hs _ (by decide +kernel)) (va_eqt (z := 9) (hs _ (by decide +kernel))) (fun j hj => by
    match j, hj with
    | 0, _ => exact va_eqt (z := 115) (hs (.eq (.elem (.static "NeverSaid" "NAMES" "[C") (.int 0)) (.int 115)) (by decide +kernel))
    | 1, _ => exact va_eqt (z := 112) (hs (.eq (.elem (.static "NeverSaid" "NAMES" "[C") (.int 1)) (.int 112)) (by decide +kernel))
    | 2, _ => exact va_eqt (z := 119) (hs (.eq (.elem (.static "NeverSaid" "NAMES" "[C") (.int 2)) (.int 119)) (by decide +kernel))
    | 3, _ => exact va_eqt (z := 108) (hs (.eq (.elem (.static "NeverSaid" "NAMES" "[C") (.int 3)) (.int 108)) (by decide +kernel))
    | 4, _ => exact va_eqt (z := 119) (hs (.eq (.elem (.static "NeverSaid" "NAMES" "[C") (.int 4)) (.int 119)) (by decide +kernel))
    | 5, _ => exact va_eqt (z := 110) (hs (.eq (.elem (.static "NeverSaid" "NAMES" "[C") (.int 5)) (.int 110)) (by decide +kernel))
    | 6, _ => exact va_eqt (z := 98) (hs (.eq (.elem (.static "NeverSaid" "NAMES" "[C") (.int 6)) (.int 98)) (by decide +kernel))
    | 7, _ => exact va_eqt (z := 115) (hs (.eq (.elem (.static "NeverSaid" "NAMES" "[C") (.int 7)) (.int 115)) (by decide +kernel))
    | 8, _ => exact va_eqt (z := 110) (hs (.eq (.elem (.static "NeverSaid" "NAMES" "[C") (.int 8)) (.int 110)) (by decide +kernel))) hA
  -- the texts
  have hstr := vk_Sof (args := #[Value.ref b]) (s := s) (N := 3) (tm := fun i => if i = 0 then .string "NeverSaid$Reader" 97 else if i = 1 then .string "NeverSaid$Reader" 103 else .string "NeverSaid$Reader" 105) (len := [3, 4, 4]) (byt := [[109, 97, 121], [99, 111, 115, 116], [98, 111, 108, 100]]) (A := fun q => s.heap.size ≤ q)
    (fun i hi => by rcases (show i = 0 ∨ i = 1 ∨ i = 2 by omega) with rfl | rfl | rfl <;> decide)
    (fun i hi => by rcases (show i = 0 ∨ i = 1 ∨ i = 2 by omega) with rfl | rfl | rfl <;> exact hs _ (by decide +kernel))
    (fun i hi => by rcases (show i = 0 ∨ i = 1 ∨ i = 2 by omega) with rfl | rfl | rfl <;> exact hs _ (by decide +kernel))
    (fun i hi => by rcases (show i = 0 ∨ i = 1 ∨ i = 2 by omega) with rfl | rfl | rfl <;> exact hs _ (by decide +kernel))
    (fun i hi => by rcases (show i = 0 ∨ i = 1 ∨ i = 2 by omega) with rfl | rfl | rfl <;> exact hs _ (by decide +kernel))
    (fun i hi j hj => by
      rcases (show i = 0 ∨ i = 1 ∨ i = 2 by omega) with rfl | rfl | rfl
      · rcases (show j = 0 ∨ j = 1 ∨ j = 2 by have : j < 3 := hj; omega) with rfl | rfl | rfl <;> exact hs _ (by decide +kernel)
      · rcases (show j = 0 ∨ j = 1 ∨ j = 2 ∨ j = 3 by have : j < 4 := hj; omega) with rfl | rfl | rfl | rfl <;> exact hs _ (by decide +kernel)
      · rcases (show j = 0 ∨ j = 1 ∨ j = 2 ∨ j = 3 by have : j < 4 := hj; omega) with rfl | rfl | rfl | rfl <;> exact hs _ (by decide +kernel))
    (fun i j hi hj hne => by
      rcases (show i = 0 ∨ i = 1 ∨ i = 2 by omega) with rfl | rfl | rfl <;> rcases (show j = 0 ∨ j = 1 ∨ j = 2 by omega) with rfl | rfl | rfl <;> first | exact absurd rfl hne | exact Or.inl (hs _ (by decide +kernel)) | exact Or.inr (hs _ (by decide +kernel)))
    hA
  obtain ⟨adK, adV, ⟨hW1, hW2⟩, hW3⟩ := hstr
  -- the formatter
  have hF : ∃ g6 : Nat, va_Z "jdk/internal/util/Preconditions" "SIOOBE_FORMATTER" "Ljava/util/function/BiFunction;" (va_rf (if g6 = 0 then none else some (g6 - 1))) (fun q => s.heap.size ≤ q) s s.heap := by
    rcases va_Zqof (hts _ am_w_lySF) (hts _ am_w_in_Preconditions) (hs _ (by decide +kernel)) hA with z | ⟨t, z⟩
    · exact ⟨0, z⟩
    · exact ⟨t + 1, z⟩
  obtain ⟨g6, hF⟩ := hF
  -- the units
  have hcl : ∀ ci, ∃ q : ClassId × (Nat → Nat), ci < 10 → u_Kn s (am_cs ci) (am_T ci) (am_N ci) q.1 q.2 := by
    intro ci
    by_cases hci : ci < 10
    · have h3 := List.all_eq_true.mp am_ciT_ok ci (List.mem_range.mpr hci)
      have h4 : (.instantiable (am_cs ci) (am_N ci) : Cond) ∈ lw_tbl := by
        split at h3
        · simp only [Bool.and_eq_true] at h3
          exact am_at_in h3.1
        · cases h3
      obtain ⟨cC, iS, h5⟩ := u_known (C := am_cs ci) (T := am_T ci) (N := am_N ci) (n := am_N ci) hts (fun w hw => (List.mem_filter.mp (am_lays hci w hw)).1) (hts _ h4)
      exact ⟨(cC, iS), fun _ => h5⟩
    · exact ⟨(0, fun _ => 0), fun h => absurd h hci⟩
  obtain ⟨dq, hdq⟩ := Classical.axiomOfChoice hcl
  have hKn : ∀ (k : Nat) (q : vw_C), vwCl[k]? = some q → u_Kn s q.1 q.2.1 q.2.2 (dq k).1 (dq k).2 := by
    intro k q hq
    have hk : k < 10 := (List.getElem?_eq_some_iff.mp hq).1
    rw [am_vw hk] at hq
    cases hq
    exact hdq k hk
  -- the rows' units
  obtain ⟨aI, kI, cI, hI1, hI2, hI3⟩ := Cond.arrayClass_spec (hts _ am_w_aI)
  obtain ⟨aB, kB, cB, hB1, hB2, hB3⟩ := Cond.arrayClass_spec (hts _ am_w_aB)
  have hAO : ∀ n : String, (Cond.arrayOver (.object n)).before #[Value.ref b] s = true → ∃ c : ClassId, ArrOfT s c (.object n) ∧ va_RA s c (.object n) := by
    intro n hn
    obtain ⟨comp, c, k, g1, g2, g3, g4, g5⟩ := Cond.arrayOver_spec hn
    exact ⟨c, fun N z => ⟨(fun k h => by cases h), k, g3, comp, g4⟩, k, comp, g3, g4, g1, g5⟩
  obtain ⟨a2, hP2⟩ := hAO RX2 (hts _ am_w_ao22)
  obtain ⟨a3, hP3⟩ := hAO RX0 (hts _ am_w_ao23)
  obtain ⟨a4, hP4⟩ := hAO RX7 (hts _ am_w_ao24)
  obtain ⟨a5, hP5⟩ := hAO RX4 (hts _ am_w_ao25)
  obtain ⟨a6, hP6⟩ := hAO RX5 (hts _ am_w_ao26)
  let G : Nat → Nat := fun i => match i with
    | 0 => s.heap.size
    | 1 => tK
    | 2 => tN
    | 3 => adK 0
    | 4 => adK 1
    | 5 => adK 2
    | 6 => g6
    | 7 => adV 0
    | 8 => adV 1
    | _ => adV 2
  let dA : Nat → ClassId := fun i => match i with
    | 0 => aI
    | 1 => aB
    | 2 => a2
    | 3 => a3
    | 4 => a4
    | 5 => a5
    | _ => a6
  have hT0 : va_T .int b L (fun j => .int (xs j)) (fun q => s.heap.size ≤ q) s s.heap := by
    obtain ⟨scr, x1, x2, x3, x4, x5⟩ := hX
    exact ⟨scr, x1, x2, x3, Nat.le_of_eq x4.symm, by rw [x4], x5, hA b hbl⟩
  have hV : ∀ i, i < 3 → va_T .byte (adV i) (([3, 4, 4] : List Nat).getD i 0) (fun j => .int (am_TX i j)) (fun q => s.heap.size ≤ q) s s.heap := fun i hi => (hW1 i hi).2.2.2
  have lt_of : ∀ {ty : FieldType} {t N : Nat} {f : Nat → Value}, va_T ty t N f (fun q => s.heap.size ≤ q) s s.heap → t < s.heap.size := fun h => by
    obtain ⟨cell, h1, -⟩ := h
    exact (Array.getElem?_eq_some_iff.mp h1).1
  have nbK : b ≠ tK := va_neR (t := .arg 0) (u := .static "NeverSaid" "KIND_ABOVE" "[I") (hs _ (by decide +kernel)) rfl hK1
  have nbN : tN ≠ b := fun q => by
    have := (am_T_ne hN2 (q ▸ hT0)).1
    cases this
  have nKN : tN ≠ tK := fun q => by
    have := (am_T_ne hN2 (q ▸ hK2)).1
    cases this
  have nbV : ∀ i, i < 3 → adV i ≠ b := fun i hi q => by
    have := (am_T_ne (hV i hi) (q ▸ hT0)).1
    cases this
  have nKV : ∀ i, i < 3 → adV i ≠ tK := fun i hi q => by
    have := (am_T_ne (hV i hi) (q ▸ hK2)).1
    cases this
  have nNV : ∀ i, i < 3 → adV i ≠ tN := fun i hi q => by
    have := (am_T_ne (hV i hi) (q ▸ hN2)).1
    cases this
  have n10 : adV 1 ≠ adV 0 := fun q => by
    have := (am_T_ne (hV 1 (by decide)) (q ▸ hV 0 (by decide))).2.1
    revert this
    decide
  have n20 : adV 2 ≠ adV 0 := fun q => by
    have := (am_T_ne (hV 2 (by decide)) (q ▸ hV 0 (by decide))).2.1
    revert this
    decide
  have n21 : adV 2 ≠ adV 1 := fun q => by
    have := (am_T_ne (hV 2 (by decide)) (q ▸ hV 1 (by decide))).2.2 0 (by decide) (by decide)
    revert this
    decide
  let sh : Nat → Nat × Nat := fun a => if a = b then (30, L) else if a = tK then (30, 6) else if a = tN then (31, 9) else if a = adV 0 then (32, 3) else if a = adV 1 then (32, 4) else if a = adV 2 then (32, 4) else (99, 0)
  let ii : Nat → Nat → Int32 := fun a => if a = b then xs else if a = tK then am_KA else if a = tN then am_NA else if a = adV 0 then am_TX 0 else if a = adV 1 then am_TX 1 else am_TX 2
  refine ⟨G, (s.heap.size, 0, sh, ii, fun _ _ => none), (fun k => (dq k).1, fun k => (dq k).2), dA, ⟨⟨?_, ?_⟩, ?_, ?_, ?_, ?_, ?_⟩, rfl, ?_⟩
  · intro a ha
    show ((sh a).1 = 30 → va_T .int a (sh a).2 (fun j => .int (ii a j)) _ s s.heap) ∧ ((sh a).1 = 31 → va_T .char a (sh a).2 (fun j => .int (ii a j)) _ s s.heap) ∧ ((sh a).1 = 32 → va_T .byte a (sh a).2 (fun j => .int (ii a j)) _ s s.heap)
    simp only [sh, ii]
    by_cases h0 : a = b
    · subst h0
      rw [if_pos rfl, if_pos rfl]
      exact ⟨fun _ => hT0, fun z => absurd z (by simp), fun z => absurd z (by simp)⟩
    rw [if_neg h0, if_neg h0]
    by_cases h1 : a = tK
    · subst h1
      rw [if_pos rfl, if_pos rfl]
      exact ⟨fun _ => hK2, fun z => absurd z (by decide), fun z => absurd z (by decide)⟩
    rw [if_neg h1, if_neg h1]
    by_cases h2 : a = tN
    · subst h2
      rw [if_pos rfl, if_pos rfl]
      exact ⟨fun z => absurd z (by decide), fun _ => hN2, fun z => absurd z (by decide)⟩
    rw [if_neg h2, if_neg h2]
    by_cases h3 : a = adV 0
    · subst h3
      rw [if_pos rfl, if_pos rfl]
      exact ⟨fun z => absurd z (by decide), fun z => absurd z (by decide), fun _ => hV 0 (by decide)⟩
    rw [if_neg h3, if_neg h3]
    by_cases h4 : a = adV 1
    · subst h4
      rw [if_pos rfl, if_pos rfl]
      exact ⟨fun z => absurd z (by decide), fun z => absurd z (by decide), fun _ => hV 1 (by decide)⟩
    rw [if_neg h4, if_neg h4]
    by_cases h5 : a = adV 2
    · subst h5
      rw [if_pos rfl]
      exact ⟨fun z => absurd z (by decide), fun z => absurd z (by decide), fun _ => hV 2 (by decide)⟩
    rw [if_neg h5]
    exact ⟨fun z => absurd z (by decide), fun z => absurd z (by decide), fun z => absurd z (by decide)⟩
  · intro a w hw
    unfold am_str at hw
    split at hw
    · next e => cases hw; rw [e]; exact ⟨(hW1 0 (by decide)).1, (hW1 0 (by decide)).2.1, (hW1 0 (by decide)).2.2.1⟩
    · split at hw
      · next e => cases hw; rw [e]; exact ⟨(hW1 1 (by decide)).1, (hW1 1 (by decide)).2.1, (hW1 1 (by decide)).2.2.1⟩
      · split at hw
        · next e => cases hw; rw [e]; exact ⟨(hW1 2 (by decide)).1, (hW1 2 (by decide)).2.1, (hW1 2 (by decide)).2.2.1⟩
        · cases hw
  · exact ⟨va_Zof (hts _ am_w_lyKA) (hts _ am_w_in_NeverSaid) hK1 hA, va_Zof (hts _ am_w_lyNA) (hts _ am_w_in_NeverSaid) hN1 hA, va_Zof (hts _ am_w_lyCS) (hts _ am_w_in_String) (va_eqi (hs _ (by decide +kernel))) hA, hF⟩
  · exact ⟨vk_R.of (hts _ am_w_tx0) (hW3 0 (by decide)), vk_R.of (hts _ am_w_tx1) (hW3 1 (by decide)), vk_R.of (hts _ am_w_tx2) (hW3 2 (by decide))⟩
  · exact ⟨va_AO.of (hts _ am_w_ao22), va_AO.of (hts _ am_w_ao23), va_AO.of (hts _ am_w_ao24), va_AO.of (hts _ am_w_ao25), va_AO.of (hts _ am_w_ao26)⟩
  · refine ⟨fun q hq hz => ?_, va_Nw.of rfl (hts _ am_w_stKA), va_Nw.of rfl (hts _ am_w_stNA)⟩
    have h1 := List.all_eq_true.mp am_mlT_ok q hq
    simp only [Bool.and_eq_true, decide_eq_true_eq] at h1
    have h2 := am_at_in h1.1.1
    rw [am_mw, if_neg hz] at h2
    exact va_Nw.of rfl (hts _ h2)
  · refine ⟨hKn, fun k q hq => ?_⟩
    match k, hq with
    | 0, hq => cases hq; exact ⟨fun n z => ⟨(fun k h => by cases h), kI, hI2, cI, hI3⟩, hI1⟩
    | 1, hq => cases hq; exact ⟨fun n z => ⟨(fun k h => by cases h), kB, hB2, cB, hB3⟩, hB1⟩
    | 2, hq => cases hq; exact hP2
    | 3, hq => cases hq; exact hP3
    | 4, hq => cases hq; exact hP4
    | 5, hq => cases hq; exact hP5
    | 6, hq => cases hq; exact hP6
    | k + 7, hq => simp [am_tys] at hq
  · refine ⟨⟨rfl, rfl⟩, ⟨hbl, ?_, ?_⟩, ⟨lt_of hK2, ?_, ?_⟩, ⟨lt_of hN2, ?_, ?_⟩, ⟨lt_of (hV 0 (by decide)), ?_, ?_⟩, ⟨lt_of (hV 1 (by decide)), ?_, ?_⟩, ⟨lt_of (hV 2 (by decide)), ?_, ?_⟩, fun q => absurd (hW2 0 1 (by decide) (by decide) q) (by decide), fun q => absurd (hW2 0 2 (by decide) (by decide) q) (by decide), fun q => absurd (hW2 1 2 (by decide) (by decide) q) (by decide)⟩
    · show sh b = _; simp [sh]
    · show ii b = _; simp [ii]
    · show sh tK = _; simp [sh, nbK.symm]
    · show ii tK = _; simp [ii, nbK.symm]
    · show sh tN = _; simp [sh, nbN, nKN]
    · show ii tN = _; simp [ii, nbN, nKN]
    · show sh (adV 0) = _; simp [sh, nbV, nKV, nNV]
    · show ii (adV 0) = _; simp [ii, nbV, nKV, nNV]
    · show sh (adV 1) = _; simp [sh, nbV, nKV, nNV, n10]
    · show ii (adV 1) = _; simp [ii, nbV, nKV, nNV, n10]
    · show sh (adV 2) = _; simp [sh, nbV, nKV, nNV, n20, n21]
    · show ii (adV 2) = _; simp [ii, nbV, nKV, nNV, n20, n21]
set_option maxHeartbeats 4000000 in
/-- the law from its entry, out of the walking machine's run -/
theorem am_whole (hcl : am_Claim) {p : Program} {e : Env} {s : State} {m : MethodId} {below : List Frame} {meth : Method} {c : Code} (l : Launch) {b L : Nat} {xs : Nat → Int32} (hL : L ≤ 3072) (C0 : lw_At p s m meth c b L xs) : W p l e room_1 s m #[Value.ref b] below meth c s.heap [] 0 0 (lw_Z below #[Value.ref b] s) (entryFrame m ([Value.ref b] : List Value).toArray 4) := by
  obtain ⟨hx, hb, hr, hml, hown, hts, hX, hbl, hlocks, hgv⟩ := C0
  obtain ⟨G, X, D, dA, hXt, hG0, hE⟩ := am_begin hL hts hX hbl hgv
  obtain ⟨n, h9, hrun, hc9, hs9⟩ := hcl G X b L xs hL hE
  have hB : am_B 0 (yL_law, cL_law, 4, (some .boolean), 10, 1, 0) p s m #[Value.ref b] meth c := ⟨rfl, ⟨hx, hb, hown, fun w hw => hts w (List.mem_filter.mp hw).1⟩, hml, hr, hlocks, fun z => absurd z (by decide)⟩
  have ht : am_top X = s.heap.size := by rw [hE.1.1, hG0]
  have hRp : am_Rp G X D dA s.heap X s.heap [] := by
    refine ⟨ht.symm, Nat.le_of_eq hE.1.1.symm, ?_, va_S.rf, Nat.le_of_eq hG0, fun a _ => ⟨rfl, rfl, rfl⟩⟩
    intro k q hq
    rw [am_ws_get, if_neg (by rw [hE.1.1]; omega)] at hq
    cases hq
  rw [lg_entry_eq]
  have hL4 : am_Lr ((lg_sl [Value.ref b] ++ List.replicate (4 - (lg_sl [Value.ref b]).length) Slot.unset).toArray) [some (.ref b), none, none, none] := (am_entry_ok (y := 0) (a := (yL_law, cL_law, 4, (some .boolean), 10, 1, 0)) (vs := [.ref b]) rfl (by show 1 ≤ 4; decide)).1
  have key := am_snd l G X D dA n 1300 0 0 _ [] X (some (.int 1)) h9 hrun p e room_1 s m #[Value.ref b] below meth c _ s.heap [] (lw_Z below #[Value.ref b] s) _ (am_top X) (am_sl X) hB hXt hRp hL4 rfl (by decide) (by decide) (Nat.le_refl _) (Nat.le_refl _) (by rw [hE.1.1]; exact hc9) (by rw [hE.1.2]; exact hs9) ?_
  · rw [Nat.sub_self, Nat.sub_self] at key
    exact key
  · intro pc2 i ls2 st2 H2 locs2 hd hrt hR2
    refine va_forget (fun q hq => by rw [← hG0]; exact hR2.2.2.2.1.2.2 q hq) ?_
    refine W.widen (k := 600000) (n := 7302250) (by rw [hE.1.1]; exact hc9) (by rw [hE.1.2]; exact hs9) ?_
    unfold am_ret at hrt
    split at hrt
    · split at hrt
      · split at hrt
        · cases hrt
        · cases hrt
      · cases hrt
    · split at hrt
      · split at hrt
        · split at hrt
          · cases hrt
            exact lw_ret hx hb hr hlocks hd
          · cases hrt
        · cases hrt
      · cases hrt
    · split at hrt
      · split at hrt
        · cases hrt
        · cases hrt
      · cases hrt
    · split at hrt
      · split at hrt <;> cases hrt
      · split at hrt <;> cases hrt
      · cases hrt
    · cases hrt
