/-! the walking machine is right, 2: the memory as a list of cells -/
def am_WS : List Cond := lw_tbl.filter goodWord
theorem am_in {w : Cond} (h : w ∈ lw_tbl) (hg : goodWord w = true) : w ∈ am_WS := List.mem_filter.mpr ⟨h, hg⟩
theorem am_vw {ci : Nat} (h : ci < 10) : vwCl[ci]? = some (am_cs ci, am_T ci, am_N ci) := by
  match ci, h with
  | 0, _ => rfl
  | 1, _ => rfl
  | 2, _ => rfl
  | 3, _ => rfl
  | 4, _ => rfl
  | 5, _ => rfl
  | 6, _ => rfl
  | 7, _ => rfl
  | 8, _ => rfl
  | 9, _ => rfl
theorem am_lays {ci : Nat} (h : ci < 10) : ∀ w ∈ u_ws (am_cs ci) (am_T ci) (am_N ci), w ∈ am_WS := by
  have key : ∀ ci, ci < 10 → ∀ k, k < am_N ci → ∃ q, (ci, k, q) ∈ am_lyT := by
    intro ci hci k hk
    have h1 : (List.range 10).all (fun ci => (List.range (am_N ci)).all (fun k => am_lyT.any (fun q => q.1 == ci && q.2.1 == k))) = true := by decide +kernel
    have h2 := List.all_eq_true.mp (List.all_eq_true.mp h1 ci (List.mem_range.mpr hci)) k (List.mem_range.mpr hk)
    obtain ⟨q, hq, hq2⟩ := List.any_eq_true.mp h2
    simp only [Bool.and_eq_true, beq_iff_eq] at hq2
    obtain ⟨e1, e2⟩ := hq2
    obtain ⟨x, y, z⟩ := q
    subst e1; subst e2
    exact ⟨z, hq⟩
  intro w hw
  unfold u_ws at hw
  obtain ⟨k, hk, rfl⟩ := List.mem_map.mp hw
  obtain ⟨q, hq⟩ := key ci h k (List.mem_range.mp hk)
  have h1 := List.all_eq_true.mp am_lyT_ok _ hq
  refine am_in (am_at_in h1) ?_
  unfold u_lay
  split <;> rfl
theorem am_names {ci : Nat} (h : ci < 10) : ∀ a, a < am_N ci → ∀ b, b < am_N ci → a ≠ b → (am_T ci a).2.1 ≠ (am_T ci b).2.1 := by
  match ci, h with
  | 0, _ => exact nmX0
  | 1, _ => exact nmX1
  | 2, _ => exact nmX2
  | 3, _ => exact nmX3
  | 4, _ => exact nmX4
  | 5, _ => exact nmX5
  | 6, _ => exact nmX6
  | 7, _ => exact nmX7
  | 8, _ => exact nmX8
  | 9, _ => exact nmX9
theorem am_tyok {ci : Nat} (h : ci < 10) : ∀ k, k < am_N ci → parseFieldDescriptor (am_T ci k).2.2.1 = some (am_ty ci k) := by
  match ci, h with
  | 0, _ => exact tyX0_ok
  | 1, _ => exact tyX1_ok
  | 2, _ => exact tyX2_ok
  | 3, _ => exact tyX3_ok
  | 4, _ => exact tyX4_ok
  | 5, _ => exact tyX5_ok
  | 6, _ => exact tyX6_ok
  | 7, _ => exact tyX7_ok
  | 8, _ => exact tyX8_ok
  | 9, _ => exact tyX9_ok
def am_aty (k : Nat) : FieldType := match k with
  | 0 => .int
  | 1 => .byte
  | 2 => .object RX2
  | 3 => .object RX0
  | 4 => .object RX7
  | 5 => .object RX4
  | _ => .object RX5
def am_tys (dA : Nat → ClassId) : List (ClassId × FieldType) := [(dA 0, .int), (dA 1, .byte), (dA 2, .object RX2), (dA 3, .object RX0), (dA 4, .object RX7), (dA 5, .object RX4), (dA 6, .object RX5)]
def am_fs (h : am_H) (a ci : Nat) : List Value := (List.range (am_N ci)).map (am_fv h a ci)
def am_cell (dA : Nat → ClassId) (h : am_H) (a : Nat) : va_E := if (am_sh h a).1 < 10 then .inr ((am_sh h a).1, am_fs h a (am_sh h a).1) else if (am_sh h a).1 < 22 then .inl (dA ((am_sh h a).1 - 20), (am_sh h a).2, .inl (am_i h a)) else .inl (dA ((am_sh h a).1 - 20), (am_sh h a).2, .inr (.inr (.inr (.inr (am_r h a)))))
def am_ws (B : Nat) (dA : Nat → ClassId) (h : am_H) : va_W := (List.range (am_top h - B)).map (fun i => (B + i, am_cell dA h (B + i)))
theorem am_ws_get {B : Nat} {dA : Nat → ClassId} {h : am_H} (i : Nat) : (am_ws B dA h)[i]? = if i < am_top h - B then some (B + i, am_cell dA h (B + i)) else none := by
  unfold am_ws
  rw [List.getElem?_map]
  by_cases hi : i < am_top h - B
  · rw [List.getElem?_range hi, if_pos hi]; rfl
  · rw [if_neg hi, List.getElem?_eq_none (by rw [List.length_range]; omega)]; rfl
theorem am_ws_at {B : Nat} {dA : Nat → ClassId} {h : am_H} {a : Nat} (h1 : B ≤ a) (h2 : a < am_top h) : (am_ws B dA h)[a - B]? = some (a, am_cell dA h a) := by
  rw [am_ws_get, if_pos (by omega), show B + (a - B) = a by omega]
theorem am_ws_len {B : Nat} {dA : Nat → ClassId} {h : am_H} : (am_ws B dA h).length = am_top h - B := by simp [am_ws]
theorem am_ws_D {B : Nat} {dA : Nat → ClassId} {h : am_H} : va_D (fun q => B ≤ q) (am_ws B dA h) := by
  constructor
  · intro i j p q hp hq hpq
    rw [am_ws_get] at hp hq
    split at hp
    · split at hq
      · cases hp; cases hq
        simp only at hpq
        omega
      · cases hq
    · cases hp
  · intro k q hq
    rw [am_ws_get] at hq
    split at hq
    · cases hq
      show B ≤ B + k
      omega
    · cases hq
theorem am_cell_eq {dA : Nat → ClassId} {h h2 : am_H} {a : Nat} (h1 : am_sh h2 a = am_sh h a) (h3 : am_i h2 a = am_i h a) (h4 : am_r h2 a = am_r h a) : am_cell dA h2 a = am_cell dA h a := by
  have hf : ∀ ci, am_fs h2 a ci = am_fs h a ci := by
    intro ci
    unfold am_fs
    congr 1
    funext k
    unfold am_fv
    rw [h3, h4]
  unfold am_cell
  rw [h1, h3, h4, hf]
theorem am_ws_set {B : Nat} {dA : Nat → ClassId} {h h2 : am_H} {a : Nat} (h1 : B ≤ a) (ht : am_top h2 = am_top h) (ho : ∀ b, b ≠ a → am_cell dA h2 b = am_cell dA h b) : (am_ws B dA h).set (a - B) (a, am_cell dA h2 a) = am_ws B dA h2 := by
  apply List.ext_getElem?
  intro i
  rw [List.getElem?_set, am_ws_get, am_ws_get, am_ws_len, ht]
  by_cases hi : i < am_top h - B
  · rw [if_pos hi, if_pos hi]
    by_cases he : a - B = i
    · rw [if_pos he, if_pos (by omega), show B + i = a by omega]
    · rw [if_neg he, ho _ (by omega)]
  · rw [if_neg hi, if_neg hi]
    split
    · rw [if_neg (by omega)]
    · rfl
theorem am_ws_push {B : Nat} {dA : Nat → ClassId} {h h2 : am_H} (h1 : B ≤ am_top h) (ht : am_top h2 = am_top h + 1) (ho : ∀ b, b < am_top h → am_cell dA h2 b = am_cell dA h b) : am_ws B dA h ++ [(am_top h, am_cell dA h2 (am_top h))] = am_ws B dA h2 := by
  apply List.ext_getElem?
  intro i
  by_cases hi : i < am_top h - B
  · rw [List.getElem?_append_left (by rw [am_ws_len]; exact hi), am_ws_get, am_ws_get, if_pos hi, if_pos (by omega), ho _ (by omega)]
  · rw [List.getElem?_append_right (by rw [am_ws_len]; omega), am_ws_len, am_ws_get]
    by_cases he : i = am_top h - B
    · subst he
      rw [if_pos (by omega), show B + (am_top h - B) = am_top h by omega]
      simp
    · rw [if_neg (by omega), List.getElem?_eq_none (by simp; omega)]
/-- what the tables say of private links within a nest -/
def am_Nst (s : State) : Prop := (∀ q ∈ am_mlT, q.2.2.1.2 ≠ 0 → va_Nw (.methodLinkNest (am_cs q.1) q.2.1 (am_nm q.2.2.1.1) "NeverSaid") s) ∧ va_Nw (.fieldLinkNest "NeverSaid$Person" 34 "NeverSaid" "KIND_ABOVE" "[I" "NeverSaid") s ∧ va_Nw (.fieldLinkNest "NeverSaid$Reader" 144 "NeverSaid" "NAMES" "[C" "NeverSaid") s
def am_fmt (G : Nat → Nat) : Value := va_rf (if G 6 = 0 then none else some (G 6 - 1))
/-- what lies below: rows that are read alone, constants of text, statics -/
def am_Xr (G : Nat → Nat) (X : am_H) (A : Nat → Prop) (s : State) (H : Heap) : Prop := ∀ a, a < G 0 →
  ((am_sh X a).1 = 30 → va_T .int a (am_sh X a).2 (fun j => .int (am_i X a j)) A s H) ∧ ((am_sh X a).1 = 31 → va_T .char a (am_sh X a).2 (fun j => .int (am_i X a j)) A s H) ∧ ((am_sh X a).1 = 32 → va_T .byte a (am_sh X a).2 (fun j => .int (am_i X a j)) A s H)
def am_Xw (G : Nat → Nat) (A : Nat → Prop) (s : State) (H : Heap) : Prop := ∀ a w, am_str G a = some w → va_O "java/lang/String" a A s H ∧ va_OF "java/lang/String" "coder" "B" (.int 0) a A s H ∧ va_OF "java/lang/String" "value" "[B" (.ref w) a A s H
def am_Xs (G : Nat → Nat) (A : Nat → Prop) (s : State) (H : Heap) : Prop := va_Z "NeverSaid" "KIND_ABOVE" "[I" (.ref (G 1)) A s H ∧ va_Z "NeverSaid" "NAMES" "[C" (.ref (G 2)) A s H ∧ va_Z "java/lang/String" "COMPACT_STRINGS" "Z" (.int 1) A s H ∧ va_Z "jdk/internal/util/Preconditions" "SIOOBE_FORMATTER" "Ljava/util/function/BiFunction;" (am_fmt G) A s H
def am_Xk (G : Nat → Nat) (s : State) : Prop := vk_R "NeverSaid$Reader" 97 "may" (G 3) s ∧ vk_R "NeverSaid$Reader" 103 "cost" (G 4) s ∧ vk_R "NeverSaid$Reader" 105 "bold" (G 5) s
def am_Xo (s : State) : Prop := va_AO RX2 s ∧ va_AO RX0 s ∧ va_AO RX7 s ∧ va_AO RX4 s ∧ va_AO RX5 s
def am_Xt (G : Nat → Nat) (X : am_H) (D : va_G) (dA : Nat → ClassId) (s : State) (H : Heap) : Prop := (am_Xr G X (fun q => G 0 ≤ q) s H ∧ am_Xw G (fun q => G 0 ≤ q) s H) ∧ am_Xs G (fun q => G 0 ≤ q) s H ∧ am_Xk G s ∧ am_Xo s ∧ am_Nst s ∧ va_K D vwCl (am_tys dA) s
theorem am_Xt.warm {G : Nat → Nat} {X : am_H} {D : va_G} {dA : Nat → ClassId} {s U : State} {H0 H : Heap} {locs : List Loc} (h : am_Xt G X D dA s H0) (hW : s.WarmedH U.vm) (hS : va_S (fun q => G 0 ≤ q) H0 H locs) : am_Xt G X D dA U H := by
  obtain ⟨h1, h2, h3, h4, h5, h6⟩ := h
  have hk := hS.2.1
  refine ⟨⟨fun a ha => ?_, fun a w hw => ?_⟩, ?_, ?_, ?_, ?_, va_K.moved hW.alike h6⟩
  · obtain ⟨a1, a2, a3⟩ := h1.1 a ha
    exact ⟨fun z => ((a1 z).kept hk).moved hW.alike, fun z => ((a2 z).kept hk).moved hW.alike, fun z => ((a3 z).kept hk).moved hW.alike⟩
  · obtain ⟨b1, b2, b3⟩ := h1.2 a w hw
    exact ⟨(b1.kept hk).moved hW.alike, (b2.kept hk).moved hW.alike, (b3.kept hk).moved hW.alike⟩
  · obtain ⟨a1, a2, a3, a4⟩ := h2
    exact ⟨(a1.kept hk).moved hW.alike, (a2.kept hk).moved hW.alike, (a3.kept hk).moved hW.alike, (a4.kept hk).moved hW.alike⟩
  · obtain ⟨a1, a2, a3⟩ := h3
    exact ⟨a1.warm hW, a2.warm hW, a3.warm hW⟩
  · obtain ⟨a1, a2, a3, a4, a5⟩ := h4
    exact ⟨a1.moved hW.alike, a2.moved hW.alike, a3.moved hW.alike, a4.moved hW.alike, a5.moved hW.alike⟩
  · obtain ⟨a1, a2, a3⟩ := h5
    exact ⟨fun q hq hz => va_Nw.warmM hW (a1 q hq hz), va_Nw.warmF hW a2, va_Nw.warmF hW a3⟩
/-- the same tables and cells (a call's own frame apart) -/
theorem am_Xt.same {G : Nat → Nat} {X : am_H} {D : va_G} {dA : Nat → ClassId} {s U : State} {H : Heap} (h : am_Xt G X D dA s H) (hv : s.vm = U.vm) : am_Xt G X D dA U H := by
  have ha : s.vm.Alike U.vm := hv ▸ Vm.Alike.refl s.vm
  obtain ⟨h1, h2, h3, h4, h5, h6⟩ := h
  refine ⟨⟨fun a hl => ?_, fun a w hw => ?_⟩, ?_, ?_, ?_, ?_, va_K.moved ha h6⟩
  · obtain ⟨a1, a2, a3⟩ := h1.1 a hl
    exact ⟨fun z => (a1 z).moved ha, fun z => (a2 z).moved ha, fun z => (a3 z).moved ha⟩
  · obtain ⟨b1, b2, b3⟩ := h1.2 a w hw
    exact ⟨b1.moved ha, b2.moved ha, b3.moved ha⟩
  · obtain ⟨a1, a2, a3, a4⟩ := h2
    exact ⟨a1.moved ha, a2.moved ha, a3.moved ha, a4.moved ha⟩
  · obtain ⟨a1, a2, a3⟩ := h3
    exact ⟨a1.same hv.symm, a2.same hv.symm, a3.same hv.symm⟩
  · obtain ⟨a1, a2, a3, a4, a5⟩ := h4
    exact ⟨a1.moved ha, a2.moved ha, a3.moved ha, a4.moved ha, a5.moved ha⟩
  · obtain ⟨a1, a2, a3⟩ := h5
    exact ⟨fun q hq hz => (a1 q hq hz).same rfl hv, a2.same rfl hv, a3.same rfl hv⟩
def am_low (G : Nat → Nat) (X h : am_H) : Prop := ∀ a, a < G 0 → am_sh h a = am_sh X a ∧ am_i h a = am_i X a ∧ am_r h a = am_r X a
def am_Rp (G : Nat → Nat) (X : am_H) (D : va_G) (dA : Nat → ClassId) (H0 : Heap) (h : am_H) (H : Heap) (locs : List Loc) : Prop := H.size = am_top h ∧ G 0 ≤ am_top h ∧ va_P D vwCl (am_ws (G 0) dA h) H ∧ va_S (fun q => G 0 ≤ q) H0 H locs ∧ G 0 ≤ H0.size ∧ am_low G X h
