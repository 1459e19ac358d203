/-! the reference: what the texts rule: costs, who may be named, choices, rounds -/
def mt_wfP (σ : Nat → Int32) (n : Nat) : Prop := ∀ p, p < n → (∃ k, k < 6 ∧ σ (6 + 5 * p + 0) = nI k) ∧ (∀ i, n ≤ i → i < 32 → bt (mt_T σ p) i = false) ∧ (∀ i, n ≤ i → i < 32 → bt (σ (6 + 5 * p + 3)) i = false) ∧ ∀ q, q < n → bt (σ (6 + 5 * p + 3)) q = bt (σ (6 + 5 * q + 3)) p
def mt_wfD (σ : Nat → Int32) (nd : Nat) : Prop := ∀ q, q < nd → (∃ k, k < 24 ∧ σ (66 + 6 * q + 1) = nI k) ∧ ∀ i, 12 ≤ i → i < 32 → bt (σ (66 + 6 * q + 3)) i = false
def mt_wfT (σ : Nat → Int32) (nt : Nat) : Prop := ∀ t, t < nt → ∃ key L, mt_txt σ t key L
def mt_wf (σ : Nat → Int32) (n nd nt : Nat) : Prop := ((σ 0 = nI n ∧ n ≤ 12) ∧ (σ 1 = nI nd ∧ nd ≤ 8) ∧ (σ 2 = nI nt ∧ nt ≤ 14)) ∧ mt_wfP σ n ∧ mt_wfD σ nd ∧ mt_wfT σ nt
theorem mt_wf.ok {σ : Nat → Int32} {n nd nt : Nat} (hs : mt_wf σ n nd nt) : mt_ok σ n nd := ⟨hs.1.1, hs.1.2.1, fun p hp i hi hi2 => (hs.2.1 p hp).2.1 i (by have := hs.1.1.2; omega) hi2⟩
def mt_nm (key : Nat) (a b c : Int32) : Nat → Int32 := fun x => if x = mt_nc key 0 then a else if x = mt_nc key 1 then b else c
/-- what the text of a key gives, if there is one -/
def mt_law (σ : Nat → Int32) (nt key : Nat) (a b c : Int32) : Option Int32 := if mt_last σ (nI key) nt = -1 then none else some (mt_val σ (mt_last σ (nI key) nt).toNatClampNeg (σ (114 + 200 * (mt_last σ (nI key) nt).toNatClampNeg + 2)).toNatClampNeg (mt_nm key a b c))
def mt_cost (σ : Nat → Int32) (nt p : Nat) : Int32 := match mt_law σ nt 1 (σ (66 + 6 * p + 5)) (σ (66 + 6 * p + 2)) (mt_ones (mt_left σ p)) with
  | none => σ (66 + 6 * p + 5) * σ (66 + 6 * p + 2)
  | some v => mt_held v 99999
def mt_bold (σ : Nat → Int32) (nt q p : Nat) : Int32 := match mt_law σ nt 2 (σ (6 + 5 * q + 1)) (nI q) (mt_ones (mt_left σ p)) with
  | none => σ (6 + 5 * q + 1)
  | some v => mt_held v 100
noncomputable def mt_may (σ : Nat → Int32) (n nt : Nat) (s p q : Nat) : Bool := bt (mt_left σ p) q && !decide (mt_ones (mt_left σ p &&& (mt_go σ n q ^^^ (-1))) < σ 3) && !decide (mt_law σ nt 0 (nI s) (nI q) (σ (66 + 6 * p + 2)) = some 0)
noncomputable def mt_lie (σ : Nat → Int32) (n p q : Nat) : Bool := !decide (mt_go σ n q &&& σ (66 + 6 * p + 0) = 0)
noncomputable def mt_mays (σ : Nat → Int32) (n nt s p : Nat) (k : Nat) : Int32 := mt_sN (fun q => mt_may σ n nt s p q) k
noncomputable def mt_lies (σ : Nat → Int32) (n nt s p : Nat) (k : Nat) : Int32 := mt_sN (fun q => mt_may σ n nt s p q && mt_lie σ n p q) k
def mt_pick (kind fr bold wt may lies : Int32) : Int32 := if kind = 1 then mt_least (may &&& (lies ^^^ (-1))) else if kind = 2 then mt_least (if may &&& fr = 0 then may else may &&& fr) else if kind = 3 then mt_great (may &&& (lies ^^^ (-1))) else if kind = 4 then (if bold < wt then -1 else mt_least (if may &&& fr = 0 then may else may &&& fr)) else if kind = 5 then mt_least (if lies = 0 then may else lies) else mt_least may
noncomputable def mt_choice (σ : Nat → Int32) (n nt s p : Nat) : Int32 := mt_pick (σ (6 + 5 * s + 0)) (σ (6 + 5 * s + 3)) (σ (6 + 5 * s + 1)) (σ (66 + 6 * p + 2)) (mt_mays σ n nt s p n) (mt_lies σ n nt s p n)
theorem mt_lo_in (x : Int32) : ∀ n k, k + n = 12 → mt_lo x n k = -1 ∨ ∃ i, k ≤ i ∧ i < 12 ∧ bt x i = true ∧ mt_lo x n k = nI i := by
  intro n
  induction n with
  | zero => intro k _; exact Or.inl rfl
  | succ n ih =>
    intro k hk
    rw [mt_lo]
    by_cases hb : bt x k = true
    · rw [if_pos hb]; exact Or.inr ⟨k, Nat.le_refl _, by omega, hb, rfl⟩
    · rw [if_neg hb]
      rcases ih (k + 1) (by omega) with h | ⟨i, h1, h2, h3, h4⟩
      · exact Or.inl h
      · exact Or.inr ⟨i, by omega, h2, h3, h4⟩
theorem mt_hi_in (x : Int32) : ∀ n, n ≤ 12 → mt_hi x n = -1 ∨ ∃ i, i < n ∧ bt x i = true ∧ mt_hi x n = nI i := by
  intro n
  induction n with
  | zero => intro _; exact Or.inl rfl
  | succ n ih =>
    intro hn
    rw [mt_hi]
    by_cases hb : bt x n = true
    · rw [if_pos hb]; exact Or.inr ⟨n, by omega, hb, rfl⟩
    · rw [if_neg hb]
      rcases ih (by omega) with h | ⟨i, h2, h3, h4⟩
      · exact Or.inl h
      · exact Or.inr ⟨i, by omega, h3, h4⟩
theorem mt_least_in (x : Int32) : mt_least x = -1 ∨ ∃ i, i < 12 ∧ bt x i = true ∧ mt_least x = nI i := by
  rcases mt_lo_in x 12 0 rfl with h | ⟨i, _, h2, h3, h4⟩
  · exact Or.inl h
  · exact Or.inr ⟨i, h2, h3, h4⟩
theorem mt_great_in (x : Int32) : mt_great x = -1 ∨ ∃ i, i < 12 ∧ bt x i = true ∧ mt_great x = nI i := mt_hi_in x 12 (Nat.le_refl _)
/-- a choice is nobody, or one who may be named -/
theorem mt_pick_in {kind fr bold wt may lies : Int32} (hl : ∀ i, i < 32 → bt lies i = true → bt may i = true) : mt_pick kind fr bold wt may lies = -1 ∨ ∃ i, i < 12 ∧ bt may i = true ∧ mt_pick kind fr bold wt may lies = nI i := by
  have hL : ∀ x, (∀ i, i < 32 → bt x i = true → bt may i = true) → mt_least x = -1 ∨ ∃ i, i < 12 ∧ bt may i = true ∧ mt_least x = nI i := fun x hx => (mt_least_in x).imp id (fun ⟨i, h1, h2, h3⟩ => ⟨i, h1, hx i (by omega) h2, h3⟩)
  have hG : ∀ x, (∀ i, i < 32 → bt x i = true → bt may i = true) → mt_great x = -1 ∨ ∃ i, i < 12 ∧ bt may i = true ∧ mt_great x = nI i := fun x hx => (mt_great_in x).imp id (fun ⟨i, h1, h2, h3⟩ => ⟨i, h1, hx i (by omega) h2, h3⟩)
  have h1 : ∀ i, i < 32 → bt (may &&& (lies ^^^ (-1))) i = true → bt may i = true := fun i _ hb => by rw [b_and, Bool.and_eq_true] at hb; exact hb.1
  have h2 : ∀ i, i < 32 → bt (if may &&& fr = 0 then may else may &&& fr) i = true → bt may i = true := fun i _ hb => by
    split at hb
    · exact hb
    · rw [b_and, Bool.and_eq_true] at hb; exact hb.1
  have h3 : ∀ i, i < 32 → bt (if lies = 0 then may else lies) i = true → bt may i = true := fun i hi hb => by
    split at hb
    · exact hb
    · exact hl i hi hb
  unfold mt_pick
  split
  · exact hL _ h1
  split
  · exact hL _ h2
  split
  · exact hG _ h1
  split
  · split
    · exact Or.inl rfl
    · exact hL _ h2
  split
  · exact hL _ h3
  · exact hL _ (fun _ _ z => z)
theorem mt_choice_in {σ : Nat → Int32} {n nt s p : Nat} (hn : n ≤ 12) : mt_choice σ n nt s p = -1 ∨ ∃ i, i < n ∧ mt_choice σ n nt s p = nI i := by
  unfold mt_choice
  rcases mt_pick_in (kind := σ (6 + 5 * s + 0)) (fr := σ (6 + 5 * s + 3)) (bold := σ (6 + 5 * s + 1)) (wt := σ (66 + 6 * p + 2)) (may := mt_mays σ n nt s p n) (lies := mt_lies σ n nt s p n) (fun i hi hb => by
    unfold mt_lies at hb; unfold mt_mays
    rw [mt_sN_bt n (by omega) i hi] at hb ⊢
    simp only [Bool.and_eq_true] at hb ⊢
    exact ⟨hb.1, hb.2.1⟩) with h | ⟨i, h1, h2, h3⟩
  · exact Or.inl h
  · refine Or.inr ⟨i, ?_, h3⟩
    unfold mt_mays at h2
    rw [mt_sN_bt n (by omega) i (by omega), Bool.and_eq_true] at h2
    exact of_decide_eq_true h2.1
noncomputable def mt_says (σ : Nat → Int32) (n p q : Nat) : Nat → Int32 := upd (upd (upd σ (66 + 6 * p + 3) (σ (66 + 6 * p + 3) ||| mt_go σ n q)) (66 + 6 * p + 4) (σ (66 + 6 * p + 4) + 1)) (66 + 6 * p + 5) (σ (66 + 6 * p + 5) + (if mt_lie σ n p q = true then 1 else 0))
theorem am_fr.i1 {S : Nat → Prop} {h h2 : am_H} {b : Nat} (f : am_fr S h h2) (hb : ¬ S b) : am_i h2 b = am_i h b := f.2.2.2.2 b hb
def cm_N (m : Nat) : Nat → Prop := fun b => b = m + 14 ∨ b = m + 15
theorem cm_N1 {m k : Nat} (h1 : k < 14 ∨ 15 < k) : ¬ cm_N m (m + k) := by rintro (h | h) <;> omega
section CZ
variable {G : Nat → Nat} {d : Nat} {h : am_H} {m : Nat} {σ : Nat → Int32} {n nd nt : Nat}
theorem m_left3 (l : cm_Lay G h m) (hσ : am_i h (m + 1) = σ) {p : Nat} (hp : p < 8) : am_evm G (d + 1) 142 [.ref m, .int (nI p)] h = some (some (.int (mt_left σ p)), h) := by subst hσ; exact m_left2 l hp
theorem m_goBy3 (l : cm_Lay G h m) (hσ : am_i h (m + 1) = σ) (hs : mt_wf σ n nd nt) {p : Nat} (hp : p < n) : am_evm G (d + 2) 148 [.ref m, .int (nI p)] h = some (some (.int (mt_go σ n p)), h) := by subst hσ; exact m_goBy2 l hs.ok hp
theorem m_counts3 (l : cm_Lay G h m) (hσ : am_i h (m + 1) = σ) (hs : mt_wf σ n nd nt) {key : Int32} : am_evm G (d + 1) 204 [.ref m, .int key] h = some (some (.int (mt_last σ key nt)), h) := by subst hσ; exact m_counts l hs.1.2.2.1 hs.1.2.2.2
theorem m_of3 (l : cm_Lay G h m) (hσ : am_i h (m + 1) = σ) {p j : Nat} (hj : 6 + 5 * p + j < 3114) : am_evm G d 136 [.ref m, .int (nI p), .int (nI j)] h = some (some (.int (σ (6 + 5 * p + j))), h) := by subst hσ; exact m_of l hj
theorem m_dee3 (l : cm_Lay G h m) (hσ : am_i h (m + 1) = σ) {p j : Nat} (hj : 66 + 6 * p + j < 3114) : am_evm G d 137 [.ref m, .int (nI p), .int (nI j)] h = some (some (.int (σ (66 + 6 * p + j))), h) := by subst hσ; exact m_dee l hj
/-- a text that counts, with its three names told -/
theorem m_law (l : cm_Lay G h m) (hσ : am_i h (m + 1) = σ) (hs : mt_wf σ n nd nt) {key : Nat} {a b c : Int32} {k : Nat} (hk : k < nt) (hl : mt_last σ (nI key) nt = nI k) (hkey : σ (114 + 200 * k) = nI key) (hk3 : key < 3) (ha : am_i h (m + 14) (mt_nc key 0) = a) (hb : am_i h (m + 14) (mt_nc key 1) = b) (hc : am_i h (m + 14) (mt_nc key 2) = c) : ∃ v h2, mt_law σ nt key a b c = some v ∧ am_evm G (d + 1) 207 [.ref m, .int (nI k)] h = some (some (.int v), h2) ∧ am_fr (fun b => b = m + 15) h h2 := by
  obtain ⟨key2, L, hx⟩ := hs.2.2.2 k hk
  have hnt := hs.1.2.2.2
  have hke : key2 = key := by
    have := hx.1.1
    rw [hkey] at this
    exact ((nI_eq (by omega) (by have := hx.1.2; omega)).mp this).symm
  subst hke
  subst hσ
  have hne : ¬ nI k = -1 := by
    intro z
    have := nI_pos' (n := k) (by omega)
    rw [z] at this
    exact absurd this (by decide)
  obtain ⟨P2, hP⟩ := m_worked (d := d) (nm := mt_nm key2 a b c) l (show k < 14 by omega) hx (fun i hi => by
    unfold mt_nm
    have hd1 : mt_nc key2 1 ≠ mt_nc key2 0 := by unfold mt_nc; (repeat' split) <;> first | decide | omega
    have hd2 : mt_nc key2 2 ≠ mt_nc key2 0 := by unfold mt_nc; (repeat' split) <;> first | decide | omega
    have hd3 : mt_nc key2 2 ≠ mt_nc key2 1 := by unfold mt_nc; (repeat' split) <;> first | decide | omega
    rcases (show i = 0 ∨ i = 1 ∨ i = 2 by omega) with rfl | rfl | rfl
    · rw [if_pos rfl, ha]
    · rw [if_neg hd1, if_pos rfl, hb]
    · rw [if_neg hd2, if_neg hd3, hc])
  refine ⟨_, _, ?_, hP, am_fr.pa rfl⟩
  unfold mt_law
  rw [hl, if_neg hne, am_cl (show k < 2147483648 by omega), hx.2.1.1, am_cl (show L < 2147483648 by have := hx.2.1.2; omega)]
end CZ
