/-! numbers and sets in words of their own -/
theorem mt_64 (x y : Int32) : (x.toInt64 ≤ y.toInt64) ↔ x ≤ y := by rw [Int64.le_iff_toInt_le, Int32.le_iff_toInt_le, Int32.toInt_toInt64, Int32.toInt_toInt64]
/-- how many of the first n bits -/
def mt_on (x : Int32) : Nat → Int32
  | 0 => 0
  | n + 1 => mt_on x n + mt_b x n
def mt_ones (x : Int32) : Int32 := mt_on x 12
/-- a place of a list of c things -/
theorem mt_ix {p : Int32} {c : Nat} (hc : c < 1000000) : (0 ≤ p ∧ p ≤ nI c - 1) ↔ ∃ k, k < c ∧ p = nI k := by
  have h1 : (nI c - 1).toInt = (c : Int) - 1 := by
    cases c with
    | zero => decide
    | succ n => rw [nI_pred, nI_toInt (by omega)]; omega
  rw [Int32.le_iff_toInt_le, Int32.le_iff_toInt_le, h1]
  constructor
  · rintro ⟨a, b⟩
    have a : 0 ≤ p.toInt := a
    refine ⟨p.toInt.toNat, by omega, ?_⟩
    apply Int32.toInt_inj.mp
    rw [nI_toInt (by omega)]
    omega
  · rintro ⟨k, hk, rfl⟩
    rw [nI_toInt (by omega)]
    exact ⟨by show (0 : Int) ≤ _; omega, by omega⟩
/-- the least of n bits from k on; the greatest below k -/
def mt_lo (x : Int32) : Nat → Nat → Int32
  | 0, _ => -1
  | n + 1, k => if bt x k = true then nI k else mt_lo x n (k + 1)
def mt_hi (x : Int32) : Nat → Int32
  | 0 => -1
  | n + 1 => if bt x n = true then nI n else mt_hi x n
def mt_least (x : Int32) : Int32 := mt_lo x 12 0
def mt_great (x : Int32) : Int32 := mt_hi x 12
/-- NONE for -1 -/
def mt_nn (v : Int32) : Int32 := if v = -1 then -1000000005 else v
theorem mt_b0 {x : Int32} {k : Nat} : mt_b x k = 0 ↔ ¬ bt x k = true := by
  unfold mt_b
  by_cases h : bt x k = true
  · rw [if_pos h]; exact iff_of_false (by decide) (fun z => z h)
  · rw [if_neg h]; exact iff_of_true rfl h
theorem mt_b1 {x : Int32} {k : Nat} : mt_b x k = 1 ↔ bt x k = true := by
  unfold mt_b
  by_cases h : bt x k = true
  · rw [if_pos h]; exact iff_of_true rfl h
  · rw [if_neg h]; exact iff_of_false (by decide) h
def mt_every (c : Int32) : Int32 := (1 : Int32) <<< (c &&& 31) - 1
theorem mt_every_bt : ∀ c, c ≤ 12 → ∀ i, i < 32 → bt (mt_every (nI c)) i = decide (i < c) := by decide +kernel
def mt_worth (kind bold : Int32) : Int32 := if kind = 1 then bold + 5 else if kind = 2 then 100 - bold else if kind = 3 then 2 * (bold + 5) else if kind = 4 then 93 - bold else if kind = 5 then 10 * bold else bold
def mt_isOf (own kind : Int32) : Prop := own = kind ∨ kind = 0 ∨ (kind = 1 ∧ own = 3) ∨ (kind = 2 ∧ own = 4)
def mt_held (v most : Int32) : Int32 := if v < 0 then 0 else if most < v then most else v
