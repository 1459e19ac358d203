/-! who follows from whom -/
def mt_R (T : Nat → Int32) (n : Nat) : Nat → Nat → Nat → Prop
  | 0, p, k => bt (T p) k = true
  | i + 1, p, k => ∃ q, q < n ∧ mt_R T n i p q ∧ bt (T q) k = true
def mt_reach (T : Nat → Int32) (n p k : Nat) : Prop := ∃ i, mt_R T n i p k
/-- by way of those below m alone -/
def mt_W (T : Nat → Int32) : Nat → Nat → Nat → Prop
  | 0, p, k => bt (T p) k = true
  | m + 1, p, k => mt_W T m p k ∨ (mt_W T m p m ∧ mt_W T m m k)
theorem mt_W_tr {T : Nat → Int32} : ∀ (m q p k : Nat), q < m → mt_W T m p q → mt_W T m q k → mt_W T m p k := by
  intro m
  induction m with
  | zero => intro q p k hq; omega
  | succ m ih =>
    intro q p k hq h1 h2
    by_cases he : q = m
    · subst he
      have a1 : mt_W T q p q := h1.elim id (fun z => z.1)
      have a2 : mt_W T q q k := h2.elim id (fun z => z.2)
      exact Or.inr ⟨a1, a2⟩
    · have hq : q < m := by omega
      rcases h1 with h1 | ⟨h1, h1'⟩ <;> rcases h2 with h2 | ⟨h2, h2'⟩
      · exact Or.inl (ih q p k hq h1 h2)
      · exact Or.inr ⟨ih q p m hq h1 h2, h2'⟩
      · exact Or.inr ⟨h1, ih q m k hq h1' h2⟩
      · exact Or.inr ⟨h1, h2'⟩
theorem mt_W_le {T : Nat → Int32} {p k : Nat} : ∀ m, bt (T p) k = true → mt_W T m p k := by
  intro m h
  induction m with
  | zero => exact h
  | succ m ih => exact Or.inl ih
theorem mt_R_cat {T : Nat → Int32} {n : Nat} : ∀ (j i p q k : Nat), q < n → mt_R T n i p q → mt_R T n j q k → mt_reach T n p k := by
  intro j
  induction j with
  | zero => intro i p q k hq h1 h2; exact ⟨i + 1, q, hq, h1, h2⟩
  | succ j ih =>
    intro i p q k hq h1 h2
    obtain ⟨w, hw, h3, h4⟩ := h2
    obtain ⟨i2, h5⟩ := ih i p q w hq h1 h3
    exact ⟨i2 + 1, w, hw, h5, h4⟩
theorem mt_reach_W {T : Nat → Int32} {n p k : Nat} : mt_reach T n p k ↔ mt_W T n p k := by
  constructor
  · rintro ⟨i, hi⟩
    induction i generalizing k with
    | zero => exact mt_W_le n hi
    | succ i ih =>
      obtain ⟨q, hq, h1, h2⟩ := hi
      exact mt_W_tr n q p k hq (ih h1) (mt_W_le n h2)
  · have key : ∀ m, m ≤ n → ∀ p k, mt_W T m p k → mt_reach T n p k := by
      intro m
      induction m with
      | zero => intro _ p k h; exact ⟨0, h⟩
      | succ m ih =>
        intro hm p k h
        rcases h with h | ⟨h1, h2⟩
        · exact ih (by omega) p k h
        · obtain ⟨i, hi⟩ := ih (by omega) p m h1
          obtain ⟨j, hj⟩ := ih (by omega) m k h2
          exact mt_R_cat j i p m k (by omega) hi hj
    exact key n (Nat.le_refl n) p k
/-- a set out of a property -/
def mt_sN (f : Nat → Bool) : Nat → Int32
  | 0 => 0
  | n + 1 => mt_sN f n ||| (if f n = true then (1 : Int32) <<< (nI n &&& 31) else 0)
theorem mt_sN_bt {f : Nat → Bool} : ∀ n, n ≤ 32 → ∀ i, i < 32 → bt (mt_sN f n) i = (decide (i < n) && f i) := by
  intro n
  induction n with
  | zero => intro _ i hi; simp [mt_sN, b_0]
  | succ n ih =>
    intro hn i hi
    rw [mt_sN, b_or, ih (by omega) i hi]
    by_cases hf : f n = true
    · rw [if_pos hf, mt_one (by omega) hi]
      by_cases he : i = n
      · subst he; simp [hf]
      · have : (i < n + 1) ↔ i < n := by omega
        simp [he, this]
    · rw [if_neg hf, b_0]
      by_cases he : i = n
      · subst he; simp [hf]
      · have : (i < n + 1) ↔ i < n := by omega
        simp [this]
noncomputable def mt_set (P : Nat → Prop) : Int32 := mt_sN (fun k => @decide (P k) (Classical.propDecidable _)) 32
theorem mt_set_bt {P : Nat → Prop} {i : Nat} (hi : i < 32) : bt (mt_set P) i = true ↔ P i := by
  unfold mt_set
  rw [mt_sN_bt 32 (Nat.le_refl _) i hi]
  simp [hi]
theorem mt_set_eq {P : Nat → Prop} {x : Int32} (h : ∀ i, i < 32 → (bt x i = true ↔ P i)) : x = mt_set P := by
  apply b_ext
  intro i hi
  have h1 := h i hi
  have h2 := mt_set_bt (P := P) hi
  by_cases hp : P i
  · rw [h1.mpr hp, h2.mpr hp]
  · have a1 : bt x i = false := by simpa using fun z => hp (h1.mp z)
    have a2 : bt (mt_set P) i = false := by simpa using fun z => hp (h2.mp z)
    rw [a1, a2]
noncomputable def mt_fol (T : Nat → Int32) (n p : Nat) : Int32 := mt_set (mt_reach T n p)
/-- one step of the reference's search -/
def mt_stp (T : Nat → Int32) (S : Int32) : Nat → Int32 → Int32
  | 0, x => x
  | n + 1, x => mt_stp T S n x ||| (if bt S n = true then T n else 0)
theorem mt_stp_bt {T : Nat → Int32} {S : Int32} : ∀ n x i, bt (mt_stp T S n x) i = true ↔ (bt x i = true ∨ ∃ q, q < n ∧ bt S q = true ∧ bt (T q) i = true) := by
  intro n
  induction n with
  | zero => intro x i; simp [mt_stp]
  | succ n ih =>
    intro x i
    rw [mt_stp, b_or, Bool.or_eq_true, ih]
    constructor
    · rintro ((h | ⟨q, hq, h1, h2⟩) | h)
      · exact Or.inl h
      · exact Or.inr ⟨q, by omega, h1, h2⟩
      · by_cases hs : bt S n = true
        · rw [if_pos hs] at h; exact Or.inr ⟨n, by omega, hs, h⟩
        · rw [if_neg hs, b_0] at h; cases h
    · rintro (h | ⟨q, hq, h1, h2⟩)
      · exact Or.inl (Or.inl h)
      · by_cases he : q = n
        · subst he; right; rw [if_pos h1]; exact h2
        · exact Or.inl (Or.inr ⟨q, by omega, h1, h2⟩)
/-- how many bits are wanting -/
def mt_mu (x : Int32) : Nat := ((List.range 32).filter (fun i => !bt x i)).length
theorem mt_cnt {p q : Nat → Bool} : ∀ (L : List Nat), (∀ i ∈ L, p i = true → q i = true) → (L.filter p).length ≤ (L.filter q).length := by
  intro L
  induction L with
  | nil => intro _; exact Nat.le_refl _
  | cons a t ih =>
    intro h
    have h1 := ih (fun i hi => h i (List.mem_cons_of_mem _ hi))
    have h2 := h a List.mem_cons_self
    cases hp : p a with
    | false =>
      rw [List.filter_cons_of_neg (by simp [hp])]
      cases hq : q a with
      | false => rw [List.filter_cons_of_neg (by simp [hq])]; exact h1
      | true => rw [List.filter_cons_of_pos (by simp [hq])]; simp only [List.length_cons]; omega
    | true =>
      rw [List.filter_cons_of_pos (by simp [hp]), List.filter_cons_of_pos (by simp [h2 hp])]
      simp only [List.length_cons]
      omega
theorem mt_cnt_lt {p q : Nat → Bool} {a : Nat} (hp : p a = false) (hq : q a = true) : ∀ (L : List Nat), a ∈ L → (∀ i ∈ L, p i = true → q i = true) → (L.filter p).length < (L.filter q).length := by
  intro L
  induction L with
  | nil => intro h; cases h
  | cons b t ih =>
    intro ha h
    by_cases hab : a = b
    · subst hab
      rw [List.filter_cons_of_neg (by simp [hp]), List.filter_cons_of_pos (by simp [hq])]
      have := mt_cnt t (fun i hi => h i (List.mem_cons_of_mem _ hi))
      simp only [List.length_cons]
      omega
    · have h1 := ih ((List.mem_cons.mp ha).resolve_left hab) (fun i hi => h i (List.mem_cons_of_mem _ hi))
      have h2 := h b List.mem_cons_self
      cases hpb : p b with
      | false =>
        rw [List.filter_cons_of_neg (by simp [hpb])]
        cases hqb : q b with
        | false => rw [List.filter_cons_of_neg (by simp [hqb])]; exact h1
        | true => rw [List.filter_cons_of_pos (by simp [hqb])]; simp only [List.length_cons]; omega
      | true =>
        rw [List.filter_cons_of_pos (by simp [hpb]), List.filter_cons_of_pos (by simp [h2 hpb])]
        simp only [List.length_cons]
        omega
theorem mt_mu_lt {x y : Int32} (h : ∀ i, i < 32 → bt x i = true → bt y i = true) (hne : x ≠ y) : mt_mu y < mt_mu x := by
  have hex : ∃ i, i < 32 ∧ bt x i = false ∧ bt y i = true := by
    apply Classical.byContradiction
    intro hn
    apply hne
    apply b_ext
    intro i hi
    cases hx : bt x i with
    | true => rw [h i hi hx]
    | false =>
      cases hy : bt y i with
      | false => rfl
      | true => exact absurd ⟨i, hi, hx, hy⟩ hn
  obtain ⟨i, hi, hx, hy⟩ := hex
  exact mt_cnt_lt (a := i) (by simp [hy]) (by simp [hx]) _ (List.mem_range.mpr hi) (fun j hj => by
    intro hz
    cases hxj : bt x j with
    | false => rfl
    | true => rw [h j (List.mem_range.mp hj) hxj] at hz; cases hz)
/-- the search's end is what follows -/
theorem mt_fol_of {T : Nat → Int32} {n p : Nat} {S : Int32} (hn : n ≤ 32) (h1 : ∀ i, i < 32 → bt (T p) i = true → bt S i = true) (h2 : ∀ i, i < 32 → bt S i = true → mt_reach T n p i) (h3 : mt_stp T S n S = S) : S = mt_fol T n p := by
  apply mt_set_eq
  intro i hi
  constructor
  · exact h2 i hi
  · rintro ⟨j, hj⟩
    induction j generalizing i with
    | zero => exact h1 i hi hj
    | succ j ih =>
      obtain ⟨q, hq, h4, h5⟩ := hj
      have h6 := ih q (by omega) h4
      rw [← h3]
      exact (mt_stp_bt n S i).mpr (Or.inr ⟨q, hq, h6, h5⟩)
/-- whom the state tells to follow -/
def mt_T (σ : Nat → Int32) : Nat → Int32 := fun q => σ (6 + 5 * q + 4)
theorem mt_R_congr {T T2 : Nat → Int32} {n : Nat} (hT : ∀ q, q < n → T q = T2 q) : ∀ i p k, p < n → (mt_R T n i p k ↔ mt_R T2 n i p k) := by
  intro i
  induction i with
  | zero => intro p k hp; show bt (T p) k = true ↔ bt (T2 p) k = true; rw [hT p hp]
  | succ i ih =>
    intro p k hp
    constructor
    · rintro ⟨q, hq, h1, h2⟩
      exact ⟨q, hq, (ih p q hp).mp h1, by rw [← hT q hq]; exact h2⟩
    · rintro ⟨q, hq, h1, h2⟩
      exact ⟨q, hq, (ih p q hp).mpr h1, by rw [hT q hq]; exact h2⟩
theorem mt_fol_congr {T T2 : Nat → Int32} {n p : Nat} (hp : p < n) (hT : ∀ q, q < n → T q = T2 q) : mt_fol T n p = mt_fol T2 n p := by
  unfold mt_fol
  congr 1
  funext k
  exact propext ⟨fun ⟨i, hi⟩ => ⟨i, (mt_R_congr hT i p k hp).mp hi⟩, fun ⟨i, hi⟩ => ⟨i, (mt_R_congr hT i p k hp).mpr hi⟩⟩
theorem mt_fol_bt {T : Nat → Int32} {n p k : Nat} (hk : k < 32) : bt (mt_fol T n p) k = true ↔ mt_reach T n p k := mt_set_bt hk
