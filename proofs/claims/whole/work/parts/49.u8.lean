theorem mt_sw1 {x : Int32} : ∀ n, mt_sw (fun _ => 1) (fun i => bt x i) n = mt_c x n := by
  intro n
  induction n with
  | zero => rfl
  | succ n ih => rw [mt_sw, mt_c, ih]
theorem mt_bt_nI {k i : Nat} (hk : k < 4294967296) : bt (nI k) i = k.testBit i := by
  unfold bt
  show (BitVec.ofNat 32 k).getLsbD i = _
  rw [BitVec.getLsbD_ofNat]
  by_cases hi : i < 32
  · simp [hi]
  · rw [Nat.testBit_lt_two_pow (Nat.lt_of_lt_of_le hk (by rw [show 4294967296 = 2 ^ 32 from rfl]; exact Nat.pow_le_pow_right (by omega) (by omega)))]
    simp
theorem mt_sw2 : ∀ n k, k < 2 ^ n → mt_sw (fun i => 2 ^ i) (fun i => k.testBit i) n = k := by
  have mod : ∀ n k, mt_sw (fun i => 2 ^ i) (fun i => k.testBit i) n = k % 2 ^ n := by
    intro n k
    induction n with
    | zero => rw [mt_sw, Nat.pow_zero, Nat.mod_one]
    | succ n ih =>
      rw [mt_sw, ih, Nat.mod_pow_succ, Nat.testBit_eq_decide_div_mod_eq]
      rcases Nat.mod_two_eq_zero_or_one (k / 2 ^ n) with e | e <;> rw [e] <;> simp
  intro n k hk
  rw [mod, Nat.mod_eq_of_lt hk]
/-- a set of the first n is a number below 2^n -/
theorem mt_small {x : Int32} {n : Nat} (hn : n ≤ 30) (hb : ∀ i, n ≤ i → i < 32 → bt x i = false) : ∃ k, k < 2 ^ n ∧ x = nI k := by
  refine ⟨x.toBitVec.toNat, ?_, ?_⟩
  · apply Nat.lt_pow_two_of_testBit
    intro i hi
    by_cases h32 : i < 32
    · have := hb i hi h32
      unfold bt at this
      rw [BitVec.getLsbD] at this
      exact this
    · exact Nat.testBit_lt_two_pow (Nat.lt_of_lt_of_le x.toBitVec.isLt (Nat.pow_le_pow_right (by omega) (by omega)))
  · apply Int32.toBitVec_inj.mp
    apply BitVec.eq_of_toNat_eq
    show _ = (BitVec.ofNat 32 x.toBitVec.toNat).toNat
    rw [BitVec.toNat_ofNat, Nat.mod_eq_of_lt x.toBitVec.isLt]
theorem mt_un_bt {go : Nat → Int32} {S : Int32} : ∀ n i, bt (mt_un go S n) i = true ↔ ∃ q, q < n ∧ bt S q = true ∧ bt (go q) i = true := by
  intro n i
  induction n with
  | zero => rw [mt_un, b_0]; exact iff_of_false (by decide) (fun ⟨q, h, _⟩ => by omega)
  | succ n ih =>
    rw [mt_un, b_or, Bool.or_eq_true, ih]
    constructor
    · rintro (⟨q, h1, h2, h3⟩ | h)
      · exact ⟨q, by omega, h2, h3⟩
      · by_cases hs : bt S n = true
        · rw [if_pos hs] at h; exact ⟨n, by omega, hs, h⟩
        · rw [if_neg hs, b_0] at h; cases h
    · rintro ⟨q, h1, h2, h3⟩
      by_cases e : q = n
      · subst e; right; rw [if_pos h2]; exact h3
      · exact Or.inl ⟨q, by omega, h2, h3⟩
/-- a first set of a least size stays the best -/
theorem mt_bf_is {go : Nat → Int32} {oth : Int32} {n K : Nat} (hn : n ≤ 12) (hK : K < 2 ^ n) (hcov : mt_un go (nI K) n = oth) (hmin : ∀ k, k < 2 ^ n → mt_un go (nI k) n = oth → mt_c (nI K) 12 ≤ mt_c (nI k) 12 ∧ K ≤ k) : mt_bf go oth n (2 ^ n) = (nI K, mt_ones (nI K)) := by
  have hc : ∀ x : Int32, ∃ c, c ≤ 12 ∧ mt_ones x = nI c ∧ c = mt_c x 12 := fun x => ⟨mt_c x 12, mt_c_le x 12, mt_ones_c x, rfl⟩
  have key : ∀ k, k ≤ 2 ^ n → (k ≤ K → ∃ f, (mt_bf go oth n k).2 = nI f ∧ mt_c (nI K) 12 < f ∧ f ≤ 13) ∧ (K < k → mt_bf go oth n k = (nI K, mt_ones (nI K))) := by
    intro k
    induction k with
    | zero => intro _; exact ⟨fun _ => ⟨13, rfl, by have := mt_c_le (nI K) 12; omega, Nat.le_refl _⟩, fun h => by omega⟩
    | succ k ih =>
      intro hk
      obtain ⟨i1, i2⟩ := ih (by omega)
      rw [mt_bf]
      constructor
      · intro hkK
        obtain ⟨f, hf, hf2, hf3⟩ := i1 (by omega)
        by_cases hc2 : mt_ones (nI k) < (mt_bf go oth n k).2 ∧ mt_un go (nI k) n = oth
        · have := (hmin k (by omega) hc2.2).2; omega
        · rw [if_neg hc2]; exact ⟨f, hf, hf2, hf3⟩
      · intro hkK
        by_cases e : k = K
        · subst e
          obtain ⟨f, hf, hf2, hf3⟩ := i1 (Nat.le_refl _)
          rw [if_pos ⟨by rw [hf, mt_ones_c]; exact nI_lt hf2 (by omega), hcov⟩]
        · rw [i2 (by omega)]
          have : ¬ (mt_ones (nI k) < mt_ones (nI K) ∧ mt_un go (nI k) n = oth) := fun z => by
            have h1 := (hmin k (by omega) z.2).1
            have h2 := z.1
            rw [mt_ones_c, mt_ones_c] at h2
            exact nI_nlt h1 (by have := mt_c_le (nI k) 12; omega) h2
          rw [if_neg this]
  exact (key (2 ^ n) (Nat.le_refl _)).2 hK
theorem mt_bf_no {go : Nat → Int32} {oth : Int32} {n : Nat} (hno : ∀ k, k < 2 ^ n → ¬ mt_un go (nI k) n = oth) : mt_bf go oth n (2 ^ n) = (-1, 13) := by
  have key : ∀ k, k ≤ 2 ^ n → mt_bf go oth n k = (-1, 13) := by
    intro k
    induction k with
    | zero => intro _; rfl
    | succ k ih =>
      intro hk
      rw [mt_bf, if_neg (fun z => hno k (by omega) z.2), ih (by omega)]
  exact key _ (Nat.le_refl _)
/-- going by one is by way of others -/
theorem mt_go_tr {σ : Nat → Int32} {n p q i : Nat} (hn : n ≤ 12) (hp : p < n) (hq : q < n) (hi : i < 32) (h1 : bt (mt_go σ n p) q = true) (h2 : bt (mt_go σ n q) i = true) : bt (mt_go σ n p) i = true := by
  rw [mt_go_bt hn hp (by omega)] at h1
  rw [mt_go_bt hn hq hi] at h2
  rw [mt_go_bt hn hp hi]
  rcases h1 with ⟨a, h1⟩ | rfl
  · rcases h2 with ⟨b, h2⟩ | rfl
    · exact Or.inl (mt_R_cat b a p q i hq h1 h2)
    · exact Or.inl ⟨a, h1⟩
  · exact h2
theorem mt_go_self {σ : Nat → Int32} {n p : Nat} (hn : n ≤ 12) (hp : p < n) : bt (mt_go σ n p) p = true := (mt_go_bt hn hp (by omega)).mpr (Or.inr rfl)
/-- the first to be named of those who bring one another -/
noncomputable def mt_first (σ : Nat → Int32) (n : Nat) (W : Int32) (p : Nat) : Prop := ∀ q, q < n → q ≠ p → bt W q = true → bt (mt_go σ n q) p = true → (p < q ∧ bt (mt_go σ n p) q = true)
theorem mt_first_of {σ : Nat → Int32} {n : Nat} {W : Int32} (hn : n ≤ 12) (hW : ∀ i, n ≤ i → i < 32 → bt W i = false) : ∀ w, w < n → bt W w = true → ∃ p, p < n ∧ bt W p = true ∧ mt_first σ n W p ∧ bt (mt_go σ n p) w = true := by
  -- by how many it brings, and by its number
  have meas : ∀ N w, w < n → bt W w = true → mt_mu (mt_go σ n w) * 64 + w < N → ∃ p, p < n ∧ bt W p = true ∧ mt_first σ n W p ∧ bt (mt_go σ n p) w = true := by
    intro N
    induction N with
    | zero => intro w _ _ h; omega
    | succ N ih =>
      intro w hw hWw hN
      by_cases hf : mt_first σ n W w
      · exact ⟨w, hw, hWw, hf, mt_go_self hn hw⟩
      · have : ∃ q, q < n ∧ q ≠ w ∧ bt W q = true ∧ bt (mt_go σ n q) w = true ∧ ¬ (w < q ∧ bt (mt_go σ n w) q = true) := by
          apply Classical.byContradiction
          intro hc
          apply hf
          intro q h1 h2 h3 h4
          apply Classical.byContradiction
          intro h5
          exact hc ⟨q, h1, h2, h3, h4, h5⟩
        obtain ⟨q, h1, h2, h3, h4, h5⟩ := this
        have hsub : ∀ i, i < 32 → bt (mt_go σ n w) i = true → bt (mt_go σ n q) i = true := fun i hi hb => mt_go_tr hn h1 hw hi h4 hb
        have hlt : mt_mu (mt_go σ n q) * 64 + q < N := by
          by_cases he : mt_go σ n w = mt_go σ n q
          · have hqw : bt (mt_go σ n w) q = true := by rw [he]; exact mt_go_self hn h1
            have : q < w := by
              rcases Nat.lt_or_ge w q with h | h
              · exact absurd ⟨h, hqw⟩ h5
              · omega
            rw [← he]
            omega
          · have := mt_mu_lt hsub he
            omega
        obtain ⟨p, a1, a2, a3, a4⟩ := ih q h1 h3 hlt
        exact ⟨p, a1, a2, a3, mt_go_tr hn a1 h1 (by omega) a4 h4⟩
  intro w hw hWw
  exact meas _ w hw hWw (Nat.lt_succ_self _)
/-- the sayings that are fewest: nobody who brings a doer, and then the firsts -/
theorem mt_few_no {σ : Nat → Int32} {n p : Nat} (hn0 : σ 0 = nI n) (hn : n ≤ 12) {w : Nat} (hw : w < n) (hW : bt (σ (66 + 6 * p + 0)) w = false) (hl : mt_lie σ n p w = true) : mt_few σ n p = (-1, 13) := by
  unfold mt_few
  apply mt_bf_no
  intro k hk hc
  have hex : ∃ i, i < 32 ∧ bt (mt_go σ n w) i = true ∧ bt (σ (66 + 6 * p + 0)) i = true := by
    apply Classical.byContradiction
    intro hno
    have hz : mt_go σ n w &&& σ (66 + 6 * p + 0) = 0 := by
      apply b_ext
      intro i hi
      rw [b_and, b_0]
      cases h1 : bt (mt_go σ n w) i with
      | false => rfl
      | true =>
        cases h2 : bt (σ (66 + 6 * p + 0)) i with
        | false => rfl
        | true => exact absurd ⟨i, hi, h1, h2⟩ hno
    unfold mt_lie at hl
    rw [decide_eq_true hz] at hl
    cases hl
  obtain ⟨i, hi, h1, h2⟩ := hex
  have hwo : bt (mt_every (σ 0) &&& (σ (66 + 6 * p + 0) ^^^ (-1))) w = true := by
    rw [b_and, hn0, mt_every_bt n hn w (by omega), mt_not _ (by omega), hW]
    simp [hw]
  rw [← hc] at hwo
  obtain ⟨q, a1, a2, a3⟩ := (mt_un_bt n w).mp hwo
  have : bt (mt_un (mt_go σ n) (nI k) n) i = true := (mt_un_bt n i).mpr ⟨q, a1, a2, mt_go_tr hn a1 hw hi a3 h1⟩
  rw [hc, b_and, mt_not _ hi, h2] at this
  simp at this
theorem mt_few_is {σ : Nat → Int32} {n p : Nat} {M : Int32} (hn0 : σ 0 = nI n) (hn : n ≤ 12) (hP : mt_wfP σ n) (hno : ∀ w, w < n → bt (σ (66 + 6 * p + 0)) w = false → mt_lie σ n p w = false) (hM : ∀ i, i < 32 → (bt M i = true ↔ (i < n ∧ bt (σ (66 + 6 * p + 0)) i = false ∧ mt_first σ n (mt_every (σ 0) &&& (σ (66 + 6 * p + 0) ^^^ (-1))) i))) : mt_few σ n p = (M, mt_ones M) ∧ ¬ M < 0 := by
  have hW : ∀ i, i < 32 → (bt (mt_every (σ 0) &&& (σ (66 + 6 * p + 0) ^^^ (-1))) i = true ↔ (i < n ∧ bt (σ (66 + 6 * p + 0)) i = false)) := fun i hi => by
    rw [b_and, hn0, mt_every_bt n hn i hi, mt_not _ hi]
    simp
  generalize hWe : mt_every (σ 0) &&& (σ (66 + 6 * p + 0) ^^^ (-1)) = W at *
  obtain ⟨K, hK, hMK⟩ := mt_small (x := M) (n := n) (by omega) (fun i h1 h2 => by
    cases hb : bt M i with
    | false => rfl
    | true => have := ((hM i h2).mp hb).1; omega)
  have hpow : 2 ^ n ≤ 4096 := Nat.pow_le_pow_right (n := 2) (by omega) hn
  have hgo : ∀ q i, q < n → i < 32 → bt W q = true → bt (mt_go σ n q) i = true → bt W i = true := by
    intro q i hq hi h1 h2
    have hin := mt_go_lt hn hP hq hi h2
    refine (hW i hi).mpr ⟨hin, ?_⟩
    cases hb : bt (σ (66 + 6 * p + 0)) i with
    | false => rfl
    | true =>
      have := hno q hq ((hW q (by omega)).mp h1).2
      unfold mt_lie at this
      have hz : ¬ mt_go σ n q &&& σ (66 + 6 * p + 0) = 0 := fun z => by
        have : bt (mt_go σ n q &&& σ (66 + 6 * p + 0)) i = false := by rw [z, b_0]
        rw [b_and, h2, hb] at this
        cases this
      rw [decide_eq_false hz] at this
      cases this
  subst hMK
  have hcov : mt_un (mt_go σ n) (nI K) n = W := by
    apply b_ext
    intro i hi
    cases hb : bt W i with
    | true =>
      have h1 := (hW i hi).mp hb
      obtain ⟨q, a1, a2, a3, a4⟩ := mt_first_of (σ := σ) (W := W) hn (fun j h1 h2 => by
        cases hb2 : bt W j with
        | false => rfl
        | true => have := ((hW j h2).mp hb2).1; omega) i h1.1 hb
      exact (mt_un_bt n i).mpr ⟨q, a1, (hM q (by omega)).mpr ⟨a1, ((hW q (by omega)).mp a2).2, a3⟩, a4⟩
    | false =>
      cases hb2 : bt (mt_un (mt_go σ n) (nI K) n) i with
      | false => rfl
      | true =>
        obtain ⟨q, a1, a2, a3⟩ := (mt_un_bt n i).mp hb2
        have a4 := (hM q (by omega)).mp a2
        have := hgo q i a1 hi ((hW q (by omega)).mpr ⟨a1, a4.2.1⟩) a3
        rw [hb] at this
        cases this
  have hinj : ∀ k, k < 2 ^ n → mt_un (mt_go σ n) (nI k) n = W → ∀ w : Nat → Nat, (∀ i j, i ≤ j → w i ≤ w j) → mt_sw w (fun i => bt (nI K) i) n ≤ mt_sw w (fun i => bt (nI k) i) n := by
    intro k hk hc w hw
    have hex : ∀ q, q < n → bt (nI K) q = true → ∃ s, q ≤ s ∧ s < n ∧ bt (nI k) s = true ∧ bt (mt_go σ n s) q = true ∧ bt (mt_go σ n q) s = true := by
      intro q hq hb
      have h1 := (hM q (by omega)).mp hb
      have h2 : bt W q = true := (hW q (by omega)).mpr ⟨hq, h1.2.1⟩
      rw [← hc] at h2
      obtain ⟨s, a1, a2, a3⟩ := (mt_un_bt n q).mp h2
      have hsW : bt W s = true := by rw [← hc]; exact (mt_un_bt n s).mpr ⟨s, a1, a2, mt_go_self hn a1⟩
      by_cases e : s = q
      · subst e; exact ⟨s, Nat.le_refl _, a1, a2, a3, a3⟩
      · have := h1.2.2 s a1 e hsW a3
        exact ⟨s, by omega, a1, a2, a3, this.2⟩
    refine mt_sw_inj hw n _ _ (fun q => if hq : q < n ∧ bt (nI K) q = true then Classical.choose (hex q hq.1 hq.2) else 0) (fun q hq hb => ?_) (fun q r hq hr hb hb2 he => ?_)
    · have hq2 : q < n ∧ bt (nI K) q = true := ⟨hq, hb⟩
      show q ≤ (if hq : q < n ∧ bt (nI K) q = true then Classical.choose (hex q hq.1 hq.2) else 0) ∧ (if hq : q < n ∧ bt (nI K) q = true then Classical.choose (hex q hq.1 hq.2) else 0) < n ∧ bt (nI k) (if hq : q < n ∧ bt (nI K) q = true then Classical.choose (hex q hq.1 hq.2) else 0) = true
      rw [dif_pos hq2]
      have := Classical.choose_spec (hex q hq2.1 hq2.2)
      exact ⟨this.1, this.2.1, this.2.2.1⟩
    · have hq2 : q < n ∧ bt (nI K) q = true := ⟨hq, hb⟩
      have hr2 : r < n ∧ bt (nI K) r = true := ⟨hr, hb2⟩
      have he : (if hq : q < n ∧ bt (nI K) q = true then Classical.choose (hex q hq.1 hq.2) else 0) = (if hq : r < n ∧ bt (nI K) r = true then Classical.choose (hex r hq.1 hq.2) else 0) := he
      rw [dif_pos hq2, dif_pos hr2] at he
      have s1 := Classical.choose_spec (hex q hq2.1 hq2.2)
      have s2 := Classical.choose_spec (hex r hr2.1 hr2.2)
      rw [← he] at s2
      generalize Classical.choose (hex q hq2.1 hq2.2) = s at *
      have t1 : bt (mt_go σ n q) r = true := mt_go_tr hn hq s1.2.1 (by omega) s1.2.2.2.2 s2.2.2.2.1
      have t2 : bt (mt_go σ n r) q = true := mt_go_tr hn hr s1.2.1 (by omega) s2.2.2.2.2 s1.2.2.2.1
      apply Classical.byContradiction
      intro hne
      have m1 := (hM q (by omega)).mp hb
      have m2 := (hM r (by omega)).mp hb2
      have u1 := m1.2.2 r hr (fun z => hne z.symm) ((hW r (by omega)).mpr ⟨hr, m2.2.1⟩) t2
      have u2 := m2.2.2 q hq hne ((hW q (by omega)).mpr ⟨hq, m1.2.1⟩) t1
      omega
  have hup : ∀ k, k < 2 ^ n → mt_c (nI k) 12 = mt_c (nI k) n := by
    intro k hk
    have : ∀ j, n + j ≤ 12 → mt_c (nI k) (n + j) = mt_c (nI k) n := by
      intro j
      induction j with
      | zero => intro _; rfl
      | succ j ih =>
        intro hj
        rw [show n + (j + 1) = (n + j) + 1 from rfl, mt_c, ih (by omega), mt_bt_nI (by omega), Nat.testBit_lt_two_pow (Nat.lt_of_lt_of_le hk (Nat.pow_le_pow_right (by omega) (by omega)))]
        simp
    have := this (12 - n) (by omega)
    rw [show n + (12 - n) = 12 by omega] at this
    exact this
  refine ⟨?_, nI_pos (by omega)⟩
  unfold mt_few
  rw [hWe]
  refine mt_bf_is hn hK hcov (fun k hk hc => ⟨?_, ?_⟩)
  · rw [hup K hK, hup k hk, ← mt_sw1, ← mt_sw1]
    exact hinj k hk hc (fun _ => 1) (fun _ _ _ => Nat.le_refl _)
  · have := hinj k hk hc (fun i => 2 ^ i) (fun i j h => Nat.pow_le_pow_right (by omega) h)
    rw [show (fun i => bt (nI K) i) = (fun i => K.testBit i) from funext (fun i => mt_bt_nI (by omega)), show (fun i => bt (nI k) i) = (fun i => k.testBit i) from funext (fun i => mt_bt_nI (by omega)), mt_sw2 n K hK, mt_sw2 n k hk] at this
    exact this
