/-! the state's bounds stay -/
theorem mt_dp_congr {w v w2 v2 : Nat → Int32} : ∀ k, (∀ i, i < k → w i = w2 i ∧ v i = v2 i) → mt_dp w v k = mt_dp w2 v2 k := by
  intro k
  induction k with
  | zero => intro _; rfl
  | succ k ih =>
    intro hh
    rw [mt_dp, mt_dp, ih (fun i hi => hh i (by omega)), (hh k (by omega)).1, (hh k (by omega)).2]
theorem mt_pl_congr {nm w v w2 v2 : Nat → Int32} : ∀ k, (∀ i, i < k → w i = w2 i ∧ v i = v2 i) → mt_pl nm w v k = mt_pl nm w2 v2 k := by
  intro k
  induction k with
  | zero => intro _; rfl
  | succ k ih =>
    intro hh
    rw [mt_pl, mt_pl, ih (fun i hi => hh i (by omega)), mt_dp_congr k (fun i hi => hh i (by omega)), (hh k (by omega)).1, (hh k (by omega)).2]
theorem mt_txt_congr {σ τ : Nat → Int32} {t key L : Nat} (he : ∀ j, 114 + 200 * t ≤ j → j < 114 + 200 * t + 200 → σ j = τ j) (hx : mt_txt σ t key L) : mt_txt τ t key L := by
  obtain ⟨⟨h1, h2⟩, ⟨h3, h4⟩, h5, h6⟩ := hx
  have hwv : ∀ i, i < L → mt_w σ t i = mt_w τ t i ∧ mt_v σ t i = mt_v τ t i := fun i hi => ⟨he _ (by omega) (by omega), he _ (by omega) (by omega)⟩
  refine ⟨⟨by rw [← he _ (by omega) (by omega)]; exact h1, h2⟩, ⟨by rw [← he _ (by omega) (by omega)]; exact h3, h4⟩, fun k hk => ?_, ?_⟩
  · rw [← (hwv k hk).1, ← (hwv k hk).2, ← mt_dp_congr k (fun i hi => hwv i (by omega))]
    exact h5 k hk
  · rw [← mt_dp_congr L hwv]
    exact h6
theorem mt_wfT_congr {σ τ : Nat → Int32} {nt : Nat} (hnt : nt ≤ 14) (he : ∀ j, 114 ≤ j → j < 2914 → σ j = τ j) (hx : mt_wfT σ nt) : mt_wfT τ nt := by
  intro t ht
  obtain ⟨key, L, h⟩ := hx t ht
  exact ⟨key, L, mt_txt_congr (fun j h1 h2 => he j (by omega) (by omega)) h⟩
theorem mt_wfP_congr {σ τ : Nat → Int32} {n : Nat} (hn : n ≤ 12) (he : ∀ j, 6 ≤ j → j < 66 → σ j = τ j) (hx : mt_wfP σ n) : mt_wfP τ n := by
  intro p hp
  obtain ⟨h1, h2, h3, h4⟩ := hx p hp
  refine ⟨by rw [← he _ (by omega) (by omega)]; exact h1, fun i hi hi2 => ?_, fun i hi hi2 => ?_, fun q hq => ?_⟩
  · have := h2 i hi hi2
    unfold mt_T at this ⊢
    rw [← he _ (by omega) (by omega)]
    exact this
  · rw [← he _ (by omega) (by omega)]
    exact h3 i hi hi2
  · rw [← he _ (by omega) (by omega), ← he _ (by omega) (by omega)]
    exact h4 q hq
theorem mt_wfD_congr {σ τ : Nat → Int32} {n : Nat} (hn : n ≤ 8) (he : ∀ j, 66 ≤ j → j < 114 → σ j = τ j) (hx : mt_wfD σ n) : mt_wfD τ n := by
  intro p hp
  obtain ⟨h1, h2⟩ := hx p hp
  refine ⟨by rw [← he _ (by omega) (by omega)]; exact h1, fun i hi hi2 => ?_⟩
  rw [← he _ (by omega) (by omega)]
  exact h2 i hi hi2
theorem mt_wf_congr {σ τ : Nat → Int32} {n nd nt : Nat} (he : ∀ j, j < 2914 → σ j = τ j) (hs : mt_wf σ n nd nt) : mt_wf τ n nd nt := by
  obtain ⟨⟨⟨a1, a2⟩, ⟨b1, b2⟩, c1, c2⟩, hP, hD, hT⟩ := hs
  exact ⟨⟨⟨by rw [← he 0 (by omega)]; exact a1, a2⟩, ⟨by rw [← he 1 (by omega)]; exact b1, b2⟩, by rw [← he 2 (by omega)]; exact c1, c2⟩, mt_wfP_congr a2 (fun j _ h => he j (by omega)) hP, mt_wfD_congr b2 (fun j _ h => he j (by omega)) hD, mt_wfT_congr c2 (fun j _ h => he j h) hT⟩
/-- z and STOP are free -/
theorem mt_wf_34 {σ : Nat → Int32} {n nd nt k : Nat} {v : Int32} (hk : k = 3 ∨ k = 4) (hs : mt_wf σ n nd nt) : mt_wf (upd σ k v) n nd nt := by
  obtain ⟨⟨⟨a1, a2⟩, ⟨b1, b2⟩, c1, c2⟩, hP, hD, hT⟩ := hs
  exact ⟨⟨⟨by rw [pk_un (by omega)]; exact a1, a2⟩, ⟨by rw [pk_un (by omega)]; exact b1, b2⟩, by rw [pk_un (by omega)]; exact c1, c2⟩, mt_wfP_congr a2 (fun j h1 h => by rw [pk_un (by omega)]) hP, mt_wfD_congr b2 (fun j h1 h => by rw [pk_un (by omega)]) hD, mt_wfT_congr c2 (fun j h1 h => by rw [pk_un (by omega)]) hT⟩
theorem mt_reach_lt {σ : Nat → Int32} {n p i : Nat} (hP : mt_wfP σ n) (hp : p < n) (hi : i < 32) (h : mt_reach (mt_T σ) n p i) : i < n := by
  obtain ⟨j, hj⟩ := h
  apply Classical.byContradiction
  intro hc
  cases j with
  | zero =>
    have := (hP p hp).2.1 i (by omega) hi
    rw [show bt (mt_T σ p) i = true from hj] at this
    cases this
  | succ j =>
    obtain ⟨q, hq, _, h2⟩ := hj
    have := (hP q hq).2.1 i (by omega) hi
    rw [h2] at this
    cases this
theorem mt_go_bt {σ : Nat → Int32} {n p i : Nat} (hn : n ≤ 12) (hp : p < n) (hi : i < 32) : bt (mt_go σ n p) i = true ↔ (mt_reach (mt_T σ) n p i ∨ i = p) := by
  unfold mt_go
  rw [b_or, Bool.or_eq_true, mt_fol_bt hi, mt_one (by omega) hi, decide_eq_true_eq]
theorem mt_go_lt {σ : Nat → Int32} {n p i : Nat} (hn : n ≤ 12) (hP : mt_wfP σ n) (hp : p < n) (hi : i < 32) (h : bt (mt_go σ n p) i = true) : i < n := by
  rcases (mt_go_bt hn hp hi).mp h with h | h
  · exact mt_reach_lt hP hp hi h
  · omega
theorem mt_wf_says {σ : Nat → Int32} {n nd nt p q : Nat} (hs : mt_wf σ n nd nt) (hp : p < nd) (hq : q < n) : mt_wf (mt_says σ n p q) n nd nt := by
  obtain ⟨⟨⟨a1, a2⟩, ⟨b1, b2⟩, c1, c2⟩, hP, hD, hT⟩ := hs
  have he : ∀ j, j ≠ 66 + 6 * p + 3 → j ≠ 66 + 6 * p + 4 → j ≠ 66 + 6 * p + 5 → σ j = mt_says σ n p q j := fun j h3 h4 h5 => by
    unfold mt_says
    rw [pk_un h5, pk_un h4, pk_un h3]
  refine ⟨⟨⟨by rw [← he _ (by omega) (by omega) (by omega)]; exact a1, a2⟩, ⟨by rw [← he _ (by omega) (by omega) (by omega)]; exact b1, b2⟩, by rw [← he _ (by omega) (by omega) (by omega)]; exact c1, c2⟩, mt_wfP_congr a2 (fun j h1 h => he j (by omega) (by omega) (by omega)) hP, fun q2 hq2 => ?_, mt_wfT_congr c2 (fun j h1 h => he j (by omega) (by omega) (by omega)) hT⟩
  obtain ⟨d1, d2⟩ := hD q2 hq2
  refine ⟨by rw [← he _ (by omega) (by omega) (by omega)]; exact d1, fun i hi hi2 => ?_⟩
  by_cases e : q2 = p
  · subst e
    unfold mt_says
    rw [pk_un (by omega), pk_un (by omega), pk_us, b_or, d2 i hi hi2, Bool.false_or]
    cases hb : bt (mt_go σ n q) i with
    | false => rfl
    | true => have := mt_go_lt a2 hP hq hi2 hb; omega
  · rw [← he _ (by omega) (by omega) (by omega)]
    exact d2 i hi hi2
noncomputable def mt_ch1 (σ : Nat → Int32) (n nt p q : Nat) : Int32 := if mt_rem (mt_dr (σ 4)) 100 < mt_bold (upd σ 4 (mt_z (σ 4))) nt q p then mt_choice (upd σ 4 (mt_z (σ 4))) n nt q p else -1
/-- one turn of a round; a round; rounds -/
noncomputable def mt_rnd1 (σ : Nat → Int32) (n nt p q : Nat) : Nat → Int32 := if 0 ≤ mt_ch1 σ n nt p q then mt_says (upd σ 4 (mt_z (σ 4))) n p (mt_ch1 σ n nt p q).toNatClampNeg else upd σ 4 (mt_z (σ 4))
noncomputable def mt_rnd (σ : Nat → Int32) (n nt p : Nat) : Nat → Nat → Int32
  | 0 => σ
  | q + 1 => mt_rnd1 (mt_rnd σ n nt p q) n nt p q
noncomputable def mt_rnds (σ : Nat → Int32) (n nt p : Nat) : Nat → Nat → Int32
  | 0 => σ
  | k + 1 => mt_rnd (mt_rnds σ n nt p k) n nt p n
theorem mt_ch1_in {σ : Nat → Int32} {n nt p q : Nat} (hn : n ≤ 12) : mt_ch1 σ n nt p q = -1 ∨ ∃ i, i < n ∧ mt_ch1 σ n nt p q = nI i := by
  unfold mt_ch1
  split
  · exact mt_choice_in hn
  · exact Or.inl rfl
theorem mt_wf_rnd1 {σ : Nat → Int32} {n nd nt p q : Nat} (hs : mt_wf σ n nd nt) (hp : p < nd) : mt_wf (mt_rnd1 σ n nt p q) n nd nt := by
  have hn := hs.1.1.2
  unfold mt_rnd1
  rcases mt_ch1_in (σ := σ) (nt := nt) (p := p) (q := q) hn with h | ⟨i, hi, h⟩
  · rw [h, if_neg (by decide)]
    exact mt_wf_34 (Or.inr rfl) hs
  · rw [h, if_pos (nI_pos' (by omega)), am_cl (show i < 2147483648 by omega)]
    exact mt_wf_says (mt_wf_34 (Or.inr rfl) hs) hp hi
theorem mt_wf_rnd {σ : Nat → Int32} {n nd nt p : Nat} (hs : mt_wf σ n nd nt) (hp : p < nd) : ∀ q, mt_wf (mt_rnd σ n nt p q) n nd nt := by
  intro q
  induction q with
  | zero => exact hs
  | succ q ih => exact mt_wf_rnd1 ih hp
theorem mt_wf_rnds {σ : Nat → Int32} {n nd nt p : Nat} (hs : mt_wf σ n nd nt) (hp : p < nd) : ∀ q, mt_wf (mt_rnds σ n nt p q) n nd nt := by
  intro q
  induction q with
  | zero => exact hs
  | succ q ih => exact mt_wf_rnd ih hp n
theorem mt_sub1 (x y : Int32) : x + 1 - y = x - y + 1 := by
  apply Int32.toBitVec_inj.mp
  simp only [Int32.toBitVec_sub, Int32.toBitVec_add]
  bv_omega
theorem mt_subs (x y z : Int32) : (x - y) + (z - x) = z - y := by
  apply Int32.toBitVec_inj.mp
  simp only [Int32.toBitVec_sub, Int32.toBitVec_add]
  bv_omega
theorem mt_sub0 (x : Int32) : x - x = 0 := Int32.sub_self x
def cm_R (m : Nat) : Nat → Prop := fun b => b = m + 1 ∨ b = m + 14 ∨ b = m + 15
theorem cm_NR {m : Nat} : ∀ b, cm_N m b → cm_R m b := fun _ h => Or.inr h
section CZ4
variable {G : Nat → Nat} {d : Nat} {h : am_H} {m : Nat} {σ : Nat → Int32} {n nd nt : Nat}
theorem m_drawn3 (l : cm_Lay G h m) (hσ : am_i h (m + 1) = σ) : am_evm G d 144 [.ref m] h = some (some (.int (mt_dr (σ 4))), am_pa h (m + 1) (upd σ 4 (mt_z (σ 4)))) := by subst hσ; exact m_drawn l
theorem m_say0 (l : cm_Lay G h m) {v w z : Int32} (hv : ¬ ((0 ≤ v ∧ v ≤ am_i h (m + 1) 0 - 1) ∧ (0 ≤ w ∧ w ≤ am_i h (m + 1) 1 - 1) ∧ (0 ≤ z ∧ z ≤ am_i h (m + 1) 0 - 1))) : am_evm G (d + 4) 170 [.ref m, .int v, .int w, .int z] h = some (some (.int (-1000000001)), h) := by
  by_cases h1 : 0 ≤ v ∧ v ≤ am_i h (m + 1) 0 - 1
  · by_cases h2 : 0 ≤ w ∧ w ≤ am_i h (m + 1) 1 - 1
    · have h3 : ¬ (0 ≤ z ∧ z ≤ am_i h (m + 1) 0 - 1) := fun q => hv ⟨h1, h2, q⟩
      simp only [n_170, e_170_0, e_170_1, e_170_2, e_170_5, e_170_8, e_170_9, e_170_10, e_170_13, e_170_16, e_170_17, e_170_18, e_170_21, e_170_24, e_170_26, e_170_27, e_170_28, e_170_29, e_170_30, e_170_31, e_170_34, e_170_37, e_170_39, e_170_40, e_170_41, e_170_42, e_170_43, e_170_46, e_170_47, e_170_48, e_170_51, e_170_54, Option.bind_some, Option.toList_some, Option.toList_none, List.cons_append, List.nil_append, am_k1_i, am_k1_r, am_k1_u, am_k1_n, am_bo0, am_bo1, am_boi, am_ev_tb, am_tb_nil, am_rfs, am_rfn, eq_self, and_self, if_true, if_false, show ¬ (1 : Int32) = 0 from by decide, show ¬ (0 : Int32) = 1 from by decide, not_true, not_false_eq_true, and_true, true_and, and_false, false_and, or_true, true_or, or_false, false_or, cm_ob l, m_isPerson l, m_isDeed l, h1, h2, h3]
    · simp only [n_170, e_170_0, e_170_1, e_170_2, e_170_5, e_170_8, e_170_9, e_170_10, e_170_13, e_170_16, e_170_17, e_170_18, e_170_21, e_170_24, e_170_26, e_170_27, e_170_28, e_170_29, e_170_30, e_170_31, e_170_34, e_170_37, e_170_39, e_170_40, e_170_41, e_170_42, e_170_43, e_170_46, e_170_47, e_170_48, e_170_51, e_170_54, Option.bind_some, Option.toList_some, Option.toList_none, List.cons_append, List.nil_append, am_k1_i, am_k1_r, am_k1_u, am_k1_n, am_bo0, am_bo1, am_boi, am_ev_tb, am_tb_nil, am_rfs, am_rfn, eq_self, and_self, if_true, if_false, show ¬ (1 : Int32) = 0 from by decide, show ¬ (0 : Int32) = 1 from by decide, not_true, not_false_eq_true, and_true, true_and, and_false, false_and, or_true, true_or, or_false, false_or, cm_ob l, m_isPerson l, m_isDeed l, h1, h2]
  · simp only [n_170, e_170_0, e_170_1, e_170_2, e_170_5, e_170_8, e_170_9, e_170_10, e_170_13, e_170_16, e_170_17, e_170_18, e_170_21, e_170_24, e_170_26, e_170_27, e_170_28, e_170_29, e_170_30, e_170_31, e_170_34, e_170_37, e_170_39, e_170_40, e_170_41, e_170_42, e_170_43, e_170_46, e_170_47, e_170_48, e_170_51, e_170_54, Option.bind_some, Option.toList_some, Option.toList_none, List.cons_append, List.nil_append, am_k1_i, am_k1_r, am_k1_u, am_k1_n, am_bo0, am_bo1, am_boi, am_ev_tb, am_tb_nil, am_rfs, am_rfn, eq_self, and_self, if_true, if_false, show ¬ (1 : Int32) = 0 from by decide, show ¬ (0 : Int32) = 1 from by decide, not_true, not_false_eq_true, and_true, true_and, and_false, false_and, or_true, true_or, or_false, false_or, cm_ob l, m_isPerson l, h1]
theorem m_say (l : cm_Lay G h m) (hσ : am_i h (m + 1) = σ) (hs : mt_wf σ n nd nt) {s p q : Nat} (hsn : s < n) (hp : p < nd) (hq : q < n) : ∃ h2, am_evm G (d + 4) 170 [.ref m, .int (nI s), .int (nI p), .int (nI q)] h = some (some (.int (if mt_may σ n nt s p q = true then mt_ones (mt_left (mt_says σ n p q) p) else -1000000002)), h2) ∧ am_fr (cm_R m) h h2 ∧ am_i h2 (m + 1) = (if mt_may σ n nt s p q = true then mt_says σ n p q else σ) := by
  have hv := mt_inD hs hp
  have hv1 := mt_inP hs hsn
  have hv2 := mt_inP hs hq
  have hnd := hs.1.2.1.2
  obtain ⟨h2, e, f⟩ := m_mayBe (d := d) (s := s) l hσ hs hq hp
  have l2 := l.fr f
  have hσ2 : am_i h2 (m + 1) = σ := (f.i1 (cm_N1 (by omega))).trans hσ
  by_cases hm : mt_may σ n nt s p q = true
  · have l3 : cm_Lay G (am_pa h2 (m + 1) (mt_says σ n p q)) m := l2
    refine ⟨am_pa h2 (m + 1) (mt_says σ n p q), ?_, (f.wd cm_NR).tr (am_fr.pa (Or.inl rfl)), ?_⟩
    · simp only [n_170, e_170_0, e_170_1, e_170_2, e_170_5, e_170_8, e_170_9, e_170_10, e_170_13, e_170_16, e_170_17, e_170_18, e_170_21, e_170_24, e_170_26, e_170_27, e_170_28, e_170_29, e_170_30, e_170_31, e_170_34, e_170_37, e_170_39, e_170_40, e_170_41, e_170_42, e_170_43, e_170_46, e_170_47, e_170_48, e_170_51, e_170_54, Option.bind_some, Option.toList_some, Option.toList_none, List.cons_append, List.nil_append, am_k1_i, am_k1_r, am_k1_u, am_k1_n, am_bo0, am_bo1, am_boi, am_ev_tb, am_tb_nil, am_rfs, am_rfn, eq_self, and_self, if_true, if_false, show ¬ (1 : Int32) = 0 from by decide, show ¬ (0 : Int32) = 1 from by decide, not_true, not_false_eq_true, and_true, true_and, and_false, false_and, or_true, true_or, or_false, false_or, cm_ob l, m_isPerson3 l hσ, m_isDeed3 l hσ, hv, hv1, hv2, e, hm, m_says l2 hσ2 hs hp hq, cm_ob l2, cm_ob l3, m_left3 l3 (show _ = mt_says σ n p q from by rw [am_pa_i, if_pos rfl]) (show p < 8 by omega), m_ones]
    · rw [am_pa_i, if_pos rfl, if_pos hm]
  · refine ⟨h2, ?_, f.wd cm_NR, by rw [if_neg hm]; exact hσ2⟩
    simp only [n_170, e_170_0, e_170_1, e_170_2, e_170_5, e_170_8, e_170_9, e_170_10, e_170_13, e_170_16, e_170_17, e_170_18, e_170_21, e_170_24, e_170_26, e_170_27, e_170_28, e_170_29, e_170_30, e_170_31, e_170_34, e_170_37, e_170_39, e_170_40, e_170_41, e_170_42, e_170_43, e_170_46, e_170_47, e_170_48, e_170_51, e_170_54, Option.bind_some, Option.toList_some, Option.toList_none, List.cons_append, List.nil_append, am_k1_i, am_k1_r, am_k1_u, am_k1_n, am_bo0, am_bo1, am_boi, am_ev_tb, am_tb_nil, am_rfs, am_rfn, eq_self, and_self, if_true, if_false, show ¬ (1 : Int32) = 0 from by decide, show ¬ (0 : Int32) = 1 from by decide, not_true, not_false_eq_true, and_true, true_and, and_false, false_and, or_true, true_or, or_false, false_or, cm_ob l, m_isPerson3 l hσ, m_isDeed3 l hσ, hv, hv1, hv2, e, hm, Bool.false_eq_true]
theorem m_rnd_l (l : cm_Lay G h m) (hσ : am_i h (m + 1) = σ) (hs : mt_wf σ n nd nt) {p : Nat} (hp : p < nd) : ∀ j q h' x4 x5, q + j = n → am_fr (cm_R m) h h' → am_i h' (m + 1) = mt_rnd σ n nt p q → ∃ h2, am_ev G (d + 5) 176 4 [some (.ref m), some (.int (nI p)), some (.int (mt_rnd σ n nt p q (66 + 6 * p + 4) - σ (66 + 6 * p + 4))), some (.int (nI q)), x4, x5] [] h' = some (some (.int (mt_rnd σ n nt p n (66 + 6 * p + 4) - σ (66 + 6 * p + 4))), h2) ∧ am_fr (cm_R m) h h2 ∧ am_i h2 (m + 1) = mt_rnd σ n nt p n := by
  have hnd := hs.1.2.1.2
  have hn := hs.1.1.2
  intro j
  induction j with
  | zero =>
    intro q h' x4 x5 hq hf hi
    obtain rfl : q = n := by omega
    have l' := l.fr hf
    have i0 : am_ia G h' (m + 1) 0 := cm_ia1 l' (show 0 < 3114 by omega)
    refine ⟨h', ?_, hf, hi⟩
    rw [e_176_4]
    simp only [n_176, e_176_0, f_176_1, e_176_2, f_176_3, e_176_5, e_176_6, e_176_9, e_176_10, e_176_11, e_176_14, e_176_15, e_176_18, e_176_20, f_176_21, e_176_23, e_176_25, e_176_26, e_176_27, e_176_28, e_176_31, e_176_34, e_176_35, e_176_36, e_176_37, e_176_40, f_176_44, e_176_46, e_176_48, e_176_51, e_176_52, e_176_53, e_176_55, f_176_58, f_176_61, e_176_64, e_176_43, e_176_67, e_176_68, Option.bind_some, Option.toList_some, Option.toList_none, List.cons_append, List.nil_append, am_k1_i, am_k1_r, am_k1_u, am_k1_n, am_bo0, am_bo1, am_boi, am_ev_tb, am_tb_nil, am_rfs, am_rfn, eq_self, and_self, if_true, if_false, show ¬ (1 : Int32) = 0 from by decide, show ¬ (0 : Int32) = 1 from by decide, not_true, not_false_eq_true, and_true, true_and, and_false, false_and, or_true, true_or, or_false, false_or, cm_ob l', cm_r0 l', i0, show (0 : Int32).toNatClampNeg = 0 from rfl, hi, (mt_wf_rnd hs hp q).1.1.1, Int32.le_refl]
  | succ j ih =>
    intro q h' x4 x5 hq hf hi
    have l' := l.fr hf
    have i0 : am_ia G h' (m + 1) 0 := cm_ia1 l' (show 0 < 3114 by omega)
    have hlt : ¬ nI n ≤ nI q := nI_ge (by omega) (by omega)
    have hst := ih (q + 1)
    rw [mt_rnd] at hst
    have hw := mt_wf_rnd hs hp q
    generalize mt_rnd σ n nt p q = τ at *
    have ed := m_drawn3 (d := d + 4) l' hi
    have l1 : cm_Lay G (am_pa h' (m + 1) (upd τ 4 (mt_z (τ 4)))) m := l'
    have s1 : am_i (am_pa h' (m + 1) (upd τ 4 (mt_z (τ 4)))) (m + 1) = upd τ 4 (mt_z (τ 4)) := by rw [am_pa_i, if_pos rfl]
    have f1 : am_fr (cm_R m) h' (am_pa h' (m + 1) (upd τ 4 (mt_z (τ 4)))) := am_fr.pa (Or.inl rfl)
    generalize am_pa h' (m + 1) (upd τ 4 (mt_z (τ 4))) = h1 at *
    have hw1 : mt_wf (upd τ 4 (mt_z (τ 4))) n nd nt := mt_wf_34 (Or.inr rfl) hw
    obtain ⟨h2, e2, f2⟩ := m_boldness (d := d + 2) l1 s1 hw1 (show q < n by omega) hp
    have l2 := l1.fr f2
    have s2 := (f2.i1 (cm_N1 (show 1 < 14 ∨ 15 < 1 by omega))).trans s1
    have fin : ∀ h3, am_fr (cm_R m) h1 h3 → am_i h3 (m + 1) = mt_rnd1 τ n nt p q → ∀ y4 y5, ∃ h4, am_ev G (d + 5) 176 4 [some (.ref m), some (.int (nI p)), some (.int (mt_rnd1 τ n nt p q (66 + 6 * p + 4) - σ (66 + 6 * p + 4))), some (.int (nI (q + 1))), y4, y5] [] h3 = some (some (.int (mt_rnd σ n nt p n (66 + 6 * p + 4) - σ (66 + 6 * p + 4))), h4) ∧ am_fr (cm_R m) h h4 ∧ am_i h4 (m + 1) = mt_rnd σ n nt p n := fun h3 f3 hi3 y4 y5 => hst h3 y4 y5 (by omega) ((hf.tr f1).tr f3) hi3
    have hz4 : mt_rem (mt_dr (τ 4)) 100 = mt_dr (τ 4) - mt_dr (τ 4) / 100 * 100 := rfl
    have u4 : upd τ 4 (mt_z (τ 4)) (66 + 6 * p + 4) = τ (66 + 6 * p + 4) := by rw [pk_un (by omega)]
    unfold mt_rnd1 at fin
    by_cases hb : mt_rem (mt_dr (τ 4)) 100 < mt_bold (upd τ 4 (mt_z (τ 4))) nt q p
    · have hch : mt_ch1 τ n nt p q = mt_choice (upd τ 4 (mt_z (τ 4))) n nt q p := if_pos hb
      rw [hch] at fin
      obtain ⟨h3, e3, f3⟩ := m_choiceOf (d := d) l2 s2 hw1 (show q < n by omega) hp
      have l3 := l2.fr f3
      have s3 := (f3.i1 (cm_N1 (show 1 < 14 ∨ 15 < 1 by omega))).trans s2
      have f13 : am_fr (cm_R m) h1 h3 := (f2.wd cm_NR).tr (f3.wd cm_NR)
      have base : am_ev G (d + 5) 176 4 [some (.ref m), some (.int (nI p)), some (.int (τ (66 + 6 * p + 4) - σ (66 + 6 * p + 4))), some (.int (nI q)), x4, x5] [] h' = am_ev G (d + 5) 176 46 [some (.ref m), some (.int (nI p)), some (.int (τ (66 + 6 * p + 4) - σ (66 + 6 * p + 4))), some (.int (nI q)), some (.int (mt_rem (mt_dr (τ 4)) 100)), some (.int (mt_choice (upd τ 4 (mt_z (τ 4))) n nt q p))] [] h3 := by
        rw [e_176_4]
        simp only [n_176, e_176_0, f_176_1, e_176_2, f_176_3, e_176_5, e_176_6, e_176_9, e_176_10, e_176_11, e_176_14, e_176_15, e_176_18, e_176_20, f_176_21, e_176_23, e_176_25, e_176_26, e_176_27, e_176_28, e_176_31, e_176_34, e_176_35, e_176_36, e_176_37, e_176_40, f_176_44, e_176_48, e_176_51, e_176_52, e_176_53, e_176_55, f_176_58, f_176_61, e_176_64, e_176_43, e_176_67, e_176_68, Option.bind_some, Option.toList_some, Option.toList_none, List.cons_append, List.nil_append, am_k1_i, am_k1_r, am_k1_u, am_k1_n, am_bo0, am_bo1, am_boi, am_ev_tb, am_tb_nil, am_rfs, am_rfn, eq_self, and_self, if_true, if_false, show ¬ (1 : Int32) = 0 from by decide, show ¬ (0 : Int32) = 1 from by decide, not_true, not_false_eq_true, and_true, true_and, and_false, false_and, or_true, true_or, or_false, false_or, cm_ob l', cm_ob l1, cm_ob l2, cm_r0 l', i0, show (0 : Int32).toNatClampNeg = 0 from rfl, hi, hw.1.1.1, hlt, ed, show ¬ (100 : Int32) = 0 from by decide, ← hz4, e2, Int32.not_le.mpr hb, e3]
      rw [base, e_176_46]
      rcases mt_choice_in (σ := upd τ 4 (mt_z (τ 4))) (nt := nt) (s := q) (p := p) hn with hc | ⟨i, hi2, hc⟩
      · rw [hc] at fin ⊢
        rw [if_neg (by decide), u4] at fin
        simp only [n_176, e_176_0, f_176_1, e_176_2, f_176_3, e_176_5, e_176_6, e_176_9, e_176_10, e_176_11, e_176_14, e_176_15, e_176_18, e_176_20, f_176_21, e_176_23, e_176_25, e_176_26, e_176_27, e_176_28, e_176_31, e_176_34, e_176_35, e_176_36, e_176_37, e_176_40, f_176_44, e_176_48, e_176_51, e_176_52, e_176_53, e_176_55, f_176_58, f_176_61, e_176_64, e_176_43, e_176_67, e_176_68, Option.bind_some, Option.toList_some, Option.toList_none, List.cons_append, List.nil_append, am_k1_i, am_k1_r, am_k1_u, am_k1_n, am_bo0, am_bo1, am_boi, am_ev_tb, am_tb_nil, am_rfs, am_rfn, eq_self, and_self, if_true, if_false, show ¬ (1 : Int32) = 0 from by decide, show ¬ (0 : Int32) = 1 from by decide, not_true, not_false_eq_true, and_true, true_and, and_false, false_and, or_true, true_or, or_false, false_or, show (-1 : Int32) < 0 from by decide, nI_1]
        exact fin h3 f13 s3 _ _
      · rw [hc] at fin ⊢
        rw [if_pos (nI_pos' (by omega)), am_cl (show i < 2147483648 by omega)] at fin
        simp only [n_176, e_176_0, f_176_1, e_176_2, f_176_3, e_176_5, e_176_6, e_176_9, e_176_10, e_176_11, e_176_14, e_176_15, e_176_18, e_176_20, f_176_21, e_176_23, e_176_25, e_176_26, e_176_27, e_176_28, e_176_31, e_176_34, e_176_35, e_176_36, e_176_37, e_176_40, f_176_44, e_176_48, e_176_51, e_176_52, e_176_53, e_176_55, f_176_58, f_176_61, e_176_64, e_176_43, e_176_67, e_176_68, Option.bind_some, Option.toList_some, Option.toList_none, List.cons_append, List.nil_append, am_k1_i, am_k1_r, am_k1_u, am_k1_n, am_bo0, am_bo1, am_boi, am_ev_tb, am_tb_nil, am_rfs, am_rfn, eq_self, and_self, if_true, if_false, show ¬ (1 : Int32) = 0 from by decide, show ¬ (0 : Int32) = 1 from by decide, not_true, not_false_eq_true, and_true, true_and, and_false, false_and, or_true, true_or, or_false, false_or, nI_pos (show i < 2147483648 by omega), cm_ob l3, m_says l3 s3 hw1 hp hi2, nI_1]
        rw [← mt_sub1]
        have e5 : mt_says (upd τ 4 (mt_z (τ 4))) n p i (66 + 6 * p + 4) = τ (66 + 6 * p + 4) + 1 := by
          unfold mt_says
          rw [pk_un (by omega), pk_us, u4]
        rw [← e5]
        exact fin _ (f13.tr (am_fr.pa (Or.inl rfl))) (by rw [am_pa_i, if_pos rfl]) _ _
    · have hch : mt_ch1 τ n nt p q = -1 := if_neg hb
      rw [hch, if_neg (by decide), u4] at fin
      rw [e_176_4]
      simp only [n_176, e_176_0, f_176_1, e_176_2, f_176_3, e_176_5, e_176_6, e_176_9, e_176_10, e_176_11, e_176_14, e_176_15, e_176_18, e_176_20, f_176_21, e_176_23, e_176_25, e_176_26, e_176_27, e_176_28, e_176_31, e_176_34, e_176_35, e_176_36, e_176_37, e_176_40, f_176_44, e_176_46, e_176_48, e_176_51, e_176_52, e_176_53, e_176_55, f_176_58, f_176_61, e_176_64, e_176_43, e_176_67, e_176_68, Option.bind_some, Option.toList_some, Option.toList_none, List.cons_append, List.nil_append, am_k1_i, am_k1_r, am_k1_u, am_k1_n, am_bo0, am_bo1, am_boi, am_ev_tb, am_tb_nil, am_rfs, am_rfn, eq_self, and_self, if_true, if_false, show ¬ (1 : Int32) = 0 from by decide, show ¬ (0 : Int32) = 1 from by decide, not_true, not_false_eq_true, and_true, true_and, and_false, false_and, or_true, true_or, or_false, false_or, cm_ob l', cm_ob l1, cm_ob l2, cm_r0 l', i0, show (0 : Int32).toNatClampNeg = 0 from rfl, hi, hw.1.1.1, hlt, ed, show ¬ (100 : Int32) = 0 from by decide, ← hz4, e2, Int32.not_lt.mp hb, show (-1 : Int32) < 0 from by decide, nI_1]
      exact fin h2 (f2.wd cm_NR) s2 _ _
theorem m_rounded (l : cm_Lay G h m) (hσ : am_i h (m + 1) = σ) (hs : mt_wf σ n nd nt) {p : Nat} (hp : p < nd) : ∃ h2, am_evm G (d + 5) 176 [.ref m, .int (nI p)] h = some (some (.int (mt_rnd σ n nt p n (66 + 6 * p + 4) - σ (66 + 6 * p + 4))), h2) ∧ am_fr (cm_R m) h h2 ∧ am_i h2 (m + 1) = mt_rnd σ n nt p n := by
  obtain ⟨h2, e, f, i⟩ := m_rnd_l (d := d) l hσ hs hp n 0 h none none (by omega) am_fr.rf hσ
  refine ⟨h2, ?_, f, i⟩
  rw [mt_rnd, mt_sub0] at e
  simp only [n_176, e_176_0, f_176_1, e_176_2, f_176_3, e_176_5, e_176_6, e_176_9, e_176_10, e_176_11, e_176_14, e_176_15, e_176_18, e_176_20, f_176_21, e_176_23, e_176_25, e_176_26, e_176_27, e_176_28, e_176_31, e_176_34, e_176_35, e_176_36, e_176_37, e_176_40, f_176_44, e_176_46, e_176_48, e_176_51, e_176_52, e_176_53, e_176_55, f_176_58, f_176_61, e_176_64, e_176_43, e_176_67, e_176_68, Option.bind_some, Option.toList_some, Option.toList_none, List.cons_append, List.nil_append, am_k1_i, am_k1_r, am_k1_u, am_k1_n, am_bo0, am_bo1, am_boi, am_ev_tb, am_tb_nil, am_rfs, am_rfn, eq_self]
  exact e
theorem m_rounds0 (l : cm_Lay G h m) {v w : Int32} (hv : ¬ ((0 ≤ v ∧ v ≤ am_i h (m + 1) 1 - 1) ∧ 1 ≤ w ∧ w ≤ 40)) : am_evm G (d + 6) 177 [.ref m, .int v, .int w] h = some (some (.int (-1000000001)), h) := by
  by_cases h1 : 0 ≤ v ∧ v ≤ am_i h (m + 1) 1 - 1
  · have h2 : ¬ (1 ≤ w ∧ w ≤ 40) := fun z => hv ⟨h1, z⟩
    simp only [n_177, e_177_0, e_177_1, e_177_2, e_177_5, e_177_8, e_177_9, e_177_10, e_177_11, e_177_14, e_177_17, e_177_20, e_177_22, e_177_23, f_177_24, e_177_25, f_177_26, e_177_28, e_177_30, e_177_31, e_177_34, e_177_35, e_177_36, e_177_37, e_177_40, f_177_41, f_177_42, e_177_45, e_177_48, e_177_49, Option.bind_some, Option.toList_some, Option.toList_none, List.cons_append, List.nil_append, am_k1_i, am_k1_r, am_k1_u, am_k1_n, am_bo0, am_bo1, am_boi, am_ev_tb, am_tb_nil, am_rfs, am_rfn, eq_self, and_self, if_true, if_false, show ¬ (1 : Int32) = 0 from by decide, show ¬ (0 : Int32) = 1 from by decide, not_true, not_false_eq_true, and_true, true_and, and_false, false_and, or_true, true_or, or_false, false_or, cm_ob l, m_isDeed l, h1, h2, m_i1_40]
  · simp only [n_177, e_177_0, e_177_1, e_177_2, e_177_5, e_177_8, e_177_9, e_177_10, e_177_11, e_177_14, e_177_17, e_177_20, e_177_22, e_177_23, f_177_24, e_177_25, f_177_26, e_177_28, e_177_30, e_177_31, e_177_34, e_177_35, e_177_36, e_177_37, e_177_40, f_177_41, f_177_42, e_177_45, e_177_48, e_177_49, Option.bind_some, Option.toList_some, Option.toList_none, List.cons_append, List.nil_append, am_k1_i, am_k1_r, am_k1_u, am_k1_n, am_bo0, am_bo1, am_boi, am_ev_tb, am_tb_nil, am_rfs, am_rfn, eq_self, and_self, if_true, if_false, show ¬ (1 : Int32) = 0 from by decide, show ¬ (0 : Int32) = 1 from by decide, not_true, not_false_eq_true, and_true, true_and, and_false, false_and, or_true, true_or, or_false, false_or, cm_ob l, m_isDeed l, h1]
theorem m_rounds_l (l : cm_Lay G h m) (hσ : am_i h (m + 1) = σ) (hs : mt_wf σ n nd nt) {p w : Nat} (hp : p < nd) (hw : w ≤ 40) : ∀ j k h', k + j = w → am_fr (cm_R m) h h' → am_i h' (m + 1) = mt_rnds σ n nt p k → ∃ h2, am_ev G (d + 6) 177 28 [some (.ref m), some (.int (nI p)), some (.int (nI w)), some (.int (mt_rnds σ n nt p k (66 + 6 * p + 4) - σ (66 + 6 * p + 4))), some (.int (nI k))] [] h' = some (some (.int (mt_rnds σ n nt p w (66 + 6 * p + 4) - σ (66 + 6 * p + 4))), h2) ∧ am_fr (cm_R m) h h2 ∧ am_i h2 (m + 1) = mt_rnds σ n nt p w := by
  intro j
  induction j with
  | zero =>
    intro k h' hk hf hi
    obtain rfl : k = w := by omega
    refine ⟨h', ?_, hf, hi⟩
    rw [e_177_28]
    simp only [n_177, e_177_0, e_177_1, e_177_2, e_177_5, e_177_8, e_177_9, e_177_10, e_177_11, e_177_14, e_177_17, e_177_20, e_177_22, e_177_23, f_177_24, e_177_25, f_177_26, e_177_30, e_177_31, e_177_34, e_177_35, e_177_36, e_177_37, e_177_40, f_177_41, f_177_42, e_177_45, e_177_48, e_177_49, Option.bind_some, Option.toList_some, Option.toList_none, List.cons_append, List.nil_append, am_k1_i, am_k1_r, am_k1_u, am_k1_n, am_bo0, am_bo1, am_boi, am_ev_tb, am_tb_nil, am_rfs, am_rfn, eq_self, and_self, if_true, if_false, show ¬ (1 : Int32) = 0 from by decide, show ¬ (0 : Int32) = 1 from by decide, not_true, not_false_eq_true, and_true, true_and, and_false, false_and, or_true, true_or, or_false, false_or, Int32.le_refl]
  | succ j ih =>
    intro k h' hk hf hi
    have l' := l.fr hf
    have hlt : ¬ nI w ≤ nI k := nI_ge (by omega) (by omega)
    obtain ⟨h2, e, f, i⟩ := m_rounded (d := d) l' hi (mt_wf_rnds hs hp k) hp
    obtain ⟨h3, e3, f3, i3⟩ := ih (k + 1) h2 (by omega) (hf.tr f) i
    refine ⟨h3, ?_, f3, i3⟩
    rw [← e3, e_177_28]
    simp only [n_177, e_177_0, e_177_1, e_177_2, e_177_5, e_177_8, e_177_9, e_177_10, e_177_11, e_177_14, e_177_17, e_177_20, e_177_22, e_177_23, f_177_24, e_177_25, f_177_26, e_177_30, e_177_31, e_177_34, e_177_35, e_177_36, e_177_37, e_177_40, f_177_41, f_177_42, e_177_45, e_177_48, e_177_49, Option.bind_some, Option.toList_some, Option.toList_none, List.cons_append, List.nil_append, am_k1_i, am_k1_r, am_k1_u, am_k1_n, am_bo0, am_bo1, am_boi, am_ev_tb, am_tb_nil, am_rfs, am_rfn, eq_self, and_self, if_true, if_false, show ¬ (1 : Int32) = 0 from by decide, show ¬ (0 : Int32) = 1 from by decide, not_true, not_false_eq_true, and_true, true_and, and_false, false_and, or_true, true_or, or_false, false_or, hlt, cm_ob l', e, nI_1, mt_subs]
    rfl
theorem m_rounds (l : cm_Lay G h m) (hσ : am_i h (m + 1) = σ) (hs : mt_wf σ n nd nt) {p w : Nat} (hp : p < nd) (hw1 : 1 ≤ w) (hw : w ≤ 40) : ∃ h2, am_evm G (d + 6) 177 [.ref m, .int (nI p), .int (nI w)] h = some (some (.int (mt_rnds σ n nt p w (66 + 6 * p + 4) - σ (66 + 6 * p + 4))), h2) ∧ am_fr (cm_R m) h h2 ∧ am_i h2 (m + 1) = mt_rnds σ n nt p w := by
  have hv := mt_inD hs hp
  have hv2 : (1 : Int32) ≤ nI w ∧ nI w ≤ 40 := ⟨nI_le (a := 1) hw1 (by omega), nI_le (b := 40) hw (by decide)⟩
  obtain ⟨h2, e, f, i⟩ := m_rounds_l (d := d) l hσ hs hp hw w 0 h (by omega) am_fr.rf hσ
  refine ⟨h2, ?_, f, i⟩
  rw [mt_rnds, mt_sub0] at e
  simp only [n_177, e_177_0, e_177_1, e_177_2, e_177_5, e_177_8, e_177_9, e_177_10, e_177_11, e_177_14, e_177_17, e_177_20, e_177_22, e_177_23, f_177_24, e_177_25, f_177_26, e_177_30, e_177_31, e_177_34, e_177_35, e_177_36, e_177_37, e_177_40, f_177_41, f_177_42, e_177_45, e_177_48, e_177_49, Option.bind_some, Option.toList_some, Option.toList_none, List.cons_append, List.nil_append, am_k1_i, am_k1_r, am_k1_u, am_k1_n, am_bo0, am_bo1, am_boi, am_ev_tb, am_tb_nil, am_rfs, am_rfn, eq_self, and_self, if_true, if_false, show ¬ (1 : Int32) = 0 from by decide, show ¬ (0 : Int32) = 1 from by decide, not_true, not_false_eq_true, and_true, true_and, and_false, false_and, or_true, true_or, or_false, false_or, cm_ob l, m_isDeed3 l hσ, hv, hv2, m_i1_40]
  exact e
end CZ4
