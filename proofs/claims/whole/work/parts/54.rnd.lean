/-! the class: a hall that changes -/
theorem cl_T1.cg {G : Nat → Nat} {h : am_H} {b t : Nat} {σ τ : Nat → Int32} (x : cl_T1 G h b σ t) (ht : t < 14) (he : ∀ j, 114 ≤ j → j < 2914 → σ j = τ j) : cl_T1 G h b τ t := by
  obtain ⟨c, key, L, h1, ⟨h4, h5, h6⟩, h7, hx, hk⟩ := x
  have hL := hx.2.1.2
  refine ⟨c, key, L, h1, ⟨by rw [← he _ (by omega) (by omega)]; exact h4, by rw [← he _ (by omega) (by omega)]; exact h5, h6⟩, h7, mt_txt_congr (fun j h1 h2 => he j (by omega) (by omega)) hx, fun k hk2 => ?_⟩
  have := hk k hk2
  unfold mt_w mt_v at this ⊢
  rw [← he _ (by omega) (by omega), ← he _ (by omega) (by omega)]
  exact this
theorem mt_last_congr {σ τ : Nat → Int32} {key : Int32} : ∀ nt, (∀ t, t < nt → σ (114 + 200 * t) = τ (114 + 200 * t)) → mt_last σ key nt = mt_last τ key nt := by
  intro nt
  induction nt with
  | zero => intro _; rfl
  | succ nt ih => intro hh; rw [mt_last, mt_last, hh nt (by omega), ih (fun t ht => hh t (by omega))]
def cl_H (a : Nat) : Nat → Prop := fun b => a ≤ b ∧ b ≤ a + 25
theorem cl_K_H {a : Nat} : ∀ b, cl_K a b → cl_H a b := fun b hb => by
  have : b = a + 5 := hb
  exact ⟨by omega, by omega⟩
/-- a hall beside another row: texts as they were -/
theorem cl_R.ch {G : Nat → Nat} {h h2 : am_H} {a n nd nt n2 nd2 : Nat} {σ τ : Nat → Int32} {S : Nat → Prop} (r : cl_R G h a σ n nd nt) (hnt : nt ≤ 14) (f : am_fr S h h2) (hS : ∀ b, S b → b < G 0 + 136 ∧ b ≠ a + 4) (hc : am_i h2 a 5 = τ 0 ∧ am_i h2 a 6 = τ 1 ∧ am_i h2 a 7 = τ 2 ∧ am_i h2 a 8 = τ 3 ∧ am_i h2 a 9 = τ 4) (hp : ∀ p, p < n2 → (∀ j, j < 5 → am_i h2 (a + 6 + p) j = τ (6 + 5 * p + j)) ∧ am_i h2 (a + 6 + p) 5 = mt_fol (mt_T τ) n2 p) (hq : ∀ q, q < nd2 → ∀ j, j < 6 → am_i h2 (a + 18 + q) j = τ (66 + 6 * q + j)) (he : ∀ j, 114 ≤ j → j < 2914 → σ j = τ j) : cl_R G h2 a τ n2 nd2 nt := by
  obtain ⟨l, _, _, _, ht, hk⟩ := r
  refine ⟨l.fr f, hc, hp, hq, fun t ht2 => ?_, fun k hk2 => ?_⟩
  · obtain ⟨b, h1, h3⟩ := ht t ht2
    exact ⟨b, by rw [f.2.2.2.1]; exact h1, (h3.fr f (fun b hb => (hS b hb).1)).cg (by omega) he⟩
  · rw [f.i1 (fun z => (hS _ z).2 rfl), ← mt_last_congr nt (fun t ht => he _ (by omega) (by omega))]
    exact hk k hk2
section CU
variable {G : Nat → Nat} {d : Nat} {h : am_H} {a : Nat} {σ : Nat → Int32} {n nd nt : Nat}
/-- a place of a deed -/
theorem cl_R.pd' (r : cl_R G h a σ n nd nt) (hn : n ≤ 12) (hd : nd ≤ 8) (ht : nt ≤ 14) (ha : a + 25 < G 0 + 136) {q j : Nat} {v : Int32} (hq : q < nd) (hj : j < 6) : cl_R G (am_pi h (a + 18 + q) j v) a (upd σ (66 + 6 * q + j) v) n nd nt := by
  have i1 : ∀ b, b ≠ a + 18 + q → am_i (am_pi h (a + 18 + q) j v) b = am_i h b := fun b hb => (am_pi_o b hb).1
  refine r.ch ht (am_fr.pi (S := fun b => b = a + 18 + q) rfl) (fun b hb => ⟨by have : b = a + 18 + q := hb; omega, by have : b = a + 18 + q := hb; omega⟩) ?_ (fun p hp => ?_) (fun q2 hq2 j2 hj2 => ?_) (fun k h1 h2 => by rw [pk_un (by omega)])
  · rw [i1 a (by omega), pk_un (by omega), pk_un (by omega), pk_un (by omega), pk_un (by omega), pk_un (by omega)]
    exact r.2.1
  · rw [i1 (a + 6 + p) (by omega)]
    refine ⟨fun j2 hj2 => by rw [pk_un (by omega)]; exact cr_p r hp hj2, ?_⟩
    rw [cr_f r hp]
    exact mt_fol_congr hp (fun q2 hq2 => by unfold mt_T; rw [pk_un (by omega)])
  · rw [am_pi_i]
    by_cases e : q2 = q ∧ j2 = j
    · obtain ⟨rfl, rfl⟩ := e
      rw [if_pos ⟨rfl, rfl⟩, pk_us]
    · rw [if_neg (fun z => e ⟨by omega, z.2⟩), pk_un (fun z => e ⟨by omega, by omega⟩)]
      exact cr_d r hq2 hj2
theorem cl_R.pd (r : cl_R G h a σ n nd nt) (hs : mt_wf σ n nd nt) (ha : a + 25 < G 0 + 136) {q j : Nat} {v : Int32} (hq : q < nd) (hj : j < 6) : cl_R G (am_pi h (a + 18 + q) j v) a (upd σ (66 + 6 * q + j) v) n nd nt := r.pd' hs.1.1.2 hs.1.2.1.2 hs.1.2.2.2 ha hq hj
/-- a place of a person but whom it tells to follow -/
theorem cl_R.pp' (r : cl_R G h a σ n nd nt) (hn : n ≤ 12) (hd : nd ≤ 8) (ht : nt ≤ 14) (ha : a + 25 < G 0 + 136) {q j : Nat} {v : Int32} (hq : q < n) (hj : j < 4) : cl_R G (am_pi h (a + 6 + q) j v) a (upd σ (6 + 5 * q + j) v) n nd nt := by
  have i1 : ∀ b, b ≠ a + 6 + q → am_i (am_pi h (a + 6 + q) j v) b = am_i h b := fun b hb => (am_pi_o b hb).1
  refine r.ch ht (am_fr.pi (S := fun b => b = a + 6 + q) rfl) (fun b hb => ⟨by have : b = a + 6 + q := hb; omega, by have : b = a + 6 + q := hb; omega⟩) ?_ (fun p hp => ?_) (fun q2 hq2 j2 hj2 => ?_) (fun k h1 h2 => by rw [pk_un (by omega)])
  · rw [i1 a (by omega), pk_un (by omega), pk_un (by omega), pk_un (by omega), pk_un (by omega), pk_un (by omega)]
    exact r.2.1
  · constructor
    · intro j2 hj2
      rw [am_pi_i]
      by_cases e : p = q ∧ j2 = j
      · obtain ⟨rfl, rfl⟩ := e
        rw [if_pos ⟨rfl, rfl⟩, pk_us]
      · rw [if_neg (fun z => e ⟨by omega, z.2⟩), pk_un (fun z => e ⟨by omega, by omega⟩)]
        exact cr_p r hp hj2
    · rw [am_pi_i, if_neg (by omega), cr_f r hp]
      exact mt_fol_congr hp (fun q2 hq2 => by unfold mt_T; rw [pk_un (by omega)])
  · rw [i1 (a + 18 + q2) (by omega), pk_un (by omega)]
    exact cr_d r hq2 hj2
theorem cl_R.pp (r : cl_R G h a σ n nd nt) (hs : mt_wf σ n nd nt) (ha : a + 25 < G 0 + 136) {q j : Nat} {v : Int32} (hq : q < n) (hj : j < 4) : cl_R G (am_pi h (a + 6 + q) j v) a (upd σ (6 + 5 * q + j) v) n nd nt := r.pp' hs.1.1.2 hs.1.2.1.2 hs.1.2.2.2 ha hq hj
/-- z, STOP -/
theorem cl_R.pz (r : cl_R G h a σ n nd nt) (hs : mt_wf σ n nd nt) (ha : a + 25 < G 0 + 136) {k : Nat} {v : Int32} (hk : k = 3 ∨ k = 4) : cl_R G (am_pi h a (k + 5) v) a (upd σ k v) n nd nt := by
  have hd := hs.1.2.1.2
  have hn := hs.1.1.2
  have i1 : ∀ b, b ≠ a → am_i (am_pi h a (k + 5) v) b = am_i h b := fun b hb => (am_pi_o b hb).1
  refine r.ch hs.1.2.2.2 (am_fr.pi (S := fun b => b = a) rfl) (fun b hb => ⟨by have : b = a := hb; omega, by have : b = a := hb; omega⟩) ?_ (fun p hp => ?_) (fun q2 hq2 j2 hj2 => ?_) (fun k h1 h2 => by rw [pk_un (by omega)])
  · obtain ⟨c0, c1, c2, c3, c4⟩ := r.2.1
    rcases hk with rfl | rfl
    · simp only [am_pi_i]
      exact ⟨by simp [c0, pk_un], by simp [c1, pk_un], by simp [c2, pk_un], by simp [pk_us], by simp [c4, pk_un]⟩
    · simp only [am_pi_i]
      exact ⟨by simp [c0, pk_un], by simp [c1, pk_un], by simp [c2, pk_un], by simp [c3, pk_un], by simp [pk_us]⟩
  · rw [i1 (a + 6 + p) (by omega)]
    refine ⟨fun j2 hj2 => by rw [pk_un (by omega)]; exact cr_p r hp hj2, ?_⟩
    rw [cr_f r hp]
    exact mt_fol_congr hp (fun q2 hq2 => by unfold mt_T; rw [pk_un (by omega)])
  · rw [i1 (a + 18 + q2) (by omega), pk_un (by omega)]
    exact cr_d r hq2 hj2
theorem c_draw3 (r : cl_R G h a σ n nd nt) : am_evm G d 15 [.ref a] h = some (some (.int (mt_dr (σ 4))), am_pi h a 9 (mt_z (σ 4))) := by
  rw [c_draw r.1, r.2.1.2.2.2.2]
  rfl
theorem mt_wf_3v {τ : Nat → Int32} {p : Nat} (hs : mt_wf τ n nd nt) (hp : p < nd) {j : Nat} {v : Int32} (hj : j = 4 ∨ j = 5) : mt_wf (upd τ (66 + 6 * p + j) v) n nd nt := by
  obtain ⟨⟨⟨a1, a2⟩, ⟨b1, b2⟩, c1, c2⟩, hP, hD, hT⟩ := hs
  refine ⟨⟨⟨by rw [pk_un (by omega)]; exact a1, a2⟩, ⟨by rw [pk_un (by omega)]; exact b1, b2⟩, by rw [pk_un (by omega)]; exact c1, c2⟩, mt_wfP_congr a2 (fun j h1 h => by rw [pk_un (by omega)]) hP, fun q hq => ?_, mt_wfT_congr c2 (fun j h1 h => by rw [pk_un (by omega)]) hT⟩
  rw [pk_un (by omega), pk_un (by omega)]
  exact hD q hq
theorem mt_wf_3g {τ : Nat → Int32} {p q : Nat} (hs : mt_wf τ n nd nt) (hp : p < nd) (hq : q < n) : mt_wf (upd τ (66 + 6 * p + 3) (τ (66 + 6 * p + 3) ||| mt_go τ n q)) n nd nt := by
  obtain ⟨⟨⟨a1, a2⟩, ⟨b1, b2⟩, c1, c2⟩, hP, hD, hT⟩ := hs
  refine ⟨⟨⟨by rw [pk_un (by omega)]; exact a1, a2⟩, ⟨by rw [pk_un (by omega)]; exact b1, b2⟩, by rw [pk_un (by omega)]; exact c1, c2⟩, mt_wfP_congr a2 (fun j h1 h => by rw [pk_un (by omega)]) hP, fun q2 hq2 => ?_, mt_wfT_congr c2 (fun j h1 h => by rw [pk_un (by omega)]) hT⟩
  obtain ⟨d1, d2⟩ := hD q2 hq2
  refine ⟨by rw [pk_un (by omega)]; exact d1, fun i hi hi2 => ?_⟩
  by_cases e : q2 = p
  · subst e
    rw [pk_us, b_or, d2 i hi hi2, Bool.false_or]
    cases hb : bt (mt_go τ n q) i with
    | false => rfl
    | true => have := mt_go_lt a2 hP hq hi2 hb; omega
  · rw [pk_un (by omega)]
    exact d2 i hi hi2
theorem c_takeSaying3 (r : cl_R G h a σ n nd nt) (hs : mt_wf σ n nd nt) (ha : a + 25 < G 0 + 136) {p q : Nat} (hp : p < nd) (hq : q < n) : ∃ h2, am_evm G d 4 [.ref (a + 18 + p), .int (mt_go σ n q)] h = some (none, h2) ∧ cl_R G h2 a (mt_says σ n p q) n nd nt ∧ am_fr (fun b => b = a + 18 + p) h h2 := by
  have hd := hs.1.2.1.2
  have r1 := r.pd hs ha (q := p) (j := 3) (v := σ (66 + 6 * p + 3) ||| mt_go σ n q) hp (by omega)
  have hs1 := mt_wf_3g hs hp hq
  have r2 := r1.pd hs1 ha (q := p) (j := 4) (v := σ (66 + 6 * p + 4) + 1) hp (by omega)
  have hs2 := mt_wf_3v hs1 hp (j := 4) (v := σ (66 + 6 * p + 4) + 1) (Or.inl rfl)
  rw [c_takeSaying r.1 (by omega), cr_d r hp (show 0 < 6 by omega), cr_d r hp (show 3 < 6 by omega), cr_d r hp (show 4 < 6 by omega), cr_d r hp (show 5 < 6 by omega)]
  refine ⟨_, rfl, ?_, ?_⟩
  · unfold mt_says
    by_cases hz : mt_go σ n q &&& σ (66 + 6 * p + 0) = 0
    · have : mt_lie σ n p q = false := by unfold mt_lie; rw [decide_eq_true hz]; rfl
      rw [if_pos hz, this]
      rw [show upd (upd (upd σ (66 + 6 * p + 3) (σ (66 + 6 * p + 3) ||| mt_go σ n q)) (66 + 6 * p + 4) (σ (66 + 6 * p + 4) + 1)) (66 + 6 * p + 5) (σ (66 + 6 * p + 5) + (if false = true then 1 else 0)) = upd (upd σ (66 + 6 * p + 3) (σ (66 + 6 * p + 3) ||| mt_go σ n q)) (66 + 6 * p + 4) (σ (66 + 6 * p + 4) + 1) from by
        funext k
        by_cases hk : k = 66 + 6 * p + 5
        · subst hk
          rw [pk_us, pk_un (by omega), pk_un (by omega)]
          simp
        · rw [pk_un hk]]
      exact r2
    · have : mt_lie σ n p q = true := by unfold mt_lie; rw [decide_eq_false hz]; rfl
      rw [if_neg hz, this, if_pos rfl]
      exact r2.pd hs2 ha hp (by omega)
  · split
    · exact (am_fr.pi (S := fun b => b = a + 18 + p) rfl).tr (am_fr.pi rfl)
    · exact ((am_fr.pi (S := fun b => b = a + 18 + p) rfl).tr (am_fr.pi rfl)).tr (am_fr.pi rfl)
theorem mt_nn_ge {c : Int32} : (c = -1 ∨ ∃ i, i < 12 ∧ c = nI i) → (mt_nn c = -1000000005 ↔ c = -1) := by
  rintro (rfl | ⟨i, hi, rfl⟩)
  · exact iff_of_true rfl rfl
  · have hne : ¬ nI i = -1 := fun z => by have := nI_pos' (n := i) (by omega); rw [z] at this; exact absurd this (by decide)
    have hne2 : ¬ nI i = -1000000005 := fun z => by have := nI_pos' (n := i) (by omega); rw [z] at this; exact absurd this (by decide)
    unfold mt_nn
    rw [if_neg hne]
    exact iff_of_false hne2 hne
theorem c_round_l (r : cl_R G h a σ n nd nt) (hs : mt_wf σ n nd nt) (ha : a + 25 < G 0 + 136) {p : Nat} (hp : p < nd) : ∀ j q h' x3, q + j = n → am_fr (cl_H a) h h' → cl_R G h' a (mt_rnd σ n nt p q) n nd nt → ∃ h2, am_ev G (d + 6) 32 2 [some (.ref a), some (.ref (a + 18 + p)), some (.int (nI q)), x3] [] h' = some (none, h2) ∧ cl_R G h2 a (mt_rnd σ n nt p n) n nd nt ∧ am_fr (cl_H a) h h2 := by
  have hd := hs.1.2.1.2
  have hn := hs.1.1.2
  intro j
  induction j with
  | zero =>
    intro q h' x3 hq hf r'
    obtain rfl : q = n := by omega
    refine ⟨h', ?_, r', hf⟩
    rw [e_32_2]
    simp only [n_32, e_32_0, f_32_1, e_32_3, e_32_4, e_32_7, e_32_10, e_32_11, e_32_14, e_32_16, e_32_17, e_32_18, e_32_19, e_32_20, e_32_23, e_32_26, e_32_27, e_32_28, e_32_29, f_32_32, e_32_33, e_32_34, e_32_36, e_32_39, e_32_40, e_32_41, e_32_42, e_32_45, f_32_48, e_32_51, e_32_54, Option.bind_some, Option.toList_some, Option.toList_none, List.cons_append, List.nil_append, am_k1_i, am_k1_r, am_k1_u, am_k1_n, am_bo0, am_bo1, am_boi, am_ev_tb, am_tb_nil, am_rfs, am_rfn, eq_self, and_self, if_true, if_false, show ¬ (1 : Int32) = 0 from by decide, show ¬ (0 : Int32) = 1 from by decide, not_true, not_false_eq_true, and_true, true_and, and_false, false_and, or_true, true_or, or_false, false_or, ha_ob r'.1, r'.2.1.1, (mt_wf_rnd hs hp q).1.1.1, Int32.le_refl]
  | succ j ih =>
    intro q h' x3 hq hf r'
    have hlt : ¬ nI n ≤ nI q := nI_ge (by omega) (by omega)
    have hst := ih (q + 1)
    rw [mt_rnd] at hst
    have hw := mt_wf_rnd hs hp q
    generalize mt_rnd σ n nt p q = τ at *
    have ed := c_draw3 (d := d + 5) r'
    have r1 : cl_R G (am_pi h' a 9 (mt_z (τ 4))) a (upd τ 4 (mt_z (τ 4))) n nd nt := r'.pz hw ha (Or.inr rfl)
    have hw1 : mt_wf (upd τ 4 (mt_z (τ 4))) n nd nt := mt_wf_34 (Or.inr rfl) hw
    have f1 : am_fr (cl_H a) h' (am_pi h' a 9 (mt_z (τ 4))) := am_fr.pi ⟨Nat.le_refl _, by omega⟩
    generalize am_pi h' a 9 (mt_z (τ 4)) = h1 at *
    obtain ⟨h2, e2, f2⟩ := c_boldOf (d := d + 2) r1 hw1 ha (show q < n by omega) hp
    have r2 := r1.fr hn hd f2 (cl_K_off ha)
    have hz4 : mt_rem (mt_dr (τ 4)) 100 = mt_dr (τ 4) - mt_dr (τ 4) / 100 * 100 := rfl
    have f12 := (hf.tr f1).tr (f2.wd cl_K_H)
    unfold mt_rnd1 at hst
    by_cases hb : mt_rem (mt_dr (τ 4)) 100 < mt_bold (upd τ 4 (mt_z (τ 4))) nt q p
    · have hch : mt_ch1 τ n nt p q = mt_choice (upd τ 4 (mt_z (τ 4))) n nt q p := if_pos hb
      rw [hch] at hst
      obtain ⟨h3, e3, f3⟩ := c_chosenBy (d := d) r2 hw1 ha (show q < n by omega) hp
      have r3 := r2.fr hn hd f3 (cl_K_off ha)
      have f13 := f12.tr (f3.wd cl_K_H)
      have hin := mt_choice_in (σ := upd τ 4 (mt_z (τ 4))) (nt := nt) (s := q) (p := p) hn
      have hnn := mt_nn_ge (hin.imp id (fun ⟨i, h1, h2⟩ => ⟨i, by omega, h2⟩))
      have base : am_ev G (d + 6) 32 2 [some (.ref a), some (.ref (a + 18 + p)), some (.int (nI q)), x3] [] h' = am_ev G (d + 6) 32 33 [some (.ref a), some (.ref (a + 18 + p)), some (.int (nI q)), some (.int (mt_nn (mt_choice (upd τ 4 (mt_z (τ 4))) n nt q p)))] [] h3 := by
        rw [e_32_2]
        simp only [n_32, e_32_0, f_32_1, e_32_3, e_32_4, e_32_7, e_32_10, e_32_11, e_32_14, e_32_16, e_32_17, e_32_18, e_32_19, e_32_20, e_32_23, e_32_26, e_32_27, e_32_28, e_32_29, f_32_32, e_32_34, e_32_36, e_32_39, e_32_40, e_32_41, e_32_42, e_32_45, f_32_48, e_32_51, e_32_54, Option.bind_some, Option.toList_some, Option.toList_none, List.cons_append, List.nil_append, am_k1_i, am_k1_r, am_k1_u, am_k1_n, am_bo0, am_bo1, am_boi, am_ev_tb, am_tb_nil, am_rfs, am_rfn, eq_self, and_self, if_true, if_false, show ¬ (1 : Int32) = 0 from by decide, show ¬ (0 : Int32) = 1 from by decide, not_true, not_false_eq_true, and_true, true_and, and_false, false_and, or_true, true_or, or_false, false_or, ha_ob r'.1, ha_ob r1.1, ha_ob r2.1, r'.2.1.1, hw.1.1.1, hlt, ed, show ¬ (100 : Int32) = 0 from by decide, ← hz4, e2, Int32.not_le.mpr hb, e3]
      rw [base, e_32_33]
      rcases hin with hc | ⟨i, hi, hc⟩
      · rw [hc] at hst ⊢
        rw [if_neg (by decide)] at hst
        simp only [n_32, e_32_0, f_32_1, e_32_3, e_32_4, e_32_7, e_32_10, e_32_11, e_32_14, e_32_16, e_32_17, e_32_18, e_32_19, e_32_20, e_32_23, e_32_26, e_32_27, e_32_28, e_32_29, f_32_32, e_32_34, e_32_36, e_32_39, e_32_40, e_32_41, e_32_42, e_32_45, f_32_48, e_32_51, e_32_54, Option.bind_some, Option.toList_some, Option.toList_none, List.cons_append, List.nil_append, am_k1_i, am_k1_r, am_k1_u, am_k1_n, am_bo0, am_bo1, am_boi, am_ev_tb, am_tb_nil, am_rfs, am_rfn, eq_self, and_self, if_true, if_false, show ¬ (1 : Int32) = 0 from by decide, show ¬ (0 : Int32) = 1 from by decide, not_true, not_false_eq_true, and_true, true_and, and_false, false_and, or_true, true_or, or_false, false_or, show mt_nn (-1) = -1000000005 from rfl, nI_1]
        exact hst h3 _ (by omega) f13 r3
      · rw [hc] at hst hnn ⊢
        have hne : ¬ nI i = -1 := fun z => by have := nI_pos' (n := i) (by omega); rw [z] at this; exact absurd this (by decide)
        have hne2 : ¬ mt_nn (nI i) = -1000000005 := fun z => hne (hnn.mp z)
        have hnne : mt_nn (nI i) = nI i := if_neg hne
        rw [if_pos (nI_pos' (by omega)), am_cl (show i < 2147483648 by omega)] at hst
        obtain ⟨h4, e4, r4, f4⟩ := c_takeSaying3 (d := d + 5) r3 hw1 ha hp hi
        rw [hnne] at hne2 ⊢
        simp only [n_32, e_32_0, f_32_1, e_32_3, e_32_4, e_32_7, e_32_10, e_32_11, e_32_14, e_32_16, e_32_17, e_32_18, e_32_19, e_32_20, e_32_23, e_32_26, e_32_27, e_32_28, e_32_29, f_32_32, e_32_34, e_32_36, e_32_39, e_32_40, e_32_41, e_32_42, e_32_45, f_32_48, e_32_51, e_32_54, Option.bind_some, Option.toList_some, Option.toList_none, List.cons_append, List.nil_append, am_k1_i, am_k1_r, am_k1_u, am_k1_n, am_bo0, am_bo1, am_boi, am_ev_tb, am_tb_nil, am_rfs, am_rfn, eq_self, and_self, if_true, if_false, show ¬ (1 : Int32) = 0 from by decide, show ¬ (0 : Int32) = 1 from by decide, not_true, not_false_eq_true, and_true, true_and, and_false, false_and, or_true, true_or, or_false, false_or, hne2, ha_d3 r3.1 (show p < 8 by omega), ha_ob r3.1, c_goersBy3 r3 hn hi, e4, nI_1]
        exact hst h4 _ (by omega) (f13.tr (f4.wd (fun b hb => ⟨by omega, by omega⟩))) r4
    · have hch : mt_ch1 τ n nt p q = -1 := if_neg hb
      rw [hch, if_neg (by decide)] at hst
      rw [e_32_2]
      simp only [n_32, e_32_0, f_32_1, e_32_3, e_32_4, e_32_7, e_32_10, e_32_11, e_32_14, e_32_16, e_32_17, e_32_18, e_32_19, e_32_20, e_32_23, e_32_26, e_32_27, e_32_28, e_32_29, f_32_32, e_32_34, e_32_36, e_32_39, e_32_40, e_32_41, e_32_42, e_32_45, f_32_48, e_32_51, e_32_54, Option.bind_some, Option.toList_some, Option.toList_none, List.cons_append, List.nil_append, am_k1_i, am_k1_r, am_k1_u, am_k1_n, am_bo0, am_bo1, am_boi, am_ev_tb, am_tb_nil, am_rfs, am_rfn, eq_self, and_self, if_true, if_false, show ¬ (1 : Int32) = 0 from by decide, show ¬ (0 : Int32) = 1 from by decide, not_true, not_false_eq_true, and_true, true_and, and_false, false_and, or_true, true_or, or_false, false_or, ha_ob r'.1, ha_ob r1.1, r'.2.1.1, hw.1.1.1, hlt, ed, show ¬ (100 : Int32) = 0 from by decide, ← hz4, e2, Int32.not_lt.mp hb, nI_1]
      exact hst h2 _ (by omega) f12 r2
theorem c_playRound (r : cl_R G h a σ n nd nt) (hs : mt_wf σ n nd nt) (ha : a + 25 < G 0 + 136) {p : Nat} (hp : p < nd) : ∃ h2, am_evm G (d + 6) 32 [.ref a, .ref (a + 18 + p)] h = some (none, h2) ∧ cl_R G h2 a (mt_rnd σ n nt p n) n nd nt ∧ am_fr (cl_H a) h h2 := by
  obtain ⟨h2, e, r2, f⟩ := c_round_l (d := d) r hs ha hp n 0 h none (by omega) am_fr.rf r
  refine ⟨h2, ?_, r2, f⟩
  rw [← e]
  simp only [n_32, e_32_0, f_32_1, e_32_3, e_32_4, e_32_7, e_32_10, e_32_11, e_32_14, e_32_16, e_32_17, e_32_18, e_32_19, e_32_20, e_32_23, e_32_26, e_32_27, e_32_28, e_32_29, f_32_32, e_32_33, e_32_34, e_32_36, e_32_39, e_32_40, e_32_41, e_32_42, e_32_45, f_32_48, e_32_51, e_32_54, Option.bind_some, Option.toList_some, Option.toList_none, List.cons_append, List.nil_append, am_k1_i, am_k1_r, am_k1_u, am_k1_n, am_bo0, am_bo1, am_boi, am_ev_tb, am_tb_nil, am_rfs, am_rfn, eq_self]
  rfl
end CU
