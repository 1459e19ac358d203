/-! calls on deeds, on both sides -/
theorem mt_c0 {x : Int32} (hx : ∀ i, 12 ≤ i → i < 32 → bt x i = false) (h0 : mt_c x 12 = 0) : x = 0 := by
  apply b_ext
  intro i hi
  rw [b_0]
  cases hb : bt x i with
  | false => rfl
  | true =>
    by_cases h12 : i < 12
    · have := mt_c_pos hb 12 h12; omega
    · rw [hx i (by omega) hi] at hb; cases hb
theorem mt_dg_iff {σ : Nat → Int32} {n nd nt : Nat} (hs : mt_wf σ n nd nt) {x : Int32} : (x &&& (mt_every (σ 0) ^^^ (-1)) = 0 ∧ 1 ≤ mt_ones x ∧ mt_ones x ≤ 2) ↔ mt_dg σ x := by
  have hn := hs.1.1.2
  unfold mt_dg
  have key : x &&& (mt_every (σ 0) ^^^ (-1)) = 0 → (1 ≤ mt_ones x ↔ 0 < x) := by
    intro h1
    have hb : ∀ i, n ≤ i → i < 32 → bt x i = false := fun i h2 h3 => by
      have : bt (x &&& (mt_every (σ 0) ^^^ (-1))) i = false := by rw [h1, b_0]
      rw [b_and, mt_not _ h3, hs.1.1.1, mt_every_bt n hn i h3, decide_eq_false (by omega)] at this
      simpa using this
    have hb12 : ∀ i, 12 ≤ i → i < 32 → bt x i = false := fun i h2 h3 => hb i (by omega) h3
    have hc12 := mt_c_le x 12
    obtain ⟨k, hk, e⟩ := mt_small (n := 12) (by omega) hb12
    rw [mt_ones_c]
    by_cases h0 : mt_c x 12 = 0
    · have hx := mt_c0 hb12 h0
      rw [h0, hx]
      exact iff_of_false (by decide) (by decide)
    · refine iff_of_true (nI_le (a := 1) (by omega) (by omega)) ?_
      rw [e]
      have hk0 : 0 < k := by
        rcases Nat.eq_zero_or_pos k with z | z
        · subst z
          exfalso
          apply h0
          rw [e]
          decide
        · exact z
      exact nI_lt (a := 0) hk0 (by omega)
  constructor
  · rintro ⟨h1, h2, h3⟩; exact ⟨(key h1).mp h2, h1, h3⟩
  · rintro ⟨h1, h2, h3⟩; exact ⟨h2, (key h2).mpr h1, h3⟩
theorem mt_andm1 (x : Int32) : x &&& (-1) = x := by
  apply b_ext
  intro i hi
  rw [b_and, b_m1 i hi, Bool.and_true]
theorem mt_wf_again {σ : Nat → Int32} {n nd nt p : Nat} (hs : mt_wf σ n nd nt) (hp : p < nd) : mt_wf (mt_again σ p) n nd nt := by
  obtain ⟨⟨⟨a1, a2⟩, ⟨b1, b2⟩, c1, c2⟩, hP, hD, hT⟩ := hs
  have ne : ∀ j, j ≠ 66 + 6 * p + 3 → j ≠ 66 + 6 * p + 4 → j ≠ 66 + 6 * p + 5 → σ j = mt_again σ p j := fun j h1 h2 h3 => by
    unfold mt_again
    rw [pk_un h1, pk_un h3, pk_un h2]
  refine ⟨⟨⟨by rw [← ne _ (by omega) (by omega) (by omega)]; exact a1, a2⟩, ⟨by rw [← ne _ (by omega) (by omega) (by omega)]; exact b1, b2⟩, by rw [← ne _ (by omega) (by omega) (by omega)]; exact c1, c2⟩, mt_wfP_congr a2 (fun j h1 h => ne j (by omega) (by omega) (by omega)) hP, fun q hq => ?_, mt_wfT_congr c2 (fun j h1 h => ne j (by omega) (by omega) (by omega)) hT⟩
  obtain ⟨d1, d2⟩ := hD q hq
  refine ⟨by rw [← ne _ (by omega) (by omega) (by omega)]; exact d1, fun i hi hi2 => ?_⟩
  by_cases e : q = p
  · subst e
    unfold mt_again
    rw [pk_us, b_0]
  · rw [← ne _ (by omega) (by omega) (by omega)]
    exact d2 i hi hi2
section SC
variable {G : Nat → Nat} {h : am_H} {o m d : Nat}
theorem cl_KH {a : Nat} : ∀ b, cl_K a b → cl_H a b := cl_K_H
theorem sm_read {h2 h3 : am_H} {yc yr : Nat} {vs : List Value} (i : iv G h o m) {v : Int32} (e1 : am_evm G (d + 200) yc (.ref o :: vs) h = some (some (.int v), h2)) (e2 : am_evm G (d + 200) yr (.ref m :: vs) h2 = some (some (.int v), h3)) (f1 : am_fr (cl_K (o + 1)) h h2) (f2 : am_fr (fun b => b = m + 12 ∨ b = m + 14 ∨ b = m + 15) h2 h3) : sm G h o m d yc yr vs := by
  obtain ⟨n, nd, nt, hs, r⟩ := i.2.1
  have hm : m = o + 117 := i.1.1.2
  have hx : am_i h3 (m + 1) = am_i h (m + 1) := by rw [f2.i1 (by omega), f1.i1 (fun z => by have : m + 1 = o + 1 + 5 := z; omega)]
  exact sm_hall i e1 e2 (f1.wd cl_K_H) (f2.wd (fun b hb => Or.inr hb)) (r.fr hs.1.1.2 hs.1.2.1.2 f1 (cl_K_off i.a1)) hs hx
theorem iv.mk {h2 : am_H} (i : iv G h o m) (f : am_fr (cl_K (o + 1)) h h2) (k : Nat) : am_i h2 (m + k) = am_i h (m + k) := i.m2 (f.wd cl_K_H) k
theorem s_deed (i : iv G h o m) {x y z : Int32} : sm G h o m d 84 163 [.int x, .int y, .int z] := by
  have lm := i.1.2.1
  have lo := i.1.2.2.1
  obtain ⟨n, nd, nt, hs, r⟩ := i.2.1
  have hnd := hs.1.2.1.2
  have hM := m_deed (d := d + 199) lm hs.1.2.1.1 hnd (x := x) (y := y) (z := z)
  by_cases h1 : x &&& (mt_every (am_i h (m + 1) 0) ^^^ (-1)) = 0 ∧ 1 ≤ mt_ones x ∧ mt_ones x ≤ 2
  · have h1' := (mt_dg_iff hs).mp h1
    by_cases h2 : 0 ≤ y ∧ y ≤ 23
    · by_cases h3 : 0 ≤ z ∧ z ≤ 99
      · by_cases h8 : nd = 8
        · have e2 := hM.2 ⟨h1', h2, h3⟩
          rw [if_pos h8] at e2
          refine sm_same i ?_ e2
          simp only [n_84, e_84_0, e_84_1, e_84_4, e_84_5, e_84_8, e_84_11, e_84_12, e_84_15, e_84_18, e_84_19, e_84_20, e_84_22, e_84_25, e_84_28, e_84_30, e_84_31, e_84_32, e_84_35, e_84_36, e_84_37, e_84_38, e_84_41, Option.bind_some, Option.toList_some, Option.toList_none, List.cons_append, List.nil_append, am_k1_i, am_k1_r, am_k1_u, am_k1_n, am_bo0, am_bo1, am_boi, am_ev_tb, am_tb_nil, am_rfs, am_rfn, eq_self, and_self, if_true, if_false, show ¬ (1 : Int32) = 0 from by decide, show ¬ (0 : Int32) = 1 from by decide, not_true, not_false_eq_true, and_true, true_and, and_false, false_and, or_true, true_or, or_false, false_or, co_ob lo, co_r0 lo, ha_ob r.1, c_canBeDoers r hs, h1, c_isHour, h2, c_within, h3, c_addDeed0 r hs h8]
        · obtain ⟨k, hk, rfl⟩ := mt_ix24.mp h2
          obtain ⟨h2', e, r2, f⟩ := c_addDeed (d := d + 198) (k := x) (b := nI k) (w := z) r hs i.a1 (show nd < 8 by omega)
          have hσ := i.m2 f 1
          have e2 := (m_deed (d := d + 199) (lm.fr f) (n := nd) (by rw [hσ]; exact hs.1.2.1.1) hnd (x := x) (y := nI k) (z := z)).2 ⟨by rw [hσ]; exact h1', h2, h3⟩
          rw [if_neg h8, hσ] at e2
          refine sm_hall i ?_ e2 f (am_fr.pa (Or.inl rfl)) r2 (mt_wf_deed hs (by omega) hk) (by rw [am_pa_i, if_pos rfl])
          simp only [n_84, e_84_0, e_84_1, e_84_4, e_84_5, e_84_8, e_84_11, e_84_12, e_84_15, e_84_18, e_84_19, e_84_20, e_84_22, e_84_25, e_84_28, e_84_30, e_84_31, e_84_32, e_84_35, e_84_36, e_84_37, e_84_38, e_84_41, Option.bind_some, Option.toList_some, Option.toList_none, List.cons_append, List.nil_append, am_k1_i, am_k1_r, am_k1_u, am_k1_n, am_bo0, am_bo1, am_boi, am_ev_tb, am_tb_nil, am_rfs, am_rfn, eq_self, and_self, if_true, if_false, show ¬ (1 : Int32) = 0 from by decide, show ¬ (0 : Int32) = 1 from by decide, not_true, not_false_eq_true, and_true, true_and, and_false, false_and, or_true, true_or, or_false, false_or, co_ob lo, co_r0 lo, ha_ob r.1, c_canBeDoers r hs, h1, c_isHour, h2, c_within, h3, e]
      · refine sm_same i ?_ (hM.1 (fun q => h3 q.2.2))
        simp only [n_84, e_84_0, e_84_1, e_84_4, e_84_5, e_84_8, e_84_11, e_84_12, e_84_15, e_84_18, e_84_19, e_84_20, e_84_22, e_84_25, e_84_28, e_84_30, e_84_31, e_84_32, e_84_35, e_84_36, e_84_37, e_84_38, e_84_41, Option.bind_some, Option.toList_some, Option.toList_none, List.cons_append, List.nil_append, am_k1_i, am_k1_r, am_k1_u, am_k1_n, am_bo0, am_bo1, am_boi, am_ev_tb, am_tb_nil, am_rfs, am_rfn, eq_self, and_self, if_true, if_false, show ¬ (1 : Int32) = 0 from by decide, show ¬ (0 : Int32) = 1 from by decide, not_true, not_false_eq_true, and_true, true_and, and_false, false_and, or_true, true_or, or_false, false_or, co_ob lo, co_r0 lo, ha_ob r.1, c_canBeDoers r hs, h1, c_isHour, h2, c_within, h3]
    · refine sm_same i ?_ (hM.1 (fun q => h2 q.2.1))
      simp only [n_84, e_84_0, e_84_1, e_84_4, e_84_5, e_84_8, e_84_11, e_84_12, e_84_15, e_84_18, e_84_19, e_84_20, e_84_22, e_84_25, e_84_28, e_84_30, e_84_31, e_84_32, e_84_35, e_84_36, e_84_37, e_84_38, e_84_41, Option.bind_some, Option.toList_some, Option.toList_none, List.cons_append, List.nil_append, am_k1_i, am_k1_r, am_k1_u, am_k1_n, am_bo0, am_bo1, am_boi, am_ev_tb, am_tb_nil, am_rfs, am_rfn, eq_self, and_self, if_true, if_false, show ¬ (1 : Int32) = 0 from by decide, show ¬ (0 : Int32) = 1 from by decide, not_true, not_false_eq_true, and_true, true_and, and_false, false_and, or_true, true_or, or_false, false_or, co_ob lo, co_r0 lo, ha_ob r.1, c_canBeDoers r hs, h1, c_isHour, h2]
  · refine sm_same i ?_ (hM.1 (fun q => h1 ((mt_dg_iff hs).mpr q.1)))
    simp only [n_84, e_84_0, e_84_1, e_84_4, e_84_5, e_84_8, e_84_11, e_84_12, e_84_15, e_84_18, e_84_19, e_84_20, e_84_22, e_84_25, e_84_28, e_84_30, e_84_31, e_84_32, e_84_35, e_84_36, e_84_37, e_84_38, e_84_41, Option.bind_some, Option.toList_some, Option.toList_none, List.cons_append, List.nil_append, am_k1_i, am_k1_r, am_k1_u, am_k1_n, am_bo0, am_bo1, am_boi, am_ev_tb, am_tb_nil, am_rfs, am_rfn, eq_self, and_self, if_true, if_false, show ¬ (1 : Int32) = 0 from by decide, show ¬ (0 : Int32) = 1 from by decide, not_true, not_false_eq_true, and_true, true_and, and_false, false_and, or_true, true_or, or_false, false_or, co_ob lo, co_r0 lo, ha_ob r.1, c_canBeDoers r hs, h1]
theorem s_deedTold (i : iv G h o m) {p w : Int32} : sm G h o m d 85 165 [.int p, .int w] := by
  have lm := i.1.2.1
  have lo := i.1.2.2.1
  obtain ⟨n, nd, nt, hs, r⟩ := i.2.1
  have hnd := hs.1.2.1.2
  by_cases h1 : 0 ≤ p ∧ p ≤ am_i h (m + 1) 1 - 1
  · obtain ⟨k, hk, rfl⟩ := i.nd hs h1
    have od := ha_d3 r.1 (show k < 8 by omega)
    have key : ∃ h2, am_evm G (d + 200) 85 [.ref o, .int (nI k), .int w] h = some (some (.int (mt_dt (am_i h (m + 1)) nt k w)), h2) ∧ am_fr (cl_K (o + 1)) h h2 := by
      unfold mt_dt
      by_cases w6 : w = 6
      · subst w6
        obtain ⟨h2, e, f⟩ := c_costOf (d := d + 196) r hs i.a1 hk
        refine ⟨h2, ?_, f⟩
        simp only [n_85, e_85_0, e_85_1, e_85_4, e_85_5, e_85_8, e_85_11, e_85_13, e_85_14, e_85_15, e_85_18, e_85_21, e_85_22, f_85_23, e_85_24, e_85_25, e_85_136, e_85_138, e_85_115, e_85_116, e_85_119, e_85_120, e_85_123, e_85_124, e_85_127, e_85_130, e_85_131, e_85_135, e_85_134, e_85_106, e_85_107, e_85_110, e_85_111, e_85_114, e_85_101, e_85_102, e_85_105, e_85_96, e_85_97, e_85_100, e_85_87, e_85_88, e_85_91, e_85_92, e_85_95, e_85_82, e_85_83, e_85_86, e_85_77, e_85_78, e_85_81, e_85_72, e_85_73, e_85_76, Option.bind_some, Option.toList_some, Option.toList_none, List.cons_append, List.nil_append, am_k1_i, am_k1_r, am_k1_u, am_k1_n, am_bo0, am_bo1, am_boi, am_ev_tb, am_tb_nil, am_rfs, am_rfn, eq_self, and_self, if_true, if_false, show ¬ (1 : Int32) = 0 from by decide, show ¬ (0 : Int32) = 1 from by decide, not_true, not_false_eq_true, and_true, true_and, and_false, false_and, or_true, true_or, or_false, false_or, co_ob lo, co_r0 lo, ha_ob r.1, c_hasDeed r.1, r.2.1.2.1, h1, ha_r1 r.1, ha_d1 r.1 (show k < 8 by omega), am_cl (show k < 2147483648 by omega), ha_d2 r.1 (show k < 8 by omega), e]
        simp
      · refine ⟨h, ?_, am_fr.rf⟩
        simp only [n_85, e_85_0, e_85_1, e_85_4, e_85_5, e_85_8, e_85_11, e_85_13, e_85_14, e_85_15, e_85_18, e_85_21, e_85_22, f_85_23, e_85_24, e_85_25, e_85_136, e_85_138, e_85_115, e_85_116, e_85_119, e_85_120, e_85_123, e_85_124, e_85_127, e_85_130, e_85_131, e_85_135, e_85_134, e_85_106, e_85_107, e_85_110, e_85_111, e_85_114, e_85_101, e_85_102, e_85_105, e_85_96, e_85_97, e_85_100, e_85_87, e_85_88, e_85_91, e_85_92, e_85_95, e_85_82, e_85_83, e_85_86, e_85_77, e_85_78, e_85_81, e_85_72, e_85_73, e_85_76, Option.bind_some, Option.toList_some, Option.toList_none, List.cons_append, List.nil_append, am_k1_i, am_k1_r, am_k1_u, am_k1_n, am_bo0, am_bo1, am_boi, am_ev_tb, am_tb_nil, am_rfs, am_rfn, eq_self, and_self, if_true, if_false, show ¬ (1 : Int32) = 0 from by decide, show ¬ (0 : Int32) = 1 from by decide, not_true, not_false_eq_true, and_true, true_and, and_false, false_and, or_true, true_or, or_false, false_or, co_ob lo, co_r0 lo, ha_ob r.1, c_hasDeed r.1, r.2.1.2.1, h1, ha_r1 r.1, ha_d1 r.1 (show k < 8 by omega), am_cl (show k < 2147483648 by omega), ha_d2 r.1 (show k < 8 by omega), od, cr_d r hk (show 0 < 6 by omega), cr_d r hk (show 1 < 6 by omega), cr_d r hk (show 2 < 6 by omega), cr_d r hk (show 4 < 6 by omega), cr_d r hk (show 5 < 6 by omega), c_leftOn3 r hnd hk]
        by_cases w0 : w = 0
        · subst w0; simp
        by_cases w1 : w = 1
        · subst w1; simp
        by_cases w2 : w = 2
        · subst w2; simp
        by_cases w3 : w = 3
        · subst w3; simp
        by_cases w4 : w = 4
        · subst w4; simp
        by_cases w5 : w = 5
        · subst w5; simp
        by_cases w7 : w = 7
        · subst w7
          by_cases hz : mt_left (am_i h (m + 1)) k = am_i h (m + 1) (66 + 6 * k + 0)
          · have hz2 : mt_left (am_i h (m + 1)) k = am_i h (m + 1) (66 + 6 * k) := hz
            simp [hz2, Option.bind_some, Option.toList_some, Option.toList_none, List.cons_append, List.nil_append, am_k1_i, am_k1_r, am_k1_u, am_k1_n, am_bo0, am_bo1, am_boi, am_ev_tb, am_tb_nil, am_rfs, am_rfn, eq_self]
          · have hz2 : ¬ mt_left (am_i h (m + 1)) k = am_i h (m + 1) (66 + 6 * k) := hz
            simp [hz2, Option.bind_some, Option.toList_some, Option.toList_none, List.cons_append, List.nil_append, am_k1_i, am_k1_r, am_k1_u, am_k1_n, am_bo0, am_bo1, am_boi, am_ev_tb, am_tb_nil, am_rfs, am_rfn, eq_self]
        simp only [w0, w1, w2, w3, w4, w5, w6, w7, if_false]
    obtain ⟨h2, e, f⟩ := key
    have hσ := i.mk f 1
    obtain ⟨h3, e3, f3⟩ := m_deedTold (d := d + 197) (w := w) (lm.fr f) hσ hs hk
    exact sm_read i e e3 f (f3.wd (fun b hb => Or.inr hb))
  · refine sm_same i ?_ (m_deedTold0 lm h1)
    simp only [n_85, e_85_0, e_85_1, e_85_4, e_85_5, e_85_8, e_85_11, e_85_13, e_85_14, e_85_15, e_85_18, e_85_21, e_85_22, f_85_23, e_85_24, e_85_25, e_85_136, e_85_138, e_85_115, e_85_116, e_85_119, e_85_120, e_85_123, e_85_124, e_85_127, e_85_130, e_85_131, e_85_135, e_85_134, e_85_106, e_85_107, e_85_110, e_85_111, e_85_114, e_85_101, e_85_102, e_85_105, e_85_96, e_85_97, e_85_100, e_85_87, e_85_88, e_85_91, e_85_92, e_85_95, e_85_82, e_85_83, e_85_86, e_85_77, e_85_78, e_85_81, e_85_72, e_85_73, e_85_76, Option.bind_some, Option.toList_some, Option.toList_none, List.cons_append, List.nil_append, am_k1_i, am_k1_r, am_k1_u, am_k1_n, am_bo0, am_bo1, am_boi, am_ev_tb, am_tb_nil, am_rfs, am_rfn, eq_self, and_self, if_true, if_false, show ¬ (1 : Int32) = 0 from by decide, show ¬ (0 : Int32) = 1 from by decide, not_true, not_false_eq_true, and_true, true_and, and_false, false_and, or_true, true_or, or_false, false_or, co_ob lo, co_r0 lo, ha_ob r.1, c_hasDeed r.1, r.2.1.2.1, h1]
theorem s_again (i : iv G h o m) {p : Int32} : sm G h o m d 86 166 [.int p] := by
  have lm := i.1.2.1
  have lo := i.1.2.2.1
  obtain ⟨n, nd, nt, hs, r⟩ := i.2.1
  have hnd := hs.1.2.1.2
  by_cases h1 : 0 ≤ p ∧ p ≤ am_i h (m + 1) 1 - 1
  · obtain ⟨k, hk, rfl⟩ := i.nd hs h1
    have od := ha_d3 r.1 (show k < 8 by omega)
    have hg := (hs.2.2.1 k hk).2
    have hob := i.1.1.1
    have f : am_fr (cl_H (o + 1)) h (am_pi (am_pi (am_pi h (o + 1 + 18 + k) 3 0) (o + 1 + 18 + k) 4 0) (o + 1 + 18 + k) 5 0) := ((am_fr.pi (S := cl_H (o + 1)) ⟨by omega, by omega⟩).tr (am_fr.pi ⟨by omega, by omega⟩)).tr (am_fr.pi ⟨by omega, by omega⟩)
    have r2 := ((r.pd' hs.1.1.2 hnd hs.1.2.2.2 i.a1 (q := k) (j := 3) (v := 0) hk (by omega)).pd' hs.1.1.2 hnd hs.1.2.2.2 i.a1 (q := k) (j := 4) (v := 0) hk (by omega)).pd' hs.1.1.2 hnd hs.1.2.2.2 i.a1 (q := k) (j := 5) (v := 0) hk (by omega)
    have hσ := i.m2 f 1
    have e2 := m_again (d := d + 198) (lm.fr f) (p := k) (by rw [hσ]; exact hs.ok) hk
    rw [hσ] at e2
    have heq : upd (upd (upd (am_i h (m + 1)) (66 + 6 * k + 3) 0) (66 + 6 * k + 4) 0) (66 + 6 * k + 5) 0 = mt_again (am_i h (m + 1)) k := by
      funext j
      unfold mt_again
      by_cases j3 : j = 66 + 6 * k + 3
      · subst j3; rw [pk_un (by omega), pk_un (by omega), pk_us, pk_us]
      · by_cases j5 : j = 66 + 6 * k + 5
        · subst j5; rw [pk_us, pk_un (by omega), pk_us]
        · by_cases j4 : j = 66 + 6 * k + 4
          · subst j4; rw [pk_un (by omega), pk_us, pk_un (by omega), pk_un (by omega), pk_us]
          · rw [pk_un j5, pk_un j4, pk_un j3, pk_un j3, pk_un j5, pk_un j4]
    rw [heq] at r2
    refine sm_hall i ?_ e2 f (am_fr.pa (Or.inl rfl)) r2 (mt_wf_again hs hk) (by rw [am_pa_i, if_pos rfl])
    have c3 := cr_d r hk (show 3 < 6 by omega)
    simp only [n_86, e_86_0, e_86_1, e_86_4, e_86_5, e_86_8, e_86_11, e_86_13, e_86_14, e_86_15, e_86_18, e_86_21, e_86_22, f_86_23, e_86_24, e_86_25, e_86_28, f_86_31, e_86_32, e_86_33, e_86_36, e_86_37, Option.bind_some, Option.toList_some, Option.toList_none, List.cons_append, List.nil_append, am_k1_i, am_k1_r, am_k1_u, am_k1_n, am_bo0, am_bo1, am_boi, am_ev_tb, am_tb_nil, am_rfs, am_rfn, eq_self, and_self, if_true, if_false, show ¬ (1 : Int32) = 0 from by decide, show ¬ (0 : Int32) = 1 from by decide, not_true, not_false_eq_true, and_true, true_and, and_false, false_and, or_true, true_or, or_false, false_or, co_ob lo, co_r0 lo, ha_ob r.1, c_hasDeed r.1, r.2.1.2.1, h1, ha_r1 r.1, ha_d1 r.1 (show k < 8 by omega), am_cl (show k < 2147483648 by omega), ha_d2 r.1 (show k < 8 by omega), od, c3, c_bitCount hg, c_beginD r.1 (show k < 8 by omega)]
  · refine sm_same i ?_ (m_again0 lm h1)
    simp only [n_86, e_86_0, e_86_1, e_86_4, e_86_5, e_86_8, e_86_11, e_86_13, e_86_14, e_86_15, e_86_18, e_86_21, e_86_22, f_86_23, e_86_24, e_86_25, e_86_28, f_86_31, e_86_32, e_86_33, e_86_36, e_86_37, Option.bind_some, Option.toList_some, Option.toList_none, List.cons_append, List.nil_append, am_k1_i, am_k1_r, am_k1_u, am_k1_n, am_bo0, am_bo1, am_boi, am_ev_tb, am_tb_nil, am_rfs, am_rfn, eq_self, and_self, if_true, if_false, show ¬ (1 : Int32) = 0 from by decide, show ¬ (0 : Int32) = 1 from by decide, not_true, not_false_eq_true, and_true, true_and, and_false, false_and, or_true, true_or, or_false, false_or, co_ob lo, co_r0 lo, ha_ob r.1, c_hasDeed r.1, r.2.1.2.1, h1]
theorem s_say (i : iv G h o m) {s p q : Int32} : sm G h o m d 88 170 [.int s, .int p, .int q] := by
  have lm := i.1.2.1
  have lo := i.1.2.2.1
  obtain ⟨n, nd, nt, hs, r⟩ := i.2.1
  have hnd := hs.1.2.1.2
  have hn := hs.1.1.2
  by_cases h1 : 0 ≤ s ∧ s ≤ am_i h (m + 1) 0 - 1
  · by_cases h2 : 0 ≤ p ∧ p ≤ am_i h (m + 1) 1 - 1
    · by_cases h3 : 0 ≤ q ∧ q ≤ am_i h (m + 1) 0 - 1
      · obtain ⟨a, ha, rfl⟩ := i.np hs h1
        obtain ⟨k, hk, rfl⟩ := i.nd hs h2
        obtain ⟨b, hb, rfl⟩ := i.np hs h3
        generalize hσe : am_i h (m + 1) = σ at *
        obtain ⟨h2', e, f⟩ := c_mayBe (d := d + 196) (s := a) r hs i.a1 hb hk
        have r2 := r.fr hn hnd f (cl_K_off i.a1)
        have lo2 := lo.fr f
        by_cases hm : mt_may σ n nt a k b = true
        · obtain ⟨h3', e3, r3, f3⟩ := c_takeSaying3 (d := d + 199) r2 hs i.a1 hk hb
          have lo3 := lo2.fr f3
          have ff : am_fr (cl_H (o + 1)) h h3' := (f.wd cl_K_H).tr (f3.wd (fun c hc => ⟨by omega, by omega⟩))
          have hσ := i.m2 ff 1
          rw [hσe] at hσ
          obtain ⟨h4, e4, f4, i4⟩ := m_say (d := d + 196) (lm.fr ff) hσ hs ha hk hb
          rw [if_pos hm] at e4 i4
          refine sm_hall i ?_ e4 ff (f4.wd (fun c hc => by rcases hc with z | z | z; exact Or.inl z; exact Or.inr (Or.inr (Or.inl z)); exact Or.inr (Or.inr (Or.inr z)))) r3 (mt_wf_says hs hk hb) i4
          simp only [n_88, e_88_0, e_88_1, e_88_4, e_88_5, e_88_8, e_88_11, e_88_12, e_88_15, e_88_16, e_88_19, e_88_22, e_88_23, e_88_26, e_88_27, e_88_30, e_88_33, e_88_35, e_88_36, e_88_37, e_88_40, e_88_43, e_88_44, f_88_45, e_88_47, e_88_48, e_88_51, e_88_52, e_88_54, e_88_55, e_88_58, e_88_61, e_88_63, e_88_64, e_88_66, e_88_67, e_88_70, e_88_71, e_88_74, e_88_77, e_88_78, e_88_81, e_88_83, e_88_86, Option.bind_some, Option.toList_some, Option.toList_none, List.cons_append, List.nil_append, am_k1_i, am_k1_r, am_k1_u, am_k1_n, am_bo0, am_bo1, am_boi, am_ev_tb, am_tb_nil, am_rfs, am_rfn, eq_self, and_self, if_true, if_false, show ¬ (1 : Int32) = 0 from by decide, show ¬ (0 : Int32) = 1 from by decide, not_true, not_false_eq_true, and_true, true_and, and_false, false_and, or_true, true_or, or_false, false_or, co_ob lo, co_r0 lo, ha_ob r.1, c_hasPerson r.1, c_hasDeed r.1, r.2.1.1, r.2.1.2.1, h1, h2, h3, ha_r1 r.1, ha_d1 r.1 (show k < 8 by omega), am_cl (show k < 2147483648 by omega), ha_d2 r.1 (show k < 8 by omega), e, hm, co_ob lo2, co_r0 lo2, ha_ob r2.1, ha_d3 r2.1 (show k < 8 by omega), c_goersBy3 r2 hn hb, e3, co_ob lo3, co_r0 lo3, ha_ob r3.1, c_leftCount r3 (mt_wf_says hs hk hb) hk]
        · have ff := f.wd (cl_K_H (a := o + 1))
          have hσ := i.m2 ff 1
          rw [hσe] at hσ
          obtain ⟨h4, e4, f4, i4⟩ := m_say (d := d + 196) (lm.fr ff) hσ hs ha hk hb
          rw [if_neg hm] at e4 i4
          refine sm_hall i ?_ e4 ff (f4.wd (fun c hc => by rcases hc with z | z | z; exact Or.inl z; exact Or.inr (Or.inr (Or.inl z)); exact Or.inr (Or.inr (Or.inr z)))) r2 hs i4
          simp only [n_88, e_88_0, e_88_1, e_88_4, e_88_5, e_88_8, e_88_11, e_88_12, e_88_15, e_88_16, e_88_19, e_88_22, e_88_23, e_88_26, e_88_27, e_88_30, e_88_33, e_88_35, e_88_36, e_88_37, e_88_40, e_88_43, e_88_44, f_88_45, e_88_47, e_88_48, e_88_51, e_88_52, e_88_54, e_88_55, e_88_58, e_88_61, e_88_63, e_88_64, e_88_66, e_88_67, e_88_70, e_88_71, e_88_74, e_88_77, e_88_78, e_88_81, e_88_83, e_88_86, Option.bind_some, Option.toList_some, Option.toList_none, List.cons_append, List.nil_append, am_k1_i, am_k1_r, am_k1_u, am_k1_n, am_bo0, am_bo1, am_boi, am_ev_tb, am_tb_nil, am_rfs, am_rfn, eq_self, and_self, if_true, if_false, show ¬ (1 : Int32) = 0 from by decide, show ¬ (0 : Int32) = 1 from by decide, not_true, not_false_eq_true, and_true, true_and, and_false, false_and, or_true, true_or, or_false, false_or, co_ob lo, co_r0 lo, ha_ob r.1, c_hasPerson r.1, c_hasDeed r.1, r.2.1.1, r.2.1.2.1, h1, h2, h3, ha_r1 r.1, ha_d1 r.1 (show k < 8 by omega), am_cl (show k < 2147483648 by omega), ha_d2 r.1 (show k < 8 by omega), e, hm, Bool.false_eq_true]
      · refine sm_same i ?_ (m_say0 lm (fun w => h3 w.2.2))
        simp only [n_88, e_88_0, e_88_1, e_88_4, e_88_5, e_88_8, e_88_11, e_88_12, e_88_15, e_88_16, e_88_19, e_88_22, e_88_23, e_88_26, e_88_27, e_88_30, e_88_33, e_88_35, e_88_36, e_88_37, e_88_40, e_88_43, e_88_44, f_88_45, e_88_47, e_88_48, e_88_51, e_88_52, e_88_54, e_88_55, e_88_58, e_88_61, e_88_63, e_88_64, e_88_66, e_88_67, e_88_70, e_88_71, e_88_74, e_88_77, e_88_78, e_88_81, e_88_83, e_88_86, Option.bind_some, Option.toList_some, Option.toList_none, List.cons_append, List.nil_append, am_k1_i, am_k1_r, am_k1_u, am_k1_n, am_bo0, am_bo1, am_boi, am_ev_tb, am_tb_nil, am_rfs, am_rfn, eq_self, and_self, if_true, if_false, show ¬ (1 : Int32) = 0 from by decide, show ¬ (0 : Int32) = 1 from by decide, not_true, not_false_eq_true, and_true, true_and, and_false, false_and, or_true, true_or, or_false, false_or, co_ob lo, co_r0 lo, ha_ob r.1, c_hasPerson r.1, c_hasDeed r.1, r.2.1.1, r.2.1.2.1, h1, h2, h3]
    · refine sm_same i ?_ (m_say0 lm (fun w => h2 w.2.1))
      simp only [n_88, e_88_0, e_88_1, e_88_4, e_88_5, e_88_8, e_88_11, e_88_12, e_88_15, e_88_16, e_88_19, e_88_22, e_88_23, e_88_26, e_88_27, e_88_30, e_88_33, e_88_35, e_88_36, e_88_37, e_88_40, e_88_43, e_88_44, f_88_45, e_88_47, e_88_48, e_88_51, e_88_52, e_88_54, e_88_55, e_88_58, e_88_61, e_88_63, e_88_64, e_88_66, e_88_67, e_88_70, e_88_71, e_88_74, e_88_77, e_88_78, e_88_81, e_88_83, e_88_86, Option.bind_some, Option.toList_some, Option.toList_none, List.cons_append, List.nil_append, am_k1_i, am_k1_r, am_k1_u, am_k1_n, am_bo0, am_bo1, am_boi, am_ev_tb, am_tb_nil, am_rfs, am_rfn, eq_self, and_self, if_true, if_false, show ¬ (1 : Int32) = 0 from by decide, show ¬ (0 : Int32) = 1 from by decide, not_true, not_false_eq_true, and_true, true_and, and_false, false_and, or_true, true_or, or_false, false_or, co_ob lo, co_r0 lo, ha_ob r.1, c_hasPerson r.1, c_hasDeed r.1, r.2.1.1, r.2.1.2.1, h1, h2]
  · refine sm_same i ?_ (m_say0 lm (fun w => h1 w.1))
    simp only [n_88, e_88_0, e_88_1, e_88_4, e_88_5, e_88_8, e_88_11, e_88_12, e_88_15, e_88_16, e_88_19, e_88_22, e_88_23, e_88_26, e_88_27, e_88_30, e_88_33, e_88_35, e_88_36, e_88_37, e_88_40, e_88_43, e_88_44, f_88_45, e_88_47, e_88_48, e_88_51, e_88_52, e_88_54, e_88_55, e_88_58, e_88_61, e_88_63, e_88_64, e_88_66, e_88_67, e_88_70, e_88_71, e_88_74, e_88_77, e_88_78, e_88_81, e_88_83, e_88_86, Option.bind_some, Option.toList_some, Option.toList_none, List.cons_append, List.nil_append, am_k1_i, am_k1_r, am_k1_u, am_k1_n, am_bo0, am_bo1, am_boi, am_ev_tb, am_tb_nil, am_rfs, am_rfn, eq_self, and_self, if_true, if_false, show ¬ (1 : Int32) = 0 from by decide, show ¬ (0 : Int32) = 1 from by decide, not_true, not_false_eq_true, and_true, true_and, and_false, false_and, or_true, true_or, or_false, false_or, co_ob lo, co_r0 lo, ha_ob r.1, c_hasPerson r.1, r.2.1.1, h1]
theorem s_choice (i : iv G h o m) {s p : Int32} : sm G h o m d 89 174 [.int s, .int p] := by
  have lm := i.1.2.1
  have lo := i.1.2.2.1
  obtain ⟨n, nd, nt, hs, r⟩ := i.2.1
  have hnd := hs.1.2.1.2
  have hn := hs.1.1.2
  by_cases h1 : 0 ≤ s ∧ s ≤ am_i h (m + 1) 0 - 1
  · by_cases h2 : 0 ≤ p ∧ p ≤ am_i h (m + 1) 1 - 1
    · obtain ⟨a, ha, rfl⟩ := i.np hs h1
      obtain ⟨k, hk, rfl⟩ := i.nd hs h2
      obtain ⟨h2', e, f⟩ := c_chosenBy (d := d + 194) r hs i.a1 ha hk
      have hσ := i.mk f 1
      obtain ⟨h3, e3, f3⟩ := m_choice (d := d + 195) (lm.fr f) hσ hs ha hk
      have hnn : (if 0 ≤ mt_choice (am_i h (m + 1)) n nt a k then mt_choice (am_i h (m + 1)) n nt a k else -1000000005) = mt_nn (mt_choice (am_i h (m + 1)) n nt a k) := by
        rcases mt_choice_in (σ := am_i h (m + 1)) (nt := nt) (s := a) (p := k) hn with hc | ⟨j, hj, hc⟩
        · rw [hc]; rfl
        · rw [hc, if_pos (nI_pos' (by omega))]
          unfold mt_nn
          rw [if_neg (fun z => by have := nI_pos' (n := j) (by omega); rw [z] at this; exact absurd this (by decide))]
      rw [hnn] at e3
      refine sm_read i ?_ e3 f (f3.wd (fun b hb => Or.inr hb))
      simp only [n_89, e_89_0, e_89_1, e_89_4, e_89_5, e_89_8, e_89_11, e_89_12, e_89_15, e_89_16, e_89_19, e_89_22, e_89_24, e_89_25, e_89_26, e_89_29, e_89_30, e_89_31, e_89_34, e_89_37, e_89_38, e_89_39, e_89_42, Option.bind_some, Option.toList_some, Option.toList_none, List.cons_append, List.nil_append, am_k1_i, am_k1_r, am_k1_u, am_k1_n, am_bo0, am_bo1, am_boi, am_ev_tb, am_tb_nil, am_rfs, am_rfn, eq_self, and_self, if_true, if_false, show ¬ (1 : Int32) = 0 from by decide, show ¬ (0 : Int32) = 1 from by decide, not_true, not_false_eq_true, and_true, true_and, and_false, false_and, or_true, true_or, or_false, false_or, co_ob lo, co_r0 lo, ha_ob r.1, c_hasPerson r.1, c_hasDeed r.1, r.2.1.1, r.2.1.2.1, h1, h2, ha_r1 r.1, ha_d1 r.1 (show k < 8 by omega), am_cl (show k < 2147483648 by omega), ha_d2 r.1 (show k < 8 by omega), e]
    · refine sm_same i ?_ (m_choice0 lm (fun w => h2 w.2))
      simp only [n_89, e_89_0, e_89_1, e_89_4, e_89_5, e_89_8, e_89_11, e_89_12, e_89_15, e_89_16, e_89_19, e_89_22, e_89_24, e_89_25, e_89_26, e_89_29, e_89_30, e_89_31, e_89_34, e_89_37, e_89_38, e_89_39, e_89_42, Option.bind_some, Option.toList_some, Option.toList_none, List.cons_append, List.nil_append, am_k1_i, am_k1_r, am_k1_u, am_k1_n, am_bo0, am_bo1, am_boi, am_ev_tb, am_tb_nil, am_rfs, am_rfn, eq_self, and_self, if_true, if_false, show ¬ (1 : Int32) = 0 from by decide, show ¬ (0 : Int32) = 1 from by decide, not_true, not_false_eq_true, and_true, true_and, and_false, false_and, or_true, true_or, or_false, false_or, co_ob lo, co_r0 lo, ha_ob r.1, c_hasPerson r.1, c_hasDeed r.1, r.2.1.1, r.2.1.2.1, h1, h2]
  · refine sm_same i ?_ (m_choice0 lm (fun w => h1 w.1))
    simp only [n_89, e_89_0, e_89_1, e_89_4, e_89_5, e_89_8, e_89_11, e_89_12, e_89_15, e_89_16, e_89_19, e_89_22, e_89_24, e_89_25, e_89_26, e_89_29, e_89_30, e_89_31, e_89_34, e_89_37, e_89_38, e_89_39, e_89_42, Option.bind_some, Option.toList_some, Option.toList_none, List.cons_append, List.nil_append, am_k1_i, am_k1_r, am_k1_u, am_k1_n, am_bo0, am_bo1, am_boi, am_ev_tb, am_tb_nil, am_rfs, am_rfn, eq_self, and_self, if_true, if_false, show ¬ (1 : Int32) = 0 from by decide, show ¬ (0 : Int32) = 1 from by decide, not_true, not_false_eq_true, and_true, true_and, and_false, false_and, or_true, true_or, or_false, false_or, co_ob lo, co_r0 lo, ha_ob r.1, c_hasPerson r.1, r.2.1.1, h1]
theorem c_rounds_l {σ : Nat → Int32} {n nd nt p w : Nat} {x1 x4 : Option Value} (lo : cl_Obj G h o) (hs : mt_wf σ n nd nt) (ha : o + 1 + 25 < G 0 + 136) (hp : p < nd) (hw : w ≤ 40) {y : Int32} : ∀ j k h', k + j = w → am_fr (cl_H (o + 1)) h h' → cl_R G h' (o + 1) (mt_rnds σ n nt p k) n nd nt → ∃ h2, am_ev G (d + 7) 90 43 [some (.ref o), x1, some (.int (nI w)), some (.ref (o + 1 + 18 + p)), some (.int y), some (.int (nI k))] [] h' = some (some (.int (mt_rnds σ n nt p w (66 + 6 * p + 4) - y)), h2) ∧ am_fr (cl_H (o + 1)) h h2 ∧ cl_R G h2 (o + 1) (mt_rnds σ n nt p w) n nd nt := by
  have hnd := hs.1.2.1.2
  intro j
  induction j with
  | zero =>
    intro k h' hk hf r'
    obtain rfl : k = w := by omega
    refine ⟨h', ?_, hf, r'⟩
    rw [e_90_43]
    simp only [n_90, e_90_0, e_90_1, e_90_4, e_90_5, e_90_8, e_90_11, e_90_12, e_90_13, e_90_15, e_90_18, e_90_21, e_90_23, e_90_24, e_90_25, e_90_28, e_90_31, e_90_32, f_90_33, e_90_34, e_90_35, f_90_38, e_90_40, f_90_41, e_90_45, e_90_46, e_90_49, e_90_50, e_90_53, e_90_54, f_90_57, e_90_60, e_90_63, e_90_64, e_90_67, e_90_69, e_90_70, Option.bind_some, Option.toList_some, Option.toList_none, List.cons_append, List.nil_append, am_k1_i, am_k1_r, am_k1_u, am_k1_n, am_bo0, am_bo1, am_boi, am_ev_tb, am_tb_nil, am_rfs, am_rfn, eq_self, and_self, if_true, if_false, show ¬ (1 : Int32) = 0 from by decide, show ¬ (0 : Int32) = 1 from by decide, not_true, not_false_eq_true, and_true, true_and, and_false, false_and, or_true, true_or, or_false, false_or, Int32.le_refl, ha_d3 r'.1 (show p < 8 by omega), cr_d r' hp (show 4 < 6 by omega)]
  | succ j ih =>
    intro k h' hk hf r'
    have lo' := lo.fr hf
    have hlt : ¬ nI w ≤ nI k := nI_ge (by omega) (by omega)
    obtain ⟨h2, e, r2, f2⟩ := c_playRound (d := d) r' (mt_wf_rnds hs hp k) ha hp
    obtain ⟨h3, e3, rest⟩ := ih (k + 1) h2 (by omega) (hf.tr f2) r2
    refine ⟨h3, ?_, rest⟩
    rw [← e3, e_90_43]
    simp only [n_90, e_90_0, e_90_1, e_90_4, e_90_5, e_90_8, e_90_11, e_90_12, e_90_13, e_90_15, e_90_18, e_90_21, e_90_23, e_90_24, e_90_25, e_90_28, e_90_31, e_90_32, f_90_33, e_90_34, e_90_35, f_90_38, e_90_40, f_90_41, e_90_45, e_90_46, e_90_49, e_90_50, e_90_53, e_90_54, f_90_57, e_90_60, e_90_63, e_90_64, e_90_67, e_90_69, e_90_70, Option.bind_some, Option.toList_some, Option.toList_none, List.cons_append, List.nil_append, am_k1_i, am_k1_r, am_k1_u, am_k1_n, am_bo0, am_bo1, am_boi, am_ev_tb, am_tb_nil, am_rfs, am_rfn, eq_self, and_self, if_true, if_false, show ¬ (1 : Int32) = 0 from by decide, show ¬ (0 : Int32) = 1 from by decide, not_true, not_false_eq_true, and_true, true_and, and_false, false_and, or_true, true_or, or_false, false_or, hlt, co_ob lo', co_r0 lo', ha_ob r'.1, e, nI_1]
theorem s_rounds (i : iv G h o m) {p w : Int32} : sm G h o m d 90 177 [.int p, .int w] := by
  have lm := i.1.2.1
  have lo := i.1.2.2.1
  obtain ⟨n, nd, nt, hs, r⟩ := i.2.1
  have hnd := hs.1.2.1.2
  have hn := hs.1.1.2
  by_cases h1 : 0 ≤ p ∧ p ≤ am_i h (m + 1) 1 - 1
  · by_cases h2 : 1 ≤ w ∧ w ≤ 40
    · obtain ⟨k, hk, rfl⟩ := i.nd hs h1
      obtain ⟨ww, hw, rfl⟩ := (mt_ix (p := w) (c := 41) (by omega)).mp ⟨Int32.le_trans (by decide) h2.1, h2.2⟩
      have hw1 : 1 ≤ ww := (nI_leI (a := 1) (by omega) (by omega)).mp h2.1
      generalize hσe : am_i h (m + 1) = σ at *
      obtain ⟨h2', e, f, r2⟩ := c_rounds_l (d := d + 193) (x1 := some (.int (nI k))) (x4 := none) (y := σ (66 + 6 * k + 4)) lo hs i.a1 hk (show ww ≤ 40 by omega) ww 0 h (by omega) am_fr.rf r
      have hσ := i.m2 f 1
      rw [hσe] at hσ
      obtain ⟨h4, e4, f4, i4⟩ := m_rounds (d := d + 194) (lm.fr f) hσ hs hk hw1 (show ww ≤ 40 by omega)
      refine sm_hall i ?_ e4 f (f4.wd (fun c hc => by rcases hc with z | z | z; exact Or.inl z; exact Or.inr (Or.inr (Or.inl z)); exact Or.inr (Or.inr (Or.inr z)))) r2 (mt_wf_rnds hs hk ww) i4
      rw [← e]
      simp only [n_90, e_90_0, e_90_1, e_90_4, e_90_5, e_90_8, e_90_11, e_90_12, e_90_13, e_90_15, e_90_18, e_90_21, e_90_23, e_90_24, e_90_25, e_90_28, e_90_31, e_90_32, f_90_33, e_90_34, e_90_35, f_90_38, e_90_40, f_90_41, e_90_45, e_90_46, e_90_49, e_90_50, e_90_53, e_90_54, f_90_57, e_90_60, e_90_63, e_90_64, e_90_67, e_90_69, e_90_70, Option.bind_some, Option.toList_some, Option.toList_none, List.cons_append, List.nil_append, am_k1_i, am_k1_r, am_k1_u, am_k1_n, am_bo0, am_bo1, am_boi, am_ev_tb, am_tb_nil, am_rfs, am_rfn, eq_self, and_self, if_true, if_false, show ¬ (1 : Int32) = 0 from by decide, show ¬ (0 : Int32) = 1 from by decide, not_true, not_false_eq_true, and_true, true_and, and_false, false_and, or_true, true_or, or_false, false_or, co_ob lo, co_r0 lo, ha_ob r.1, c_hasDeed r.1, r.2.1.2.1, h1, c_within, h2, ha_r1 r.1, ha_d1 r.1 (show k < 8 by omega), am_cl (show k < 2147483648 by omega), ha_d2 r.1 (show k < 8 by omega), ha_d3 r.1 (show k < 8 by omega), cr_d r hk (show 4 < 6 by omega)]
      rfl
    · refine sm_same i ?_ (m_rounds0 lm (fun z => h2 z.2))
      simp only [n_90, e_90_0, e_90_1, e_90_4, e_90_5, e_90_8, e_90_11, e_90_12, e_90_13, e_90_15, e_90_18, e_90_21, e_90_23, e_90_24, e_90_25, e_90_28, e_90_31, e_90_32, f_90_33, e_90_34, e_90_35, f_90_38, e_90_40, f_90_41, e_90_45, e_90_46, e_90_49, e_90_50, e_90_53, e_90_54, f_90_57, e_90_60, e_90_63, e_90_64, e_90_67, e_90_69, e_90_70, Option.bind_some, Option.toList_some, Option.toList_none, List.cons_append, List.nil_append, am_k1_i, am_k1_r, am_k1_u, am_k1_n, am_bo0, am_bo1, am_boi, am_ev_tb, am_tb_nil, am_rfs, am_rfn, eq_self, and_self, if_true, if_false, show ¬ (1 : Int32) = 0 from by decide, show ¬ (0 : Int32) = 1 from by decide, not_true, not_false_eq_true, and_true, true_and, and_false, false_and, or_true, true_or, or_false, false_or, co_ob lo, co_r0 lo, ha_ob r.1, c_hasDeed r.1, r.2.1.2.1, h1, c_within, h2]
  · refine sm_same i ?_ (m_rounds0 lm (fun z => h1 z.1))
    simp only [n_90, e_90_0, e_90_1, e_90_4, e_90_5, e_90_8, e_90_11, e_90_12, e_90_13, e_90_15, e_90_18, e_90_21, e_90_23, e_90_24, e_90_25, e_90_28, e_90_31, e_90_32, f_90_33, e_90_34, e_90_35, f_90_38, e_90_40, f_90_41, e_90_45, e_90_46, e_90_49, e_90_50, e_90_53, e_90_54, f_90_57, e_90_60, e_90_63, e_90_64, e_90_67, e_90_69, e_90_70, Option.bind_some, Option.toList_some, Option.toList_none, List.cons_append, List.nil_append, am_k1_i, am_k1_r, am_k1_u, am_k1_n, am_bo0, am_bo1, am_boi, am_ev_tb, am_tb_nil, am_rfs, am_rfn, eq_self, and_self, if_true, if_false, show ¬ (1 : Int32) = 0 from by decide, show ¬ (0 : Int32) = 1 from by decide, not_true, not_false_eq_true, and_true, true_and, and_false, false_and, or_true, true_or, or_false, false_or, co_ob lo, co_r0 lo, ha_ob r.1, c_hasDeed r.1, r.2.1.2.1, h1]
end SC
