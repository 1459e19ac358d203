/-! calls on people, on both sides -/
theorem mt_ix6 {v : Int32} : (0 ≤ v ∧ v ≤ 5) ↔ ∃ k, k < 6 ∧ v = nI k := mt_ix (c := 6) (by omega)
theorem mt_ix24 {v : Int32} : (0 ≤ v ∧ v ≤ 23) ↔ ∃ k, k < 24 ∧ v = nI k := mt_ix (c := 24) (by omega)
section SA
variable {G : Nat → Nat} {h : am_H} {o m d : Nat}
theorem iv.m2 {h2 : am_H} (i : iv G h o m) (f : am_fr (cl_H (o + 1)) h h2) (k : Nat) : am_i h2 (m + k) = am_i h (m + k) := f.i1 (fun z => by have := z.2; have := i.1.1.2; omega)
theorem iv.a1 (i : iv G h o m) : o + 1 + 25 < G 0 + 136 := by have := i.1.1.1; omega
theorem s_person (i : iv G h o m) {k b : Int32} : sm G h o m d 74 146 [.int k, .int b] := by
  have lm := i.1.2.1
  have lo := i.1.2.2.1
  obtain ⟨n, nd, nt, hs, r⟩ := i.2.1
  by_cases h1 : 0 ≤ k ∧ k ≤ 5
  · by_cases h2 : 0 ≤ b ∧ b ≤ 100
    · by_cases h3 : n = 12
      · refine sm_same i (v := -1000000003) ?_ ?_
        · simp only [n_74, e_74_0, e_74_1, e_74_4, e_74_7, e_74_8, e_74_9, e_74_11, e_74_14, e_74_17, e_74_19, e_74_20, e_74_21, e_74_24, e_74_25, e_74_26, e_74_27, e_74_30, Option.bind_some, Option.toList_some, Option.toList_none, List.cons_append, List.nil_append, am_k1_i, am_k1_r, am_k1_u, am_k1_n, am_bo0, am_bo1, am_boi, am_ev_tb, am_tb_nil, am_rfs, am_rfn, eq_self, and_self, if_true, if_false, show ¬ (1 : Int32) = 0 from by decide, show ¬ (0 : Int32) = 1 from by decide, not_true, not_false_eq_true, and_true, true_and, and_false, false_and, or_true, true_or, or_false, false_or, c_isKind, c_within, h1, h2, co_ob lo, co_r0 lo, ha_ob r.1, c_addPerson0 r hs h3]
        · rw [m_person lm hs.1.1.1 hs.1.1.2, if_pos ⟨h1, h2⟩, if_pos h3]
      · have hn : n < 12 := by have := hs.1.1.2; omega
        obtain ⟨kk, hk, rfl⟩ := mt_ix6.mp h1
        obtain ⟨h2', e, r2, f⟩ := c_addPerson (d := d + 198) (k := nI kk) (b := b) (w := 0) r hs i.a1 hn
        have hσ := i.m2 f 1
        refine sm_hall i (v := nI n) (h3 := am_pa h2' (m + 1) (mt_comes (am_i h (m + 1)) n (nI kk) b 0)) (h2 := h2') ?_ ?_ f (am_fr.pa (Or.inl rfl)) r2 (mt_wf_comes hs hn hk) (by rw [am_pa_i, if_pos rfl])
        · simp only [n_74, e_74_0, e_74_1, e_74_4, e_74_7, e_74_8, e_74_9, e_74_11, e_74_14, e_74_17, e_74_19, e_74_20, e_74_21, e_74_24, e_74_25, e_74_26, e_74_27, e_74_30, Option.bind_some, Option.toList_some, Option.toList_none, List.cons_append, List.nil_append, am_k1_i, am_k1_r, am_k1_u, am_k1_n, am_bo0, am_bo1, am_boi, am_ev_tb, am_tb_nil, am_rfs, am_rfn, eq_self, and_self, if_true, if_false, show ¬ (1 : Int32) = 0 from by decide, show ¬ (0 : Int32) = 1 from by decide, not_true, not_false_eq_true, and_true, true_and, and_false, false_and, or_true, true_or, or_false, false_or, c_isKind, c_within, h1, h2, co_ob lo, co_r0 lo, ha_ob r.1, e]
        · rw [m_person (lm.fr f) (n := n) (by rw [hσ]; exact hs.1.1.1) hs.1.1.2, if_pos ⟨h1, h2⟩, if_neg h3, hσ]
    · refine sm_same i (v := -1000000001) ?_ ?_
      · simp only [n_74, e_74_0, e_74_1, e_74_4, e_74_7, e_74_8, e_74_9, e_74_11, e_74_14, e_74_17, e_74_19, e_74_20, e_74_21, e_74_24, e_74_25, e_74_26, e_74_27, e_74_30, Option.bind_some, Option.toList_some, Option.toList_none, List.cons_append, List.nil_append, am_k1_i, am_k1_r, am_k1_u, am_k1_n, am_bo0, am_bo1, am_boi, am_ev_tb, am_tb_nil, am_rfs, am_rfn, eq_self, and_self, if_true, if_false, show ¬ (1 : Int32) = 0 from by decide, show ¬ (0 : Int32) = 1 from by decide, not_true, not_false_eq_true, and_true, true_and, and_false, false_and, or_true, true_or, or_false, false_or, c_isKind, c_within, h1, h2]
      · rw [m_person lm hs.1.1.1 hs.1.1.2, if_neg (fun z => h2 z.2)]
  · refine sm_same i (v := -1000000001) ?_ ?_
    · simp only [n_74, e_74_0, e_74_1, e_74_4, e_74_7, e_74_8, e_74_9, e_74_11, e_74_14, e_74_17, e_74_19, e_74_20, e_74_21, e_74_24, e_74_25, e_74_26, e_74_27, e_74_30, Option.bind_some, Option.toList_some, Option.toList_none, List.cons_append, List.nil_append, am_k1_i, am_k1_r, am_k1_u, am_k1_n, am_bo0, am_bo1, am_boi, am_ev_tb, am_tb_nil, am_rfs, am_rfn, eq_self, and_self, if_true, if_false, show ¬ (1 : Int32) = 0 from by decide, show ¬ (0 : Int32) = 1 from by decide, not_true, not_false_eq_true, and_true, true_and, and_false, false_and, or_true, true_or, or_false, false_or, c_isKind, h1]
    · rw [m_person lm hs.1.1.1 hs.1.1.2, if_neg (fun z => h1 z.1)]
theorem iv.np (i : iv G h o m) {n nd nt : Nat} (hs : mt_wf (am_i h (m + 1)) n nd nt) {p : Int32} (hp : 0 ≤ p ∧ p ≤ am_i h (m + 1) 0 - 1) : ∃ k, k < n ∧ p = nI k := by
  rw [hs.1.1.1] at hp
  exact (mt_ix (by have := hs.1.1.2; omega)).mp hp
theorem iv.nd (i : iv G h o m) {n nd nt : Nat} (hs : mt_wf (am_i h (m + 1)) n nd nt) {p : Int32} (hp : 0 ≤ p ∧ p ≤ am_i h (m + 1) 1 - 1) : ∃ k, k < nd ∧ p = nI k := by
  rw [hs.1.2.1.1] at hp
  exact (mt_ix (by have := hs.1.2.1.2; omega)).mp hp
theorem s_told (i : iv G h o m) {p w : Int32} : sm G h o m d 75 151 [.int p, .int w] := by
  have lm := i.1.2.1
  have lo := i.1.2.2.1
  obtain ⟨n, nd, nt, hs, r⟩ := i.2.1
  have hn := hs.1.1.2
  by_cases h1 : 0 ≤ p ∧ p ≤ am_i h (m + 1) 0 - 1
  · obtain ⟨k, hk, rfl⟩ := i.np hs h1
    refine sm_same i ?_ (m_told lm hs.ok hk)
    unfold mt_told
    simp only [n_75, e_75_0, e_75_1, e_75_4, e_75_5, e_75_8, e_75_11, e_75_13, e_75_14, e_75_15, e_75_18, e_75_21, e_75_22, f_75_23, e_75_24, e_75_25, e_75_107, e_75_109, e_75_98, e_75_99, e_75_102, e_75_103, e_75_106, e_75_93, e_75_94, e_75_97, e_75_88, e_75_89, e_75_92, e_75_83, e_75_84, e_75_87, e_75_78, e_75_79, e_75_82, e_75_73, e_75_74, e_75_77, e_75_68, e_75_69, e_75_72, Option.bind_some, Option.toList_some, Option.toList_none, List.cons_append, List.nil_append, am_k1_i, am_k1_r, am_k1_u, am_k1_n, am_bo0, am_bo1, am_boi, am_ev_tb, am_tb_nil, am_rfs, am_rfn, eq_self, and_self, if_true, if_false, show ¬ (1 : Int32) = 0 from by decide, show ¬ (0 : Int32) = 1 from by decide, not_true, not_false_eq_true, and_true, true_and, and_false, false_and, or_true, true_or, or_false, false_or, co_ob lo, co_r0 lo, ha_ob r.1, c_hasPerson r.1, r.2.1.1, h1, ha_r0 r.1, ha_p1 r.1 (show k < 12 by omega), am_cl (show k < 2147483648 by omega), ha_p2 r.1 (show k < 12 by omega), ha_p3 r.1 (show k < 12 by omega), cr_p r hk (show 0 < 5 by omega), cr_p r hk (show 1 < 5 by omega), cr_p r hk (show 2 < 5 by omega), cr_p r hk (show 3 < 5 by omega), cr_f r hk, c_worth (ha_p3 r.1 (show k < 12 by omega)), c_deedsWithout r hs (show k < 12 by omega)]
    by_cases w0 : w = 0
    · subst w0; simp
    by_cases w1 : w = 1
    · subst w1; simp
    by_cases w2 : w = 2
    · subst w2; simp
    by_cases w3 : w = 3
    · subst w3; simp
    by_cases w4 : w = 4
    · subst w4; simp
    by_cases w5 : w = 5
    · subst w5; simp
    by_cases w6 : w = 6
    · subst w6; simp
    simp only [w0, w1, w2, w3, w4, w5, w6, if_false]
  · refine sm_same i ?_ (m_told0 lm h1)
    simp only [n_75, e_75_0, e_75_1, e_75_4, e_75_5, e_75_8, e_75_11, e_75_13, e_75_14, e_75_15, e_75_18, e_75_21, e_75_22, f_75_23, e_75_24, e_75_25, e_75_107, e_75_109, e_75_98, e_75_99, e_75_102, e_75_103, e_75_106, e_75_93, e_75_94, e_75_97, e_75_88, e_75_89, e_75_92, e_75_83, e_75_84, e_75_87, e_75_78, e_75_79, e_75_82, e_75_73, e_75_74, e_75_77, e_75_68, e_75_69, e_75_72, Option.bind_some, Option.toList_some, Option.toList_none, List.cons_append, List.nil_append, am_k1_i, am_k1_r, am_k1_u, am_k1_n, am_bo0, am_bo1, am_boi, am_ev_tb, am_tb_nil, am_rfs, am_rfn, eq_self, and_self, if_true, if_false, show ¬ (1 : Int32) = 0 from by decide, show ¬ (0 : Int32) = 1 from by decide, not_true, not_false_eq_true, and_true, true_and, and_false, false_and, or_true, true_or, or_false, false_or, co_ob lo, co_r0 lo, ha_ob r.1, c_hasPerson r.1, r.2.1.1, h1]
theorem s_as (i : iv G h o m) {p w : Int32} : sm G h o m d 76 153 [.int p, .int w] := by
  have lm := i.1.2.1
  have lo := i.1.2.2.1
  obtain ⟨n, nd, nt, hs, r⟩ := i.2.1
  have hn := hs.1.1.2
  by_cases h1 : 0 ≤ p ∧ p ≤ am_i h (m + 1) 0 - 1
  · by_cases h2 : 0 ≤ w ∧ w ≤ 5
    · obtain ⟨k, hk, rfl⟩ := i.np hs h1
      obtain ⟨kk, hkk, hkind⟩ := (hs.2.1 k hk).1
      have hk0 := cr_p r hk (show 0 < 5 by omega)
      refine sm_same i ?_ (m_as lm hs.ok hk h2)
      rw [hkind]
      rw [hkind] at hk0
      simp only [n_76, e_76_0, e_76_1, e_76_4, e_76_5, e_76_8, e_76_11, e_76_12, e_76_15, e_76_18, e_76_20, e_76_21, e_76_22, e_76_25, e_76_28, e_76_29, f_76_30, e_76_31, e_76_32, e_76_33, e_76_36, e_76_39, e_76_40, e_76_43, e_76_48, e_76_46, Option.bind_some, Option.toList_some, Option.toList_none, List.cons_append, List.nil_append, am_k1_i, am_k1_r, am_k1_u, am_k1_n, am_bo0, am_bo1, am_boi, am_ev_tb, am_tb_nil, am_rfs, am_rfn, eq_self, and_self, if_true, if_false, show ¬ (1 : Int32) = 0 from by decide, show ¬ (0 : Int32) = 1 from by decide, not_true, not_false_eq_true, and_true, true_and, and_false, false_and, or_true, true_or, or_false, false_or, co_ob lo, co_r0 lo, ha_ob r.1, c_hasPerson r.1, r.2.1.1, h1, c_isKind, h2, ha_r0 r.1, ha_p1 r.1 (show k < 12 by omega), am_cl (show k < 2147483648 by omega), ha_p2 r.1 (show k < 12 by omega), ha_p3 r.1 (show k < 12 by omega), c_isOf i.1.2.2.2.2.2 (ha_p3 r.1 (show k < 12 by omega)) hkk hk0, cr_p r hk (show 1 < 5 by omega)]
      split <;> simp
    · refine sm_same i ?_ (m_as0 lm (fun z => h2 z.2))
      simp only [n_76, e_76_0, e_76_1, e_76_4, e_76_5, e_76_8, e_76_11, e_76_12, e_76_15, e_76_18, e_76_20, e_76_21, e_76_22, e_76_25, e_76_28, e_76_29, f_76_30, e_76_31, e_76_32, e_76_33, e_76_36, e_76_39, e_76_40, e_76_43, e_76_48, e_76_46, Option.bind_some, Option.toList_some, Option.toList_none, List.cons_append, List.nil_append, am_k1_i, am_k1_r, am_k1_u, am_k1_n, am_bo0, am_bo1, am_boi, am_ev_tb, am_tb_nil, am_rfs, am_rfn, eq_self, and_self, if_true, if_false, show ¬ (1 : Int32) = 0 from by decide, show ¬ (0 : Int32) = 1 from by decide, not_true, not_false_eq_true, and_true, true_and, and_false, false_and, or_true, true_or, or_false, false_or, co_ob lo, co_r0 lo, ha_ob r.1, c_hasPerson r.1, r.2.1.1, h1, c_isKind, h2]
  · refine sm_same i ?_ (m_as0 lm (fun z => h1 z.1))
    simp only [n_76, e_76_0, e_76_1, e_76_4, e_76_5, e_76_8, e_76_11, e_76_12, e_76_15, e_76_18, e_76_20, e_76_21, e_76_22, e_76_25, e_76_28, e_76_29, f_76_30, e_76_31, e_76_32, e_76_33, e_76_36, e_76_39, e_76_40, e_76_43, e_76_48, e_76_46, Option.bind_some, Option.toList_some, Option.toList_none, List.cons_append, List.nil_append, am_k1_i, am_k1_r, am_k1_u, am_k1_n, am_bo0, am_bo1, am_boi, am_ev_tb, am_tb_nil, am_rfs, am_rfn, eq_self, and_self, if_true, if_false, show ¬ (1 : Int32) = 0 from by decide, show ¬ (0 : Int32) = 1 from by decide, not_true, not_false_eq_true, and_true, true_and, and_false, false_and, or_true, true_or, or_false, false_or, co_ob lo, co_r0 lo, ha_ob r.1, c_hasPerson r.1, r.2.1.1, h1]
theorem mt_wf_kind {σ : Nat → Int32} {n nd nt p k : Nat} (hs : mt_wf σ n nd nt) (hp : p < n) (hk : k < 6) : mt_wf (upd σ (6 + 5 * p) (nI k)) n nd nt := by
  obtain ⟨⟨⟨a1, a2⟩, ⟨b1, b2⟩, c1, c2⟩, hP, hD, hT⟩ := hs
  refine ⟨⟨⟨by rw [pk_un (by omega)]; exact a1, a2⟩, ⟨by rw [pk_un (by omega)]; exact b1, b2⟩, by rw [pk_un (by omega)]; exact c1, c2⟩, fun q hq => ?_, mt_wfD_congr b2 (fun j h1 h => by rw [pk_un (by omega)]) hD, mt_wfT_congr c2 (fun j h1 h => by rw [pk_un (by omega)]) hT⟩
  obtain ⟨h1, h2, h3, h4⟩ := hP q hq
  refine ⟨?_, ?_, ?_, ?_⟩
  · by_cases e : q = p
    · subst e; exact ⟨k, hk, by rw [Nat.add_zero, pk_us]⟩
    · rw [pk_un (by omega)]; exact h1
  · unfold mt_T at h2 ⊢
    rw [pk_un (by omega)]
    exact h2
  · rw [pk_un (by omega)]
    exact h3
  · intro q2 hq2
    rw [pk_un (by omega), pk_un (by omega)]
    exact h4 q2 hq2
theorem mt_wf_12 {σ : Nat → Int32} {n nd nt p j : Nat} {v : Int32} (hs : mt_wf σ n nd nt) (hp : p < n) (hj : j = 1 ∨ j = 2) : mt_wf (upd σ (6 + 5 * p + j) v) n nd nt := by
  obtain ⟨⟨⟨a1, a2⟩, ⟨b1, b2⟩, c1, c2⟩, hP, hD, hT⟩ := hs
  refine ⟨⟨⟨by rw [pk_un (by omega)]; exact a1, a2⟩, ⟨by rw [pk_un (by omega)]; exact b1, b2⟩, by rw [pk_un (by omega)]; exact c1, c2⟩, fun q hq => ?_, mt_wfD_congr b2 (fun j h1 h => by rw [pk_un (by omega)]) hD, mt_wfT_congr c2 (fun j h1 h => by rw [pk_un (by omega)]) hT⟩
  obtain ⟨h1, h2, h3, h4⟩ := hP q hq
  refine ⟨?_, ?_, ?_, ?_⟩
  · rw [pk_un (by omega)]; exact h1
  · unfold mt_T at h2 ⊢
    rw [pk_un (by omega)]
    exact h2
  · rw [pk_un (by omega)]
    exact h3
  · intro q2 hq2
    rw [pk_un (by omega), pk_un (by omega)]
    exact h4 q2 hq2
theorem s_turns (i : iv G h o m) {p w : Int32} : sm G h o m d 77 154 [.int p, .int w] := by
  have lm := i.1.2.1
  have lo := i.1.2.2.1
  obtain ⟨n, nd, nt, hs, r⟩ := i.2.1
  have hn := hs.1.1.2
  by_cases h1 : 0 ≤ p ∧ p ≤ am_i h (m + 1) 0 - 1
  · by_cases h2 : 0 ≤ w ∧ w ≤ 5
    · obtain ⟨k, hk, rfl⟩ := i.np hs h1
      obtain ⟨kk, hkk, rfl⟩ := mt_ix6.mp h2
      have f : am_fr (cl_H (o + 1)) h (am_pi h (o + 1 + 6 + k) 0 (nI kk)) := am_fr.pi ⟨by omega, by omega⟩
      have hσ := i.m2 f 1
      have e2 := m_turns (d := d + 198) (lm.fr f) (p := k) (w := nI kk) (by rw [hσ]; exact hs.ok) hk h2
      rw [hσ] at e2
      have r2 := r.pp hs i.a1 (q := k) (j := 0) (v := nI kk) hk (by omega)
      refine sm_hall i ?_ e2 f (am_fr.pa (Or.inl rfl)) r2 (mt_wf_kind hs hk hkk) (by rw [am_pa_i, if_pos rfl]; rfl)
      simp only [n_77, e_77_0, e_77_1, e_77_4, e_77_5, e_77_8, e_77_11, e_77_12, e_77_15, e_77_18, e_77_20, e_77_21, e_77_22, e_77_25, e_77_28, e_77_29, e_77_30, f_77_33, e_77_34, e_77_35, e_77_38, e_77_41, e_77_42, e_77_43, e_77_44, e_77_47, e_77_48, Option.bind_some, Option.toList_some, Option.toList_none, List.cons_append, List.nil_append, am_k1_i, am_k1_r, am_k1_u, am_k1_n, am_bo0, am_bo1, am_boi, am_ev_tb, am_tb_nil, am_rfs, am_rfn, eq_self, and_self, if_true, if_false, show ¬ (1 : Int32) = 0 from by decide, show ¬ (0 : Int32) = 1 from by decide, not_true, not_false_eq_true, and_true, true_and, and_false, false_and, or_true, true_or, or_false, false_or, co_ob lo, co_r0 lo, ha_ob r.1, c_hasPerson r.1, r.2.1.1, h1, c_isKind, h2, ha_r0 r.1, ha_p1 r.1 (show k < 12 by omega), am_cl (show k < 2147483648 by omega), ha_p2 r.1 (show k < 12 by omega), ha_p3 r.1 (show k < 12 by omega), cr_p r hk (show 0 < 5 by omega), Nat.add_zero]
    · refine sm_same i ?_ (m_turns0 lm (fun z => h2 z.2))
      simp only [n_77, e_77_0, e_77_1, e_77_4, e_77_5, e_77_8, e_77_11, e_77_12, e_77_15, e_77_18, e_77_20, e_77_21, e_77_22, e_77_25, e_77_28, e_77_29, e_77_30, f_77_33, e_77_34, e_77_35, e_77_38, e_77_41, e_77_42, e_77_43, e_77_44, e_77_47, e_77_48, Option.bind_some, Option.toList_some, Option.toList_none, List.cons_append, List.nil_append, am_k1_i, am_k1_r, am_k1_u, am_k1_n, am_bo0, am_bo1, am_boi, am_ev_tb, am_tb_nil, am_rfs, am_rfn, eq_self, and_self, if_true, if_false, show ¬ (1 : Int32) = 0 from by decide, show ¬ (0 : Int32) = 1 from by decide, not_true, not_false_eq_true, and_true, true_and, and_false, false_and, or_true, true_or, or_false, false_or, co_ob lo, co_r0 lo, ha_ob r.1, c_hasPerson r.1, r.2.1.1, h1, c_isKind, h2]
  · refine sm_same i ?_ (m_turns0 lm (fun z => h1 z.1))
    simp only [n_77, e_77_0, e_77_1, e_77_4, e_77_5, e_77_8, e_77_11, e_77_12, e_77_15, e_77_18, e_77_20, e_77_21, e_77_22, e_77_25, e_77_28, e_77_29, e_77_30, f_77_33, e_77_34, e_77_35, e_77_38, e_77_41, e_77_42, e_77_43, e_77_44, e_77_47, e_77_48, Option.bind_some, Option.toList_some, Option.toList_none, List.cons_append, List.nil_append, am_k1_i, am_k1_r, am_k1_u, am_k1_n, am_bo0, am_bo1, am_boi, am_ev_tb, am_tb_nil, am_rfs, am_rfn, eq_self, and_self, if_true, if_false, show ¬ (1 : Int32) = 0 from by decide, show ¬ (0 : Int32) = 1 from by decide, not_true, not_false_eq_true, and_true, true_and, and_false, false_and, or_true, true_or, or_false, false_or, co_ob lo, co_r0 lo, ha_ob r.1, c_hasPerson r.1, r.2.1.1, h1]
theorem s_bolder (i : iv G h o m) {p w : Int32} : sm G h o m d 78 155 [.int p, .int w] := by
  have lm := i.1.2.1
  have lo := i.1.2.2.1
  obtain ⟨n, nd, nt, hs, r⟩ := i.2.1
  have hn := hs.1.1.2
  by_cases h1 : 0 ≤ p ∧ p ≤ am_i h (m + 1) 0 - 1
  · by_cases h2 : 0 ≤ w ∧ w ≤ 100
    · obtain ⟨k, hk, rfl⟩ := i.np hs h1
      have f : am_fr (cl_H (o + 1)) h (am_pi h (o + 1 + 6 + k) 1 w) := am_fr.pi ⟨by omega, by omega⟩
      have hσ := i.m2 f 1
      have e2 := m_bolder (d := d + 198) (lm.fr f) (p := k) (w := w) (by rw [hσ]; exact hs.ok) hk h2
      rw [hσ] at e2
      have r2 := r.pp hs i.a1 (q := k) (j := 1) (v := w) hk (by omega)
      refine sm_hall i ?_ e2 f (am_fr.pa (Or.inl rfl)) r2 (mt_wf_12 hs hk (Or.inl rfl)) (by rw [am_pa_i, if_pos rfl])
      simp only [n_78, e_78_0, e_78_1, e_78_4, e_78_5, e_78_8, e_78_11, e_78_12, e_78_13, e_78_15, e_78_18, e_78_21, e_78_23, e_78_24, e_78_25, e_78_28, e_78_31, e_78_32, e_78_33, f_78_36, e_78_37, e_78_38, e_78_41, e_78_44, e_78_45, e_78_46, e_78_47, e_78_50, e_78_51, Option.bind_some, Option.toList_some, Option.toList_none, List.cons_append, List.nil_append, am_k1_i, am_k1_r, am_k1_u, am_k1_n, am_bo0, am_bo1, am_boi, am_ev_tb, am_tb_nil, am_rfs, am_rfn, eq_self, and_self, if_true, if_false, show ¬ (1 : Int32) = 0 from by decide, show ¬ (0 : Int32) = 1 from by decide, not_true, not_false_eq_true, and_true, true_and, and_false, false_and, or_true, true_or, or_false, false_or, co_ob lo, co_r0 lo, ha_ob r.1, c_hasPerson r.1, r.2.1.1, h1, c_within, h2, ha_r0 r.1, ha_p1 r.1 (show k < 12 by omega), am_cl (show k < 2147483648 by omega), ha_p2 r.1 (show k < 12 by omega), ha_p3 r.1 (show k < 12 by omega), cr_p r hk (show 1 < 5 by omega)]
    · refine sm_same i ?_ (m_bolder0 lm (fun z => h2 z.2))
      simp only [n_78, e_78_0, e_78_1, e_78_4, e_78_5, e_78_8, e_78_11, e_78_12, e_78_13, e_78_15, e_78_18, e_78_21, e_78_23, e_78_24, e_78_25, e_78_28, e_78_31, e_78_32, e_78_33, f_78_36, e_78_37, e_78_38, e_78_41, e_78_44, e_78_45, e_78_46, e_78_47, e_78_50, e_78_51, Option.bind_some, Option.toList_some, Option.toList_none, List.cons_append, List.nil_append, am_k1_i, am_k1_r, am_k1_u, am_k1_n, am_bo0, am_bo1, am_boi, am_ev_tb, am_tb_nil, am_rfs, am_rfn, eq_self, and_self, if_true, if_false, show ¬ (1 : Int32) = 0 from by decide, show ¬ (0 : Int32) = 1 from by decide, not_true, not_false_eq_true, and_true, true_and, and_false, false_and, or_true, true_or, or_false, false_or, co_ob lo, co_r0 lo, ha_ob r.1, c_hasPerson r.1, r.2.1.1, h1, c_within, h2]
  · refine sm_same i ?_ (m_bolder0 lm (fun z => h1 z.1))
    simp only [n_78, e_78_0, e_78_1, e_78_4, e_78_5, e_78_8, e_78_11, e_78_12, e_78_13, e_78_15, e_78_18, e_78_21, e_78_23, e_78_24, e_78_25, e_78_28, e_78_31, e_78_32, e_78_33, f_78_36, e_78_37, e_78_38, e_78_41, e_78_44, e_78_45, e_78_46, e_78_47, e_78_50, e_78_51, Option.bind_some, Option.toList_some, Option.toList_none, List.cons_append, List.nil_append, am_k1_i, am_k1_r, am_k1_u, am_k1_n, am_bo0, am_bo1, am_boi, am_ev_tb, am_tb_nil, am_rfs, am_rfn, eq_self, and_self, if_true, if_false, show ¬ (1 : Int32) = 0 from by decide, show ¬ (0 : Int32) = 1 from by decide, not_true, not_false_eq_true, and_true, true_and, and_false, false_and, or_true, true_or, or_false, false_or, co_ob lo, co_r0 lo, ha_ob r.1, c_hasPerson r.1, r.2.1.1, h1]
theorem s_away (i : iv G h o m) {p w z : Int32} : sm G h o m d 79 157 [.int p, .int w, .int z] := by
  have lm := i.1.2.1
  have lo := i.1.2.2.1
  obtain ⟨n, nd, nt, hs, r⟩ := i.2.1
  have hn := hs.1.1.2
  by_cases h1 : 0 ≤ p ∧ p ≤ am_i h (m + 1) 0 - 1
  · by_cases h2 : 0 ≤ w ∧ w ≤ 23
    · by_cases h3 : z = 0 ∨ z = 1
      · obtain ⟨k, hk, rfl⟩ := i.np hs h1
        obtain ⟨b, hb, rfl⟩ := mt_ix24.mp h2
        have f : am_fr (cl_H (o + 1)) h (am_pi h (o + 1 + 6 + k) 2 (mt_wb (am_i h (m + 1) (6 + 5 * k + 2)) b z)) := am_fr.pi ⟨by omega, by omega⟩
        have hσ := i.m2 f 1
        have e2 := m_away (d := d + 198) (lm.fr f) (p := k) (k := b) (z := z) (by rw [hσ]; exact hs.ok) hk hb (m_01.mpr h3)
        rw [hσ] at e2
        have r2 := r.pp hs i.a1 (q := k) (j := 2) (v := mt_wb (am_i h (m + 1) (6 + 5 * k + 2)) b z) hk (by omega)
        refine sm_hall i ?_ e2 f (am_fr.pa (Or.inl rfl)) r2 (mt_wf_12 hs hk (Or.inr rfl)) (by rw [am_pa_i, if_pos rfl])
        simp only [n_79, e_79_0, e_79_1, e_79_4, e_79_5, e_79_8, e_79_11, e_79_12, e_79_15, e_79_18, e_79_19, e_79_22, e_79_25, e_79_27, e_79_28, e_79_29, e_79_32, e_79_35, e_79_36, f_79_37, e_79_39, e_79_41, e_79_44, e_79_45, f_79_48, e_79_50, e_79_52, e_79_54, e_79_57, e_79_58, e_79_59, e_79_62, e_79_65, e_79_67, Option.bind_some, Option.toList_some, Option.toList_none, List.cons_append, List.nil_append, am_k1_i, am_k1_r, am_k1_u, am_k1_n, am_bo0, am_bo1, am_boi, am_ev_tb, am_tb_nil, am_rfs, am_rfn, eq_self, and_self, if_true, if_false, show ¬ (1 : Int32) = 0 from by decide, show ¬ (0 : Int32) = 1 from by decide, not_true, not_false_eq_true, and_true, true_and, and_false, false_and, or_true, true_or, or_false, false_or, co_ob lo, co_r0 lo, ha_ob r.1, c_hasPerson r.1, r.2.1.1, h1, c_isHour, h2, c_isYesOrNo, h3, ha_r0 r.1, ha_p1 r.1 (show k < 12 by omega), am_cl (show k < 2147483648 by omega), ha_p2 r.1 (show k < 12 by omega), ha_p3 r.1 (show k < 12 by omega), cr_p r hk (show 2 < 5 by omega), c_bitAt (show b < 32 by omega), c_withBit h3]
      · refine sm_same i ?_ (m_away0 lm (fun q => h3 (m_01.mp q.2.2)))
        simp only [n_79, e_79_0, e_79_1, e_79_4, e_79_5, e_79_8, e_79_11, e_79_12, e_79_15, e_79_18, e_79_19, e_79_22, e_79_25, e_79_27, e_79_28, e_79_29, e_79_32, e_79_35, e_79_36, f_79_37, e_79_39, e_79_41, e_79_44, e_79_45, f_79_48, e_79_50, e_79_52, e_79_54, e_79_57, e_79_58, e_79_59, e_79_62, e_79_65, e_79_67, Option.bind_some, Option.toList_some, Option.toList_none, List.cons_append, List.nil_append, am_k1_i, am_k1_r, am_k1_u, am_k1_n, am_bo0, am_bo1, am_boi, am_ev_tb, am_tb_nil, am_rfs, am_rfn, eq_self, and_self, if_true, if_false, show ¬ (1 : Int32) = 0 from by decide, show ¬ (0 : Int32) = 1 from by decide, not_true, not_false_eq_true, and_true, true_and, and_false, false_and, or_true, true_or, or_false, false_or, co_ob lo, co_r0 lo, ha_ob r.1, c_hasPerson r.1, r.2.1.1, h1, c_isHour, h2, c_isYesOrNo, h3]
    · refine sm_same i ?_ (m_away0 lm (fun q => h2 q.2.1))
      simp only [n_79, e_79_0, e_79_1, e_79_4, e_79_5, e_79_8, e_79_11, e_79_12, e_79_15, e_79_18, e_79_19, e_79_22, e_79_25, e_79_27, e_79_28, e_79_29, e_79_32, e_79_35, e_79_36, f_79_37, e_79_39, e_79_41, e_79_44, e_79_45, f_79_48, e_79_50, e_79_52, e_79_54, e_79_57, e_79_58, e_79_59, e_79_62, e_79_65, e_79_67, Option.bind_some, Option.toList_some, Option.toList_none, List.cons_append, List.nil_append, am_k1_i, am_k1_r, am_k1_u, am_k1_n, am_bo0, am_bo1, am_boi, am_ev_tb, am_tb_nil, am_rfs, am_rfn, eq_self, and_self, if_true, if_false, show ¬ (1 : Int32) = 0 from by decide, show ¬ (0 : Int32) = 1 from by decide, not_true, not_false_eq_true, and_true, true_and, and_false, false_and, or_true, true_or, or_false, false_or, co_ob lo, co_r0 lo, ha_ob r.1, c_hasPerson r.1, r.2.1.1, h1, c_isHour, h2]
  · refine sm_same i ?_ (m_away0 lm (fun z => h1 z.1))
    simp only [n_79, e_79_0, e_79_1, e_79_4, e_79_5, e_79_8, e_79_11, e_79_12, e_79_15, e_79_18, e_79_19, e_79_22, e_79_25, e_79_27, e_79_28, e_79_29, e_79_32, e_79_35, e_79_36, f_79_37, e_79_39, e_79_41, e_79_44, e_79_45, f_79_48, e_79_50, e_79_52, e_79_54, e_79_57, e_79_58, e_79_59, e_79_62, e_79_65, e_79_67, Option.bind_some, Option.toList_some, Option.toList_none, List.cons_append, List.nil_append, am_k1_i, am_k1_r, am_k1_u, am_k1_n, am_bo0, am_bo1, am_boi, am_ev_tb, am_tb_nil, am_rfs, am_rfn, eq_self, and_self, if_true, if_false, show ¬ (1 : Int32) = 0 from by decide, show ¬ (0 : Int32) = 1 from by decide, not_true, not_false_eq_true, and_true, true_and, and_false, false_and, or_true, true_or, or_false, false_or, co_ob lo, co_r0 lo, ha_ob r.1, c_hasPerson r.1, r.2.1.1, h1]
end SA
