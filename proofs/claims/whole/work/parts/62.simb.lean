/-! more calls on people -/
theorem mt_wb_bt {x v : Int32} {k i : Nat} (hk : k < 32) (hi : i < 32) (hv : v = 0 ∨ v = 1) : bt (mt_wb x k v) i = if i = k then decide (v = 1) else bt x i := by
  unfold mt_wb
  rcases hv with rfl | rfl
  · rw [if_neg (by decide), b_and, mt_not _ hi, mt_one hk hi]
    by_cases e : i = k
    · simp [e]
    · simp [e]
  · rw [if_pos rfl, b_or, mt_one hk hi]
    by_cases e : i = k
    · simp [e]
    · simp [e]
theorem mt_wf_frd {σ : Nat → Int32} {n nd nt p q : Nat} {z : Int32} (hs : mt_wf σ n nd nt) (hp : p < n) (hq : q < n) (hpq : p ≠ q) (hz : z = 0 ∨ z = 1) : mt_wf (mt_frd σ p q z) n nd nt := by
  obtain ⟨⟨⟨a1, a2⟩, ⟨b1, b2⟩, c1, c2⟩, hP, hD, hT⟩ := hs
  have ne : ∀ j, j ≠ 6 + 5 * p + 3 → j ≠ 6 + 5 * q + 3 → σ j = mt_frd σ p q z j := fun j h1 h2 => by
    unfold mt_frd
    rw [pk_un h2, pk_un h1]
  have hF : ∀ x, x < n → ∀ y, y < 32 → bt (mt_frd σ p q z (6 + 5 * x + 3)) y = if (x = p ∧ y = q) ∨ (x = q ∧ y = p) then decide (z = 1) else bt (σ (6 + 5 * x + 3)) y := by
    intro x hx y hy
    by_cases e1 : x = p
    · subst e1
      have : mt_frd σ x q z (6 + 5 * x + 3) = mt_wb (σ (6 + 5 * x + 3)) q z := by unfold mt_frd; rw [pk_un (by omega), pk_us]
      rw [this, mt_wb_bt (by omega) hy hz]
      by_cases e2 : y = q
      · rw [if_pos e2, if_pos (Or.inl ⟨rfl, e2⟩)]
      · rw [if_neg e2, if_neg (by omega)]
    · by_cases e2 : x = q
      · subst e2
        have : mt_frd σ p x z (6 + 5 * x + 3) = mt_wb (σ (6 + 5 * x + 3)) p z := by unfold mt_frd; rw [pk_us]
        rw [this, mt_wb_bt (by omega) hy hz]
        by_cases e3 : y = p
        · rw [if_pos e3, if_pos (Or.inr ⟨rfl, e3⟩)]
        · rw [if_neg e3, if_neg (by omega)]
      · rw [← ne _ (by omega) (by omega), if_neg (by omega)]
  refine ⟨⟨⟨by rw [← ne _ (by omega) (by omega)]; exact a1, a2⟩, ⟨by rw [← ne _ (by omega) (by omega)]; exact b1, b2⟩, by rw [← ne _ (by omega) (by omega)]; exact c1, c2⟩, fun x hx => ?_, mt_wfD_congr b2 (fun j h1 h => ne j (by omega) (by omega)) hD, mt_wfT_congr c2 (fun j h1 h => ne j (by omega) (by omega)) hT⟩
  obtain ⟨h1, h2, h3, h4⟩ := hP x hx
  refine ⟨by rw [← ne _ (by omega) (by omega)]; exact h1, fun i hi hi2 => ?_, fun i hi hi2 => ?_, fun y hy => ?_⟩
  · have := h2 i hi hi2
    unfold mt_T at this ⊢
    rw [← ne _ (by omega) (by omega)]
    exact this
  · rw [hF x hx i hi2, if_neg (by omega)]
    exact h3 i hi hi2
  · rw [hF x hx y (by omega), hF y hy x (by omega)]
    by_cases e : (x = p ∧ y = q) ∨ (x = q ∧ y = p)
    · rw [if_pos e, if_pos (by omega)]
    · rw [if_neg e, if_neg (by omega)]
      exact h4 y hy
theorem mt_wf_T {σ : Nat → Int32} {n nd nt p q : Nat} {z : Int32} (hs : mt_wf σ n nd nt) (hp : p < n) (hq : q < n) (hz : z = 0 ∨ z = 1) : mt_wf (upd σ (6 + 5 * p + 4) (mt_wb (σ (6 + 5 * p + 4)) q z)) n nd nt := by
  obtain ⟨⟨⟨a1, a2⟩, ⟨b1, b2⟩, c1, c2⟩, hP, hD, hT⟩ := hs
  refine ⟨⟨⟨by rw [pk_un (by omega)]; exact a1, a2⟩, ⟨by rw [pk_un (by omega)]; exact b1, b2⟩, by rw [pk_un (by omega)]; exact c1, c2⟩, fun x hx => ?_, mt_wfD_congr b2 (fun j h1 h => by rw [pk_un (by omega)]) hD, mt_wfT_congr c2 (fun j h1 h => by rw [pk_un (by omega)]) hT⟩
  obtain ⟨h1, h2, h3, h4⟩ := hP x hx
  refine ⟨by rw [pk_un (by omega)]; exact h1, fun i hi hi2 => ?_, fun i hi hi2 => ?_, fun y hy => ?_⟩
  · have := h2 i hi hi2
    unfold mt_T at this ⊢
    by_cases e : x = p
    · subst e
      rw [pk_us, mt_wb_bt (by omega) hi2 hz, if_neg (by omega)]
      exact this
    · rw [pk_un (by omega)]
      exact this
  · rw [pk_un (by omega)]
    exact h3 i hi hi2
  · rw [pk_un (by omega), pk_un (by omega)]
    exact h4 y hy
section SB
variable {G : Nat → Nat} {h : am_H} {o m d : Nat}
theorem s_friend (i : iv G h o m) {p q z : Int32} : sm G h o m d 80 159 [.int p, .int q, .int z] := by
  have lm := i.1.2.1
  have lo := i.1.2.2.1
  obtain ⟨n, nd, nt, hs, r⟩ := i.2.1
  have hn := hs.1.1.2
  by_cases h1 : (0 ≤ p ∧ p ≤ am_i h (m + 1) 0 - 1) ∧ (0 ≤ q ∧ q ≤ am_i h (m + 1) 0 - 1) ∧ ¬ p = q
  · by_cases h3 : z = 0 ∨ z = 1
    · obtain ⟨a, ha, rfl⟩ := i.np hs h1.1
      obtain ⟨b, hb, rfl⟩ := i.np hs h1.2.1
      have hab : a ≠ b := fun e => h1.2.2 (by rw [e])
      generalize hσe : am_i h (m + 1) = σ at *
      have r1 := r.pp' hn hs.1.2.1.2 hs.1.2.2.2 i.a1 (q := a) (j := 3) (v := mt_wb (σ (6 + 5 * a + 3)) b z) ha (by omega)
      have r2 := r1.pp' hn hs.1.2.1.2 hs.1.2.2.2 i.a1 (q := b) (j := 3) (v := mt_wb (σ (6 + 5 * b + 3)) a z) hb (by omega)
      have f : am_fr (cl_H (o + 1)) h (am_pi (am_pi h (o + 1 + 6 + a) 3 (mt_wb (σ (6 + 5 * a + 3)) b z)) (o + 1 + 6 + b) 3 (mt_wb (σ (6 + 5 * b + 3)) a z)) := (am_fr.pi (S := cl_H (o + 1)) ⟨by omega, by omega⟩).tr (am_fr.pi ⟨by omega, by omega⟩)
      have hσ := i.m2 f 1
      rw [hσe] at hσ
      have e2 := m_friend (d := d + 197) (lm.fr f) (p := a) (q := b) (z := z) (by rw [hσ]; exact hs.ok) ha hb hab (m_01.mpr h3)
      rw [hσ] at e2
      refine sm_hall i ?_ e2 f (am_fr.pa (Or.inl rfl)) r2 (mt_wf_frd hs ha hb hab h3) (by rw [am_pa_i, if_pos rfl]; rfl)
      have hsym : mt_b (σ (6 + 5 * a + 3)) b = mt_b (σ (6 + 5 * b + 3)) a := by unfold mt_b; rw [(hs.2.1 a ha).2.2.2 b hb]
      rw [← hsym]
      simp only [n_80, e_80_0, e_80_1, e_80_4, e_80_5, e_80_6, e_80_9, e_80_12, e_80_13, e_80_16, e_80_19, e_80_21, e_80_22, e_80_23, e_80_26, e_80_29, e_80_30, f_80_31, e_80_33, e_80_34, e_80_37, e_80_40, e_80_41, f_80_42, e_80_44, e_80_46, e_80_49, e_80_50, f_80_53, e_80_55, e_80_57, e_80_59, e_80_62, e_80_63, e_80_64, e_80_67, e_80_70, e_80_72, e_80_74, e_80_77, e_80_78, e_80_79, e_80_82, e_80_85, e_80_87, Option.bind_some, Option.toList_some, Option.toList_none, List.cons_append, List.nil_append, am_k1_i, am_k1_r, am_k1_u, am_k1_n, am_bo0, am_bo1, am_boi, am_ev_tb, am_tb_nil, am_rfs, am_rfn, eq_self, and_self, if_true, if_false, show ¬ (1 : Int32) = 0 from by decide, show ¬ (0 : Int32) = 1 from by decide, not_true, not_false_eq_true, and_true, true_and, and_false, false_and, or_true, true_or, or_false, false_or, co_ob lo, co_r0 lo, ha_ob r.1, c_hasTwo r.1, r.2.1.1, h1, c_isYesOrNo, h3, ha_r0 r.1, ha_p1 r.1 (show a < 12 by omega), am_cl (show a < 2147483648 by omega), ha_p2 r.1 (show a < 12 by omega), ha_p3 r.1 (show a < 12 by omega), ha_p1 r.1 (show b < 12 by omega), am_cl (show b < 2147483648 by omega), ha_p2 r.1 (show b < 12 by omega), ha_p3 r.1 (show b < 12 by omega), cr_p r ha (show 3 < 5 by omega), c_bitAt (show b < 32 by omega), c_withBit h3, am_ob_pi, am_pi_i, show ¬ o + 1 + 6 + b = o + 1 + 6 + a from by omega, cr_p r hb (show 3 < 5 by omega)]
    · refine sm_same i ?_ (m_friend0 lm (fun w => h3 (m_01.mp w.2.2.2)))
      simp only [n_80, e_80_0, e_80_1, e_80_4, e_80_5, e_80_6, e_80_9, e_80_12, e_80_13, e_80_16, e_80_19, e_80_21, e_80_22, e_80_23, e_80_26, e_80_29, e_80_30, f_80_31, e_80_33, e_80_34, e_80_37, e_80_40, e_80_41, f_80_42, e_80_44, e_80_46, e_80_49, e_80_50, f_80_53, e_80_55, e_80_57, e_80_59, e_80_62, e_80_63, e_80_64, e_80_67, e_80_70, e_80_72, e_80_74, e_80_77, e_80_78, e_80_79, e_80_82, e_80_85, e_80_87, Option.bind_some, Option.toList_some, Option.toList_none, List.cons_append, List.nil_append, am_k1_i, am_k1_r, am_k1_u, am_k1_n, am_bo0, am_bo1, am_boi, am_ev_tb, am_tb_nil, am_rfs, am_rfn, eq_self, and_self, if_true, if_false, show ¬ (1 : Int32) = 0 from by decide, show ¬ (0 : Int32) = 1 from by decide, not_true, not_false_eq_true, and_true, true_and, and_false, false_and, or_true, true_or, or_false, false_or, co_ob lo, co_r0 lo, ha_ob r.1, c_hasTwo r.1, r.2.1.1, h1, c_isYesOrNo, h3]
  · refine sm_same i ?_ (m_friend0 lm (fun w => h1 ⟨w.1, w.2.1, w.2.2.1⟩))
    simp only [n_80, e_80_0, e_80_1, e_80_4, e_80_5, e_80_6, e_80_9, e_80_12, e_80_13, e_80_16, e_80_19, e_80_21, e_80_22, e_80_23, e_80_26, e_80_29, e_80_30, f_80_31, e_80_33, e_80_34, e_80_37, e_80_40, e_80_41, f_80_42, e_80_44, e_80_46, e_80_49, e_80_50, f_80_53, e_80_55, e_80_57, e_80_59, e_80_62, e_80_63, e_80_64, e_80_67, e_80_70, e_80_72, e_80_74, e_80_77, e_80_78, e_80_79, e_80_82, e_80_85, e_80_87, Option.bind_some, Option.toList_some, Option.toList_none, List.cons_append, List.nil_append, am_k1_i, am_k1_r, am_k1_u, am_k1_n, am_bo0, am_bo1, am_boi, am_ev_tb, am_tb_nil, am_rfs, am_rfn, eq_self, and_self, if_true, if_false, show ¬ (1 : Int32) = 0 from by decide, show ¬ (0 : Int32) = 1 from by decide, not_true, not_false_eq_true, and_true, true_and, and_false, false_and, or_true, true_or, or_false, false_or, co_ob lo, co_r0 lo, ha_ob r.1, c_hasTwo r.1, r.2.1.1, h1]
theorem s_follow (i : iv G h o m) {p q z : Int32} : sm G h o m d 81 160 [.int p, .int q, .int z] := by
  have lm := i.1.2.1
  have lo := i.1.2.2.1
  obtain ⟨n, nd, nt, hs, r⟩ := i.2.1
  have hn := hs.1.1.2
  have hnd := hs.1.2.1.2
  by_cases h1 : (0 ≤ p ∧ p ≤ am_i h (m + 1) 0 - 1) ∧ (0 ≤ q ∧ q ≤ am_i h (m + 1) 0 - 1) ∧ ¬ p = q
  · by_cases h3 : z = 0 ∨ z = 1
    · obtain ⟨a, ha, rfl⟩ := i.np hs h1.1
      obtain ⟨b, hb, rfl⟩ := i.np hs h1.2.1
      have hab : a ≠ b := fun e => h1.2.2 (by rw [e])
      have hoa := i.1.1.1
      generalize hσe : am_i h (m + 1) = σ at *
      generalize hV : mt_wb (σ (6 + 5 * a + 4)) b z = V at *
      have f1 : am_fr (cl_H (o + 1)) h (am_pi h (o + 1 + 6 + a) 4 V) := am_fr.pi ⟨by omega, by omega⟩
      have l1 := r.1.fr f1
      have hc1 : am_i (am_pi h (o + 1 + 6 + a) 4 V) (o + 1) 5 = nI n := by rw [(am_pi_o (o + 1) (by omega)).1, r.2.1.1, hs.1.1.1]
      obtain ⟨h2, e, f2, g1, g2⟩ := c_workOut (d := d + 197) l1 hc1 hn
      have f : am_fr (cl_H (o + 1)) h h2 := f1.tr (f2.wd (fun c hc => ⟨by have := hc.1; omega, by have := hc.2; omega⟩))
      have r2 : cl_R G h2 (o + 1) (upd σ (6 + 5 * a + 4) V) n nd nt := by
        have hrow : ∀ x, x < n → ∀ j, j < 5 → am_i h2 (o + 1 + 6 + x) j = upd σ (6 + 5 * a + 4) V (6 + 5 * x + j) := fun x hx j hj => by
          rw [g1 x hx j (by omega), am_pi_i]
          by_cases e : x = a ∧ j = 4
          · obtain ⟨rfl, rfl⟩ := e
            rw [if_pos ⟨rfl, rfl⟩, pk_us]
          · rw [if_neg (fun w => e ⟨by omega, w.2⟩), pk_un (fun w => e ⟨by omega, by omega⟩)]
            exact cr_p r hx hj
        have fS : am_fr (fun c => o + 1 + 6 ≤ c ∧ c < o + 1 + 18) h h2 := (am_fr.pi (S := fun c => o + 1 + 6 ≤ c ∧ c < o + 1 + 18) ⟨by omega, by omega⟩).tr f2
        refine r.ch hs.1.2.2.2 fS (fun c hc => ⟨by omega, by omega⟩) ?_ (fun x hx => ⟨hrow x hx, ?_⟩) (fun y hy j hj => ?_) (fun j h1 h2 => by rw [pk_un (by omega)])
        · rw [fS.i1 (by omega), pk_un (by omega), pk_un (by omega), pk_un (by omega), pk_un (by omega), pk_un (by omega)]
          exact r.2.1
        · rw [g2 x hx]
          refine mt_fol_congr hx (fun y hy => ?_)
          show am_i (am_pi h (o + 1 + 6 + a) 4 V) (o + 1 + 6 + y) 4 = upd σ (6 + 5 * a + 4) V (6 + 5 * y + 4)
          rw [← hrow y hy 4 (by omega), g1 y hy 4 (by omega)]
        · rw [fS.i1 (by omega), pk_un (by omega)]
          exact cr_d r hy hj
      have hσ := i.m2 f 1
      rw [hσe] at hσ
      have e2 := m_follow (d := d + 197) (lm.fr f) (p := a) (q := b) (z := z) (by rw [hσ]; exact hs.ok) ha hb hab (m_01.mpr h3)
      rw [hσ, hV] at e2
      have hw := mt_wf_T hs ha hb h3
      rw [hV] at hw
      refine sm_hall i ?_ e2 f (am_fr.pa (Or.inl rfl)) r2 hw (by rw [am_pa_i, if_pos rfl])
      simp only [n_81, e_81_0, e_81_1, e_81_4, e_81_5, e_81_6, e_81_9, e_81_12, e_81_13, e_81_16, e_81_19, e_81_21, e_81_22, e_81_23, e_81_26, e_81_29, e_81_30, f_81_31, e_81_33, e_81_35, e_81_38, e_81_39, f_81_42, e_81_44, e_81_46, e_81_48, e_81_51, e_81_52, e_81_53, e_81_56, e_81_59, e_81_60, e_81_63, e_81_66, e_81_68, Option.bind_some, Option.toList_some, Option.toList_none, List.cons_append, List.nil_append, am_k1_i, am_k1_r, am_k1_u, am_k1_n, am_bo0, am_bo1, am_boi, am_ev_tb, am_tb_nil, am_rfs, am_rfn, eq_self, and_self, if_true, if_false, show ¬ (1 : Int32) = 0 from by decide, show ¬ (0 : Int32) = 1 from by decide, not_true, not_false_eq_true, and_true, true_and, and_false, false_and, or_true, true_or, or_false, false_or, co_ob lo, co_r0 lo, ha_ob r.1, c_hasTwo r.1, r.2.1.1, h1, c_isYesOrNo, h3, ha_r0 r.1, ha_p1 r.1 (show a < 12 by omega), am_cl (show a < 2147483648 by omega), ha_p2 r.1 (show a < 12 by omega), ha_p3 r.1 (show a < 12 by omega), cr_p r ha (show 4 < 5 by omega), c_bitAt (show b < 32 by omega), c_withBit h3, hV, am_ob_pi, am_pi_r, e]
    · refine sm_same i ?_ (m_follow0 lm (fun w => h3 (m_01.mp w.2.2.2)))
      simp only [n_81, e_81_0, e_81_1, e_81_4, e_81_5, e_81_6, e_81_9, e_81_12, e_81_13, e_81_16, e_81_19, e_81_21, e_81_22, e_81_23, e_81_26, e_81_29, e_81_30, f_81_31, e_81_33, e_81_35, e_81_38, e_81_39, f_81_42, e_81_44, e_81_46, e_81_48, e_81_51, e_81_52, e_81_53, e_81_56, e_81_59, e_81_60, e_81_63, e_81_66, e_81_68, Option.bind_some, Option.toList_some, Option.toList_none, List.cons_append, List.nil_append, am_k1_i, am_k1_r, am_k1_u, am_k1_n, am_bo0, am_bo1, am_boi, am_ev_tb, am_tb_nil, am_rfs, am_rfn, eq_self, and_self, if_true, if_false, show ¬ (1 : Int32) = 0 from by decide, show ¬ (0 : Int32) = 1 from by decide, not_true, not_false_eq_true, and_true, true_and, and_false, false_and, or_true, true_or, or_false, false_or, co_ob lo, co_r0 lo, ha_ob r.1, c_hasTwo r.1, r.2.1.1, h1, c_isYesOrNo, h3]
  · refine sm_same i ?_ (m_follow0 lm (fun w => h1 ⟨w.1, w.2.1, w.2.2.1⟩))
    simp only [n_81, e_81_0, e_81_1, e_81_4, e_81_5, e_81_6, e_81_9, e_81_12, e_81_13, e_81_16, e_81_19, e_81_21, e_81_22, e_81_23, e_81_26, e_81_29, e_81_30, f_81_31, e_81_33, e_81_35, e_81_38, e_81_39, f_81_42, e_81_44, e_81_46, e_81_48, e_81_51, e_81_52, e_81_53, e_81_56, e_81_59, e_81_60, e_81_63, e_81_66, e_81_68, Option.bind_some, Option.toList_some, Option.toList_none, List.cons_append, List.nil_append, am_k1_i, am_k1_r, am_k1_u, am_k1_n, am_bo0, am_bo1, am_boi, am_ev_tb, am_tb_nil, am_rfs, am_rfn, eq_self, and_self, if_true, if_false, show ¬ (1 : Int32) = 0 from by decide, show ¬ (0 : Int32) = 1 from by decide, not_true, not_false_eq_true, and_true, true_and, and_false, false_and, or_true, true_or, or_false, false_or, co_ob lo, co_r0 lo, ha_ob r.1, c_hasTwo r.1, r.2.1.1, h1]
theorem c_deal_l {σ : Nat → Int32} {n nd nt c : Nat} {k0 : Int32} (lo : cl_Obj G h o) (r : cl_R G h (o + 1) σ n nd nt) (hs : mt_wf σ n nd nt) (ha : o + 1 + 25 < G 0 + 136) (hc : n + c ≤ 12) : ∀ j q h', q + j = c → am_fr (cl_H (o + 1)) h h' → cl_R G h' (o + 1) (mt_dealN σ n q) (n + q) nd nt → mt_wf (mt_dealN σ n q) (n + q) nd nt → ∃ h2, am_ev G (d + 3) 82 30 [some (.ref o), some (.int k0), some (.int (nI c)), some (.int (nI q))] [] h' = some (some (.int (nI c)), h2) ∧ am_fr (cl_H (o + 1)) h h2 ∧ cl_R G h2 (o + 1) (mt_dealN σ n c) (n + c) nd nt ∧ mt_wf (mt_dealN σ n c) (n + c) nd nt := by
  intro j
  induction j with
  | zero =>
    intro q h' hq hf r' hs'
    obtain rfl : q = c := by omega
    refine ⟨h', ?_, hf, r', hs'⟩
    rw [e_82_30]
    simp only [n_82, e_82_0, e_82_1, e_82_2, e_82_4, e_82_7, e_82_10, e_82_12, e_82_13, e_82_14, e_82_16, e_82_17, e_82_20, e_82_23, e_82_24, f_82_27, e_82_28, f_82_29, e_82_31, e_82_32, e_82_35, e_82_36, e_82_39, f_82_42, e_82_45, e_82_48, e_82_49, Option.bind_some, Option.toList_some, Option.toList_none, List.cons_append, List.nil_append, am_k1_i, am_k1_r, am_k1_u, am_k1_n, am_bo0, am_bo1, am_boi, am_ev_tb, am_tb_nil, am_rfs, am_rfn, eq_self, and_self, if_true, if_false, show ¬ (1 : Int32) = 0 from by decide, show ¬ (0 : Int32) = 1 from by decide, not_true, not_false_eq_true, and_true, true_and, and_false, false_and, or_true, true_or, or_false, false_or, Int32.le_refl]
  | succ j ih =>
    intro q h' hq hf r' hs'
    have lo' := lo.fr hf
    have hlt : ¬ nI c ≤ nI q := nI_ge (by omega) (by omega)
    obtain ⟨h2, e, r2, f2⟩ := c_drawPerson (d := d) r' hs' ha (show n + q < 12 by omega)
    obtain ⟨h3, e3, rest⟩ := ih (q + 1) h2 (by omega) (hf.tr f2) r2 (mt_wf_deal1 hs' (by omega))
    refine ⟨h3, ?_, rest⟩
    rw [← e3, e_82_30]
    simp only [n_82, e_82_0, e_82_1, e_82_2, e_82_4, e_82_7, e_82_10, e_82_12, e_82_13, e_82_14, e_82_16, e_82_17, e_82_20, e_82_23, e_82_24, f_82_27, e_82_28, f_82_29, e_82_31, e_82_32, e_82_35, e_82_36, e_82_39, f_82_42, e_82_45, e_82_48, e_82_49, Option.bind_some, Option.toList_some, Option.toList_none, List.cons_append, List.nil_append, am_k1_i, am_k1_r, am_k1_u, am_k1_n, am_bo0, am_bo1, am_boi, am_ev_tb, am_tb_nil, am_rfs, am_rfn, eq_self, and_self, if_true, if_false, show ¬ (1 : Int32) = 0 from by decide, show ¬ (0 : Int32) = 1 from by decide, not_true, not_false_eq_true, and_true, true_and, and_false, false_and, or_true, true_or, or_false, false_or, hlt, co_ob lo', co_r0 lo', ha_ob r'.1, e, nI_1]
theorem s_deal (i : iv G h o m) {k : Int32} : sm G h o m d 82 161 [.int k] := by
  have lm := i.1.2.1
  have lo := i.1.2.2.1
  obtain ⟨n, nd, nt, hs, r⟩ := i.2.1
  have hn := hs.1.1.2
  by_cases h1 : 1 ≤ k ∧ k ≤ 12
  · obtain ⟨kk, hk, rfl⟩ := (mt_ix (p := k) (c := 13) (by omega)).mp ⟨Int32.le_trans (by decide) h1.1, h1.2⟩
    have hk1 : 1 ≤ kk := (nI_leI (a := 1) (by omega) (by omega)).mp h1.1
    have hcome : (if (12 : Int32) - nI n < nI kk then (12 : Int32) - nI n else nI kk) = nI (min kk (12 - n)) := by
      rw [show (12 : Int32) = nI 12 from rfl, pk_sub hn]
      by_cases c : 12 - n < kk
      · rw [if_pos (nI_lt c (by omega)), Nat.min_eq_right (by omega)]
      · rw [if_neg (nI_nlt (by omega) (by omega)), Nat.min_eq_left (by omega)]
    obtain ⟨h2, e, f, r2, hs2⟩ := c_deal_l (d := d + 197) (k0 := nI kk) lo r hs i.a1 (show n + min kk (12 - n) ≤ 12 by omega) (min kk (12 - n)) 0 h (by omega) am_fr.rf r hs
    have hσ := i.m2 f 1
    have e2 := m_deal (d := d + 199) (lm.fr f) (n := n) (k0 := kk) (by rw [hσ]; exact hs.1.1.1) hn hk1 (by omega)
    rw [hσ] at e2
    refine sm_hall i ?_ e2 f (am_fr.pa (Or.inl rfl)) r2 hs2 (by rw [am_pa_i, if_pos rfl])
    rw [← e]
    simp only [n_82, e_82_0, e_82_1, e_82_2, e_82_4, e_82_7, e_82_10, e_82_12, e_82_13, e_82_14, e_82_16, e_82_17, e_82_20, e_82_23, e_82_24, f_82_27, e_82_28, f_82_29, e_82_31, e_82_32, e_82_35, e_82_36, e_82_39, f_82_42, e_82_45, e_82_48, e_82_49, Option.bind_some, Option.toList_some, Option.toList_none, List.cons_append, List.nil_append, am_k1_i, am_k1_r, am_k1_u, am_k1_n, am_bo0, am_bo1, am_boi, am_ev_tb, am_tb_nil, am_rfs, am_rfn, eq_self, and_self, if_true, if_false, show ¬ (1 : Int32) = 0 from by decide, show ¬ (0 : Int32) = 1 from by decide, not_true, not_false_eq_true, and_true, true_and, and_false, false_and, or_true, true_or, or_false, false_or, c_within, h1, co_ob lo, co_r0 lo, ha_ob r.1, r.2.1.1, hs.1.1.1, hcome]
    rfl
  · refine sm_same i ?_ (m_deal0 h1)
    simp only [n_82, e_82_0, e_82_1, e_82_2, e_82_4, e_82_7, e_82_10, e_82_12, e_82_13, e_82_14, e_82_16, e_82_17, e_82_20, e_82_23, e_82_24, f_82_27, e_82_28, f_82_29, e_82_31, e_82_32, e_82_35, e_82_36, e_82_39, f_82_42, e_82_45, e_82_48, e_82_49, Option.bind_some, Option.toList_some, Option.toList_none, List.cons_append, List.nil_append, am_k1_i, am_k1_r, am_k1_u, am_k1_n, am_bo0, am_bo1, am_boi, am_ev_tb, am_tb_nil, am_rfs, am_rfn, eq_self, and_self, if_true, if_false, show ¬ (1 : Int32) = 0 from by decide, show ¬ (0 : Int32) = 1 from by decide, not_true, not_false_eq_true, and_true, true_and, and_false, false_and, or_true, true_or, or_false, false_or, c_within, h1]
theorem s_seed (i : iv G h o m) {v : Int32} : sm G h o m d 83 162 [.int v] := by
  have lm := i.1.2.1
  have lo := i.1.2.2.1
  obtain ⟨n, nd, nt, hs, r⟩ := i.2.1
  have f : am_fr (cl_H (o + 1)) h (am_pi h (o + 1) 9 v) := am_fr.pi ⟨by omega, by omega⟩
  have hσ := i.m2 f 1
  have e2 := m_seed (d := d + 199) (lm.fr f) (v := v)
  rw [hσ] at e2
  refine sm_hall i ?_ e2 f (am_fr.pa (Or.inl rfl)) (r.pz hs i.a1 (k := 4) (Or.inr rfl)) (mt_wf_34 (Or.inr rfl) hs) (by rw [am_pa_i, if_pos rfl])
  simp only [n_83, e_83_0, e_83_1, e_83_4, f_83_7, e_83_8, e_83_9, e_83_12, e_83_13, e_83_16, e_83_17, Option.bind_some, Option.toList_some, Option.toList_none, List.cons_append, List.nil_append, am_k1_i, am_k1_r, am_k1_u, am_k1_n, am_bo0, am_bo1, am_boi, am_ev_tb, am_tb_nil, am_rfs, am_rfn, eq_self, and_self, if_true, if_false, show ¬ (1 : Int32) = 0 from by decide, show ¬ (0 : Int32) = 1 from by decide, not_true, not_false_eq_true, and_true, true_and, and_false, false_and, or_true, true_or, or_false, false_or, co_ob lo, co_r0 lo, ha_ob r.1, r.2.1.2.2.2.2]
theorem s_stop (i : iv G h o m) {v : Int32} : sm G h o m d 87 167 [.int v] := by
  have lm := i.1.2.1
  have lo := i.1.2.2.1
  obtain ⟨n, nd, nt, hs, r⟩ := i.2.1
  by_cases h1 : 0 ≤ v ∧ v ≤ 4
  · have f : am_fr (cl_H (o + 1)) h (am_pi h (o + 1) 8 v) := am_fr.pi ⟨by omega, by omega⟩
    have hσ := i.m2 f 1
    have e2 := m_stop (d := d + 199) (lm.fr f) (v := v)
    rw [hσ, if_pos h1] at e2
    refine sm_hall i ?_ e2 f (am_fr.pa (Or.inl rfl)) (r.pz hs i.a1 (k := 3) (Or.inl rfl)) (mt_wf_34 (Or.inl rfl) hs) (by rw [am_pa_i, if_pos rfl])
    simp only [n_87, e_87_0, e_87_1, e_87_2, e_87_3, e_87_6, e_87_9, e_87_11, e_87_12, e_87_13, e_87_16, f_87_19, e_87_20, e_87_21, e_87_24, e_87_25, e_87_28, e_87_29, Option.bind_some, Option.toList_some, Option.toList_none, List.cons_append, List.nil_append, am_k1_i, am_k1_r, am_k1_u, am_k1_n, am_bo0, am_bo1, am_boi, am_ev_tb, am_tb_nil, am_rfs, am_rfn, eq_self, and_self, if_true, if_false, show ¬ (1 : Int32) = 0 from by decide, show ¬ (0 : Int32) = 1 from by decide, not_true, not_false_eq_true, and_true, true_and, and_false, false_and, or_true, true_or, or_false, false_or, c_within, h1, co_ob lo, co_r0 lo, ha_ob r.1, r.2.1.2.2.2.1]
  · have e2 := m_stop (d := d + 199) lm (v := v)
    rw [if_neg h1] at e2
    refine sm_same i ?_ e2
    simp only [n_87, e_87_0, e_87_1, e_87_2, e_87_3, e_87_6, e_87_9, e_87_11, e_87_12, e_87_13, e_87_16, f_87_19, e_87_20, e_87_21, e_87_24, e_87_25, e_87_28, e_87_29, Option.bind_some, Option.toList_some, Option.toList_none, List.cons_append, List.nil_append, am_k1_i, am_k1_r, am_k1_u, am_k1_n, am_bo0, am_bo1, am_boi, am_ev_tb, am_tb_nil, am_rfs, am_rfn, eq_self, and_self, if_true, if_false, show ¬ (1 : Int32) = 0 from by decide, show ¬ (0 : Int32) = 1 from by decide, not_true, not_false_eq_true, and_true, true_and, and_false, false_and, or_true, true_or, or_false, false_or, c_within, h1]
end SB
