/-! images on both sides -/
section SI
variable {G : Nat → Nat} {h h2 h3 : am_H} {o m d a x n nd nt : Nat} {S : Nat → Prop} {σ τ : Nat → Int32}
theorem cl_R.cg (r : cl_R G h a σ n nd nt) (hs : mt_wf σ n nd nt) (he : ∀ j, j < 2914 → σ j = τ j) : cl_R G h a τ n nd nt := by
  have hn := hs.1.1.2
  have hd := hs.1.2.1.2
  refine r.ch hs.1.2.2.2 (am_fr.rf (S := fun _ => False)) (fun b hb => hb.elim) ?_ (fun p hp => ⟨fun j hj => ?_, ?_⟩) (fun q hq j hj => ?_) (fun j _ hj => he j hj)
  · rw [← he 0 (by omega), ← he 1 (by omega), ← he 2 (by omega), ← he 3 (by omega), ← he 4 (by omega)]
    exact r.2.1
  · rw [← he _ (by omega)]
    exact cr_p r hp hj
  · rw [cr_f r hp]
    exact mt_fol_congr hp (fun q hq => he _ (by omega))
  · rw [← he _ (by omega)]
    exact cr_d r hq hj
theorem am_fq.to (f : am_fq x S h h2) : am_fr S h (h2.1, h2.2.1, h2.2.2.1, h2.2.2.2.1, h.2.2.2.2) := ⟨f.1, f.2.1, f.2.2.1, rfl, f.2.2.2.2⟩
theorem cl_T1.fq {b t : Nat} (c : cl_T1 G h b σ t) (f : am_fq x S h h2) (hS : ∀ b, S b → b < G 0 + 136) (hx : x < G 0 + 136) : cl_T1 G h2 b σ t := by
  obtain ⟨c, key, L, ⟨h1, h2', h3⟩, ⟨h4, h5, h6⟩, ⟨h7, h8, h9⟩, hx', hk⟩ := c
  have ib : am_i h2 b = am_i h b := f.2.2.2.2 b (fun z => by have := hS b z; omega)
  have ic : am_i h2 c = am_i h c := f.2.2.2.2 c (fun z => by have := hS c z; omega)
  exact ⟨c, key, L, ⟨h1, by rw [f.1]; exact h2', by rw [f.2.2.1]; exact h3⟩, ⟨by rw [ib]; exact h4, by rw [ib]; exact h5, by rw [f.2.2.2.1 b (by omega)]; exact h6⟩, ⟨h7, by rw [f.1]; exact h8, by rw [f.2.2.1]; exact h9⟩, hx', fun k hk2 => by rw [ic]; exact hk k hk2⟩
theorem cl_R.fq (r : cl_R G h a σ n nd nt) (hn : n ≤ 12) (hd : nd ≤ 8) (f : am_fq x S h h2) (hS : cl_off G a S) (hx : x < G 0 + 136) (hxa : x < a ∨ a + 25 < x) : cl_R G h2 a σ n nd nt := by
  have rr := r.fr hn hd f.to hS
  refine ⟨r.1.fq f (by omega), rr.2.1, rr.2.2.1, rr.2.2.2.1, fun t ht => ?_, rr.2.2.2.2.2⟩
  obtain ⟨b, h1, h3⟩ := r.2.2.2.2.1 t ht
  exact ⟨b, by rw [f.2.2.2.1 _ (by omega)]; exact h1, h3.fq f (fun b hb => (hS b hb).1) hx⟩
theorem cm_Lay.fq (l : cm_Lay G h m) (f : am_fq x S h h2) (hx : x ≠ m) : cm_Lay G h2 m := by
  obtain ⟨⟨a, b, c⟩, e⟩ := l
  refine ⟨⟨a, by rw [f.1]; exact b, by rw [f.2.2.1]; exact c⟩, fun q hq => ?_⟩
  rw [f.2.2.2.1 m (Ne.symm hx), f.2.2.1]
  exact e q hq
theorem cl_Tx.fq (t : cl_Tx G h a) (f : am_fq x S h h2) (hx : x ≠ a + 3) : cl_Tx G h2 a := by
  intro k hk
  rw [f.2.2.2.1 _ (Ne.symm hx)]
  rcases t k hk with e | ⟨b, e, ob⟩
  · exact Or.inl e
  · exact Or.inr ⟨b, e, ⟨ob.1.1, by rw [f.1]; exact ob.1.2⟩, by rw [f.2.2.1]; exact ob.2⟩
theorem cl_Tx.to {b : Nat} (t : cl_Tx G h b) (f : am_fq x S h h2) (e : ∀ t, t < 14 → am_r h2 (a + 3) t = am_r h (b + 3) t) : cl_Tx G h2 a := by
  intro k hk
  rw [e k hk]
  rcases t k hk with e | ⟨b, e, ob⟩
  · exact Or.inl e
  · exact Or.inr ⟨b, e, ⟨ob.1.1, by rw [f.1]; exact ob.1.2⟩, by rw [f.2.2.1]; exact ob.2⟩
theorem iv_L.fq (l : iv_L G h o m) (ha : a = o + 1 ∨ a = o + 27 ∨ a = o + 53) (f : am_fq (a + 3) S h h2) (hS : ∀ b, S b → o ≤ b) (tx : cl_Tx G h2 a) : iv_L G h2 o m := by
  obtain ⟨l0, l1, l2, ⟨l3, l4, l5⟩, ⟨l6, l7, l8⟩, l9⟩ := l
  have hm := l0.2
  have ho := l0.1
  refine ⟨l0, l1.fq f (by omega), l2.fq f (by omega), ⟨l3.fq f (by omega), l4.fq f (by omega), l5.fq f (by omega)⟩, ?_, cl_E.fr (S := S) l9 f.2.2.1 (fun b hb => f.2.2.2.2 b (fun z => by have := hS b z; omega))⟩
  rcases ha with rfl | rfl | rfl
  · exact ⟨tx, l7.fq f (by omega), l8.fq f (by omega)⟩
  · exact ⟨l6.fq f (by omega), tx, l8.fq f (by omega)⟩
  · exact ⟨l6.fq f (by omega), l7.fq f (by omega), tx⟩
theorem s_keep (i : iv G h o m) : sm G h o m d 113 222 [] := by
  have lm := i.1.2.1
  have lo := i.1.2.2.1
  have hm : m = o + 117 := i.1.1.2
  have ho : o = G 0 := i.1.1.1
  obtain ⟨n, nd, nt, hs, r⟩ := i.2.1
  obtain ⟨h2, e, r2, f, ht⟩ := c_become (d := d + 198) (a := o + 27) (b := o + 1) i.1.2.2.2.1.2.1 r hs (by omega) (by unfold cl_dis; omega) i.1.2.2.2.2.1.1
  have iL2 := i.1.fq (Or.inr (Or.inl rfl)) f (fun b hb => by have := hb.1; omega) (i.1.2.2.2.2.1.1.to f ht)
  have lo2 := iL2.2.2.1
  have r1 : cl_R G h2 (o + 1) (am_i h (m + 1)) n nd nt := r.fq hs.1.1.2 hs.1.2.1.2 f (fun b hb => ⟨by have := hb.2; omega, by have := hb.1; omega⟩) (by omega) (by omega)
  have gm : ∀ k, am_i h2 (m + k) = am_i h (m + k) := fun k => f.2.2.2.2 _ (fun z => by have := z.2; omega)
  have f2 : am_fr (fun b => b = o ∨ b = m ∨ b = m + 2) h2 (am_pi h2 o 9 1) := am_fr.pi (Or.inl rfl)
  have e2 := m_keep (d := d + 199) (iL2.2.1.fr f2)
  have f3 := f2.tr ((am_fr.pi (S := fun b => b = o ∨ b = m ∨ b = m + 2) (a := m) (k := 3) (v := 1) (Or.inr (Or.inl rfl))).tr (am_fr.pa (a := m + 2) (g := mt_cpy 2914 (am_i (am_pi h2 o 9 1) (m + 1)) (am_i (am_pi h2 o 9 1) (m + 2))) (Or.inr (Or.inr rfl))))
  have fq : am_fq (o + 27 + 3) (fun b => cl_H (o + 27) b ∨ b = o ∨ b = m ∨ b = m + 2) h _ := (f.wd (fun b hb => Or.inl hb)).tr (f3.fq.wd (fun b hb => Or.inr hb))
  have g1 : am_i (am_pi h2 o 9 1) (m + 1) = am_i h (m + 1) := by rw [f2.i1 (by omega), gm]
  have N : ∀ b, (b ≠ o ∧ (b < o + 27 ∨ o + 52 < b) ∧ b ≠ m ∧ b ≠ m + 2) → ¬ (cl_H (o + 27) b ∨ b = o ∨ b = m ∨ b = m + 2) := fun b hb z => by
    rcases z with z | z
    · have := z.1; have := z.2; omega
    · omega
  have iL3 := iL2.fr f3 (fun b hb => by omega)
  have H3 := i.2.2.2.2.1.fr fq.to (fun k h1 h2 => N (o + k) (by omega)) (N (m + 4) (by omega)) (N (m + 5) (by omega)) (N (m + 6) (by omega))
  have O3 := i.2.2.2.2.2.1.fr fq.to (fun k h1 h2 => N (o + k) (by omega)) (fun k h1 h2 => N (m + k) (by omega))
  refine ⟨_, _, _, ?_, e2, ⟨iL3, ?_, ?_, ?_, H3, O3, ?_⟩, by rw [fq.1]; omega, by rw [fq.2.1]; omega⟩
  · rw [g1]
    simp only [n_113, e_113_0, e_113_1, e_113_4, e_113_5, e_113_8, e_113_11, e_113_12, e_113_13b0, e_113_13b1, e_113_16, e_113_17, e_113_20, e_113_23, Option.bind_some, Option.toList_some, Option.toList_none, List.cons_append, List.nil_append, am_k1_i, am_k1_r, am_k1_u, am_k1_n, am_bo0, am_bo1, am_boi, am_ev_tb, am_tb_nil, am_rfs, am_rfn, eq_self, and_self, if_true, if_false, show ¬ (1 : Int32) = 0 from by decide, show ¬ (0 : Int32) = 1 from by decide, not_true, not_false_eq_true, and_true, true_and, and_false, false_and, or_true, true_or, or_false, false_or, co_ob lo, co_r1 lo, co_r0 lo, ha_ob i.1.2.2.2.1.2.1, e, co_ob lo2, am_ob_pi, am_pi_r, co_r0 lo2, ha_ob r1.1, am_pi_i, show ¬ o + 1 = o from by omega, r1.2.1.1]
  · have g : am_i (am_pa (am_pi (am_pi h2 o 9 1) m 3 1) (m + 2) (mt_cpy 2914 (am_i (am_pi h2 o 9 1) (m + 1)) (am_i (am_pi h2 o 9 1) (m + 2)))) (m + 1) = am_i h (m + 1) := fq.2.2.2.2 _ (N _ (by omega))
    refine ⟨n, nd, nt, by rw [g]; exact hs, ?_⟩
    rw [g]
    exact r1.fr hs.1.1.2 hs.1.2.1.2 f3 (fun b hb => by omega)
  · refine ⟨?_, Or.inr ⟨?_, n, nd, nt, ?_, ?_⟩⟩
    · rw [am_pa_i, if_neg (by omega), am_pi_i, if_neg (by omega), am_pi_i, if_pos ⟨rfl, rfl⟩, am_pa_i, if_neg (by omega), am_pi_i, if_pos ⟨rfl, rfl⟩]
    · rw [am_pa_i, if_neg (by omega), am_pi_i, if_pos ⟨rfl, rfl⟩]
    · rw [am_pa_i, if_pos rfl, g1]
      exact mt_wf_congr (fun j hj => by unfold mt_cpy; rw [if_pos hj]) hs
    · rw [am_pa_i, if_pos rfl]
      exact (r2.fr hs.1.1.2 hs.1.2.1.2 f3 (fun b hb => by omega)).cg hs (fun j hj => by unfold mt_cpy; rw [if_pos hj, g1])
  · refine i.2.2.2.1.cg ?_ ?_ (fq.2.2.2.2 _ (N _ (by omega))) (fq.2.2.2.2 _ (N _ (by omega)))
    · rw [fq.2.2.2.2 _ (N _ (by omega))]
    · rw [am_pa_i, if_neg (by omega), am_pi_i, if_neg (fun q => absurd q.2 (by decide)), am_pi_i, if_neg (by omega)]
      exact congrFun (gm 0) 14
  · refine i.2.2.2.2.2.2.cg ?_ ?_ (fq.2.2.2.2 _ (N _ (by omega))) (fq.2.2.2.2 _ (N _ (by omega)))
    · rw [am_pa_i, if_neg (by omega), am_pi_i, if_neg (by omega), am_pi_i, if_neg (fun q => absurd q.2 (by decide)), f.2.2.2.2 o (fun z => by have := z.1; omega)]
    · rw [am_pa_i, if_neg (by omega), am_pi_i, if_neg (fun q => absurd q.2 (by decide)), am_pi_i, if_neg (by omega)]
      exact congrFun (gm 0) 29
theorem s_back (i : iv G h o m) : sm G h o m d 114 223 [] := by
  have lm := i.1.2.1
  have lo := i.1.2.2.1
  have hm : m = o + 117 := i.1.1.2
  have ho : o = G 0 := i.1.1.1
  obtain ⟨j1, j2⟩ := i.2.2.1
  rcases j2 with j2 | ⟨j2, n, nd, nt, hs, r⟩
  · refine sm_same i ?_ (m_back0 lm j2)
    simp only [n_114, e_114_0, e_114_1, e_114_4, e_114_7, e_114_9, e_114_10, e_114_11, e_114_14, e_114_15, e_114_18, e_114_21, e_114_22, e_114_25, e_114_28, Option.bind_some, Option.toList_some, Option.toList_none, List.cons_append, List.nil_append, am_k1_i, am_k1_r, am_k1_u, am_k1_n, am_bo0, am_bo1, am_boi, am_ev_tb, am_tb_nil, am_rfs, am_rfn, eq_self, and_self, if_true, if_false, show ¬ (1 : Int32) = 0 from by decide, show ¬ (0 : Int32) = 1 from by decide, not_true, not_false_eq_true, and_true, true_and, and_false, false_and, or_true, true_or, or_false, false_or, co_ob lo, j1, j2]
  · obtain ⟨h2, e, r2, f, ht⟩ := c_become (d := d + 198) (a := o + 1) (b := o + 27) i.1.2.2.2.1.1 r hs (by omega) (by unfold cl_dis; omega) i.1.2.2.2.2.1.2.1
    have iL2 := i.1.fq (Or.inl rfl) f (fun b hb => by have := hb.1; omega) (i.1.2.2.2.2.1.2.1.to f ht)
    have lo2 := iL2.2.2.1
    have rI : cl_R G h2 (o + 27) (am_i h (m + 2)) n nd nt := r.fq hs.1.1.2 hs.1.2.1.2 f (fun b hb => ⟨by have := hb.2; omega, by have := hb.2; omega⟩) (by omega) (by omega)
    have gm : ∀ k, am_i h2 (m + k) = am_i h (m + k) := fun k => f.2.2.2.2 _ (fun z => by have := z.2; omega)
    have e2 := m_back (d := d + 199) iL2.2.1 (by rw [← j2]; exact congrFun (gm 0) 3)
    have f3 : am_fr (fun b => b = m + 1) h2 _ := am_fr.pa (h := h2) (a := m + 1) (g := mt_cpy 2914 (am_i h2 (m + 2)) (am_i h2 (m + 1))) rfl
    have fq : am_fq (o + 1 + 3) (fun b => cl_H (o + 1) b ∨ b = m + 1) h _ := (f.wd (fun b hb => Or.inl hb)).tr (f3.fq.wd (fun b hb => Or.inr hb))
    have N : ∀ b, ((b < o + 1 ∨ o + 26 < b) ∧ b ≠ m + 1) → ¬ (cl_H (o + 1) b ∨ b = m + 1) := fun b hb z => by
      rcases z with z | z
      · have := z.1; have := z.2; omega
      · omega
    have iL3 := iL2.fr f3 (fun b hb => by omega)
    have H3 := i.2.2.2.2.1.fr fq.to (fun k h1 h2 => N (o + k) (by omega)) (N (m + 4) (by omega)) (N (m + 5) (by omega)) (N (m + 6) (by omega))
    have O3 := i.2.2.2.2.2.1.fr fq.to (fun k h1 h2 => N (o + k) (by omega)) (fun k h1 h2 => N (m + k) (by omega))
    have T3 := i.2.2.2.1.fr fq.to (N (o + 80) (by omega)) (N m (by omega)) (N (o + 81) (by omega)) (N (m + 13) (by omega))
    have W3 := i.2.2.2.2.2.2.fr fq.to (N o (by omega)) (N m (by omega)) (N (o + 88) (by omega)) (N (m + 17) (by omega))
    refine ⟨_, _, _, ?_, e2, ⟨iL3, ?_, ?_, T3, H3, O3, W3⟩, by rw [fq.1]; omega, by rw [fq.2.1]; omega⟩
    · rw [gm 2]
      simp only [n_114, e_114_0, e_114_1, e_114_4, e_114_7, e_114_9, e_114_10, e_114_11, e_114_14, e_114_15, e_114_18, e_114_21, e_114_22, e_114_25, e_114_28, Option.bind_some, Option.toList_some, Option.toList_none, List.cons_append, List.nil_append, am_k1_i, am_k1_r, am_k1_u, am_k1_n, am_bo0, am_bo1, am_boi, am_ev_tb, am_tb_nil, am_rfs, am_rfn, eq_self, and_self, if_true, if_false, show ¬ (1 : Int32) = 0 from by decide, show ¬ (0 : Int32) = 1 from by decide, not_true, not_false_eq_true, and_true, true_and, and_false, false_and, or_true, true_or, or_false, false_or, co_ob lo, j1, j2, co_r1 lo, co_r0 lo, ha_ob i.1.2.2.2.1.1, e, co_ob lo2, co_r0 lo2, ha_ob r2.1, r2.2.1.1]
    · refine ⟨n, nd, nt, ?_, ?_⟩
      · rw [am_pa_i, if_pos rfl, gm 2, gm 1]
        exact mt_wf_congr (fun j hj => by unfold mt_cpy; rw [if_pos hj]) hs
      · rw [am_pa_i, if_pos rfl]
        exact (r2.fr hs.1.1.2 hs.1.2.1.2 f3 (fun b hb => by omega)).cg hs (fun j hj => by unfold mt_cpy; rw [if_pos hj, gm 2])
    · have g2 : am_i (am_pa h2 (m + 1) (mt_cpy 2914 (am_i h2 (m + 2)) (am_i h2 (m + 1)))) (m + 2) = am_i h (m + 2) := fq.2.2.2.2 _ (N _ (by omega))
      have go : am_i (am_pa h2 (m + 1) (mt_cpy 2914 (am_i h2 (m + 2)) (am_i h2 (m + 1)))) o = am_i h o := fq.2.2.2.2 _ (N _ (by omega))
      have g0 : am_i (am_pa h2 (m + 1) (mt_cpy 2914 (am_i h2 (m + 2)) (am_i h2 (m + 1)))) m = am_i h m := fq.2.2.2.2 _ (N _ (by omega))
      unfold iv_I
      rw [g2, go, g0]
      exact ⟨j1, Or.inr ⟨j2, n, nd, nt, hs, rI.fr hs.1.1.2 hs.1.2.1.2 f3 (fun b hb => by omega)⟩⟩
theorem mt_pre_at {W D : Nat → Int32} {c : Nat} : ∀ j k, k ≤ c → c ≤ k + j → (∀ i, k ≤ i → i < c → W i = D i) → (c = k + j ∨ ¬ W c = D c) → mt_pre W D j k = c := by
  intro j
  induction j with
  | zero => intro k h1 h2 h3 h4; show k = c; omega
  | succ j ih =>
    intro k h1 h2 h3 h4
    rw [mt_pre]
    by_cases e : k = c
    · subst e
      rw [if_neg (h4.resolve_left (by omega))]
    · rw [if_pos (h3 k (Nat.le_refl k) (by omega))]
      exact ih (k + 1) (by omega) (by omega) (fun i h5 h6 => h3 i (by omega) h6) (h4.imp (fun q => by omega) id)
theorem c_rightOf {L E : Int32} {p y : Nat} (lo : cl_Obj G h o) (hy : y ≤ 60) (hp : p < 1000) : am_evm G d 116 [.ref o, .int L, .int E, .int (nI p), .int (nI y)] h = some (some (.int (if p < y ∧ am_i h (o + 88) p = L then (if p + 1 < y ∧ am_i h (o + 88) (p + 1) = E then 2 else 1) else 0)), h) := by
  have h0 : ¬ nI p < 0 := nI_pos (by omega)
  by_cases h1 : p < y
  · have h1' : ¬ nI y ≤ nI p := nI_ge h1 (by omega)
    by_cases h2 : am_i h (o + 88) p = L
    · by_cases h3 : p + 1 < y
      · have h3' : ¬ nI y ≤ nI (p + 1) := nI_ge h3 (by omega)
        by_cases h4 : am_i h (o + 88) (p + 1) = E
        · simp only [n_116, e_116_0, e_116_1, e_116_4, e_116_5, e_116_7, e_116_10, e_116_11, e_116_14, e_116_15, e_116_16, e_116_17, e_116_20, e_116_21, e_116_22, e_116_23, e_116_24, e_116_25, e_116_27, e_116_30, e_116_31, e_116_34, e_116_35, e_116_36, e_116_37, e_116_38, e_116_39, e_116_42, e_116_43, e_116_47, e_116_46, Option.bind_some, Option.toList_some, Option.toList_none, List.cons_append, List.nil_append, am_k1_i, am_k1_r, am_k1_u, am_k1_n, am_bo0, am_bo1, am_boi, am_ev_tb, am_tb_nil, am_rfs, am_rfn, eq_self, and_self, if_true, if_false, show ¬ (1 : Int32) = 0 from by decide, show ¬ (0 : Int32) = 1 from by decide, not_true, not_false_eq_true, and_true, true_and, and_false, false_and, or_true, true_or, or_false, false_or, h0, h1', co_ob lo, co_r7 lo, co_w1 lo (show p < 60 by omega), am_cl (show p < 2147483648 by omega), h1, h2, h3, h3', nI_1, co_w1 lo (show p + 1 < 60 by omega), am_cl (show p + 1 < 2147483648 by omega), h4]
        · simp only [n_116, e_116_0, e_116_1, e_116_4, e_116_5, e_116_7, e_116_10, e_116_11, e_116_14, e_116_15, e_116_16, e_116_17, e_116_20, e_116_21, e_116_22, e_116_23, e_116_24, e_116_25, e_116_27, e_116_30, e_116_31, e_116_34, e_116_35, e_116_36, e_116_37, e_116_38, e_116_39, e_116_42, e_116_43, e_116_47, e_116_46, Option.bind_some, Option.toList_some, Option.toList_none, List.cons_append, List.nil_append, am_k1_i, am_k1_r, am_k1_u, am_k1_n, am_bo0, am_bo1, am_boi, am_ev_tb, am_tb_nil, am_rfs, am_rfn, eq_self, and_self, if_true, if_false, show ¬ (1 : Int32) = 0 from by decide, show ¬ (0 : Int32) = 1 from by decide, not_true, not_false_eq_true, and_true, true_and, and_false, false_and, or_true, true_or, or_false, false_or, h0, h1', co_ob lo, co_r7 lo, co_w1 lo (show p < 60 by omega), am_cl (show p < 2147483648 by omega), h1, h2, h3, h3', nI_1, co_w1 lo (show p + 1 < 60 by omega), am_cl (show p + 1 < 2147483648 by omega), h4]
      · have h3' : nI y ≤ nI (p + 1) := nI_le (by omega) (by omega)
        simp only [n_116, e_116_0, e_116_1, e_116_4, e_116_5, e_116_7, e_116_10, e_116_11, e_116_14, e_116_15, e_116_16, e_116_17, e_116_20, e_116_21, e_116_22, e_116_23, e_116_24, e_116_25, e_116_27, e_116_30, e_116_31, e_116_34, e_116_35, e_116_36, e_116_37, e_116_38, e_116_39, e_116_42, e_116_43, e_116_47, e_116_46, Option.bind_some, Option.toList_some, Option.toList_none, List.cons_append, List.nil_append, am_k1_i, am_k1_r, am_k1_u, am_k1_n, am_bo0, am_bo1, am_boi, am_ev_tb, am_tb_nil, am_rfs, am_rfn, eq_self, and_self, if_true, if_false, show ¬ (1 : Int32) = 0 from by decide, show ¬ (0 : Int32) = 1 from by decide, not_true, not_false_eq_true, and_true, true_and, and_false, false_and, or_true, true_or, or_false, false_or, h0, h1', co_ob lo, co_r7 lo, co_w1 lo (show p < 60 by omega), am_cl (show p < 2147483648 by omega), h1, h2, h3, h3', nI_1]
    · simp only [n_116, e_116_0, e_116_1, e_116_4, e_116_5, e_116_7, e_116_10, e_116_11, e_116_14, e_116_15, e_116_16, e_116_17, e_116_20, e_116_21, e_116_22, e_116_23, e_116_24, e_116_25, e_116_27, e_116_30, e_116_31, e_116_34, e_116_35, e_116_36, e_116_37, e_116_38, e_116_39, e_116_42, e_116_43, e_116_47, e_116_46, Option.bind_some, Option.toList_some, Option.toList_none, List.cons_append, List.nil_append, am_k1_i, am_k1_r, am_k1_u, am_k1_n, am_bo0, am_bo1, am_boi, am_ev_tb, am_tb_nil, am_rfs, am_rfn, eq_self, and_self, if_true, if_false, show ¬ (1 : Int32) = 0 from by decide, show ¬ (0 : Int32) = 1 from by decide, not_true, not_false_eq_true, and_true, true_and, and_false, false_and, or_true, true_or, or_false, false_or, h0, h1', co_ob lo, co_r7 lo, co_w1 lo (show p < 60 by omega), am_cl (show p < 2147483648 by omega), h1, h2]
  · have h1' : nI y ≤ nI p := nI_le (by omega) (by omega)
    simp only [n_116, e_116_0, e_116_1, e_116_4, e_116_5, e_116_7, e_116_10, e_116_11, e_116_14, e_116_15, e_116_16, e_116_17, e_116_20, e_116_21, e_116_22, e_116_23, e_116_24, e_116_25, e_116_27, e_116_30, e_116_31, e_116_34, e_116_35, e_116_36, e_116_37, e_116_38, e_116_39, e_116_42, e_116_43, e_116_47, e_116_46, Option.bind_some, Option.toList_some, Option.toList_none, List.cons_append, List.nil_append, am_k1_i, am_k1_r, am_k1_u, am_k1_n, am_bo0, am_bo1, am_boi, am_ev_tb, am_tb_nil, am_rfs, am_rfn, eq_self, and_self, if_true, if_false, show ¬ (1 : Int32) = 0 from by decide, show ¬ (0 : Int32) = 1 from by decide, not_true, not_false_eq_true, and_true, true_and, and_false, false_and, or_true, true_or, or_false, false_or, h0, h1', h1]
theorem c_check_l {p w y : Nat} {x1 : Option Value} (lo : cl_Obj G h o) (hs : mt_wf τ n nd nt) (ha : o + 53 + 25 < G 0 + 136) (hp : p < nd) (hw : w ≤ 30) (hy : y ≤ 60) : ∀ j k h' x6, k + j = w → 2 * k ≤ y → (∀ q, q < 2 * k → am_i h (o + 88) q = mt_due τ n nt p q) → am_fr (cl_H (o + 53)) h h' → cl_R G h' (o + 53) (mt_rnds τ n nt p k) n nd nt → ∃ h2, am_ev G (d + 7) 112 72 [some (.ref o), x1, some (.int (nI w)), some (.int (nI y)), some (.ref (o + 53 + 18 + p)), some (.int (nI k)), x6] [] h' = some (some (.int (mt_chv (am_i h (o + 88)) (mt_due τ n nt p) y (2 * w))), h2) ∧ am_fr (cl_H (o + 53)) h h2 := by
  intro j
  induction j with
  | zero =>
    intro k h' x6 hk hky hq f r
    obtain rfl : k = w := by omega
    have e2w : (2 : Int32) * nI k = nI (2 * k) := pk_mul 2 k
    have hpre : mt_pre (am_i h (o + 88)) (mt_due τ n nt p) (min y (2 * k)) 0 = 2 * k := mt_pre_at _ _ (by omega) (by omega) (fun i _ hi => hq i hi) (Or.inl (by omega))
    refine ⟨h', ?_, f⟩
    rw [e_112_72]
    unfold mt_chv
    rw [hpre]
    by_cases hyk : y = 2 * k
    · have hle : nI y ≤ nI (2 * k) := nI_le (by omega) (by omega)
      simp only [n_112, e_112_0, e_112_1, f_112_4, e_112_5, e_112_6, e_112_7, e_112_10, e_112_11, e_112_12, e_112_14, e_112_17, e_112_20, e_112_22, e_112_23, e_112_24, e_112_27, e_112_30, e_112_32, e_112_33, e_112_34, e_112_37, e_112_38, e_112_41, e_112_44, e_112_46, e_112_47, e_112_48, e_112_51, e_112_52, e_112_55, e_112_58, e_112_59, e_112_62, e_112_65, e_112_66, f_112_67, e_112_69, f_112_70, e_112_74, e_112_75, e_112_78, e_112_79, e_112_82, e_112_84, e_112_87, e_112_88, e_112_89, e_112_92, e_112_94, e_112_97, e_112_99, e_112_102, e_112_103, e_112_105, e_112_106, e_112_107, f_112_110, e_112_112, e_112_114, e_112_115, e_112_118, e_112_119, e_112_120, e_112_122, e_112_123, e_112_124, e_112_126, e_112_127, f_112_128, e_112_131, e_112_134, e_112_135, e_112_136, e_112_137, e_112_138, e_112_141, e_112_142, e_112_143, e_112_144, e_112_145, e_112_146, e_112_150, e_112_149, Option.bind_some, Option.toList_some, Option.toList_none, List.cons_append, List.nil_append, am_k1_i, am_k1_r, am_k1_u, am_k1_n, am_bo0, am_bo1, am_boi, am_ev_tb, am_tb_nil, am_rfs, am_rfn, eq_self, and_self, if_true, if_false, show ¬ (1 : Int32) = 0 from by decide, show ¬ (0 : Int32) = 1 from by decide, not_true, not_false_eq_true, and_true, true_and, and_false, false_and, or_true, true_or, or_false, false_or, Int32.le_refl, e2w, hle, hyk]
    · have hle : ¬ nI y ≤ nI (2 * k) := nI_ge (by omega) (by omega)
      have e1 : (1 : Int32) + nI (2 * k) = nI (1 + 2 * k) := nI_add 1 (2 * k)
      simp only [n_112, e_112_0, e_112_1, f_112_4, e_112_5, e_112_6, e_112_7, e_112_10, e_112_11, e_112_12, e_112_14, e_112_17, e_112_20, e_112_22, e_112_23, e_112_24, e_112_27, e_112_30, e_112_32, e_112_33, e_112_34, e_112_37, e_112_38, e_112_41, e_112_44, e_112_46, e_112_47, e_112_48, e_112_51, e_112_52, e_112_55, e_112_58, e_112_59, e_112_62, e_112_65, e_112_66, f_112_67, e_112_69, f_112_70, e_112_74, e_112_75, e_112_78, e_112_79, e_112_82, e_112_84, e_112_87, e_112_88, e_112_89, e_112_92, e_112_94, e_112_97, e_112_99, e_112_102, e_112_103, e_112_105, e_112_106, e_112_107, f_112_110, e_112_112, e_112_114, e_112_115, e_112_118, e_112_119, e_112_120, e_112_122, e_112_123, e_112_124, e_112_126, e_112_127, f_112_128, e_112_131, e_112_134, e_112_135, e_112_136, e_112_137, e_112_138, e_112_141, e_112_142, e_112_143, e_112_144, e_112_145, e_112_146, e_112_150, e_112_149, Option.bind_some, Option.toList_some, Option.toList_none, List.cons_append, List.nil_append, am_k1_i, am_k1_r, am_k1_u, am_k1_n, am_bo0, am_bo1, am_boi, am_ev_tb, am_tb_nil, am_rfs, am_rfn, eq_self, and_self, if_true, if_false, show ¬ (1 : Int32) = 0 from by decide, show ¬ (0 : Int32) = 1 from by decide, not_true, not_false_eq_true, and_true, true_and, and_false, false_and, or_true, true_or, or_false, false_or, Int32.le_refl, e2w, hle, e1, show ¬ 2 * k = y from fun q => hyk q.symm]
  | succ j ih =>
    intro k h' x6 hk hky hq f r
    have lo1 := lo.fr f
    have hd := hs.1.2.1.2
    have hlt : ¬ nI w ≤ nI k := nI_ge (by omega) (by omega)
    have e2w : (2 : Int32) * nI k = nI (2 * k) := pk_mul 2 k
    obtain ⟨h2, e, r2, f2⟩ := c_playRound (d := d) r (mt_wf_rnds hs hp k) ha hp
    have lo2 := lo1.fr f2
    have fA := f.tr f2
    have r3 : cl_R G h2 (o + 53) (mt_rnds τ n nt p (k + 1)) n nd nt := r2
    have hs3 := mt_wf_rnds hs hp (k + 1)
    have eL := c_leftCount (d := d + 4) r3 hs3 hp
    have d0 : mt_due τ n nt p (2 * k) = mt_ones (mt_left (mt_rnds τ n nt p (k + 1)) p) := by
      unfold mt_due
      rw [if_pos (by omega), show 2 * k / 2 = k by omega]
    have d1 : mt_due τ n nt p (2 * k + 1) = mt_rnds τ n nt p (k + 1) (66 + 6 * p + 5) := by
      unfold mt_due
      rw [if_neg (by omega), show (2 * k + 1) / 2 = k by omega]
    have g8 : am_i h2 (o + 88) = am_i h (o + 88) := fA.i1 (fun z => by have := z.2; omega)
    have eR := c_rightOf (d := d + 6) (L := mt_ones (mt_left (mt_rnds τ n nt p (k + 1)) p)) (E := mt_rnds τ n nt p (k + 1) (66 + 6 * p + 5)) (p := 2 * k) lo2 hy (by omega)
    rw [g8] at eR
    rw [e_112_72]
    simp only [n_112, e_112_0, e_112_1, f_112_4, e_112_5, e_112_6, e_112_7, e_112_10, e_112_11, e_112_12, e_112_14, e_112_17, e_112_20, e_112_22, e_112_23, e_112_24, e_112_27, e_112_30, e_112_32, e_112_33, e_112_34, e_112_37, e_112_38, e_112_41, e_112_44, e_112_46, e_112_47, e_112_48, e_112_51, e_112_52, e_112_55, e_112_58, e_112_59, e_112_62, e_112_65, e_112_66, f_112_67, e_112_69, f_112_70, e_112_74, e_112_75, e_112_78, e_112_79, e_112_82, e_112_84, e_112_87, e_112_88, e_112_89, e_112_92, e_112_94, e_112_97, e_112_99, e_112_102, e_112_103, e_112_105, e_112_106, e_112_107, f_112_110, e_112_112, e_112_114, e_112_115, e_112_118, e_112_119, e_112_120, e_112_122, e_112_123, e_112_124, e_112_126, e_112_127, f_112_128, e_112_131, e_112_134, e_112_135, e_112_136, e_112_137, e_112_138, e_112_141, e_112_142, e_112_143, e_112_144, e_112_145, e_112_146, e_112_150, e_112_149, Option.bind_some, Option.toList_some, Option.toList_none, List.cons_append, List.nil_append, am_k1_i, am_k1_r, am_k1_u, am_k1_n, am_bo0, am_bo1, am_boi, am_ev_tb, am_tb_nil, am_rfs, am_rfn, eq_self, and_self, if_true, if_false, show ¬ (1 : Int32) = 0 from by decide, show ¬ (0 : Int32) = 1 from by decide, not_true, not_false_eq_true, and_true, true_and, and_false, false_and, or_true, true_or, or_false, false_or, hlt, co_ob lo1, co_r2 lo1, ha_ob r.1, e, co_ob lo2, co_r2 lo2, ha_ob r3.1, eL, ha_d3 r3.1 (show p < 8 by omega), cr_d r3 hp (show 5 < 6 by omega), e2w, eR]
    by_cases c1 : 2 * k < y ∧ am_i h (o + 88) (2 * k) = mt_ones (mt_left (mt_rnds τ n nt p (k + 1)) p)
    · by_cases c2 : 2 * k + 1 < y ∧ am_i h (o + 88) (2 * k + 1) = mt_rnds τ n nt p (k + 1) (66 + 6 * p + 5)
      · simp only [n_112, e_112_0, e_112_1, f_112_4, e_112_5, e_112_6, e_112_7, e_112_10, e_112_11, e_112_12, e_112_14, e_112_17, e_112_20, e_112_22, e_112_23, e_112_24, e_112_27, e_112_30, e_112_32, e_112_33, e_112_34, e_112_37, e_112_38, e_112_41, e_112_44, e_112_46, e_112_47, e_112_48, e_112_51, e_112_52, e_112_55, e_112_58, e_112_59, e_112_62, e_112_65, e_112_66, f_112_67, e_112_69, f_112_70, e_112_74, e_112_75, e_112_78, e_112_79, e_112_82, e_112_84, e_112_87, e_112_88, e_112_89, e_112_92, e_112_94, e_112_97, e_112_99, e_112_102, e_112_103, e_112_105, e_112_106, e_112_107, f_112_110, e_112_112, e_112_114, e_112_115, e_112_118, e_112_119, e_112_120, e_112_122, e_112_123, e_112_124, e_112_126, e_112_127, f_112_128, e_112_131, e_112_134, e_112_135, e_112_136, e_112_137, e_112_138, e_112_141, e_112_142, e_112_143, e_112_144, e_112_145, e_112_146, e_112_150, e_112_149, Option.bind_some, Option.toList_some, Option.toList_none, List.cons_append, List.nil_append, am_k1_i, am_k1_r, am_k1_u, am_k1_n, am_bo0, am_bo1, am_boi, am_ev_tb, am_tb_nil, am_rfs, am_rfn, eq_self, and_self, if_true, if_false, show ¬ (1 : Int32) = 0 from by decide, show ¬ (0 : Int32) = 1 from by decide, not_true, not_false_eq_true, and_true, true_and, and_false, false_and, or_true, true_or, or_false, false_or, c1, c2, show (2 : Int32) ≤ 2 from by decide, nI_1]
        refine ih (k + 1) h2 _ (by omega) (by omega) (fun q hq2 => ?_) fA r3
        by_cases q1 : q < 2 * k
        · exact hq q q1
        · by_cases q2 : q = 2 * k
          · rw [q2, d0]; exact c1.2
          · rw [show q = 2 * k + 1 by omega, d1]; exact c2.2
      · refine ⟨h2, ?_, fA⟩
        have hpre : mt_pre (am_i h (o + 88)) (mt_due τ n nt p) (min y (2 * w)) 0 = 2 * k + 1 := by
          refine mt_pre_at _ _ (by omega) (by omega) (fun i _ hi => ?_) ?_
          · by_cases q1 : i < 2 * k
            · exact hq i q1
            · rw [show i = 2 * k by omega, d0]; exact c1.2
          · by_cases q1 : 2 * k + 1 < y
            · right; rw [d1]; exact fun q => c2 ⟨q1, q⟩
            · left; omega
        unfold mt_chv
        rw [hpre]
        have e1 : (1 : Int32) + nI (2 * k) + 1 = nI (1 + (2 * k + 1)) := by rw [Int32.add_assoc, nI_1]; exact nI_add 1 (2 * k + 1)
        simp only [n_112, e_112_0, e_112_1, f_112_4, e_112_5, e_112_6, e_112_7, e_112_10, e_112_11, e_112_12, e_112_14, e_112_17, e_112_20, e_112_22, e_112_23, e_112_24, e_112_27, e_112_30, e_112_32, e_112_33, e_112_34, e_112_37, e_112_38, e_112_41, e_112_44, e_112_46, e_112_47, e_112_48, e_112_51, e_112_52, e_112_55, e_112_58, e_112_59, e_112_62, e_112_65, e_112_66, f_112_67, e_112_69, f_112_70, e_112_74, e_112_75, e_112_78, e_112_79, e_112_82, e_112_84, e_112_87, e_112_88, e_112_89, e_112_92, e_112_94, e_112_97, e_112_99, e_112_102, e_112_103, e_112_105, e_112_106, e_112_107, f_112_110, e_112_112, e_112_114, e_112_115, e_112_118, e_112_119, e_112_120, e_112_122, e_112_123, e_112_124, e_112_126, e_112_127, f_112_128, e_112_131, e_112_134, e_112_135, e_112_136, e_112_137, e_112_138, e_112_141, e_112_142, e_112_143, e_112_144, e_112_145, e_112_146, e_112_150, e_112_149, Option.bind_some, Option.toList_some, Option.toList_none, List.cons_append, List.nil_append, am_k1_i, am_k1_r, am_k1_u, am_k1_n, am_bo0, am_bo1, am_boi, am_ev_tb, am_tb_nil, am_rfs, am_rfn, eq_self, and_self, if_true, if_false, show ¬ (1 : Int32) = 0 from by decide, show ¬ (0 : Int32) = 1 from by decide, not_true, not_false_eq_true, and_true, true_and, and_false, false_and, or_true, true_or, or_false, false_or, c1, c2, show ¬ (2 : Int32) ≤ 1 from by decide, e1]
        rw [if_neg (by omega)]
    · refine ⟨h2, ?_, fA⟩
      have hpre : mt_pre (am_i h (o + 88)) (mt_due τ n nt p) (min y (2 * w)) 0 = 2 * k := by
        refine mt_pre_at _ _ (by omega) (by omega) (fun i _ hi => hq i hi) ?_
        by_cases q1 : 2 * k < y
        · right; rw [d0]; exact fun q => c1 ⟨q1, q⟩
        · left; omega
      unfold mt_chv
      rw [hpre]
      have e1 : (1 : Int32) + nI (2 * k) + 0 = nI (1 + 2 * k) := by rw [Int32.add_zero]; exact nI_add 1 (2 * k)
      simp only [n_112, e_112_0, e_112_1, f_112_4, e_112_5, e_112_6, e_112_7, e_112_10, e_112_11, e_112_12, e_112_14, e_112_17, e_112_20, e_112_22, e_112_23, e_112_24, e_112_27, e_112_30, e_112_32, e_112_33, e_112_34, e_112_37, e_112_38, e_112_41, e_112_44, e_112_46, e_112_47, e_112_48, e_112_51, e_112_52, e_112_55, e_112_58, e_112_59, e_112_62, e_112_65, e_112_66, f_112_67, e_112_69, f_112_70, e_112_74, e_112_75, e_112_78, e_112_79, e_112_82, e_112_84, e_112_87, e_112_88, e_112_89, e_112_92, e_112_94, e_112_97, e_112_99, e_112_102, e_112_103, e_112_105, e_112_106, e_112_107, f_112_110, e_112_112, e_112_114, e_112_115, e_112_118, e_112_119, e_112_120, e_112_122, e_112_123, e_112_124, e_112_126, e_112_127, f_112_128, e_112_131, e_112_134, e_112_135, e_112_136, e_112_137, e_112_138, e_112_141, e_112_142, e_112_143, e_112_144, e_112_145, e_112_146, e_112_150, e_112_149, Option.bind_some, Option.toList_some, Option.toList_none, List.cons_append, List.nil_append, am_k1_i, am_k1_r, am_k1_u, am_k1_n, am_bo0, am_bo1, am_boi, am_ev_tb, am_tb_nil, am_rfs, am_rfn, eq_self, and_self, if_true, if_false, show ¬ (1 : Int32) = 0 from by decide, show ¬ (0 : Int32) = 1 from by decide, not_true, not_false_eq_true, and_true, true_and, and_false, false_and, or_true, true_or, or_false, false_or, c1, show ¬ (2 : Int32) ≤ 0 from by decide, e1]
      rw [if_neg (by omega)]
theorem sm_chk0 {v w x : Int32} (i : iv G h o m) (e1 : am_evm G (d + 200) 112 [.ref o, .int v, .int w] h = some (some (.int x), am_pi h o 8 0)) (e2 : am_evm G (d + 200) 221 [.ref m, .int v, .int w] (am_pi h o 8 0) = some (some (.int x), am_pi (am_pi h o 8 0) m 29 0)) : sm G h o m d 112 221 [.int v, .int w] := by
  have hm : m = o + 117 := i.1.1.2
  have f : am_fr (fun b => b = o ∨ b = m) h (am_pi (am_pi h o 8 0) m 29 0) := (am_fr.pi (Or.inl rfl)).tr (am_fr.pi (Or.inr rfl))
  refine ⟨_, _, _, e1, e2, ?_, by rw [f.1]; omega, by rw [f.2.1]; omega⟩
  refine i.gen f (fun b hb => by omega) ?_ ?_ (i.2.2.2.1.cg (by rw [f.i1 (by omega)]) ?_ (f.i1 (by omega)) (f.i1 (by omega))) (i.2.2.2.2.1.fr f (fun k h1 h2 => by omega) (by omega) (by omega) (by omega)) (i.2.2.2.2.2.1.fr f (fun k h1 h2 => by omega) (fun k h1 h2 => by omega)) ⟨0, by omega, ?_, ?_, fun k hk => absurd hk (Nat.not_lt_zero k)⟩
  · rw [am_pi_i, if_neg (by omega), am_pi_i, if_neg (fun q => absurd q.2 (by decide))]
  · rw [am_pi_i, if_neg (fun q => absurd q.2 (by decide)), am_pi_i, if_neg (by omega)]
  · rw [am_pi_i, if_neg (fun q => absurd q.2 (by decide)), am_pi_i, if_neg (by omega)]
  · rw [am_pi_i, if_neg (by omega), am_pi_i, if_pos ⟨rfl, rfl⟩]; rfl
  · rw [am_pi_i, if_pos ⟨rfl, rfl⟩]; rfl
theorem s_check (i : iv G h o m) {v w : Int32} : sm G h o m d 112 221 [.int v, .int w] := by
  have lm := i.1.2.1
  have lo := i.1.2.2.1
  have hm : m = o + 117 := i.1.1.2
  have ho : o = G 0 := i.1.1.1
  obtain ⟨y, hy, y1, y2, y3⟩ := i.2.2.2.2.2.2
  obtain ⟨j1, j2⟩ := i.2.2.1
  have f1 : am_fr (fun b => b = o) h (am_pi h o 8 0) := am_fr.pi rfl
  have lo1 := lo.fr f1
  have lm1 := lm.fr f1
  have gm : ∀ k, am_i (am_pi h o 8 0) (m + k) = am_i h (m + k) := fun k => f1.i1 (by omega)
  have gm0 : am_i (am_pi h o 8 0) m = am_i h m := gm 0
  have go9 : am_i (am_pi h o 8 0) o 9 = am_i h o 9 := by rw [am_pi_i, if_neg (fun q => absurd q.2 (by decide))]
  by_cases h1 : 1 ≤ w ∧ w ≤ 30
  · rcases j2 with j2 | ⟨j2, n, nd, nt, hs, r⟩
    · refine sm_chk0 i ?_ (m_check1 lm1 h1 (by rw [gm0]; exact j2))
      simp only [n_112, e_112_0, e_112_1, f_112_4, e_112_5, e_112_6, e_112_7, e_112_10, e_112_11, e_112_12, e_112_14, e_112_17, e_112_20, e_112_22, e_112_23, e_112_24, e_112_27, e_112_30, e_112_32, e_112_33, e_112_34, e_112_37, e_112_38, e_112_41, e_112_44, e_112_46, e_112_47, e_112_48, e_112_51, e_112_52, e_112_55, e_112_58, e_112_59, e_112_62, e_112_65, e_112_66, f_112_67, e_112_69, f_112_70, e_112_74, e_112_75, e_112_78, e_112_79, e_112_82, e_112_84, e_112_87, e_112_88, e_112_89, e_112_92, e_112_94, e_112_97, e_112_99, e_112_102, e_112_103, e_112_105, e_112_106, e_112_107, f_112_110, e_112_112, e_112_114, e_112_115, e_112_118, e_112_119, e_112_120, e_112_122, e_112_123, e_112_124, e_112_126, e_112_127, f_112_128, e_112_131, e_112_134, e_112_135, e_112_136, e_112_137, e_112_138, e_112_141, e_112_142, e_112_143, e_112_144, e_112_145, e_112_146, e_112_150, e_112_149, Option.bind_some, Option.toList_some, Option.toList_none, List.cons_append, List.nil_append, am_k1_i, am_k1_r, am_k1_u, am_k1_n, am_bo0, am_bo1, am_boi, am_ev_tb, am_tb_nil, am_rfs, am_rfn, eq_self, and_self, if_true, if_false, show ¬ (1 : Int32) = 0 from by decide, show ¬ (0 : Int32) = 1 from by decide, not_true, not_false_eq_true, and_true, true_and, and_false, false_and, or_true, true_or, or_false, false_or, co_ob lo, co_ob lo1, c_within, h1, go9, j1, j2]
    · have r1 : cl_R G (am_pi h o 8 0) (o + 27) (am_i h (m + 2)) n nd nt := r.fr hs.1.1.2 hs.1.2.1.2 f1 (fun b hb => by omega)
      by_cases h2 : 0 ≤ v ∧ v ≤ am_i h (m + 2) 1 - 1
      · obtain ⟨p, hp, rfl⟩ : ∃ k, k < nd ∧ v = nI k := by
          have h2' := h2
          rw [hs.1.2.1.1] at h2'
          exact (mt_ix (by have := hs.1.2.1.2; omega)).mp h2'
        obtain ⟨wn, hwn, rfl⟩ : ∃ k : Nat, k < 31 ∧ w = nI k := (mt_ix (p := w) (c := 31) (by omega)).mp ⟨Int32.le_trans (by decide) h1.1, h1.2⟩
        have hw1 : 1 ≤ wn := by
          have := h1.1
          rw [show (1 : Int32) = nI 1 from rfl, nI_leI (by omega) (by omega)] at this
          exact this
        have lT := i.1.2.2.2.1.2.2.fr f1
        have tI := i.1.2.2.2.2.1.2.1.fr f1
        obtain ⟨hb, eb, rb, fb, htb⟩ := c_become (d := d + 198) (a := o + 53) (b := o + 27) lT r1 hs (by omega) (by unfold cl_dis; omega) tI
        have lob := lo1.fq fb (by omega)
        have hsτ : mt_wf (mt_cpy 2914 (am_i h (m + 2)) (am_i h (m + 1))) n nd nt := mt_wf_congr (fun j hj => by unfold mt_cpy; rw [if_pos hj]) hs
        have rτ : cl_R G hb (o + 53) (mt_cpy 2914 (am_i h (m + 2)) (am_i h (m + 1))) n nd nt := rb.cg hs (fun j hj => by unfold mt_cpy; rw [if_pos hj])
        obtain ⟨h2', e3, f3⟩ := c_check_l (d := d + 193) (x1 := some (.int (nI p))) lob hsτ (by omega) hp (show wn ≤ 30 by omega) hy wn 0 hb none (by omega) (by omega) (fun q hq => absurd hq (by omega)) am_fr.rf rτ
        have g88 : am_i hb (o + 88) = am_i h (o + 88) := by rw [fb.2.2.2.2 _ (fun z => by have := z.2; omega), f1.i1 (by omega)]
        have gk : ∀ b, b ≠ o → (b < o + 53 ∨ o + 78 < b) → am_i h2' b = am_i h b := fun b hb1 hb2 => by
          rw [f3.i1 (fun z => by have := z.1; have := z.2; omega), fb.2.2.2.2 _ (fun z => by have := z.1; have := z.2; omega), f1.i1 hb1]
        have lm2 := (lm1.fq fb (by omega)).fr f3
        obtain ⟨h3, e4, f4, m4, s4⟩ := m_check (d := d + 194) lm2 (p := p) (w := wn) (y := y) hw1 (by omega) (by rw [gk m (by omega) (by omega)]; exact j2) (by rw [gk m (by omega) (by omega)]; exact y2) hy (by rw [gk (m + 2) (by omega) (by omega)]; exact hs) hp
        rw [gk (m + 1) (by omega) (by omega), gk (m + 2) (by omega) (by omega), gk (m + 17) (by omega) (by omega)] at e4
        have fq : am_fq (o + 53 + 3) (fun b => b = o ∨ (o + 53 ≤ b ∧ b ≤ o + 78) ∨ b = m ∨ b = m + 3 ∨ cm_K m b) h h3 := (((f1.fq.wd (fun b hb => Or.inl hb)).tr (fb.wd (fun b hb => Or.inr (Or.inl ⟨hb.1, by have := hb.2; omega⟩)))).tr (f3.fq.wd (fun b hb => Or.inr (Or.inl ⟨hb.1, by have := hb.2; omega⟩)))).tr (f4.fq.wd (fun b hb => Or.inr (Or.inr hb)))
        have N : ∀ b, b ≠ o → (b < o + 53 ∨ o + 78 < b) → b ≠ m → b ≠ m + 3 → b ≠ m + 1 → b ≠ m + 14 → b ≠ m + 15 → b ≠ m + 18 → ¬ (b = o ∨ (o + 53 ≤ b ∧ b ≤ o + 78) ∨ b = m ∨ b = m + 3 ∨ cm_K m b) := fun b q1 q2 q3 q4 q5 q6 q7 q8 z => by unfold cm_K at z; omega
        have txT : cl_Tx G h3 (o + 53) := ((tI.to fb htb).fr f3).fr f4
        have o8 : am_i h3 o = am_i (am_pi h o 8 0) o := by rw [f4.i1 (fun z => by unfold cm_K at z; omega), f3.i1 (fun z => by have := z.1; omega), fb.2.2.2.2 _ (fun z => by have := z.1; omega)]
        have m2e : am_i h3 (m + 2) = am_i h (m + 2) := fq.2.2.2.2 _ (N _ (by omega) (by omega) (by omega) (by omega) (by omega) (by omega) (by omega) (by omega))
        have H3 := i.2.2.2.2.1.fr fq.to (fun k h1 h2 => N (o + k) (by omega) (by omega) (by omega) (by omega) (by omega) (by omega) (by omega) (by omega)) (N (m + 4) (by omega) (by omega) (by omega) (by omega) (by omega) (by omega) (by omega) (by omega)) (N (m + 5) (by omega) (by omega) (by omega) (by omega) (by omega) (by omega) (by omega) (by omega)) (N (m + 6) (by omega) (by omega) (by omega) (by omega) (by omega) (by omega) (by omega) (by omega))
        have O3 := i.2.2.2.2.2.1.fr fq.to (fun k h1 h2 => N (o + k) (by omega) (by omega) (by omega) (by omega) (by omega) (by omega) (by omega) (by omega)) (fun k h1 h2 => N (m + k) (by omega) (by omega) (by omega) (by omega) (by omega) (by omega) (by omega) (by omega))
        refine ⟨_, _, _, ?_, e4, ⟨i.1.fq (Or.inr (Or.inr rfl)) fq (fun b hb => by unfold cm_K at hb; omega) txT, ?_, ?_, ?_, H3, O3, ⟨0, by omega, ?_, ?_, fun k hk => absurd hk (Nat.not_lt_zero k)⟩⟩, by rw [fq.1]; omega, by rw [fq.2.1]; omega⟩
        · rw [show mt_chv (am_i h (m + 17)) (mt_due (mt_cpy 2914 (am_i h (m + 2)) (am_i h (m + 1))) n nt p) y (2 * wn) = mt_chv (am_i hb (o + 88)) (mt_due (mt_cpy 2914 (am_i h (m + 2)) (am_i h (m + 1))) n nt p) y (2 * wn) from ?_, ← e3]
          · simp only [n_112, e_112_0, e_112_1, f_112_4, e_112_5, e_112_6, e_112_7, e_112_10, e_112_11, e_112_12, e_112_14, e_112_17, e_112_20, e_112_22, e_112_23, e_112_24, e_112_27, e_112_30, e_112_32, e_112_33, e_112_34, e_112_37, e_112_38, e_112_41, e_112_44, e_112_46, e_112_47, e_112_48, e_112_51, e_112_52, e_112_55, e_112_58, e_112_59, e_112_62, e_112_65, e_112_66, f_112_67, e_112_69, f_112_70, e_112_74, e_112_75, e_112_78, e_112_79, e_112_82, e_112_84, e_112_87, e_112_88, e_112_89, e_112_92, e_112_94, e_112_97, e_112_99, e_112_102, e_112_103, e_112_105, e_112_106, e_112_107, f_112_110, e_112_112, e_112_114, e_112_115, e_112_118, e_112_119, e_112_120, e_112_122, e_112_123, e_112_124, e_112_126, e_112_127, f_112_128, e_112_131, e_112_134, e_112_135, e_112_136, e_112_137, e_112_138, e_112_141, e_112_142, e_112_143, e_112_144, e_112_145, e_112_146, e_112_150, e_112_149, Option.bind_some, Option.toList_some, Option.toList_none, List.cons_append, List.nil_append, am_k1_i, am_k1_r, am_k1_u, am_k1_n, am_bo0, am_bo1, am_boi, am_ev_tb, am_tb_nil, am_rfs, am_rfn, eq_self, and_self, if_true, if_false, show ¬ (1 : Int32) = 0 from by decide, show ¬ (0 : Int32) = 1 from by decide, not_true, not_false_eq_true, and_true, true_and, and_false, false_and, or_true, true_or, or_false, false_or, co_ob lo, y1, co_ob lo1, c_within, h1, go9, j1, j2, co_r1 lo1, ha_ob r1.1, c_hasDeed r1.1, r1.2.1.2.1, h2, co_r2 lo1, ha_ob lT, eb, co_ob lob, co_r2 lob, ha_ob rb.1, ha_r1 rb.1, ha_d1 rb.1 (show p < 8 by have := hs.1.2.1.2; omega), am_cl (show p < 2147483648 by have := hs.1.2.1.2; omega), ha_d2 rb.1 (show p < 8 by have := hs.1.2.1.2; omega)]
            rfl
          · have key : ∀ j k, k + j ≤ y → mt_pre (am_i h (m + 17)) (mt_due (mt_cpy 2914 (am_i h (m + 2)) (am_i h (m + 1))) n nt p) j k = mt_pre (am_i hb (o + 88)) (mt_due (mt_cpy 2914 (am_i h (m + 2)) (am_i h (m + 1))) n nt p) j k := by
              intro j
              induction j with
              | zero => intro k _; rfl
              | succ j ih =>
                intro k hk
                rw [mt_pre, mt_pre, g88, y3 k (by omega), ih (k + 1) (by omega), g88]
            unfold mt_chv
            rw [key (min y (2 * wn)) 0 (by omega)]
        · obtain ⟨n2, nd2, nt2, hs2, r2⟩ := i.2.1
          have es : ∀ j, j < 2914 → am_i h (m + 1) j = am_i h3 (m + 1) j := fun j hj => by rw [s4 j hj, gk (m + 1) (by omega) (by omega)]
          refine ⟨n2, nd2, nt2, mt_wf_congr es hs2, ?_⟩
          exact (r2.fq hs2.1.1.2 hs2.1.2.1.2 fq (fun b hb => by unfold cm_K at hb; omega) (by omega) (by omega)).cg hs2 es
        · unfold iv_I
          rw [o8, go9, m4 3, if_neg (by decide), gk m (by omega) (by omega), m2e]
          exact ⟨j1, Or.inr ⟨j2, n, nd, nt, hs, r.fq hs.1.1.2 hs.1.2.1.2 fq (fun b hb => by unfold cm_K at hb; omega) (by omega) (by omega)⟩⟩
        · refine i.2.2.2.1.cg ?_ ?_ (fq.2.2.2.2 _ (N _ (by omega) (by omega) (by omega) (by omega) (by omega) (by omega) (by omega) (by omega))) (fq.2.2.2.2 _ (N _ (by omega) (by omega) (by omega) (by omega) (by omega) (by omega) (by omega) (by omega)))
          · rw [fq.2.2.2.2 _ (N _ (by omega) (by omega) (by omega) (by omega) (by omega) (by omega) (by omega) (by omega))]
          · rw [m4 14, if_neg (by decide), gk m (by omega) (by omega)]
        · rw [o8, am_pi_i, if_pos ⟨rfl, rfl⟩]; rfl
        · rw [m4 29, if_pos rfl]; rfl
      · refine sm_chk0 i ?_ (m_check2 lm1 h1 (by rw [gm0]; exact j2) (by rw [gm]; exact h2))
        simp only [n_112, e_112_0, e_112_1, f_112_4, e_112_5, e_112_6, e_112_7, e_112_10, e_112_11, e_112_12, e_112_14, e_112_17, e_112_20, e_112_22, e_112_23, e_112_24, e_112_27, e_112_30, e_112_32, e_112_33, e_112_34, e_112_37, e_112_38, e_112_41, e_112_44, e_112_46, e_112_47, e_112_48, e_112_51, e_112_52, e_112_55, e_112_58, e_112_59, e_112_62, e_112_65, e_112_66, f_112_67, e_112_69, f_112_70, e_112_74, e_112_75, e_112_78, e_112_79, e_112_82, e_112_84, e_112_87, e_112_88, e_112_89, e_112_92, e_112_94, e_112_97, e_112_99, e_112_102, e_112_103, e_112_105, e_112_106, e_112_107, f_112_110, e_112_112, e_112_114, e_112_115, e_112_118, e_112_119, e_112_120, e_112_122, e_112_123, e_112_124, e_112_126, e_112_127, f_112_128, e_112_131, e_112_134, e_112_135, e_112_136, e_112_137, e_112_138, e_112_141, e_112_142, e_112_143, e_112_144, e_112_145, e_112_146, e_112_150, e_112_149, Option.bind_some, Option.toList_some, Option.toList_none, List.cons_append, List.nil_append, am_k1_i, am_k1_r, am_k1_u, am_k1_n, am_bo0, am_bo1, am_boi, am_ev_tb, am_tb_nil, am_rfs, am_rfn, eq_self, and_self, if_true, if_false, show ¬ (1 : Int32) = 0 from by decide, show ¬ (0 : Int32) = 1 from by decide, not_true, not_false_eq_true, and_true, true_and, and_false, false_and, or_true, true_or, or_false, false_or, co_ob lo, co_ob lo1, c_within, h1, go9, j1, j2, co_r1 lo1, ha_ob r1.1, c_hasDeed r1.1, r1.2.1.2.1, h2]
  · refine sm_chk0 i ?_ (m_check0 lm1 h1)
    simp only [n_112, e_112_0, e_112_1, f_112_4, e_112_5, e_112_6, e_112_7, e_112_10, e_112_11, e_112_12, e_112_14, e_112_17, e_112_20, e_112_22, e_112_23, e_112_24, e_112_27, e_112_30, e_112_32, e_112_33, e_112_34, e_112_37, e_112_38, e_112_41, e_112_44, e_112_46, e_112_47, e_112_48, e_112_51, e_112_52, e_112_55, e_112_58, e_112_59, e_112_62, e_112_65, e_112_66, f_112_67, e_112_69, f_112_70, e_112_74, e_112_75, e_112_78, e_112_79, e_112_82, e_112_84, e_112_87, e_112_88, e_112_89, e_112_92, e_112_94, e_112_97, e_112_99, e_112_102, e_112_103, e_112_105, e_112_106, e_112_107, f_112_110, e_112_112, e_112_114, e_112_115, e_112_118, e_112_119, e_112_120, e_112_122, e_112_123, e_112_124, e_112_126, e_112_127, f_112_128, e_112_131, e_112_134, e_112_135, e_112_136, e_112_137, e_112_138, e_112_141, e_112_142, e_112_143, e_112_144, e_112_145, e_112_146, e_112_150, e_112_149, Option.bind_some, Option.toList_some, Option.toList_none, List.cons_append, List.nil_append, am_k1_i, am_k1_r, am_k1_u, am_k1_n, am_bo0, am_bo1, am_boi, am_ev_tb, am_tb_nil, am_rfs, am_rfn, eq_self, and_self, if_true, if_false, show ¬ (1 : Int32) = 0 from by decide, show ¬ (0 : Int32) = 1 from by decide, not_true, not_false_eq_true, and_true, true_and, and_false, false_and, or_true, true_or, or_false, false_or, co_ob lo, co_ob lo1, c_within, h1]
end SI
