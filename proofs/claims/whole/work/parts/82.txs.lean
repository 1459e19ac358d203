/-! texts on both sides -/
theorem ot_txt0 {key : Nat} {w v : Nat → Int32} : ∀ (rest pre : List (Int32 × Int32)), (∀ i x, (pre ++ rest)[i]? = some x → w i = x.1 ∧ v i = x.2) → mt_dp w v pre.length = ot_dp 0 pre → ot_ok key (ot_dp 0 pre) rest → (∀ k, pre.length ≤ k → k < (pre ++ rest).length → mt_so key (w k) (v k) (mt_dp w v k)) ∧ mt_dp w v (pre ++ rest).length = ot_dp 0 (pre ++ rest) := by
  intro rest
  induction rest with
  | nil =>
    intro pre _ hd _
    rw [List.append_nil]
    exact ⟨fun k h1 h2 => by omega, hd⟩
  | cons x r ih =>
    intro pre hx hd hok
    have e : pre ++ x :: r = (pre ++ [x]) ++ r := by simp
    have hx0 := hx pre.length x (by rw [List.getElem?_append_right (Nat.le_refl _), Nat.sub_self]; rfl)
    have hd2 : mt_dp w v (pre ++ [x]).length = ot_dp 0 (pre ++ [x]) := by
      rw [List.length_append, ot_dp_app]
      show mt_dp w v (pre.length + 1) = ot_d (ot_dp 0 pre) x
      rw [mt_dp, hd, hx0.1, hx0.2]
      rfl
    have := ih (pre ++ [x]) (by rw [← e]; exact hx) hd2 (by rw [ot_dp_app]; exact hok.2)
    rw [← e] at this
    refine ⟨fun k h1 h2 => ?_, this.2⟩
    by_cases hk : k = pre.length
    · rw [hk, hx0.1, hx0.2, hd]; exact hok.1
    · exact this.1 k (by rw [List.length_append]; show pre.length + 1 ≤ k; omega) h2
theorem ot_txt {key : Nat} {w v : Nat → Int32} {sub : List (Int32 × Int32)} (hg : ot_g key sub) (hx : ∀ i x, sub[i]? = some x → w i = x.1 ∧ v i = x.2) : (∀ k, k < sub.length → mt_so key (w k) (v k) (mt_dp w v k)) ∧ mt_dp w v sub.length = 1 := by
  have h := ot_txt0 (key := key) (w := w) (v := v) sub [] hx rfl (hg 0).1
  exact ⟨fun k hk => h.1 k (Nat.zero_le k) hk, h.2.trans (hg 0).2⟩
section TX
variable {G : Nat → Nat} {h h2 h4 : am_H} {o m d : Nat}
theorem iv.ex (i : iv G h o m) (e : am_ex (fun _ => False) h h2) : iv G h2 o m := by
  have hm : m = o + 117 := i.1.1.2
  have htop := i.1.2.1.1.2.1
  have f : am_fr (fun b => am_top h ≤ b) h (h.1, h.2.1, h.2.2.1, h2.2.2.2.1, h.2.2.2.2) := ⟨rfl, rfl, rfl, rfl, fun b hb => (e.2.2 b (by omega) id).1⟩
  have I : ∀ b, b < am_top h → am_i h2 b = am_i h b := fun b hb => (e.2.2 b hb id).1
  have T2 := i.2.2.2.1.fr f (by omega) (by omega) (by omega) (by omega)
  have H2 := i.2.2.2.2.1.fr f (fun k h1 h2 => by omega) (by omega) (by omega) (by omega)
  have O2 := i.2.2.2.2.2.1.fr f (fun k h1 h2 => by omega) (fun k h1 h2 => by omega)
  have W2 := i.2.2.2.2.2.2.fr f (by omega) (by omega) (by omega) (by omega)
  refine ⟨i.1.ex e, ?_, ?_, ?_, ?_, ?_, ?_⟩
  · obtain ⟨n, nd, nt, hs, r⟩ := i.2.1
    refine ⟨n, nd, nt, by rw [I _ (by omega)]; exact hs, ?_⟩
    rw [I _ (by omega)]
    exact r.ex hs.1.1.2 hs.1.2.1.2 e
  · unfold iv_I
    rw [I o (by omega), I m (by omega), I (m + 2) (by omega)]
    exact ⟨i.2.2.1.1, i.2.2.1.2.imp id (fun ⟨e1, n, nd, nt, w, r⟩ => ⟨e1, n, nd, nt, w, r.ex w.1.1.2 w.1.2.1.2 e⟩)⟩
  · exact T2
  · exact H2
  · exact O2
  · exact W2
/-- the reader's own cells do not matter -/
theorem iv.rd (i : iv G h o m) (f : am_fr (rd_S o) h h2) : iv G h2 o m := by
  have hm : m = o + 117 := i.1.1.2
  have N : ∀ b, (b ≠ o + 79 ∧ (b < o + 82 ∨ o + 85 < b)) → ¬ rd_S o b := fun b hb z => by unfold rd_S at z; omega
  exact i.gen f (fun b hb => by unfold rd_S at hb; omega) (by rw [f.i1 (N _ (by omega))]) (by rw [f.i1 (N _ (by omega))]) (i.2.2.2.1.fr f (N _ (by omega)) (N _ (by omega)) (N _ (by omega)) (N _ (by omega))) (i.2.2.2.2.1.fr f (fun k h1 h2 => N _ (by omega)) (N _ (by omega)) (N _ (by omega)) (N _ (by omega))) (i.2.2.2.2.2.1.fr f (fun k h1 h2 => N _ (by omega)) (fun k h1 h2 => N _ (by omega))) (i.2.2.2.2.2.2.fr f (N _ (by omega)) (N _ (by omega)) (N _ (by omega)) (N _ (by omega)))
def tx_S (o m : Nat) : Nat → Prop := fun b => b = o + 80 ∨ b = m ∨ b = m + 1
/-- a tape used up, with no text made of it -/
theorem iv.tx {n nd nt : Nat} (i : iv G h o m) (hs : mt_wf (am_i h (m + 1)) n nd nt) (r : cl_R G h (o + 1) (am_i h (m + 1)) n nd nt) (f : am_fr (tx_S o m) h h4) (t1 : am_i h4 (o + 80) 1 = 0) (t2 : am_i h4 m 14 = 0) (km : ∀ k, k < 14 ∨ 24 < k → am_i h4 m k = am_i h m k) (ks : ∀ j, j < 114 + 200 * nt → am_i h4 (m + 1) j = am_i h (m + 1) j) : iv G h4 o m := by
  have hm : m = o + 117 := i.1.1.2
  have ho : o = G 0 := i.1.1.1
  have N : ∀ b, b ≠ o + 80 → b ≠ m → b ≠ m + 1 → ¬ tx_S o m b := fun b h1 h2 h3 z => by unfold tx_S at z; omega
  refine ⟨i.1.fr f (fun b hb => by unfold tx_S at hb; omega), ⟨n, nd, nt, mt_wf_hi hs (fun j hj => (ks j hj).symm), (r.fr hs.1.1.2 hs.1.2.1.2 f (fun b hb => by unfold tx_S at hb; omega)).hi hs (fun j hj => (ks j hj).symm)⟩, ?_, ⟨0, by omega, t1, t2, fun j hj => absurd hj (Nat.not_lt_zero j)⟩, i.2.2.2.2.1.fr f (fun k h1 h2 => N _ (by omega) (by omega) (by omega)) (N _ (by omega) (by omega) (by omega)) (N _ (by omega) (by omega) (by omega)) (N _ (by omega) (by omega) (by omega)), i.2.2.2.2.2.1.fr f (fun k h1 h2 => N _ (by omega) (by omega) (by omega)) (fun k h1 h2 => N _ (by omega) (by omega) (by omega)), i.2.2.2.2.2.2.cg (by rw [f.i1 (N _ (by omega) (by omega) (by omega))]) (km 29 (by omega)) (f.i1 (N _ (by omega) (by omega) (by omega))) (f.i1 (N _ (by omega) (by omega) (by omega)))⟩
  unfold iv_I
  rw [f.i1 (N o (by omega) (by omega) (by omega)), km 3 (by omega), f.i1 (N (m + 2) (by omega) (by omega) (by omega))]
  exact ⟨i.2.2.1.1, i.2.2.1.2.imp id (fun ⟨e1, n, nd, nt, w, r⟩ => ⟨e1, n, nd, nt, w, r.fr w.1.1.2 w.1.2.1.2 f (fun b hb => by unfold tx_S at hb; omega)⟩)⟩
theorem rp_Ah (nt : Nat) (h14 : nt ≤ 14) : 114 + 200 * nt ≤ rp_A nt ∧ rp_A nt + 196 ≤ 3114 := by
  unfold rp_A
  split <;> omega
/-- no text: both answer the place -/
theorem sm_txN {h1 : am_H} {k2 : Nat} {n nd nt t W key : Nat} {T : Nat → Int32} {st ln : Nat → Nat} (i : iv G h o m) (hs : mt_wf (am_i h (m + 1)) n nd nt) (er : am_evm G (d + 199) 42 [.ref (o + 79)] h = some (some .null, h1)) (f1 : am_fr (rd_S o) h h1) (h10 : am_i h1 (o + 79) 10 = nI (st k2)) (hp : ∀ hr, am_i hr (m + 1) = am_i h (m + 1) → rp_E G hr m T t W st ln key (rp_A nt) → ∃ h3, am_evm G (d + 199) 201 [.ref m] hr = some (some (.int (-1)), am_pi h3 m 14 0) ∧ rp_F hr h3 m (rp_A nt) ∧ am_i h3 m 15 = nI (st k2)) (Er : rp_E G (am_pi h1 (o + 80) 1 0) m T t W st ln key (rp_A nt)) : sm G h o m d 99 202 [] := by
  have hm : m = o + 117 := i.1.1.2
  have lo := i.1.2.2.1
  have i1 := i.rd f1
  have lo1 := i1.1.2.2.1
  have g1 : am_i h1 (m + 1) = am_i h (m + 1) := f1.i1 (fun z => by unfold rd_S at z; omega)
  have gp : am_i (am_pi h1 (o + 80) 1 0) (m + 1) = am_i h (m + 1) := by rw [(am_pi_o _ (by omega)).1, g1]
  obtain ⟨h3, ep, F3, x15⟩ := hp _ gp Er
  have hA := rp_Ah nt hs.1.2.2.2
  have g10 : am_i (am_pi h1 (o + 80) 1 0) (o + 79) 10 = nI (st k2) := by rw [(am_pi_o _ (by omega)).1]; exact h10
  have e1 : am_evm G (d + 200) 99 [.ref o] h = some (some (.int (-100 - nI (st k2))), am_pi h1 (o + 80) 1 0) := by
    simp only [n_99, e_99_0, e_99_0n, e_99_1, e_99_4, f_99_7, f_99_7n, e_99_8, e_99_8n, e_99_9, e_99_12, e_99_13, e_99_16, e_99_16n, e_99_17, e_99_17n, e_99_20, e_99_22, e_99_22n, e_99_23, e_99_26, e_99_29, e_99_30, e_99_41, e_99_33, e_99_33n, e_99_34, e_99_37, e_99_37n, e_99_38, Option.bind_some, Option.toList_some, Option.toList_none, List.cons_append, List.nil_append, am_k1_i, am_k1_r, am_k1_u, am_k1_n, am_bo0, am_bo1, am_boi, am_ev_tb, am_tb_nil, am_rfs, am_rfn, eq_self, and_self, if_true, if_false, show ¬ (1 : Int32) = 0 from by decide, show ¬ (0 : Int32) = 1 from by decide, not_true, not_false_eq_true, and_true, true_and, and_false, false_and, or_true, true_or, or_false, false_or, co_ob lo, co_r3 lo, co_rd lo, er, co_ob lo1, co_r4 lo1, co_tp lo1, am_ob_pi, am_pi_r, co_r3 lo1, co_rd lo1, g10]
  have l3 := Er.1.fr F3.1
  have g15 : am_i (am_pi h3 m 14 0) m 15 = nI (st k2) := by rw [am_pi_i, if_neg (by omega)]; exact x15
  have e2 : am_evm G (d + 200) 202 [.ref m] (am_pi h1 (o + 80) 1 0) = some (some (.int (-100 - nI (st k2))), am_pi h3 m 14 0) := by
    simp only [n_202, e_202_0, e_202_1, f_202_4, e_202_5, e_202_6, e_202_9, e_202_11, e_202_12, e_202_15, e_202_16, e_202_17, e_202_18, e_202_21, e_202_22, e_202_23, e_202_25, e_202_28, e_202_30, e_202_31, e_202_32, e_202_33, e_202_36, e_202_37, e_202_38, f_202_41, e_202_42, e_202_43, e_202_46, e_202_47, e_202_48, e_202_49, e_202_50, e_202_51, e_202_52, e_202_55, e_202_56, e_202_57, e_202_58, e_202_59, e_202_62, e_202_63, e_202_64, e_202_67, e_202_68, e_202_69, e_202_70, e_202_71, e_202_74, e_202_75, e_202_76, e_202_79, e_202_80, e_202_81, e_202_82, e_202_83, e_202_84, e_202_85, e_202_86, e_202_89, e_202_90, e_202_91, e_202_92, e_202_93, Option.bind_some, Option.toList_some, Option.toList_none, List.cons_append, List.nil_append, am_k1_i, am_k1_r, am_k1_u, am_k1_n, am_bo0, am_bo1, am_boi, am_ev_tb, am_tb_nil, am_rfs, am_rfn, eq_self, and_self, if_true, if_false, show ¬ (1 : Int32) = 0 from by decide, show ¬ (0 : Int32) = 1 from by decide, not_true, not_false_eq_true, and_true, true_and, and_false, false_and, or_true, true_or, or_false, false_or, cm_ob Er.1, ep, show ¬ (0 : Int32) ≤ -1 from by decide, am_ob_pi, cm_ob l3, g15]
  have f4 : am_fr (tx_S o m) h1 (am_pi h3 m 14 0) := ((am_fr.pi (S := tx_S o m) (Or.inl rfl)).tr (F3.1.wd (fun b hb => Or.inr hb))).tr (am_fr.pi (Or.inr (Or.inl rfl)))
  have r1 : ∃ n nd nt, mt_wf (am_i h1 (m + 1)) n nd nt ∧ cl_R G h1 (o + 1) (am_i h1 (m + 1)) n nd nt := i1.2.1
  obtain ⟨n', nd', nt', hs', r'⟩ := r1
  have hnt : nt' = nt := by
    have q1 := hs'.1.2.2.1
    rw [g1, hs.1.2.2.1] at q1
    have := hs.1.2.2.2
    have := hs'.1.2.2.2
    exact ((nI_eq (by omega) (by omega)).mp q1).symm
  subst hnt
  refine ⟨_, _, _, e1, e2, i1.tx hs' r' f4 ?_ ?_ (fun k hk => ?_) (fun j hj => ?_), by rw [f4.1, f1.1]; omega, by rw [f4.2.1, f1.2.1]; omega⟩
  · rw [am_pi_i, if_neg (by omega), F3.1.i1 (by omega), am_pi_i, if_pos ⟨rfl, rfl⟩]
  · rw [am_pi_i, if_pos ⟨rfl, rfl⟩]
  · rw [am_pi_i, if_neg (by omega), F3.2.1 k (by omega), (am_pi_o _ (by omega)).1]
  · rw [am_pi_i, if_neg (by omega), F3.2.2 j (by omega), (am_pi_o _ (by omega)).1]
end TX
