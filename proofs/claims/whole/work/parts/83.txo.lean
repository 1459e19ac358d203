/-! a text made, on both sides -/
section TO
variable {G : Nat → Nat} {h h2 hb : am_H} {o m d n nd nt t W key : Nat} {T : Nat → Int32} {st ln : Nat → Nat} {sub : List (Int32 × Int32)}
theorem am_fq.pr {x k : Nat} {v : Option Nat} {S : Nat → Prop} : am_fq x S h (am_pr h x k v) := ⟨rfl, rfl, rfl, fun b hb => by
  funext j
  show (if b = x ∧ j = k then v else am_r h b j) = am_r h b j
  exact if_neg (fun (z : b = x ∧ j = k) => hb z.1), fun _ _ => rfl⟩
/-- what a reading that made a text leaves -/
def tx_Q (h h2 hb : am_H) (o : Nat) (key : Nat) (sub : List (Int32 × Int32)) : Prop := am_fr (rd_S o) h hb ∧ (am_top h2 = am_top h + 2 ∧ am_sl h2 = am_sl h + 3 + sub.length) ∧ am_ex (fun _ => False) hb h2 ∧ (am_sh h2 (am_top h) = (7, 0) ∧ am_sh h2 (am_top h + 1) = (20, sub.length)) ∧ (am_i h2 (am_top h) 0 = nI key ∧ am_i h2 (am_top h) 1 = nI (ot_n sub) ∧ am_r h2 (am_top h) 2 = some (am_top h + 1)) ∧ ∀ i x, sub[i]? = some x → mt_cs key (am_i h2 (am_top h + 1) i) x.1 x.2
theorem sm_txF (i : iv G h o m) (hs : mt_wf (am_i h (m + 1)) n nd 14) (er : am_evm G (d + 199) 42 [.ref (o + 79)] h = some (some (.ref (am_top h)), h2)) (Q : tx_Q h h2 hb o key sub) (hl : sub.length ≤ 96) (hkey : key < 3) (Er : rp_E G (am_pi h2 (o + 80) 1 0) m T t W st ln key (rp_A 14)) (hp : ∃ h3, am_evm G (d + 199) 201 [.ref m] (am_pi h2 (o + 80) 1 0) = some (some (.int (nI key)), am_pi h3 m 14 0) ∧ rp_F (am_pi h2 (o + 80) 1 0) h3 m (rp_A 14)) : sm G h o m d 99 202 [] := by
  have hm : m = o + 117 := i.1.1.2
  have lo := i.1.2.2.1
  obtain ⟨fb, ⟨q1, q2⟩, ex, -⟩ := Q
  have i2 := (i.rd fb).ex ex
  have lo2 := i2.1.2.2.1
  have htop := i.1.2.1.1.2.1
  have g1 : am_i h2 (m + 1) = am_i h (m + 1) := by rw [(ex.2.2 (m + 1) (by rw [fb.1]; omega) id).1, fb.i1 (fun z => by unfold rd_S at z; omega)]
  obtain ⟨h3, ep, F3⟩ := hp
  have hA := rp_Ah 14 (by omega)
  obtain ⟨n', nd', nt', hs', r'⟩ := i2.2.1
  have hnt : nt' = 14 := by
    have z := hs'.1.2.2.1
    rw [g1, hs.1.2.2.1] at z
    have := hs'.1.2.2.2
    exact ((nI_eq (a := 14) (by omega) (by omega)).mp z).symm
  subst hnt
  have g7 : am_i (am_pi h2 (o + 80) 1 0) (o + 1) 7 = nI 14 := by rw [(am_pi_o _ (by omega)).1, r'.2.1.2.2.1]; exact hs'.1.2.2.1
  have l3 := Er.1.fr F3.1
  have ea : am_evm G (d + 199) 14 [.ref (o + 1), .ref (am_top h)] (am_pi h2 (o + 80) 1 0) = some (some (.int (-1000000003)), am_pi h2 (o + 80) 1 0) := by
    simp only [n_14, e_14_0, e_14_1, e_14_4, e_14_6, e_14_9, e_14_11, e_14_12, e_14_13, e_14_16, e_14_17, e_14_20, e_14_21, e_14_22, e_14_23, e_14_26, e_14_27, e_14_30, e_14_31, e_14_34, e_14_35, e_14_36, e_14_37, e_14_40, e_14_41, e_14_42, e_14_45, e_14_46, e_14_49, e_14_50, e_14_51, Option.bind_some, Option.toList_some, Option.toList_none, List.cons_append, List.nil_append, am_k1_i, am_k1_r, am_k1_u, am_k1_n, am_bo0, am_bo1, am_boi, am_ev_tb, am_tb_nil, am_rfs, am_rfn, eq_self, and_self, if_true, if_false, show ¬ (1 : Int32) = 0 from by decide, show ¬ (0 : Int32) = 1 from by decide, not_true, not_false_eq_true, and_true, true_and, and_false, false_and, or_true, true_or, or_false, false_or, am_ob_pi, ha_ob r'.1, g7, show ¬ nI 14 < 14 from by decide]
  have e1 : am_evm G (d + 200) 99 [.ref o] h = some (some (.int (-1000000003)), am_pi h2 (o + 80) 1 0) := by
    simp only [n_99, e_99_0, e_99_0n, e_99_1, e_99_4, f_99_7, f_99_7n, e_99_8, e_99_8n, e_99_9, e_99_12, e_99_13, e_99_16, e_99_16n, e_99_17, e_99_17n, e_99_20, e_99_22, e_99_22n, e_99_23, e_99_26, e_99_29, e_99_30, e_99_41, e_99_33, e_99_33n, e_99_34, e_99_37, e_99_37n, e_99_38, Option.bind_some, Option.toList_some, Option.toList_none, List.cons_append, List.nil_append, am_k1_i, am_k1_r, am_k1_u, am_k1_n, am_bo0, am_bo1, am_boi, am_ev_tb, am_tb_nil, am_rfs, am_rfn, eq_self, and_self, if_true, if_false, show ¬ (1 : Int32) = 0 from by decide, show ¬ (0 : Int32) = 1 from by decide, not_true, not_false_eq_true, and_true, true_and, and_false, false_and, or_true, true_or, or_false, false_or, co_ob lo, co_r3 lo, co_rd lo, er, co_ob lo2, co_r4 lo2, co_tp lo2, am_ob_pi, am_pi_r, co_r0 lo2, ha_ob r'.1, ea]
  have hk0 : (0 : Int32) ≤ nI key := nI_pos' (by omega)
  have s2 : am_i (am_pi h3 m 14 0) (m + 1) 2 = nI 14 := by
    rw [am_pi_i, if_neg (by omega), F3.2.2 2 (by omega), (am_pi_o _ (by omega)).1]; exact hs'.1.2.2.1
  have ia2 : am_ia G (am_pi h3 m 14 0) (m + 1) 2 := cm_ia1 l3 (show 2 < 3114 by omega)
  have e2 : am_evm G (d + 200) 202 [.ref m] (am_pi h2 (o + 80) 1 0) = some (some (.int (-1000000003)), am_pi h3 m 14 0) := by
    simp only [n_202, e_202_0, e_202_1, f_202_4, e_202_5, e_202_6, e_202_9, e_202_11, e_202_12, e_202_15, e_202_16, e_202_17, e_202_18, e_202_21, e_202_22, e_202_23, e_202_25, e_202_28, e_202_30, e_202_31, e_202_32, e_202_33, e_202_36, e_202_37, e_202_38, f_202_41, e_202_42, e_202_43, e_202_46, e_202_47, e_202_48, e_202_49, e_202_50, e_202_51, e_202_52, e_202_55, e_202_56, e_202_57, e_202_58, e_202_59, e_202_62, e_202_63, e_202_64, e_202_67, e_202_68, e_202_69, e_202_70, e_202_71, e_202_74, e_202_75, e_202_76, e_202_79, e_202_80, e_202_81, e_202_82, e_202_83, e_202_84, e_202_85, e_202_86, e_202_89, e_202_90, e_202_91, e_202_92, e_202_93, Option.bind_some, Option.toList_some, Option.toList_none, List.cons_append, List.nil_append, am_k1_i, am_k1_r, am_k1_u, am_k1_n, am_bo0, am_bo1, am_boi, am_ev_tb, am_tb_nil, am_rfs, am_rfn, eq_self, and_self, if_true, if_false, show ¬ (1 : Int32) = 0 from by decide, show ¬ (0 : Int32) = 1 from by decide, not_true, not_false_eq_true, and_true, true_and, and_false, false_and, or_true, true_or, or_false, false_or, cm_ob Er.1, ep, hk0, am_ob_pi, cm_ob l3, am_pi_r, cm_r0 l3, ia2, show (2 : Int32).toNatClampNeg = 2 from rfl, s2, show nI 14 = (14 : Int32) from rfl]
  have f4 : am_fr (tx_S o m) h2 (am_pi h3 m 14 0) := ((am_fr.pi (S := tx_S o m) (Or.inl rfl)).tr (F3.1.wd (fun b hb => Or.inr hb))).tr (am_fr.pi (Or.inr (Or.inl rfl)))
  refine ⟨_, _, _, e1, e2, i2.tx hs' r' f4 ?_ ?_ (fun k hk => ?_) (fun j hj => ?_), by rw [f4.1, q1]; omega, by rw [f4.2.1, q2]; omega⟩
  · rw [am_pi_i, if_neg (by omega), F3.1.i1 (by omega), am_pi_i, if_pos ⟨rfl, rfl⟩]
  · rw [am_pi_i, if_pos ⟨rfl, rfl⟩]
  · rw [am_pi_i, if_neg (by omega), F3.2.1 k (by omega), (am_pi_o _ (by omega)).1]
  · rw [am_pi_i, if_neg (by omega), F3.2.2 j (by omega), (am_pi_o _ (by omega)).1]
def tx_P (o m : Nat) : Nat → Prop := fun b => b = o + 80 ∨ b = o + 5 ∨ b = o + 1 ∨ b = m ∨ b = m + 1
/-- the class's hall takes a text -/
def tx_5 (h2 : am_H) (o b nt key : Nat) : am_H := am_pi (am_pi (am_pr (am_pi h2 (o + 80) 1 0) (o + 1 + 3) nt (some b)) (o + 1 + 4) key (nI nt)) (o + 1) 7 (nI (nt + 1))
theorem tx_5f {b : Nat} : am_fq (o + 1 + 3) (tx_P o m) h2 (tx_5 h2 o b nt key) := (((am_fr.pi (S := tx_P o m) (Or.inl rfl)).fq.tr am_fq.pr).tr ((am_fr.pi (S := tx_P o m) (Or.inr (Or.inl rfl))).fq)).tr ((am_fr.pi (S := tx_P o m) (Or.inr (Or.inr (Or.inl rfl)))).fq)
theorem c_addText {b : Nat} (r : cl_R G h2 (o + 1) (am_i h2 (m + 1)) n nd nt) (hs : mt_wf (am_i h2 (m + 1)) n nd nt) (hm : m = o + 117) (hnt : nt < 14) (hkey : key < 3) (hb : am_ob G h2 b 7) (hbo : o + 136 ≤ b) (hb0 : am_i h2 b 0 = nI key) : am_evm G d 14 [.ref (o + 1), .ref b] (am_pi h2 (o + 80) 1 0) = some (some (.int (nI nt)), tx_5 h2 o b nt key) := by
  have l := r.1
  have g7 : am_i (am_pi h2 (o + 80) 1 0) (o + 1) 7 = nI nt := by rw [(am_pi_o _ (by omega)).1, r.2.1.2.2.1]; exact hs.1.2.2.1
  have hlt : nI nt < 14 := nI_lt (b := 14) hnt (by decide)
  have hrw : am_rw G (am_pi h2 (o + 80) 1 0) (o + 1 + 3) (nI nt) b := by
    have hs3 : am_sh h2 (o + 1 + 3) = (24, 14) := l.2.2.1.2.2.1
    refine ⟨ha_t1 l hnt, hb.1, ?_⟩
    show (am_sh h2 b).1 = am_aC (am_sh h2 (o + 1 + 3)).1
    rw [hs3, hb.2]; rfl
  have q1 : am_i (am_pr (am_pi h2 (o + 80) 1 0) (o + 1 + 3) nt (some b)) (o + 1) 7 = nI nt := g7
  have q2 : am_i (am_pr (am_pi h2 (o + 80) 1 0) (o + 1 + 3) nt (some b)) b 0 = nI key := by
    show am_i (am_pi h2 (o + 80) 1 0) b 0 = _
    rw [(am_pi_o _ (by omega)).1]; exact hb0
  have q3 : am_i (am_pi (am_pr (am_pi h2 (o + 80) 1 0) (o + 1 + 3) nt (some b)) (o + 1 + 4) key (nI nt)) (o + 1) 7 = nI nt := by rw [(am_pi_o _ (by omega)).1, q1]
  have q4 : am_i (tx_5 h2 o b nt key) (o + 1) 7 = nI (nt + 1) := by unfold tx_5; rw [am_pi_i, if_pos ⟨rfl, rfl⟩]
  have obh : am_ob G h2 (o + 1) 1 := ha_ob l
  have ob1 : am_ob G (am_pr (am_pi h2 (o + 80) 1 0) (o + 1 + 3) nt (some b)) (o + 1) 1 := obh
  have obb : am_ob G (am_pr (am_pi h2 (o + 80) 1 0) (o + 1 + 3) nt (some b)) b 7 := hb
  have r3 : am_r (am_pr (am_pi h2 (o + 80) 1 0) (o + 1 + 3) nt (some b)) (o + 1) 3 = some (o + 1 + 4) := by
    rw [(am_fq.pr (h := am_pi h2 (o + 80) 1 0) (x := o + 1 + 3) (S := tx_P o m)).2.2.2.1 (o + 1) (by omega)]
    exact ha_r3 l
  have iw : am_iw G (am_pr (am_pi h2 (o + 80) 1 0) (o + 1 + 3) nt (some b)) (o + 1 + 4) (nI key) := ha_c2 l hkey
  have r2 : am_r (am_pi h2 (o + 80) 1 0) (o + 1) 2 = some (o + 1 + 3) := ha_r2 l
  have ob0 : am_ob G (am_pi h2 (o + 80) 1 0) (o + 1) 1 := ha_ob l
  have ob5 : am_ob G (tx_5 h2 o b nt key) (o + 1) 1 := obh
  have e1 : am_evm G d 14 [.ref (o + 1), .ref b] (am_pi h2 (o + 80) 1 0) = am_ev G d 14 45 [some (.ref (o + 1)), some (.ref b)] [] (tx_5 h2 o b nt key) := by
    simp only [n_14, e_14_0, e_14_1, e_14_4, e_14_6, e_14_9, e_14_11, e_14_12, e_14_13, e_14_16, e_14_17, e_14_20, e_14_21, e_14_22, e_14_23, e_14_26, e_14_27, e_14_30, e_14_31, e_14_34, e_14_35, e_14_36, e_14_37, e_14_40, e_14_41, e_14_42, e_14_46, e_14_49, e_14_50, e_14_51, Option.bind_some, Option.toList_some, Option.toList_none, List.cons_append, List.nil_append, am_k1_i, am_k1_r, am_k1_u, am_k1_n, am_bo0, am_bo1, am_boi, am_ev_tb, am_tb_nil, am_rfs, am_rfn, eq_self, and_self, if_true, if_false, show ¬ (1 : Int32) = 0 from by decide, show ¬ (0 : Int32) = 1 from by decide, not_true, not_false_eq_true, and_true, true_and, and_false, false_and, or_true, true_or, or_false, false_or, ob0, g7, hlt, r2, hrw, am_cl (show nt < 2147483648 by omega), ob1, r3, obb, q2, q1, iw, am_cl (show key < 2147483648 by omega), am_ob_pi, q3, nI_1]
    rfl
  rw [e1, e_14_45]
  simp only [n_14, e_14_0, e_14_1, e_14_4, e_14_6, e_14_9, e_14_11, e_14_12, e_14_13, e_14_16, e_14_17, e_14_20, e_14_21, e_14_22, e_14_23, e_14_26, e_14_27, e_14_30, e_14_31, e_14_34, e_14_35, e_14_36, e_14_37, e_14_40, e_14_41, e_14_42, e_14_46, e_14_49, e_14_50, e_14_51, Option.bind_some, Option.toList_some, Option.toList_none, List.cons_append, List.nil_append, am_k1_i, am_k1_r, am_k1_u, am_k1_n, am_bo0, am_bo1, am_boi, am_ev_tb, am_tb_nil, am_rfs, am_rfn, eq_self, and_self, if_true, if_false, show ¬ (1 : Int32) = 0 from by decide, show ¬ (0 : Int32) = 1 from by decide, not_true, not_false_eq_true, and_true, true_and, and_false, false_and, or_true, true_or, or_false, false_or, ob5, q4, nI_pred]
set_option maxHeartbeats 2000000 in
theorem sm_txO (i : iv G h o m) (hs : mt_wf (am_i h (m + 1)) n nd nt) (hnt : nt < 14) (er : am_evm G (d + 199) 42 [.ref (o + 79)] h = some (some (.ref (am_top h)), h2)) (Q : tx_Q h h2 hb o key sub) (hg : ot_g key sub) (hl : sub.length ≤ 96) (hkey : key < 3) (Er : rp_E G (tx_5 h2 o (am_top h) nt key) m T t W st ln key (rp_A nt)) (hp : ∃ h3, am_evm G (d + 199) 201 [.ref m] (tx_5 h2 o (am_top h) nt key) = some (some (.int (nI key)), am_pi h3 m 14 0) ∧ rp_F (tx_5 h2 o (am_top h) nt key) h3 m (rp_A nt) ∧ am_i h3 m 22 = nI sub.length ∧ am_i h3 m 24 = nI (ot_n sub) ∧ ∀ i x, sub[i]? = some x → am_i h3 (m + 1) (rp_A nt + 2 * i) = x.1 ∧ am_i h3 (m + 1) (rp_A nt + 2 * i + 1) = x.2) : sm G h o m d 99 202 [] := by
  have hm : m = o + 117 := i.1.1.2
  have ho : o = G 0 := i.1.1.1
  have lo := i.1.2.2.1
  obtain ⟨fb, ⟨q1, q2⟩, ex, ⟨sh1, sh2⟩, ⟨b0, b1, b2⟩, cs⟩ := Q
  have i2 := (i.rd fb).ex ex
  have lo2 := i2.1.2.2.1
  have htop := i.1.2.1.1.2.1
  have g1 : am_i h2 (m + 1) = am_i h (m + 1) := by rw [(ex.2.2 (m + 1) (by rw [fb.1]; omega) id).1, fb.i1 (fun z => by unfold rd_S at z; omega)]
  obtain ⟨h3, ep, F3, x22, x24, xs⟩ := hp
  have hA := rp_Ah nt (by omega)
  have hAe : rp_A nt = 114 + 200 * nt + 4 := if_pos hnt
  obtain ⟨n', nd', nt', hs', r'⟩ := i2.2.1
  have hnt' : nt' = nt := by
    have z := hs'.1.2.2.1
    rw [g1, hs.1.2.2.1] at z
    have := hs'.1.2.2.2
    exact ((nI_eq (by omega) (by omega)).mp z).symm
  subst hnt'
  have hob : am_ob G h2 (am_top h) 7 := ⟨⟨by omega, by omega⟩, by rw [sh1]⟩
  have ea := c_addText (d := d + 199) (m := m) r' hs' hm hnt hkey hob (by omega) b0
  have e1 : am_evm G (d + 200) 99 [.ref o] h = some (some (.int (nI nt')), tx_5 h2 o (am_top h) nt' key) := by
    simp only [n_99, e_99_0, e_99_0n, e_99_1, e_99_4, f_99_7, f_99_7n, e_99_8, e_99_8n, e_99_9, e_99_12, e_99_13, e_99_16, e_99_16n, e_99_17, e_99_17n, e_99_20, e_99_22, e_99_22n, e_99_23, e_99_26, e_99_29, e_99_30, e_99_41, e_99_33, e_99_33n, e_99_34, e_99_37, e_99_37n, e_99_38, Option.bind_some, Option.toList_some, Option.toList_none, List.cons_append, List.nil_append, am_k1_i, am_k1_r, am_k1_u, am_k1_n, am_bo0, am_bo1, am_boi, am_ev_tb, am_tb_nil, am_rfs, am_rfn, eq_self, and_self, if_true, if_false, show ¬ (1 : Int32) = 0 from by decide, show ¬ (0 : Int32) = 1 from by decide, not_true, not_false_eq_true, and_true, true_and, and_false, false_and, or_true, true_or, or_false, false_or, co_ob lo, co_r3 lo, co_rd lo, er, co_ob lo2, co_r4 lo2, co_tp lo2, am_ob_pi, am_pi_r, co_r0 lo2, ha_ob r'.1, ea]
  -- the reference
  have f5 : am_fq (o + 1 + 3) (tx_P o m) h2 (tx_5 h2 o (am_top h) nt' key) := tx_5f
  have s5 : am_i (tx_5 h2 o (am_top h) nt' key) (m + 1) = am_i h2 (m + 1) := by
    unfold tx_5
    rw [(am_pi_o _ (by omega)).1, (am_pi_o _ (by omega)).1]
    show am_i (am_pi h2 (o + 80) 1 0) (m + 1) = _
    rw [(am_pi_o _ (by omega)).1]
  have m5 : am_i (tx_5 h2 o (am_top h) nt' key) m = am_i h2 m := by
    unfold tx_5
    rw [(am_pi_o _ (by omega)).1, (am_pi_o _ (by omega)).1]
    show am_i (am_pi h2 (o + 80) 1 0) m = _
    rw [(am_pi_o _ (by omega)).1]
  have l3 := Er.1.fr F3.1
  let P := am_pi h3 m 14 0
  let h7 := am_pi (am_pi (am_pi (am_pi P (m + 1) (114 + 200 * nt') (nI key)) (m + 1) (114 + 200 * nt' + 1) (nI (ot_n sub))) (m + 1) (114 + 200 * nt' + 2) (nI sub.length)) (m + 1) 2 (nI (nt' + 1))
  have lP : cm_Lay G P m := l3
  have P22 : ∀ a c, am_i (am_pi (am_pi P (m + 1) (114 + 200 * nt') a) (m + 1) (114 + 200 * nt' + 1) c) m 22 = nI sub.length := fun a c => by
    rw [am_pi_i, if_neg (by omega), am_pi_i, if_neg (by omega)]
    show am_i (am_pi h3 m 14 0) m 22 = _
    rw [am_pi_i, if_neg (by omega)]; exact x22
  have P24 : ∀ a, am_i (am_pi P (m + 1) (114 + 200 * nt') a) m 24 = nI (ot_n sub) := fun a => by
    rw [am_pi_i, if_neg (by omega)]
    show am_i (am_pi h3 m 14 0) m 24 = _
    rw [am_pi_i, if_neg (by omega)]; exact x24
  have P2 : am_i P (m + 1) 2 = nI nt' := by
    show am_i (am_pi h3 m 14 0) (m + 1) 2 = _
    rw [am_pi_i, if_neg (by omega), F3.2.2 2 (by omega), s5]; exact hs'.1.2.2.1
  have P2' : ∀ a c e, am_i (am_pi (am_pi (am_pi P (m + 1) (114 + 200 * nt') a) (m + 1) (114 + 200 * nt' + 1) c) (m + 1) (114 + 200 * nt' + 2) e) (m + 1) 2 = nI nt' := fun a c e => by
    rw [am_pi_i, if_neg (by omega), am_pi_i, if_neg (by omega), am_pi_i, if_neg (by omega)]; exact P2
  have P2'' : am_i h7 (m + 1) 2 = nI (nt' + 1) := by
    show am_i (am_pi _ (m + 1) 2 _) (m + 1) 2 = _
    rw [am_pi_i, if_pos ⟨rfl, rfl⟩]
  have ia2 : am_ia G P (m + 1) 2 := cm_ia1 lP (show 2 < 3114 by omega)
  have iw2 : am_iw G P (m + 1) 2 := cm_iw1 lP (show 2 < 3114 by omega)
  have w0 := cm_iw1 lP (show 114 + 200 * nt' < 3114 by omega)
  have w1 := cm_iw1 lP (show 114 + 200 * nt' + 1 < 3114 by omega)
  have w2 := cm_iw1 lP (show 114 + 200 * nt' + 2 < 3114 by omega)
  have a0 : nI (114 + 200 * nt') + 0 = nI (114 + 200 * nt') := Int32.add_zero _
  have a2 : nI (114 + 200 * nt') + 2 = nI (114 + 200 * nt' + 2) := nI_add _ 2
  have hk0 : (0 : Int32) ≤ nI key := nI_pos' (by omega)
  have hn14 : ¬ nI nt' = 14 := fun z => by have := (nI_eq (b := 14) (by omega) (by decide)).mp z; omega
  have e2 : am_evm G (d + 200) 202 [.ref m] (tx_5 h2 o (am_top h) nt' key) = some (some (.int (nI nt')), h7) := by
    have q1 : am_evm G (d + 200) 202 [.ref m] (tx_5 h2 o (am_top h) nt' key) = am_ev G (d + 200) 202 17 [some (.ref m), some (.int (nI key)), none] [] P := by
      simp only [n_202, e_202_0, e_202_1, f_202_4, e_202_5, e_202_6, e_202_9, e_202_11, e_202_12, e_202_15, e_202_16, e_202_18, e_202_21, e_202_22, e_202_23, e_202_25, e_202_28, e_202_30, e_202_31, e_202_32, e_202_33, e_202_36, e_202_37, e_202_38, f_202_41, e_202_42, e_202_43, e_202_46, e_202_47, e_202_48, e_202_49, e_202_50, e_202_51, e_202_52, e_202_55, e_202_56, e_202_57, e_202_58, e_202_59, e_202_62, e_202_63, e_202_64, e_202_67, e_202_68, e_202_69, e_202_70, e_202_71, e_202_74, e_202_75, e_202_76, e_202_79, e_202_80, e_202_81, e_202_82, e_202_83, e_202_84, e_202_85, e_202_86, e_202_89, e_202_90, e_202_91, e_202_92, e_202_93, Option.bind_some, Option.toList_some, Option.toList_none, List.cons_append, List.nil_append, am_k1_i, am_k1_r, am_k1_u, am_k1_n, am_bo0, am_bo1, am_boi, am_ev_tb, am_tb_nil, am_rfs, am_rfn, eq_self, and_self, if_true, if_false, show ¬ (1 : Int32) = 0 from by decide, show ¬ (0 : Int32) = 1 from by decide, not_true, not_false_eq_true, and_true, true_and, and_false, false_and, or_true, true_or, or_false, false_or, cm_ob Er.1, ep, hk0]
      rfl
    have q2 : am_ev G (d + 200) 202 17 [some (.ref m), some (.int (nI key)), none] [] P = am_ev G (d + 200) 202 85 [some (.ref m), some (.int (nI key)), some (.int (nI (114 + 200 * nt')))] [] h7 := by
      rw [e_202_17]
      simp only [n_202, e_202_0, e_202_1, f_202_4, e_202_5, e_202_6, e_202_9, e_202_11, e_202_12, e_202_15, e_202_16, e_202_18, e_202_21, e_202_22, e_202_23, e_202_25, e_202_28, e_202_30, e_202_31, e_202_32, e_202_33, e_202_36, e_202_37, e_202_38, f_202_41, e_202_42, e_202_43, e_202_46, e_202_47, e_202_48, e_202_49, e_202_50, e_202_51, e_202_52, e_202_55, e_202_56, e_202_57, e_202_58, e_202_59, e_202_62, e_202_63, e_202_64, e_202_67, e_202_68, e_202_69, e_202_70, e_202_71, e_202_74, e_202_75, e_202_76, e_202_79, e_202_80, e_202_81, e_202_82, e_202_83, e_202_84, e_202_86, e_202_89, e_202_90, e_202_91, e_202_92, e_202_93, Option.bind_some, Option.toList_some, Option.toList_none, List.cons_append, List.nil_append, am_k1_i, am_k1_r, am_k1_u, am_k1_n, am_bo0, am_bo1, am_boi, am_ev_tb, am_tb_nil, am_rfs, am_rfn, eq_self, and_self, if_true, if_false, show ¬ (1 : Int32) = 0 from by decide, show ¬ (0 : Int32) = 1 from by decide, not_true, not_false_eq_true, and_true, true_and, and_false, false_and, or_true, true_or, or_false, false_or, cm_ob lP, cm_r0 lP, ia2, show (2 : Int32).toNatClampNeg = 2 from rfl, P2, hn14, m_textAt, a0, nI_1, a2, w0, w1, w2, am_cl (show 114 + 200 * nt' < 2147483648 by omega), am_cl (show 114 + 200 * nt' + 1 < 2147483648 by omega), am_cl (show 114 + 200 * nt' + 2 < 2147483648 by omega), am_ob_pi, am_pi_r, am_iw_pi, am_ia_pi, P24, P22, P2', iw2]
      rfl
    have l7 : cm_Lay G h7 m := lP
    have ia7 : am_ia G h7 (m + 1) 2 := cm_ia1 l7 (show 2 < 3114 by omega)
    rw [q1, q2, e_202_85]
    simp only [n_202, e_202_0, e_202_1, f_202_4, e_202_5, e_202_6, e_202_9, e_202_11, e_202_12, e_202_15, e_202_16, e_202_18, e_202_21, e_202_22, e_202_23, e_202_25, e_202_28, e_202_30, e_202_31, e_202_32, e_202_33, e_202_36, e_202_37, e_202_38, f_202_41, e_202_42, e_202_43, e_202_46, e_202_47, e_202_48, e_202_49, e_202_50, e_202_51, e_202_52, e_202_55, e_202_56, e_202_57, e_202_58, e_202_59, e_202_62, e_202_63, e_202_64, e_202_67, e_202_68, e_202_69, e_202_70, e_202_71, e_202_74, e_202_75, e_202_76, e_202_79, e_202_80, e_202_81, e_202_82, e_202_83, e_202_84, e_202_86, e_202_89, e_202_90, e_202_91, e_202_92, e_202_93, Option.bind_some, Option.toList_some, Option.toList_none, List.cons_append, List.nil_append, am_k1_i, am_k1_r, am_k1_u, am_k1_n, am_bo0, am_bo1, am_boi, am_ev_tb, am_tb_nil, am_rfs, am_rfn, eq_self, and_self, if_true, if_false, show ¬ (1 : Int32) = 0 from by decide, show ¬ (0 : Int32) = 1 from by decide, not_true, not_false_eq_true, and_true, true_and, and_false, false_and, or_true, true_or, or_false, false_or, cm_ob l7, cm_r0 l7, ia7, show (2 : Int32).toNatClampNeg = 2 from rfl, P2'', nI_pred]
  -- cells
  have fP : am_fr (fun b => b = m ∨ b = m + 1) (tx_5 h2 o (am_top h) nt' key) h7 := (((((F3.1.tr (am_fr.pi (Or.inl rfl))).tr (am_fr.pi (Or.inr rfl))).tr (am_fr.pi (Or.inr rfl))).tr (am_fr.pi (Or.inr rfl))).tr (am_fr.pi (Or.inr rfl)))
  have fq : am_fq (o + 1 + 3) (tx_P o m) h2 h7 := f5.tr (fP.fq.wd (fun b hb => by unfold tx_P; omega))
  have c7 : ∀ j, am_i h7 (m + 1) j = if j = 2 then nI (nt' + 1) else if j = 114 + 200 * nt' + 2 then nI sub.length else if j = 114 + 200 * nt' + 1 then nI (ot_n sub) else if j = 114 + 200 * nt' then nI key else am_i h3 (m + 1) j := fun j => by
    show am_i (am_pi _ (m + 1) 2 _) (m + 1) j = _
    by_cases z1 : j = 2
    · rw [if_pos z1, am_pi_i, if_pos ⟨rfl, z1⟩]
    rw [if_neg z1, am_pi_i, if_neg (fun z => z1 z.2)]
    by_cases z2 : j = 114 + 200 * nt' + 2
    · rw [if_pos z2, am_pi_i, if_pos ⟨rfl, z2⟩]
    rw [if_neg z2, am_pi_i, if_neg (fun z => z2 z.2)]
    by_cases z3 : j = 114 + 200 * nt' + 1
    · rw [if_pos z3, am_pi_i, if_pos ⟨rfl, z3⟩]
    rw [if_neg z3, am_pi_i, if_neg (fun z => z3 z.2)]
    by_cases z4 : j = 114 + 200 * nt'
    · rw [if_pos z4, am_pi_i, if_pos ⟨rfl, z4⟩]
    rw [if_neg z4, am_pi_i, if_neg (fun z => z4 z.2)]
    show am_i (am_pi h3 m 14 0) (m + 1) j = _
    rw [am_pi_i, if_neg (by omega)]
  have lowS : ∀ j, j < 114 + 200 * nt' → j ≠ 2 → am_i h2 (m + 1) j = am_i h7 (m + 1) j := fun j h1 h2 => by
    rw [c7 j, if_neg h2, if_neg (by omega), if_neg (by omega), if_neg (by omega), F3.2.2 j (by omega), s5]
  have hw : ∀ i x, sub[i]? = some x → mt_w (am_i h7 (m + 1)) nt' i = x.1 ∧ mt_v (am_i h7 (m + 1)) nt' i = x.2 := fun i x hx => by
    have := xs i x hx
    rw [hAe] at this
    unfold mt_w mt_v
    rw [c7, if_neg (by omega), if_neg (by omega), if_neg (by omega), if_neg (by omega), c7, if_neg (by omega), if_neg (by omega), if_neg (by omega), if_neg (by omega)]
    exact this
  have vk : am_i h7 (m + 1) (114 + 200 * nt') = nI key := by rw [c7, if_neg (by omega), if_neg (by omega), if_neg (by omega), if_pos rfl]
  have vw : am_i h7 (m + 1) (114 + 200 * nt' + 1) = nI (ot_n sub) := by rw [c7, if_neg (by omega), if_neg (by omega), if_pos rfl]
  have vl : am_i h7 (m + 1) (114 + 200 * nt' + 2) = nI sub.length := by rw [c7, if_neg (by omega), if_pos rfl]
  have htxt : mt_txt (am_i h7 (m + 1)) nt' key sub.length := ⟨⟨vk, hkey⟩, ⟨vl, hl⟩, ot_txt hg hw⟩
  have hs7 : mt_wf (am_i h7 (m + 1)) n' nd' (nt' + 1) := by
    obtain ⟨⟨⟨z1, z2⟩, ⟨z3, z4⟩, z5, z6⟩, hP, hD, hT⟩ := hs'
    refine ⟨⟨⟨by rw [← lowS 0 (by omega) (by omega)]; exact z1, z2⟩, ⟨by rw [← lowS 1 (by omega) (by omega)]; exact z3, z4⟩, P2'', by omega⟩, mt_wfP_congr z2 (fun j h1 h2 => lowS j (by omega) (by omega)) hP, mt_wfD_congr z4 (fun j h1 h2 => lowS j (by omega) (by omega)) hD, fun t ht => ?_⟩
    by_cases e : t = nt'
    · rw [e]; exact ⟨key, sub.length, htxt⟩
    · obtain ⟨k', L', hx⟩ := hT t (by omega)
      exact ⟨k', L', mt_txt_congr (fun j h1 h2 => lowS j (by omega) (by omega)) hx⟩
  -- the hall
  have H1 : ∀ j, j ≠ 7 → am_i h7 (o + 1) j = am_i h2 (o + 1) j := fun j hj => by
    rw [fP.i1 (by omega)]
    unfold tx_5
    rw [am_pi_i, if_neg (fun z => hj z.2), am_pi_i, if_neg (by omega)]
    show am_i (am_pi h2 (o + 80) 1 0) (o + 1) j = _
    rw [am_pi_i, if_neg (by omega)]
  have H17 : am_i h7 (o + 1) 7 = nI (nt' + 1) := by
    rw [fP.i1 (by omega)]
    unfold tx_5
    rw [am_pi_i, if_pos ⟨rfl, rfl⟩]
  have H4 : ∀ k, am_i h7 (o + 1 + 4) k = if k = key then nI nt' else am_i h2 (o + 1 + 4) k := fun k => by
    rw [fP.i1 (by omega)]
    unfold tx_5
    rw [am_pi_i, if_neg (by omega), am_pi_i]
    by_cases z : k = key
    · rw [if_pos ⟨rfl, z⟩, if_pos z]
    · rw [if_neg (fun q => z q.2), if_neg z]
      show am_i (am_pi h2 (o + 80) 1 0) (o + 1 + 4) k = _
      rw [am_pi_i, if_neg (by omega)]
  have R3 : ∀ t, am_r h7 (o + 1 + 3) t = if t = nt' then some (am_top h) else am_r h2 (o + 1 + 3) t := fun t => by
    rw [fP.2.2.2.1]
    show am_r (am_pr (am_pi h2 (o + 80) 1 0) (o + 1 + 3) nt' (some (am_top h))) (o + 1 + 3) t = _
    rw [am_pr_r]
    rfl
  have t7 : am_top h7 = am_top h + 2 := by rw [fq.1, q1]
  have hob7 : am_ob G h7 (am_top h) 7 := ⟨⟨by omega, by omega⟩, by rw [fq.2.2.1, sh1]⟩
  have tx7 : cl_Tx G h7 (o + 1) := fun t ht => by
    rw [R3 t]
    by_cases z : t = nt'
    · rw [if_pos z]; exact Or.inr ⟨_, rfl, hob7⟩
    · rw [if_neg z]
      rcases i2.1.2.2.2.2.1.1 t ht with e | ⟨b, e, ob⟩
      · exact Or.inl e
      · exact Or.inr ⟨b, e, ⟨ob.1.1, by rw [fq.1]; exact ob.1.2⟩, by rw [fq.2.2.1]; exact ob.2⟩
  have hSP : ∀ b, tx_P o m b → b < G 0 + 136 := fun b hb => by unfold tx_P at hb; omega
  have iL := i2.1.fq (Or.inl rfl) fq (fun b hb => by unfold tx_P at hb; omega) tx7
  have r7 : cl_R G h7 (o + 1) (am_i h7 (m + 1)) n' nd' (nt' + 1) := by
    have z2 := hs'.1.1.2
    have z4 := hs'.1.2.1.2
    refine ⟨iL.2.2.2.1.1, ⟨?_, ?_, ?_, ?_, ?_⟩, fun p hp => ?_, fun q hq j hj => ?_, fun t ht => ?_, fun k hk => ?_⟩
    · rw [H1 5 (by omega), ← lowS 0 (by omega) (by omega)]; exact r'.2.1.1
    · rw [H1 6 (by omega), ← lowS 1 (by omega) (by omega)]; exact r'.2.1.2.1
    · rw [H17, P2'']
    · rw [H1 8 (by omega), ← lowS 3 (by omega) (by omega)]; exact r'.2.1.2.2.2.1
    · rw [H1 9 (by omega), ← lowS 4 (by omega) (by omega)]; exact r'.2.1.2.2.2.2
    · rw [fq.2.2.2.2 (o + 1 + 6 + p) (fun z => by unfold tx_P at z; omega)]
      refine ⟨fun j hj => by rw [← lowS _ (by omega) (by omega)]; exact cr_p r' hp hj, ?_⟩
      rw [cr_f r' hp]
      exact mt_fol_congr hp (fun q hq => lowS _ (by omega) (by omega))
    · rw [fq.2.2.2.2 (o + 1 + 18 + q) (fun z => by unfold tx_P at z; omega), ← lowS _ (by omega) (by omega)]
      exact cr_d r' hq hj
    · rw [R3 t]
      by_cases z : t = nt'
      · rw [if_pos z, z]
        have nb : ∀ b, am_top h ≤ b → am_i h7 b = am_i h2 b ∧ am_r h7 b = am_r h2 b := fun b hb => ⟨fq.2.2.2.2 b (fun q => by unfold tx_P at q; omega), fq.2.2.2.1 b (by omega)⟩
        refine ⟨_, rfl, am_top h + 1, key, sub.length, ⟨by omega, by omega, hob7.2⟩, ⟨?_, ?_, ?_⟩, ⟨by omega, by omega, by rw [fq.2.2.1]; exact sh2⟩, htxt, fun k hk => ?_⟩
        · rw [(nb _ (Nat.le_refl _)).1, b0, vk]
        · rw [(nb _ (Nat.le_refl _)).1, b1, vw]
        · rw [(nb _ (Nat.le_refl _)).2]; exact b2
        · obtain ⟨x, hx⟩ : ∃ x, sub[k]? = some x := ⟨sub[k], List.getElem?_eq_getElem hk⟩
          have h5 := cs k x hx
          obtain ⟨h6, h8⟩ := hw k x hx
          rw [(nb (am_top h + 1) (by omega)).1, h6, h8]
          exact h5
      · rw [if_neg z]
        obtain ⟨b, e1, e2⟩ := r'.2.2.2.2.1 t (by omega)
        exact ⟨b, e1, (e2.fq fq hSP (by omega)).hi (fun j h1 h2 => lowS j (by omega) (by omega))⟩
    · rw [H4 k, mt_last, vk]
      by_cases z : k = key
      · rw [if_pos z, if_pos (by rw [z])]
        unfold mt_nn
        rw [if_neg]
        intro q
        have := nI_pos' (n := nt') (by omega)
        rw [q] at this
        exact absurd this (by decide)
      · rw [if_neg z, if_neg (fun q => z ((nI_eq (by omega) (by omega)).mp q).symm), r'.2.2.2.2.2 k hk, mt_last_congr nt' (fun t ht => lowS _ (by omega) (by omega))]
  have N : ∀ b, b ≠ o + 80 → b ≠ o + 5 → b ≠ o + 1 → b ≠ m → b ≠ m + 1 → ¬ tx_P o m b := fun b h1 h2 h3 h4 h5 z => by unfold tx_P at z; omega
  have mk : ∀ k, k < 14 ∨ 24 < k → am_i h7 m k = am_i h2 m k := fun k hk => by
    show am_i (am_pi _ (m + 1) 2 _) m k = _
    rw [am_pi_i, if_neg (by omega), am_pi_i, if_neg (by omega), am_pi_i, if_neg (by omega), am_pi_i, if_neg (by omega)]
    show am_i (am_pi h3 m 14 0) m k = _
    rw [am_pi_i, if_neg (by omega), F3.2.1 k (by omega), m5]
  have H3 := i2.2.2.2.2.1.fr fq.to (fun k h1 h2 => N (o + k) (by omega) (by omega) (by omega) (by omega) (by omega)) (N (m + 4) (by omega) (by omega) (by omega) (by omega) (by omega)) (N (m + 5) (by omega) (by omega) (by omega) (by omega) (by omega)) (N (m + 6) (by omega) (by omega) (by omega) (by omega) (by omega))
  have O3 := i2.2.2.2.2.2.1.fr fq.to (fun k h1 h2 => N (o + k) (by omega) (by omega) (by omega) (by omega) (by omega)) (fun k h1 h2 => N (m + k) (by omega) (by omega) (by omega) (by omega) (by omega))
  have eo : am_i h7 o = am_i h2 o := fq.2.2.2.2 o (N _ (by omega) (by omega) (by omega) (by omega) (by omega))
  refine ⟨_, _, _, e1, e2, ⟨iL, ⟨n', nd', nt' + 1, hs7, r7⟩, ?_, ⟨0, by omega, ?_, ?_, fun j hj => absurd hj (Nat.not_lt_zero j)⟩, H3, O3, ?_⟩, by omega, ?_⟩
  · unfold iv_I
    rw [eo, mk 3 (by omega), fq.2.2.2.2 (m + 2) (N _ (by omega) (by omega) (by omega) (by omega) (by omega))]
    exact ⟨i2.2.2.1.1, i2.2.2.1.2.imp id (fun ⟨e1, n, nd, nt, w, r⟩ => ⟨e1, n, nd, nt, w, r.fq w.1.1.2 w.1.2.1.2 fq (fun b hb => by unfold tx_P at hb; omega) (by omega) (by omega)⟩)⟩
  · rw [fP.i1 (by omega)]
    unfold tx_5
    rw [am_pi_i, if_neg (by omega), am_pi_i, if_neg (by omega)]
    show am_i (am_pi h2 (o + 80) 1 0) (o + 80) 1 = nI 0
    rw [am_pi_i, if_pos ⟨rfl, rfl⟩]
    rfl
  · show am_i (am_pi _ (m + 1) 2 _) m 14 = _
    rw [am_pi_i, if_neg (by omega), am_pi_i, if_neg (by omega), am_pi_i, if_neg (by omega), am_pi_i, if_neg (by omega)]
    show am_i (am_pi h3 m 14 0) m 14 = nI 0
    rw [am_pi_i, if_pos ⟨rfl, rfl⟩]
    rfl
  · refine i2.2.2.2.2.2.2.cg (by rw [eo]) (mk 29 (by omega)) (fq.2.2.2.2 _ (N _ (by omega) (by omega) (by omega) (by omega) (by omega))) (fq.2.2.2.2 _ (N _ (by omega) (by omega) (by omega) (by omega) (by omega)))
  · rw [fq.2.1, q2]; omega
end TO
