/-! sheets, slots, what waits: on both sides -/
section SE
variable {G : Nat → Nat} {h h3 : am_H} {o m d : Nat} {S : Nat → Prop}
theorem iv_T.cg (i : iv_T h o m) (e1 : am_i h3 (o + 80) 1 = am_i h (o + 80) 1) (e2 : am_i h3 m 14 = am_i h m 14) (e3 : am_i h3 (o + 81) = am_i h (o + 81)) (e4 : am_i h3 (m + 13) = am_i h (m + 13)) : iv_T h3 o m := by
  unfold iv_T
  rw [e1, e2, e3, e4]
  exact i
theorem iv_W.cg (i : iv_W h o m) (e1 : am_i h3 o 8 = am_i h o 8) (e2 : am_i h3 m 29 = am_i h m 29) (e3 : am_i h3 (o + 88) = am_i h (o + 88)) (e4 : am_i h3 (m + 17) = am_i h (m + 17)) : iv_W h3 o m := by
  unfold iv_W
  rw [e1, e2, e3, e4]
  exact i
theorem iv.gen (i : iv G h o m) (f : am_fr S h h3) (hS : ∀ b, S b → b = o ∨ b = m ∨ (o + 79 ≤ b ∧ b ≠ m + 1 ∧ b ≠ m + 2 ∧ b < o + 136)) (ho9 : am_i h3 o 9 = am_i h o 9) (hm3 : am_i h3 m 3 = am_i h m 3) (T : iv_T h3 o m) (H : iv_H h3 o m) (O : iv_O h3 o m) (W : iv_W h3 o m) : iv G h3 o m := by
  obtain ⟨l, s, i1, _⟩ := i
  have hm : m = o + 117 := l.1.2
  have ho : o = G 0 := l.1.1
  have x1 : am_i h3 (m + 1) = am_i h (m + 1) := f.i1 (fun z => by have := hS _ z; omega)
  have x2 : am_i h3 (m + 2) = am_i h (m + 2) := f.i1 (fun z => by have := hS _ z; omega)
  refine ⟨l.fr f (fun b hb => by have := hS b hb; omega), ?_, ?_, T, H, O, W⟩
  · obtain ⟨n, nd, nt, hs, r⟩ := s
    refine ⟨n, nd, nt, by rw [x1]; exact hs, ?_⟩
    rw [x1]
    exact r.fr hs.1.1.2 hs.1.2.1.2 f (fun b hb => by have := hS b hb; omega)
  · unfold iv_I
    rw [ho9, hm3, x2]
    refine ⟨i1.1, i1.2.imp id (fun ⟨e, n, nd, nt, w, r⟩ => ⟨e, n, nd, nt, w, r.fr w.1.1.2 w.1.2.1.2 f (fun b hb => by have := hS b hb; omega)⟩)⟩
theorem s_tell (i : iv G h o m) {v : Int32} : sm G h o m d 111 219 [.int v] := by
  have lm := i.1.2.1
  have lo := i.1.2.2.1
  have hm : m = o + 117 := i.1.1.2
  obtain ⟨w, hw, w1, w2, w3⟩ := i.2.2.2.2.2.2
  by_cases h60 : w = 60
  · subst h60
    refine sm_same i ?_ (m_tell0 lm w2)
    simp only [n_111, e_111_0, e_111_1, e_111_4, e_111_6, e_111_9, e_111_11, e_111_12, e_111_13, e_111_16, e_111_17, e_111_20, e_111_21, e_111_22, e_111_23, e_111_24, e_111_27, e_111_28, e_111_29, e_111_32, e_111_33, e_111_36, Option.bind_some, Option.toList_some, Option.toList_none, List.cons_append, List.nil_append, am_k1_i, am_k1_r, am_k1_u, am_k1_n, am_bo0, am_bo1, am_boi, am_ev_tb, am_tb_nil, am_rfs, am_rfn, eq_self, and_self, if_true, if_false, show ¬ (1 : Int32) = 0 from by decide, show ¬ (0 : Int32) = 1 from by decide, not_true, not_false_eq_true, and_true, true_and, and_false, false_and, or_true, true_or, or_false, false_or, co_ob lo, w1, show ¬ nI 60 < 60 from by decide]
  · have hlt : nI w < 60 := nI_lt (b := 60) (by omega) (by decide)
    have f1 : am_fr (fun b => b = o + 88 ∨ b = o ∨ b = m + 17 ∨ b = m) h (am_pi (am_pi h (o + 88) w v) o 8 (nI (w + 1))) := (am_fr.pi (S := fun b => b = o + 88 ∨ b = o ∨ b = m + 17 ∨ b = m) (Or.inl rfl)).tr (am_fr.pi (Or.inr (Or.inl rfl)))
    have e1 : am_evm G (d + 200) 111 [.ref o, .int v] h = some (some (.int (nI (w + 1))), am_pi (am_pi h (o + 88) w v) o 8 (nI (w + 1))) := by
      simp only [n_111, e_111_0, e_111_1, e_111_4, e_111_6, e_111_9, e_111_11, e_111_12, e_111_13, e_111_16, e_111_17, e_111_20, e_111_21, e_111_22, e_111_23, e_111_24, e_111_27, e_111_28, e_111_29, e_111_32, e_111_33, e_111_36, Option.bind_some, Option.toList_some, Option.toList_none, List.cons_append, List.nil_append, am_k1_i, am_k1_r, am_k1_u, am_k1_n, am_bo0, am_bo1, am_boi, am_ev_tb, am_tb_nil, am_rfs, am_rfn, eq_self, and_self, if_true, if_false, show ¬ (1 : Int32) = 0 from by decide, show ¬ (0 : Int32) = 1 from by decide, not_true, not_false_eq_true, and_true, true_and, and_false, false_and, or_true, true_or, or_false, false_or, co_ob lo, w1, hlt, co_r7 lo, co_w2 lo (show w < 60 by omega), am_cl (show w < 2147483648 by omega), am_ob_pi, am_pi_i, show ¬ o = o + 88 from by omega, nI_1]
    have hm29 : am_i (am_pi (am_pi h (o + 88) w v) o 8 (nI (w + 1))) m 29 = nI w := by rw [(am_pi_o m (by omega)).1, (am_pi_o m (by omega)).1, w2]
    have e2 := m_tell (d := d + 200) (lm.fr f1) hm29 (show w < 60 by omega) (v := v)
    have f2 : am_fr (fun b => b = o + 88 ∨ b = o ∨ b = m + 17 ∨ b = m) h (am_pi (am_pi (am_pi (am_pi h (o + 88) w v) o 8 (nI (w + 1))) (m + 17) w v) m 29 (nI (w + 1))) := f1.tr ((am_fr.pi (S := fun b => b = o + 88 ∨ b = o ∨ b = m + 17 ∨ b = m) (Or.inr (Or.inr (Or.inl rfl)))).tr (am_fr.pi (Or.inr (Or.inr (Or.inr rfl)))))
    refine ⟨_, _, _, e1, e2, ?_, by rw [f2.1]; omega, by rw [f2.2.1]; omega⟩
    refine i.gen f2 (fun b hb => by omega) ?_ ?_ (i.2.2.2.1.cg ?_ ?_ (f2.i1 (by omega)) (f2.i1 (by omega))) (i.2.2.2.2.1.fr f2 (fun k h1 h2 => by omega) (by omega) (by omega) (by omega)) (i.2.2.2.2.2.1.fr f2 (fun k h1 h2 => by omega) (fun k h1 h2 => by omega)) ⟨w + 1, by omega, ?_, ?_, fun k hk => ?_⟩
    · simp only [am_pi_i, show ¬ o = m from by omega, show ¬ o = m + 17 from by omega, show ¬ o = o + 88 from by omega, false_and, if_false, true_and, show ¬ (9 : Nat) = 8 from by decide]
    · simp only [am_pi_i, show ¬ m = o from by omega, show ¬ m = m + 17 from by omega, show ¬ m = o + 88 from by omega, false_and, if_false, true_and, show ¬ (3 : Nat) = 29 from by decide]
    · rw [f2.i1 (by omega)]
    · simp only [am_pi_i, show ¬ m = o from by omega, show ¬ m = m + 17 from by omega, show ¬ m = o + 88 from by omega, false_and, if_false, true_and, show ¬ (14 : Nat) = 29 from by decide]
    · simp only [am_pi_i, show ¬ o = m from by omega, show ¬ o = m + 17 from by omega, show ¬ o = o + 88 from by omega, false_and, if_false, true_and, if_true]
    · simp only [am_pi_i, true_and, if_true]
    · simp only [am_pi_i, show ¬ o + 88 = m from by omega, show ¬ o + 88 = m + 17 from by omega, show ¬ o + 88 = o from by omega, show ¬ m + 17 = m from by omega, show ¬ m + 17 = o from by omega, show ¬ m + 17 = o + 88 from by omega, false_and, if_false, true_and]
      by_cases e : k = w
      · rw [if_pos e, if_pos e]
      · rw [if_neg e, if_neg e]
        exact w3 k (by omega)
theorem s_trim (i : iv G h o m) {v : Int32} : sm G h o m d 98 186 [.int v] := by
  have lm := i.1.2.1
  have lo := i.1.2.2.1
  have hm : m = o + 117 := i.1.1.2
  obtain ⟨t, ht, t1, t2, t3⟩ := i.2.2.2.1
  by_cases h1 : 0 ≤ v ∧ v ≤ nI t
  · obtain ⟨k, hk, rfl⟩ := (mt_ix (p := v) (c := t + 1) (by omega)).mp ⟨h1.1, by rw [nI_pred]; exact h1.2⟩
    have f1 : am_fr (fun b => b = o + 80 ∨ b = m) h (am_pi h (o + 80) 1 (nI k)) := am_fr.pi (Or.inl rfl)
    have e1 : am_evm G (d + 200) 98 [.ref o, .int (nI k)] h = some (some (.int (nI k)), am_pi h (o + 80) 1 (nI k)) := by
      simp only [n_98, e_98_0, e_98_1, e_98_2, e_98_3, e_98_6, e_98_9, e_98_12, e_98_15, e_98_17, e_98_18, e_98_19, e_98_22, e_98_23, e_98_26, e_98_27, Option.bind_some, Option.toList_some, Option.toList_none, List.cons_append, List.nil_append, am_k1_i, am_k1_r, am_k1_u, am_k1_n, am_bo0, am_bo1, am_boi, am_ev_tb, am_tb_nil, am_rfs, am_rfn, eq_self, and_self, if_true, if_false, show ¬ (1 : Int32) = 0 from by decide, show ¬ (0 : Int32) = 1 from by decide, not_true, not_false_eq_true, and_true, true_and, and_false, false_and, or_true, true_or, or_false, false_or, co_ob lo, co_r4 lo, co_tp lo, t1, c_within, h1]
    have hm14 : am_i (am_pi h (o + 80) 1 (nI k)) m 14 = nI t := by rw [(am_pi_o m (by omega)).1, t2]
    have e2 := m_trim (d := d + 199) (lm.fr f1) (v := nI k) (by rw [hm14]; exact h1)
    have f2 : am_fr (fun b => b = o + 80 ∨ b = m) h (am_pi (am_pi h (o + 80) 1 (nI k)) m 14 (nI k)) := f1.tr (am_fr.pi (Or.inr rfl))
    refine ⟨_, _, _, e1, e2, ?_, by rw [f2.1]; omega, by rw [f2.2.1]; omega⟩
    refine i.gen f2 (fun b hb => by omega) (by rw [f2.i1 (by omega)]) ?_ ⟨k, by omega, ?_, ?_, fun j hj => ?_⟩ (i.2.2.2.2.1.fr f2 (fun k h1 h2 => by omega) (by omega) (by omega) (by omega)) (i.2.2.2.2.2.1.fr f2 (fun k h1 h2 => by omega) (fun k h1 h2 => by omega)) (i.2.2.2.2.2.2.cg (by rw [f2.i1 (by omega)]) ?_ (f2.i1 (by omega)) (f2.i1 (by omega)))
    · simp only [am_pi_i, show ¬ m = o + 80 from by omega, false_and, if_false, true_and, show ¬ (3 : Nat) = 14 from by decide]
    · simp only [am_pi_i, show ¬ o + 80 = m from by omega, false_and, if_false, true_and, if_true]
    · simp only [am_pi_i, true_and, if_true]
    · rw [f2.i1 (by omega), f2.i1 (by omega)]
      exact t3 j (by omega)
    · simp only [am_pi_i, show ¬ m = o + 80 from by omega, false_and, if_false, true_and, show ¬ (29 : Nat) = 14 from by decide]
  · refine sm_same i ?_ (m_trim0 lm (by rw [t2]; exact h1))
    simp only [n_98, e_98_0, e_98_1, e_98_2, e_98_3, e_98_6, e_98_9, e_98_12, e_98_15, e_98_17, e_98_18, e_98_19, e_98_22, e_98_23, e_98_26, e_98_27, Option.bind_some, Option.toList_some, Option.toList_none, List.cons_append, List.nil_append, am_k1_i, am_k1_r, am_k1_u, am_k1_n, am_bo0, am_bo1, am_boi, am_ev_tb, am_tb_nil, am_rfs, am_rfn, eq_self, and_self, if_true, if_false, show ¬ (1 : Int32) = 0 from by decide, show ¬ (0 : Int32) = 1 from by decide, not_true, not_false_eq_true, and_true, true_and, and_false, false_and, or_true, true_or, or_false, false_or, co_ob lo, co_r4 lo, co_tp lo, t1, c_within, h1]
/-! the tape grows -/
theorem mt_b8 (x : Int32) {i : Nat} (hi : i < 8) : bt (x.toInt8.toInt32) i = bt x i := by
  unfold bt
  rw [Int8.toBitVec_toInt32, Int32.toBitVec_toInt8, BitVec.getLsbD_signExtend, BitVec.getLsbD_signExtend]
  simp only [show i < 32 from by omega, show i < 8 from hi, decide_true, Bool.true_and, if_true]
theorem mt_b16 (x : Int32) {i : Nat} (hi : i < 32) : bt (x.toInt16.toInt32) i = if i < 16 then bt x i else bt x 15 := by
  unfold bt
  rw [Int16.toBitVec_toInt32, Int32.toBitVec_toInt16, BitVec.getLsbD_signExtend]
  by_cases h16 : i < 16
  · rw [BitVec.getLsbD_signExtend]
    simp only [hi, h16, decide_true, Bool.true_and, if_true]
  · simp only [hi, h16, decide_true, Bool.true_and, if_false]
    rw [BitVec.msb_eq_getLsbD_last, BitVec.getLsbD_signExtend]
    rfl
theorem mt_sh16 (x : Int32) : x.toInt16.toInt32 = mt_sh x := by
  apply b_ext
  intro i hi
  unfold mt_sh
  rw [mt_b16 x hi, show ((16 : Int32)) = nI 16 from rfl, b_sshr 16 (by omega) _ hi]
  by_cases h16 : i < 16
  · rw [if_pos h16, if_pos (by omega), b_shl 16 (by omega) _ (by omega)]
    simp
  · rw [if_neg h16, if_neg (by omega), b_shl 16 (by omega) _ (by omega)]
    simp
theorem mt_i8 (x : Int32) : (x.toInt8.toInt32.toInt8.toInt32) &&& 255 = x &&& 255 := by
  apply b_ext
  intro i hi
  rw [b_and, b_and, b_255]
  by_cases h8 : i < 8
  · rw [mt_b8 _ h8, mt_b8 _ h8]
  · rw [decide_eq_false h8, Bool.and_false, Bool.and_false]
/-- four bytes of one number -/
def mt_b4 (v : Int32) (k : Nat) : Int32 := (v >>> (nI (24 - 8 * k) &&& 31))
theorem c_add_l {t : Nat} {v : Int32} {g : Nat → Int32} (lo : cl_Obj G h o) (ht : t + 4 ≤ 96) : ∀ j k, k + j = 4 → am_ev G d 68 3 [some (.ref (o + 80)), some (.int v), some (.int (nI (8 * j) - 8))] [] (am_pa (am_pi h (o + 80) 1 (nI (t + k))) (o + 81) (fun x => if t ≤ x ∧ x < t + k then (mt_b4 v (x - t)).toInt8.toInt32.toInt8.toInt32 else g x)) = some (none, am_pa (am_pi h (o + 80) 1 (nI (t + 4))) (o + 81) (fun x => if t ≤ x ∧ x < t + 4 then (mt_b4 v (x - t)).toInt8.toInt32.toInt8.toInt32 else g x)) := by
  intro j
  induction j with
  | zero =>
    intro k hk
    obtain rfl : k = 4 := by omega
    rw [e_68_3]
    simp only [n_68, e_68_0, f_68_2, e_68_4, e_68_7, e_68_8, e_68_11, e_68_13, e_68_16, e_68_17, e_68_20, e_68_21, e_68_24, e_68_25, e_68_26, e_68_27, e_68_28, e_68_29, e_68_30, e_68_31, e_68_34, e_68_35, e_68_36, f_68_39, e_68_42, e_68_45, Option.bind_some, Option.toList_some, Option.toList_none, List.cons_append, List.nil_append, am_k1_i, am_k1_r, am_k1_u, am_k1_n, am_bo0, am_bo1, am_boi, am_ev_tb, am_tb_nil, am_rfs, am_rfn, eq_self, and_self, if_true, if_false, show ¬ (1 : Int32) = 0 from by decide, show ¬ (0 : Int32) = 1 from by decide, not_true, not_false_eq_true, and_true, true_and, and_false, false_and, or_true, true_or, or_false, false_or, show nI (8 * 0) - 8 < 0 from by decide]
  | succ j ih =>
    intro k hk
    have l2 : cl_Obj G (am_pa (am_pi h (o + 80) 1 (nI (t + k))) (o + 81) (fun x => if t ≤ x ∧ x < t + k then (mt_b4 v (x - t)).toInt8.toInt32.toInt8.toInt32 else g x)) o := lo
    have e8 : nI (8 * (j + 1)) - 8 = nI (8 * j) := by
      rw [show (8 : Int32) = nI 8 from rfl, pk_sub (by omega), show 8 * (j + 1) - 8 = 8 * j by omega]
    have em : nI (8 * j) + (-8) = nI (8 * j) - 8 := (Int32.sub_eq_add_neg _ _).symm
    have hlt : ¬ nI (8 * j) < 0 := nI_pos (by omega)
    have h96 : ¬ (96 : Int32) ≤ nI (t + k) := nI_ge (b := 96) (by omega) (by decide)
    rw [e8, e_68_3]
    simp only [n_68, e_68_0, f_68_2, e_68_4, e_68_7, e_68_8, e_68_11, e_68_13, e_68_16, e_68_17, e_68_20, e_68_21, e_68_24, e_68_25, e_68_26, e_68_27, e_68_28, e_68_29, e_68_30, e_68_31, e_68_34, e_68_35, e_68_36, f_68_39, e_68_42, e_68_45, Option.bind_some, Option.toList_some, Option.toList_none, List.cons_append, List.nil_append, am_k1_i, am_k1_r, am_k1_u, am_k1_n, am_bo0, am_bo1, am_boi, am_ev_tb, am_tb_nil, am_rfs, am_rfn, eq_self, and_self, if_true, if_false, show ¬ (1 : Int32) = 0 from by decide, show ¬ (0 : Int32) = 1 from by decide, not_true, not_false_eq_true, and_true, true_and, and_false, false_and, or_true, true_or, or_false, false_or, hlt, co_tp l2, am_pa_i, show ¬ o + 80 = o + 81 from by omega, am_pi_i, h96, co_tb l2, co_bw l2 (show t + k < 96 by omega), am_cl (show t + k < 2147483648 by omega), am_ob_pi, am_pi_r, nI_1, em]
    have st := ih (k + 1) (by omega)
    rw [← st]
    congr 1
    rw [am_pi_pa (a := o + 81), am_pa_i, if_pos rfl, am_pa_pa]
    have e1 : upd (fun x => if t ≤ x ∧ x < t + k then (mt_b4 v (x - t)).toInt8.toInt32.toInt8.toInt32 else g x) (t + k) (v >>> (nI (8 * j) &&& 31)).toInt8.toInt32.toInt8.toInt32 = (fun x => if t ≤ x ∧ x < t + (k + 1) then (mt_b4 v (x - t)).toInt8.toInt32.toInt8.toInt32 else g x) := by
      funext x
      by_cases hx : x = t + k
      · subst hx
        rw [pk_us, if_pos (by omega), show t + k - t = k by omega]
        unfold mt_b4
        rw [show 24 - 8 * k = 8 * j by omega]
      · rw [pk_un hx]
        by_cases hx2 : t ≤ x ∧ x < t + k
        · rw [if_pos hx2, if_pos (by omega)]
        · rw [if_neg hx2, if_neg (by omega)]
    rw [e1]
    unfold am_pi am_pa
    congr 4
    funext y z
    unfold am_u2 am_ua
    by_cases hy : y = o + 80
    · subst hy
      by_cases hz : z = 1
      · subst hz; simp; rfl
      · simp [hz]
    · simp [hy]
theorem c_add {t : Nat} {v : Int32} (lo : cl_Obj G h o) (ht : t + 4 ≤ 96) (hl : am_i h (o + 80) 1 = nI t) : ∃ h2, am_evm G d 68 [.ref (o + 80), .int v] h = some (none, h2) ∧ am_fr (fun b => b = o + 80 ∨ b = o + 81) h h2 ∧ am_i h2 (o + 80) 1 = nI (t + 4) ∧ ∀ x, am_i h2 (o + 81) x = if t ≤ x ∧ x < t + 4 then (mt_b4 v (x - t)).toInt8.toInt32.toInt8.toInt32 else am_i h (o + 81) x := by
  have lp := c_add_l (d := d) (v := v) (g := am_i h (o + 81)) lo ht 4 0 (by omega)
  rw [show am_pi h (o + 80) 1 (nI (t + 0)) = h from by show am_pi h (o + 80) 1 (nI t) = h; rw [← hl]; exact am_pi_self, show (fun x => if t ≤ x ∧ x < t + 0 then (mt_b4 v (x - t)).toInt8.toInt32.toInt8.toInt32 else am_i h (o + 81) x) = am_i h (o + 81) from by funext x; rw [if_neg (by omega)], am_pa_self] at lp
  refine ⟨am_pa (am_pi h (o + 80) 1 (nI (t + 4))) (o + 81) (fun x => if t ≤ x ∧ x < t + 4 then (mt_b4 v (x - t)).toInt8.toInt32.toInt8.toInt32 else am_i h (o + 81) x), ?_, (am_fr.pi (S := fun b => b = o + 80 ∨ b = o + 81) (Or.inl rfl)).tr (am_fr.pa (Or.inr rfl)), ?_, fun x => ?_⟩
  · rw [← lp]
    simp only [n_68, e_68_0, f_68_2, e_68_4, e_68_7, e_68_8, e_68_11, e_68_13, e_68_16, e_68_17, e_68_20, e_68_21, e_68_24, e_68_25, e_68_26, e_68_27, e_68_28, e_68_29, e_68_30, e_68_31, e_68_34, e_68_35, e_68_36, f_68_39, e_68_42, e_68_45, Option.bind_some, Option.toList_some, Option.toList_none, List.cons_append, List.nil_append, am_k1_i, am_k1_r, am_k1_u, am_k1_n, am_bo0, am_bo1, am_boi, am_ev_tb, am_tb_nil, am_rfs, am_rfn, eq_self, and_self, if_true, if_false, show ¬ (1 : Int32) = 0 from by decide, show ¬ (0 : Int32) = 1 from by decide, not_true, not_false_eq_true, and_true, true_and, and_false, false_and, or_true, true_or, or_false, false_or]
    rfl
  · rw [am_pa_i, if_neg (by omega), am_pi_i, if_pos ⟨rfl, rfl⟩]
  · rw [am_pa_i, if_pos rfl]
theorem s_feed (i : iv G h o m) {a b c : Int32} : sm G h o m d 97 185 [.int a, .int b, .int c] := by
  have lm := i.1.2.1
  have lo := i.1.2.2.1
  have hm : m = o + 117 := i.1.1.2
  obtain ⟨t, ht, t1, t2, t3⟩ := i.2.2.2.1
  have e12 : nI t + 12 = nI (t + 12) := nI_add t 12
  by_cases hf : t + 12 ≤ 96
  · have hle : nI (t + 12) ≤ 96 := nI_le (b := 96) hf (by decide)
    obtain ⟨h1, e1, f1, l1, b1⟩ := c_add (d := d + 199) (v := a) lo (show t + 4 ≤ 96 by omega) t1
    have lo1 := lo.fr f1
    obtain ⟨h2, e2, f2, l2, b2⟩ := c_add (d := d + 199) (v := b) lo1 (show t + 4 + 4 ≤ 96 by omega) l1
    have lo2 := lo1.fr f2
    obtain ⟨h4, e4, f4, l4, b4⟩ := c_add (d := d + 199) (v := c) lo2 (show t + 4 + 4 + 4 ≤ 96 by omega) l2
    have lo4 := lo2.fr f4
    have f : am_fr (fun x => x = o + 80 ∨ x = o + 81) h h4 := (f1.tr f2).tr f4
    have l4' : am_i h4 (o + 80) 1 = nI (t + 12) := by rw [l4, show t + 4 + 4 + 4 = t + 12 by omega]
    have hm14 : am_i h4 m 14 = nI t := by rw [f.i1 (by omega)]; exact t2
    have e5 := m_feed (d := d + 200) (lm.fr f) (a := a) (b := b) (c := c) hm14 hf
    have e0 : am_evm G (d + 200) 97 [.ref o, .int a, .int b, .int c] h = some (some (.int (nI (t + 12))), h4) := by
      simp only [n_97, e_97_0, e_97_1, e_97_4, e_97_7, e_97_9, e_97_10, e_97_12, e_97_15, e_97_17, e_97_18, e_97_19, e_97_22, e_97_23, e_97_26, e_97_27, e_97_30, e_97_31, e_97_34, e_97_35, e_97_38, e_97_39, e_97_42, e_97_43, e_97_46, e_97_49, Option.bind_some, Option.toList_some, Option.toList_none, List.cons_append, List.nil_append, am_k1_i, am_k1_r, am_k1_u, am_k1_n, am_bo0, am_bo1, am_boi, am_ev_tb, am_tb_nil, am_rfs, am_rfn, eq_self, and_self, if_true, if_false, show ¬ (1 : Int32) = 0 from by decide, show ¬ (0 : Int32) = 1 from by decide, not_true, not_false_eq_true, and_true, true_and, and_false, false_and, or_true, true_or, or_false, false_or, co_ob lo, co_r4 lo, co_tp lo, t1, e12, hle, e1, co_ob lo1, co_r4 lo1, co_tp lo1, e2, co_ob lo2, co_r4 lo2, co_tp lo2, e4, co_ob lo4, co_r4 lo4, co_tp lo4, l4']
    have f5 : am_fr (fun x => x = o + 80 ∨ x = o + 81 ∨ x = m ∨ x = m + 13) h (am_pa (am_pi h4 m 14 (nI (t + 12))) (m + 13) (mt_fed (am_i h4 (m + 13)) t a b c 12)) := (f.wd (fun x hx => by omega)).tr ((am_fr.pi (S := fun x => x = o + 80 ∨ x = o + 81 ∨ x = m ∨ x = m + 13) (Or.inr (Or.inr (Or.inl rfl)))).tr (am_fr.pa (Or.inr (Or.inr (Or.inr rfl)))))
    refine ⟨_, _, _, e0, e5, ?_, by rw [f5.1]; omega, by rw [f5.2.1]; omega⟩
    refine i.gen f5 (fun x hx => by omega) (by rw [f5.i1 (by omega)]) (by rw [am_pa_i, if_neg (by omega), am_pi_i, if_neg (fun z => absurd z.2 (by decide)), f.i1 (by omega)]) ⟨t + 12, hf, by rw [am_pa_i, if_neg (by omega), am_pi_i, if_neg (fun z => by omega)]; exact l4', by rw [am_pa_i, if_neg (by omega), am_pi_i, if_pos ⟨rfl, rfl⟩], fun j hj => ?_⟩ (i.2.2.2.2.1.fr f5 (fun k h1 h2 => by omega) (by omega) (by omega) (by omega)) (i.2.2.2.2.2.1.fr f5 (fun k h1 h2 => by omega) (fun k h1 h2 => by omega)) (i.2.2.2.2.2.2.cg (by rw [f5.i1 (by omega)]) (by rw [am_pa_i, if_neg (by omega), am_pi_i, if_neg (fun z => absurd z.2 (by decide)), f.i1 (by omega)]) (f5.i1 (by omega)) (f5.i1 (by omega)))
    rw [am_pa_i, if_neg (by omega), am_pa_i, if_pos rfl, (am_pi_o (o + 81) (by omega)).1, b4 j, f.i1 (b := m + 13) (by omega)]
    show _ = (if t ≤ j ∧ j < t + 12 then mt_by a b c (j - t) else am_i h (m + 13) j)
    by_cases j1 : j < t
    · rw [if_neg (by omega), if_neg (by omega), b2 j, if_neg (by omega), b1 j, if_neg (by omega)]
      exact t3 j j1
    · rw [if_pos (show t ≤ j ∧ j < t + 12 by omega)]
      unfold mt_by
      by_cases j2 : j < t + 4
      · rw [if_neg (by omega), b2 j, if_neg (by omega), b1 j, if_pos (by omega), mt_i8, if_pos (show j - t < 4 by omega), show (j - t) % 4 = j - t by omega]
        rfl
      · by_cases j3 : j < t + 8
        · rw [if_neg (by omega), b2 j, if_pos (by omega), mt_i8, if_neg (show ¬ j - t < 4 by omega), if_pos (show j - t < 8 by omega), show (j - t) % 4 = j - (t + 4) by omega]
          rfl
        · rw [if_pos (by omega), mt_i8, if_neg (show ¬ j - t < 4 by omega), if_neg (show ¬ j - t < 8 by omega), show (j - t) % 4 = j - (t + 4 + 4) by omega]
          rfl
  · refine sm_same i ?_ (m_feed0 lm t2 ht (by omega))
    have hle : ¬ nI (t + 12) ≤ 96 := nI_ge (b := t + 12) (a := 96) (by omega) (by omega)
    simp only [n_97, e_97_0, e_97_1, e_97_4, e_97_7, e_97_9, e_97_10, e_97_12, e_97_15, e_97_17, e_97_18, e_97_19, e_97_22, e_97_23, e_97_26, e_97_27, e_97_30, e_97_31, e_97_34, e_97_35, e_97_38, e_97_39, e_97_42, e_97_43, e_97_46, e_97_49, Option.bind_some, Option.toList_some, Option.toList_none, List.cons_append, List.nil_append, am_k1_i, am_k1_r, am_k1_u, am_k1_n, am_bo0, am_bo1, am_boi, am_ev_tb, am_tb_nil, am_rfs, am_rfn, eq_self, and_self, if_true, if_false, show ¬ (1 : Int32) = 0 from by decide, show ¬ (0 : Int32) = 1 from by decide, not_true, not_false_eq_true, and_true, true_and, and_false, false_and, or_true, true_or, or_false, false_or, co_ob lo, co_r4 lo, co_tp lo, t1, e12, hle]
end SE
