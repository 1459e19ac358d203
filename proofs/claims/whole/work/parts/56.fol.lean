/-! the class: who follows is worked out -/
def mt_wi (m : Nat) (F : Nat → Int32) : Nat → Nat → Int32
  | 0 => F
  | q + 1 => upd (mt_wi m F q) q (if bt (mt_wi m F q q) m = true then mt_wi m F q q ||| mt_wi m F q m else mt_wi m F q q)
def mt_wo (T : Nat → Int32) (n : Nat) : Nat → Nat → Int32
  | 0 => T
  | m + 1 => mt_wi m (mt_wo T n m) n
theorem mt_wi_bt {m n : Nat} {F : Nat → Int32} (hm : m < n) (hn : n ≤ 12) : ∀ q, q ≤ n → ∀ p, p < n → ∀ k, k < 32 → (bt (mt_wi m F q p) k = true ↔ (bt (F p) k = true ∨ (p < q ∧ bt (F p) m = true ∧ bt (F m) k = true))) := by
  intro q
  induction q with
  | zero => intro _ p hp k hk; rw [mt_wi]; simp
  | succ q ih =>
    intro hq p hp k hk
    rw [mt_wi]
    by_cases e : p = q
    · subst e
      rw [pk_us]
      have h1 := ih (by omega) p hp
      have h2 := ih (by omega) m hm k hk
      have h3 : (bt (mt_wi m F p p) m = true) ↔ bt (F p) m = true := by rw [h1 m (by omega)]; simp
      by_cases hb : bt (F p) m = true
      · rw [if_pos (h3.mpr hb), b_or, Bool.or_eq_true, h1 k hk, h2]
        constructor
        · rintro ((h | ⟨h, _⟩) | (h | ⟨_, _, h⟩))
          · exact Or.inl h
          · omega
          · exact Or.inr ⟨by omega, hb, h⟩
          · exact Or.inr ⟨by omega, hb, h⟩
        · rintro (h | ⟨_, _, h⟩)
          · exact Or.inl (Or.inl h)
          · exact Or.inr (Or.inl h)
      · rw [if_neg (fun z => hb (h3.mp z)), h1 k hk]
        constructor
        · rintro (h | ⟨h, _⟩)
          · exact Or.inl h
          · omega
        · rintro (h | ⟨_, h, _⟩)
          · exact Or.inl h
          · exact absurd h hb
    · rw [pk_un e, ih (by omega) p hp k hk]
      have : p < q ↔ p < q + 1 := by omega
      rw [this]
theorem mt_wo_bt {T : Nat → Int32} {n : Nat} (hn : n ≤ 12) : ∀ m, m ≤ n → ∀ p, p < n → ∀ k, k < 32 → (bt (mt_wo T n m p) k = true ↔ mt_W T m p k) := by
  intro m
  induction m with
  | zero => intro _ p hp k hk; exact Iff.rfl
  | succ m ih =>
    intro hm p hp k hk
    rw [mt_wo, mt_wi_bt (by omega) hn n (Nat.le_refl _) p hp k hk, ih (by omega) p hp k hk, ih (by omega) p hp m (by omega), ih (by omega) m (by omega) k hk]
    show _ ↔ (mt_W T m p k ∨ (mt_W T m p m ∧ mt_W T m m k))
    constructor
    · rintro (h | ⟨_, h1, h2⟩)
      · exact Or.inl h
      · exact Or.inr ⟨h1, h2⟩
    · rintro (h | ⟨h1, h2⟩)
      · exact Or.inl h
      · exact Or.inr ⟨hp, h1, h2⟩
theorem mt_wo_fol {T : Nat → Int32} {n p : Nat} (hn : n ≤ 12) (hp : p < n) : mt_wo T n n p = mt_fol T n p := by
  apply mt_set_eq
  intro i hi
  rw [mt_wo_bt hn n (Nat.le_refl _) p hp i hi, mt_reach_W]
def cl_Pc (a : Nat) : Nat → Prop := fun b => a + 6 ≤ b ∧ b < a + 18
section CW
variable {G : Nat → Nat} {d : Nat} {h : am_H} {a : Nat} {n : Nat}
def cl_FI (h h' : am_H) (a n : Nat) (F : Nat → Int32) : Prop := am_fr (cl_Pc a) h h' ∧ (∀ p, p < n → ∀ j, j ≠ 5 → am_i h' (a + 6 + p) j = am_i h (a + 6 + p) j) ∧ ∀ p, p < n → am_i h' (a + 6 + p) 5 = F p
theorem cl_FI.pi {h' : am_H} {F : Nat → Int32} (i : cl_FI h h' a n F) {q : Nat} (hq : q < n) (hn : n ≤ 12) {v : Int32} : cl_FI h (am_pi h' (a + 6 + q) 5 v) a n (upd F q v) := by
  obtain ⟨f, h1, h2⟩ := i
  refine ⟨f.tr (am_fr.pi ⟨by omega, by omega⟩), fun p hp j hj => ?_, fun p hp => ?_⟩
  · rw [am_pi_i, if_neg (fun z => hj z.2)]
    exact h1 p hp j hj
  · rw [am_pi_i]
    by_cases e : p = q
    · subst e; rw [if_pos ⟨rfl, rfl⟩, pk_us]
    · rw [if_neg (fun z => e (by omega)), pk_un e]
      exact h2 p hp
theorem c_fol_a (l : cl_Hall G h a) (hc : am_i h a 5 = nI n) (hn : n ≤ 12) : ∀ j q h' F x2, q + j = n → cl_FI h h' a n F → (∀ p, p < q → F p = am_i h (a + 6 + p) 4) → ∃ h2, am_ev G (d + 2) 17 2 [some (.ref a), some (.int (nI q)), x2] [] h' = am_ev G (d + 2) 17 36 [some (.ref a), some (.int (nI 0)), x2] [] h2 ∧ cl_FI h h2 a n (fun p => am_i h (a + 6 + p) 4) := by
  intro j
  induction j with
  | zero =>
    intro q h' F x2 hq hI hF
    obtain rfl : q = n := by omega
    have l' := l.fr hI.1
    have hc' : am_i h' a 5 = nI q := by rw [hI.1.i1 (fun z => by have := z.1; omega), hc]
    refine ⟨h', ?_, hI.1, hI.2.1, fun p hp => by rw [hI.2.2 p hp, hF p hp]⟩
    rw [e_17_2]
    simp only [n_17, e_17_0, f_17_1, e_17_3, e_17_4, e_17_7, e_17_10, e_17_11, e_17_14, e_17_15, e_17_16, e_17_17, e_17_20, e_17_21, e_17_22, e_17_25, f_17_28, e_17_31, e_17_34, f_17_35, e_17_37, e_17_38, e_17_41, e_17_44, f_17_45, e_17_47, e_17_48, e_17_51, e_17_54, e_17_55, e_17_58, e_17_59, e_17_60, e_17_63, e_17_64, e_17_67, e_17_70, e_17_71, e_17_74, e_17_75, e_17_76, e_17_77, e_17_80, e_17_81, e_17_84, e_17_85, e_17_86, e_17_89, e_17_90, f_17_93, e_17_96, f_17_99, e_17_102, e_17_105, Option.bind_some, Option.toList_some, Option.toList_none, List.cons_append, List.nil_append, am_k1_i, am_k1_r, am_k1_u, am_k1_n, am_bo0, am_bo1, am_boi, am_ev_tb, am_tb_nil, am_rfs, am_rfn, eq_self, and_self, if_true, if_false, show ¬ (1 : Int32) = 0 from by decide, show ¬ (0 : Int32) = 1 from by decide, not_true, not_false_eq_true, and_true, true_and, and_false, false_and, or_true, true_or, or_false, false_or, ha_ob l', hc', Int32.le_refl]
    rfl
  | succ j ih =>
    intro q h' F x2 hq hI hF
    have l' := l.fr hI.1
    have hc' : am_i h' a 5 = nI n := by rw [hI.1.i1 (fun z => by have := z.1; omega), hc]
    have hlt : ¬ nI n ≤ nI q := nI_ge (by omega) (by omega)
    obtain ⟨h2, e, hI2⟩ := ih (q + 1) (am_pi h' (a + 6 + q) 5 (am_i h (a + 6 + q) 4)) (upd F q (am_i h (a + 6 + q) 4)) x2 (by omega) (hI.pi (by omega) hn) (fun p hp => by
      by_cases e : p = q
      · subst e; rw [pk_us]
      · rw [pk_un e]; exact hF p (by omega))
    refine ⟨h2, ?_, hI2⟩
    rw [← e, e_17_2]
    simp only [n_17, e_17_0, f_17_1, e_17_3, e_17_4, e_17_7, e_17_10, e_17_11, e_17_14, e_17_15, e_17_16, e_17_17, e_17_20, e_17_21, e_17_22, e_17_25, f_17_28, e_17_31, e_17_34, f_17_35, e_17_37, e_17_38, e_17_41, e_17_44, f_17_45, e_17_47, e_17_48, e_17_51, e_17_54, e_17_55, e_17_58, e_17_59, e_17_60, e_17_63, e_17_64, e_17_67, e_17_70, e_17_71, e_17_74, e_17_75, e_17_76, e_17_77, e_17_80, e_17_81, e_17_84, e_17_85, e_17_86, e_17_89, e_17_90, f_17_93, e_17_96, f_17_99, e_17_102, e_17_105, Option.bind_some, Option.toList_some, Option.toList_none, List.cons_append, List.nil_append, am_k1_i, am_k1_r, am_k1_u, am_k1_n, am_bo0, am_bo1, am_boi, am_ev_tb, am_tb_nil, am_rfs, am_rfn, eq_self, and_self, if_true, if_false, show ¬ (1 : Int32) = 0 from by decide, show ¬ (0 : Int32) = 1 from by decide, not_true, not_false_eq_true, and_true, true_and, and_false, false_and, or_true, true_or, or_false, false_or, ha_ob l', hc', hlt, ha_r0 l', ha_p1 l' (show q < 12 by omega), am_cl (show q < 2147483648 by omega), ha_p2 l' (show q < 12 by omega), ha_p3 l' (show q < 12 by omega), hI.2.1 q (show q < n by omega) 4 (by omega), nI_1]
theorem c_fol_i (l : cl_Hall G h a) (hc : am_i h a 5 = nI n) (hn : n ≤ 12) {m : Nat} (hm : m < n) {F : Nat → Int32} : ∀ j q h', q + j = n → cl_FI h h' a n (mt_wi m F q) → ∃ h2, am_ev G (d + 2) 17 46 [some (.ref a), some (.int (nI m)), some (.int (nI q))] [] h' = am_ev G (d + 2) 17 36 [some (.ref a), some (.int (nI (m + 1))), some (.int (nI n))] [] h2 ∧ cl_FI h h2 a n (mt_wi m F n) := by
  intro j
  induction j with
  | zero =>
    intro q h' hq hI
    obtain rfl : q = n := by omega
    have l' := l.fr hI.1
    have hc' : am_i h' a 5 = nI q := by rw [hI.1.i1 (fun z => by have := z.1; omega), hc]
    refine ⟨h', ?_, hI⟩
    rw [e_17_46]
    simp only [n_17, e_17_0, f_17_1, e_17_3, e_17_4, e_17_7, e_17_10, e_17_11, e_17_14, e_17_15, e_17_16, e_17_17, e_17_20, e_17_21, e_17_22, e_17_25, f_17_28, e_17_31, e_17_34, f_17_35, e_17_37, e_17_38, e_17_41, e_17_44, f_17_45, e_17_47, e_17_48, e_17_51, e_17_54, e_17_55, e_17_58, e_17_59, e_17_60, e_17_63, e_17_64, e_17_67, e_17_70, e_17_71, e_17_74, e_17_75, e_17_76, e_17_77, e_17_80, e_17_81, e_17_84, e_17_85, e_17_86, e_17_89, e_17_90, f_17_93, e_17_96, f_17_99, e_17_102, e_17_105, Option.bind_some, Option.toList_some, Option.toList_none, List.cons_append, List.nil_append, am_k1_i, am_k1_r, am_k1_u, am_k1_n, am_bo0, am_bo1, am_boi, am_ev_tb, am_tb_nil, am_rfs, am_rfn, eq_self, and_self, if_true, if_false, show ¬ (1 : Int32) = 0 from by decide, show ¬ (0 : Int32) = 1 from by decide, not_true, not_false_eq_true, and_true, true_and, and_false, false_and, or_true, true_or, or_false, false_or, ha_ob l', hc', Int32.le_refl, nI_1]
  | succ j ih =>
    intro q h' hq hI
    have l' := l.fr hI.1
    have hc' : am_i h' a 5 = nI n := by rw [hI.1.i1 (fun z => by have := z.1; omega), hc]
    have hlt : ¬ nI n ≤ nI q := nI_ge (by omega) (by omega)
    have st := ih (q + 1)
    rw [mt_wi] at st
    by_cases hb : bt (mt_wi m F q q) m = true
    · have hm1 : ¬ mt_b (mt_wi m F q q) m = 0 := fun z => mt_b0.mp z hb
      rw [if_pos hb] at st
      obtain ⟨h2, e, hI2⟩ := st (am_pi h' (a + 6 + q) 5 (mt_wi m F q q ||| mt_wi m F q m)) (by omega) (hI.pi (by omega) hn)
      refine ⟨h2, ?_, hI2⟩
      rw [← e, e_17_46]
      simp only [n_17, e_17_0, f_17_1, e_17_3, e_17_4, e_17_7, e_17_10, e_17_11, e_17_14, e_17_15, e_17_16, e_17_17, e_17_20, e_17_21, e_17_22, e_17_25, f_17_28, e_17_31, e_17_34, f_17_35, e_17_37, e_17_38, e_17_41, e_17_44, f_17_45, e_17_47, e_17_48, e_17_51, e_17_54, e_17_55, e_17_58, e_17_59, e_17_60, e_17_63, e_17_64, e_17_67, e_17_70, e_17_71, e_17_74, e_17_75, e_17_76, e_17_77, e_17_80, e_17_81, e_17_84, e_17_85, e_17_86, e_17_89, e_17_90, f_17_93, e_17_96, f_17_99, e_17_102, e_17_105, Option.bind_some, Option.toList_some, Option.toList_none, List.cons_append, List.nil_append, am_k1_i, am_k1_r, am_k1_u, am_k1_n, am_bo0, am_bo1, am_boi, am_ev_tb, am_tb_nil, am_rfs, am_rfn, eq_self, and_self, if_true, if_false, show ¬ (1 : Int32) = 0 from by decide, show ¬ (0 : Int32) = 1 from by decide, not_true, not_false_eq_true, and_true, true_and, and_false, false_and, or_true, true_or, or_false, false_or, ha_ob l', hc', hlt, ha_r0 l', ha_p1 l' (show q < 12 by omega), am_cl (show q < 2147483648 by omega), ha_p2 l' (show q < 12 by omega), ha_p3 l' (show q < 12 by omega), hI.2.2 q (show q < n by omega), c_hasBit (show m < 32 by omega), hm1, ha_p1 l' (show m < 12 by omega), am_cl (show m < 2147483648 by omega), ha_p2 l' (show m < 12 by omega), ha_p3 l' (show m < 12 by omega), hI.2.2 m hm, nI_1]
    · have hm1 : mt_b (mt_wi m F q q) m = 0 := mt_b0.mpr hb
      rw [if_neg hb] at st
      have hsame : upd (mt_wi m F q) q (mt_wi m F q q) = mt_wi m F q := by
        funext p
        by_cases e : p = q
        · subst e; rw [pk_us]
        · rw [pk_un e]
      rw [hsame] at st
      obtain ⟨h2, e, hI2⟩ := st h' (by omega) hI
      refine ⟨h2, ?_, hI2⟩
      rw [← e, e_17_46]
      simp only [n_17, e_17_0, f_17_1, e_17_3, e_17_4, e_17_7, e_17_10, e_17_11, e_17_14, e_17_15, e_17_16, e_17_17, e_17_20, e_17_21, e_17_22, e_17_25, f_17_28, e_17_31, e_17_34, f_17_35, e_17_37, e_17_38, e_17_41, e_17_44, f_17_45, e_17_47, e_17_48, e_17_51, e_17_54, e_17_55, e_17_58, e_17_59, e_17_60, e_17_63, e_17_64, e_17_67, e_17_70, e_17_71, e_17_74, e_17_75, e_17_76, e_17_77, e_17_80, e_17_81, e_17_84, e_17_85, e_17_86, e_17_89, e_17_90, f_17_93, e_17_96, f_17_99, e_17_102, e_17_105, Option.bind_some, Option.toList_some, Option.toList_none, List.cons_append, List.nil_append, am_k1_i, am_k1_r, am_k1_u, am_k1_n, am_bo0, am_bo1, am_boi, am_ev_tb, am_tb_nil, am_rfs, am_rfn, eq_self, and_self, if_true, if_false, show ¬ (1 : Int32) = 0 from by decide, show ¬ (0 : Int32) = 1 from by decide, not_true, not_false_eq_true, and_true, true_and, and_false, false_and, or_true, true_or, or_false, false_or, ha_ob l', hc', hlt, ha_r0 l', ha_p1 l' (show q < 12 by omega), am_cl (show q < 2147483648 by omega), ha_p2 l' (show q < 12 by omega), ha_p3 l' (show q < 12 by omega), hI.2.2 q (show q < n by omega), c_hasBit (show m < 32 by omega), hm1, nI_1]
theorem c_fol_o (l : cl_Hall G h a) (hc : am_i h a 5 = nI n) (hn : n ≤ 12) {T : Nat → Int32} : ∀ j m h' x2, m + j = n → cl_FI h h' a n (mt_wo T n m) → ∃ h2, am_ev G (d + 2) 17 36 [some (.ref a), some (.int (nI m)), x2] [] h' = some (none, h2) ∧ cl_FI h h2 a n (mt_wo T n n) := by
  intro j
  induction j with
  | zero =>
    intro m h' x2 hm hI
    obtain rfl : m = n := by omega
    have l' := l.fr hI.1
    have hc' : am_i h' a 5 = nI m := by rw [hI.1.i1 (fun z => by have := z.1; omega), hc]
    refine ⟨h', ?_, hI⟩
    rw [e_17_36]
    simp only [n_17, e_17_0, f_17_1, e_17_3, e_17_4, e_17_7, e_17_10, e_17_11, e_17_14, e_17_15, e_17_16, e_17_17, e_17_20, e_17_21, e_17_22, e_17_25, f_17_28, e_17_31, e_17_34, f_17_35, e_17_37, e_17_38, e_17_41, e_17_44, f_17_45, e_17_47, e_17_48, e_17_51, e_17_54, e_17_55, e_17_58, e_17_59, e_17_60, e_17_63, e_17_64, e_17_67, e_17_70, e_17_71, e_17_74, e_17_75, e_17_76, e_17_77, e_17_80, e_17_81, e_17_84, e_17_85, e_17_86, e_17_89, e_17_90, f_17_93, e_17_96, f_17_99, e_17_102, e_17_105, Option.bind_some, Option.toList_some, Option.toList_none, List.cons_append, List.nil_append, am_k1_i, am_k1_r, am_k1_u, am_k1_n, am_bo0, am_bo1, am_boi, am_ev_tb, am_tb_nil, am_rfs, am_rfn, eq_self, and_self, if_true, if_false, show ¬ (1 : Int32) = 0 from by decide, show ¬ (0 : Int32) = 1 from by decide, not_true, not_false_eq_true, and_true, true_and, and_false, false_and, or_true, true_or, or_false, false_or, ha_ob l', hc', Int32.le_refl]
  | succ j ih =>
    intro m h' x2 hm hI
    have l' := l.fr hI.1
    have hc' : am_i h' a 5 = nI n := by rw [hI.1.i1 (fun z => by have := z.1; omega), hc]
    have hlt : ¬ nI n ≤ nI m := nI_ge (by omega) (by omega)
    obtain ⟨h2, e2, hI2⟩ := c_fol_i (d := d) (F := mt_wo T n m) l hc hn (show m < n by omega) n 0 h' (by omega) hI
    obtain ⟨h3, e3, hI3⟩ := ih (m + 1) h2 (some (.int (nI n))) (by omega) hI2
    refine ⟨h3, ?_, hI3⟩
    rw [← e3, ← e2, e_17_36]
    simp only [n_17, e_17_0, f_17_1, e_17_3, e_17_4, e_17_7, e_17_10, e_17_11, e_17_14, e_17_15, e_17_16, e_17_17, e_17_20, e_17_21, e_17_22, e_17_25, f_17_28, e_17_31, e_17_34, f_17_35, e_17_37, e_17_38, e_17_41, e_17_44, f_17_45, e_17_47, e_17_48, e_17_51, e_17_54, e_17_55, e_17_58, e_17_59, e_17_60, e_17_63, e_17_64, e_17_67, e_17_70, e_17_71, e_17_74, e_17_75, e_17_76, e_17_77, e_17_80, e_17_81, e_17_84, e_17_85, e_17_86, e_17_89, e_17_90, f_17_93, e_17_96, f_17_99, e_17_102, e_17_105, Option.bind_some, Option.toList_some, Option.toList_none, List.cons_append, List.nil_append, am_k1_i, am_k1_r, am_k1_u, am_k1_n, am_bo0, am_bo1, am_boi, am_ev_tb, am_tb_nil, am_rfs, am_rfn, eq_self, and_self, if_true, if_false, show ¬ (1 : Int32) = 0 from by decide, show ¬ (0 : Int32) = 1 from by decide, not_true, not_false_eq_true, and_true, true_and, and_false, false_and, or_true, true_or, or_false, false_or, ha_ob l', hc', hlt]
    rfl
theorem c_workOut (l : cl_Hall G h a) (hc : am_i h a 5 = nI n) (hn : n ≤ 12) : ∃ h2, am_evm G (d + 2) 17 [.ref a] h = some (none, h2) ∧ am_fr (cl_Pc a) h h2 ∧ (∀ p, p < n → ∀ j, j ≠ 5 → am_i h2 (a + 6 + p) j = am_i h (a + 6 + p) j) ∧ ∀ p, p < n → am_i h2 (a + 6 + p) 5 = mt_fol (fun q => am_i h (a + 6 + q) 4) n p := by
  obtain ⟨h1, e1, hI1⟩ := c_fol_a (d := d) l hc hn n 0 h (fun p => am_i h (a + 6 + p) 5) none (by omega) ⟨am_fr.rf, fun p hp j hj => rfl, fun p hp => rfl⟩ (fun p hp => absurd hp (Nat.not_lt_zero p))
  obtain ⟨h2, e2, hI2⟩ := c_fol_o (d := d) (T := fun p => am_i h (a + 6 + p) 4) l hc hn n 0 h1 none (by omega) hI1
  refine ⟨h2, ?_, hI2.1, hI2.2.1, fun p hp => by rw [hI2.2.2 p hp, mt_wo_fol hn hp]⟩
  rw [← e2, ← e1]
  simp only [n_17, e_17_0, f_17_1, e_17_3, e_17_4, e_17_7, e_17_10, e_17_11, e_17_14, e_17_15, e_17_16, e_17_17, e_17_20, e_17_21, e_17_22, e_17_25, f_17_28, e_17_31, e_17_34, f_17_35, e_17_37, e_17_38, e_17_41, e_17_44, f_17_45, e_17_47, e_17_48, e_17_51, e_17_54, e_17_55, e_17_58, e_17_59, e_17_60, e_17_63, e_17_64, e_17_67, e_17_70, e_17_71, e_17_74, e_17_75, e_17_76, e_17_77, e_17_80, e_17_81, e_17_84, e_17_85, e_17_86, e_17_89, e_17_90, f_17_93, e_17_96, f_17_99, e_17_102, e_17_105, Option.bind_some, Option.toList_some, Option.toList_none, List.cons_append, List.nil_append, am_k1_i, am_k1_r, am_k1_u, am_k1_n, am_bo0, am_bo1, am_boi, am_ev_tb, am_tb_nil, am_rfs, am_rfn, eq_self]
  rfl
end CW
