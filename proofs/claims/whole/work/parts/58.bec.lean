/-! the class: a hall becomes another -/
/-- one row of references may change too -/
def am_fq (x : Nat) (S : Nat → Prop) (h h2 : am_H) : Prop := am_top h2 = am_top h ∧ am_sl h2 = am_sl h ∧ am_sh h2 = am_sh h ∧ (∀ b, b ≠ x → am_r h2 b = am_r h b) ∧ ∀ b, ¬ S b → am_i h2 b = am_i h b
theorem am_fr.fq {x : Nat} {S : Nat → Prop} {h h2 : am_H} (f : am_fr S h h2) : am_fq x S h h2 := ⟨f.1, f.2.1, f.2.2.1, fun b _ => by rw [f.2.2.2.1], f.2.2.2.2⟩
theorem am_fq.tr {x : Nat} {S : Nat → Prop} {h h2 h3 : am_H} (a : am_fq x S h h2) (b : am_fq x S h2 h3) : am_fq x S h h3 := ⟨b.1.trans a.1, b.2.1.trans a.2.1, b.2.2.1.trans a.2.2.1, fun c hc => (b.2.2.2.1 c hc).trans (a.2.2.2.1 c hc), fun c hc => (b.2.2.2.2 c hc).trans (a.2.2.2.2 c hc)⟩
theorem am_fq.wd {x : Nat} {S T : Nat → Prop} {h h2 : am_H} (a : am_fq x S h h2) (hs : ∀ b, S b → T b) : am_fq x T h h2 := ⟨a.1, a.2.1, a.2.2.1, a.2.2.2.1, fun c hc => a.2.2.2.2 c (fun z => hc (hs c z))⟩
theorem cl_Hall.fq {G : Nat → Nat} {h h2 : am_H} {a x : Nat} {S : Nat → Prop} (l : cl_Hall G h a) (f : am_fq x S h h2) (hx : x ≠ a ∧ x ≠ a + 1 ∧ x ≠ a + 2) : cl_Hall G h2 a := by
  unfold cl_Hall at l ⊢
  rw [f.1, f.2.2.1, f.2.2.2.1 a (Ne.symm hx.1), f.2.2.2.1 (a + 1) (Ne.symm hx.2.1), f.2.2.2.1 (a + 2) (Ne.symm hx.2.2)]
  exact l
def cl_Tx (G : Nat → Nat) (h : am_H) (a : Nat) : Prop := ∀ t, t < 14 → am_r h (a + 3) t = none ∨ ∃ b, am_r h (a + 3) t = some b ∧ am_ob G h b 7
section CB2
variable {G : Nat → Nat} {d : Nat} {h : am_H} {a b : Nat} {σ : Nat → Int32} {n nd nt : Nat}
theorem c_becomeP {x y : Nat} (hx : am_ob G h x 2) (hy : am_ob G h y 2) (hne : y ≠ x) : ∃ h2, am_evm G d 38 [.ref x, .ref y] h = some (none, h2) ∧ am_fr (fun c => c = x) h h2 ∧ ∀ j, j < 6 → am_i h2 x j = am_i h y j := by
  refine ⟨am_pi (am_pi (am_pi (am_pi (am_pi (am_pi h x 0 (am_i h y 0)) x 1 (am_i h y 1)) x 2 (am_i h y 2)) x 3 (am_i h y 3)) x 4 (am_i h y 4)) x 5 (am_i h y 5), ?_, ?_, ?_⟩
  · simp only [n_38, e_38_0, e_38_1, e_38_2, e_38_5, e_38_8, e_38_9, e_38_10, e_38_13, e_38_16, e_38_17, e_38_18, e_38_21, e_38_24, e_38_25, e_38_26, e_38_29, e_38_32, e_38_33, e_38_34, e_38_37, e_38_40, e_38_41, e_38_42, e_38_45, e_38_48, Option.bind_some, Option.toList_some, Option.toList_none, List.cons_append, List.nil_append, am_k1_i, am_k1_r, am_k1_u, am_k1_n, am_bo0, am_bo1, am_boi, am_ev_tb, am_tb_nil, am_rfs, am_rfn, eq_self, hx, hy, am_ob_pi, am_pi_i, hne, false_and, if_false]
  · exact (((((am_fr.pi (S := fun c => c = x) rfl).tr (am_fr.pi rfl)).tr (am_fr.pi rfl)).tr (am_fr.pi rfl)).tr (am_fr.pi rfl)).tr (am_fr.pi rfl)
  · intro j hj
    simp only [am_pi_i, true_and]
    rcases (show j = 0 ∨ j = 1 ∨ j = 2 ∨ j = 3 ∨ j = 4 ∨ j = 5 by omega) with rfl | rfl | rfl | rfl | rfl | rfl <;> rfl
theorem c_becomeD {x y : Nat} (hx : am_ob G h x 0) (hy : am_ob G h y 0) (hne : y ≠ x) : ∃ h2, am_evm G d 3 [.ref x, .ref y] h = some (none, h2) ∧ am_fr (fun c => c = x) h h2 ∧ ∀ j, j < 6 → am_i h2 x j = am_i h y j := by
  refine ⟨am_pi (am_pi (am_pi (am_pi (am_pi (am_pi h x 0 (am_i h y 0)) x 1 (am_i h y 1)) x 2 (am_i h y 2)) x 3 (am_i h y 3)) x 4 (am_i h y 4)) x 5 (am_i h y 5), ?_, ?_, ?_⟩
  · simp only [n_3, e_3_0, e_3_1, e_3_2, e_3_5, e_3_8, e_3_9, e_3_10, e_3_13, e_3_16, e_3_17, e_3_18, e_3_21, e_3_24, e_3_25, e_3_26, e_3_29, e_3_32, e_3_33, e_3_34, e_3_37, e_3_40, e_3_41, e_3_42, e_3_45, e_3_48, Option.bind_some, Option.toList_some, Option.toList_none, List.cons_append, List.nil_append, am_k1_i, am_k1_r, am_k1_u, am_k1_n, am_bo0, am_bo1, am_boi, am_ev_tb, am_tb_nil, am_rfs, am_rfn, eq_self, hx, hy, am_ob_pi, am_pi_i, hne, false_and, if_false]
  · exact (((((am_fr.pi (S := fun c => c = x) rfl).tr (am_fr.pi rfl)).tr (am_fr.pi rfl)).tr (am_fr.pi rfl)).tr (am_fr.pi rfl)).tr (am_fr.pi rfl)
  · intro j hj
    simp only [am_pi_i, true_and]
    rcases (show j = 0 ∨ j = 1 ∨ j = 2 ∨ j = 3 ∨ j = 4 ∨ j = 5 by omega) with rfl | rfl | rfl | rfl | rfl | rfl <;> rfl
def cl_dis (a b : Nat) : Prop := a + 25 < b ∨ b + 25 < a
theorem c_bec_p (la : cl_Hall G h a) (lb : cl_Hall G h b) (hd : cl_dis a b) : ∀ j q h', q + j = 12 → am_fr (fun c => a + 6 ≤ c ∧ c < a + 18) h h' → (∀ p, p < q → ∀ j, j < 6 → am_i h' (a + 6 + p) j = am_i h (b + 6 + p) j) → ∃ h2, am_ev G (d + 1) 6 2 [some (.ref a), some (.ref b), some (.int (nI q))] [] h' = am_ev G (d + 1) 6 31 [some (.ref a), some (.ref b), some (.int (nI 0))] [] h2 ∧ am_fr (fun c => a + 6 ≤ c ∧ c < a + 18) h h2 ∧ (∀ p, p < 12 → ∀ j, j < 6 → am_i h2 (a + 6 + p) j = am_i h (b + 6 + p) j) := by
  have hd' : a + 25 < b ∨ b + 25 < a := hd
  intro j
  induction j with
  | zero =>
    intro q h' hq hf hI
    obtain rfl : q = 12 := by omega
    refine ⟨h', ?_, hf, hI⟩
    rw [e_6_2]
    simp only [n_6, e_6_0, f_6_1, e_6_3, e_6_5, e_6_8, e_6_8n, e_6_9, e_6_12, e_6_13, e_6_14, e_6_14n, e_6_15, e_6_18, e_6_19, e_6_20, f_6_23, e_6_26, e_6_29, f_6_30, e_6_32, e_6_34, e_6_37, e_6_37n, e_6_38, e_6_41, e_6_42, e_6_43, e_6_43n, e_6_44, e_6_47, e_6_48, e_6_49, f_6_52, e_6_55, e_6_58, f_6_59, e_6_61, e_6_63, e_6_66, e_6_66n, e_6_67, e_6_70, e_6_71, e_6_71n, e_6_72, e_6_75, e_6_76, e_6_77, e_6_77n, f_6_78, e_6_81, e_6_84, f_6_85, e_6_87, e_6_88, e_6_91, e_6_91n, e_6_92, e_6_95, e_6_96, e_6_96n, e_6_97, e_6_100, e_6_101, e_6_102, f_6_103, e_6_106, e_6_110, e_6_110n, e_6_111, e_6_114, e_6_117, e_6_117n, e_6_118, e_6_118n, e_6_119, e_6_122, e_6_125, e_6_125n, e_6_126, e_6_126n, e_6_127, e_6_130, e_6_133, e_6_133n, e_6_134, e_6_134n, e_6_135, e_6_138, e_6_141, e_6_141n, e_6_142, e_6_142n, e_6_143, e_6_146, e_6_149, Option.bind_some, Option.toList_some, Option.toList_none, List.cons_append, List.nil_append, am_k1_i, am_k1_r, am_k1_u, am_k1_n, am_bo0, am_bo1, am_boi, am_ev_tb, am_tb_nil, am_rfs, am_rfn, eq_self, and_self, if_true, if_false, show ¬ (1 : Int32) = 0 from by decide, show ¬ (0 : Int32) = 1 from by decide, not_true, not_false_eq_true, and_true, true_and, and_false, false_and, or_true, true_or, or_false, false_or, show (12 : Int32) ≤ nI 12 from by decide]
    rfl
  | succ j ih =>
    intro q h' hq hf hI
    have la' := la.fr hf
    have lb' := lb.fr hf
    have hlt : ¬ (12 : Int32) ≤ nI q := nI_ge (b := 12) (by omega) (by decide)
    obtain ⟨h2, e2, f2, i2⟩ := c_becomeP (d := d) (ha_p3 la' (show q < 12 by omega)) (ha_p3 lb' (show q < 12 by omega)) (by omega)
    obtain ⟨h3, e3, rest⟩ := ih (q + 1) h2 (by omega) (hf.tr (f2.wd (fun c hc => ⟨by omega, by omega⟩))) (fun p hp j2 hj2 => by
      by_cases e : p = q
      · subst e
        rw [i2 j2 hj2, hf.i1 (fun z => by omega)]
      · rw [f2.i1 (by omega)]
        exact hI p (by omega) j2 hj2)
    refine ⟨h3, ?_, rest⟩
    rw [← e3, e_6_2]
    simp only [n_6, e_6_0, f_6_1, e_6_3, e_6_5, e_6_8, e_6_8n, e_6_9, e_6_12, e_6_13, e_6_14, e_6_14n, e_6_15, e_6_18, e_6_19, e_6_20, f_6_23, e_6_26, e_6_29, f_6_30, e_6_32, e_6_34, e_6_37, e_6_37n, e_6_38, e_6_41, e_6_42, e_6_43, e_6_43n, e_6_44, e_6_47, e_6_48, e_6_49, f_6_52, e_6_55, e_6_58, f_6_59, e_6_61, e_6_63, e_6_66, e_6_66n, e_6_67, e_6_70, e_6_71, e_6_71n, e_6_72, e_6_75, e_6_76, e_6_77, e_6_77n, f_6_78, e_6_81, e_6_84, f_6_85, e_6_87, e_6_88, e_6_91, e_6_91n, e_6_92, e_6_95, e_6_96, e_6_96n, e_6_97, e_6_100, e_6_101, e_6_102, f_6_103, e_6_106, e_6_110, e_6_110n, e_6_111, e_6_114, e_6_117, e_6_117n, e_6_118, e_6_118n, e_6_119, e_6_122, e_6_125, e_6_125n, e_6_126, e_6_126n, e_6_127, e_6_130, e_6_133, e_6_133n, e_6_134, e_6_134n, e_6_135, e_6_138, e_6_141, e_6_141n, e_6_142, e_6_142n, e_6_143, e_6_146, e_6_149, Option.bind_some, Option.toList_some, Option.toList_none, List.cons_append, List.nil_append, am_k1_i, am_k1_r, am_k1_u, am_k1_n, am_bo0, am_bo1, am_boi, am_ev_tb, am_tb_nil, am_rfs, am_rfn, eq_self, and_self, if_true, if_false, show ¬ (1 : Int32) = 0 from by decide, show ¬ (0 : Int32) = 1 from by decide, not_true, not_false_eq_true, and_true, true_and, and_false, false_and, or_true, true_or, or_false, false_or, hlt, ha_ob la', ha_ob lb', ha_r0 la', ha_r0 lb', ha_p1 la' (show q < 12 by omega), ha_p1 lb' (show q < 12 by omega), am_cl (show q < 2147483648 by omega), ha_p2 la' (show q < 12 by omega), ha_p2 lb' (show q < 12 by omega), ha_p3 la' (show q < 12 by omega), e2, nI_1]
theorem c_bec_d (la : cl_Hall G h a) (lb : cl_Hall G h b) (hd : cl_dis a b) : ∀ j q h', q + j = 8 → am_fr (fun c => a + 18 ≤ c ∧ c < a + 26) h h' → (∀ p, p < q → ∀ j, j < 6 → am_i h' (a + 18 + p) j = am_i h (b + 18 + p) j) → ∃ h2, am_ev G (d + 1) 6 31 [some (.ref a), some (.ref b), some (.int (nI q))] [] h' = am_ev G (d + 1) 6 60 [some (.ref a), some (.ref b), some (.int (nI 0))] [] h2 ∧ am_fr (fun c => a + 18 ≤ c ∧ c < a + 26) h h2 ∧ (∀ p, p < 8 → ∀ j, j < 6 → am_i h2 (a + 18 + p) j = am_i h (b + 18 + p) j) := by
  have hd' : a + 25 < b ∨ b + 25 < a := hd
  intro j
  induction j with
  | zero =>
    intro q h' hq hf hI
    obtain rfl : q = 8 := by omega
    refine ⟨h', ?_, hf, hI⟩
    rw [e_6_31]
    simp only [n_6, e_6_0, f_6_1, e_6_3, e_6_5, e_6_8, e_6_8n, e_6_9, e_6_12, e_6_13, e_6_14, e_6_14n, e_6_15, e_6_18, e_6_19, e_6_20, f_6_23, e_6_26, e_6_29, f_6_30, e_6_32, e_6_34, e_6_37, e_6_37n, e_6_38, e_6_41, e_6_42, e_6_43, e_6_43n, e_6_44, e_6_47, e_6_48, e_6_49, f_6_52, e_6_55, e_6_58, f_6_59, e_6_61, e_6_63, e_6_66, e_6_66n, e_6_67, e_6_70, e_6_71, e_6_71n, e_6_72, e_6_75, e_6_76, e_6_77, e_6_77n, f_6_78, e_6_81, e_6_84, f_6_85, e_6_87, e_6_88, e_6_91, e_6_91n, e_6_92, e_6_95, e_6_96, e_6_96n, e_6_97, e_6_100, e_6_101, e_6_102, f_6_103, e_6_106, e_6_110, e_6_110n, e_6_111, e_6_114, e_6_117, e_6_117n, e_6_118, e_6_118n, e_6_119, e_6_122, e_6_125, e_6_125n, e_6_126, e_6_126n, e_6_127, e_6_130, e_6_133, e_6_133n, e_6_134, e_6_134n, e_6_135, e_6_138, e_6_141, e_6_141n, e_6_142, e_6_142n, e_6_143, e_6_146, e_6_149, Option.bind_some, Option.toList_some, Option.toList_none, List.cons_append, List.nil_append, am_k1_i, am_k1_r, am_k1_u, am_k1_n, am_bo0, am_bo1, am_boi, am_ev_tb, am_tb_nil, am_rfs, am_rfn, eq_self, and_self, if_true, if_false, show ¬ (1 : Int32) = 0 from by decide, show ¬ (0 : Int32) = 1 from by decide, not_true, not_false_eq_true, and_true, true_and, and_false, false_and, or_true, true_or, or_false, false_or, show (8 : Int32) ≤ nI 8 from by decide]
    rfl
  | succ j ih =>
    intro q h' hq hf hI
    have la' := la.fr hf
    have lb' := lb.fr hf
    have hlt : ¬ (8 : Int32) ≤ nI q := nI_ge (b := 8) (by omega) (by decide)
    obtain ⟨h2, e2, f2, i2⟩ := c_becomeD (d := d) (ha_d3 la' (show q < 8 by omega)) (ha_d3 lb' (show q < 8 by omega)) (by omega)
    obtain ⟨h3, e3, rest⟩ := ih (q + 1) h2 (by omega) (hf.tr (f2.wd (fun c hc => ⟨by omega, by omega⟩))) (fun p hp j2 hj2 => by
      by_cases e : p = q
      · subst e
        rw [i2 j2 hj2, hf.i1 (fun z => by omega)]
      · rw [f2.i1 (by omega)]
        exact hI p (by omega) j2 hj2)
    refine ⟨h3, ?_, rest⟩
    rw [← e3, e_6_31]
    simp only [n_6, e_6_0, f_6_1, e_6_3, e_6_5, e_6_8, e_6_8n, e_6_9, e_6_12, e_6_13, e_6_14, e_6_14n, e_6_15, e_6_18, e_6_19, e_6_20, f_6_23, e_6_26, e_6_29, f_6_30, e_6_32, e_6_34, e_6_37, e_6_37n, e_6_38, e_6_41, e_6_42, e_6_43, e_6_43n, e_6_44, e_6_47, e_6_48, e_6_49, f_6_52, e_6_55, e_6_58, f_6_59, e_6_61, e_6_63, e_6_66, e_6_66n, e_6_67, e_6_70, e_6_71, e_6_71n, e_6_72, e_6_75, e_6_76, e_6_77, e_6_77n, f_6_78, e_6_81, e_6_84, f_6_85, e_6_87, e_6_88, e_6_91, e_6_91n, e_6_92, e_6_95, e_6_96, e_6_96n, e_6_97, e_6_100, e_6_101, e_6_102, f_6_103, e_6_106, e_6_110, e_6_110n, e_6_111, e_6_114, e_6_117, e_6_117n, e_6_118, e_6_118n, e_6_119, e_6_122, e_6_125, e_6_125n, e_6_126, e_6_126n, e_6_127, e_6_130, e_6_133, e_6_133n, e_6_134, e_6_134n, e_6_135, e_6_138, e_6_141, e_6_141n, e_6_142, e_6_142n, e_6_143, e_6_146, e_6_149, Option.bind_some, Option.toList_some, Option.toList_none, List.cons_append, List.nil_append, am_k1_i, am_k1_r, am_k1_u, am_k1_n, am_bo0, am_bo1, am_boi, am_ev_tb, am_tb_nil, am_rfs, am_rfn, eq_self, and_self, if_true, if_false, show ¬ (1 : Int32) = 0 from by decide, show ¬ (0 : Int32) = 1 from by decide, not_true, not_false_eq_true, and_true, true_and, and_false, false_and, or_true, true_or, or_false, false_or, hlt, ha_ob la', ha_ob lb', ha_r1 la', ha_r1 lb', ha_d1 la' (show q < 8 by omega), ha_d1 lb' (show q < 8 by omega), am_cl (show q < 2147483648 by omega), ha_d2 la' (show q < 8 by omega), ha_d2 lb' (show q < 8 by omega), ha_d3 la' (show q < 8 by omega), e2, nI_1]
theorem am_pr_r {h : am_H} {a k : Nat} {v : Option Nat} {j : Nat} : am_r (am_pr h a k v) a j = if j = k then v else am_r h a j := by
  rw [am_pr_s]
  rfl
theorem c_bec_t (la : cl_Hall G h a) (lb : cl_Hall G h b) (hd : cl_dis a b) (tx : cl_Tx G h b) : ∀ j q h', q + j = 14 → am_fq (a + 3) (fun _ => False) h h' → (∀ t, t < q → am_r h' (a + 3) t = am_r h (b + 3) t) → ∃ h2, am_ev G (d + 1) 6 60 [some (.ref a), some (.ref b), some (.int (nI q))] [] h' = am_ev G (d + 1) 6 86 [some (.ref a), some (.ref b), some (.int (nI 0))] [] h2 ∧ am_fq (a + 3) (fun _ => False) h h2 ∧ (∀ t, t < 14 → am_r h2 (a + 3) t = am_r h (b + 3) t) := by
  have hd' : a + 25 < b ∨ b + 25 < a := hd
  intro j
  induction j with
  | zero =>
    intro q h' hq hf hI
    obtain rfl : q = 14 := by omega
    refine ⟨h', ?_, hf, hI⟩
    rw [e_6_60]
    simp only [n_6, e_6_0, f_6_1, e_6_3, e_6_5, e_6_8, e_6_8n, e_6_9, e_6_12, e_6_13, e_6_14, e_6_14n, e_6_15, e_6_18, e_6_19, e_6_20, f_6_23, e_6_26, e_6_29, f_6_30, e_6_32, e_6_34, e_6_37, e_6_37n, e_6_38, e_6_41, e_6_42, e_6_43, e_6_43n, e_6_44, e_6_47, e_6_48, e_6_49, f_6_52, e_6_55, e_6_58, f_6_59, e_6_61, e_6_63, e_6_66, e_6_66n, e_6_67, e_6_70, e_6_71, e_6_71n, e_6_72, e_6_75, e_6_76, e_6_77, e_6_77n, f_6_78, e_6_81, e_6_84, f_6_85, e_6_87, e_6_88, e_6_91, e_6_91n, e_6_92, e_6_95, e_6_96, e_6_96n, e_6_97, e_6_100, e_6_101, e_6_102, f_6_103, e_6_106, e_6_110, e_6_110n, e_6_111, e_6_114, e_6_117, e_6_117n, e_6_118, e_6_118n, e_6_119, e_6_122, e_6_125, e_6_125n, e_6_126, e_6_126n, e_6_127, e_6_130, e_6_133, e_6_133n, e_6_134, e_6_134n, e_6_135, e_6_138, e_6_141, e_6_141n, e_6_142, e_6_142n, e_6_143, e_6_146, e_6_149, Option.bind_some, Option.toList_some, Option.toList_none, List.cons_append, List.nil_append, am_k1_i, am_k1_r, am_k1_u, am_k1_n, am_bo0, am_bo1, am_boi, am_ev_tb, am_tb_nil, am_rfs, am_rfn, eq_self, and_self, if_true, if_false, show ¬ (1 : Int32) = 0 from by decide, show ¬ (0 : Int32) = 1 from by decide, not_true, not_false_eq_true, and_true, true_and, and_false, false_and, or_true, true_or, or_false, false_or, show (14 : Int32) ≤ nI 14 from by decide]
    rfl
  | succ j ih =>
    intro q h' hq hf hI
    have la' := la.fq hf (by omega)
    have lb' := lb.fq hf (by omega)
    have hlt : ¬ (14 : Int32) ≤ nI q := nI_ge (b := 14) (by omega) (by decide)
    have hb3 : am_r h' (b + 3) = am_r h (b + 3) := hf.2.2.2.1 (b + 3) (by omega)
    have fin : ∀ v, v = am_r h (b + 3) q → ∃ h2, am_ev G (d + 1) 6 60 [some (.ref a), some (.ref b), some (.int (nI (q + 1)))] [] (am_pr h' (a + 3) q v) = am_ev G (d + 1) 6 86 [some (.ref a), some (.ref b), some (.int (nI 0))] [] h2 ∧ am_fq (a + 3) (fun _ => False) h h2 ∧ (∀ t, t < 14 → am_r h2 (a + 3) t = am_r h (b + 3) t) := fun v hv => ih (q + 1) (am_pr h' (a + 3) q v) (by omega) (hf.tr ⟨rfl, rfl, rfl, fun c hc => (am_pr_o c hc).2, fun c _ => rfl⟩) (fun t ht => by
      rw [am_pr_r]
      by_cases e : t = q
      · subst e; rw [if_pos rfl, hv]
      · rw [if_neg e]; exact hI t (by omega))
    rw [e_6_60]
    rcases tx q (by omega) with e | ⟨c, e, oc⟩
    · simp only [n_6, e_6_0, f_6_1, e_6_3, e_6_5, e_6_8, e_6_8n, e_6_9, e_6_12, e_6_13, e_6_14, e_6_14n, e_6_15, e_6_18, e_6_19, e_6_20, f_6_23, e_6_26, e_6_29, f_6_30, e_6_32, e_6_34, e_6_37, e_6_37n, e_6_38, e_6_41, e_6_42, e_6_43, e_6_43n, e_6_44, e_6_47, e_6_48, e_6_49, f_6_52, e_6_55, e_6_58, f_6_59, e_6_61, e_6_63, e_6_66, e_6_66n, e_6_67, e_6_70, e_6_71, e_6_71n, e_6_72, e_6_75, e_6_76, e_6_77, e_6_77n, f_6_78, e_6_81, e_6_84, f_6_85, e_6_87, e_6_88, e_6_91, e_6_91n, e_6_92, e_6_95, e_6_96, e_6_96n, e_6_97, e_6_100, e_6_101, e_6_102, f_6_103, e_6_106, e_6_110, e_6_110n, e_6_111, e_6_114, e_6_117, e_6_117n, e_6_118, e_6_118n, e_6_119, e_6_122, e_6_125, e_6_125n, e_6_126, e_6_126n, e_6_127, e_6_130, e_6_133, e_6_133n, e_6_134, e_6_134n, e_6_135, e_6_138, e_6_141, e_6_141n, e_6_142, e_6_142n, e_6_143, e_6_146, e_6_149, Option.bind_some, Option.toList_some, Option.toList_none, List.cons_append, List.nil_append, am_k1_i, am_k1_r, am_k1_u, am_k1_n, am_bo0, am_bo1, am_boi, am_ev_tb, am_tb_nil, am_rfs, am_rfn, eq_self, and_self, if_true, if_false, show ¬ (1 : Int32) = 0 from by decide, show ¬ (0 : Int32) = 1 from by decide, not_true, not_false_eq_true, and_true, true_and, and_false, false_and, or_true, true_or, or_false, false_or, hlt, ha_ob la', ha_ob lb', ha_r2 la', ha_r2 lb', ha_t1 la' (show q < 14 by omega), ha_t1 lb' (show q < 14 by omega), am_cl (show q < 2147483648 by omega), hb3, e, nI_1]
      exact fin none e.symm
    · have oc' : am_ob G h' c 7 := ⟨⟨oc.1.1, by rw [hf.1]; exact oc.1.2⟩, by rw [hf.2.2.1]; exact oc.2⟩
      have rw' : am_rw G h' (a + 3) (nI q) c := ⟨ha_t1 la' (show q < 14 by omega), oc'.1, by rw [oc'.2, la'.2.2.1.2.2.1]; rfl⟩
      simp only [n_6, e_6_0, f_6_1, e_6_3, e_6_5, e_6_8, e_6_8n, e_6_9, e_6_12, e_6_13, e_6_14, e_6_14n, e_6_15, e_6_18, e_6_19, e_6_20, f_6_23, e_6_26, e_6_29, f_6_30, e_6_32, e_6_34, e_6_37, e_6_37n, e_6_38, e_6_41, e_6_42, e_6_43, e_6_43n, e_6_44, e_6_47, e_6_48, e_6_49, f_6_52, e_6_55, e_6_58, f_6_59, e_6_61, e_6_63, e_6_66, e_6_66n, e_6_67, e_6_70, e_6_71, e_6_71n, e_6_72, e_6_75, e_6_76, e_6_77, e_6_77n, f_6_78, e_6_81, e_6_84, f_6_85, e_6_87, e_6_88, e_6_91, e_6_91n, e_6_92, e_6_95, e_6_96, e_6_96n, e_6_97, e_6_100, e_6_101, e_6_102, f_6_103, e_6_106, e_6_110, e_6_110n, e_6_111, e_6_114, e_6_117, e_6_117n, e_6_118, e_6_118n, e_6_119, e_6_122, e_6_125, e_6_125n, e_6_126, e_6_126n, e_6_127, e_6_130, e_6_133, e_6_133n, e_6_134, e_6_134n, e_6_135, e_6_138, e_6_141, e_6_141n, e_6_142, e_6_142n, e_6_143, e_6_146, e_6_149, Option.bind_some, Option.toList_some, Option.toList_none, List.cons_append, List.nil_append, am_k1_i, am_k1_r, am_k1_u, am_k1_n, am_bo0, am_bo1, am_boi, am_ev_tb, am_tb_nil, am_rfs, am_rfn, eq_self, and_self, if_true, if_false, show ¬ (1 : Int32) = 0 from by decide, show ¬ (0 : Int32) = 1 from by decide, not_true, not_false_eq_true, and_true, true_and, and_false, false_and, or_true, true_or, or_false, false_or, hlt, ha_ob la', ha_ob lb', ha_r2 la', ha_r2 lb', ha_t1 la' (show q < 14 by omega), ha_t1 lb' (show q < 14 by omega), am_cl (show q < 2147483648 by omega), hb3, e, rw', nI_1]
      exact fin (some c) e.symm
theorem c_bec_c (la : cl_Hall G h a) (lb : cl_Hall G h b) (hd : cl_dis a b) : ∀ j q h', q + j = 3 → am_fr (fun c => c = a + 4) h h' → (∀ t, t < q → am_i h' (a + 4) t = am_i h (b + 4) t) → ∃ h2, am_ev G (d + 1) 6 86 [some (.ref a), some (.ref b), some (.int (nI q))] [] h' = am_ev G (d + 1) 6 109 [some (.ref a), some (.ref b), some (.int (nI 3))] [] h2 ∧ am_fr (fun c => c = a + 4) h h2 ∧ (∀ t, t < 3 → am_i h2 (a + 4) t = am_i h (b + 4) t) := by
  have hd' : a + 25 < b ∨ b + 25 < a := hd
  intro j
  induction j with
  | zero =>
    intro q h' hq hf hI
    obtain rfl : q = 3 := by omega
    refine ⟨h', ?_, hf, hI⟩
    rw [e_6_86]
    simp only [n_6, e_6_0, f_6_1, e_6_3, e_6_5, e_6_8, e_6_8n, e_6_9, e_6_12, e_6_13, e_6_14, e_6_14n, e_6_15, e_6_18, e_6_19, e_6_20, f_6_23, e_6_26, e_6_29, f_6_30, e_6_32, e_6_34, e_6_37, e_6_37n, e_6_38, e_6_41, e_6_42, e_6_43, e_6_43n, e_6_44, e_6_47, e_6_48, e_6_49, f_6_52, e_6_55, e_6_58, f_6_59, e_6_61, e_6_63, e_6_66, e_6_66n, e_6_67, e_6_70, e_6_71, e_6_71n, e_6_72, e_6_75, e_6_76, e_6_77, e_6_77n, f_6_78, e_6_81, e_6_84, f_6_85, e_6_87, e_6_88, e_6_91, e_6_91n, e_6_92, e_6_95, e_6_96, e_6_96n, e_6_97, e_6_100, e_6_101, e_6_102, f_6_103, e_6_106, e_6_110, e_6_110n, e_6_111, e_6_114, e_6_117, e_6_117n, e_6_118, e_6_118n, e_6_119, e_6_122, e_6_125, e_6_125n, e_6_126, e_6_126n, e_6_127, e_6_130, e_6_133, e_6_133n, e_6_134, e_6_134n, e_6_135, e_6_138, e_6_141, e_6_141n, e_6_142, e_6_142n, e_6_143, e_6_146, e_6_149, Option.bind_some, Option.toList_some, Option.toList_none, List.cons_append, List.nil_append, am_k1_i, am_k1_r, am_k1_u, am_k1_n, am_bo0, am_bo1, am_boi, am_ev_tb, am_tb_nil, am_rfs, am_rfn, eq_self, and_self, if_true, if_false, show ¬ (1 : Int32) = 0 from by decide, show ¬ (0 : Int32) = 1 from by decide, not_true, not_false_eq_true, and_true, true_and, and_false, false_and, or_true, true_or, or_false, false_or, show (3 : Int32) ≤ nI 3 from by decide]
  | succ j ih =>
    intro q h' hq hf hI
    have la' := la.fr hf
    have lb' := lb.fr hf
    have hlt : ¬ (3 : Int32) ≤ nI q := nI_ge (b := 3) (by omega) (by decide)
    have hb4 : am_i h' (b + 4) = am_i h (b + 4) := hf.i1 (by omega)
    obtain ⟨h3, e3, rest⟩ := ih (q + 1) (am_pi h' (a + 4) q (am_i h (b + 4) q)) (by omega) (hf.tr (am_fr.pi rfl)) (fun t ht => by
      rw [am_pi_i]
      by_cases e : t = q
      · subst e; rw [if_pos ⟨rfl, rfl⟩]
      · rw [if_neg (fun z => e z.2)]; exact hI t (by omega))
    refine ⟨h3, ?_, rest⟩
    rw [← e3, e_6_86]
    simp only [n_6, e_6_0, f_6_1, e_6_3, e_6_5, e_6_8, e_6_8n, e_6_9, e_6_12, e_6_13, e_6_14, e_6_14n, e_6_15, e_6_18, e_6_19, e_6_20, f_6_23, e_6_26, e_6_29, f_6_30, e_6_32, e_6_34, e_6_37, e_6_37n, e_6_38, e_6_41, e_6_42, e_6_43, e_6_43n, e_6_44, e_6_47, e_6_48, e_6_49, f_6_52, e_6_55, e_6_58, f_6_59, e_6_61, e_6_63, e_6_66, e_6_66n, e_6_67, e_6_70, e_6_71, e_6_71n, e_6_72, e_6_75, e_6_76, e_6_77, e_6_77n, f_6_78, e_6_81, e_6_84, f_6_85, e_6_87, e_6_88, e_6_91, e_6_91n, e_6_92, e_6_95, e_6_96, e_6_96n, e_6_97, e_6_100, e_6_101, e_6_102, f_6_103, e_6_106, e_6_110, e_6_110n, e_6_111, e_6_114, e_6_117, e_6_117n, e_6_118, e_6_118n, e_6_119, e_6_122, e_6_125, e_6_125n, e_6_126, e_6_126n, e_6_127, e_6_130, e_6_133, e_6_133n, e_6_134, e_6_134n, e_6_135, e_6_138, e_6_141, e_6_141n, e_6_142, e_6_142n, e_6_143, e_6_146, e_6_149, Option.bind_some, Option.toList_some, Option.toList_none, List.cons_append, List.nil_append, am_k1_i, am_k1_r, am_k1_u, am_k1_n, am_bo0, am_bo1, am_boi, am_ev_tb, am_tb_nil, am_rfs, am_rfn, eq_self, and_self, if_true, if_false, show ¬ (1 : Int32) = 0 from by decide, show ¬ (0 : Int32) = 1 from by decide, not_true, not_false_eq_true, and_true, true_and, and_false, false_and, or_true, true_or, or_false, false_or, hlt, ha_ob la', ha_ob lb', ha_r3 la', ha_r3 lb', ha_c1 lb' (show q < 3 by omega), ha_c2 la' (show q < 3 by omega), am_cl (show q < 2147483648 by omega), hb4, nI_1]
theorem c_become (la : cl_Hall G h a) (r : cl_R G h b σ n nd nt) (hs : mt_wf σ n nd nt) (ha : a + 25 < G 0 + 136) (hd : cl_dis a b) (tx : cl_Tx G h b) : ∃ h2, am_evm G (d + 1) 6 [.ref a, .ref b] h = some (none, h2) ∧ cl_R G h2 a σ n nd nt ∧ am_fq (a + 3) (cl_H a) h h2 ∧ ∀ t, t < 14 → am_r h2 (a + 3) t = am_r h (b + 3) t := by
  have hd' : a + 25 < b ∨ b + 25 < a := hd
  have hn := hs.1.1.2
  have hnd := hs.1.2.1.2
  have hnt := hs.1.2.2.2
  obtain ⟨h1, e1, f1, i1⟩ := c_bec_p (d := d) la r.1 hd 12 0 h (by omega) am_fr.rf (fun p hp => absurd hp (Nat.not_lt_zero p))
  have la1 := la.fr f1
  have lb1 := r.1.fr f1
  obtain ⟨h2, e2, f2, i2⟩ := c_bec_d (d := d) la1 lb1 hd 8 0 h1 (by omega) am_fr.rf (fun p hp => absurd hp (Nat.not_lt_zero p))
  have la2 := la1.fr f2
  have lb2 := lb1.fr f2
  have tx2 : cl_Tx G h2 b := fun t ht => by
    rw [f2.2.2.2.1, f1.2.2.2.1]
    rcases tx t ht with e | ⟨c, e, oc⟩
    · exact Or.inl e
    · exact Or.inr ⟨c, e, ⟨oc.1.1, by rw [f2.1, f1.1]; exact oc.1.2⟩, by rw [f2.2.2.1, f1.2.2.1]; exact oc.2⟩
  obtain ⟨h3, e3, f3, i3⟩ := c_bec_t (d := d) la2 lb2 hd tx2 14 0 h2 (by omega) ⟨rfl, rfl, rfl, fun _ _ => rfl, fun _ _ => rfl⟩ (fun p hp => absurd hp (Nat.not_lt_zero p))
  have la3 := la2.fq f3 (by omega)
  have lb3 := lb2.fq f3 (by omega)
  obtain ⟨h4, e4, f4, i4⟩ := c_bec_c (d := d) la3 lb3 hd 3 0 h3 (by omega) am_fr.rf (fun p hp => absurd hp (Nat.not_lt_zero p))
  have la4 := la3.fr f4
  have lb4 := lb3.fr f4
  have g3 : ∀ c, am_i h3 c = am_i h2 c := fun c => f3.2.2.2.2 c (fun z => z)
  have gb : am_i h4 b = am_i h b := by rw [f4.i1 (by omega), g3, f2.i1 (by omega), f1.i1 (by omega)]
  have hba : ¬ b = a := by omega
  have frq : am_fq (a + 3) (cl_H a) h h4 := (((f1.fq.wd (fun c hc => ⟨by omega, by omega⟩)).tr (f2.fq.wd (fun c hc => ⟨by omega, by omega⟩))).tr (f3.wd (fun c hc => hc.elim))).tr (f4.fq.wd (fun c hc => ⟨by omega, by omega⟩))
  refine ⟨am_pi (am_pi (am_pi (am_pi (am_pi h4 a 5 (am_i h b 5)) a 6 (am_i h b 6)) a 7 (am_i h b 7)) a 8 (am_i h b 8)) a 9 (am_i h b 9), ?_, ?_, ?_, ?_⟩
  · have e5 : am_ev G (d + 1) 6 109 [some (.ref a), some (.ref b), some (.int (nI 3))] [] h4 = some (none, am_pi (am_pi (am_pi (am_pi (am_pi h4 a 5 (am_i h b 5)) a 6 (am_i h b 6)) a 7 (am_i h b 7)) a 8 (am_i h b 8)) a 9 (am_i h b 9)) := by
      simp only [n_6, e_6_0, f_6_1, e_6_3, e_6_5, e_6_8, e_6_8n, e_6_9, e_6_12, e_6_13, e_6_14, e_6_14n, e_6_15, e_6_18, e_6_19, e_6_20, f_6_23, e_6_26, e_6_29, f_6_30, e_6_32, e_6_34, e_6_37, e_6_37n, e_6_38, e_6_41, e_6_42, e_6_43, e_6_43n, e_6_44, e_6_47, e_6_48, e_6_49, f_6_52, e_6_55, e_6_58, f_6_59, e_6_61, e_6_63, e_6_66, e_6_66n, e_6_67, e_6_70, e_6_71, e_6_71n, e_6_72, e_6_75, e_6_76, e_6_77, e_6_77n, f_6_78, e_6_81, e_6_84, f_6_85, e_6_87, e_6_88, e_6_91, e_6_91n, e_6_92, e_6_95, e_6_96, e_6_96n, e_6_97, e_6_100, e_6_101, e_6_102, f_6_103, e_6_106, e_6_109, e_6_109n, e_6_110, e_6_110n, e_6_111, e_6_114, e_6_117, e_6_117n, e_6_118, e_6_118n, e_6_119, e_6_122, e_6_125, e_6_125n, e_6_126, e_6_126n, e_6_127, e_6_130, e_6_133, e_6_133n, e_6_134, e_6_134n, e_6_135, e_6_138, e_6_141, e_6_141n, e_6_142, e_6_142n, e_6_143, e_6_146, e_6_149, Option.bind_some, Option.toList_some, Option.toList_none, List.cons_append, List.nil_append, am_k1_i, am_k1_r, am_k1_u, am_k1_n, am_bo0, am_bo1, am_boi, am_ev_tb, am_tb_nil, am_rfs, am_rfn, eq_self, and_self, if_true, if_false, show ¬ (1 : Int32) = 0 from by decide, show ¬ (0 : Int32) = 1 from by decide, not_true, not_false_eq_true, and_true, true_and, and_false, false_and, or_true, true_or, or_false, false_or, ha_ob la4, ha_ob lb4, gb, am_ob_pi, am_pi_i, hba]
    rw [← e5, ← e4, ← e3, ← e2, ← e1]
    simp only [n_6, e_6_0, f_6_1, e_6_3, e_6_5, e_6_8, e_6_8n, e_6_9, e_6_12, e_6_13, e_6_14, e_6_14n, e_6_15, e_6_18, e_6_19, e_6_20, f_6_23, e_6_26, e_6_29, f_6_30, e_6_32, e_6_34, e_6_37, e_6_37n, e_6_38, e_6_41, e_6_42, e_6_43, e_6_43n, e_6_44, e_6_47, e_6_48, e_6_49, f_6_52, e_6_55, e_6_58, f_6_59, e_6_61, e_6_63, e_6_66, e_6_66n, e_6_67, e_6_70, e_6_71, e_6_71n, e_6_72, e_6_75, e_6_76, e_6_77, e_6_77n, f_6_78, e_6_81, e_6_84, f_6_85, e_6_87, e_6_88, e_6_91, e_6_91n, e_6_92, e_6_95, e_6_96, e_6_96n, e_6_97, e_6_100, e_6_101, e_6_102, f_6_103, e_6_106, e_6_110, e_6_110n, e_6_111, e_6_114, e_6_117, e_6_117n, e_6_118, e_6_118n, e_6_119, e_6_122, e_6_125, e_6_125n, e_6_126, e_6_126n, e_6_127, e_6_130, e_6_133, e_6_133n, e_6_134, e_6_134n, e_6_135, e_6_138, e_6_141, e_6_141n, e_6_142, e_6_142n, e_6_143, e_6_146, e_6_149, Option.bind_some, Option.toList_some, Option.toList_none, List.cons_append, List.nil_append, am_k1_i, am_k1_r, am_k1_u, am_k1_n, am_bo0, am_bo1, am_boi, am_ev_tb, am_tb_nil, am_rfs, am_rfn, eq_self]
    rfl
  · have ii : ∀ c, c ≠ a → am_i (am_pi (am_pi (am_pi (am_pi (am_pi h4 a 5 (am_i h b 5)) a 6 (am_i h b 6)) a 7 (am_i h b 7)) a 8 (am_i h b 8)) a 9 (am_i h b 9)) c = am_i h4 c := fun c hc => by rw [(am_pi_o c hc).1, (am_pi_o c hc).1, (am_pi_o c hc).1, (am_pi_o c hc).1, (am_pi_o c hc).1]
    refine ⟨la4, ?_, fun p hp => ?_, fun q hq j hj => ?_, fun t ht => ?_, fun k hk => ?_⟩
    · obtain ⟨c0, c1, c2, c3, c4⟩ := r.2.1
      simp only [am_pi_i, true_and]
      exact ⟨c0, c1, c2, c3, c4⟩
    · have hrow : ∀ j, j < 6 → am_i (am_pi (am_pi (am_pi (am_pi (am_pi h4 a 5 (am_i h b 5)) a 6 (am_i h b 6)) a 7 (am_i h b 7)) a 8 (am_i h b 8)) a 9 (am_i h b 9)) (a + 6 + p) j = am_i h (b + 6 + p) j := fun j hj => by rw [ii _ (by omega), f4.i1 (by omega), g3, f2.i1 (by omega), i1 p (by omega) j hj]
      exact ⟨fun j hj => by rw [hrow j (by omega)]; exact cr_p r hp hj, by rw [hrow 5 (by omega)]; exact cr_f r hp⟩
    · rw [ii _ (by omega), f4.i1 (by omega), g3, i2 q (by omega) j hj, f1.i1 (by omega)]
      exact cr_d r hq hj
    · obtain ⟨c, hc, tc⟩ := r.2.2.2.2.1 t ht
      refine ⟨c, ?_, ?_⟩
      · show am_r h4 (a + 3) t = some c
        rw [f4.2.2.2.1, i3 t (by omega), f2.2.2.2.1, f1.2.2.2.1]
        exact hc
      · obtain ⟨c2, key, L, ⟨b1, b2, b3⟩, ⟨t1, t2, t3⟩, ⟨u1, u2, u3⟩, hx, hcs⟩ := tc
        have ic : ∀ x, G 0 + 136 ≤ x → am_i (am_pi (am_pi (am_pi (am_pi (am_pi h4 a 5 (am_i h b 5)) a 6 (am_i h b 6)) a 7 (am_i h b 7)) a 8 (am_i h b 8)) a 9 (am_i h b 9)) x = am_i h x := fun x hx => by rw [ii x (by omega)]; exact frq.2.2.2.2 x (fun z => by have := z.2; omega)
        have itop : am_top (am_pi (am_pi (am_pi (am_pi (am_pi h4 a 5 (am_i h b 5)) a 6 (am_i h b 6)) a 7 (am_i h b 7)) a 8 (am_i h b 8)) a 9 (am_i h b 9)) = am_top h := frq.1
        have ish : am_sh (am_pi (am_pi (am_pi (am_pi (am_pi h4 a 5 (am_i h b 5)) a 6 (am_i h b 6)) a 7 (am_i h b 7)) a 8 (am_i h b 8)) a 9 (am_i h b 9)) = am_sh h := frq.2.2.1
        refine ⟨c2, key, L, ⟨b1, by rw [itop]; exact b2, by rw [ish]; exact b3⟩, ⟨by rw [ic c b1]; exact t1, by rw [ic c b1]; exact t2, ?_⟩, ⟨u1, by rw [itop]; exact u2, by rw [ish]; exact u3⟩, hx, fun k hk => by rw [ic c2 u1]; exact hcs k hk⟩
        show am_r h4 c 2 = some c2
        rw [frq.2.2.2.1 c (by omega)]
        exact t3
    · rw [ii _ (by omega), i4 k hk, g3, f2.i1 (by omega), f1.i1 (by omega)]
      exact r.2.2.2.2.2 k hk
  · have fz : am_fr (cl_H a) h4 (am_pi (am_pi (am_pi (am_pi (am_pi h4 a 5 (am_i h b 5)) a 6 (am_i h b 6)) a 7 (am_i h b 7)) a 8 (am_i h b 8)) a 9 (am_i h b 9)) := ((((am_fr.pi (S := cl_H a) ⟨Nat.le_refl _, by omega⟩).tr (am_fr.pi ⟨Nat.le_refl _, by omega⟩)).tr (am_fr.pi ⟨Nat.le_refl _, by omega⟩)).tr (am_fr.pi ⟨Nat.le_refl _, by omega⟩)).tr (am_fr.pi ⟨Nat.le_refl _, by omega⟩)
    exact frq.tr fz.fq
  · intro t ht
    show am_r h4 (a + 3) t = _
    rw [f4.2.2.2.1, i3 t ht, f2.2.2.2.1, f1.2.2.2.1]
end CB2
