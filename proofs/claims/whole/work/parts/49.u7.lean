/-! the reference: fewest -/
def mt_un (go : Nat → Int32) (S : Int32) : Nat → Int32
  | 0 => 0
  | q + 1 => mt_un go S q ||| (if bt S q = true then go q else 0)
/-- the best set among the first k, and how many it has -/
def mt_bf (go : Nat → Int32) (oth : Int32) (n : Nat) : Nat → Int32 × Int32
  | 0 => (-1, 13)
  | k + 1 => if mt_ones (nI k) < (mt_bf go oth n k).2 ∧ mt_un go (nI k) n = oth then (nI k, mt_ones (nI k)) else mt_bf go oth n k
theorem mt_un_congr {go go2 : Nat → Int32} {S : Int32} : ∀ n, (∀ q, q < n → go q = go2 q) → mt_un go S n = mt_un go2 S n := by
  intro n
  induction n with
  | zero => intro _; rfl
  | succ n ih => intro hh; rw [mt_un, mt_un, ih (fun q hq => hh q (by omega)), hh n (by omega)]
theorem mt_bf_congr {go go2 : Nat → Int32} {oth : Int32} {n : Nat} (hh : ∀ q, q < n → go q = go2 q) : ∀ k, mt_bf go oth n k = mt_bf go2 oth n k := by
  intro k
  induction k with
  | zero => rfl
  | succ k ih => rw [mt_bf, mt_bf, ih, mt_un_congr n hh]
theorem mt_every_nI : ∀ n, n ≤ 12 → mt_every (nI n) = nI (2 ^ n - 1) := by decide +kernel
theorem mt_or0 (x : Int32) : x ||| 0 = x := by
  apply b_ext
  intro i hi
  rw [b_or, b_0, Bool.or_false]
section CF
variable {G : Nat → Nat} {d : Nat} {h : am_H} {m : Nat} {σ : Nat → Int32} {n nd nt : Nat}
theorem m_everybody3 (l : cm_Lay G h m) (hσ : am_i h (m + 1) = σ) : am_evm G d 141 [.ref m] h = some (some (.int (mt_every (σ 0))), h) := by subst hσ; exact m_everybody l
theorem m_fw_a (l : cm_Lay G h m) (hσ : am_i h (m + 1) = σ) (hs : mt_wf σ n nd nt) {p : Nat} {w o : Int32} : ∀ j q g, q + j = n → (∀ k, k < q → g k = mt_go σ n k) → ∃ g2, (∀ k, k < n → g2 k = mt_go σ n k) ∧ am_ev G (d + 3) 178 38 [some (.ref m), some (.int (nI p)), some (.int w), some (.int o), some (.int (nI q)), none, none, none, none, none] [] (am_pa h (m + 12) g) = am_ev G (d + 3) 178 78 [some (.ref m), some (.int (nI p)), some (.int w), some (.int o), some (.int (-1)), some (.int 13), some (.int (nI 0)), none, none, none] [] (am_pa h (m + 12) g2) := by
  have hn := hs.1.1.2
  have l2 : ∀ g, cm_Lay G (am_pa h (m + 12) g) m := fun g => l
  have s2 : ∀ g, am_i (am_pa h (m + 12) g) (m + 1) = σ := fun g => by rw [am_pa_i, if_neg (by omega), hσ]
  have i0 : ∀ g, am_ia G (am_pa h (m + 12) g) (m + 1) 0 := fun g => cm_ia1 (l2 g) (show 0 < 3114 by omega)
  intro j
  induction j with
  | zero =>
    intro q g hq hg
    obtain rfl : q = n := by omega
    refine ⟨g, hg, ?_⟩
    rw [e_178_38]
    simp only [n_178, e_178_0, e_178_1, e_178_2, e_178_5, e_178_8, e_178_9, e_178_10, e_178_11, e_178_12, e_178_15, e_178_18, e_178_20, e_178_21, e_178_22, e_178_25, e_178_26, e_178_27, e_178_28, e_178_31, e_178_32, e_178_33, f_178_34, e_178_35, f_178_36, e_178_40, e_178_41, e_178_44, e_178_45, e_178_46, e_178_49, e_178_50, e_178_53, e_178_55, e_178_56, e_178_58, e_178_61, f_178_62, e_178_65, e_178_68, f_178_69, e_178_71, f_178_73, e_178_75, f_178_76, e_178_80, e_178_81, e_178_84, e_178_87, e_178_89, f_178_92, e_178_94, e_178_96, e_178_98, e_178_101, f_178_102, e_178_104, f_178_105, e_178_109, e_178_110, e_178_113, e_178_114, e_178_115, e_178_118, e_178_120, e_178_122, e_178_124, e_178_125, e_178_126, e_178_127, e_178_128, e_178_131, e_178_132, e_178_135, e_178_137, e_178_138, e_178_142, f_178_143, f_178_145, e_178_148, e_178_141, e_178_151, e_178_153, e_178_154, e_178_157, e_178_159, f_178_164, e_178_166, e_178_168, e_178_169, e_178_172, e_178_174, f_178_179, f_178_181, e_178_184, e_178_177, e_178_162, e_178_187, e_178_189, e_178_192, e_178_194, e_178_208, e_178_197, e_178_198, e_178_201, e_178_203, e_178_206, Option.bind_some, Option.toList_some, Option.toList_none, List.cons_append, List.nil_append, am_k1_i, am_k1_r, am_k1_u, am_k1_n, am_bo0, am_bo1, am_boi, am_ev_tb, am_tb_nil, am_rfs, am_rfn, eq_self, and_self, if_true, if_false, show ¬ (1 : Int32) = 0 from by decide, show ¬ (0 : Int32) = 1 from by decide, not_true, not_false_eq_true, and_true, true_and, and_false, false_and, or_true, true_or, or_false, false_or, cm_ob (l2 _), cm_r0 (l2 _), i0, show (0 : Int32).toNatClampNeg = 0 from rfl, s2, hs.1.1.1, Int32.le_refl]
    rfl
  | succ j ih =>
    intro q g hq hg
    have hlt : ¬ nI n ≤ nI q := nI_ge (by omega) (by omega)
    obtain ⟨g2, hg2, e⟩ := ih (q + 1) (upd g q (mt_go σ n q)) (by omega) (fun k hk => by
      by_cases hkq : k = q
      · subst hkq; rw [pk_us]
      · rw [pk_un hkq]; exact hg k (by omega))
    refine ⟨g2, hg2, ?_⟩
    rw [← e, e_178_38]
    simp only [n_178, e_178_0, e_178_1, e_178_2, e_178_5, e_178_8, e_178_9, e_178_10, e_178_11, e_178_12, e_178_15, e_178_18, e_178_20, e_178_21, e_178_22, e_178_25, e_178_26, e_178_27, e_178_28, e_178_31, e_178_32, e_178_33, f_178_34, e_178_35, f_178_36, e_178_40, e_178_41, e_178_44, e_178_45, e_178_46, e_178_49, e_178_50, e_178_53, e_178_55, e_178_56, e_178_58, e_178_61, f_178_62, e_178_65, e_178_68, f_178_69, e_178_71, f_178_73, e_178_75, f_178_76, e_178_80, e_178_81, e_178_84, e_178_87, e_178_89, f_178_92, e_178_94, e_178_96, e_178_98, e_178_101, f_178_102, e_178_104, f_178_105, e_178_109, e_178_110, e_178_113, e_178_114, e_178_115, e_178_118, e_178_120, e_178_122, e_178_124, e_178_125, e_178_126, e_178_127, e_178_128, e_178_131, e_178_132, e_178_135, e_178_137, e_178_138, e_178_142, f_178_143, f_178_145, e_178_148, e_178_141, e_178_151, e_178_153, e_178_154, e_178_157, e_178_159, f_178_164, e_178_166, e_178_168, e_178_169, e_178_172, e_178_174, f_178_179, f_178_181, e_178_184, e_178_177, e_178_162, e_178_187, e_178_189, e_178_192, e_178_194, e_178_208, e_178_197, e_178_198, e_178_201, e_178_203, e_178_206, Option.bind_some, Option.toList_some, Option.toList_none, List.cons_append, List.nil_append, am_k1_i, am_k1_r, am_k1_u, am_k1_n, am_bo0, am_bo1, am_boi, am_ev_tb, am_tb_nil, am_rfs, am_rfn, eq_self, and_self, if_true, if_false, show ¬ (1 : Int32) = 0 from by decide, show ¬ (0 : Int32) = 1 from by decide, not_true, not_false_eq_true, and_true, true_and, and_false, false_and, or_true, true_or, or_false, false_or, cm_ob (l2 _), cm_r0 (l2 _), cm_r12 (l2 _), i0, show (0 : Int32).toNatClampNeg = 0 from rfl, s2, hs.1.1.1, hlt, m_goBy3 (l2 _) (s2 _) hs (show q < n by omega), cm_iw12 (l2 _) (show q < 12 by omega), am_cl (show q < 2147483648 by omega), nI_1]
    rw [am_pi_pa, am_pa_i, if_pos rfl, am_pa_pa]
theorem m_fw_c (l : cm_Lay G h m) (hσ : am_i h (m + 1) = σ) (hn : σ 0 = nI n) (hn12 : n ≤ 12) {p : Nat} {w o b f S y : Int32} : ∀ j q, q + j = n → am_ev G d 178 107 [some (.ref m), some (.int (nI p)), some (.int w), some (.int o), some (.int b), some (.int f), some (.int S), some (.int y), some (.int (mt_un (am_i h (m + 12)) S q)), some (.int (nI q))] [] h = am_ev G d 178 151 [some (.ref m), some (.int (nI p)), some (.int w), some (.int o), some (.int b), some (.int f), some (.int S), some (.int y), some (.int (mt_un (am_i h (m + 12)) S n)), some (.int (nI n))] [] h := by
  have i0 : am_ia G h (m + 1) 0 := cm_ia1 l (show 0 < 3114 by omega)
  intro j
  induction j with
  | zero =>
    intro q hq
    obtain rfl : q = n := by omega
    rw [e_178_107]
    simp only [n_178, e_178_0, e_178_1, e_178_2, e_178_5, e_178_8, e_178_9, e_178_10, e_178_11, e_178_12, e_178_15, e_178_18, e_178_20, e_178_21, e_178_22, e_178_25, e_178_26, e_178_27, e_178_28, e_178_31, e_178_32, e_178_33, f_178_34, e_178_35, f_178_36, e_178_40, e_178_41, e_178_44, e_178_45, e_178_46, e_178_49, e_178_50, e_178_53, e_178_55, e_178_56, e_178_58, e_178_61, f_178_62, e_178_65, e_178_68, f_178_69, e_178_71, f_178_73, e_178_75, f_178_76, e_178_80, e_178_81, e_178_84, e_178_87, e_178_89, f_178_92, e_178_94, e_178_96, e_178_98, e_178_101, f_178_102, e_178_104, f_178_105, e_178_109, e_178_110, e_178_113, e_178_114, e_178_115, e_178_118, e_178_120, e_178_122, e_178_124, e_178_125, e_178_126, e_178_127, e_178_128, e_178_131, e_178_132, e_178_135, e_178_137, e_178_138, e_178_142, f_178_143, f_178_145, e_178_148, e_178_141, e_178_153, e_178_154, e_178_157, e_178_159, f_178_164, e_178_166, e_178_168, e_178_169, e_178_172, e_178_174, f_178_179, f_178_181, e_178_184, e_178_177, e_178_162, e_178_187, e_178_189, e_178_192, e_178_194, e_178_208, e_178_197, e_178_198, e_178_201, e_178_203, e_178_206, Option.bind_some, Option.toList_some, Option.toList_none, List.cons_append, List.nil_append, am_k1_i, am_k1_r, am_k1_u, am_k1_n, am_bo0, am_bo1, am_boi, am_ev_tb, am_tb_nil, am_rfs, am_rfn, eq_self, and_self, if_true, if_false, show ¬ (1 : Int32) = 0 from by decide, show ¬ (0 : Int32) = 1 from by decide, not_true, not_false_eq_true, and_true, true_and, and_false, false_and, or_true, true_or, or_false, false_or, cm_ob l, cm_r0 l, i0, show (0 : Int32).toNatClampNeg = 0 from rfl, hσ, hn, Int32.le_refl]
  | succ j ih =>
    intro q hq
    have hlt : ¬ nI n ≤ nI q := nI_ge (by omega) (by omega)
    rw [← ih (q + 1) (by omega), e_178_107, mt_un]
    by_cases hb : bt S q = true
    · simp only [n_178, e_178_0, e_178_1, e_178_2, e_178_5, e_178_8, e_178_9, e_178_10, e_178_11, e_178_12, e_178_15, e_178_18, e_178_20, e_178_21, e_178_22, e_178_25, e_178_26, e_178_27, e_178_28, e_178_31, e_178_32, e_178_33, f_178_34, e_178_35, f_178_36, e_178_40, e_178_41, e_178_44, e_178_45, e_178_46, e_178_49, e_178_50, e_178_53, e_178_55, e_178_56, e_178_58, e_178_61, f_178_62, e_178_65, e_178_68, f_178_69, e_178_71, f_178_73, e_178_75, f_178_76, e_178_80, e_178_81, e_178_84, e_178_87, e_178_89, f_178_92, e_178_94, e_178_96, e_178_98, e_178_101, f_178_102, e_178_104, f_178_105, e_178_109, e_178_110, e_178_113, e_178_114, e_178_115, e_178_118, e_178_120, e_178_122, e_178_124, e_178_125, e_178_126, e_178_127, e_178_128, e_178_131, e_178_132, e_178_135, e_178_137, e_178_138, e_178_142, f_178_143, f_178_145, e_178_148, e_178_141, e_178_153, e_178_154, e_178_157, e_178_159, f_178_164, e_178_166, e_178_168, e_178_169, e_178_172, e_178_174, f_178_179, f_178_181, e_178_184, e_178_177, e_178_162, e_178_187, e_178_189, e_178_192, e_178_194, e_178_208, e_178_197, e_178_198, e_178_201, e_178_203, e_178_206, Option.bind_some, Option.toList_some, Option.toList_none, List.cons_append, List.nil_append, am_k1_i, am_k1_r, am_k1_u, am_k1_n, am_bo0, am_bo1, am_boi, am_ev_tb, am_tb_nil, am_rfs, am_rfn, eq_self, and_self, if_true, if_false, show ¬ (1 : Int32) = 0 from by decide, show ¬ (0 : Int32) = 1 from by decide, not_true, not_false_eq_true, and_true, true_and, and_false, false_and, or_true, true_or, or_false, false_or, cm_ob l, cm_r0 l, cm_r12 l, i0, show (0 : Int32).toNatClampNeg = 0 from rfl, hσ, hn, hlt, mt_sshr S (show q < 32 by omega), mt_b1, hb, cm_ia12 l (show q < 12 by omega), am_cl (show q < 2147483648 by omega), nI_1]
    · simp only [n_178, e_178_0, e_178_1, e_178_2, e_178_5, e_178_8, e_178_9, e_178_10, e_178_11, e_178_12, e_178_15, e_178_18, e_178_20, e_178_21, e_178_22, e_178_25, e_178_26, e_178_27, e_178_28, e_178_31, e_178_32, e_178_33, f_178_34, e_178_35, f_178_36, e_178_40, e_178_41, e_178_44, e_178_45, e_178_46, e_178_49, e_178_50, e_178_53, e_178_55, e_178_56, e_178_58, e_178_61, f_178_62, e_178_65, e_178_68, f_178_69, e_178_71, f_178_73, e_178_75, f_178_76, e_178_80, e_178_81, e_178_84, e_178_87, e_178_89, f_178_92, e_178_94, e_178_96, e_178_98, e_178_101, f_178_102, e_178_104, f_178_105, e_178_109, e_178_110, e_178_113, e_178_114, e_178_115, e_178_118, e_178_120, e_178_122, e_178_124, e_178_125, e_178_126, e_178_127, e_178_128, e_178_131, e_178_132, e_178_135, e_178_137, e_178_138, e_178_142, f_178_143, f_178_145, e_178_148, e_178_141, e_178_153, e_178_154, e_178_157, e_178_159, f_178_164, e_178_166, e_178_168, e_178_169, e_178_172, e_178_174, f_178_179, f_178_181, e_178_184, e_178_177, e_178_162, e_178_187, e_178_189, e_178_192, e_178_194, e_178_208, e_178_197, e_178_198, e_178_201, e_178_203, e_178_206, Option.bind_some, Option.toList_some, Option.toList_none, List.cons_append, List.nil_append, am_k1_i, am_k1_r, am_k1_u, am_k1_n, am_bo0, am_bo1, am_boi, am_ev_tb, am_tb_nil, am_rfs, am_rfn, eq_self, and_self, if_true, if_false, show ¬ (1 : Int32) = 0 from by decide, show ¬ (0 : Int32) = 1 from by decide, not_true, not_false_eq_true, and_true, true_and, and_false, false_and, or_true, true_or, or_false, false_or, cm_ob l, cm_r0 l, cm_r12 l, i0, show (0 : Int32).toNatClampNeg = 0 from rfl, hσ, hn, hlt, mt_sshr S (show q < 32 by omega), mt_b1, hb, nI_1, Bool.false_eq_true]
theorem m_fw_b (l : cm_Lay G h m) (hσ : am_i h (m + 1) = σ) (hn : σ 0 = nI n) (hn12 : n ≤ 12) {p : Nat} {w o : Int32} : ∀ j k x7 x8 x9, k + j = 2 ^ n → am_ev G (d + 1) 178 78 [some (.ref m), some (.int (nI p)), some (.int w), some (.int o), some (.int (mt_bf (am_i h (m + 12)) o n k).1), some (.int (mt_bf (am_i h (m + 12)) o n k).2), some (.int (nI k)), x7, x8, x9] [] h = some (some (.int (if (mt_bf (am_i h (m + 12)) o n (2 ^ n)).1 < 0 then -1000000005 else if w = 0 then (mt_bf (am_i h (m + 12)) o n (2 ^ n)).2 else (mt_bf (am_i h (m + 12)) o n (2 ^ n)).1)), h) := by
  have hpow : 2 ^ n ≤ 4096 := Nat.pow_le_pow_right (n := 2) (by omega) hn12
  have hpos : 0 < 2 ^ n := Nat.two_pow_pos n
  have hev := m_everybody3 (d := d) l hσ
  rw [hn, mt_every_nI n hn12] at hev
  intro j
  induction j with
  | zero =>
    intro k x7 x8 x9 hk
    obtain rfl : k = 2 ^ n := by omega
    have h1 : nI (2 ^ n - 1) < nI (2 ^ n) := nI_lt (by omega) (by omega)
    rw [e_178_78]
    generalize mt_bf (am_i h (m + 12)) o n (2 ^ n) = B
    by_cases hB : B.1 < 0
    · simp only [n_178, e_178_0, e_178_1, e_178_2, e_178_5, e_178_8, e_178_9, e_178_10, e_178_11, e_178_12, e_178_15, e_178_18, e_178_20, e_178_21, e_178_22, e_178_25, e_178_26, e_178_27, e_178_28, e_178_31, e_178_32, e_178_33, f_178_34, e_178_35, f_178_36, e_178_40, e_178_41, e_178_44, e_178_45, e_178_46, e_178_49, e_178_50, e_178_53, e_178_55, e_178_56, e_178_58, e_178_61, f_178_62, e_178_65, e_178_68, f_178_69, e_178_71, f_178_73, e_178_75, f_178_76, e_178_80, e_178_81, e_178_84, e_178_87, e_178_89, f_178_92, e_178_94, e_178_96, e_178_98, e_178_101, f_178_102, e_178_104, f_178_105, e_178_109, e_178_110, e_178_113, e_178_114, e_178_115, e_178_118, e_178_120, e_178_122, e_178_124, e_178_125, e_178_126, e_178_127, e_178_128, e_178_131, e_178_132, e_178_135, e_178_137, e_178_138, e_178_142, f_178_143, f_178_145, e_178_148, e_178_141, e_178_151, e_178_153, e_178_154, e_178_157, e_178_159, f_178_164, e_178_166, e_178_168, e_178_169, e_178_172, e_178_174, f_178_179, f_178_181, e_178_184, e_178_177, e_178_162, e_178_187, e_178_189, e_178_192, e_178_194, e_178_208, e_178_197, e_178_198, e_178_201, e_178_203, e_178_206, Option.bind_some, Option.toList_some, Option.toList_none, List.cons_append, List.nil_append, am_k1_i, am_k1_r, am_k1_u, am_k1_n, am_bo0, am_bo1, am_boi, am_ev_tb, am_tb_nil, am_rfs, am_rfn, eq_self, and_self, if_true, if_false, show ¬ (1 : Int32) = 0 from by decide, show ¬ (0 : Int32) = 1 from by decide, not_true, not_false_eq_true, and_true, true_and, and_false, false_and, or_true, true_or, or_false, false_or, cm_ob l, hev, h1, hB, Int32.not_le.mpr hB]
    · by_cases hw : w = 0
      · simp only [n_178, e_178_0, e_178_1, e_178_2, e_178_5, e_178_8, e_178_9, e_178_10, e_178_11, e_178_12, e_178_15, e_178_18, e_178_20, e_178_21, e_178_22, e_178_25, e_178_26, e_178_27, e_178_28, e_178_31, e_178_32, e_178_33, f_178_34, e_178_35, f_178_36, e_178_40, e_178_41, e_178_44, e_178_45, e_178_46, e_178_49, e_178_50, e_178_53, e_178_55, e_178_56, e_178_58, e_178_61, f_178_62, e_178_65, e_178_68, f_178_69, e_178_71, f_178_73, e_178_75, f_178_76, e_178_80, e_178_81, e_178_84, e_178_87, e_178_89, f_178_92, e_178_94, e_178_96, e_178_98, e_178_101, f_178_102, e_178_104, f_178_105, e_178_109, e_178_110, e_178_113, e_178_114, e_178_115, e_178_118, e_178_120, e_178_122, e_178_124, e_178_125, e_178_126, e_178_127, e_178_128, e_178_131, e_178_132, e_178_135, e_178_137, e_178_138, e_178_142, f_178_143, f_178_145, e_178_148, e_178_141, e_178_151, e_178_153, e_178_154, e_178_157, e_178_159, f_178_164, e_178_166, e_178_168, e_178_169, e_178_172, e_178_174, f_178_179, f_178_181, e_178_184, e_178_177, e_178_162, e_178_187, e_178_189, e_178_192, e_178_194, e_178_208, e_178_197, e_178_198, e_178_201, e_178_203, e_178_206, Option.bind_some, Option.toList_some, Option.toList_none, List.cons_append, List.nil_append, am_k1_i, am_k1_r, am_k1_u, am_k1_n, am_bo0, am_bo1, am_boi, am_ev_tb, am_tb_nil, am_rfs, am_rfn, eq_self, and_self, if_true, if_false, show ¬ (1 : Int32) = 0 from by decide, show ¬ (0 : Int32) = 1 from by decide, not_true, not_false_eq_true, and_true, true_and, and_false, false_and, or_true, true_or, or_false, false_or, cm_ob l, hev, h1, hB, Int32.not_lt.mp hB, hw]
      · simp only [n_178, e_178_0, e_178_1, e_178_2, e_178_5, e_178_8, e_178_9, e_178_10, e_178_11, e_178_12, e_178_15, e_178_18, e_178_20, e_178_21, e_178_22, e_178_25, e_178_26, e_178_27, e_178_28, e_178_31, e_178_32, e_178_33, f_178_34, e_178_35, f_178_36, e_178_40, e_178_41, e_178_44, e_178_45, e_178_46, e_178_49, e_178_50, e_178_53, e_178_55, e_178_56, e_178_58, e_178_61, f_178_62, e_178_65, e_178_68, f_178_69, e_178_71, f_178_73, e_178_75, f_178_76, e_178_80, e_178_81, e_178_84, e_178_87, e_178_89, f_178_92, e_178_94, e_178_96, e_178_98, e_178_101, f_178_102, e_178_104, f_178_105, e_178_109, e_178_110, e_178_113, e_178_114, e_178_115, e_178_118, e_178_120, e_178_122, e_178_124, e_178_125, e_178_126, e_178_127, e_178_128, e_178_131, e_178_132, e_178_135, e_178_137, e_178_138, e_178_142, f_178_143, f_178_145, e_178_148, e_178_141, e_178_151, e_178_153, e_178_154, e_178_157, e_178_159, f_178_164, e_178_166, e_178_168, e_178_169, e_178_172, e_178_174, f_178_179, f_178_181, e_178_184, e_178_177, e_178_162, e_178_187, e_178_189, e_178_192, e_178_194, e_178_208, e_178_197, e_178_198, e_178_201, e_178_203, e_178_206, Option.bind_some, Option.toList_some, Option.toList_none, List.cons_append, List.nil_append, am_k1_i, am_k1_r, am_k1_u, am_k1_n, am_bo0, am_bo1, am_boi, am_ev_tb, am_tb_nil, am_rfs, am_rfn, eq_self, and_self, if_true, if_false, show ¬ (1 : Int32) = 0 from by decide, show ¬ (0 : Int32) = 1 from by decide, not_true, not_false_eq_true, and_true, true_and, and_false, false_and, or_true, true_or, or_false, false_or, cm_ob l, hev, h1, hB, Int32.not_lt.mp hB, hw]
  | succ j ih =>
    intro k x7 x8 x9 hk
    have h1 : ¬ nI (2 ^ n - 1) < nI k := nI_nlt (by omega) (by omega)
    have st := ih (k + 1)
    rw [mt_bf] at st
    rw [e_178_78]
    generalize mt_bf (am_i h (m + 12)) o n k = B at st
    by_cases c1 : mt_ones (nI k) < B.2
    · have inner := fun b f y => m_fw_c (d := d + 1) (p := p) (w := w) (o := o) (b := b) (f := f) (S := nI k) (y := y) l hσ hn hn12 n 0 (by omega)
      simp only [n_178, e_178_0, e_178_1, e_178_2, e_178_5, e_178_8, e_178_9, e_178_10, e_178_11, e_178_12, e_178_15, e_178_18, e_178_20, e_178_21, e_178_22, e_178_25, e_178_26, e_178_27, e_178_28, e_178_31, e_178_32, e_178_33, f_178_34, e_178_35, f_178_36, e_178_40, e_178_41, e_178_44, e_178_45, e_178_46, e_178_49, e_178_50, e_178_53, e_178_55, e_178_56, e_178_58, e_178_61, f_178_62, e_178_65, e_178_68, f_178_69, e_178_71, f_178_73, e_178_75, f_178_76, e_178_80, e_178_81, e_178_84, e_178_87, e_178_89, f_178_92, e_178_94, e_178_96, e_178_98, e_178_101, f_178_102, e_178_104, f_178_105, e_178_109, e_178_110, e_178_113, e_178_114, e_178_115, e_178_118, e_178_120, e_178_122, e_178_124, e_178_125, e_178_126, e_178_127, e_178_128, e_178_131, e_178_132, e_178_135, e_178_137, e_178_138, e_178_142, f_178_143, f_178_145, e_178_148, e_178_141, e_178_153, e_178_154, e_178_157, e_178_159, f_178_164, e_178_166, e_178_168, e_178_169, e_178_172, e_178_174, f_178_179, f_178_181, e_178_184, e_178_177, e_178_162, e_178_187, e_178_189, e_178_192, e_178_194, e_178_208, e_178_197, e_178_198, e_178_201, e_178_203, e_178_206, Option.bind_some, Option.toList_some, Option.toList_none, List.cons_append, List.nil_append, am_k1_i, am_k1_r, am_k1_u, am_k1_n, am_bo0, am_bo1, am_boi, am_ev_tb, am_tb_nil, am_rfs, am_rfn, eq_self, and_self, if_true, if_false, show ¬ (1 : Int32) = 0 from by decide, show ¬ (0 : Int32) = 1 from by decide, not_true, not_false_eq_true, and_true, true_and, and_false, false_and, or_true, true_or, or_false, false_or, cm_ob l, hev, h1, m_ones, Int32.not_le.mpr c1]
      rw [show ((0 : Int32)) = nI 0 from rfl]
      rw [mt_un] at inner
      refine (inner _ _ _).trans ?_
      rw [e_178_151]
      by_cases c2 : mt_un (am_i h (m + 12)) (nI k) n = o
      · rw [if_pos ⟨c1, c2⟩] at st
        simp only [n_178, e_178_0, e_178_1, e_178_2, e_178_5, e_178_8, e_178_9, e_178_10, e_178_11, e_178_12, e_178_15, e_178_18, e_178_20, e_178_21, e_178_22, e_178_25, e_178_26, e_178_27, e_178_28, e_178_31, e_178_32, e_178_33, f_178_34, e_178_35, f_178_36, e_178_40, e_178_41, e_178_44, e_178_45, e_178_46, e_178_49, e_178_50, e_178_53, e_178_55, e_178_56, e_178_58, e_178_61, f_178_62, e_178_65, e_178_68, f_178_69, e_178_71, f_178_73, e_178_75, f_178_76, e_178_80, e_178_81, e_178_84, e_178_87, e_178_89, f_178_92, e_178_94, e_178_96, e_178_98, e_178_101, f_178_102, e_178_104, f_178_105, e_178_109, e_178_110, e_178_113, e_178_114, e_178_115, e_178_118, e_178_120, e_178_122, e_178_124, e_178_125, e_178_126, e_178_127, e_178_128, e_178_131, e_178_132, e_178_135, e_178_137, e_178_138, e_178_142, f_178_143, f_178_145, e_178_148, e_178_141, e_178_153, e_178_154, e_178_157, e_178_159, f_178_164, e_178_166, e_178_168, e_178_169, e_178_172, e_178_174, f_178_179, f_178_181, e_178_184, e_178_177, e_178_162, e_178_187, e_178_189, e_178_192, e_178_194, e_178_208, e_178_197, e_178_198, e_178_201, e_178_203, e_178_206, Option.bind_some, Option.toList_some, Option.toList_none, List.cons_append, List.nil_append, am_k1_i, am_k1_r, am_k1_u, am_k1_n, am_bo0, am_bo1, am_boi, am_ev_tb, am_tb_nil, am_rfs, am_rfn, eq_self, and_self, if_true, if_false, show ¬ (1 : Int32) = 0 from by decide, show ¬ (0 : Int32) = 1 from by decide, not_true, not_false_eq_true, and_true, true_and, and_false, false_and, or_true, true_or, or_false, false_or, c2, nI_1]
        exact st _ _ _ (by omega)
      · rw [if_neg (fun z => c2 z.2)] at st
        simp only [n_178, e_178_0, e_178_1, e_178_2, e_178_5, e_178_8, e_178_9, e_178_10, e_178_11, e_178_12, e_178_15, e_178_18, e_178_20, e_178_21, e_178_22, e_178_25, e_178_26, e_178_27, e_178_28, e_178_31, e_178_32, e_178_33, f_178_34, e_178_35, f_178_36, e_178_40, e_178_41, e_178_44, e_178_45, e_178_46, e_178_49, e_178_50, e_178_53, e_178_55, e_178_56, e_178_58, e_178_61, f_178_62, e_178_65, e_178_68, f_178_69, e_178_71, f_178_73, e_178_75, f_178_76, e_178_80, e_178_81, e_178_84, e_178_87, e_178_89, f_178_92, e_178_94, e_178_96, e_178_98, e_178_101, f_178_102, e_178_104, f_178_105, e_178_109, e_178_110, e_178_113, e_178_114, e_178_115, e_178_118, e_178_120, e_178_122, e_178_124, e_178_125, e_178_126, e_178_127, e_178_128, e_178_131, e_178_132, e_178_135, e_178_137, e_178_138, e_178_142, f_178_143, f_178_145, e_178_148, e_178_141, e_178_153, e_178_154, e_178_157, e_178_159, f_178_164, e_178_166, e_178_168, e_178_169, e_178_172, e_178_174, f_178_179, f_178_181, e_178_184, e_178_177, e_178_162, e_178_187, e_178_189, e_178_192, e_178_194, e_178_208, e_178_197, e_178_198, e_178_201, e_178_203, e_178_206, Option.bind_some, Option.toList_some, Option.toList_none, List.cons_append, List.nil_append, am_k1_i, am_k1_r, am_k1_u, am_k1_n, am_bo0, am_bo1, am_boi, am_ev_tb, am_tb_nil, am_rfs, am_rfn, eq_self, and_self, if_true, if_false, show ¬ (1 : Int32) = 0 from by decide, show ¬ (0 : Int32) = 1 from by decide, not_true, not_false_eq_true, and_true, true_and, and_false, false_and, or_true, true_or, or_false, false_or, c2, nI_1]
        exact st _ _ _ (by omega)
    · rw [if_neg (fun z => c1 z.1)] at st
      simp only [n_178, e_178_0, e_178_1, e_178_2, e_178_5, e_178_8, e_178_9, e_178_10, e_178_11, e_178_12, e_178_15, e_178_18, e_178_20, e_178_21, e_178_22, e_178_25, e_178_26, e_178_27, e_178_28, e_178_31, e_178_32, e_178_33, f_178_34, e_178_35, f_178_36, e_178_40, e_178_41, e_178_44, e_178_45, e_178_46, e_178_49, e_178_50, e_178_53, e_178_55, e_178_56, e_178_58, e_178_61, f_178_62, e_178_65, e_178_68, f_178_69, e_178_71, f_178_73, e_178_75, f_178_76, e_178_80, e_178_81, e_178_84, e_178_87, e_178_89, f_178_92, e_178_94, e_178_96, e_178_98, e_178_101, f_178_102, e_178_104, f_178_105, e_178_109, e_178_110, e_178_113, e_178_114, e_178_115, e_178_118, e_178_120, e_178_122, e_178_124, e_178_125, e_178_126, e_178_127, e_178_128, e_178_131, e_178_132, e_178_135, e_178_137, e_178_138, e_178_142, f_178_143, f_178_145, e_178_148, e_178_141, e_178_153, e_178_154, e_178_157, e_178_159, f_178_164, e_178_166, e_178_168, e_178_169, e_178_172, e_178_174, f_178_179, f_178_181, e_178_184, e_178_177, e_178_162, e_178_187, e_178_189, e_178_192, e_178_194, e_178_208, e_178_197, e_178_198, e_178_201, e_178_203, e_178_206, Option.bind_some, Option.toList_some, Option.toList_none, List.cons_append, List.nil_append, am_k1_i, am_k1_r, am_k1_u, am_k1_n, am_bo0, am_bo1, am_boi, am_ev_tb, am_tb_nil, am_rfs, am_rfn, eq_self, and_self, if_true, if_false, show ¬ (1 : Int32) = 0 from by decide, show ¬ (0 : Int32) = 1 from by decide, not_true, not_false_eq_true, and_true, true_and, and_false, false_and, or_true, true_or, or_false, false_or, cm_ob l, hev, h1, m_ones, Int32.not_lt.mp c1, nI_1]
      exact st _ _ _ (by omega)
theorem m_fewest0 (l : cm_Lay G h m) {v w : Int32} (hv : ¬ ((0 ≤ v ∧ v ≤ am_i h (m + 1) 1 - 1) ∧ 0 ≤ w ∧ w ≤ 1)) : am_evm G (d + 3) 178 [.ref m, .int v, .int w] h = some (some (.int (-1000000001)), h) := by
  by_cases h1 : 0 ≤ v ∧ v ≤ am_i h (m + 1) 1 - 1
  · have h2 : ¬ (0 ≤ w ∧ w ≤ 1) := fun z => hv ⟨h1, z⟩
    simp only [n_178, e_178_0, e_178_1, e_178_2, e_178_5, e_178_8, e_178_9, e_178_10, e_178_11, e_178_12, e_178_15, e_178_18, e_178_20, e_178_21, e_178_22, e_178_25, e_178_26, e_178_27, e_178_28, e_178_31, e_178_32, e_178_33, f_178_34, e_178_35, f_178_36, e_178_40, e_178_41, e_178_44, e_178_45, e_178_46, e_178_49, e_178_50, e_178_53, e_178_55, e_178_56, e_178_58, e_178_61, f_178_62, e_178_65, e_178_68, f_178_69, e_178_71, f_178_73, e_178_75, f_178_76, e_178_80, e_178_81, e_178_84, e_178_87, e_178_89, f_178_92, e_178_94, e_178_96, e_178_98, e_178_101, f_178_102, e_178_104, f_178_105, e_178_109, e_178_110, e_178_113, e_178_114, e_178_115, e_178_118, e_178_120, e_178_122, e_178_124, e_178_125, e_178_126, e_178_127, e_178_128, e_178_131, e_178_132, e_178_135, e_178_137, e_178_138, e_178_142, f_178_143, f_178_145, e_178_148, e_178_141, e_178_151, e_178_153, e_178_154, e_178_157, e_178_159, f_178_164, e_178_166, e_178_168, e_178_169, e_178_172, e_178_174, f_178_179, f_178_181, e_178_184, e_178_177, e_178_162, e_178_187, e_178_189, e_178_192, e_178_194, e_178_208, e_178_197, e_178_198, e_178_201, e_178_203, e_178_206, Option.bind_some, Option.toList_some, Option.toList_none, List.cons_append, List.nil_append, am_k1_i, am_k1_r, am_k1_u, am_k1_n, am_bo0, am_bo1, am_boi, am_ev_tb, am_tb_nil, am_rfs, am_rfn, eq_self, and_self, if_true, if_false, show ¬ (1 : Int32) = 0 from by decide, show ¬ (0 : Int32) = 1 from by decide, not_true, not_false_eq_true, and_true, true_and, and_false, false_and, or_true, true_or, or_false, false_or, cm_ob l, m_isDeed l, h1, h2, m_i0_1]
  · simp only [n_178, e_178_0, e_178_1, e_178_2, e_178_5, e_178_8, e_178_9, e_178_10, e_178_11, e_178_12, e_178_15, e_178_18, e_178_20, e_178_21, e_178_22, e_178_25, e_178_26, e_178_27, e_178_28, e_178_31, e_178_32, e_178_33, f_178_34, e_178_35, f_178_36, e_178_40, e_178_41, e_178_44, e_178_45, e_178_46, e_178_49, e_178_50, e_178_53, e_178_55, e_178_56, e_178_58, e_178_61, f_178_62, e_178_65, e_178_68, f_178_69, e_178_71, f_178_73, e_178_75, f_178_76, e_178_80, e_178_81, e_178_84, e_178_87, e_178_89, f_178_92, e_178_94, e_178_96, e_178_98, e_178_101, f_178_102, e_178_104, f_178_105, e_178_109, e_178_110, e_178_113, e_178_114, e_178_115, e_178_118, e_178_120, e_178_122, e_178_124, e_178_125, e_178_126, e_178_127, e_178_128, e_178_131, e_178_132, e_178_135, e_178_137, e_178_138, e_178_142, f_178_143, f_178_145, e_178_148, e_178_141, e_178_151, e_178_153, e_178_154, e_178_157, e_178_159, f_178_164, e_178_166, e_178_168, e_178_169, e_178_172, e_178_174, f_178_179, f_178_181, e_178_184, e_178_177, e_178_162, e_178_187, e_178_189, e_178_192, e_178_194, e_178_208, e_178_197, e_178_198, e_178_201, e_178_203, e_178_206, Option.bind_some, Option.toList_some, Option.toList_none, List.cons_append, List.nil_append, am_k1_i, am_k1_r, am_k1_u, am_k1_n, am_bo0, am_bo1, am_boi, am_ev_tb, am_tb_nil, am_rfs, am_rfn, eq_self, and_self, if_true, if_false, show ¬ (1 : Int32) = 0 from by decide, show ¬ (0 : Int32) = 1 from by decide, not_true, not_false_eq_true, and_true, true_and, and_false, false_and, or_true, true_or, or_false, false_or, cm_ob l, m_isDeed l, h1]
noncomputable def mt_few (σ : Nat → Int32) (n p : Nat) : Int32 × Int32 := mt_bf (mt_go σ n) (mt_every (σ 0) &&& (σ (66 + 6 * p + 0) ^^^ (-1))) n (2 ^ n)
theorem m_fewest (l : cm_Lay G h m) (hσ : am_i h (m + 1) = σ) (hs : mt_wf σ n nd nt) {p : Nat} (hp : p < nd) {w : Int32} (hw : 0 ≤ w ∧ w ≤ 1) : ∃ g, am_evm G (d + 3) 178 [.ref m, .int (nI p), .int w] h = some (some (.int (if (mt_few σ n p).1 < 0 then -1000000005 else if w = 0 then (mt_few σ n p).2 else (mt_few σ n p).1)), am_pa h (m + 12) g) := by
  have hv := mt_inD hs hp
  have hnd := hs.1.2.1.2
  have hn := hs.1.1.2
  have b0 : am_evm G (d + 2) 137 [.ref m, .int (nI p), .int 0] h = _ := m_dee3 (j := 0) l hσ (show 66 + 6 * p + 0 < 3114 by omega)
  obtain ⟨g, hg, e⟩ := m_fw_a (d := d) (p := p) (w := w) (o := mt_every (σ 0) &&& (σ (66 + 6 * p + 0) ^^^ (-1))) l hσ hs n 0 (am_i h (m + 12)) (by omega) (fun k hk => absurd hk (Nat.not_lt_zero k))
  rw [am_pa_self] at e
  refine ⟨g, ?_⟩
  have l2 : cm_Lay G (am_pa h (m + 12) g) m := l
  have s2 : am_i (am_pa h (m + 12) g) (m + 1) = σ := by rw [am_pa_i, if_neg (by omega), hσ]
  have e2 := m_fw_b (d := d + 2) (p := p) (w := w) (o := mt_every (σ 0) &&& (σ (66 + 6 * p + 0) ^^^ (-1))) l2 s2 hs.1.1.1 hn (2 ^ n) 0 none none none (by omega)
  rw [am_pa_i, if_pos rfl] at e2
  simp only [mt_bf_congr hg] at e2
  simp only [n_178, e_178_0, e_178_1, e_178_2, e_178_5, e_178_8, e_178_9, e_178_10, e_178_11, e_178_12, e_178_15, e_178_18, e_178_20, e_178_21, e_178_22, e_178_25, e_178_26, e_178_27, e_178_28, e_178_31, e_178_32, e_178_33, f_178_34, e_178_35, f_178_36, e_178_40, e_178_41, e_178_44, e_178_45, e_178_46, e_178_49, e_178_50, e_178_53, e_178_55, e_178_56, e_178_58, e_178_61, f_178_62, e_178_65, e_178_68, f_178_69, e_178_71, f_178_73, e_178_75, f_178_76, e_178_80, e_178_81, e_178_84, e_178_87, e_178_89, f_178_92, e_178_94, e_178_96, e_178_98, e_178_101, f_178_102, e_178_104, f_178_105, e_178_109, e_178_110, e_178_113, e_178_114, e_178_115, e_178_118, e_178_120, e_178_122, e_178_124, e_178_125, e_178_126, e_178_127, e_178_128, e_178_131, e_178_132, e_178_135, e_178_137, e_178_138, e_178_142, f_178_143, f_178_145, e_178_148, e_178_141, e_178_151, e_178_153, e_178_154, e_178_157, e_178_159, f_178_164, e_178_166, e_178_168, e_178_169, e_178_172, e_178_174, f_178_179, f_178_181, e_178_184, e_178_177, e_178_162, e_178_187, e_178_189, e_178_192, e_178_194, e_178_208, e_178_197, e_178_198, e_178_201, e_178_203, e_178_206, Option.bind_some, Option.toList_some, Option.toList_none, List.cons_append, List.nil_append, am_k1_i, am_k1_r, am_k1_u, am_k1_n, am_bo0, am_bo1, am_boi, am_ev_tb, am_tb_nil, am_rfs, am_rfn, eq_self, and_self, if_true, if_false, show ¬ (1 : Int32) = 0 from by decide, show ¬ (0 : Int32) = 1 from by decide, not_true, not_false_eq_true, and_true, true_and, and_false, false_and, or_true, true_or, or_false, false_or, cm_ob l, m_isDeed3 l hσ, hv, hw, m_i0_1, m_everybody3 l hσ, b0]
  exact e.trans e2
end CF
/-! which set is the fewest -/
def mt_sw (w : Nat → Nat) (S : Nat → Bool) : Nat → Nat
  | 0 => 0
  | n + 1 => mt_sw w S n + (if S n = true then w n else 0)
theorem mt_sw_rm {w : Nat → Nat} {S : Nat → Bool} {s : Nat} (hs : S s = true) : ∀ n, s < n → mt_sw w S n = mt_sw w (fun i => S i && !decide (i = s)) n + w s := by
  have low : ∀ n, n ≤ s → mt_sw w S n = mt_sw w (fun i => S i && !decide (i = s)) n := by
    intro n
    induction n with
    | zero => intro _; rfl
    | succ n ih =>
      intro hn
      rw [mt_sw, mt_sw, ih (by omega)]
      have : decide (n = s) = false := decide_eq_false (by omega)
      simp [this]
  intro n
  induction n with
  | zero => intro h; omega
  | succ n ih =>
    intro hn
    rw [mt_sw, mt_sw]
    by_cases e : n = s
    · subst e
      rw [low n (Nat.le_refl _), hs]
      simp
    · rw [ih (by omega)]
      have : decide (n = s) = false := decide_eq_false e
      simp only [this, Bool.not_false, Bool.and_true]
      omega
theorem mt_sw_inj {w : Nat → Nat} (hw : ∀ i j, i ≤ j → w i ≤ w j) {N : Nat} : ∀ n (M S : Nat → Bool) (φ : Nat → Nat), (∀ p, p < n → M p = true → p ≤ φ p ∧ φ p < N ∧ S (φ p) = true) → (∀ p q, p < n → q < n → M p = true → M q = true → φ p = φ q → p = q) → mt_sw w M n ≤ mt_sw w S N := by
  intro n
  induction n with
  | zero => intro M S φ _ _; exact Nat.zero_le _
  | succ n ih =>
    intro M S φ h1 h2
    rw [mt_sw]
    by_cases hm : M n = true
    · obtain ⟨a1, a2, a3⟩ := h1 n (by omega) hm
      rw [if_pos hm, mt_sw_rm a3 N a2]
      have := ih M (fun i => S i && !decide (i = φ n)) φ (fun p hp hmp => by
        obtain ⟨b1, b2, b3⟩ := h1 p (by omega) hmp
        refine ⟨b1, b2, ?_⟩
        have hne : ¬ φ p = φ n := fun z => by have := h2 p n (by omega) (by omega) hmp hm z; omega
        simp [b3, hne]) (fun p q hp hq => h2 p q (by omega) (by omega))
      have := hw n (φ n) a1
      omega
    · rw [if_neg hm]
      exact ih M S φ (fun p hp => h1 p (by omega)) (fun p q hp hq => h2 p q (by omega) (by omega))
