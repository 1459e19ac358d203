/-! the class: what its texts give -/
theorem mt_divm1 (x : Int32) : x / (-1) = -x := by
  apply Int32.toInt_inj.mp
  rw [Int32.toInt_div, show Int32.toInt (-1) = -1 from by decide, Int.tdiv_neg, Int.tdiv_one, Int32.toInt_neg]
theorem mt_op_x {v : Int32} (h : mt_op v) : ¬ 20000 + v < 10000 ∧ ¬ 20000 + v < 20000 ∧ ¬ 20000 + v = 20033 ∧ 20000 + v - 20000 = v := by
  rcases h with rfl | rfl | rfl | rfl | rfl | rfl | rfl | rfl | rfl <;> decide
section CL
variable {G : Nat → Nat} {d : Nat} {h : am_H} {a : Nat} {σ : Nat → Int32} {n nd nt : Nat}
theorem c_joined {c x y : Int32} (hc : mt_op c) : am_evm G d 72 [.int c, .int x, .int y] h = some (some (.int (mt_join c x y)), h) := by
  unfold mt_join
  rcases hc with rfl | rfl | rfl | rfl | rfl | rfl | rfl | rfl | rfl
  · simp only [n_72, e_72_0, e_72_1, e_72_149, e_72_150, e_72_153, e_72_154, e_72_160, e_72_157, e_72_158, e_72_159, e_72_76, e_72_77, e_72_80, e_72_81, e_72_84, e_72_85, e_72_89, e_72_88, e_72_126, e_72_127, e_72_128, e_72_131, e_72_132, e_72_136, e_72_135, e_72_115, e_72_116, e_72_117, e_72_120, e_72_121, e_72_125, e_72_124, e_72_104, e_72_105, e_72_106, e_72_109, e_72_110, e_72_114, e_72_113, e_72_141, e_72_142, e_72_143, e_72_144, e_72_137, e_72_138, e_72_139, e_72_140, e_72_145, e_72_146, e_72_147, e_72_148, e_72_90, e_72_91, e_72_94, e_72_95, e_72_98, e_72_99, e_72_103, e_72_102, Option.bind_some, Option.toList_some, Option.toList_none, List.cons_append, List.nil_append, am_k1_i, am_k1_r, am_k1_u, am_k1_n, am_bo0, am_bo1, am_boi, am_ev_tb, am_tb_nil, am_rfs, am_rfn, eq_self]
    by_cases h1 : x = 0 <;> by_cases h2 : y = 0 <;> simp [h1, h2, Option.bind_some, Option.toList_some, Option.toList_none, List.cons_append, List.nil_append, am_k1_i, am_k1_r, am_k1_u, am_k1_n, am_bo0, am_bo1, am_boi, am_ev_tb, am_tb_nil, am_rfs, am_rfn, eq_self]
  · simp only [n_72, e_72_0, e_72_1, e_72_149, e_72_150, e_72_153, e_72_154, e_72_160, e_72_157, e_72_158, e_72_159, e_72_76, e_72_77, e_72_80, e_72_81, e_72_84, e_72_85, e_72_89, e_72_88, e_72_126, e_72_127, e_72_128, e_72_131, e_72_132, e_72_136, e_72_135, e_72_115, e_72_116, e_72_117, e_72_120, e_72_121, e_72_125, e_72_124, e_72_104, e_72_105, e_72_106, e_72_109, e_72_110, e_72_114, e_72_113, e_72_141, e_72_142, e_72_143, e_72_144, e_72_137, e_72_138, e_72_139, e_72_140, e_72_145, e_72_146, e_72_147, e_72_148, e_72_90, e_72_91, e_72_94, e_72_95, e_72_98, e_72_99, e_72_103, e_72_102, Option.bind_some, Option.toList_some, Option.toList_none, List.cons_append, List.nil_append, am_k1_i, am_k1_r, am_k1_u, am_k1_n, am_bo0, am_bo1, am_boi, am_ev_tb, am_tb_nil, am_rfs, am_rfn, eq_self]
    by_cases h1 : x = 0 <;> by_cases h2 : y = 0 <;> simp [h1, h2, Option.bind_some, Option.toList_some, Option.toList_none, List.cons_append, List.nil_append, am_k1_i, am_k1_r, am_k1_u, am_k1_n, am_bo0, am_bo1, am_boi, am_ev_tb, am_tb_nil, am_rfs, am_rfn, eq_self]
  · simp only [n_72, e_72_0, e_72_1, e_72_149, e_72_150, e_72_153, e_72_154, e_72_160, e_72_157, e_72_158, e_72_159, e_72_76, e_72_77, e_72_80, e_72_81, e_72_84, e_72_85, e_72_89, e_72_88, e_72_126, e_72_127, e_72_128, e_72_131, e_72_132, e_72_136, e_72_135, e_72_115, e_72_116, e_72_117, e_72_120, e_72_121, e_72_125, e_72_124, e_72_104, e_72_105, e_72_106, e_72_109, e_72_110, e_72_114, e_72_113, e_72_141, e_72_142, e_72_143, e_72_144, e_72_137, e_72_138, e_72_139, e_72_140, e_72_145, e_72_146, e_72_147, e_72_148, e_72_90, e_72_91, e_72_94, e_72_95, e_72_98, e_72_99, e_72_103, e_72_102, Option.bind_some, Option.toList_some, Option.toList_none, List.cons_append, List.nil_append, am_k1_i, am_k1_r, am_k1_u, am_k1_n, am_bo0, am_bo1, am_boi, am_ev_tb, am_tb_nil, am_rfs, am_rfn, eq_self]
    by_cases h1 : x < y
    · simp [h1, Int32.not_le.mpr h1]
    · simp [h1, Int32.not_lt.mp h1]
  · simp only [n_72, e_72_0, e_72_1, e_72_149, e_72_150, e_72_153, e_72_154, e_72_160, e_72_157, e_72_158, e_72_159, e_72_76, e_72_77, e_72_80, e_72_81, e_72_84, e_72_85, e_72_89, e_72_88, e_72_126, e_72_127, e_72_128, e_72_131, e_72_132, e_72_136, e_72_135, e_72_115, e_72_116, e_72_117, e_72_120, e_72_121, e_72_125, e_72_124, e_72_104, e_72_105, e_72_106, e_72_109, e_72_110, e_72_114, e_72_113, e_72_141, e_72_142, e_72_143, e_72_144, e_72_137, e_72_138, e_72_139, e_72_140, e_72_145, e_72_146, e_72_147, e_72_148, e_72_90, e_72_91, e_72_94, e_72_95, e_72_98, e_72_99, e_72_103, e_72_102, Option.bind_some, Option.toList_some, Option.toList_none, List.cons_append, List.nil_append, am_k1_i, am_k1_r, am_k1_u, am_k1_n, am_bo0, am_bo1, am_boi, am_ev_tb, am_tb_nil, am_rfs, am_rfn, eq_self]
    by_cases h1 : x = y <;> simp [h1]
  · simp only [n_72, e_72_0, e_72_1, e_72_149, e_72_150, e_72_153, e_72_154, e_72_160, e_72_157, e_72_158, e_72_159, e_72_76, e_72_77, e_72_80, e_72_81, e_72_84, e_72_85, e_72_89, e_72_88, e_72_126, e_72_127, e_72_128, e_72_131, e_72_132, e_72_136, e_72_135, e_72_115, e_72_116, e_72_117, e_72_120, e_72_121, e_72_125, e_72_124, e_72_104, e_72_105, e_72_106, e_72_109, e_72_110, e_72_114, e_72_113, e_72_141, e_72_142, e_72_143, e_72_144, e_72_137, e_72_138, e_72_139, e_72_140, e_72_145, e_72_146, e_72_147, e_72_148, e_72_90, e_72_91, e_72_94, e_72_95, e_72_98, e_72_99, e_72_103, e_72_102, Option.bind_some, Option.toList_some, Option.toList_none, List.cons_append, List.nil_append, am_k1_i, am_k1_r, am_k1_u, am_k1_n, am_bo0, am_bo1, am_boi, am_ev_tb, am_tb_nil, am_rfs, am_rfn, eq_self]
    by_cases h1 : y < x
    · simp [h1, Int32.not_le.mpr h1]
    · simp [h1, Int32.not_lt.mp h1]
  · simp only [n_72, e_72_0, e_72_1, e_72_149, e_72_150, e_72_153, e_72_154, e_72_160, e_72_157, e_72_158, e_72_159, e_72_76, e_72_77, e_72_80, e_72_81, e_72_84, e_72_85, e_72_89, e_72_88, e_72_126, e_72_127, e_72_128, e_72_131, e_72_132, e_72_136, e_72_135, e_72_115, e_72_116, e_72_117, e_72_120, e_72_121, e_72_125, e_72_124, e_72_104, e_72_105, e_72_106, e_72_109, e_72_110, e_72_114, e_72_113, e_72_141, e_72_142, e_72_143, e_72_144, e_72_137, e_72_138, e_72_139, e_72_140, e_72_145, e_72_146, e_72_147, e_72_148, e_72_90, e_72_91, e_72_94, e_72_95, e_72_98, e_72_99, e_72_103, e_72_102, Option.bind_some, Option.toList_some, Option.toList_none, List.cons_append, List.nil_append, am_k1_i, am_k1_r, am_k1_u, am_k1_n, am_bo0, am_bo1, am_boi, am_ev_tb, am_tb_nil, am_rfs, am_rfn, eq_self]
    simp
  · simp only [n_72, e_72_0, e_72_1, e_72_149, e_72_150, e_72_153, e_72_154, e_72_160, e_72_157, e_72_158, e_72_159, e_72_76, e_72_77, e_72_80, e_72_81, e_72_84, e_72_85, e_72_89, e_72_88, e_72_126, e_72_127, e_72_128, e_72_131, e_72_132, e_72_136, e_72_135, e_72_115, e_72_116, e_72_117, e_72_120, e_72_121, e_72_125, e_72_124, e_72_104, e_72_105, e_72_106, e_72_109, e_72_110, e_72_114, e_72_113, e_72_141, e_72_142, e_72_143, e_72_144, e_72_137, e_72_138, e_72_139, e_72_140, e_72_145, e_72_146, e_72_147, e_72_148, e_72_90, e_72_91, e_72_94, e_72_95, e_72_98, e_72_99, e_72_103, e_72_102, Option.bind_some, Option.toList_some, Option.toList_none, List.cons_append, List.nil_append, am_k1_i, am_k1_r, am_k1_u, am_k1_n, am_bo0, am_bo1, am_boi, am_ev_tb, am_tb_nil, am_rfs, am_rfn, eq_self]
    simp
  · simp only [n_72, e_72_0, e_72_1, e_72_149, e_72_150, e_72_153, e_72_154, e_72_160, e_72_157, e_72_158, e_72_159, e_72_76, e_72_77, e_72_80, e_72_81, e_72_84, e_72_85, e_72_89, e_72_88, e_72_126, e_72_127, e_72_128, e_72_131, e_72_132, e_72_136, e_72_135, e_72_115, e_72_116, e_72_117, e_72_120, e_72_121, e_72_125, e_72_124, e_72_104, e_72_105, e_72_106, e_72_109, e_72_110, e_72_114, e_72_113, e_72_141, e_72_142, e_72_143, e_72_144, e_72_137, e_72_138, e_72_139, e_72_140, e_72_145, e_72_146, e_72_147, e_72_148, e_72_90, e_72_91, e_72_94, e_72_95, e_72_98, e_72_99, e_72_103, e_72_102, Option.bind_some, Option.toList_some, Option.toList_none, List.cons_append, List.nil_append, am_k1_i, am_k1_r, am_k1_u, am_k1_n, am_bo0, am_bo1, am_boi, am_ev_tb, am_tb_nil, am_rfs, am_rfn, eq_self]
    simp
  · by_cases h1 : y = 0
    · simp [n_72, e_72_0, e_72_1, e_72_149, e_72_150, e_72_153, e_72_154, e_72_160, e_72_157, e_72_158, e_72_159, e_72_76, e_72_77, e_72_80, e_72_81, e_72_84, e_72_85, e_72_89, e_72_88, e_72_126, e_72_127, e_72_128, e_72_131, e_72_132, e_72_136, e_72_135, e_72_115, e_72_116, e_72_117, e_72_120, e_72_121, e_72_125, e_72_124, e_72_104, e_72_105, e_72_106, e_72_109, e_72_110, e_72_114, e_72_113, e_72_141, e_72_142, e_72_143, e_72_144, e_72_137, e_72_138, e_72_139, e_72_140, e_72_145, e_72_146, e_72_147, e_72_148, e_72_90, e_72_91, e_72_94, e_72_95, e_72_98, e_72_99, e_72_103, e_72_102, Option.bind_some, Option.toList_some, Option.toList_none, List.cons_append, List.nil_append, am_k1_i, am_k1_r, am_k1_u, am_k1_n, am_bo0, am_bo1, am_boi, am_ev_tb, am_tb_nil, am_rfs, am_rfn, eq_self, h1]
    · by_cases h2 : y = -1
      · subst h2
        simp [n_72, e_72_0, e_72_1, e_72_149, e_72_150, e_72_153, e_72_154, e_72_160, e_72_157, e_72_158, e_72_159, e_72_76, e_72_77, e_72_80, e_72_81, e_72_84, e_72_85, e_72_89, e_72_88, e_72_126, e_72_127, e_72_128, e_72_131, e_72_132, e_72_136, e_72_135, e_72_115, e_72_116, e_72_117, e_72_120, e_72_121, e_72_125, e_72_124, e_72_104, e_72_105, e_72_106, e_72_109, e_72_110, e_72_114, e_72_113, e_72_141, e_72_142, e_72_143, e_72_144, e_72_137, e_72_138, e_72_139, e_72_140, e_72_145, e_72_146, e_72_147, e_72_148, e_72_90, e_72_91, e_72_94, e_72_95, e_72_98, e_72_99, e_72_103, e_72_102, Option.bind_some, Option.toList_some, Option.toList_none, List.cons_append, List.nil_append, am_k1_i, am_k1_r, am_k1_u, am_k1_n, am_bo0, am_bo1, am_boi, am_ev_tb, am_tb_nil, am_rfs, am_rfn, eq_self, mt_divm1]
      · simp [n_72, e_72_0, e_72_1, e_72_149, e_72_150, e_72_153, e_72_154, e_72_160, e_72_157, e_72_158, e_72_159, e_72_76, e_72_77, e_72_80, e_72_81, e_72_84, e_72_85, e_72_89, e_72_88, e_72_126, e_72_127, e_72_128, e_72_131, e_72_132, e_72_136, e_72_135, e_72_115, e_72_116, e_72_117, e_72_120, e_72_121, e_72_125, e_72_124, e_72_104, e_72_105, e_72_106, e_72_109, e_72_110, e_72_114, e_72_113, e_72_141, e_72_142, e_72_143, e_72_144, e_72_137, e_72_138, e_72_139, e_72_140, e_72_145, e_72_146, e_72_147, e_72_148, e_72_90, e_72_91, e_72_94, e_72_95, e_72_98, e_72_99, e_72_103, e_72_102, Option.bind_some, Option.toList_some, Option.toList_none, List.cons_append, List.nil_append, am_k1_i, am_k1_r, am_k1_u, am_k1_n, am_bo0, am_bo1, am_boi, am_ev_tb, am_tb_nil, am_rfs, am_rfn, eq_self, h1, h2]
theorem c_value_l {b c t key L : Nat} {A B C : Int32} (ls : am_sh h (a + 5) = (20, 96) ∧ G 0 ≤ a + 5 ∧ a + 5 < am_top h) (hb : am_ob G h b 7) (hr : am_r h b 2 = some c) (hc : (G 0 ≤ c ∧ c < am_top h) ∧ am_sh h c = (20, L)) (hca : c ≠ a + 5) (hx : mt_txt σ t key L) (hcs : ∀ k, k < L → mt_cs key (am_i h c k) (mt_w σ t k) (mt_v σ t k)) : ∀ j k P x7, k + j = L → (∀ i, i < mt_dp (mt_w σ t) (mt_v σ t) k → P i = mt_pl (mt_nm key A B C) (mt_w σ t) (mt_v σ t) k i) → ∃ P2, am_ev G (d + 1) 71 6 [some (.ref b), some (.ref (a + 5)), some (.int A), some (.int B), some (.int C), some (.int (nI (mt_dp (mt_w σ t) (mt_v σ t) k))), some (.int (nI k)), x7] [] (am_pa h (a + 5) P) = some (some (.int (mt_val σ t L (mt_nm key A B C))), am_pa h (a + 5) P2) := by
  obtain ⟨⟨hk0, hk3⟩, ⟨hL0, hL96⟩, hwf, hend⟩ := hx
  have ob : ∀ g, am_ob G (am_pa h (a + 5) g) b 7 := fun g => hb
  have al : ∀ g, am_al G (am_pa h (a + 5) g) c := fun g => Or.inl ⟨hc.1, by show 20 ≤ (am_sh h c).1 ∧ (am_sh h c).1 ≤ 26; rw [hc.2]; exact ⟨Nat.le_refl 20, (by decide : 20 ≤ 26)⟩⟩
  have al2 : ∀ g, am_al G (am_pa h (a + 5) g) (a + 5) := fun g => Or.inl ⟨ls.2, by show 20 ≤ (am_sh h (a + 5)).1 ∧ (am_sh h (a + 5)).1 ≤ 26; rw [ls.1]; decide⟩
  have sc : ∀ g, Int32.ofNat (am_sh (am_pa h (a + 5) g) c).2 = nI L := fun g => by show Int32.ofNat (am_sh h c).2 = nI L; rw [hc.2]; rfl
  have ss : ∀ g, Int32.ofNat (am_sh (am_pa h (a + 5) g) (a + 5)).2 = 96 := fun g => by show Int32.ofNat (am_sh h (a + 5)).2 = 96; rw [ls.1]; rfl
  have rr : ∀ g, am_r (am_pa h (a + 5) g) b 2 = some c := fun g => hr
  have ia : ∀ g j, j < L → am_ia G (am_pa h (a + 5) g) c (nI j) := fun g j hj => am_ia_of hc.1 hc.2 hj (by omega)
  have sa : ∀ g j, j < 96 → am_ia G (am_pa h (a + 5) g) (a + 5) (nI j) := fun g j hj => am_ia_of ls.2 ls.1 hj (by omega)
  have sw : ∀ g j, j < 96 → am_iw G (am_pa h (a + 5) g) (a + 5) (nI j) := fun g j hj => am_iw_of ls.2 ls.1 hj (by omega)
  have ic : ∀ g, am_i (am_pa h (a + 5) g) c = am_i h c := fun g => by rw [am_pa_i, if_neg hca]
  have i5 : ∀ g, am_i (am_pa h (a + 5) g) (a + 5) = g := fun g => by rw [am_pa_i, if_pos rfl]
  have wr : ∀ g k v, am_pi (am_pa h (a + 5) g) (a + 5) k v = am_pa h (a + 5) (upd g k v) := fun g k v => by rw [am_pi_pa, am_pa_i, if_pos rfl, am_pa_pa]
  intro j
  induction j with
  | zero =>
    intro k P x7 hk hP
    obtain rfl : k = L := by omega
    refine ⟨P, ?_⟩
    have i0 : am_ia G (am_pa h (a + 5) P) (a + 5) 0 := sa P 0 (by omega)
    rw [e_71_6]
    simp only [n_71, e_71_0, f_71_1, e_71_3, f_71_4, e_71_8, e_71_9, e_71_12, e_71_13, e_71_16, e_71_18, e_71_19, e_71_20, e_71_23, e_71_24, e_71_27, e_71_29, f_71_30, e_71_32, e_71_34, e_71_37, e_71_40, e_71_41, e_71_43, e_71_45, f_71_46, e_71_49, f_71_167, e_71_170, e_71_52, e_71_54, e_71_57, e_71_60, e_71_61, e_71_63, e_71_65, e_71_68, e_71_71, e_71_72, e_71_89, f_71_90, e_71_93, e_71_75, e_71_77, e_71_80, e_71_83, e_71_84, e_71_87, e_71_96, e_71_98, e_71_101, e_71_104, e_71_106, e_71_107, e_71_110, e_71_111, e_71_113, e_71_114, e_71_115, e_71_116, e_71_118, e_71_119, e_71_120, e_71_121, e_71_124, e_71_125, e_71_129, e_71_130, e_71_128, e_71_133, e_71_135, e_71_136, f_71_139, e_71_142, e_71_143, e_71_145, e_71_146, e_71_147, e_71_149, e_71_152, e_71_153, e_71_154, e_71_156, e_71_157, e_71_158, e_71_159, e_71_160, e_71_162, e_71_163, e_71_166, e_71_173, e_71_174, e_71_175, e_71_178, e_71_179, e_71_180, e_71_181, e_71_185, e_71_184, Option.bind_some, Option.toList_some, Option.toList_none, List.cons_append, List.nil_append, am_k1_i, am_k1_r, am_k1_u, am_k1_n, am_bo0, am_bo1, am_boi, am_ev_tb, am_tb_nil, am_rfs, am_rfn, eq_self, and_self, if_true, if_false, show ¬ (1 : Int32) = 0 from by decide, show ¬ (0 : Int32) = 1 from by decide, not_true, not_false_eq_true, and_true, true_and, and_false, false_and, or_true, true_or, or_false, false_or, ob, rr, al, al2, sc, ss, Int32.le_refl, i0, show ¬ (96 : Int32) ≤ 0 from by decide, show (0 : Int32).toNatClampNeg = 0 from rfl, i5]
    rw [hP 0 (by omega)]
    rfl
  | succ j ih =>
    intro k P x7 hk hP
    have hlt : ¬ nI L ≤ nI k := nI_ge (by omega) (by omega)
    have hdp := mt_dp_le (mt_w σ t) (mt_v σ t) k
    have hst := ih (k + 1)
    have hso := hwf k (by omega)
    have hcs1 := hcs k (by omega)
    rw [mt_dp, mt_pl] at hst
    generalize mt_w σ t = W at *
    generalize mt_v σ t = V at *
    generalize hn : mt_dp W V k = m at *
    generalize hQ : mt_pl (mt_nm key A B C) W V k = Q at *
    have hlt2 : ¬ (96 : Int32) ≤ nI m := nI_ge (b := 96) (by omega) (by decide)
    rw [e_71_6]
    rcases hso with ⟨h0, x, hx1, hx2⟩ | ⟨h0, i, hi, hx2⟩ | ⟨h0, h33, hn1⟩ | ⟨h0, hop, hn2⟩
    · have hxe : am_i h c k = nI x := by
        rcases hcs1 with ⟨_, e⟩ | ⟨e, _⟩ | ⟨e, _⟩
        · rw [e, hx2]
        · rw [h0] at e; exact absurd e (by decide)
        · rw [h0] at e; exact absurd e (by decide)
      have hl1 : ¬ (10000 : Int32) ≤ nI x := nI_ge (b := 10000) (by omega) (by decide)
      rw [h0, if_neg (by decide)] at hst
      simp only [n_71, e_71_0, f_71_1, e_71_3, f_71_4, e_71_8, e_71_9, e_71_12, e_71_13, e_71_16, e_71_18, e_71_19, e_71_20, e_71_23, e_71_24, e_71_27, e_71_29, f_71_30, e_71_32, e_71_34, e_71_37, e_71_40, e_71_41, e_71_43, e_71_45, f_71_46, e_71_49, f_71_167, e_71_170, e_71_52, e_71_54, e_71_57, e_71_60, e_71_61, e_71_63, e_71_65, e_71_68, e_71_71, e_71_72, e_71_89, f_71_90, e_71_93, e_71_75, e_71_77, e_71_80, e_71_83, e_71_84, e_71_87, e_71_96, e_71_98, e_71_101, e_71_104, e_71_106, e_71_107, e_71_110, e_71_111, e_71_113, e_71_114, e_71_115, e_71_116, e_71_118, e_71_119, e_71_120, e_71_121, e_71_124, e_71_125, e_71_129, e_71_130, e_71_128, e_71_133, e_71_135, e_71_136, f_71_139, e_71_142, e_71_143, e_71_145, e_71_146, e_71_147, e_71_149, e_71_152, e_71_153, e_71_154, e_71_156, e_71_157, e_71_158, e_71_159, e_71_160, e_71_162, e_71_163, e_71_166, e_71_173, e_71_174, e_71_175, e_71_178, e_71_179, e_71_180, e_71_181, e_71_185, e_71_184, Option.bind_some, Option.toList_some, Option.toList_none, List.cons_append, List.nil_append, am_k1_i, am_k1_r, am_k1_u, am_k1_n, am_bo0, am_bo1, am_boi, am_ev_tb, am_tb_nil, am_rfs, am_rfn, eq_self, and_self, if_true, if_false, show ¬ (1 : Int32) = 0 from by decide, show ¬ (0 : Int32) = 1 from by decide, not_true, not_false_eq_true, and_true, true_and, and_false, false_and, or_true, true_or, or_false, false_or, ob, rr, al, al2, sc, ss, hlt, hlt2, ia _ k (show k < L by omega), am_cl (show k < 2147483648 by omega), ic, hxe, hl1, sw _ m (show m < 96 by omega), am_cl (show m < 2147483648 by omega), wr, nI_1]
      refine hst (upd P m (nI x)) _ (by omega) (fun i hi => ?_)
      rw [if_neg (by decide)]
      by_cases hin : i = m
      · rw [hin, pk_us, pk_us, if_pos rfl, hx2]
      · rw [pk_un hin, pk_un hin, hP i (by omega)]
    · have hxe : ∃ i2, i2 < 3 ∧ V k = nI (mt_nc key i2) ∧ am_i h c k = nI (10000 + i2) := by
        rcases hcs1 with ⟨e, _⟩ | ⟨_, e⟩ | ⟨e, _⟩
        · rw [h0] at e; exact absurd e (by decide)
        · exact e
        · rw [h0] at e; exact absurd e (by decide)
      obtain ⟨i2, hi2, hv2, hxe⟩ := hxe
      rw [h0, if_neg (by decide)] at hst
      have hc128 : mt_nc key i2 < 128 := by unfold mt_nc; (repeat' split) <;> decide
      have hd1 : mt_nc key 1 ≠ mt_nc key 0 := by unfold mt_nc; (repeat' split) <;> first | decide | omega
      have hd2 : mt_nc key 2 ≠ mt_nc key 0 := by unfold mt_nc; (repeat' split) <;> first | decide | omega
      have hd3 : mt_nc key 2 ≠ mt_nc key 1 := by unfold mt_nc; (repeat' split) <;> first | decide | omega
      have fin : ∀ v, v = mt_nm key A B C (mt_nc key i2) → ∃ P2, am_ev G (d + 1) 71 6 [some (.ref b), some (.ref (a + 5)), some (.int A), some (.int B), some (.int C), some (.int (nI (m + 1))), some (.int (nI (k + 1))), some (.int (nI (10000 + i2)))] [] (am_pa h (a + 5) (upd P m v)) = some (some (.int (mt_val σ t L (mt_nm key A B C))), am_pa h (a + 5) P2) := by
        intro v hv
        refine hst (upd P m v) _ (by omega) (fun i hi => ?_)
        rw [if_neg (by decide)]
        by_cases hin : i = m
        · rw [hin, pk_us, pk_us, if_neg (by decide), hv2, am_cl (show mt_nc key i2 < 2147483648 by omega), hv]
        · rw [pk_un hin, pk_un hin, hP i (by omega)]
      rcases (show i2 = 0 ∨ i2 = 1 ∨ i2 = 2 by omega) with rfl | rfl | rfl
      · simp only [n_71, e_71_0, f_71_1, e_71_3, f_71_4, e_71_8, e_71_9, e_71_12, e_71_13, e_71_16, e_71_18, e_71_19, e_71_20, e_71_23, e_71_24, e_71_27, e_71_29, f_71_30, e_71_32, e_71_34, e_71_37, e_71_40, e_71_41, e_71_43, e_71_45, f_71_46, e_71_49, f_71_167, e_71_170, e_71_52, e_71_54, e_71_57, e_71_60, e_71_61, e_71_63, e_71_65, e_71_68, e_71_71, e_71_72, e_71_89, f_71_90, e_71_93, e_71_75, e_71_77, e_71_80, e_71_83, e_71_84, e_71_87, e_71_96, e_71_98, e_71_101, e_71_104, e_71_106, e_71_107, e_71_110, e_71_111, e_71_113, e_71_114, e_71_115, e_71_116, e_71_118, e_71_119, e_71_120, e_71_121, e_71_124, e_71_125, e_71_129, e_71_130, e_71_128, e_71_133, e_71_135, e_71_136, f_71_139, e_71_142, e_71_143, e_71_145, e_71_146, e_71_147, e_71_149, e_71_152, e_71_153, e_71_154, e_71_156, e_71_157, e_71_158, e_71_159, e_71_160, e_71_162, e_71_163, e_71_166, e_71_173, e_71_174, e_71_175, e_71_178, e_71_179, e_71_180, e_71_181, e_71_185, e_71_184, Option.bind_some, Option.toList_some, Option.toList_none, List.cons_append, List.nil_append, am_k1_i, am_k1_r, am_k1_u, am_k1_n, am_bo0, am_bo1, am_boi, am_ev_tb, am_tb_nil, am_rfs, am_rfn, eq_self, and_self, if_true, if_false, show ¬ (1 : Int32) = 0 from by decide, show ¬ (0 : Int32) = 1 from by decide, not_true, not_false_eq_true, and_true, true_and, and_false, false_and, or_true, true_or, or_false, false_or, ob, rr, al, al2, sc, ss, hlt, hlt2, ia _ k (show k < L by omega), am_cl (show k < 2147483648 by omega), ic, hxe, show (10000 : Int32) ≤ nI (10000 + 0) from by decide, show ¬ (20000 : Int32) ≤ nI (10000 + 0) from by decide, show nI (10000 + 0) = 10000 from by decide, sw _ m (show m < 96 by omega), am_cl (show m < 2147483648 by omega), wr, nI_1, show (10000 : Int32) ≤ 10000 from by decide, show ¬ (20000 : Int32) ≤ 10000 from by decide]
        exact fin A (by unfold mt_nm; rw [if_pos rfl])
      · simp only [n_71, e_71_0, f_71_1, e_71_3, f_71_4, e_71_8, e_71_9, e_71_12, e_71_13, e_71_16, e_71_18, e_71_19, e_71_20, e_71_23, e_71_24, e_71_27, e_71_29, f_71_30, e_71_32, e_71_34, e_71_37, e_71_40, e_71_41, e_71_43, e_71_45, f_71_46, e_71_49, f_71_167, e_71_170, e_71_52, e_71_54, e_71_57, e_71_60, e_71_61, e_71_63, e_71_65, e_71_68, e_71_71, e_71_72, e_71_89, f_71_90, e_71_93, e_71_75, e_71_77, e_71_80, e_71_83, e_71_84, e_71_87, e_71_96, e_71_98, e_71_101, e_71_104, e_71_106, e_71_107, e_71_110, e_71_111, e_71_113, e_71_114, e_71_115, e_71_116, e_71_118, e_71_119, e_71_120, e_71_121, e_71_124, e_71_125, e_71_129, e_71_130, e_71_128, e_71_133, e_71_135, e_71_136, f_71_139, e_71_142, e_71_143, e_71_145, e_71_146, e_71_147, e_71_149, e_71_152, e_71_153, e_71_154, e_71_156, e_71_157, e_71_158, e_71_159, e_71_160, e_71_162, e_71_163, e_71_166, e_71_173, e_71_174, e_71_175, e_71_178, e_71_179, e_71_180, e_71_181, e_71_185, e_71_184, Option.bind_some, Option.toList_some, Option.toList_none, List.cons_append, List.nil_append, am_k1_i, am_k1_r, am_k1_u, am_k1_n, am_bo0, am_bo1, am_boi, am_ev_tb, am_tb_nil, am_rfs, am_rfn, eq_self, and_self, if_true, if_false, show ¬ (1 : Int32) = 0 from by decide, show ¬ (0 : Int32) = 1 from by decide, not_true, not_false_eq_true, and_true, true_and, and_false, false_and, or_true, true_or, or_false, false_or, ob, rr, al, al2, sc, ss, hlt, hlt2, ia _ k (show k < L by omega), am_cl (show k < 2147483648 by omega), ic, hxe, show nI (10000 + 1) = 10001 from by decide, sw _ m (show m < 96 by omega), am_cl (show m < 2147483648 by omega), wr, nI_1, show (10000 : Int32) ≤ 10001 from by decide, show ¬ (20000 : Int32) ≤ 10001 from by decide, show ¬ (10001 : Int32) = 10000 from by decide]
        exact fin B (by unfold mt_nm; rw [if_neg hd1, if_pos rfl])
      · simp only [n_71, e_71_0, f_71_1, e_71_3, f_71_4, e_71_8, e_71_9, e_71_12, e_71_13, e_71_16, e_71_18, e_71_19, e_71_20, e_71_23, e_71_24, e_71_27, e_71_29, f_71_30, e_71_32, e_71_34, e_71_37, e_71_40, e_71_41, e_71_43, e_71_45, f_71_46, e_71_49, f_71_167, e_71_170, e_71_52, e_71_54, e_71_57, e_71_60, e_71_61, e_71_63, e_71_65, e_71_68, e_71_71, e_71_72, e_71_89, f_71_90, e_71_93, e_71_75, e_71_77, e_71_80, e_71_83, e_71_84, e_71_87, e_71_96, e_71_98, e_71_101, e_71_104, e_71_106, e_71_107, e_71_110, e_71_111, e_71_113, e_71_114, e_71_115, e_71_116, e_71_118, e_71_119, e_71_120, e_71_121, e_71_124, e_71_125, e_71_129, e_71_130, e_71_128, e_71_133, e_71_135, e_71_136, f_71_139, e_71_142, e_71_143, e_71_145, e_71_146, e_71_147, e_71_149, e_71_152, e_71_153, e_71_154, e_71_156, e_71_157, e_71_158, e_71_159, e_71_160, e_71_162, e_71_163, e_71_166, e_71_173, e_71_174, e_71_175, e_71_178, e_71_179, e_71_180, e_71_181, e_71_185, e_71_184, Option.bind_some, Option.toList_some, Option.toList_none, List.cons_append, List.nil_append, am_k1_i, am_k1_r, am_k1_u, am_k1_n, am_bo0, am_bo1, am_boi, am_ev_tb, am_tb_nil, am_rfs, am_rfn, eq_self, and_self, if_true, if_false, show ¬ (1 : Int32) = 0 from by decide, show ¬ (0 : Int32) = 1 from by decide, not_true, not_false_eq_true, and_true, true_and, and_false, false_and, or_true, true_or, or_false, false_or, ob, rr, al, al2, sc, ss, hlt, hlt2, ia _ k (show k < L by omega), am_cl (show k < 2147483648 by omega), ic, hxe, show nI (10000 + 2) = 10002 from by decide, sw _ m (show m < 96 by omega), am_cl (show m < 2147483648 by omega), wr, nI_1, show (10000 : Int32) ≤ 10002 from by decide, show ¬ (20000 : Int32) ≤ 10002 from by decide, show ¬ (10002 : Int32) = 10000 from by decide, show ¬ (10002 : Int32) = 10001 from by decide]
        exact fin C (by unfold mt_nm; rw [if_neg hd2, if_neg hd3])
    · have hxe : am_i h c k = 20033 := by
        rcases hcs1 with ⟨e, _⟩ | ⟨e, _⟩ | ⟨_, e⟩
        · rw [h0] at e; exact absurd e (by decide)
        · rw [h0] at e; exact absurd e (by decide)
        · rw [e, h33]; decide
      obtain ⟨m1, rfl⟩ : ∃ m1, m = m1 + 1 := ⟨m - 1, by omega⟩
      rw [h0, if_pos rfl, h33, if_pos rfl] at hst
      have hge : ¬ nI (m1 + 1) < 1 := nI_nlt (b := 1) (by omega) (by omega)
      simp only [n_71, e_71_0, f_71_1, e_71_3, f_71_4, e_71_8, e_71_9, e_71_12, e_71_13, e_71_16, e_71_18, e_71_19, e_71_20, e_71_23, e_71_24, e_71_27, e_71_29, f_71_30, e_71_32, e_71_34, e_71_37, e_71_40, e_71_41, e_71_43, e_71_45, f_71_46, e_71_49, f_71_167, e_71_170, e_71_52, e_71_54, e_71_57, e_71_60, e_71_61, e_71_63, e_71_65, e_71_68, e_71_71, e_71_72, e_71_89, f_71_90, e_71_93, e_71_75, e_71_77, e_71_80, e_71_83, e_71_84, e_71_87, e_71_96, e_71_98, e_71_101, e_71_104, e_71_106, e_71_107, e_71_110, e_71_111, e_71_113, e_71_114, e_71_115, e_71_116, e_71_118, e_71_119, e_71_120, e_71_121, e_71_124, e_71_125, e_71_129, e_71_130, e_71_128, e_71_133, e_71_135, e_71_136, f_71_139, e_71_142, e_71_143, e_71_145, e_71_146, e_71_147, e_71_149, e_71_152, e_71_153, e_71_154, e_71_156, e_71_157, e_71_158, e_71_159, e_71_160, e_71_162, e_71_163, e_71_166, e_71_173, e_71_174, e_71_175, e_71_178, e_71_179, e_71_180, e_71_181, e_71_185, e_71_184, Option.bind_some, Option.toList_some, Option.toList_none, List.cons_append, List.nil_append, am_k1_i, am_k1_r, am_k1_u, am_k1_n, am_bo0, am_bo1, am_boi, am_ev_tb, am_tb_nil, am_rfs, am_rfn, eq_self, and_self, if_true, if_false, show ¬ (1 : Int32) = 0 from by decide, show ¬ (0 : Int32) = 1 from by decide, not_true, not_false_eq_true, and_true, true_and, and_false, false_and, or_true, true_or, or_false, false_or, ob, rr, al, al2, sc, ss, hlt, hlt2, ia _ k (show k < L by omega), am_cl (show k < 2147483648 by omega), ic, hxe, show (10000 : Int32) ≤ 20033 from by decide, show (20000 : Int32) ≤ 20033 from by decide, hge, nI_pred, sa _ m1 (show m1 < 96 by omega), sw _ m1 (show m1 < 96 by omega), am_cl (show m1 < 2147483648 by omega), i5, wr, nI_1]
      have := hst (upd P m1 (if P m1 = 0 then 1 else 0)) (some (.int 20033)) (by omega) (fun i hi => by
        rw [if_pos rfl, if_pos rfl, show m1 + 1 - 1 = m1 from rfl]
        by_cases hin : i = m1
        · rw [hin, pk_us, pk_us, hP m1 (by omega)]
        · rw [pk_un hin, pk_un hin, hP i hi])
      by_cases hz : P m1 = 0
      · rw [if_pos hz] at this ⊢; exact this
      · rw [if_neg hz] at this ⊢; exact this
    · have hxe : am_i h c k = 20000 + V k := by
        rcases hcs1 with ⟨e, _⟩ | ⟨e, _⟩ | ⟨_, e⟩
        · rw [h0] at e; exact absurd e (by decide)
        · rw [h0] at e; exact absurd e (by decide)
        · exact e
      obtain ⟨m1, rfl⟩ : ∃ m1, m = m1 + 2 := ⟨m - 2, by omega⟩
      have h33 := mt_op33 hop
      obtain ⟨o1, o2, o3, o4⟩ := mt_op_x hop
      rw [h0, if_pos rfl, if_neg h33] at hst
      have hge : ¬ nI (m1 + 2) < 2 := nI_nlt (b := 2) (by omega) (by omega)
      have em : nI (m1 + 2) + (-1) = nI (m1 + 1) := by rw [← Int32.sub_eq_add_neg]; exact nI_pred (m1 + 1)
      simp only [n_71, e_71_0, f_71_1, e_71_3, f_71_4, e_71_8, e_71_9, e_71_12, e_71_13, e_71_16, e_71_18, e_71_19, e_71_20, e_71_23, e_71_24, e_71_27, e_71_29, f_71_30, e_71_32, e_71_34, e_71_37, e_71_40, e_71_41, e_71_43, e_71_45, f_71_46, e_71_49, f_71_167, e_71_170, e_71_52, e_71_54, e_71_57, e_71_60, e_71_61, e_71_63, e_71_65, e_71_68, e_71_71, e_71_72, e_71_89, f_71_90, e_71_93, e_71_75, e_71_77, e_71_80, e_71_83, e_71_84, e_71_87, e_71_96, e_71_98, e_71_101, e_71_104, e_71_106, e_71_107, e_71_110, e_71_111, e_71_113, e_71_114, e_71_115, e_71_116, e_71_118, e_71_119, e_71_120, e_71_121, e_71_124, e_71_125, e_71_129, e_71_130, e_71_128, e_71_133, e_71_135, e_71_136, f_71_139, e_71_142, e_71_143, e_71_145, e_71_146, e_71_147, e_71_149, e_71_152, e_71_153, e_71_154, e_71_156, e_71_157, e_71_158, e_71_159, e_71_160, e_71_162, e_71_163, e_71_166, e_71_173, e_71_174, e_71_175, e_71_178, e_71_179, e_71_180, e_71_181, e_71_185, e_71_184, Option.bind_some, Option.toList_some, Option.toList_none, List.cons_append, List.nil_append, am_k1_i, am_k1_r, am_k1_u, am_k1_n, am_bo0, am_bo1, am_boi, am_ev_tb, am_tb_nil, am_rfs, am_rfn, eq_self, and_self, if_true, if_false, show ¬ (1 : Int32) = 0 from by decide, show ¬ (0 : Int32) = 1 from by decide, not_true, not_false_eq_true, and_true, true_and, and_false, false_and, or_true, true_or, or_false, false_or, ob, rr, al, al2, sc, ss, hlt, hlt2, ia _ k (show k < L by omega), am_cl (show k < 2147483648 by omega), ic, hxe, Int32.not_lt.mp o1, Int32.not_lt.mp o2, o3, o4, hge, em, nI_pred, sa _ m1 (show m1 < 96 by omega), sa _ (m1 + 1) (show m1 + 1 < 96 by omega), sw _ m1 (show m1 < 96 by omega), am_cl (show m1 < 2147483648 by omega), am_cl (show m1 + 1 < 2147483648 by omega), i5, wr, nI_1, c_joined hop]
      exact hst (upd P m1 (mt_join (V k) (P m1) (P (m1 + 1)))) _ (by omega) (fun i hi => by
        rw [if_pos rfl, if_neg h33, show m1 + 2 - 2 = m1 from rfl, show m1 + 2 - 1 = m1 + 1 from rfl]
        by_cases hin : i = m1
        · rw [hin, pk_us, pk_us, hP m1 (by omega), hP (m1 + 1) (by omega)]
        · rw [pk_un hin, pk_un hin, hP i (by omega)])
/-- the text that counts for a key: none, or one that gives what the reference's gives -/
theorem c_lawOf (r : cl_R G h a σ n nd nt) (hs : mt_wf σ n nd nt) {key : Nat} (hk3 : key < 3) (ha : a + 25 < G 0 + 136) : (am_evm G (d + 1) 24 [.ref a, .int (nI key)] h = some (some .null, h) ∧ ∀ A B C, mt_law σ nt key A B C = none) ∨ ∃ b, am_evm G (d + 1) 24 [.ref a, .int (nI key)] h = some (some (.ref b), h) ∧ am_ob G h b 7 ∧ ∀ A B C, ∃ v h2, mt_law σ nt key A B C = some v ∧ am_evm G (d + 1) 71 [.ref b, .ref (a + 5), .int A, .int B, .int C] h = some (some (.int v), h2) ∧ am_fr (fun x => x = a + 5) h h2 := by
  have hnt := hs.1.2.2.2
  have hcnt := r.2.2.2.2.2 key hk3
  rcases mt_last_in σ (nI key) nt with hl | ⟨k, hk, hl, hkey⟩
  · left
    rw [hl] at hcnt
    have hw : ¬ ((0 : Int32) ≤ mt_nn (-1) ∧ mt_nn (-1) ≤ σ 2 - 1) := fun z => absurd z.1 (by decide)
    refine ⟨?_, fun A B C => if_pos hl⟩
    simp only [n_24, e_24_0, e_24_0n, e_24_1, e_24_4, e_24_5, e_24_6, e_24_7, e_24_7n, e_24_8, e_24_11, e_24_12, e_24_13, e_24_16, e_24_19, e_24_19n, e_24_20, e_24_23, e_24_23n, e_24_24, e_24_27, e_24_28, e_24_29, e_24_30, e_24_34, e_24_34n, e_24_33, Option.bind_some, Option.toList_some, Option.toList_none, List.cons_append, List.nil_append, am_k1_i, am_k1_r, am_k1_u, am_k1_n, am_bo0, am_bo1, am_boi, am_ev_tb, am_tb_nil, am_rfs, am_rfn, eq_self, and_self, if_true, if_false, show ¬ (1 : Int32) = 0 from by decide, show ¬ (0 : Int32) = 1 from by decide, not_true, not_false_eq_true, and_true, true_and, and_false, false_and, or_true, true_or, or_false, false_or, ha_ob r.1, ha_r3 r.1, ha_c1 r.1 hk3, am_cl (show key < 2147483648 by omega), hcnt, r.2.1.2.2.1, c_within, hw]
  · right
    have hne : ¬ nI k = -1 := by
      intro z
      have := nI_pos' (n := k) (by omega)
      rw [z] at this
      exact absurd this (by decide)
    have hcnt2 : am_i h (a + 4) key = nI k := by rw [hcnt, hl]; exact if_neg hne
    obtain ⟨b, hb, c, key2, L, ⟨b1, b2, b3⟩, ⟨t1, t2, t3⟩, ⟨c1, c2, c3⟩, hx, hcs⟩ := r.2.2.2.2.1 k hk
    have hke : key2 = key := by
      have := hx.1.1
      rw [hkey] at this
      exact ((nI_eq (by omega) (by have := hx.1.2; omega)).mp this).symm
    subst hke
    have hob : am_ob G h b 7 := ⟨⟨by omega, b2⟩, b3⟩
    have hw : (0 : Int32) ≤ nI k ∧ nI k ≤ σ 2 - 1 := by rw [hs.1.2.2.1]; exact (mt_ix (by omega)).mpr ⟨k, hk, rfl⟩
    refine ⟨b, ?_, hob, fun A B C => ?_⟩
    · simp only [n_24, e_24_0, e_24_0n, e_24_1, e_24_4, e_24_5, e_24_6, e_24_7, e_24_7n, e_24_8, e_24_11, e_24_12, e_24_13, e_24_16, e_24_19, e_24_19n, e_24_20, e_24_23, e_24_23n, e_24_24, e_24_27, e_24_28, e_24_29, e_24_30, e_24_34, e_24_34n, e_24_33, Option.bind_some, Option.toList_some, Option.toList_none, List.cons_append, List.nil_append, am_k1_i, am_k1_r, am_k1_u, am_k1_n, am_bo0, am_bo1, am_boi, am_ev_tb, am_tb_nil, am_rfs, am_rfn, eq_self, and_self, if_true, if_false, show ¬ (1 : Int32) = 0 from by decide, show ¬ (0 : Int32) = 1 from by decide, not_true, not_false_eq_true, and_true, true_and, and_false, false_and, or_true, true_or, or_false, false_or, ha_ob r.1, ha_r2 r.1, ha_r3 r.1, ha_c1 r.1 hk3, am_cl (show key2 < 2147483648 by omega), hcnt2, r.2.1.2.2.1, c_within, hw, ha_t1 r.1 (show k < 14 by omega), am_cl (show k < 2147483648 by omega), hb]
    · obtain ⟨P2, hP⟩ := c_value_l (d := d) (a := a) (A := A) (B := B) (C := C) ⟨r.1.2.2.1.2.2.2.2, ha_own r.1 (by omega)⟩ hob t3 ⟨⟨by omega, c2⟩, c3⟩ (by omega) hx hcs L 0 (am_i h (a + 5)) none (by omega) (fun i hi => absurd hi (Nat.not_lt_zero _))
      rw [am_pa_self] at hP
      refine ⟨mt_val σ k L (mt_nm key2 A B C), am_pa h (a + 5) P2, ?_, ?_, am_fr.pa rfl⟩
      · unfold mt_law
        rw [hl, if_neg hne, am_cl (show k < 2147483648 by omega), hx.2.1.1, am_cl (show L < 2147483648 by have := hx.2.1.2; omega)]
      · simp only [n_71, e_71_0, f_71_1, e_71_3, f_71_4, e_71_8, e_71_9, e_71_12, e_71_13, e_71_16, e_71_18, e_71_19, e_71_20, e_71_23, e_71_24, e_71_27, e_71_29, f_71_30, e_71_32, e_71_34, e_71_37, e_71_40, e_71_41, e_71_43, e_71_45, f_71_46, e_71_49, f_71_167, e_71_170, e_71_52, e_71_54, e_71_57, e_71_60, e_71_61, e_71_63, e_71_65, e_71_68, e_71_71, e_71_72, e_71_89, f_71_90, e_71_93, e_71_75, e_71_77, e_71_80, e_71_83, e_71_84, e_71_87, e_71_96, e_71_98, e_71_101, e_71_104, e_71_106, e_71_107, e_71_110, e_71_111, e_71_113, e_71_114, e_71_115, e_71_116, e_71_118, e_71_119, e_71_120, e_71_121, e_71_124, e_71_125, e_71_129, e_71_130, e_71_128, e_71_133, e_71_135, e_71_136, f_71_139, e_71_142, e_71_143, e_71_145, e_71_146, e_71_147, e_71_149, e_71_152, e_71_153, e_71_154, e_71_156, e_71_157, e_71_158, e_71_159, e_71_160, e_71_162, e_71_163, e_71_166, e_71_173, e_71_174, e_71_175, e_71_178, e_71_179, e_71_180, e_71_181, e_71_185, e_71_184, Option.bind_some, Option.toList_some, Option.toList_none, List.cons_append, List.nil_append, am_k1_i, am_k1_r, am_k1_u, am_k1_n, am_bo0, am_bo1, am_boi, am_ev_tb, am_tb_nil, am_rfs, am_rfn, eq_self]
        exact hP
end CL
