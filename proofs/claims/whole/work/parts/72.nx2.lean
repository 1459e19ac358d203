/-! the reference's next word -/
section NU
variable {T : Nat → Int32} {t W k : Nat} {st ln : Nat → Nat}
theorem tk_kd_1 (hk : k < W) (h1 : tk_c (T (st k)) = 1) : tk_kd T W st ln k = 3 := by
  have e : tk_so (fun j => tk_c (T j)) (st k) = 1 := if_pos h1
  unfold tk_kd
  rw [if_pos hk, if_pos e]
theorem tk_kd_g (hk : k < W) (h1 : ¬ tk_c (T (st k)) = 1) (hg : 0 < st k ∧ (tk_c (T (st k - 1)) = 2 ∨ tk_c (T (st k - 1)) = 3)) : tk_kd T W st ln k = 4 := by
  have e : tk_so (fun j => tk_c (T j)) (st k) = 4 := (if_neg h1).trans (if_pos hg)
  unfold tk_kd
  rw [if_pos hk, e, if_neg (by decide), if_neg (by decide), if_neg (by decide)]
theorem tk_kd_2 (hk : k < W) (h1 : tk_c (T (st k)) = 2) (hg : ¬ (0 < st k ∧ (tk_c (T (st k - 1)) = 2 ∨ tk_c (T (st k - 1)) = 3))) : tk_kd T W st ln k = 1 := by
  have e : tk_so (fun j => tk_c (T j)) (st k) = 2 := ((if_neg (show ¬ tk_c (T (st k)) = 1 from by rw [h1]; decide)).trans (if_neg hg)).trans h1
  unfold tk_kd
  rw [if_pos hk, e, if_neg (by decide), if_pos rfl]
theorem tk_kd_3 (hk : k < W) (h1 : tk_c (T (st k)) = 3) (hg : ¬ (0 < st k ∧ (tk_c (T (st k - 1)) = 2 ∨ tk_c (T (st k - 1)) = 3))) : tk_kd T W st ln k = if ln k ≤ 4 then 2 else 4 := by
  have e : tk_so (fun j => tk_c (T j)) (st k) = 3 := ((if_neg (show ¬ tk_c (T (st k)) = 1 from by rw [h1]; decide)).trans (if_neg hg)).trans h1
  unfold tk_kd
  rw [if_pos hk, e, if_neg (by decide), if_neg (by decide), if_pos rfl]
theorem tk_kd_W : tk_kd T W st ln W = 0 := if_neg (Nat.lt_irrefl W)
theorem tk_Env.w (E : tk_Env T t W st ln) (hk : k < W) : (1 ≤ ln k ∧ st k + ln k ≤ st (k + 1) ∧ st (k + 1) ≤ t) ∧ (∀ j, st k ≤ j → j < st k + ln k → tk_c (T j) = tk_c (T (st k))) ∧ tk_c (T (st k)) ≠ 0 ∧ (∀ j, st k + ln k ≤ j → j < st (k + 1) → tk_c (T j) = 0) ∧ (tk_c (T (st k)) = 1 → ln k = 1) ∧ (st k + ln k < t → tk_c (T (st k)) ≠ 1 → tk_c (T (st k + ln k)) ≠ tk_c (T (st k))) := by
  have h := E.2.1.2.2 k hk
  unfold tk_nx at h
  by_cases h1 : k + 1 < W
  · rw [if_pos h1] at h
    exact h
  · rw [if_neg h1, ← E.2.2.1] at h
    have e : k + 1 = W := by omega
    rw [← e] at h
    have h2 : st (k + 1) = t := by rw [e]; exact E.2.2.1
    rw [h2] at h ⊢
    exact h
theorem tk_Env.le (E : tk_Env T t W st ln) (hk : k ≤ W) : st k ≤ t := by
  by_cases h : k < W
  · have := (E.w h).1; omega
  · rw [show k = W by omega, E.2.2.1]; omega
variable {G : Nat → Nat} {d : Nat} {h : am_H} {m : Nat}
theorem m_next (l : cm_Lay G h m) (ht : am_i h m 14 = nI t) (E : tk_Env T t W st ln) (hT : ∀ j, j < t → am_i h (m + 13) j = T j) {e : Nat} (hk : k ≤ W) (he : e ≤ st k) (hbl : ∀ j, e ≤ j → j < st k → tk_c (T j) = 0) (h16 : am_i h m 16 = nI e) (htg : k < W → tk_c (T (st k)) ≠ 1 → ((0 < e ∧ (am_i h m 17 = 1 ∨ am_i h m 17 = 2)) ∧ e = st k ↔ (0 < st k ∧ (tk_c (T (st k - 1)) = 2 ∨ tk_c (T (st k - 1)) = 3)))) : ∃ h2, am_evm G (d + 2) 189 [.ref m] h = some (none, h2) ∧ am_fr (fun b => b = m) h h2 ∧ (∀ k, k < 15 ∨ 19 < k → am_i h2 m k = am_i h m k) ∧ rt_at T W st ln h2 m k := by
  have ht96 := E.1
  have hst := E.le hk
  obtain ⟨tg, tg1, tg2, e0⟩ := m_nt_0 (d := d + 2) l (show e ≤ 96 by omega) h16
  have hlt : st k < t → k < W := fun q => by
    apply Classical.byContradiction
    intro z
    rw [show k = W by omega, E.2.2.1] at q
    omega
  obtain ⟨h1, e1, f1, k1, b1⟩ := m_nt_a (d := d + 2) (x1 := some (.int tg)) (x2 := some (.int (nI e))) l ht ht96 hT hst (fun q z => (E.w (hlt q)).2.2.1 (tk_c0.mpr z)) (st k - e) e h (by omega) (fun i q1 q2 => tk_c0.mp (hbl i q1 q2)) am_fr.rf (fun _ _ => rfl) h16
  have l1 := l.fr f1
  obtain ⟨tg', tg3, tg4, e2⟩ := m_nt_1 (d := d + 2) l1 tg1 (show e ≤ 96 by omega) (show st k ≤ 96 by omega) b1
  have f2 : am_fr (fun b => b = m) h (am_pi h1 m 15 (nI (st k))) := f1.tr (am_fr.pi rfl)
  have g15 : am_i (am_pi h1 m 15 (nI (st k))) m 15 = nI (st k) := by rw [am_pi_i, if_pos ⟨rfl, rfl⟩]
  have gx : ∀ j, j ≠ 15 → j ≠ 16 → am_i (am_pi h1 m 15 (nI (st k))) m j = am_i h m j := fun j q1 q2 => by rw [am_pi_i, if_neg (fun z => q1 z.2), k1 j q2]
  have g16 : am_i (am_pi h1 m 15 (nI (st k))) m 16 = nI (st k) := by rw [am_pi_i, if_neg (fun z => absurd z.2 (by decide)), b1]
  rw [e0, e1, e2]
  generalize am_pi h1 m 15 (nI (st k)) = hh at *
  have l2 := l.fr f2
  have g14 : am_i hh m 14 = nI t := by rw [gx 14 (by decide) (by decide), ht]
  have hT2 : ∀ j, j < t → am_i hh (m + 13) j = T j := fun j hj => by rw [f2.i1 (by omega)]; exact hT j hj
  by_cases hkW : k < W
  · obtain ⟨⟨w1, w2, w3⟩, w4, w5, w6, w7, w8⟩ := E.w hkW
    have hne : ¬ nI (st k) = nI t := fun z => by
      have := (nI_eq (by omega) (by omega)).mp z
      omega
    have hTb := hT2 (st k) (by omega)
    have eL := m_isLetter (d := d) l2 g14 ht96 hT2 hst
    have eD := m_isDigit (d := d) l2 g14 ht96 hT2 hst
    have fin : ∀ h3, am_fr (fun b => b = m) hh h3 → (∀ j, j < 15 ∨ 19 < j → am_i h3 m j = am_i hh m j) → am_fr (fun b => b = m) h h3 ∧ (∀ k, k < 15 ∨ 19 < k → am_i h3 m k = am_i h m k) := fun h3 f3 k3 => ⟨f2.tr f3, fun j hj => by rw [k3 j hj, gx j (by omega) (by omega)]⟩
    rcases tk_c4 (T (st k)) with ec | ec | ec | ec
    · exact absurd ec w5
    · -- a sign
      have n2 : ¬ (st k < t ∧ tk_c (T (st k)) = 2) := fun z => by omega
      have n3 : ¬ (st k < t ∧ tk_c (T (st k)) = 3) := fun z => by omega
      have q15 : ∀ x, am_i (am_pi hh m 17 x) m 15 = nI (st k) := fun x => by rw [am_pi_i, if_neg (fun z => absurd z.2 (by decide)), g15]
      have q16 : ∀ x y, am_i (am_pi (am_pi hh m 17 x) m 19 y) m 16 = nI (st k) := fun x y => by rw [am_pi_i, if_neg (fun z => absurd z.2 (by decide)), am_pi_i, if_neg (fun z => absurd z.2 (by decide)), g16]
      have qT : ∀ x, am_i (am_pi hh m 17 x) (m + 13) (st k) = T (st k) := fun x => by rw [(am_pi_o _ (by omega)).1, hTb]
      obtain ⟨r1, r2⟩ := fin (am_pi (am_pi (am_pi hh m 17 3) m 19 (T (st k))) m 16 (nI (st k + 1))) (((am_fr.pi (S := fun b => b = m) rfl).tr (am_fr.pi rfl)).tr (am_fr.pi rfl)) (fun j hj => by rw [am_pi_i, if_neg (by omega), am_pi_i, if_neg (by omega), am_pi_i, if_neg (by omega)])
      have kd := tk_kd_1 (ln := ln) hkW ec
      refine ⟨_, ?_, r1, r2, ?_, ?_, ?_, fun _ => ?_, fun z => ?_, fun z => ?_⟩
      · rw [e_189_98]
        simp only [n_189, e_189_0, e_189_1, e_189_4, e_189_7, e_189_8, e_189_11, e_189_12, e_189_15, e_189_16, e_189_19, e_189_20, e_189_23, e_189_24, f_189_28, e_189_29, e_189_30, f_189_33, e_189_34, e_189_35, e_189_38, e_189_39, e_189_42, e_189_45, e_189_46, e_189_49, e_189_50, e_189_53, e_189_54, e_189_56, e_189_59, e_189_60, e_189_61, e_189_64, e_189_65, e_189_66, e_189_69, e_189_72, e_189_73, e_189_76, e_189_77, e_189_78, e_189_81, e_189_84, e_189_85, f_189_89, e_189_90, e_189_91, e_189_92, e_189_95, e_189_99, e_189_102, e_189_103, e_189_106, e_189_109, e_189_110, e_189_111, e_189_114, e_189_339, e_189_117, e_189_118, e_189_119, e_189_122, e_189_125, e_189_129, e_189_130, e_189_133, e_189_136, e_189_139, e_189_140, e_189_141, e_189_144, e_189_145, e_189_146, e_189_149, e_189_153, e_189_154, e_189_157, e_189_158, e_189_162, e_189_165, e_189_166, e_189_167, e_189_170, e_189_171, e_189_174, e_189_175, e_189_176, e_189_179, e_189_180, e_189_183, e_189_184, e_189_187, e_189_188, e_189_192, e_189_195, e_189_191, e_189_161, e_189_198, e_189_199, e_189_200, e_189_203, e_189_206, e_189_209, e_189_210, e_189_211, e_189_215, e_189_216, e_189_219, e_189_222, e_189_225, e_189_226, e_189_227, e_189_230, e_189_231, e_189_234, e_189_235, e_189_236, e_189_239, e_189_241, e_189_242, e_189_245, e_189_246, e_189_247, e_189_250, e_189_251, e_189_254, e_189_255, e_189_256, e_189_258, e_189_259, e_189_266, e_189_269, e_189_270, e_189_271, e_189_274, e_189_275, e_189_276, e_189_279, e_189_262, e_189_263, e_189_283, e_189_284, e_189_287, e_189_288, e_189_291, e_189_292, e_189_295, e_189_296, e_189_297, e_189_300, e_189_301, e_189_305, e_189_308, e_189_304, e_189_311, e_189_312, e_189_313, e_189_316, e_189_317, e_189_318, e_189_321, e_189_322, e_189_325, e_189_326, e_189_329, e_189_330, e_189_331, e_189_334, e_189_335, e_189_336, e_189_88, e_189_27, Option.bind_some, Option.toList_some, Option.toList_none, List.cons_append, List.nil_append, am_k1_i, am_k1_r, am_k1_u, am_k1_n, am_bo0, am_bo1, am_boi, am_ev_tb, am_tb_nil, am_rfs, am_rfn, eq_self, and_self, if_true, if_false, show ¬ (1 : Int32) = 0 from by decide, show ¬ (0 : Int32) = 1 from by decide, not_true, not_false_eq_true, and_true, true_and, and_false, false_and, or_true, true_or, or_false, false_or, cm_ob l2, g15, g14, hne, eL, n2, eD, n3, am_ob_pi, am_pi_r, am_ia_pi, cm_r13 l2, cm_ia13 l2 (show st k < 96 by omega), am_cl (show st k < 2147483648 by omega), q15, q16, qT, nI_1]
      · rw [am_pi_i, if_neg (by omega), am_pi_i, if_neg (by omega), am_pi_i, if_neg (by omega), g15]
      · rw [am_pi_i, if_pos ⟨rfl, rfl⟩, w7 ec]
      · rw [am_pi_i, if_neg (by omega), am_pi_i, if_neg (by omega), am_pi_i, if_pos ⟨rfl, rfl⟩, kd]; rfl
      · rw [am_pi_i, if_neg (by omega), am_pi_i, if_pos ⟨rfl, rfl⟩]
      · omega
      · omega
    · -- letters
      have n2 : st k < t ∧ tk_c (T (st k)) = 2 := ⟨by omega, ec⟩
      have htg' := htg hkW (by omega)
      obtain ⟨h4, e4, f4, k4, b4⟩ := m_nt_l (d := d) (x1 := some (.int tg')) (x2 := some (.int (nI e))) l2 g14 ht96 hT2 (show st k + ln k ≤ t by omega) (fun q z => w8 q (by omega) (by omega)) (ln k) (st k) hh (by omega) (fun i q1 q2 => by rw [w4 i q1 q2]; exact ec) am_fr.rf (fun _ _ => rfl) g16
      have l4 := l2.fr f4
      have p15 : am_i h4 m 15 = nI (st k) := by rw [k4 15 (by decide), g15]
      have hsub : nI (st k + ln k) - nI (st k) = nI (ln k) := by rw [pk_sub (by omega), Nat.add_sub_cancel_left]
      have hTb4 : am_i h4 (m + 13) (st k) = T (st k) := by rw [f4.i1 (by omega), hTb]
      have q15 : ∀ x, am_i (am_pi h4 m 17 x) m 15 = nI (st k) := fun x => by rw [am_pi_i, if_neg (fun z => absurd z.2 (by decide)), p15]
      have q16 : ∀ x, am_i (am_pi h4 m 17 x) m 16 = nI (st k + ln k) := fun x => by rw [am_pi_i, if_neg (fun z => absurd z.2 (by decide)), b4]
      have qT : ∀ x, am_i (am_pi h4 m 17 x) (m + 13) (st k) = T (st k) := fun x => by rw [(am_pi_o _ (by omega)).1, hTb4]
      have start : am_ev G (d + 2) 189 98 [some (.ref m), some (.int tg'), some (.int (nI e))] [] hh = am_ev G (d + 2) 189 152 [some (.ref m), some (.int tg'), some (.int (nI e))] [] h4 := by
        rw [← e4, e_189_98]
        simp only [n_189, e_189_0, e_189_1, e_189_4, e_189_7, e_189_8, e_189_11, e_189_12, e_189_15, e_189_16, e_189_19, e_189_20, e_189_23, e_189_24, f_189_28, e_189_29, e_189_30, f_189_33, e_189_34, e_189_35, e_189_38, e_189_39, e_189_42, e_189_45, e_189_46, e_189_49, e_189_50, e_189_53, e_189_54, e_189_56, e_189_59, e_189_60, e_189_61, e_189_64, e_189_65, e_189_66, e_189_69, e_189_72, e_189_73, e_189_76, e_189_77, e_189_78, e_189_81, e_189_84, e_189_85, f_189_89, e_189_90, e_189_91, e_189_92, e_189_95, e_189_99, e_189_102, e_189_103, e_189_106, e_189_109, e_189_110, e_189_111, e_189_114, e_189_339, e_189_117, e_189_118, e_189_119, e_189_122, e_189_125, e_189_129, e_189_130, e_189_133, e_189_136, e_189_139, e_189_140, e_189_141, e_189_144, e_189_145, e_189_146, e_189_149, e_189_153, e_189_154, e_189_157, e_189_158, e_189_162, e_189_165, e_189_166, e_189_167, e_189_170, e_189_171, e_189_174, e_189_175, e_189_176, e_189_179, e_189_180, e_189_183, e_189_184, e_189_187, e_189_188, e_189_192, e_189_195, e_189_191, e_189_161, e_189_198, e_189_199, e_189_200, e_189_203, e_189_206, e_189_209, e_189_210, e_189_211, e_189_215, e_189_216, e_189_219, e_189_222, e_189_225, e_189_226, e_189_227, e_189_230, e_189_231, e_189_234, e_189_235, e_189_236, e_189_239, e_189_241, e_189_242, e_189_245, e_189_246, e_189_247, e_189_250, e_189_251, e_189_254, e_189_255, e_189_256, e_189_258, e_189_259, e_189_266, e_189_269, e_189_270, e_189_271, e_189_274, e_189_275, e_189_276, e_189_279, e_189_262, e_189_263, e_189_283, e_189_284, e_189_287, e_189_288, e_189_291, e_189_292, e_189_295, e_189_296, e_189_297, e_189_300, e_189_301, e_189_305, e_189_308, e_189_304, e_189_311, e_189_312, e_189_313, e_189_316, e_189_317, e_189_318, e_189_321, e_189_322, e_189_325, e_189_326, e_189_329, e_189_330, e_189_331, e_189_334, e_189_335, e_189_336, e_189_88, e_189_27, Option.bind_some, Option.toList_some, Option.toList_none, List.cons_append, List.nil_append, am_k1_i, am_k1_r, am_k1_u, am_k1_n, am_bo0, am_bo1, am_boi, am_ev_tb, am_tb_nil, am_rfs, am_rfn, eq_self, and_self, if_true, if_false, show ¬ (1 : Int32) = 0 from by decide, show ¬ (0 : Int32) = 1 from by decide, not_true, not_false_eq_true, and_true, true_and, and_false, false_and, or_true, true_or, or_false, false_or, cm_ob l2, g15, g14, hne, eL, n2]
      have rest : ∀ tv : Int32, (if tg' = 0 then (1 : Int32) else 4) = tv → ∀ lv : Int32, (if ln k = 1 then T (st k) else 0) = lv → am_ev G (d + 2) 189 152 [some (.ref m), some (.int tg'), some (.int (nI e))] [] h4 = some (none, am_pi (am_pi h4 m 17 tv) m 19 lv) := by
        intro tv htv lv hlv
        rw [e_189_152]
        by_cases hl1 : ln k = 1
        · rw [if_pos hl1] at hlv
          have hl1' : nI (ln k) = 1 := by rw [hl1]; rfl
          rcases tg3 with rfl | rfl
          · rw [if_pos rfl] at htv
            subst htv hlv
            simp only [n_189, e_189_0, e_189_1, e_189_4, e_189_7, e_189_8, e_189_11, e_189_12, e_189_15, e_189_16, e_189_19, e_189_20, e_189_23, e_189_24, f_189_28, e_189_29, e_189_30, f_189_33, e_189_34, e_189_35, e_189_38, e_189_39, e_189_42, e_189_45, e_189_46, e_189_49, e_189_50, e_189_53, e_189_54, e_189_56, e_189_59, e_189_60, e_189_61, e_189_64, e_189_65, e_189_66, e_189_69, e_189_72, e_189_73, e_189_76, e_189_77, e_189_78, e_189_81, e_189_84, e_189_85, f_189_89, e_189_90, e_189_91, e_189_92, e_189_95, e_189_99, e_189_102, e_189_103, e_189_106, e_189_109, e_189_110, e_189_111, e_189_114, e_189_339, e_189_117, e_189_118, e_189_119, e_189_122, e_189_125, e_189_129, e_189_130, e_189_133, e_189_136, e_189_139, e_189_140, e_189_141, e_189_144, e_189_145, e_189_146, e_189_149, e_189_153, e_189_154, e_189_157, e_189_158, e_189_162, e_189_165, e_189_166, e_189_167, e_189_170, e_189_171, e_189_174, e_189_175, e_189_176, e_189_179, e_189_180, e_189_183, e_189_184, e_189_187, e_189_188, e_189_192, e_189_195, e_189_191, e_189_161, e_189_198, e_189_199, e_189_200, e_189_203, e_189_206, e_189_209, e_189_210, e_189_211, e_189_215, e_189_216, e_189_219, e_189_222, e_189_225, e_189_226, e_189_227, e_189_230, e_189_231, e_189_234, e_189_235, e_189_236, e_189_239, e_189_241, e_189_242, e_189_245, e_189_246, e_189_247, e_189_250, e_189_251, e_189_254, e_189_255, e_189_256, e_189_258, e_189_259, e_189_266, e_189_269, e_189_270, e_189_271, e_189_274, e_189_275, e_189_276, e_189_279, e_189_262, e_189_263, e_189_283, e_189_284, e_189_287, e_189_288, e_189_291, e_189_292, e_189_295, e_189_296, e_189_297, e_189_300, e_189_301, e_189_305, e_189_308, e_189_304, e_189_311, e_189_312, e_189_313, e_189_316, e_189_317, e_189_318, e_189_321, e_189_322, e_189_325, e_189_326, e_189_329, e_189_330, e_189_331, e_189_334, e_189_335, e_189_336, e_189_88, e_189_27, Option.bind_some, Option.toList_some, Option.toList_none, List.cons_append, List.nil_append, am_k1_i, am_k1_r, am_k1_u, am_k1_n, am_bo0, am_bo1, am_boi, am_ev_tb, am_tb_nil, am_rfs, am_rfn, eq_self, and_self, if_true, if_false, show ¬ (1 : Int32) = 0 from by decide, show ¬ (0 : Int32) = 1 from by decide, not_true, not_false_eq_true, and_true, true_and, and_false, false_and, or_true, true_or, or_false, false_or, cm_ob l4, am_ob_pi, q15, q16, hsub, hl1', am_pi_r, am_ia_pi, cm_r13 l4, cm_ia13 l4 (show st k < 96 by omega), am_cl (show st k < 2147483648 by omega), qT]
          · rw [if_neg (by decide)] at htv
            subst htv hlv
            simp only [n_189, e_189_0, e_189_1, e_189_4, e_189_7, e_189_8, e_189_11, e_189_12, e_189_15, e_189_16, e_189_19, e_189_20, e_189_23, e_189_24, f_189_28, e_189_29, e_189_30, f_189_33, e_189_34, e_189_35, e_189_38, e_189_39, e_189_42, e_189_45, e_189_46, e_189_49, e_189_50, e_189_53, e_189_54, e_189_56, e_189_59, e_189_60, e_189_61, e_189_64, e_189_65, e_189_66, e_189_69, e_189_72, e_189_73, e_189_76, e_189_77, e_189_78, e_189_81, e_189_84, e_189_85, f_189_89, e_189_90, e_189_91, e_189_92, e_189_95, e_189_99, e_189_102, e_189_103, e_189_106, e_189_109, e_189_110, e_189_111, e_189_114, e_189_339, e_189_117, e_189_118, e_189_119, e_189_122, e_189_125, e_189_129, e_189_130, e_189_133, e_189_136, e_189_139, e_189_140, e_189_141, e_189_144, e_189_145, e_189_146, e_189_149, e_189_153, e_189_154, e_189_157, e_189_158, e_189_162, e_189_165, e_189_166, e_189_167, e_189_170, e_189_171, e_189_174, e_189_175, e_189_176, e_189_179, e_189_180, e_189_183, e_189_184, e_189_187, e_189_188, e_189_192, e_189_195, e_189_191, e_189_161, e_189_198, e_189_199, e_189_200, e_189_203, e_189_206, e_189_209, e_189_210, e_189_211, e_189_215, e_189_216, e_189_219, e_189_222, e_189_225, e_189_226, e_189_227, e_189_230, e_189_231, e_189_234, e_189_235, e_189_236, e_189_239, e_189_241, e_189_242, e_189_245, e_189_246, e_189_247, e_189_250, e_189_251, e_189_254, e_189_255, e_189_256, e_189_258, e_189_259, e_189_266, e_189_269, e_189_270, e_189_271, e_189_274, e_189_275, e_189_276, e_189_279, e_189_262, e_189_263, e_189_283, e_189_284, e_189_287, e_189_288, e_189_291, e_189_292, e_189_295, e_189_296, e_189_297, e_189_300, e_189_301, e_189_305, e_189_308, e_189_304, e_189_311, e_189_312, e_189_313, e_189_316, e_189_317, e_189_318, e_189_321, e_189_322, e_189_325, e_189_326, e_189_329, e_189_330, e_189_331, e_189_334, e_189_335, e_189_336, e_189_88, e_189_27, Option.bind_some, Option.toList_some, Option.toList_none, List.cons_append, List.nil_append, am_k1_i, am_k1_r, am_k1_u, am_k1_n, am_bo0, am_bo1, am_boi, am_ev_tb, am_tb_nil, am_rfs, am_rfn, eq_self, and_self, if_true, if_false, show ¬ (1 : Int32) = 0 from by decide, show ¬ (0 : Int32) = 1 from by decide, not_true, not_false_eq_true, and_true, true_and, and_false, false_and, or_true, true_or, or_false, false_or, cm_ob l4, am_ob_pi, q15, q16, hsub, hl1', am_pi_r, am_ia_pi, cm_r13 l4, cm_ia13 l4 (show st k < 96 by omega), am_cl (show st k < 2147483648 by omega), qT]
        · rw [if_neg hl1] at hlv
          have hl1' : ¬ nI (ln k) = 1 := fun z => hl1 ((nI_eq (b := 1) (by omega) (by decide)).mp z)
          rcases tg3 with rfl | rfl
          · rw [if_pos rfl] at htv
            subst htv hlv
            simp only [n_189, e_189_0, e_189_1, e_189_4, e_189_7, e_189_8, e_189_11, e_189_12, e_189_15, e_189_16, e_189_19, e_189_20, e_189_23, e_189_24, f_189_28, e_189_29, e_189_30, f_189_33, e_189_34, e_189_35, e_189_38, e_189_39, e_189_42, e_189_45, e_189_46, e_189_49, e_189_50, e_189_53, e_189_54, e_189_56, e_189_59, e_189_60, e_189_61, e_189_64, e_189_65, e_189_66, e_189_69, e_189_72, e_189_73, e_189_76, e_189_77, e_189_78, e_189_81, e_189_84, e_189_85, f_189_89, e_189_90, e_189_91, e_189_92, e_189_95, e_189_99, e_189_102, e_189_103, e_189_106, e_189_109, e_189_110, e_189_111, e_189_114, e_189_339, e_189_117, e_189_118, e_189_119, e_189_122, e_189_125, e_189_129, e_189_130, e_189_133, e_189_136, e_189_139, e_189_140, e_189_141, e_189_144, e_189_145, e_189_146, e_189_149, e_189_153, e_189_154, e_189_157, e_189_158, e_189_162, e_189_165, e_189_166, e_189_167, e_189_170, e_189_171, e_189_174, e_189_175, e_189_176, e_189_179, e_189_180, e_189_183, e_189_184, e_189_187, e_189_188, e_189_192, e_189_195, e_189_191, e_189_161, e_189_198, e_189_199, e_189_200, e_189_203, e_189_206, e_189_209, e_189_210, e_189_211, e_189_215, e_189_216, e_189_219, e_189_222, e_189_225, e_189_226, e_189_227, e_189_230, e_189_231, e_189_234, e_189_235, e_189_236, e_189_239, e_189_241, e_189_242, e_189_245, e_189_246, e_189_247, e_189_250, e_189_251, e_189_254, e_189_255, e_189_256, e_189_258, e_189_259, e_189_266, e_189_269, e_189_270, e_189_271, e_189_274, e_189_275, e_189_276, e_189_279, e_189_262, e_189_263, e_189_283, e_189_284, e_189_287, e_189_288, e_189_291, e_189_292, e_189_295, e_189_296, e_189_297, e_189_300, e_189_301, e_189_305, e_189_308, e_189_304, e_189_311, e_189_312, e_189_313, e_189_316, e_189_317, e_189_318, e_189_321, e_189_322, e_189_325, e_189_326, e_189_329, e_189_330, e_189_331, e_189_334, e_189_335, e_189_336, e_189_88, e_189_27, Option.bind_some, Option.toList_some, Option.toList_none, List.cons_append, List.nil_append, am_k1_i, am_k1_r, am_k1_u, am_k1_n, am_bo0, am_bo1, am_boi, am_ev_tb, am_tb_nil, am_rfs, am_rfn, eq_self, and_self, if_true, if_false, show ¬ (1 : Int32) = 0 from by decide, show ¬ (0 : Int32) = 1 from by decide, not_true, not_false_eq_true, and_true, true_and, and_false, false_and, or_true, true_or, or_false, false_or, cm_ob l4, am_ob_pi, q15, q16, hsub, hl1']
          · rw [if_neg (by decide)] at htv
            subst htv hlv
            simp only [n_189, e_189_0, e_189_1, e_189_4, e_189_7, e_189_8, e_189_11, e_189_12, e_189_15, e_189_16, e_189_19, e_189_20, e_189_23, e_189_24, f_189_28, e_189_29, e_189_30, f_189_33, e_189_34, e_189_35, e_189_38, e_189_39, e_189_42, e_189_45, e_189_46, e_189_49, e_189_50, e_189_53, e_189_54, e_189_56, e_189_59, e_189_60, e_189_61, e_189_64, e_189_65, e_189_66, e_189_69, e_189_72, e_189_73, e_189_76, e_189_77, e_189_78, e_189_81, e_189_84, e_189_85, f_189_89, e_189_90, e_189_91, e_189_92, e_189_95, e_189_99, e_189_102, e_189_103, e_189_106, e_189_109, e_189_110, e_189_111, e_189_114, e_189_339, e_189_117, e_189_118, e_189_119, e_189_122, e_189_125, e_189_129, e_189_130, e_189_133, e_189_136, e_189_139, e_189_140, e_189_141, e_189_144, e_189_145, e_189_146, e_189_149, e_189_153, e_189_154, e_189_157, e_189_158, e_189_162, e_189_165, e_189_166, e_189_167, e_189_170, e_189_171, e_189_174, e_189_175, e_189_176, e_189_179, e_189_180, e_189_183, e_189_184, e_189_187, e_189_188, e_189_192, e_189_195, e_189_191, e_189_161, e_189_198, e_189_199, e_189_200, e_189_203, e_189_206, e_189_209, e_189_210, e_189_211, e_189_215, e_189_216, e_189_219, e_189_222, e_189_225, e_189_226, e_189_227, e_189_230, e_189_231, e_189_234, e_189_235, e_189_236, e_189_239, e_189_241, e_189_242, e_189_245, e_189_246, e_189_247, e_189_250, e_189_251, e_189_254, e_189_255, e_189_256, e_189_258, e_189_259, e_189_266, e_189_269, e_189_270, e_189_271, e_189_274, e_189_275, e_189_276, e_189_279, e_189_262, e_189_263, e_189_283, e_189_284, e_189_287, e_189_288, e_189_291, e_189_292, e_189_295, e_189_296, e_189_297, e_189_300, e_189_301, e_189_305, e_189_308, e_189_304, e_189_311, e_189_312, e_189_313, e_189_316, e_189_317, e_189_318, e_189_321, e_189_322, e_189_325, e_189_326, e_189_329, e_189_330, e_189_331, e_189_334, e_189_335, e_189_336, e_189_88, e_189_27, Option.bind_some, Option.toList_some, Option.toList_none, List.cons_append, List.nil_append, am_k1_i, am_k1_r, am_k1_u, am_k1_n, am_bo0, am_bo1, am_boi, am_ev_tb, am_tb_nil, am_rfs, am_rfn, eq_self, and_self, if_true, if_false, show ¬ (1 : Int32) = 0 from by decide, show ¬ (0 : Int32) = 1 from by decide, not_true, not_false_eq_true, and_true, true_and, and_false, false_and, or_true, true_or, or_false, false_or, cm_ob l4, am_ob_pi, q15, q16, hsub, hl1']
      obtain ⟨r1, r2⟩ := fin (am_pi (am_pi h4 m 17 (if tg' = 0 then (1 : Int32) else 4)) m 19 (if ln k = 1 then T (st k) else 0)) (f4.tr ((am_fr.pi (S := fun b => b = m) rfl).tr (am_fr.pi rfl))) (fun j hj => by rw [am_pi_i, if_neg (by omega), am_pi_i, if_neg (by omega), k4 j (by omega)])
      refine ⟨_, start.trans (rest _ rfl _ rfl), r1, r2, ?_, ?_, ?_, fun z => ?_, fun z => ?_, fun z => ?_⟩
      · rw [am_pi_i, if_neg (by omega), q15]
      · rw [am_pi_i, if_neg (by omega), q16]
      · rw [am_pi_i, if_neg (by omega), am_pi_i, if_pos ⟨rfl, rfl⟩]
        by_cases hg : 0 < st k ∧ (tk_c (T (st k - 1)) = 2 ∨ tk_c (T (st k - 1)) = 3)
        · rw [tk_kd_g hkW (by omega) hg]
          obtain ⟨z1, z2⟩ := htg'.mpr hg
          rw [tg4.mpr ⟨tg2.mpr z1, z2⟩, if_neg (by decide)]; rfl
        · rw [tk_kd_2 hkW ec hg]
          rcases tg3 with q | q
          · rw [q, if_pos rfl]; rfl
          · obtain ⟨z1, z2⟩ := tg4.mp q
            exact absurd (htg'.mp ⟨tg2.mp z1, z2⟩) hg
      · by_cases hg : 0 < st k ∧ (tk_c (T (st k - 1)) = 2 ∨ tk_c (T (st k - 1)) = 3)
        · rw [tk_kd_g hkW (by omega) hg] at z; omega
        · rw [tk_kd_2 hkW ec hg] at z; omega
      · rw [am_pi_i, if_pos ⟨rfl, rfl⟩]
      · by_cases hg : 0 < st k ∧ (tk_c (T (st k - 1)) = 2 ∨ tk_c (T (st k - 1)) = 3)
        · rw [tk_kd_g hkW (by omega) hg] at z; omega
        · rw [tk_kd_2 hkW ec hg] at z; omega
    · -- digits
      have n2 : ¬ (st k < t ∧ tk_c (T (st k)) = 2) := fun z => by omega
      have n3 : st k < t ∧ tk_c (T (st k)) = 3 := ⟨by omega, ec⟩
      have htg' := htg hkW (by omega)
      have f5 : am_fr (fun b => b = m) hh (am_pi hh m 18 0) := am_fr.pi rfl
      have l5 := l2.fr f5
      obtain ⟨h4, e4, f4, k4, b4, c4⟩ := m_nt_d (d := d) (x1 := some (.int tg')) (x2 := some (.int (nI e))) (s := st k) (h := am_pi hh m 18 0) (T := T) l5 (t := t) (by rw [am_pi_i, if_neg (by omega), g14]) ht96 (fun j hj => by rw [(am_pi_o _ (by omega)).1, hT2 j hj]) (by rw [am_pi_i, if_neg (by omega), g15]) (show st k + ln k ≤ t by omega) (fun q z => w8 q (by omega) (by omega)) (ln k) (st k) (am_pi hh m 18 0) (by omega) (by omega) (fun i q1 q2 => by rw [w4 i q1 q2]; exact ec) am_fr.rf (fun _ _ _ => rfl) (by rw [am_pi_i, if_neg (by omega), g16]) (by rw [am_pi_i, if_pos ⟨rfl, rfl⟩, show min (st k - st k) 4 = 0 by omega]; rfl)
      have l4 := l5.fr f4
      have p15 : am_i h4 m 15 = nI (st k) := by rw [k4 15 (by decide) (by decide), am_pi_i, if_neg (by omega), g15]
      have hsub : nI (st k + ln k) - nI (st k) = nI (ln k) := by rw [pk_sub (by omega), Nat.add_sub_cancel_left]
      have start : am_ev G (d + 2) 189 98 [some (.ref m), some (.int tg'), some (.int (nI e))] [] hh = am_ev G (d + 2) 189 282 [some (.ref m), some (.int tg'), some (.int (nI e))] [] h4 := by
        rw [← e4, e_189_98]
        rw [if_neg n2] at eL
        rw [if_pos n3] at eD
        simp only [n_189, e_189_0, e_189_1, e_189_4, e_189_7, e_189_8, e_189_11, e_189_12, e_189_15, e_189_16, e_189_19, e_189_20, e_189_23, e_189_24, f_189_28, e_189_29, e_189_30, f_189_33, e_189_34, e_189_35, e_189_38, e_189_39, e_189_42, e_189_45, e_189_46, e_189_49, e_189_50, e_189_53, e_189_54, e_189_56, e_189_59, e_189_60, e_189_61, e_189_64, e_189_65, e_189_66, e_189_69, e_189_72, e_189_73, e_189_76, e_189_77, e_189_78, e_189_81, e_189_84, e_189_85, f_189_89, e_189_90, e_189_91, e_189_92, e_189_95, e_189_99, e_189_102, e_189_103, e_189_106, e_189_109, e_189_110, e_189_111, e_189_114, e_189_339, e_189_117, e_189_118, e_189_119, e_189_122, e_189_125, e_189_129, e_189_130, e_189_133, e_189_136, e_189_139, e_189_140, e_189_141, e_189_144, e_189_145, e_189_146, e_189_149, e_189_153, e_189_154, e_189_157, e_189_158, e_189_162, e_189_165, e_189_166, e_189_167, e_189_170, e_189_171, e_189_174, e_189_175, e_189_176, e_189_179, e_189_180, e_189_183, e_189_184, e_189_187, e_189_188, e_189_192, e_189_195, e_189_191, e_189_161, e_189_198, e_189_199, e_189_200, e_189_203, e_189_206, e_189_209, e_189_210, e_189_211, e_189_215, e_189_216, e_189_219, e_189_222, e_189_225, e_189_226, e_189_227, e_189_230, e_189_231, e_189_234, e_189_235, e_189_236, e_189_239, e_189_241, e_189_242, e_189_245, e_189_246, e_189_247, e_189_250, e_189_251, e_189_254, e_189_255, e_189_256, e_189_258, e_189_259, e_189_266, e_189_269, e_189_270, e_189_271, e_189_274, e_189_275, e_189_276, e_189_279, e_189_262, e_189_263, e_189_283, e_189_284, e_189_287, e_189_288, e_189_291, e_189_292, e_189_295, e_189_296, e_189_297, e_189_300, e_189_301, e_189_305, e_189_308, e_189_304, e_189_311, e_189_312, e_189_313, e_189_316, e_189_317, e_189_318, e_189_321, e_189_322, e_189_325, e_189_326, e_189_329, e_189_330, e_189_331, e_189_334, e_189_335, e_189_336, e_189_88, e_189_27, Option.bind_some, Option.toList_some, Option.toList_none, List.cons_append, List.nil_append, am_k1_i, am_k1_r, am_k1_u, am_k1_n, am_bo0, am_bo1, am_boi, am_ev_tb, am_tb_nil, am_rfs, am_rfn, eq_self, and_self, if_true, if_false, show ¬ (1 : Int32) = 0 from by decide, show ¬ (0 : Int32) = 1 from by decide, not_true, not_false_eq_true, and_true, true_and, and_false, false_and, or_true, true_or, or_false, false_or, cm_ob l2, g15, g14, hne, eL, eD]
      have rest : ∀ tv : Int32, (if tg' = 0 ∧ ln k ≤ 4 then (2 : Int32) else 4) = tv → am_ev G (d + 2) 189 282 [some (.ref m), some (.int tg'), some (.int (nI e))] [] h4 = some (none, am_pi h4 m 17 tv) := by
        intro tv htv
        rw [e_189_282]
        rcases tg3 with rfl | rfl
        · by_cases hl4 : ln k ≤ 4
          · rw [if_pos ⟨rfl, hl4⟩] at htv
            subst htv
            have hl' : nI (ln k) ≤ 4 := nI_le (b := 4) hl4 (by decide)
            simp only [n_189, e_189_0, e_189_1, e_189_4, e_189_7, e_189_8, e_189_11, e_189_12, e_189_15, e_189_16, e_189_19, e_189_20, e_189_23, e_189_24, f_189_28, e_189_29, e_189_30, f_189_33, e_189_34, e_189_35, e_189_38, e_189_39, e_189_42, e_189_45, e_189_46, e_189_49, e_189_50, e_189_53, e_189_54, e_189_56, e_189_59, e_189_60, e_189_61, e_189_64, e_189_65, e_189_66, e_189_69, e_189_72, e_189_73, e_189_76, e_189_77, e_189_78, e_189_81, e_189_84, e_189_85, f_189_89, e_189_90, e_189_91, e_189_92, e_189_95, e_189_99, e_189_102, e_189_103, e_189_106, e_189_109, e_189_110, e_189_111, e_189_114, e_189_339, e_189_117, e_189_118, e_189_119, e_189_122, e_189_125, e_189_129, e_189_130, e_189_133, e_189_136, e_189_139, e_189_140, e_189_141, e_189_144, e_189_145, e_189_146, e_189_149, e_189_153, e_189_154, e_189_157, e_189_158, e_189_162, e_189_165, e_189_166, e_189_167, e_189_170, e_189_171, e_189_174, e_189_175, e_189_176, e_189_179, e_189_180, e_189_183, e_189_184, e_189_187, e_189_188, e_189_192, e_189_195, e_189_191, e_189_161, e_189_198, e_189_199, e_189_200, e_189_203, e_189_206, e_189_209, e_189_210, e_189_211, e_189_215, e_189_216, e_189_219, e_189_222, e_189_225, e_189_226, e_189_227, e_189_230, e_189_231, e_189_234, e_189_235, e_189_236, e_189_239, e_189_241, e_189_242, e_189_245, e_189_246, e_189_247, e_189_250, e_189_251, e_189_254, e_189_255, e_189_256, e_189_258, e_189_259, e_189_266, e_189_269, e_189_270, e_189_271, e_189_274, e_189_275, e_189_276, e_189_279, e_189_262, e_189_263, e_189_283, e_189_284, e_189_287, e_189_288, e_189_291, e_189_292, e_189_295, e_189_296, e_189_297, e_189_300, e_189_301, e_189_305, e_189_308, e_189_304, e_189_311, e_189_312, e_189_313, e_189_316, e_189_317, e_189_318, e_189_321, e_189_322, e_189_325, e_189_326, e_189_329, e_189_330, e_189_331, e_189_334, e_189_335, e_189_336, e_189_88, e_189_27, Option.bind_some, Option.toList_some, Option.toList_none, List.cons_append, List.nil_append, am_k1_i, am_k1_r, am_k1_u, am_k1_n, am_bo0, am_bo1, am_boi, am_ev_tb, am_tb_nil, am_rfs, am_rfn, eq_self, and_self, if_true, if_false, show ¬ (1 : Int32) = 0 from by decide, show ¬ (0 : Int32) = 1 from by decide, not_true, not_false_eq_true, and_true, true_and, and_false, false_and, or_true, true_or, or_false, false_or, cm_ob l4, p15, b4, hsub, hl']
          · rw [if_neg (fun z => hl4 z.2)] at htv
            subst htv
            have hl' : ¬ nI (ln k) ≤ 4 := nI_ge (a := 4) (by omega) (by omega)
            simp only [n_189, e_189_0, e_189_1, e_189_4, e_189_7, e_189_8, e_189_11, e_189_12, e_189_15, e_189_16, e_189_19, e_189_20, e_189_23, e_189_24, f_189_28, e_189_29, e_189_30, f_189_33, e_189_34, e_189_35, e_189_38, e_189_39, e_189_42, e_189_45, e_189_46, e_189_49, e_189_50, e_189_53, e_189_54, e_189_56, e_189_59, e_189_60, e_189_61, e_189_64, e_189_65, e_189_66, e_189_69, e_189_72, e_189_73, e_189_76, e_189_77, e_189_78, e_189_81, e_189_84, e_189_85, f_189_89, e_189_90, e_189_91, e_189_92, e_189_95, e_189_99, e_189_102, e_189_103, e_189_106, e_189_109, e_189_110, e_189_111, e_189_114, e_189_339, e_189_117, e_189_118, e_189_119, e_189_122, e_189_125, e_189_129, e_189_130, e_189_133, e_189_136, e_189_139, e_189_140, e_189_141, e_189_144, e_189_145, e_189_146, e_189_149, e_189_153, e_189_154, e_189_157, e_189_158, e_189_162, e_189_165, e_189_166, e_189_167, e_189_170, e_189_171, e_189_174, e_189_175, e_189_176, e_189_179, e_189_180, e_189_183, e_189_184, e_189_187, e_189_188, e_189_192, e_189_195, e_189_191, e_189_161, e_189_198, e_189_199, e_189_200, e_189_203, e_189_206, e_189_209, e_189_210, e_189_211, e_189_215, e_189_216, e_189_219, e_189_222, e_189_225, e_189_226, e_189_227, e_189_230, e_189_231, e_189_234, e_189_235, e_189_236, e_189_239, e_189_241, e_189_242, e_189_245, e_189_246, e_189_247, e_189_250, e_189_251, e_189_254, e_189_255, e_189_256, e_189_258, e_189_259, e_189_266, e_189_269, e_189_270, e_189_271, e_189_274, e_189_275, e_189_276, e_189_279, e_189_262, e_189_263, e_189_283, e_189_284, e_189_287, e_189_288, e_189_291, e_189_292, e_189_295, e_189_296, e_189_297, e_189_300, e_189_301, e_189_305, e_189_308, e_189_304, e_189_311, e_189_312, e_189_313, e_189_316, e_189_317, e_189_318, e_189_321, e_189_322, e_189_325, e_189_326, e_189_329, e_189_330, e_189_331, e_189_334, e_189_335, e_189_336, e_189_88, e_189_27, Option.bind_some, Option.toList_some, Option.toList_none, List.cons_append, List.nil_append, am_k1_i, am_k1_r, am_k1_u, am_k1_n, am_bo0, am_bo1, am_boi, am_ev_tb, am_tb_nil, am_rfs, am_rfn, eq_self, and_self, if_true, if_false, show ¬ (1 : Int32) = 0 from by decide, show ¬ (0 : Int32) = 1 from by decide, not_true, not_false_eq_true, and_true, true_and, and_false, false_and, or_true, true_or, or_false, false_or, cm_ob l4, p15, b4, hsub, hl']
        · rw [if_neg (fun z => absurd z.1 (by decide))] at htv
          subst htv
          simp only [n_189, e_189_0, e_189_1, e_189_4, e_189_7, e_189_8, e_189_11, e_189_12, e_189_15, e_189_16, e_189_19, e_189_20, e_189_23, e_189_24, f_189_28, e_189_29, e_189_30, f_189_33, e_189_34, e_189_35, e_189_38, e_189_39, e_189_42, e_189_45, e_189_46, e_189_49, e_189_50, e_189_53, e_189_54, e_189_56, e_189_59, e_189_60, e_189_61, e_189_64, e_189_65, e_189_66, e_189_69, e_189_72, e_189_73, e_189_76, e_189_77, e_189_78, e_189_81, e_189_84, e_189_85, f_189_89, e_189_90, e_189_91, e_189_92, e_189_95, e_189_99, e_189_102, e_189_103, e_189_106, e_189_109, e_189_110, e_189_111, e_189_114, e_189_339, e_189_117, e_189_118, e_189_119, e_189_122, e_189_125, e_189_129, e_189_130, e_189_133, e_189_136, e_189_139, e_189_140, e_189_141, e_189_144, e_189_145, e_189_146, e_189_149, e_189_153, e_189_154, e_189_157, e_189_158, e_189_162, e_189_165, e_189_166, e_189_167, e_189_170, e_189_171, e_189_174, e_189_175, e_189_176, e_189_179, e_189_180, e_189_183, e_189_184, e_189_187, e_189_188, e_189_192, e_189_195, e_189_191, e_189_161, e_189_198, e_189_199, e_189_200, e_189_203, e_189_206, e_189_209, e_189_210, e_189_211, e_189_215, e_189_216, e_189_219, e_189_222, e_189_225, e_189_226, e_189_227, e_189_230, e_189_231, e_189_234, e_189_235, e_189_236, e_189_239, e_189_241, e_189_242, e_189_245, e_189_246, e_189_247, e_189_250, e_189_251, e_189_254, e_189_255, e_189_256, e_189_258, e_189_259, e_189_266, e_189_269, e_189_270, e_189_271, e_189_274, e_189_275, e_189_276, e_189_279, e_189_262, e_189_263, e_189_283, e_189_284, e_189_287, e_189_288, e_189_291, e_189_292, e_189_295, e_189_296, e_189_297, e_189_300, e_189_301, e_189_305, e_189_308, e_189_304, e_189_311, e_189_312, e_189_313, e_189_316, e_189_317, e_189_318, e_189_321, e_189_322, e_189_325, e_189_326, e_189_329, e_189_330, e_189_331, e_189_334, e_189_335, e_189_336, e_189_88, e_189_27, Option.bind_some, Option.toList_some, Option.toList_none, List.cons_append, List.nil_append, am_k1_i, am_k1_r, am_k1_u, am_k1_n, am_bo0, am_bo1, am_boi, am_ev_tb, am_tb_nil, am_rfs, am_rfn, eq_self, and_self, if_true, if_false, show ¬ (1 : Int32) = 0 from by decide, show ¬ (0 : Int32) = 1 from by decide, not_true, not_false_eq_true, and_true, true_and, and_false, false_and, or_true, true_or, or_false, false_or, cm_ob l4]
      obtain ⟨r1, r2⟩ := fin (am_pi h4 m 17 (if tg' = 0 ∧ ln k ≤ 4 then (2 : Int32) else 4)) (f5.tr (f4.tr (am_fr.pi rfl))) (fun j hj => by rw [am_pi_i, if_neg (by omega), k4 j (by omega) (by omega), am_pi_i, if_neg (by omega)])
      refine ⟨_, start.trans (rest _ rfl), r1, r2, ?_, ?_, ?_, fun z => ?_, fun z => ?_, fun z => ?_⟩
      · rw [am_pi_i, if_neg (by omega), p15]
      · rw [am_pi_i, if_neg (by omega), b4]
      · rw [am_pi_i, if_pos ⟨rfl, rfl⟩]
        by_cases hg : 0 < st k ∧ (tk_c (T (st k - 1)) = 2 ∨ tk_c (T (st k - 1)) = 3)
        · rw [tk_kd_g hkW (by omega) hg]
          obtain ⟨z1, z2⟩ := htg'.mpr hg
          rw [tg4.mpr ⟨tg2.mpr z1, z2⟩, if_neg (fun z => absurd z.1 (by decide))]; rfl
        · rw [tk_kd_3 hkW ec hg]
          rcases tg3 with q | q
          · rw [q]
            by_cases hl4 : ln k ≤ 4
            · rw [if_pos ⟨rfl, hl4⟩, if_pos hl4]; rfl
            · rw [if_neg (fun z => hl4 z.2), if_neg hl4]; rfl
          · obtain ⟨z1, z2⟩ := tg4.mp q
            exact absurd (htg'.mp ⟨tg2.mp z1, z2⟩) hg
      · by_cases hg : 0 < st k ∧ (tk_c (T (st k - 1)) = 2 ∨ tk_c (T (st k - 1)) = 3)
        · rw [tk_kd_g hkW (by omega) hg] at z; omega
        · rw [tk_kd_3 hkW ec hg] at z; split at z <;> omega
      · by_cases hg : 0 < st k ∧ (tk_c (T (st k - 1)) = 2 ∨ tk_c (T (st k - 1)) = 3)
        · rw [tk_kd_g hkW (by omega) hg] at z; omega
        · rw [tk_kd_3 hkW ec hg] at z; split at z <;> omega
      · by_cases hg : 0 < st k ∧ (tk_c (T (st k - 1)) = 2 ∨ tk_c (T (st k - 1)) = 3)
        · rw [tk_kd_g hkW (by omega) hg] at z; omega
        · rw [tk_kd_3 hkW ec hg] at z
          by_cases hl4 : ln k ≤ 4
          · rw [am_pi_i, if_neg (by omega), c4, show min (st k + ln k - st k) 4 = ln k by omega]
          · rw [if_neg hl4] at z; omega
  · have e : k = W := by omega
    subst e
    have hWt : st k = t := E.2.2.1
    refine ⟨am_pi hh m 17 0, ?_, f2.tr (am_fr.pi rfl), fun j hj => by rw [am_pi_i, if_neg (by omega), gx j (by omega) (by omega)], ?_, ?_, ?_, fun z => ?_, fun z => ?_, fun z => ?_⟩
    · rw [e_189_98]
      simp only [n_189, e_189_0, e_189_1, e_189_4, e_189_7, e_189_8, e_189_11, e_189_12, e_189_15, e_189_16, e_189_19, e_189_20, e_189_23, e_189_24, f_189_28, e_189_29, e_189_30, f_189_33, e_189_34, e_189_35, e_189_38, e_189_39, e_189_42, e_189_45, e_189_46, e_189_49, e_189_50, e_189_53, e_189_54, e_189_56, e_189_59, e_189_60, e_189_61, e_189_64, e_189_65, e_189_66, e_189_69, e_189_72, e_189_73, e_189_76, e_189_77, e_189_78, e_189_81, e_189_84, e_189_85, f_189_89, e_189_90, e_189_91, e_189_92, e_189_95, e_189_99, e_189_102, e_189_103, e_189_106, e_189_109, e_189_110, e_189_111, e_189_114, e_189_339, e_189_117, e_189_118, e_189_119, e_189_122, e_189_125, e_189_129, e_189_130, e_189_133, e_189_136, e_189_139, e_189_140, e_189_141, e_189_144, e_189_145, e_189_146, e_189_149, e_189_153, e_189_154, e_189_157, e_189_158, e_189_162, e_189_165, e_189_166, e_189_167, e_189_170, e_189_171, e_189_174, e_189_175, e_189_176, e_189_179, e_189_180, e_189_183, e_189_184, e_189_187, e_189_188, e_189_192, e_189_195, e_189_191, e_189_161, e_189_198, e_189_199, e_189_200, e_189_203, e_189_206, e_189_209, e_189_210, e_189_211, e_189_215, e_189_216, e_189_219, e_189_222, e_189_225, e_189_226, e_189_227, e_189_230, e_189_231, e_189_234, e_189_235, e_189_236, e_189_239, e_189_241, e_189_242, e_189_245, e_189_246, e_189_247, e_189_250, e_189_251, e_189_254, e_189_255, e_189_256, e_189_258, e_189_259, e_189_266, e_189_269, e_189_270, e_189_271, e_189_274, e_189_275, e_189_276, e_189_279, e_189_262, e_189_263, e_189_283, e_189_284, e_189_287, e_189_288, e_189_291, e_189_292, e_189_295, e_189_296, e_189_297, e_189_300, e_189_301, e_189_305, e_189_308, e_189_304, e_189_311, e_189_312, e_189_313, e_189_316, e_189_317, e_189_318, e_189_321, e_189_322, e_189_325, e_189_326, e_189_329, e_189_330, e_189_331, e_189_334, e_189_335, e_189_336, e_189_88, e_189_27, Option.bind_some, Option.toList_some, Option.toList_none, List.cons_append, List.nil_append, am_k1_i, am_k1_r, am_k1_u, am_k1_n, am_bo0, am_bo1, am_boi, am_ev_tb, am_tb_nil, am_rfs, am_rfn, eq_self, and_self, if_true, if_false, show ¬ (1 : Int32) = 0 from by decide, show ¬ (0 : Int32) = 1 from by decide, not_true, not_false_eq_true, and_true, true_and, and_false, false_and, or_true, true_or, or_false, false_or, cm_ob l2, g15, g14, hWt]
    · rw [am_pi_i, if_neg (by omega), g15]
    · rw [am_pi_i, if_neg (by omega), g16, E.2.2.2, Nat.add_zero]
    · rw [am_pi_i, if_pos ⟨rfl, rfl⟩, tk_kd_W]; rfl
    · rw [tk_kd_W] at z; omega
    · rw [tk_kd_W] at z; omega
    · rw [tk_kd_W] at z; omega
/-- from a word that is none wrong to the next -/
theorem m_next1 (l : cm_Lay G h m) (ht : am_i h m 14 = nI t) (E : tk_Env T t W st ln) (hT : ∀ j, j < t → am_i h (m + 13) j = T j) (hk : k < W) (hw : tk_kd T W st ln k ≠ 4) (R : rt_at T W st ln h m k) : ∃ h2, am_evm G (d + 2) 189 [.ref m] h = some (none, h2) ∧ am_fr (fun b => b = m) h h2 ∧ (∀ k, k < 15 ∨ 19 < k → am_i h2 m k = am_i h m k) ∧ rt_at T W st ln h2 m (k + 1) := by
  obtain ⟨⟨w1, w2, w3⟩, w4, w5, w6, w7, w8⟩ := E.w hk
  have ht96 := E.1
  refine m_next l ht E hT (e := st k + ln k) (by omega) w2 w6 R.2.1 (fun hk2 hc => ?_)
  rw [R.2.2.1]
  have n12 : (nI (tk_kd T W st ln k) = 1 ∨ nI (tk_kd T W st ln k) = 2) ↔ (tk_c (T (st k)) = 2 ∨ tk_c (T (st k)) = 3) := by
    have q1 : tk_kd T W st ln k ≤ 4 := by unfold tk_kd; (repeat' split) <;> omega
    rw [show nI (tk_kd T W st ln k) = 1 ↔ tk_kd T W st ln k = 1 from nI_eq (b := 1) (by omega) (by decide), show nI (tk_kd T W st ln k) = 2 ↔ tk_kd T W st ln k = 2 from nI_eq (b := 2) (by omega) (by decide)]
    rcases tk_c4 (T (st k)) with ec | ec | ec | ec
    · exact absurd ec w5
    · rw [tk_kd_1 hk ec]; omega
    · by_cases hg : 0 < st k ∧ (tk_c (T (st k - 1)) = 2 ∨ tk_c (T (st k - 1)) = 3)
      · exact absurd (tk_kd_g hk (by omega) hg) hw
      · rw [tk_kd_2 hk ec hg]; omega
    · by_cases hg : 0 < st k ∧ (tk_c (T (st k - 1)) = 2 ∨ tk_c (T (st k - 1)) = 3)
      · exact absurd (tk_kd_g hk (by omega) hg) hw
      · rw [tk_kd_3 hk ec hg] at hw ⊢
        by_cases hl4 : ln k ≤ 4
        · rw [if_pos hl4]; omega
        · rw [if_neg hl4] at hw; omega
  rw [n12]
  by_cases e : st k + ln k = st (k + 1)
  · have := w4 (st (k + 1) - 1) (by omega) (by omega)
    rw [this]
    constructor
    · intro z; exact ⟨by omega, z.1.2⟩
    · intro z; exact ⟨⟨by omega, z.2⟩, e⟩
  · have := w6 (st (k + 1) - 1) (by omega) (by omega)
    rw [this]
    omega
theorem m_next0 (l : cm_Lay G h m) (ht : am_i h m 14 = nI t) (E : tk_Env T t W st ln) (hT : ∀ j, j < t → am_i h (m + 13) j = T j) (h16 : am_i h m 16 = 0) : ∃ h2, am_evm G (d + 2) 189 [.ref m] h = some (none, h2) ∧ am_fr (fun b => b = m) h h2 ∧ (∀ k, k < 15 ∨ 19 < k → am_i h2 m k = am_i h m k) ∧ rt_at T W st ln h2 m 0 := by
  have pre : ∀ j, j < st 0 → tk_c (T j) = 0 := by
    have h2 := E.2.1.2.1
    by_cases hW : 0 < W
    · rw [if_pos hW] at h2; exact h2
    · rw [if_neg hW] at h2
      have : st 0 = t := by rw [← E.2.2.1, show W = 0 by omega]
      rw [this]; exact h2
  refine m_next l ht E hT (e := 0) (Nat.zero_le W) (Nat.zero_le _) (fun j _ hj => pre j hj) h16 (fun hk hc => ?_)
  by_cases e : st 0 = 0
  · rw [e]; omega
  · have := pre (st 0 - 1) (by omega)
    rw [this]
    omega
end NU
