/-! sheets: mark, pour, reads, copy on both sides -/
section SH
variable {G : Nat → Nat} {h h3 : am_H} {o m d : Nat} {S : Nat → Prop}
theorem s_mark (i : iv G h o m) {v p w : Int32} : sm G h o m d 103 210 [.int v, .int p, .int w] := by
  have lm := i.1.2.1
  have lo := i.1.2.2.1
  have hm : m = o + 117 := i.1.1.2
  by_cases h1 : 0 ≤ v ∧ v ≤ 3
  · obtain ⟨k, hk, rfl⟩ := mt_ix4.mp h1
    obtain ⟨b1, b2, z, hz, b3, b4, b5⟩ := i.2.2.2.2.1 k hk
    by_cases c1 : am_i h (m + 4) k = -1
    · refine sm_same i ?_ (m_mark1 (x := -1000000011) lm hk ?_)
      · simp only [n_103, e_103_0, e_103_1, e_103_4, e_103_7, e_103_9, e_103_10, e_103_11, e_103_14, e_103_15, f_103_16, e_103_18, e_103_20, e_103_23, e_103_24, e_103_27, e_103_30, e_103_31, e_103_33, e_103_34, e_103_37, e_103_40, e_103_43, e_103_44, e_103_46, e_103_49, e_103_52, e_103_53, e_103_55, e_103_58, e_103_60, e_103_61, e_103_63, e_103_66, e_103_67, e_103_70, e_103_71, e_103_73, e_103_76, e_103_77, e_103_80, e_103_83, e_103_86, e_103_89, e_103_91, e_103_92, e_103_94, e_103_97, e_103_98, e_103_100, e_103_103, e_103_106, e_103_107, e_103_108, e_103_112, e_103_113, e_103_114, e_103_111, Option.bind_some, Option.toList_some, Option.toList_none, List.cons_append, List.nil_append, am_k1_i, am_k1_r, am_k1_u, am_k1_n, am_bo0, am_bo1, am_boi, am_ev_tb, am_tb_nil, am_rfs, am_rfn, eq_self, and_self, if_true, if_false, show ¬ (1 : Int32) = 0 from by decide, show ¬ (0 : Int32) = 1 from by decide, not_true, not_false_eq_true, and_true, true_and, and_false, false_and, or_true, true_or, or_false, false_or, c_isSheet, h1, co_ob lo, co_r5 lo, co_s1 lo hk, am_cl (show k < 2147483648 by omega), co_s2 lo hk, co_s3 lo hk, b1, c1]
      · unfold mt_mark
        rw [c1, if_pos (by decide)]
    · have c0 : am_i h (m + 4) k = 0 ∨ am_i h (m + 4) k = 1 := b2.resolve_left c1
      have c1' : ¬ am_i h (m + 4) k < 0 := by
        rcases c0 with e | e
        · rw [e]; decide
        · rw [e]; decide
      by_cases c2 : 0 ≤ p ∧ p ≤ nI z - 1
      · obtain ⟨j, hj, rfl⟩ := (mt_ix (by omega)).mp c2
        have fin : ∀ x : Int32, x = (if am_i h (m + 4) k = 0 then mt_sh w else w) → mt_mark (am_i h (m + 4) k) (am_i h (m + 5) k) (nI j) w = none → am_evm G (d + 200) 103 [.ref o, .int (nI k), .int (nI j), .int w] h = some (some (.int 1), am_pi h (o + 90 + 2 * k) j x) → sm G h o m d 103 210 [.int (nI k), .int (nI j), .int w] := by
          intro x hx hmk e1
          have f1 : am_fr (fun b => b = o + 90 + 2 * k ∨ b = m + 6) h (am_pi h (o + 90 + 2 * k) j x) := am_fr.pi (Or.inl rfl)
          have g4 := f1.i1 (b := m + 4) (by omega)
          have g5 := f1.i1 (b := m + 5) (by omega)
          have e2 := m_mark (d := d + 198) (lm.fr f1) hk (show j < 24 by omega) (w := w) (by rw [g4]; exact c0) (by rw [g4, g5]; exact hmk)
          rw [g4, ← hx] at e2
          have f2 : am_fr (fun b => b = o + 90 + 2 * k ∨ b = m + 6) h (am_pi (am_pi h (o + 90 + 2 * k) j x) (m + 6) (24 * k + j) x) := f1.tr (am_fr.pi (Or.inr rfl))
          refine ⟨_, _, _, e1, e2, ?_, by rw [f2.1]; omega, by rw [f2.2.1]; omega⟩
          refine i.gen f2 (fun b hb => by omega) (by rw [f2.i1 (by omega)]) (by rw [f2.i1 (by omega)]) (i.2.2.2.1.fr f2 (by omega) (by omega) (by omega) (by omega)) ?_ (i.2.2.2.2.2.1.fr f2 (fun k h1 h2 => by omega) (fun k h1 h2 => by omega)) (i.2.2.2.2.2.2.fr f2 (by omega) (by omega) (by omega) (by omega))
          have g4' := f2.i1 (b := m + 4) (by omega)
          have g5' := f2.i1 (b := m + 5) (by omega)
          have g6' := f2.i1 (b := o + 89 + 2 * k) (by omega)
          refine i.2.2.2.2.1.up (i := k) (fun q hq hne => ⟨f2.i1 (by omega), f2.i1 (by omega), by rw [g4'], by rw [g5'], fun j2 hj2 => ?_⟩) ⟨by rw [g4', g6']; exact b1, by rw [g4']; exact b2, z, hz, by rw [g6']; exact b3, by rw [g5']; exact b4, fun j2 hj2 => ?_⟩
          · rw [am_pi_i, if_neg (by omega), am_pi_i, if_neg (by omega)]
          · rw [am_pi_i, if_neg (by omega), am_pi_i, am_pi_i]
            by_cases e : j2 = j
            · rw [if_pos ⟨rfl, e⟩, if_pos ⟨rfl, by omega⟩]
            · rw [if_neg (fun q => e q.2), if_neg (by omega), am_pi_i, if_neg (by omega)]
              exact b5 j2 hj2
        by_cases c3 : am_i h (m + 4) k = 0
        · by_cases c4 : w = -1000000005
          · refine sm_same i ?_ (m_mark1 (x := -1000000012) lm hk ?_)
            · simp only [n_103, e_103_0, e_103_1, e_103_4, e_103_7, e_103_9, e_103_10, e_103_11, e_103_14, e_103_15, f_103_16, e_103_18, e_103_20, e_103_23, e_103_24, e_103_27, e_103_30, e_103_31, e_103_33, e_103_34, e_103_37, e_103_40, e_103_43, e_103_44, e_103_46, e_103_49, e_103_52, e_103_53, e_103_55, e_103_58, e_103_60, e_103_61, e_103_63, e_103_66, e_103_67, e_103_70, e_103_71, e_103_73, e_103_76, e_103_77, e_103_80, e_103_83, e_103_86, e_103_89, e_103_91, e_103_92, e_103_94, e_103_97, e_103_98, e_103_100, e_103_103, e_103_106, e_103_107, e_103_108, e_103_112, e_103_113, e_103_114, e_103_111, Option.bind_some, Option.toList_some, Option.toList_none, List.cons_append, List.nil_append, am_k1_i, am_k1_r, am_k1_u, am_k1_n, am_bo0, am_bo1, am_boi, am_ev_tb, am_tb_nil, am_rfs, am_rfn, eq_self, and_self, if_true, if_false, show ¬ (1 : Int32) = 0 from by decide, show ¬ (0 : Int32) = 1 from by decide, not_true, not_false_eq_true, and_true, true_and, and_false, false_and, or_true, true_or, or_false, false_or, c_isSheet, h1, co_ob lo, co_r5 lo, co_s1 lo hk, am_cl (show k < 2147483648 by omega), co_s2 lo hk, co_s3 lo hk, b1, c3, show ¬ (0 : Int32) = -1 from by decide, c_hasPlace (co_s3 lo hk), b3, c2, c4]
            · unfold mt_mark
              rw [if_neg c1', if_neg (fun q => q (by rw [b4]; exact c2)), if_pos ⟨c3, c4⟩]
          · refine fin (mt_sh w) (by rw [if_pos c3]) ?_ ?_
            · unfold mt_mark
              rw [if_neg c1', if_neg (fun q => q (by rw [b4]; exact c2)), if_neg (fun q => c4 q.2), if_neg (fun q => by rw [c3] at q; exact absurd q.1 (by decide))]
            · simp only [n_103, e_103_0, e_103_1, e_103_4, e_103_7, e_103_9, e_103_10, e_103_11, e_103_14, e_103_15, f_103_16, e_103_18, e_103_20, e_103_23, e_103_24, e_103_27, e_103_30, e_103_31, e_103_33, e_103_34, e_103_37, e_103_40, e_103_43, e_103_44, e_103_46, e_103_49, e_103_52, e_103_53, e_103_55, e_103_58, e_103_60, e_103_61, e_103_63, e_103_66, e_103_67, e_103_70, e_103_71, e_103_73, e_103_76, e_103_77, e_103_80, e_103_83, e_103_86, e_103_89, e_103_91, e_103_92, e_103_94, e_103_97, e_103_98, e_103_100, e_103_103, e_103_106, e_103_107, e_103_108, e_103_112, e_103_113, e_103_114, e_103_111, Option.bind_some, Option.toList_some, Option.toList_none, List.cons_append, List.nil_append, am_k1_i, am_k1_r, am_k1_u, am_k1_n, am_bo0, am_bo1, am_boi, am_ev_tb, am_tb_nil, am_rfs, am_rfn, eq_self, and_self, if_true, if_false, show ¬ (1 : Int32) = 0 from by decide, show ¬ (0 : Int32) = 1 from by decide, not_true, not_false_eq_true, and_true, true_and, and_false, false_and, or_true, true_or, or_false, false_or, c_isSheet, h1, co_ob lo, co_r5 lo, co_s1 lo hk, am_cl (show k < 2147483648 by omega), co_s2 lo hk, co_s3 lo hk, b1, c3, show ¬ (0 : Int32) = -1 from by decide, c_hasPlace (co_s3 lo hk), b3, c2, c4, co_s4 lo hk, co_s6 lo hk (show j < 24 by omega), am_cl (show j < 2147483648 by omega), mt_sh16]
        · have c3' : am_i h (m + 4) k = 1 := c0.resolve_left c3
          by_cases c4 : w = -1000000005
          · refine fin w (by rw [if_neg c3]) ?_ ?_
            · unfold mt_mark
              rw [if_neg c1', if_neg (fun q => q (by rw [b4]; exact c2)), if_neg (fun q => c3 q.1), if_neg (fun q => q.2.1 c4)]
            · simp only [n_103, e_103_0, e_103_1, e_103_4, e_103_7, e_103_9, e_103_10, e_103_11, e_103_14, e_103_15, f_103_16, e_103_18, e_103_20, e_103_23, e_103_24, e_103_27, e_103_30, e_103_31, e_103_33, e_103_34, e_103_37, e_103_40, e_103_43, e_103_44, e_103_46, e_103_49, e_103_52, e_103_53, e_103_55, e_103_58, e_103_60, e_103_61, e_103_63, e_103_66, e_103_67, e_103_70, e_103_71, e_103_73, e_103_76, e_103_77, e_103_80, e_103_83, e_103_86, e_103_89, e_103_91, e_103_92, e_103_94, e_103_97, e_103_98, e_103_100, e_103_103, e_103_106, e_103_107, e_103_108, e_103_112, e_103_113, e_103_114, e_103_111, Option.bind_some, Option.toList_some, Option.toList_none, List.cons_append, List.nil_append, am_k1_i, am_k1_r, am_k1_u, am_k1_n, am_bo0, am_bo1, am_boi, am_ev_tb, am_tb_nil, am_rfs, am_rfn, eq_self, and_self, if_true, if_false, show ¬ (1 : Int32) = 0 from by decide, show ¬ (0 : Int32) = 1 from by decide, not_true, not_false_eq_true, and_true, true_and, and_false, false_and, or_true, true_or, or_false, false_or, c_isSheet, h1, co_ob lo, co_r5 lo, co_s1 lo hk, am_cl (show k < 2147483648 by omega), co_s2 lo hk, co_s3 lo hk, b1, c3', show ¬ (1 : Int32) = -1 from by decide, c_hasPlace (co_s3 lo hk), b3, c2, c4, co_s4 lo hk, co_s6 lo hk (show j < 24 by omega), am_cl (show j < 2147483648 by omega)]
          · by_cases c5 : -99999 ≤ w ∧ w ≤ 99999
            · refine fin w (by rw [if_neg c3]) ?_ ?_
              · unfold mt_mark
                rw [if_neg c1', if_neg (fun q => q (by rw [b4]; exact c2)), if_neg (fun q => c3 q.1), if_neg (fun q => q.2.2 c5)]
              · simp only [n_103, e_103_0, e_103_1, e_103_4, e_103_7, e_103_9, e_103_10, e_103_11, e_103_14, e_103_15, f_103_16, e_103_18, e_103_20, e_103_23, e_103_24, e_103_27, e_103_30, e_103_31, e_103_33, e_103_34, e_103_37, e_103_40, e_103_43, e_103_44, e_103_46, e_103_49, e_103_52, e_103_53, e_103_55, e_103_58, e_103_60, e_103_61, e_103_63, e_103_66, e_103_67, e_103_70, e_103_71, e_103_73, e_103_76, e_103_77, e_103_80, e_103_83, e_103_86, e_103_89, e_103_91, e_103_92, e_103_94, e_103_97, e_103_98, e_103_100, e_103_103, e_103_106, e_103_107, e_103_108, e_103_112, e_103_113, e_103_114, e_103_111, Option.bind_some, Option.toList_some, Option.toList_none, List.cons_append, List.nil_append, am_k1_i, am_k1_r, am_k1_u, am_k1_n, am_bo0, am_bo1, am_boi, am_ev_tb, am_tb_nil, am_rfs, am_rfn, eq_self, and_self, if_true, if_false, show ¬ (1 : Int32) = 0 from by decide, show ¬ (0 : Int32) = 1 from by decide, not_true, not_false_eq_true, and_true, true_and, and_false, false_and, or_true, true_or, or_false, false_or, c_isSheet, h1, co_ob lo, co_r5 lo, co_s1 lo hk, am_cl (show k < 2147483648 by omega), co_s2 lo hk, co_s3 lo hk, b1, c3', show ¬ (1 : Int32) = -1 from by decide, c_hasPlace (co_s3 lo hk), b3, c2, c4, c_within, c5, co_s4 lo hk, co_s6 lo hk (show j < 24 by omega), am_cl (show j < 2147483648 by omega)]
            · refine sm_same i ?_ (m_mark1 (x := -1000000001) lm hk ?_)
              · simp only [n_103, e_103_0, e_103_1, e_103_4, e_103_7, e_103_9, e_103_10, e_103_11, e_103_14, e_103_15, f_103_16, e_103_18, e_103_20, e_103_23, e_103_24, e_103_27, e_103_30, e_103_31, e_103_33, e_103_34, e_103_37, e_103_40, e_103_43, e_103_44, e_103_46, e_103_49, e_103_52, e_103_53, e_103_55, e_103_58, e_103_60, e_103_61, e_103_63, e_103_66, e_103_67, e_103_70, e_103_71, e_103_73, e_103_76, e_103_77, e_103_80, e_103_83, e_103_86, e_103_89, e_103_91, e_103_92, e_103_94, e_103_97, e_103_98, e_103_100, e_103_103, e_103_106, e_103_107, e_103_108, e_103_112, e_103_113, e_103_114, e_103_111, Option.bind_some, Option.toList_some, Option.toList_none, List.cons_append, List.nil_append, am_k1_i, am_k1_r, am_k1_u, am_k1_n, am_bo0, am_bo1, am_boi, am_ev_tb, am_tb_nil, am_rfs, am_rfn, eq_self, and_self, if_true, if_false, show ¬ (1 : Int32) = 0 from by decide, show ¬ (0 : Int32) = 1 from by decide, not_true, not_false_eq_true, and_true, true_and, and_false, false_and, or_true, true_or, or_false, false_or, c_isSheet, h1, co_ob lo, co_r5 lo, co_s1 lo hk, am_cl (show k < 2147483648 by omega), co_s2 lo hk, co_s3 lo hk, b1, c3', show ¬ (1 : Int32) = -1 from by decide, c_hasPlace (co_s3 lo hk), b3, c2, c4, c_within, c5]
              · unfold mt_mark
                rw [if_neg c1', if_neg (fun q => q (by rw [b4]; exact c2)), if_neg (fun q => c3 q.1), if_pos ⟨c3', c4, c5⟩]
      · refine sm_same i ?_ (m_mark1 (x := -1000000013) lm hk ?_)
        · rcases c0 with e | e
          · simp only [n_103, e_103_0, e_103_1, e_103_4, e_103_7, e_103_9, e_103_10, e_103_11, e_103_14, e_103_15, f_103_16, e_103_18, e_103_20, e_103_23, e_103_24, e_103_27, e_103_30, e_103_31, e_103_33, e_103_34, e_103_37, e_103_40, e_103_43, e_103_44, e_103_46, e_103_49, e_103_52, e_103_53, e_103_55, e_103_58, e_103_60, e_103_61, e_103_63, e_103_66, e_103_67, e_103_70, e_103_71, e_103_73, e_103_76, e_103_77, e_103_80, e_103_83, e_103_86, e_103_89, e_103_91, e_103_92, e_103_94, e_103_97, e_103_98, e_103_100, e_103_103, e_103_106, e_103_107, e_103_108, e_103_112, e_103_113, e_103_114, e_103_111, Option.bind_some, Option.toList_some, Option.toList_none, List.cons_append, List.nil_append, am_k1_i, am_k1_r, am_k1_u, am_k1_n, am_bo0, am_bo1, am_boi, am_ev_tb, am_tb_nil, am_rfs, am_rfn, eq_self, and_self, if_true, if_false, show ¬ (1 : Int32) = 0 from by decide, show ¬ (0 : Int32) = 1 from by decide, not_true, not_false_eq_true, and_true, true_and, and_false, false_and, or_true, true_or, or_false, false_or, c_isSheet, h1, co_ob lo, co_r5 lo, co_s1 lo hk, am_cl (show k < 2147483648 by omega), co_s2 lo hk, co_s3 lo hk, b1, e, show ¬ (0 : Int32) = -1 from by decide, c_hasPlace (co_s3 lo hk), b3, c2]
          · simp only [n_103, e_103_0, e_103_1, e_103_4, e_103_7, e_103_9, e_103_10, e_103_11, e_103_14, e_103_15, f_103_16, e_103_18, e_103_20, e_103_23, e_103_24, e_103_27, e_103_30, e_103_31, e_103_33, e_103_34, e_103_37, e_103_40, e_103_43, e_103_44, e_103_46, e_103_49, e_103_52, e_103_53, e_103_55, e_103_58, e_103_60, e_103_61, e_103_63, e_103_66, e_103_67, e_103_70, e_103_71, e_103_73, e_103_76, e_103_77, e_103_80, e_103_83, e_103_86, e_103_89, e_103_91, e_103_92, e_103_94, e_103_97, e_103_98, e_103_100, e_103_103, e_103_106, e_103_107, e_103_108, e_103_112, e_103_113, e_103_114, e_103_111, Option.bind_some, Option.toList_some, Option.toList_none, List.cons_append, List.nil_append, am_k1_i, am_k1_r, am_k1_u, am_k1_n, am_bo0, am_bo1, am_boi, am_ev_tb, am_tb_nil, am_rfs, am_rfn, eq_self, and_self, if_true, if_false, show ¬ (1 : Int32) = 0 from by decide, show ¬ (0 : Int32) = 1 from by decide, not_true, not_false_eq_true, and_true, true_and, and_false, false_and, or_true, true_or, or_false, false_or, c_isSheet, h1, co_ob lo, co_r5 lo, co_s1 lo hk, am_cl (show k < 2147483648 by omega), co_s2 lo hk, co_s3 lo hk, b1, e, show ¬ (1 : Int32) = -1 from by decide, c_hasPlace (co_s3 lo hk), b3, c2]
        · unfold mt_mark
          rw [if_neg c1', if_pos (by rw [b4]; exact c2)]
  · refine sm_same i ?_ (m_mark0 h1)
    simp only [n_103, e_103_0, e_103_1, e_103_4, e_103_7, e_103_9, e_103_10, e_103_11, e_103_14, e_103_15, f_103_16, e_103_18, e_103_20, e_103_23, e_103_24, e_103_27, e_103_30, e_103_31, e_103_33, e_103_34, e_103_37, e_103_40, e_103_43, e_103_44, e_103_46, e_103_49, e_103_52, e_103_53, e_103_55, e_103_58, e_103_60, e_103_61, e_103_63, e_103_66, e_103_67, e_103_70, e_103_71, e_103_73, e_103_76, e_103_77, e_103_80, e_103_83, e_103_86, e_103_89, e_103_91, e_103_92, e_103_94, e_103_97, e_103_98, e_103_100, e_103_103, e_103_106, e_103_107, e_103_108, e_103_112, e_103_113, e_103_114, e_103_111, Option.bind_some, Option.toList_some, Option.toList_none, List.cons_append, List.nil_append, am_k1_i, am_k1_r, am_k1_u, am_k1_n, am_bo0, am_bo1, am_boi, am_ev_tb, am_tb_nil, am_rfs, am_rfn, eq_self, and_self, if_true, if_false, show ¬ (1 : Int32) = 0 from by decide, show ¬ (0 : Int32) = 1 from by decide, not_true, not_false_eq_true, and_true, true_and, and_false, false_and, or_true, true_or, or_false, false_or, c_isSheet, h1]
theorem c_pour_l {σ : Nat → Int32} {n nd nt k z c : Nat} {x1 : Option Value} (lo : cl_Obj G h o) (ha : o + 1 + 25 < G 0 + 136) (hk : k < 4) (hn12 : n ≤ 12) (hd8 : nd ≤ 8) (ht14 : nt ≤ 14) (hz : am_i h (o + 89 + 2 * k) 2 = nI z) (hz24 : z ≤ 24) (hσ0 : σ 0 = nI n) (hc : c = min z n) {N : Nat → Int32} (hN : ∀ j, j < 24 → am_i h (o + 90 + 2 * k) j = N j) : ∀ j q h' x5 x6, q + j = c → am_fr (cl_H (o + 1)) h h' → cl_R G h' (o + 1) (mt_pourN σ N q) n nd nt → ∃ h2, am_ev G (d + 2) 104 34 [some (.ref o), x1, some (.ref (o + 89 + 2 * k)), some (.int (mt_pourC σ N q)), some (.int (nI q)), x5, x6] [] h' = some (some (.int (mt_pourC σ N c)), h2) ∧ am_fr (cl_H (o + 1)) h h2 ∧ cl_R G h2 (o + 1) (mt_pourN σ N c) n nd nt := by
  intro j
  induction j with
  | zero =>
    intro q h' x5 x6 hq f r
    obtain rfl : q = c := by omega
    have lo2 := lo.fr f
    have hn0 : am_i h' (o + 1) 5 = nI n := by rw [r.2.1.1, mt_pourN_0, hσ0]
    have hz2 : am_i h' (o + 89 + 2 * k) 2 = nI z := by rw [f.i1 (fun q => by have := q.2; omega)]; exact hz
    refine ⟨h', ?_, f, r⟩
    rw [e_104_34]
    by_cases hqn : q = n
    · subst hqn
      simp only [n_104, e_104_0, e_104_1, e_104_4, e_104_7, e_104_9, e_104_10, e_104_11, e_104_14, e_104_15, f_104_16, e_104_17, e_104_18, e_104_21, e_104_22, e_104_25, e_104_28, e_104_29, f_104_30, e_104_31, f_104_32, e_104_36, e_104_37, e_104_40, e_104_43, e_104_46, e_104_47, e_104_49, e_104_52, e_104_55, e_104_56, e_104_59, e_104_62, e_104_64, f_104_65, e_104_67, e_104_68, e_104_71, e_104_73, e_104_74, e_104_76, e_104_79, e_104_81, e_104_84, f_104_100, e_104_102, e_104_104, e_104_106, e_104_109, e_104_112, e_104_114, e_104_116, f_104_119, f_104_122, e_104_125, e_104_87, e_104_88, e_104_91, e_104_93, e_104_94, e_104_95, e_104_97, e_104_128, e_104_129, Option.bind_some, Option.toList_some, Option.toList_none, List.cons_append, List.nil_append, am_k1_i, am_k1_r, am_k1_u, am_k1_n, am_bo0, am_bo1, am_boi, am_ev_tb, am_tb_nil, am_rfs, am_rfn, eq_self, and_self, if_true, if_false, show ¬ (1 : Int32) = 0 from by decide, show ¬ (0 : Int32) = 1 from by decide, not_true, not_false_eq_true, and_true, true_and, and_false, false_and, or_true, true_or, or_false, false_or, co_ob lo2, co_r0 lo2, ha_ob r.1, hn0, Int32.le_refl]
    · have hlt : ¬ nI n ≤ nI q := nI_ge (by omega) (by omega)
      have hpl : ¬ (0 ≤ nI q ∧ nI q ≤ nI z - 1) := fun w => by
        obtain ⟨a, ha1, ha2⟩ := (mt_ix (p := nI q) (c := z) (by omega)).mp w
        have := (nI_eq (by omega) (by omega)).mp ha2
        omega
      simp only [n_104, e_104_0, e_104_1, e_104_4, e_104_7, e_104_9, e_104_10, e_104_11, e_104_14, e_104_15, f_104_16, e_104_17, e_104_18, e_104_21, e_104_22, e_104_25, e_104_28, e_104_29, f_104_30, e_104_31, f_104_32, e_104_36, e_104_37, e_104_40, e_104_43, e_104_46, e_104_47, e_104_49, e_104_52, e_104_55, e_104_56, e_104_59, e_104_62, e_104_64, f_104_65, e_104_67, e_104_68, e_104_71, e_104_73, e_104_74, e_104_76, e_104_79, e_104_81, e_104_84, f_104_100, e_104_102, e_104_104, e_104_106, e_104_109, e_104_112, e_104_114, e_104_116, f_104_119, f_104_122, e_104_125, e_104_87, e_104_88, e_104_91, e_104_93, e_104_94, e_104_95, e_104_97, e_104_128, e_104_129, Option.bind_some, Option.toList_some, Option.toList_none, List.cons_append, List.nil_append, am_k1_i, am_k1_r, am_k1_u, am_k1_n, am_bo0, am_bo1, am_boi, am_ev_tb, am_tb_nil, am_rfs, am_rfn, eq_self, and_self, if_true, if_false, show ¬ (1 : Int32) = 0 from by decide, show ¬ (0 : Int32) = 1 from by decide, not_true, not_false_eq_true, and_true, true_and, and_false, false_and, or_true, true_or, or_false, false_or, co_ob lo2, co_r0 lo2, ha_ob r.1, hn0, hlt, co_s3 lo2 hk, c_hasPlace (co_s3 lo2 hk), hz2, hpl]
  | succ j ih =>
    intro q h' x5 x6 hq f r
    have lo2 := lo.fr f
    have hqn : q < n := by omega
    have hn0 : am_i h' (o + 1) 5 = nI n := by rw [r.2.1.1, mt_pourN_0, hσ0]
    have hz2 : am_i h' (o + 89 + 2 * k) 2 = nI z := by rw [f.i1 (fun q => by have := q.2; omega)]; exact hz
    have hNq : am_i h' (o + 90 + 2 * k) q = N q := by rw [f.i1 (fun q => by have := q.2; omega)]; exact hN q (by omega)
    have hlt : ¬ nI n ≤ nI q := nI_ge (by omega) (by omega)
    have hpl : 0 ≤ nI q ∧ nI q ≤ nI z - 1 := (mt_ix (by omega)).mpr ⟨q, by omega, rfl⟩
    have hb := cr_p r hqn (show 1 < 5 by omega)
    have step : ∀ x5 x6, mt_pourN σ N q (6 + 5 * q + 1) = mt_pour1 (mt_pourN σ N q) (N q) q → ∃ h2, am_ev G (d + 2) 104 34 [some (.ref o), x1, some (.ref (o + 89 + 2 * k)), some (.int (mt_pourC σ N q)), some (.int (nI (q + 1))), x5, x6] [] h' = some (some (.int (mt_pourC σ N c)), h2) ∧ am_fr (cl_H (o + 1)) h h2 ∧ cl_R G h2 (o + 1) (mt_pourN σ N c) n nd nt := by
      intro x5 x6 he
      have := ih (q + 1) h' x5 x6 (by omega) f (by rw [mt_pourN, ← he, pk_uself]; exact r)
      rw [mt_pourC, if_pos he, Int32.add_zero] at this
      exact this
    have step2 : ∀ x5 x6, ¬ mt_pourN σ N q (6 + 5 * q + 1) = mt_pour1 (mt_pourN σ N q) (N q) q → ∃ h2, am_ev G (d + 2) 104 34 [some (.ref o), x1, some (.ref (o + 89 + 2 * k)), some (.int (mt_pourC σ N q + 1)), some (.int (nI (q + 1))), x5, x6] [] (am_pi h' (o + 1 + 6 + q) 1 (mt_pour1 (mt_pourN σ N q) (N q) q)) = some (some (.int (mt_pourC σ N c)), h2) ∧ am_fr (cl_H (o + 1)) h h2 ∧ cl_R G h2 (o + 1) (mt_pourN σ N c) n nd nt := by
      intro x5 x6 he
      have := ih (q + 1) (am_pi h' (o + 1 + 6 + q) 1 (mt_pour1 (mt_pourN σ N q) (N q) q)) x5 x6 (by omega) (f.tr (am_fr.pi ⟨by omega, by omega⟩)) (by rw [mt_pourN]; exact r.pp' hn12 hd8 ht14 ha hqn (by omega))
      rw [mt_pourC, if_neg he] at this
      exact this
    rw [e_104_34]
    by_cases hv : N q = -1000000005
    · have he : mt_pourN σ N q (6 + 5 * q + 1) = mt_pour1 (mt_pourN σ N q) (N q) q := by unfold mt_pour1; rw [if_pos hv]
      simp only [n_104, e_104_0, e_104_1, e_104_4, e_104_7, e_104_9, e_104_10, e_104_11, e_104_14, e_104_15, f_104_16, e_104_17, e_104_18, e_104_21, e_104_22, e_104_25, e_104_28, e_104_29, f_104_30, e_104_31, f_104_32, e_104_36, e_104_37, e_104_40, e_104_43, e_104_46, e_104_47, e_104_49, e_104_52, e_104_55, e_104_56, e_104_59, e_104_62, e_104_64, f_104_65, e_104_67, e_104_68, e_104_71, e_104_73, e_104_74, e_104_76, e_104_79, e_104_81, e_104_84, f_104_100, e_104_102, e_104_104, e_104_106, e_104_109, e_104_112, e_104_114, e_104_116, f_104_119, f_104_122, e_104_125, e_104_87, e_104_88, e_104_91, e_104_93, e_104_94, e_104_95, e_104_97, e_104_128, e_104_129, Option.bind_some, Option.toList_some, Option.toList_none, List.cons_append, List.nil_append, am_k1_i, am_k1_r, am_k1_u, am_k1_n, am_bo0, am_bo1, am_boi, am_ev_tb, am_tb_nil, am_rfs, am_rfn, eq_self, and_self, if_true, if_false, show ¬ (1 : Int32) = 0 from by decide, show ¬ (0 : Int32) = 1 from by decide, not_true, not_false_eq_true, and_true, true_and, and_false, false_and, or_true, true_or, or_false, false_or, co_ob lo2, co_r0 lo2, ha_ob r.1, hn0, hlt, co_s3 lo2 hk, c_hasPlace (co_s3 lo2 hk), hz2, hpl, ha_r0 r.1, ha_p1 r.1 (show q < 12 by omega), am_cl (show q < 2147483648 by omega), ha_p2 r.1 (show q < 12 by omega), ha_p3 r.1 (show q < 12 by omega), co_s4 lo2 hk, co_s5 lo2 hk (show q < 24 by omega), hNq, hv, hb, nI_1]
      exact step _ _ he
    · have hp1 : mt_pour1 (mt_pourN σ N q) (N q) q = mt_held (N q) 100 := by unfold mt_pour1; rw [if_neg hv]
      by_cases he : mt_held (N q) 100 = mt_pourN σ N q (6 + 5 * q + 1)
      · simp only [n_104, e_104_0, e_104_1, e_104_4, e_104_7, e_104_9, e_104_10, e_104_11, e_104_14, e_104_15, f_104_16, e_104_17, e_104_18, e_104_21, e_104_22, e_104_25, e_104_28, e_104_29, f_104_30, e_104_31, f_104_32, e_104_36, e_104_37, e_104_40, e_104_43, e_104_46, e_104_47, e_104_49, e_104_52, e_104_55, e_104_56, e_104_59, e_104_62, e_104_64, f_104_65, e_104_67, e_104_68, e_104_71, e_104_73, e_104_74, e_104_76, e_104_79, e_104_81, e_104_84, f_104_100, e_104_102, e_104_104, e_104_106, e_104_109, e_104_112, e_104_114, e_104_116, f_104_119, f_104_122, e_104_125, e_104_87, e_104_88, e_104_91, e_104_93, e_104_94, e_104_95, e_104_97, e_104_128, e_104_129, Option.bind_some, Option.toList_some, Option.toList_none, List.cons_append, List.nil_append, am_k1_i, am_k1_r, am_k1_u, am_k1_n, am_bo0, am_bo1, am_boi, am_ev_tb, am_tb_nil, am_rfs, am_rfn, eq_self, and_self, if_true, if_false, show ¬ (1 : Int32) = 0 from by decide, show ¬ (0 : Int32) = 1 from by decide, not_true, not_false_eq_true, and_true, true_and, and_false, false_and, or_true, true_or, or_false, false_or, co_ob lo2, co_r0 lo2, ha_ob r.1, hn0, hlt, co_s3 lo2 hk, c_hasPlace (co_s3 lo2 hk), hz2, hpl, ha_r0 r.1, ha_p1 r.1 (show q < 12 by omega), am_cl (show q < 2147483648 by omega), ha_p2 r.1 (show q < 12 by omega), ha_p3 r.1 (show q < 12 by omega), co_s4 lo2 hk, co_s5 lo2 hk (show q < 24 by omega), hNq, hv, c_held3 (show (0 : Int32) ≤ 100 from by decide), hb, he, nI_1]
        exact step _ _ (by rw [hp1, he])
      · simp only [n_104, e_104_0, e_104_1, e_104_4, e_104_7, e_104_9, e_104_10, e_104_11, e_104_14, e_104_15, f_104_16, e_104_17, e_104_18, e_104_21, e_104_22, e_104_25, e_104_28, e_104_29, f_104_30, e_104_31, f_104_32, e_104_36, e_104_37, e_104_40, e_104_43, e_104_46, e_104_47, e_104_49, e_104_52, e_104_55, e_104_56, e_104_59, e_104_62, e_104_64, f_104_65, e_104_67, e_104_68, e_104_71, e_104_73, e_104_74, e_104_76, e_104_79, e_104_81, e_104_84, f_104_100, e_104_102, e_104_104, e_104_106, e_104_109, e_104_112, e_104_114, e_104_116, f_104_119, f_104_122, e_104_125, e_104_87, e_104_88, e_104_91, e_104_93, e_104_94, e_104_95, e_104_97, e_104_128, e_104_129, Option.bind_some, Option.toList_some, Option.toList_none, List.cons_append, List.nil_append, am_k1_i, am_k1_r, am_k1_u, am_k1_n, am_bo0, am_bo1, am_boi, am_ev_tb, am_tb_nil, am_rfs, am_rfn, eq_self, and_self, if_true, if_false, show ¬ (1 : Int32) = 0 from by decide, show ¬ (0 : Int32) = 1 from by decide, not_true, not_false_eq_true, and_true, true_and, and_false, false_and, or_true, true_or, or_false, false_or, co_ob lo2, co_r0 lo2, ha_ob r.1, hn0, hlt, co_s3 lo2 hk, c_hasPlace (co_s3 lo2 hk), hz2, hpl, ha_r0 r.1, ha_p1 r.1 (show q < 12 by omega), am_cl (show q < 2147483648 by omega), ha_p2 r.1 (show q < 12 by omega), ha_p3 r.1 (show q < 12 by omega), co_s4 lo2 hk, co_s5 lo2 hk (show q < 24 by omega), hNq, hv, c_held3 (show (0 : Int32) ≤ 100 from by decide), hb, he, nI_1]
        rw [← hp1]
        exact step2 _ _ (fun q => he (by rw [← hp1, q]))
theorem mt_wf_pour {σ N : Nat → Int32} {n nd nt : Nat} (hs : mt_wf σ n nd nt) : ∀ q, q ≤ n → mt_wf (mt_pourN σ N q) n nd nt := by
  intro q
  induction q with
  | zero => intro _; exact hs
  | succ q ih => intro hq; rw [mt_pourN]; exact mt_wf_12 (ih (by omega)) (by omega) (Or.inl rfl)
theorem s_pour (i : iv G h o m) {v : Int32} : sm G h o m d 104 211 [.int v] := by
  have lm := i.1.2.1
  have lo := i.1.2.2.1
  have hm : m = o + 117 := i.1.1.2
  obtain ⟨n, nd, nt, hs, r⟩ := i.2.1
  by_cases h1 : 0 ≤ v ∧ v ≤ 3
  · obtain ⟨k, hk, rfl⟩ := mt_ix4.mp h1
    obtain ⟨b1, b2, z, hz, b3, b4, b5⟩ := i.2.2.2.2.1 k hk
    by_cases c1 : am_i h (m + 4) k = -1
    · refine sm_same i ?_ (m_pour1 lm hk (by rw [c1]; decide))
      simp only [n_104, e_104_0, e_104_1, e_104_4, e_104_7, e_104_9, e_104_10, e_104_11, e_104_14, e_104_15, f_104_16, e_104_17, e_104_18, e_104_21, e_104_22, e_104_25, e_104_28, e_104_29, f_104_30, e_104_31, f_104_32, e_104_34, e_104_36, e_104_37, e_104_40, e_104_43, e_104_46, e_104_47, e_104_49, e_104_52, e_104_55, e_104_56, e_104_59, e_104_62, e_104_64, f_104_65, e_104_67, e_104_68, e_104_71, e_104_73, e_104_74, e_104_76, e_104_79, e_104_81, e_104_84, f_104_100, e_104_102, e_104_104, e_104_106, e_104_109, e_104_112, e_104_114, e_104_116, f_104_119, f_104_122, e_104_125, e_104_87, e_104_88, e_104_91, e_104_93, e_104_94, e_104_95, e_104_97, e_104_128, e_104_129, Option.bind_some, Option.toList_some, Option.toList_none, List.cons_append, List.nil_append, am_k1_i, am_k1_r, am_k1_u, am_k1_n, am_bo0, am_bo1, am_boi, am_ev_tb, am_tb_nil, am_rfs, am_rfn, eq_self, and_self, if_true, if_false, show ¬ (1 : Int32) = 0 from by decide, show ¬ (0 : Int32) = 1 from by decide, not_true, not_false_eq_true, and_true, true_and, and_false, false_and, or_true, true_or, or_false, false_or, c_isSheet, h1, co_ob lo, co_r5 lo, co_s1 lo hk, am_cl (show k < 2147483648 by omega), co_s2 lo hk, co_s3 lo hk, b1, c1]
    · have c1' : ¬ am_i h (m + 4) k < 0 := by
        rcases b2.resolve_left c1 with e | e
        · rw [e]; decide
        · rw [e]; decide
      obtain ⟨h2, e1, f1, r2⟩ := c_pour_l (d := d + 198) (x1 := some (.int (nI k))) lo i.a1 hk hs.1.1.2 hs.1.2.1.2 hs.1.2.2.2 b3 hz hs.1.1.1 rfl (N := fun j => am_i h (m + 6) (24 * k + j)) b5 (min z n) 0 h none none (by omega) am_fr.rf r
      have g1 := i.m2 f1 1
      have g4 := i.m2 f1 4
      have g5 := i.m2 f1 5
      have g6 := i.m2 f1 6
      have e2 := m_pour (d := d + 198) (σ := am_i h (m + 1)) (n := n) (lm.fr f1) g1 hk (by rw [g4]; exact c1') (z := z) (by rw [g5]; exact b4) hz hs.1.1.1 hs.1.1.2
      rw [g6] at e2
      refine sm_hall i ?_ e2 f1 (am_fr.pa (Or.inl rfl)) r2 (mt_wf_pour hs _ (by omega)) (by rw [am_pa_i, if_pos rfl])
      rw [← e1]
      simp only [n_104, e_104_0, e_104_1, e_104_4, e_104_7, e_104_9, e_104_10, e_104_11, e_104_14, e_104_15, f_104_16, e_104_17, e_104_18, e_104_21, e_104_22, e_104_25, e_104_28, e_104_29, f_104_30, e_104_31, f_104_32, e_104_36, e_104_37, e_104_40, e_104_43, e_104_46, e_104_47, e_104_49, e_104_52, e_104_55, e_104_56, e_104_59, e_104_62, e_104_64, f_104_65, e_104_67, e_104_68, e_104_71, e_104_73, e_104_74, e_104_76, e_104_79, e_104_81, e_104_84, f_104_100, e_104_102, e_104_104, e_104_106, e_104_109, e_104_112, e_104_114, e_104_116, f_104_119, f_104_122, e_104_125, e_104_87, e_104_88, e_104_91, e_104_93, e_104_94, e_104_95, e_104_97, e_104_128, e_104_129, Option.bind_some, Option.toList_some, Option.toList_none, List.cons_append, List.nil_append, am_k1_i, am_k1_r, am_k1_u, am_k1_n, am_bo0, am_bo1, am_boi, am_ev_tb, am_tb_nil, am_rfs, am_rfn, eq_self, and_self, if_true, if_false, show ¬ (1 : Int32) = 0 from by decide, show ¬ (0 : Int32) = 1 from by decide, not_true, not_false_eq_true, and_true, true_and, and_false, false_and, or_true, true_or, or_false, false_or, c_isSheet, h1, co_ob lo, co_r5 lo, co_s1 lo hk, am_cl (show k < 2147483648 by omega), co_s2 lo hk, co_s3 lo hk, b1, c1]
      rfl
  · refine sm_same i ?_ (m_pour0 h1)
    simp only [n_104, e_104_0, e_104_1, e_104_4, e_104_7, e_104_9, e_104_10, e_104_11, e_104_14, e_104_15, f_104_16, e_104_17, e_104_18, e_104_21, e_104_22, e_104_25, e_104_28, e_104_29, f_104_30, e_104_31, f_104_32, e_104_34, e_104_36, e_104_37, e_104_40, e_104_43, e_104_46, e_104_47, e_104_49, e_104_52, e_104_55, e_104_56, e_104_59, e_104_62, e_104_64, f_104_65, e_104_67, e_104_68, e_104_71, e_104_73, e_104_74, e_104_76, e_104_79, e_104_81, e_104_84, f_104_100, e_104_102, e_104_104, e_104_106, e_104_109, e_104_112, e_104_114, e_104_116, f_104_119, f_104_122, e_104_125, e_104_87, e_104_88, e_104_91, e_104_93, e_104_94, e_104_95, e_104_97, e_104_128, e_104_129, Option.bind_some, Option.toList_some, Option.toList_none, List.cons_append, List.nil_append, am_k1_i, am_k1_r, am_k1_u, am_k1_n, am_bo0, am_bo1, am_boi, am_ev_tb, am_tb_nil, am_rfs, am_rfn, eq_self, and_self, if_true, if_false, show ¬ (1 : Int32) = 0 from by decide, show ¬ (0 : Int32) = 1 from by decide, not_true, not_false_eq_true, and_true, true_and, and_false, false_and, or_true, true_or, or_false, false_or, c_isSheet, h1]
theorem c_reads_l {σ : Nat → Int32} {n nd nt k z : Nat} {x1 : Option Value} (lo : cl_Obj G h o) (r : cl_R G h (o + 1) σ n nd nt) (hs : mt_wf σ n nd nt) (hk : k < 4) (hz : am_i h (o + 89 + 2 * k) 2 = nI z) (hz24 : z ≤ 24) {N : Nat → Int32} (hN : ∀ j, j < 24 → am_i h (o + 90 + 2 * k) j = N j) : ∀ j q x4, q + j = z → am_ev G (d + 3) 105 31 [some (.ref o), x1, some (.ref (o + 89 + 2 * k)), some (.int (nI q)), x4] [] h = some (some (.int (mt_reads σ N nd j q)), h) := by
  have hd := hs.1.2.1.2
  intro j
  induction j with
  | zero =>
    intro q x4 hq
    obtain rfl : q = z := by omega
    rw [e_105_31]
    simp only [n_105, e_105_0, e_105_1, e_105_4, e_105_7, e_105_9, e_105_10, e_105_11, e_105_14, e_105_15, f_105_16, e_105_17, e_105_18, e_105_21, e_105_22, e_105_25, e_105_28, e_105_29, f_105_30, e_105_32, e_105_33, e_105_36, e_105_39, e_105_40, e_105_43, e_105_44, e_105_45, e_105_47, e_105_50, e_105_51, f_105_55, e_105_57, e_105_59, e_105_62, e_105_63, e_105_66, e_105_67, e_105_70, e_105_73, e_105_74, e_105_77, e_105_78, e_105_79, e_105_80, e_105_83, e_105_84, e_105_87, e_105_90, e_105_91, e_105_92, e_105_95, e_105_98, e_105_99, f_105_100, e_105_103, e_105_54, e_105_106, e_105_108, Option.bind_some, Option.toList_some, Option.toList_none, List.cons_append, List.nil_append, am_k1_i, am_k1_r, am_k1_u, am_k1_n, am_bo0, am_bo1, am_boi, am_ev_tb, am_tb_nil, am_rfs, am_rfn, eq_self, and_self, if_true, if_false, show ¬ (1 : Int32) = 0 from by decide, show ¬ (0 : Int32) = 1 from by decide, not_true, not_false_eq_true, and_true, true_and, and_false, false_and, or_true, true_or, or_false, false_or, co_s3 lo hk, hz, Int32.le_refl]
    rfl
  | succ j ih =>
    intro q x4 hq
    have hlt : ¬ nI z ≤ nI q := nI_ge (by omega) (by omega)
    rw [e_105_31, mt_reads]
    by_cases hv : N q = -1000000005
    · simp only [n_105, e_105_0, e_105_1, e_105_4, e_105_7, e_105_9, e_105_10, e_105_11, e_105_14, e_105_15, f_105_16, e_105_17, e_105_18, e_105_21, e_105_22, e_105_25, e_105_28, e_105_29, f_105_30, e_105_32, e_105_33, e_105_36, e_105_39, e_105_40, e_105_43, e_105_44, e_105_45, e_105_47, e_105_50, e_105_51, f_105_55, e_105_57, e_105_59, e_105_62, e_105_63, e_105_66, e_105_67, e_105_70, e_105_73, e_105_74, e_105_77, e_105_78, e_105_79, e_105_80, e_105_83, e_105_84, e_105_87, e_105_90, e_105_91, e_105_92, e_105_95, e_105_98, e_105_99, f_105_100, e_105_103, e_105_54, e_105_106, e_105_108, Option.bind_some, Option.toList_some, Option.toList_none, List.cons_append, List.nil_append, am_k1_i, am_k1_r, am_k1_u, am_k1_n, am_bo0, am_bo1, am_boi, am_ev_tb, am_tb_nil, am_rfs, am_rfn, eq_self, and_self, if_true, if_false, show ¬ (1 : Int32) = 0 from by decide, show ¬ (0 : Int32) = 1 from by decide, not_true, not_false_eq_true, and_true, true_and, and_false, false_and, or_true, true_or, or_false, false_or, co_s3 lo hk, hz, hlt, co_s4 lo hk, co_s5 lo hk (show q < 24 by omega), am_cl (show q < 2147483648 by omega), hN q (by omega), hv, nI_1]
      exact ih (q + 1) _ (by omega)
    · by_cases hqd : q < nd
      · have hin : 0 ≤ nI q ∧ nI q ≤ σ 1 - 1 := mt_inD hs hqd
        by_cases he : N q = mt_ones (mt_left σ q)
        · rw [if_neg (fun w => w.2 ⟨hqd, he⟩)]
          simp only [n_105, e_105_0, e_105_1, e_105_4, e_105_7, e_105_9, e_105_10, e_105_11, e_105_14, e_105_15, f_105_16, e_105_17, e_105_18, e_105_21, e_105_22, e_105_25, e_105_28, e_105_29, f_105_30, e_105_32, e_105_33, e_105_36, e_105_39, e_105_40, e_105_43, e_105_44, e_105_45, e_105_47, e_105_50, e_105_51, f_105_55, e_105_57, e_105_59, e_105_62, e_105_63, e_105_66, e_105_67, e_105_70, e_105_73, e_105_74, e_105_77, e_105_78, e_105_79, e_105_80, e_105_83, e_105_84, e_105_87, e_105_90, e_105_91, e_105_92, e_105_95, e_105_98, e_105_99, f_105_100, e_105_103, e_105_54, e_105_106, e_105_108, Option.bind_some, Option.toList_some, Option.toList_none, List.cons_append, List.nil_append, am_k1_i, am_k1_r, am_k1_u, am_k1_n, am_bo0, am_bo1, am_boi, am_ev_tb, am_tb_nil, am_rfs, am_rfn, eq_self, and_self, if_true, if_false, show ¬ (1 : Int32) = 0 from by decide, show ¬ (0 : Int32) = 1 from by decide, not_true, not_false_eq_true, and_true, true_and, and_false, false_and, or_true, true_or, or_false, false_or, co_s3 lo hk, hz, hlt, co_s4 lo hk, co_s5 lo hk (show q < 24 by omega), am_cl (show q < 2147483648 by omega), hN q (by omega), hv, co_ob lo, co_r0 lo, ha_ob r.1, c_hasDeed r.1, r.2.1.2.1, hin, ha_r1 r.1, ha_d1 r.1 (show q < 8 by omega), ha_d2 r.1 (show q < 8 by omega), c_leftCount r hs hqd, he, show ¬ mt_ones (mt_left σ q) = -1000000005 from he ▸ hv, nI_1]
          exact ih (q + 1) _ (by omega)
        · rw [if_pos ⟨hv, fun w => he w.2⟩]
          simp only [n_105, e_105_0, e_105_1, e_105_4, e_105_7, e_105_9, e_105_10, e_105_11, e_105_14, e_105_15, f_105_16, e_105_17, e_105_18, e_105_21, e_105_22, e_105_25, e_105_28, e_105_29, f_105_30, e_105_32, e_105_33, e_105_36, e_105_39, e_105_40, e_105_43, e_105_44, e_105_45, e_105_47, e_105_50, e_105_51, f_105_55, e_105_57, e_105_59, e_105_62, e_105_63, e_105_66, e_105_67, e_105_70, e_105_73, e_105_74, e_105_77, e_105_78, e_105_79, e_105_80, e_105_83, e_105_84, e_105_87, e_105_90, e_105_91, e_105_92, e_105_95, e_105_98, e_105_99, f_105_100, e_105_103, e_105_54, e_105_106, e_105_108, Option.bind_some, Option.toList_some, Option.toList_none, List.cons_append, List.nil_append, am_k1_i, am_k1_r, am_k1_u, am_k1_n, am_bo0, am_bo1, am_boi, am_ev_tb, am_tb_nil, am_rfs, am_rfn, eq_self, and_self, if_true, if_false, show ¬ (1 : Int32) = 0 from by decide, show ¬ (0 : Int32) = 1 from by decide, not_true, not_false_eq_true, and_true, true_and, and_false, false_and, or_true, true_or, or_false, false_or, co_s3 lo hk, hz, hlt, co_s4 lo hk, co_s5 lo hk (show q < 24 by omega), am_cl (show q < 2147483648 by omega), hN q (by omega), hv, co_ob lo, co_r0 lo, ha_ob r.1, c_hasDeed r.1, r.2.1.2.1, hin, ha_r1 r.1, ha_d1 r.1 (show q < 8 by omega), ha_d2 r.1 (show q < 8 by omega), c_leftCount r hs hqd, he]
      · have hin : ¬ (0 ≤ nI q ∧ nI q ≤ σ 1 - 1) := fun w => by
          rw [hs.1.2.1.1] at w
          obtain ⟨a, ha1, ha2⟩ := (mt_ix (p := nI q) (c := nd) (by omega)).mp w
          have := (nI_eq (by omega) (by omega)).mp ha2
          omega
        rw [if_pos ⟨hv, fun w => hqd w.1⟩]
        simp only [n_105, e_105_0, e_105_1, e_105_4, e_105_7, e_105_9, e_105_10, e_105_11, e_105_14, e_105_15, f_105_16, e_105_17, e_105_18, e_105_21, e_105_22, e_105_25, e_105_28, e_105_29, f_105_30, e_105_32, e_105_33, e_105_36, e_105_39, e_105_40, e_105_43, e_105_44, e_105_45, e_105_47, e_105_50, e_105_51, f_105_55, e_105_57, e_105_59, e_105_62, e_105_63, e_105_66, e_105_67, e_105_70, e_105_73, e_105_74, e_105_77, e_105_78, e_105_79, e_105_80, e_105_83, e_105_84, e_105_87, e_105_90, e_105_91, e_105_92, e_105_95, e_105_98, e_105_99, f_105_100, e_105_103, e_105_54, e_105_106, e_105_108, Option.bind_some, Option.toList_some, Option.toList_none, List.cons_append, List.nil_append, am_k1_i, am_k1_r, am_k1_u, am_k1_n, am_bo0, am_bo1, am_boi, am_ev_tb, am_tb_nil, am_rfs, am_rfn, eq_self, and_self, if_true, if_false, show ¬ (1 : Int32) = 0 from by decide, show ¬ (0 : Int32) = 1 from by decide, not_true, not_false_eq_true, and_true, true_and, and_false, false_and, or_true, true_or, or_false, false_or, co_s3 lo hk, hz, hlt, co_s4 lo hk, co_s5 lo hk (show q < 24 by omega), am_cl (show q < 2147483648 by omega), hN q (by omega), hv, co_ob lo, co_r0 lo, ha_ob r.1, c_hasDeed r.1, r.2.1.2.1, hin]
theorem s_reads (i : iv G h o m) {v : Int32} : sm G h o m d 105 212 [.int v] := by
  have lm := i.1.2.1
  have lo := i.1.2.2.1
  have hm : m = o + 117 := i.1.1.2
  obtain ⟨n, nd, nt, hs, r⟩ := i.2.1
  by_cases h1 : 0 ≤ v ∧ v ≤ 3
  · obtain ⟨k, hk, rfl⟩ := mt_ix4.mp h1
    obtain ⟨b1, b2, z, hz, b3, b4, b5⟩ := i.2.2.2.2.1 k hk
    by_cases c1 : am_i h (m + 4) k = -1
    · refine sm_same i ?_ (m_reads1 lm hk (by rw [c1]; decide))
      simp only [n_105, e_105_0, e_105_1, e_105_4, e_105_7, e_105_9, e_105_10, e_105_11, e_105_14, e_105_15, f_105_16, e_105_17, e_105_18, e_105_21, e_105_22, e_105_25, e_105_28, e_105_29, f_105_30, e_105_31, e_105_32, e_105_33, e_105_36, e_105_39, e_105_40, e_105_43, e_105_44, e_105_45, e_105_47, e_105_50, e_105_51, f_105_55, e_105_57, e_105_59, e_105_62, e_105_63, e_105_66, e_105_67, e_105_70, e_105_73, e_105_74, e_105_77, e_105_78, e_105_79, e_105_80, e_105_83, e_105_84, e_105_87, e_105_90, e_105_91, e_105_92, e_105_95, e_105_98, e_105_99, f_105_100, e_105_103, e_105_54, e_105_106, e_105_108, Option.bind_some, Option.toList_some, Option.toList_none, List.cons_append, List.nil_append, am_k1_i, am_k1_r, am_k1_u, am_k1_n, am_bo0, am_bo1, am_boi, am_ev_tb, am_tb_nil, am_rfs, am_rfn, eq_self, and_self, if_true, if_false, show ¬ (1 : Int32) = 0 from by decide, show ¬ (0 : Int32) = 1 from by decide, not_true, not_false_eq_true, and_true, true_and, and_false, false_and, or_true, true_or, or_false, false_or, c_isSheet, h1, co_ob lo, co_r5 lo, co_s1 lo hk, am_cl (show k < 2147483648 by omega), co_s2 lo hk, co_s3 lo hk, b1, c1]
    · have c1' : ¬ am_i h (m + 4) k < 0 := by
        rcases b2.resolve_left c1 with e | e
        · rw [e]; decide
        · rw [e]; decide
      have e1 := c_reads_l (d := d + 197) (x1 := some (.int (nI k))) lo r hs hk b3 hz (N := fun j => am_i h (m + 6) (24 * k + j)) b5 z 0 none (by omega)
      refine sm_same i ?_ (m_reads lm rfl hk c1' b4 hz hs.1.2.1.1 hs.1.2.1.2)
      rw [← e1]
      simp only [n_105, e_105_0, e_105_1, e_105_4, e_105_7, e_105_9, e_105_10, e_105_11, e_105_14, e_105_15, f_105_16, e_105_17, e_105_18, e_105_21, e_105_22, e_105_25, e_105_28, e_105_29, f_105_30, e_105_32, e_105_33, e_105_36, e_105_39, e_105_40, e_105_43, e_105_44, e_105_45, e_105_47, e_105_50, e_105_51, f_105_55, e_105_57, e_105_59, e_105_62, e_105_63, e_105_66, e_105_67, e_105_70, e_105_73, e_105_74, e_105_77, e_105_78, e_105_79, e_105_80, e_105_83, e_105_84, e_105_87, e_105_90, e_105_91, e_105_92, e_105_95, e_105_98, e_105_99, f_105_100, e_105_103, e_105_54, e_105_106, e_105_108, Option.bind_some, Option.toList_some, Option.toList_none, List.cons_append, List.nil_append, am_k1_i, am_k1_r, am_k1_u, am_k1_n, am_bo0, am_bo1, am_boi, am_ev_tb, am_tb_nil, am_rfs, am_rfn, eq_self, and_self, if_true, if_false, show ¬ (1 : Int32) = 0 from by decide, show ¬ (0 : Int32) = 1 from by decide, not_true, not_false_eq_true, and_true, true_and, and_false, false_and, or_true, true_or, or_false, false_or, c_isSheet, h1, co_ob lo, co_r5 lo, co_s1 lo hk, am_cl (show k < 2147483648 by omega), co_s2 lo hk, co_s3 lo hk, b1, c1]
      rfl
  · refine sm_same i ?_ (m_reads0 h1)
    simp only [n_105, e_105_0, e_105_1, e_105_4, e_105_7, e_105_9, e_105_10, e_105_11, e_105_14, e_105_15, f_105_16, e_105_17, e_105_18, e_105_21, e_105_22, e_105_25, e_105_28, e_105_29, f_105_30, e_105_31, e_105_32, e_105_33, e_105_36, e_105_39, e_105_40, e_105_43, e_105_44, e_105_45, e_105_47, e_105_50, e_105_51, f_105_55, e_105_57, e_105_59, e_105_62, e_105_63, e_105_66, e_105_67, e_105_70, e_105_73, e_105_74, e_105_77, e_105_78, e_105_79, e_105_80, e_105_83, e_105_84, e_105_87, e_105_90, e_105_91, e_105_92, e_105_95, e_105_98, e_105_99, f_105_100, e_105_103, e_105_54, e_105_106, e_105_108, Option.bind_some, Option.toList_some, Option.toList_none, List.cons_append, List.nil_append, am_k1_i, am_k1_r, am_k1_u, am_k1_n, am_bo0, am_bo1, am_boi, am_ev_tb, am_tb_nil, am_rfs, am_rfn, eq_self, and_self, if_true, if_false, show ¬ (1 : Int32) = 0 from by decide, show ¬ (0 : Int32) = 1 from by decide, not_true, not_false_eq_true, and_true, true_and, and_false, false_and, or_true, true_or, or_false, false_or, c_isSheet, h1]
theorem c_hasStretch {x z : Nat} {p k : Int32} (hx : am_ob G h x 4) (hz : am_i h x 2 = nI z) (hz24 : z ≤ 24) : ∃ v : Int32, am_evm G (d + 1) 64 [.ref x, .int p, .int k] h = some (some (.int v), h) ∧ ((v = 1 ∧ mt_str z p k) ∨ (v = 0 ∧ ¬ mt_str z p k)) := by
  by_cases h1 : k < 0
  · refine ⟨0, ?_, Or.inr ⟨rfl, fun ⟨a, c, _, e, _⟩ => ?_⟩⟩
    · simp only [n_64, e_64_0, e_64_1, e_64_4, e_64_5, e_64_6, e_64_7, e_64_10, e_64_13, e_64_16, e_64_17, e_64_18, e_64_21, e_64_22, e_64_23, e_64_26, e_64_27, f_64_31, e_64_30, Option.bind_some, Option.toList_some, Option.toList_none, List.cons_append, List.nil_append, am_k1_i, am_k1_r, am_k1_u, am_k1_n, am_bo0, am_bo1, am_boi, am_ev_tb, am_tb_nil, am_rfs, am_rfn, eq_self, and_self, if_true, if_false, show ¬ (1 : Int32) = 0 from by decide, show ¬ (0 : Int32) = 1 from by decide, not_true, not_false_eq_true, and_true, true_and, and_false, false_and, or_true, true_or, or_false, false_or, h1]
    · subst e
      exact nI_pos (by omega) h1
  · by_cases h2 : 0 ≤ p ∧ p ≤ nI z
    · obtain ⟨a, ha, rfl⟩ := (mt_ix (p := p) (c := z + 1) (by omega)).mp ⟨h2.1, by rw [nI_pred]; exact h2.2⟩
      obtain ⟨c, hc, rfl⟩ := nI_of h1
      have hsub : nI z - nI a = nI (z - a) := pk_sub (by omega)
      by_cases h3 : nI (z - a) < nI c
      · refine ⟨0, ?_, Or.inr ⟨rfl, fun ⟨a2, c2, e1, e2, h5⟩ => ?_⟩⟩
        · simp only [n_64, e_64_0, e_64_1, e_64_4, e_64_5, e_64_6, e_64_7, e_64_10, e_64_13, e_64_16, e_64_17, e_64_18, e_64_21, e_64_22, e_64_23, e_64_26, e_64_27, f_64_31, e_64_30, Option.bind_some, Option.toList_some, Option.toList_none, List.cons_append, List.nil_append, am_k1_i, am_k1_r, am_k1_u, am_k1_n, am_bo0, am_bo1, am_boi, am_ev_tb, am_tb_nil, am_rfs, am_rfn, eq_self, and_self, if_true, if_false, show ¬ (1 : Int32) = 0 from by decide, show ¬ (0 : Int32) = 1 from by decide, not_true, not_false_eq_true, and_true, true_and, and_false, false_and, or_true, true_or, or_false, false_or, h1, hx, hz, c_within, h2, hsub, h3]
        · have q1 := (nI_eq (by omega) (by omega)).mp e1
          have q2 := (nI_eq (by omega) (by omega)).mp e2
          have := (nI_ltI (by omega) (by omega)).mp h3
          omega
      · refine ⟨1, ?_, Or.inl ⟨rfl, a, c, rfl, rfl, ?_⟩⟩
        · simp only [n_64, e_64_0, e_64_1, e_64_4, e_64_5, e_64_6, e_64_7, e_64_10, e_64_13, e_64_16, e_64_17, e_64_18, e_64_21, e_64_22, e_64_23, e_64_26, e_64_27, f_64_31, e_64_30, Option.bind_some, Option.toList_some, Option.toList_none, List.cons_append, List.nil_append, am_k1_i, am_k1_r, am_k1_u, am_k1_n, am_bo0, am_bo1, am_boi, am_ev_tb, am_tb_nil, am_rfs, am_rfn, eq_self, and_self, if_true, if_false, show ¬ (1 : Int32) = 0 from by decide, show ¬ (0 : Int32) = 1 from by decide, not_true, not_false_eq_true, and_true, true_and, and_false, false_and, or_true, true_or, or_false, false_or, h1, hx, hz, c_within, h2, hsub, h3]
        · have : ¬ z - a < c := fun q => h3 ((nI_ltI (by omega) (by omega)).mpr q)
          omega
    · refine ⟨0, ?_, Or.inr ⟨rfl, fun ⟨a, c, e1, e2, h5⟩ => h2 ?_⟩⟩
      · simp only [n_64, e_64_0, e_64_1, e_64_4, e_64_5, e_64_6, e_64_7, e_64_10, e_64_13, e_64_16, e_64_17, e_64_18, e_64_21, e_64_22, e_64_23, e_64_26, e_64_27, f_64_31, e_64_30, Option.bind_some, Option.toList_some, Option.toList_none, List.cons_append, List.nil_append, am_k1_i, am_k1_r, am_k1_u, am_k1_n, am_bo0, am_bo1, am_boi, am_ev_tb, am_tb_nil, am_rfs, am_rfn, eq_self, and_self, if_true, if_false, show ¬ (1 : Int32) = 0 from by decide, show ¬ (0 : Int32) = 1 from by decide, not_true, not_false_eq_true, and_true, true_and, and_false, false_and, or_true, true_or, or_false, false_or, h1, hx, hz, c_within, h2]
      · rw [e1]
        exact ⟨nI_pos' (by omega), nI_le (by omega) (by omega)⟩
theorem s_copy (i : iv G h o m) {v p w q k : Int32} : sm G h o m d 106 213 [.int v, .int p, .int w, .int q, .int k] := by
  have lm := i.1.2.1
  have lo := i.1.2.2.1
  have hm : m = o + 117 := i.1.1.2
  by_cases h1 : 0 ≤ v ∧ v ≤ 3
  · by_cases h2 : 0 ≤ w ∧ w ≤ 3
    · obtain ⟨a, ha, rfl⟩ := mt_ix4.mp h1
      obtain ⟨b, hb, rfl⟩ := mt_ix4.mp h2
      obtain ⟨a1, a2, za, hza, a3, a4, a5⟩ := i.2.2.2.2.1 a ha
      obtain ⟨b1, b2, zb, hzb, b3, b4, b5⟩ := i.2.2.2.2.1 b hb
      have neg : ∀ s : Int32, (s = -1 ∨ s = 0 ∨ s = 1) → ¬ s = -1 → ¬ s < 0 := fun s hs hn => by
        rcases hs.resolve_left hn with e | e
        · rw [e]; decide
        · rw [e]; decide
      by_cases c1 : am_i h (m + 4) a = -1
      · refine sm_same i ?_ (m_copy1 lm ha hb (Or.inl (by rw [c1]; decide)))
        simp only [n_106, e_106_0, e_106_1, e_106_4, e_106_7, e_106_8, e_106_11, e_106_14, e_106_16, e_106_17, e_106_18, e_106_21, e_106_22, f_106_23, e_106_25, e_106_26, e_106_29, e_106_30, f_106_31, e_106_33, e_106_35, e_106_38, e_106_39, e_106_42, e_106_44, e_106_47, e_106_48, e_106_51, e_106_54, e_106_55, e_106_57, e_106_60, e_106_62, e_106_65, e_106_68, e_106_70, e_106_71, e_106_73, e_106_74, e_106_76, e_106_79, e_106_82, e_106_84, e_106_86, e_106_88, e_106_91, e_106_94, e_106_97, e_106_98, e_106_100, e_106_103, e_106_104, e_106_106, e_106_109, e_106_111, e_106_113, e_106_116, e_106_118, Option.bind_some, Option.toList_some, Option.toList_none, List.cons_append, List.nil_append, am_k1_i, am_k1_r, am_k1_u, am_k1_n, am_bo0, am_bo1, am_boi, am_ev_tb, am_tb_nil, am_rfs, am_rfn, eq_self, and_self, if_true, if_false, show ¬ (1 : Int32) = 0 from by decide, show ¬ (0 : Int32) = 1 from by decide, not_true, not_false_eq_true, and_true, true_and, and_false, false_and, or_true, true_or, or_false, false_or, c_isSheet, h1, h2, co_ob lo, co_r5 lo, co_s1 lo ha, co_s1 lo hb, am_cl (show a < 2147483648 by omega), am_cl (show b < 2147483648 by omega), co_s2 lo ha, co_s2 lo hb, co_s3 lo ha, co_s3 lo hb, a1, c1]
      · by_cases c2 : am_i h (m + 4) b = -1
        · refine sm_same i ?_ (m_copy1 lm ha hb (Or.inr (by rw [c2]; decide)))
          simp only [n_106, e_106_0, e_106_1, e_106_4, e_106_7, e_106_8, e_106_11, e_106_14, e_106_16, e_106_17, e_106_18, e_106_21, e_106_22, f_106_23, e_106_25, e_106_26, e_106_29, e_106_30, f_106_31, e_106_33, e_106_35, e_106_38, e_106_39, e_106_42, e_106_44, e_106_47, e_106_48, e_106_51, e_106_54, e_106_55, e_106_57, e_106_60, e_106_62, e_106_65, e_106_68, e_106_70, e_106_71, e_106_73, e_106_74, e_106_76, e_106_79, e_106_82, e_106_84, e_106_86, e_106_88, e_106_91, e_106_94, e_106_97, e_106_98, e_106_100, e_106_103, e_106_104, e_106_106, e_106_109, e_106_111, e_106_113, e_106_116, e_106_118, Option.bind_some, Option.toList_some, Option.toList_none, List.cons_append, List.nil_append, am_k1_i, am_k1_r, am_k1_u, am_k1_n, am_bo0, am_bo1, am_boi, am_ev_tb, am_tb_nil, am_rfs, am_rfn, eq_self, and_self, if_true, if_false, show ¬ (1 : Int32) = 0 from by decide, show ¬ (0 : Int32) = 1 from by decide, not_true, not_false_eq_true, and_true, true_and, and_false, false_and, or_true, true_or, or_false, false_or, c_isSheet, h1, h2, co_ob lo, co_r5 lo, co_s1 lo ha, co_s1 lo hb, am_cl (show a < 2147483648 by omega), am_cl (show b < 2147483648 by omega), co_s2 lo ha, co_s2 lo hb, co_s3 lo ha, co_s3 lo hb, a1, b1, c1, c2]
        · have n1 := neg _ a2 c1
          have n2 := neg _ b2 c2
          by_cases c3 : am_i h (m + 4) a = am_i h (m + 4) b
          · obtain ⟨y1, s1, t1⟩ := c_hasStretch (d := d + 198) (p := p) (k := k) (co_s3 lo ha) a3 hza
            obtain ⟨y2, s2, t2⟩ := c_hasStretch (d := d + 198) (p := q) (k := k) (co_s3 lo hb) b3 hzb
            have c2' : ¬ am_i h (m + 4) a = -1 := c1
            rcases t1 with ⟨rfl, t1⟩ | ⟨rfl, t1⟩
            · rcases t2 with ⟨rfl, t2⟩ | ⟨rfl, t2⟩
              · obtain ⟨p', k', rfl, rfl, hle1⟩ := t1
                obtain ⟨q', k2, rfl, ek, hle2⟩ := t2
                obtain rfl : k' = k2 := by
                  have hk2 : k2 < 2147483648 := by omega
                  exact (nI_eq (by omega) hk2).mp ek
                have hcp : am_cp G h (o + 90 + 2 * a) (o + 90 + 2 * b) (nI p') (nI q') (nI k') := by
                  have s1 := (lo.2.2.2.2.2.1 a ha).2.2.2
                  have s2 := (lo.2.2.2.2.2.1 b hb).2.2.2
                  refine ⟨⟨by rw [Nat.add_assoc]; exact co_own lo (by omega), by rw [s1]⟩, ⟨by rw [Nat.add_assoc]; exact co_own lo (by omega), by rw [s2]⟩, ⟨nI_pos (by omega), nI_pos (by omega), nI_pos (by omega)⟩, ?_, ?_⟩
                  · rw [s1, am_cl (by omega), am_cl (by omega)]; show p' + k' ≤ 24; omega
                  · rw [s2, am_cl (by omega), am_cl (by omega)]; show q' + k' ≤ 24; omega
                have e1 : am_evm G (d + 200) 106 [.ref o, .int (nI a), .int (nI p'), .int (nI b), .int (nI q'), .int (nI k')] h = some (some (.int (nI k')), am_pa h (o + 90 + 2 * b) (va_cpy (am_i h (o + 90 + 2 * a)) (am_i h (o + 90 + 2 * b)) p' q' k')) := by
                  simp only [n_106, e_106_0, e_106_1, e_106_4, e_106_7, e_106_8, e_106_11, e_106_14, e_106_16, e_106_17, e_106_18, e_106_21, e_106_22, f_106_23, e_106_25, e_106_26, e_106_29, e_106_30, f_106_31, e_106_33, e_106_35, e_106_38, e_106_39, e_106_42, e_106_44, e_106_47, e_106_48, e_106_51, e_106_54, e_106_55, e_106_57, e_106_60, e_106_62, e_106_65, e_106_68, e_106_70, e_106_71, e_106_73, e_106_74, e_106_76, e_106_79, e_106_82, e_106_84, e_106_86, e_106_88, e_106_91, e_106_94, e_106_97, e_106_98, e_106_100, e_106_103, e_106_104, e_106_106, e_106_109, e_106_111, e_106_113, e_106_116, e_106_118, Option.bind_some, Option.toList_some, Option.toList_none, List.cons_append, List.nil_append, am_k1_i, am_k1_r, am_k1_u, am_k1_n, am_bo0, am_bo1, am_boi, am_ev_tb, am_tb_nil, am_rfs, am_rfn, eq_self, and_self, if_true, if_false, show ¬ (1 : Int32) = 0 from by decide, show ¬ (0 : Int32) = 1 from by decide, not_true, not_false_eq_true, and_true, true_and, and_false, false_and, or_true, true_or, or_false, false_or, c_isSheet, h1, h2, co_ob lo, co_r5 lo, co_s1 lo ha, co_s1 lo hb, am_cl (show a < 2147483648 by omega), am_cl (show b < 2147483648 by omega), co_s2 lo ha, co_s2 lo hb, co_s3 lo ha, co_s3 lo hb, a1, b1, c1, c2, c3, s1, s2, co_s4 lo ha, co_s4 lo hb, hcp, am_cl (show p' < 2147483648 by omega), am_cl (show q' < 2147483648 by omega), am_cl (show k' < 2147483648 by omega)]
                have f1 : am_fr (fun x => x = o + 90 + 2 * b ∨ x = m + 16 ∨ x = m + 6) h (am_pa h (o + 90 + 2 * b) (va_cpy (am_i h (o + 90 + 2 * a)) (am_i h (o + 90 + 2 * b)) p' q' k')) := am_fr.pa (Or.inl rfl)
                have g4 := f1.i1 (b := m + 4) (by omega)
                have g5 := f1.i1 (b := m + 5) (by omega)
                obtain ⟨g, e2⟩ := m_copy (d := d + 198) (lm.fr f1) ha hb (p := p') (q := q') (k := k') (za := za) (zb := zb) (by rw [g4]; exact ⟨n1, n2⟩) (by rw [g4]; exact c3) (by rw [g5]; exact a4) (by rw [g5]; exact b4) hza hzb hle1 hle2
                have g7 : am_i (am_pa h (o + 90 + 2 * b) (va_cpy (am_i h (o + 90 + 2 * a)) (am_i h (o + 90 + 2 * b)) p' q' k')) (m + 6) = am_i h (m + 6) := by rw [am_pa_i, if_neg (by omega)]
                rw [g7] at e2
                have f2 := f1.tr ((am_fr.pa (S := fun x => x = o + 90 + 2 * b ∨ x = m + 16 ∨ x = m + 6) (a := m + 16) (g := g) (Or.inr (Or.inl rfl))).tr (am_fr.pa (a := m + 6) (g := va_cpy (am_i h (m + 6)) (am_i h (m + 6)) (24 * a + p') (24 * b + q') k') (Or.inr (Or.inr rfl))))
                refine ⟨_, _, _, e1, e2, ?_, by rw [f2.1]; omega, by rw [f2.2.1]; omega⟩
                refine i.gen f2 (fun b hb => by omega) (by rw [f2.i1 (by omega)]) (by rw [f2.i1 (by omega)]) (i.2.2.2.1.fr f2 (by omega) (by omega) (by omega) (by omega)) ?_ (i.2.2.2.2.2.1.fr f2 (fun k h1 h2 => by omega) (fun k h1 h2 => by omega)) (i.2.2.2.2.2.2.fr f2 (by omega) (by omega) (by omega) (by omega))
                have g4' := f2.i1 (b := m + 4) (by omega)
                have g5' := f2.i1 (b := m + 5) (by omega)
                have g6' := f2.i1 (b := o + 89 + 2 * b) (by omega)
                refine i.2.2.2.2.1.up (i := b) (fun x hx hne => ⟨f2.i1 (by omega), f2.i1 (by omega), by rw [g4'], by rw [g5'], fun j2 hj2 => ?_⟩) ⟨by rw [g4', g6']; exact b1, by rw [g4']; exact b2, zb, hzb, by rw [g6']; exact b3, by rw [g5']; exact b4, fun j2 hj2 => ?_⟩
                · rw [am_pa_i, if_pos rfl, pk_cpy_out (by omega)]
                · rw [am_pa_i, if_neg (by omega), am_pa_i, if_neg (by omega), am_pa_i, if_pos rfl, am_pa_i, if_pos rfl]
                  by_cases e : q' ≤ j2 ∧ j2 < q' + k'
                  · rw [pk_cpy_in e.1 e.2, pk_cpy_in (by omega) (by omega), a5 _ (by omega)]
                    congr 1
                    omega
                  · rw [pk_cpy_out (by omega), pk_cpy_out (by omega)]
                    exact b5 j2 hj2
              · refine sm_same i ?_ (m_copy3 lm ha hb ⟨n1, n2⟩ c3 a4 b4 hza hzb (fun q => t2 q.2))
                simp only [n_106, e_106_0, e_106_1, e_106_4, e_106_7, e_106_8, e_106_11, e_106_14, e_106_16, e_106_17, e_106_18, e_106_21, e_106_22, f_106_23, e_106_25, e_106_26, e_106_29, e_106_30, f_106_31, e_106_33, e_106_35, e_106_38, e_106_39, e_106_42, e_106_44, e_106_47, e_106_48, e_106_51, e_106_54, e_106_55, e_106_57, e_106_60, e_106_62, e_106_65, e_106_68, e_106_70, e_106_71, e_106_73, e_106_74, e_106_76, e_106_79, e_106_82, e_106_84, e_106_86, e_106_88, e_106_91, e_106_94, e_106_97, e_106_98, e_106_100, e_106_103, e_106_104, e_106_106, e_106_109, e_106_111, e_106_113, e_106_116, e_106_118, Option.bind_some, Option.toList_some, Option.toList_none, List.cons_append, List.nil_append, am_k1_i, am_k1_r, am_k1_u, am_k1_n, am_bo0, am_bo1, am_boi, am_ev_tb, am_tb_nil, am_rfs, am_rfn, eq_self, and_self, if_true, if_false, show ¬ (1 : Int32) = 0 from by decide, show ¬ (0 : Int32) = 1 from by decide, not_true, not_false_eq_true, and_true, true_and, and_false, false_and, or_true, true_or, or_false, false_or, c_isSheet, h1, h2, co_ob lo, co_r5 lo, co_s1 lo ha, co_s1 lo hb, am_cl (show a < 2147483648 by omega), am_cl (show b < 2147483648 by omega), co_s2 lo ha, co_s2 lo hb, co_s3 lo ha, co_s3 lo hb, a1, b1, c1, c2, c3, s1, s2]
            · refine sm_same i ?_ (m_copy3 lm ha hb ⟨n1, n2⟩ c3 a4 b4 hza hzb (fun q => t1 q.1))
              simp only [n_106, e_106_0, e_106_1, e_106_4, e_106_7, e_106_8, e_106_11, e_106_14, e_106_16, e_106_17, e_106_18, e_106_21, e_106_22, f_106_23, e_106_25, e_106_26, e_106_29, e_106_30, f_106_31, e_106_33, e_106_35, e_106_38, e_106_39, e_106_42, e_106_44, e_106_47, e_106_48, e_106_51, e_106_54, e_106_55, e_106_57, e_106_60, e_106_62, e_106_65, e_106_68, e_106_70, e_106_71, e_106_73, e_106_74, e_106_76, e_106_79, e_106_82, e_106_84, e_106_86, e_106_88, e_106_91, e_106_94, e_106_97, e_106_98, e_106_100, e_106_103, e_106_104, e_106_106, e_106_109, e_106_111, e_106_113, e_106_116, e_106_118, Option.bind_some, Option.toList_some, Option.toList_none, List.cons_append, List.nil_append, am_k1_i, am_k1_r, am_k1_u, am_k1_n, am_bo0, am_bo1, am_boi, am_ev_tb, am_tb_nil, am_rfs, am_rfn, eq_self, and_self, if_true, if_false, show ¬ (1 : Int32) = 0 from by decide, show ¬ (0 : Int32) = 1 from by decide, not_true, not_false_eq_true, and_true, true_and, and_false, false_and, or_true, true_or, or_false, false_or, c_isSheet, h1, h2, co_ob lo, co_r5 lo, co_s1 lo ha, co_s1 lo hb, am_cl (show a < 2147483648 by omega), am_cl (show b < 2147483648 by omega), co_s2 lo ha, co_s2 lo hb, co_s3 lo ha, co_s3 lo hb, a1, b1, c1, c2, c3, s1]
          · refine sm_same i ?_ (m_copy2 lm ha hb ⟨n1, n2⟩ c3)
            simp only [n_106, e_106_0, e_106_1, e_106_4, e_106_7, e_106_8, e_106_11, e_106_14, e_106_16, e_106_17, e_106_18, e_106_21, e_106_22, f_106_23, e_106_25, e_106_26, e_106_29, e_106_30, f_106_31, e_106_33, e_106_35, e_106_38, e_106_39, e_106_42, e_106_44, e_106_47, e_106_48, e_106_51, e_106_54, e_106_55, e_106_57, e_106_60, e_106_62, e_106_65, e_106_68, e_106_70, e_106_71, e_106_73, e_106_74, e_106_76, e_106_79, e_106_82, e_106_84, e_106_86, e_106_88, e_106_91, e_106_94, e_106_97, e_106_98, e_106_100, e_106_103, e_106_104, e_106_106, e_106_109, e_106_111, e_106_113, e_106_116, e_106_118, Option.bind_some, Option.toList_some, Option.toList_none, List.cons_append, List.nil_append, am_k1_i, am_k1_r, am_k1_u, am_k1_n, am_bo0, am_bo1, am_boi, am_ev_tb, am_tb_nil, am_rfs, am_rfn, eq_self, and_self, if_true, if_false, show ¬ (1 : Int32) = 0 from by decide, show ¬ (0 : Int32) = 1 from by decide, not_true, not_false_eq_true, and_true, true_and, and_false, false_and, or_true, true_or, or_false, false_or, c_isSheet, h1, h2, co_ob lo, co_r5 lo, co_s1 lo ha, co_s1 lo hb, am_cl (show a < 2147483648 by omega), am_cl (show b < 2147483648 by omega), co_s2 lo ha, co_s2 lo hb, co_s3 lo ha, co_s3 lo hb, a1, b1, c1, c2, c3]
    · refine sm_same i ?_ (m_copy0 (fun q => h2 q.2))
      simp only [n_106, e_106_0, e_106_1, e_106_4, e_106_7, e_106_8, e_106_11, e_106_14, e_106_16, e_106_17, e_106_18, e_106_21, e_106_22, f_106_23, e_106_25, e_106_26, e_106_29, e_106_30, f_106_31, e_106_33, e_106_35, e_106_38, e_106_39, e_106_42, e_106_44, e_106_47, e_106_48, e_106_51, e_106_54, e_106_55, e_106_57, e_106_60, e_106_62, e_106_65, e_106_68, e_106_70, e_106_71, e_106_73, e_106_74, e_106_76, e_106_79, e_106_82, e_106_84, e_106_86, e_106_88, e_106_91, e_106_94, e_106_97, e_106_98, e_106_100, e_106_103, e_106_104, e_106_106, e_106_109, e_106_111, e_106_113, e_106_116, e_106_118, Option.bind_some, Option.toList_some, Option.toList_none, List.cons_append, List.nil_append, am_k1_i, am_k1_r, am_k1_u, am_k1_n, am_bo0, am_bo1, am_boi, am_ev_tb, am_tb_nil, am_rfs, am_rfn, eq_self, and_self, if_true, if_false, show ¬ (1 : Int32) = 0 from by decide, show ¬ (0 : Int32) = 1 from by decide, not_true, not_false_eq_true, and_true, true_and, and_false, false_and, or_true, true_or, or_false, false_or, c_isSheet, h1, h2]
  · refine sm_same i ?_ (m_copy0 (fun q => h1 q.1))
    simp only [n_106, e_106_0, e_106_1, e_106_4, e_106_7, e_106_8, e_106_11, e_106_14, e_106_16, e_106_17, e_106_18, e_106_21, e_106_22, f_106_23, e_106_25, e_106_26, e_106_29, e_106_30, f_106_31, e_106_33, e_106_35, e_106_38, e_106_39, e_106_42, e_106_44, e_106_47, e_106_48, e_106_51, e_106_54, e_106_55, e_106_57, e_106_60, e_106_62, e_106_65, e_106_68, e_106_70, e_106_71, e_106_73, e_106_74, e_106_76, e_106_79, e_106_82, e_106_84, e_106_86, e_106_88, e_106_91, e_106_94, e_106_97, e_106_98, e_106_100, e_106_103, e_106_104, e_106_106, e_106_109, e_106_111, e_106_113, e_106_116, e_106_118, Option.bind_some, Option.toList_some, Option.toList_none, List.cons_append, List.nil_append, am_k1_i, am_k1_r, am_k1_u, am_k1_n, am_bo0, am_bo1, am_boi, am_ev_tb, am_tb_nil, am_rfs, am_rfn, eq_self, and_self, if_true, if_false, show ¬ (1 : Int32) = 0 from by decide, show ¬ (0 : Int32) = 1 from by decide, not_true, not_false_eq_true, and_true, true_and, and_false, false_and, or_true, true_or, or_false, false_or, c_isSheet, h1]
end SH
