/-! the reference as it is made -/
section IM
variable {G : Nat → Nat} {d : Nat} {h h0 : am_H} {m : Nat}
def mi (h0 : am_H) (m k : Nat) (h : am_H) : Prop := (am_top h = m + 1 + k ∧ am_sl h ≤ am_sl h0 + 3114 * k) ∧ am_ex (fun b => b = m) h0 h ∧ (∀ q ∈ cm_T.take k, am_r h m q.1 = some (m + q.2.1) ∧ am_sh h (m + q.2.1) = (20, q.2.2)) ∧ (∀ j, 1 ≤ j → j ≤ k → am_i h (m + j) = fun _ => 0) ∧ am_i h m = fun _ => 0
theorem mi_st {k f n : Nat} (hm : m < am_top h0) (M : mi h0 m k h) (hT : cm_T.take (k + 1) = cm_T.take k ++ [(f, k + 1, n)]) (hf : ∀ q ∈ cm_T.take k, q.1 ≠ f ∧ q.2.1 ≤ k) (hn : n ≤ 3114) : mi h0 m (k + 1) (am_pr (am_new h 20 n n) m f (some (am_top h))) := by
  obtain ⟨⟨t, s⟩, x, r, i, i0⟩ := M
  have hsh : am_sh (am_pr (am_new h 20 n n) m f (some (am_top h))) = am_sh (am_new h 20 n n) := rfl
  have hi : am_i (am_pr (am_new h 20 n n) m f (some (am_top h))) = am_i (am_new h 20 n n) := rfl
  refine ⟨⟨?_, ?_⟩, x.tr (am_ex.new.tr (am_ex.pr rfl)), fun q hq => ?_, fun j h1 h2 => ?_, ?_⟩
  · show am_top h + 1 = _; omega
  · show am_sl h + n ≤ _; omega
  · rw [hT] at hq
    rw [am_pr_r, hsh]
    rcases List.mem_append.mp hq with z | z
    · obtain ⟨z1, z2⟩ := hf q z
      rw [if_neg z1, nw_r (by omega), nw_sh (by omega)]
      exact r q z
    · rw [List.mem_singleton.mp z, if_pos rfl]
      refine ⟨by show some (am_top h) = some (m + (k + 1)); rw [t]; congr 1; omega, ?_⟩
      show am_sh (am_new h 20 n n) (m + (k + 1)) = (20, n)
      rw [show m + (k + 1) = am_top h by omega, nw_sh0]
  · rw [hi]
    by_cases e : j = k + 1
    · rw [e, show m + (k + 1) = am_top h by omega, nw_i0]
    · rw [nw_i (by omega)]; exact i j h1 (by omega)
  · rw [hi, nw_i (by omega)]; exact i0
theorem mi_0 (ho : am_ob G h m 9) : am_ev G (d + 1) 130 4 [some (.ref m), none] [] h = am_ev G (d + 1) 130 13 [some (.ref m), none] [] (am_pr (am_new h 20 3114 3114) m 0 (some (am_top h))) := by
  rw [e_130_4]
  simp only [e_130_5, f_130_8, e_130_10, Option.bind_some, Option.toList_some, Option.toList_none, List.cons_append, List.nil_append, am_k1_i, am_k1_r, am_k1_u, am_k1_n, am_bo0, am_bo1, am_boi, am_ev_tb, am_tb_nil, am_rfs, am_rfn, eq_self, and_self, if_true, if_false, show ¬ (1 : Int32) = 0 from by decide, show ¬ (0 : Int32) = 1 from by decide, not_true, not_false_eq_true, and_true, true_and, and_false, false_and, or_true, true_or, or_false, false_or, show am_nn 3114 from ⟨by decide, by decide⟩, show (3114 : Int32).toNatClampNeg = 3114 from rfl, ob_nw ho]
theorem mi_1 (ho : am_ob G h m 9) : am_ev G (d + 1) 130 13 [some (.ref m), none] [] h = am_ev G (d + 1) 130 22 [some (.ref m), none] [] (am_pr (am_new h 20 3114 3114) m 1 (some (am_top h))) := by
  rw [e_130_13]
  simp only [e_130_14, f_130_17, e_130_19, Option.bind_some, Option.toList_some, Option.toList_none, List.cons_append, List.nil_append, am_k1_i, am_k1_r, am_k1_u, am_k1_n, am_bo0, am_bo1, am_boi, am_ev_tb, am_tb_nil, am_rfs, am_rfn, eq_self, and_self, if_true, if_false, show ¬ (1 : Int32) = 0 from by decide, show ¬ (0 : Int32) = 1 from by decide, not_true, not_false_eq_true, and_true, true_and, and_false, false_and, or_true, true_or, or_false, false_or, show am_nn 3114 from ⟨by decide, by decide⟩, show (3114 : Int32).toNatClampNeg = 3114 from rfl, ob_nw ho]
theorem mi_2 (ho : am_ob G h m 9) : am_ev G (d + 1) 130 22 [some (.ref m), none] [] h = am_ev G (d + 1) 130 31 [some (.ref m), none] [] (am_pr (am_new h 20 3114 3114) m 2 (some (am_top h))) := by
  rw [e_130_22]
  simp only [e_130_23, f_130_26, e_130_28, Option.bind_some, Option.toList_some, Option.toList_none, List.cons_append, List.nil_append, am_k1_i, am_k1_r, am_k1_u, am_k1_n, am_bo0, am_bo1, am_boi, am_ev_tb, am_tb_nil, am_rfs, am_rfn, eq_self, and_self, if_true, if_false, show ¬ (1 : Int32) = 0 from by decide, show ¬ (0 : Int32) = 1 from by decide, not_true, not_false_eq_true, and_true, true_and, and_false, false_and, or_true, true_or, or_false, false_or, show am_nn 3114 from ⟨by decide, by decide⟩, show (3114 : Int32).toNatClampNeg = 3114 from rfl, ob_nw ho]
theorem mi_3 (ho : am_ob G h m 9) : am_ev G (d + 1) 130 31 [some (.ref m), none] [] h = am_ev G (d + 1) 130 38 [some (.ref m), none] [] (am_pr (am_new h 20 4 4) m 4 (some (am_top h))) := by
  rw [e_130_31]
  simp only [e_130_32, f_130_33, e_130_35, Option.bind_some, Option.toList_some, Option.toList_none, List.cons_append, List.nil_append, am_k1_i, am_k1_r, am_k1_u, am_k1_n, am_bo0, am_bo1, am_boi, am_ev_tb, am_tb_nil, am_rfs, am_rfn, eq_self, and_self, if_true, if_false, show ¬ (1 : Int32) = 0 from by decide, show ¬ (0 : Int32) = 1 from by decide, not_true, not_false_eq_true, and_true, true_and, and_false, false_and, or_true, true_or, or_false, false_or, show am_nn 4 from ⟨by decide, by decide⟩, show (4 : Int32).toNatClampNeg = 4 from rfl, ob_nw ho]
theorem mi_4 (ho : am_ob G h m 9) : am_ev G (d + 1) 130 38 [some (.ref m), none] [] h = am_ev G (d + 1) 130 45 [some (.ref m), none] [] (am_pr (am_new h 20 4 4) m 5 (some (am_top h))) := by
  rw [e_130_38]
  simp only [e_130_39, f_130_40, e_130_42, Option.bind_some, Option.toList_some, Option.toList_none, List.cons_append, List.nil_append, am_k1_i, am_k1_r, am_k1_u, am_k1_n, am_bo0, am_bo1, am_boi, am_ev_tb, am_tb_nil, am_rfs, am_rfn, eq_self, and_self, if_true, if_false, show ¬ (1 : Int32) = 0 from by decide, show ¬ (0 : Int32) = 1 from by decide, not_true, not_false_eq_true, and_true, true_and, and_false, false_and, or_true, true_or, or_false, false_or, show am_nn 4 from ⟨by decide, by decide⟩, show (4 : Int32).toNatClampNeg = 4 from rfl, ob_nw ho]
theorem mi_5 (ho : am_ob G h m 9) : am_ev G (d + 1) 130 45 [some (.ref m), none] [] h = am_ev G (d + 1) 130 53 [some (.ref m), none] [] (am_pr (am_new h 20 96 96) m 6 (some (am_top h))) := by
  rw [e_130_45]
  simp only [e_130_46, f_130_48, e_130_50, Option.bind_some, Option.toList_some, Option.toList_none, List.cons_append, List.nil_append, am_k1_i, am_k1_r, am_k1_u, am_k1_n, am_bo0, am_bo1, am_boi, am_ev_tb, am_tb_nil, am_rfs, am_rfn, eq_self, and_self, if_true, if_false, show ¬ (1 : Int32) = 0 from by decide, show ¬ (0 : Int32) = 1 from by decide, not_true, not_false_eq_true, and_true, true_and, and_false, false_and, or_true, true_or, or_false, false_or, show am_nn 96 from ⟨by decide, by decide⟩, show (96 : Int32).toNatClampNeg = 96 from rfl, ob_nw ho]
theorem mi_6 (ho : am_ob G h m 9) : am_ev G (d + 1) 130 53 [some (.ref m), none] [] h = am_ev G (d + 1) 130 60 [some (.ref m), none] [] (am_pr (am_new h 20 5 5) m 7 (some (am_top h))) := by
  rw [e_130_53]
  simp only [e_130_54, f_130_55, e_130_57, Option.bind_some, Option.toList_some, Option.toList_none, List.cons_append, List.nil_append, am_k1_i, am_k1_r, am_k1_u, am_k1_n, am_bo0, am_bo1, am_boi, am_ev_tb, am_tb_nil, am_rfs, am_rfn, eq_self, and_self, if_true, if_false, show ¬ (1 : Int32) = 0 from by decide, show ¬ (0 : Int32) = 1 from by decide, not_true, not_false_eq_true, and_true, true_and, and_false, false_and, or_true, true_or, or_false, false_or, show am_nn 5 from ⟨by decide, by decide⟩, show (5 : Int32).toNatClampNeg = 5 from rfl, ob_nw ho]
theorem mi_7 (ho : am_ob G h m 9) : am_ev G (d + 1) 130 60 [some (.ref m), none] [] h = am_ev G (d + 1) 130 67 [some (.ref m), none] [] (am_pr (am_new h 20 5 5) m 8 (some (am_top h))) := by
  rw [e_130_60]
  simp only [e_130_61, f_130_62, e_130_64, Option.bind_some, Option.toList_some, Option.toList_none, List.cons_append, List.nil_append, am_k1_i, am_k1_r, am_k1_u, am_k1_n, am_bo0, am_bo1, am_boi, am_ev_tb, am_tb_nil, am_rfs, am_rfn, eq_self, and_self, if_true, if_false, show ¬ (1 : Int32) = 0 from by decide, show ¬ (0 : Int32) = 1 from by decide, not_true, not_false_eq_true, and_true, true_and, and_false, false_and, or_true, true_or, or_false, false_or, show am_nn 5 from ⟨by decide, by decide⟩, show (5 : Int32).toNatClampNeg = 5 from rfl, ob_nw ho]
theorem mi_8 (ho : am_ob G h m 9) : am_ev G (d + 1) 130 67 [some (.ref m), none] [] h = am_ev G (d + 1) 130 74 [some (.ref m), none] [] (am_pr (am_new h 20 5 5) m 9 (some (am_top h))) := by
  rw [e_130_67]
  simp only [e_130_68, f_130_69, e_130_71, Option.bind_some, Option.toList_some, Option.toList_none, List.cons_append, List.nil_append, am_k1_i, am_k1_r, am_k1_u, am_k1_n, am_bo0, am_bo1, am_boi, am_ev_tb, am_tb_nil, am_rfs, am_rfn, eq_self, and_self, if_true, if_false, show ¬ (1 : Int32) = 0 from by decide, show ¬ (0 : Int32) = 1 from by decide, not_true, not_false_eq_true, and_true, true_and, and_false, false_and, or_true, true_or, or_false, false_or, show am_nn 5 from ⟨by decide, by decide⟩, show (5 : Int32).toNatClampNeg = 5 from rfl, ob_nw ho]
theorem mi_9 (ho : am_ob G h m 9) : am_ev G (d + 1) 130 74 [some (.ref m), none] [] h = am_ev G (d + 1) 130 81 [some (.ref m), none] [] (am_pr (am_new h 20 5 5) m 10 (some (am_top h))) := by
  rw [e_130_74]
  simp only [e_130_75, f_130_76, e_130_78, Option.bind_some, Option.toList_some, Option.toList_none, List.cons_append, List.nil_append, am_k1_i, am_k1_r, am_k1_u, am_k1_n, am_bo0, am_bo1, am_boi, am_ev_tb, am_tb_nil, am_rfs, am_rfn, eq_self, and_self, if_true, if_false, show ¬ (1 : Int32) = 0 from by decide, show ¬ (0 : Int32) = 1 from by decide, not_true, not_false_eq_true, and_true, true_and, and_false, false_and, or_true, true_or, or_false, false_or, show am_nn 5 from ⟨by decide, by decide⟩, show (5 : Int32).toNatClampNeg = 5 from rfl, ob_nw ho]
theorem mi_10 (ho : am_ob G h m 9) : am_ev G (d + 1) 130 81 [some (.ref m), none] [] h = am_ev G (d + 1) 130 89 [some (.ref m), none] [] (am_pr (am_new h 20 120 120) m 11 (some (am_top h))) := by
  rw [e_130_81]
  simp only [e_130_82, f_130_84, e_130_86, Option.bind_some, Option.toList_some, Option.toList_none, List.cons_append, List.nil_append, am_k1_i, am_k1_r, am_k1_u, am_k1_n, am_bo0, am_bo1, am_boi, am_ev_tb, am_tb_nil, am_rfs, am_rfn, eq_self, and_self, if_true, if_false, show ¬ (1 : Int32) = 0 from by decide, show ¬ (0 : Int32) = 1 from by decide, not_true, not_false_eq_true, and_true, true_and, and_false, false_and, or_true, true_or, or_false, false_or, show am_nn 120 from ⟨by decide, by decide⟩, show (120 : Int32).toNatClampNeg = 120 from rfl, ob_nw ho]
theorem mi_11 (ho : am_ob G h m 9) : am_ev G (d + 1) 130 89 [some (.ref m), none] [] h = am_ev G (d + 1) 130 97 [some (.ref m), none] [] (am_pr (am_new h 20 12 12) m 12 (some (am_top h))) := by
  rw [e_130_89]
  simp only [e_130_90, f_130_92, e_130_94, Option.bind_some, Option.toList_some, Option.toList_none, List.cons_append, List.nil_append, am_k1_i, am_k1_r, am_k1_u, am_k1_n, am_bo0, am_bo1, am_boi, am_ev_tb, am_tb_nil, am_rfs, am_rfn, eq_self, and_self, if_true, if_false, show ¬ (1 : Int32) = 0 from by decide, show ¬ (0 : Int32) = 1 from by decide, not_true, not_false_eq_true, and_true, true_and, and_false, false_and, or_true, true_or, or_false, false_or, show am_nn 12 from ⟨by decide, by decide⟩, show (12 : Int32).toNatClampNeg = 12 from rfl, ob_nw ho]
theorem mi_12 (ho : am_ob G h m 9) : am_ev G (d + 1) 130 97 [some (.ref m), none] [] h = am_ev G (d + 1) 130 105 [some (.ref m), none] [] (am_pr (am_new h 20 96 96) m 13 (some (am_top h))) := by
  rw [e_130_97]
  simp only [e_130_98, f_130_100, e_130_102, Option.bind_some, Option.toList_some, Option.toList_none, List.cons_append, List.nil_append, am_k1_i, am_k1_r, am_k1_u, am_k1_n, am_bo0, am_bo1, am_boi, am_ev_tb, am_tb_nil, am_rfs, am_rfn, eq_self, and_self, if_true, if_false, show ¬ (1 : Int32) = 0 from by decide, show ¬ (0 : Int32) = 1 from by decide, not_true, not_false_eq_true, and_true, true_and, and_false, false_and, or_true, true_or, or_false, false_or, show am_nn 96 from ⟨by decide, by decide⟩, show (96 : Int32).toNatClampNeg = 96 from rfl, ob_nw ho]
theorem mi_13 (ho : am_ob G h m 9) : am_ev G (d + 1) 130 105 [some (.ref m), none] [] h = am_ev G (d + 1) 130 114 [some (.ref m), none] [] (am_pr (am_new h 20 128 128) m 25 (some (am_top h))) := by
  rw [e_130_105]
  simp only [e_130_106, f_130_109, e_130_111, Option.bind_some, Option.toList_some, Option.toList_none, List.cons_append, List.nil_append, am_k1_i, am_k1_r, am_k1_u, am_k1_n, am_bo0, am_bo1, am_boi, am_ev_tb, am_tb_nil, am_rfs, am_rfn, eq_self, and_self, if_true, if_false, show ¬ (1 : Int32) = 0 from by decide, show ¬ (0 : Int32) = 1 from by decide, not_true, not_false_eq_true, and_true, true_and, and_false, false_and, or_true, true_or, or_false, false_or, show am_nn 128 from ⟨by decide, by decide⟩, show (128 : Int32).toNatClampNeg = 128 from rfl, ob_nw ho]
theorem mi_14 (ho : am_ob G h m 9) : am_ev G (d + 1) 130 114 [some (.ref m), none] [] h = am_ev G (d + 1) 130 122 [some (.ref m), none] [] (am_pr (am_new h 20 100 100) m 26 (some (am_top h))) := by
  rw [e_130_114]
  simp only [e_130_115, f_130_117, e_130_119, Option.bind_some, Option.toList_some, Option.toList_none, List.cons_append, List.nil_append, am_k1_i, am_k1_r, am_k1_u, am_k1_n, am_bo0, am_bo1, am_boi, am_ev_tb, am_tb_nil, am_rfs, am_rfn, eq_self, and_self, if_true, if_false, show ¬ (1 : Int32) = 0 from by decide, show ¬ (0 : Int32) = 1 from by decide, not_true, not_false_eq_true, and_true, true_and, and_false, false_and, or_true, true_or, or_false, false_or, show am_nn 100 from ⟨by decide, by decide⟩, show (100 : Int32).toNatClampNeg = 100 from rfl, ob_nw ho]
theorem mi_15 (ho : am_ob G h m 9) : am_ev G (d + 1) 130 122 [some (.ref m), none] [] h = am_ev G (d + 1) 130 130 [some (.ref m), none] [] (am_pr (am_new h 20 24 24) m 27 (some (am_top h))) := by
  rw [e_130_122]
  simp only [e_130_123, f_130_125, e_130_127, Option.bind_some, Option.toList_some, Option.toList_none, List.cons_append, List.nil_append, am_k1_i, am_k1_r, am_k1_u, am_k1_n, am_bo0, am_bo1, am_boi, am_ev_tb, am_tb_nil, am_rfs, am_rfn, eq_self, and_self, if_true, if_false, show ¬ (1 : Int32) = 0 from by decide, show ¬ (0 : Int32) = 1 from by decide, not_true, not_false_eq_true, and_true, true_and, and_false, false_and, or_true, true_or, or_false, false_or, show am_nn 24 from ⟨by decide, by decide⟩, show (24 : Int32).toNatClampNeg = 24 from rfl, ob_nw ho]
theorem mi_16 (ho : am_ob G h m 9) : am_ev G (d + 1) 130 130 [some (.ref m), none] [] h = am_ev G (d + 1) 130 138 [some (.ref m), none] [] (am_pr (am_new h 20 60 60) m 28 (some (am_top h))) := by
  rw [e_130_130]
  simp only [e_130_131, f_130_133, e_130_135, Option.bind_some, Option.toList_some, Option.toList_none, List.cons_append, List.nil_append, am_k1_i, am_k1_r, am_k1_u, am_k1_n, am_bo0, am_bo1, am_boi, am_ev_tb, am_tb_nil, am_rfs, am_rfn, eq_self, and_self, if_true, if_false, show ¬ (1 : Int32) = 0 from by decide, show ¬ (0 : Int32) = 1 from by decide, not_true, not_false_eq_true, and_true, true_and, and_false, false_and, or_true, true_or, or_false, false_or, show am_nn 60 from ⟨by decide, by decide⟩, show (60 : Int32).toNatClampNeg = 60 from rfl, ob_nw ho]
theorem mi_17 (ho : am_ob G h m 9) : am_ev G (d + 1) 130 138 [some (.ref m), none] [] h = am_ev G (d + 1) 130 146 [some (.ref m), none] [] (am_pr (am_new h 20 60 60) m 30 (some (am_top h))) := by
  rw [e_130_138]
  simp only [e_130_139, f_130_141, e_130_143, Option.bind_some, Option.toList_some, Option.toList_none, List.cons_append, List.nil_append, am_k1_i, am_k1_r, am_k1_u, am_k1_n, am_bo0, am_bo1, am_boi, am_ev_tb, am_tb_nil, am_rfs, am_rfn, eq_self, and_self, if_true, if_false, show ¬ (1 : Int32) = 0 from by decide, show ¬ (0 : Int32) = 1 from by decide, not_true, not_false_eq_true, and_true, true_and, and_false, false_and, or_true, true_or, or_false, false_or, show am_nn 60 from ⟨by decide, by decide⟩, show (60 : Int32).toNatClampNeg = 60 from rfl, ob_nw ho]
theorem mi_ob {k : Nat} (ho : am_ob G h0 m 9) (hm : am_top h0 = m + 1) (M : mi h0 m k h) : am_ob G h m 9 := ⟨⟨ho.1.1, by rw [M.1.1]; omega⟩, by rw [M.2.1.2.1 m (by omega)]; exact ho.2⟩
theorem m_init0 (ho : am_ob G h m 9) (hm : am_top h = m + 1) (hz : am_i h m = fun _ => 0) : ∃ h2, am_evm G (d + 1) 130 [.ref m] h = am_ev G (d + 1) 130 146 [some (.ref m), none] [] h2 ∧ mi h m 18 h2 := by
  have M0 : mi h m 0 h := ⟨⟨by omega, by omega⟩, am_ex.rf, fun q hq => (by cases hq), fun j h1 h2 => by omega, hz⟩
  have e0 : am_evm G (d + 1) 130 [.ref m] h = am_ev G (d + 1) 130 4 [some (.ref m), none] [] h := by
    simp only [n_130, e_130_0, e_130_1, Option.bind_some, Option.toList_some, Option.toList_none, List.cons_append, List.nil_append, am_k1_i, am_k1_r, am_k1_u, am_k1_n, am_bo0, am_bo1, am_boi, am_ev_tb, am_tb_nil, am_rfs, am_rfn, eq_self]
  have hm' : m < am_top h := by omega
  have e1 := mi_0 (d := d) (mi_ob ho hm M0)
  have M1 := mi_st (f := 0) (n := 3114) hm' M0 (by decide) (by decide) (by omega)
  have e2 := mi_1 (d := d) (mi_ob ho hm M1)
  have M2 := mi_st (f := 1) (n := 3114) hm' M1 (by decide) (by decide) (by omega)
  have e3 := mi_2 (d := d) (mi_ob ho hm M2)
  have M3 := mi_st (f := 2) (n := 3114) hm' M2 (by decide) (by decide) (by omega)
  have e4 := mi_3 (d := d) (mi_ob ho hm M3)
  have M4 := mi_st (f := 4) (n := 4) hm' M3 (by decide) (by decide) (by omega)
  have e5 := mi_4 (d := d) (mi_ob ho hm M4)
  have M5 := mi_st (f := 5) (n := 4) hm' M4 (by decide) (by decide) (by omega)
  have e6 := mi_5 (d := d) (mi_ob ho hm M5)
  have M6 := mi_st (f := 6) (n := 96) hm' M5 (by decide) (by decide) (by omega)
  have e7 := mi_6 (d := d) (mi_ob ho hm M6)
  have M7 := mi_st (f := 7) (n := 5) hm' M6 (by decide) (by decide) (by omega)
  have e8 := mi_7 (d := d) (mi_ob ho hm M7)
  have M8 := mi_st (f := 8) (n := 5) hm' M7 (by decide) (by decide) (by omega)
  have e9 := mi_8 (d := d) (mi_ob ho hm M8)
  have M9 := mi_st (f := 9) (n := 5) hm' M8 (by decide) (by decide) (by omega)
  have e10 := mi_9 (d := d) (mi_ob ho hm M9)
  have M10 := mi_st (f := 10) (n := 5) hm' M9 (by decide) (by decide) (by omega)
  have e11 := mi_10 (d := d) (mi_ob ho hm M10)
  have M11 := mi_st (f := 11) (n := 120) hm' M10 (by decide) (by decide) (by omega)
  have e12 := mi_11 (d := d) (mi_ob ho hm M11)
  have M12 := mi_st (f := 12) (n := 12) hm' M11 (by decide) (by decide) (by omega)
  have e13 := mi_12 (d := d) (mi_ob ho hm M12)
  have M13 := mi_st (f := 13) (n := 96) hm' M12 (by decide) (by decide) (by omega)
  have e14 := mi_13 (d := d) (mi_ob ho hm M13)
  have M14 := mi_st (f := 25) (n := 128) hm' M13 (by decide) (by decide) (by omega)
  have e15 := mi_14 (d := d) (mi_ob ho hm M14)
  have M15 := mi_st (f := 26) (n := 100) hm' M14 (by decide) (by decide) (by omega)
  have e16 := mi_15 (d := d) (mi_ob ho hm M15)
  have M16 := mi_st (f := 27) (n := 24) hm' M15 (by decide) (by decide) (by omega)
  have e17 := mi_16 (d := d) (mi_ob ho hm M16)
  have M17 := mi_st (f := 28) (n := 60) hm' M16 (by decide) (by decide) (by omega)
  have e18 := mi_17 (d := d) (mi_ob ho hm M17)
  have M18 := mi_st (f := 30) (n := 60) hm' M17 (by decide) (by decide) (by omega)
  refine ⟨_, ?_, M18⟩
  rw [e0, e1, e2, e3, e4, e5, e6, e7, e8, e9, e10, e11, e12, e13, e14, e15, e16, e17, e18]
theorem mi_lay (ho : am_ob G h0 m 9) (hm : am_top h0 = m + 1) (M : mi h0 m 18 h) : cm_Lay G h m := by
  have o2 := mi_ob ho hm M
  refine ⟨⟨o2.1.1, by rw [M.1.1]; omega, o2.2⟩, fun q hq => M.2.2.1 q hq⟩
theorem m_init_l {g : Nat → Int32} (l : cm_Lay G h m) : ∀ j q, q + j = 4 → am_ev G (d + 1) 130 162 [some (.ref m), some (.int (nI q))] [] (am_pa h (m + 4) (fun k => if k < q then -1 else g k)) = some (none, am_pa h (m + 4) (fun k => if k < 4 then -1 else g k)) := by
  intro j
  induction j with
  | zero =>
    intro q hq
    obtain rfl : q = 4 := by omega
    rw [e_130_162]
    simp only [n_130, e_130_0, e_130_1, e_130_4, e_130_5, f_130_8, e_130_10, e_130_13, e_130_14, f_130_17, e_130_19, e_130_22, e_130_23, f_130_26, e_130_28, e_130_31, e_130_32, f_130_33, e_130_35, e_130_38, e_130_39, f_130_40, e_130_42, e_130_45, e_130_46, f_130_48, e_130_50, e_130_53, e_130_54, f_130_55, e_130_57, e_130_60, e_130_61, f_130_62, e_130_64, e_130_67, e_130_68, f_130_69, e_130_71, e_130_74, e_130_75, f_130_76, e_130_78, e_130_81, e_130_82, f_130_84, e_130_86, e_130_89, e_130_90, f_130_92, e_130_94, e_130_97, e_130_98, f_130_100, e_130_102, e_130_105, e_130_106, f_130_109, e_130_111, e_130_114, e_130_115, f_130_117, e_130_119, e_130_122, e_130_123, f_130_125, e_130_127, e_130_130, e_130_131, f_130_133, e_130_135, e_130_138, e_130_139, f_130_141, e_130_143, e_130_146, e_130_147, e_130_150, e_130_151, e_130_152, e_130_153, e_130_154, e_130_157, e_130_158, e_130_159, e_130_160, f_130_161, e_130_163, e_130_164, e_130_167, e_130_168, e_130_171, e_130_172, e_130_173, f_130_174, e_130_177, e_130_180, Option.bind_some, Option.toList_some, Option.toList_none, List.cons_append, List.nil_append, am_k1_i, am_k1_r, am_k1_u, am_k1_n, am_bo0, am_bo1, am_boi, am_ev_tb, am_tb_nil, am_rfs, am_rfn, eq_self, and_self, if_true, if_false, show ¬ (1 : Int32) = 0 from by decide, show ¬ (0 : Int32) = 1 from by decide, not_true, not_false_eq_true, and_true, true_and, and_false, false_and, or_true, true_or, or_false, false_or, show (4 : Int32) ≤ nI 4 from by decide]
  | succ j ih =>
    intro q hq
    have hlt : ¬ (4 : Int32) ≤ nI q := nI_ge (b := 4) (by omega) (by decide)
    have l2 := cm_Lay.pa (a := m + 4) (g := fun k => if k < q then -1 else g k) l
    rw [e_130_162]
    simp only [n_130, e_130_0, e_130_1, e_130_4, e_130_5, f_130_8, e_130_10, e_130_13, e_130_14, f_130_17, e_130_19, e_130_22, e_130_23, f_130_26, e_130_28, e_130_31, e_130_32, f_130_33, e_130_35, e_130_38, e_130_39, f_130_40, e_130_42, e_130_45, e_130_46, f_130_48, e_130_50, e_130_53, e_130_54, f_130_55, e_130_57, e_130_60, e_130_61, f_130_62, e_130_64, e_130_67, e_130_68, f_130_69, e_130_71, e_130_74, e_130_75, f_130_76, e_130_78, e_130_81, e_130_82, f_130_84, e_130_86, e_130_89, e_130_90, f_130_92, e_130_94, e_130_97, e_130_98, f_130_100, e_130_102, e_130_105, e_130_106, f_130_109, e_130_111, e_130_114, e_130_115, f_130_117, e_130_119, e_130_122, e_130_123, f_130_125, e_130_127, e_130_130, e_130_131, f_130_133, e_130_135, e_130_138, e_130_139, f_130_141, e_130_143, e_130_146, e_130_147, e_130_150, e_130_151, e_130_152, e_130_153, e_130_154, e_130_157, e_130_158, e_130_159, e_130_160, f_130_161, e_130_163, e_130_164, e_130_167, e_130_168, e_130_171, e_130_172, e_130_173, f_130_174, e_130_177, e_130_180, Option.bind_some, Option.toList_some, Option.toList_none, List.cons_append, List.nil_append, am_k1_i, am_k1_r, am_k1_u, am_k1_n, am_bo0, am_bo1, am_boi, am_ev_tb, am_tb_nil, am_rfs, am_rfn, eq_self, and_self, if_true, if_false, show ¬ (1 : Int32) = 0 from by decide, show ¬ (0 : Int32) = 1 from by decide, not_true, not_false_eq_true, and_true, true_and, and_false, false_and, or_true, true_or, or_false, false_or, hlt, cm_ob l2, cm_r4 l2, cm_iw4 l2 (show q < 4 by omega), am_cl (show q < 2147483648 by omega), nI_1]
    rw [am_pi_pa, am_pa_i, if_pos rfl, am_pa_pa]
    have e : upd (fun k => if k < q then -1 else g k) q (-1) = fun k => if k < q + 1 then (-1 : Int32) else g k := by
      funext k
      by_cases z : k = q
      · rw [z, pk_us, if_pos (by omega)]
      · rw [pk_un z]
        by_cases z2 : k < q
        · rw [if_pos z2, if_pos (by omega)]
        · rw [if_neg z2, if_neg (by omega)]
    rw [e]
    exact ih (q + 1) (by omega)
/-- the reference made at m -/
theorem m_init (ho : am_ob G h m 9) (hm : am_top h = m + 1) (hz : am_i h m = fun _ => 0) : ∃ h2, am_evm G (d + 1) 130 [.ref m] h = some (none, h2) ∧ (am_top h2 = m + 19 ∧ am_sl h2 ≤ am_sl h + 56052) ∧ am_ex (fun b => b = m) h h2 ∧ cm_Lay G h2 m ∧ (am_i h2 m = fun _ => 0) ∧ (am_i h2 (m + 1) = fun k => if k = 4 then 1 else if k = 3 then 2 else 0) ∧ (∀ k, k < 4 → am_i h2 (m + 4) k = -1) ∧ ∀ j, 2 ≤ j → j ≤ 18 → j ≠ 4 → am_i h2 (m + j) = fun _ => 0 := by
  obtain ⟨h1, e1, M⟩ := m_init0 (d := d) ho hm hz
  have l := mi_lay ho hm M
  obtain ⟨⟨t, s⟩, x, r, i, i0⟩ := M
  have w3 : am_iw G h1 (m + 1) 3 := cm_iw1 l (show 3 < 3114 by omega)
  have w4 : am_iw G h1 (m + 1) 4 := cm_iw1 l (show 4 < 3114 by omega)
  have l2 : cm_Lay G (am_pi (am_pi h1 (m + 1) 3 2) (m + 1) 4 1) m := l
  have el := m_init_l (d := d) (g := fun _ => 0) l2 4 0 (by omega)
  rw [am_pa_self2 (show am_i (am_pi (am_pi h1 (m + 1) 3 2) (m + 1) 4 1) (m + 4) = (fun k => if k < 0 then (-1 : Int32) else 0) from by
    rw [(am_pi_o _ (by omega)).1, (am_pi_o _ (by omega)).1, i 4 (by omega) (by omega)]
    funext k
    rw [if_neg (Nat.not_lt_zero k)])] at el
  refine ⟨am_pa (am_pi (am_pi h1 (m + 1) 3 2) (m + 1) 4 1) (m + 4) (fun k => if k < 4 then -1 else 0), ?_, ⟨t, ?_⟩, ?_, l2, ?_, ?_, fun k hk => ?_, fun j h1 h2 h3 => ?_⟩
  · rw [e1, ← el, e_130_146]
    simp only [n_130, e_130_0, e_130_1, e_130_4, e_130_5, f_130_8, e_130_10, e_130_13, e_130_14, f_130_17, e_130_19, e_130_22, e_130_23, f_130_26, e_130_28, e_130_31, e_130_32, f_130_33, e_130_35, e_130_38, e_130_39, f_130_40, e_130_42, e_130_45, e_130_46, f_130_48, e_130_50, e_130_53, e_130_54, f_130_55, e_130_57, e_130_60, e_130_61, f_130_62, e_130_64, e_130_67, e_130_68, f_130_69, e_130_71, e_130_74, e_130_75, f_130_76, e_130_78, e_130_81, e_130_82, f_130_84, e_130_86, e_130_89, e_130_90, f_130_92, e_130_94, e_130_97, e_130_98, f_130_100, e_130_102, e_130_105, e_130_106, f_130_109, e_130_111, e_130_114, e_130_115, f_130_117, e_130_119, e_130_122, e_130_123, f_130_125, e_130_127, e_130_130, e_130_131, f_130_133, e_130_135, e_130_138, e_130_139, f_130_141, e_130_143, e_130_147, e_130_150, e_130_151, e_130_152, e_130_153, e_130_154, e_130_157, e_130_158, e_130_159, e_130_160, f_130_161, e_130_163, e_130_164, e_130_167, e_130_168, e_130_171, e_130_172, e_130_173, f_130_174, e_130_177, e_130_180, Option.bind_some, Option.toList_some, Option.toList_none, List.cons_append, List.nil_append, am_k1_i, am_k1_r, am_k1_u, am_k1_n, am_bo0, am_bo1, am_boi, am_ev_tb, am_tb_nil, am_rfs, am_rfn, eq_self, and_self, if_true, if_false, show ¬ (1 : Int32) = 0 from by decide, show ¬ (0 : Int32) = 1 from by decide, not_true, not_false_eq_true, and_true, true_and, and_false, false_and, or_true, true_or, or_false, false_or, cm_ob l, cm_r0 l, w3, w4, am_iw_pi, am_pi_r, am_ob_pi, show (3 : Int32).toNatClampNeg = 3 from rfl, show (4 : Int32).toNatClampNeg = 4 from rfl]
    rfl
  · show am_sl h1 ≤ _; omega
  · refine ⟨by show am_top h ≤ am_top h1; omega, x.2.1, fun b hb hx => ?_⟩
    obtain ⟨z1, z2⟩ := x.2.2 b hb hx
    refine ⟨?_, z2⟩
    rw [am_pa_i, if_neg (by omega), (am_pi_o _ (by omega)).1, (am_pi_o _ (by omega)).1]
    exact z1
  · rw [am_pa_i, if_neg (by omega), (am_pi_o _ (by omega)).1, (am_pi_o _ (by omega)).1]
    exact i0
  · rw [am_pa_i, if_neg (by omega)]
    funext k
    rw [am_pi_i]
    by_cases z : k = 4
    · rw [if_pos ⟨rfl, z⟩, if_pos z]
    · rw [if_neg (fun q => z q.2), if_neg z, am_pi_i]
      by_cases z3 : k = 3
      · rw [if_pos ⟨rfl, z3⟩, if_pos z3]
      · rw [if_neg (fun q => z3 q.2), if_neg z3, i 1 (by omega) (by omega)]
  · rw [am_pa_i, if_pos rfl, if_pos hk]
  · rw [am_pa_i, if_neg (by omega), (am_pi_o _ (by omega)).1, (am_pi_o _ (by omega)).1]
    exact i j (by omega) h2
end IM
