/-! the class: a hall's small methods -/
section CH
variable {G : Nat → Nat} {d : Nat} {h : am_H} {a : Nat}
theorem c_bitCount_eq : ∀ x : BitVec 12, True := fun _ => trivial
theorem c_hasPerson (l : cl_Hall G h a) {v : Int32} : am_evm G (d + 1) 7 [.ref a, .int v] h = some (some (.int (if 0 ≤ v ∧ v ≤ am_i h a 5 - 1 then 1 else 0)), h) := by
  simp only [n_7, e_7_0, e_7_1, e_7_2, e_7_3, e_7_6, e_7_7, e_7_8, f_7_11, Option.bind_some, Option.toList_some, Option.toList_none, List.cons_append, List.nil_append, am_k1_i, am_k1_r, am_k1_u, am_k1_n, am_bo0, am_bo1, am_boi, am_ev_tb, am_tb_nil, am_rfs, am_rfn, eq_self, ha_ob l, c_within]
theorem c_hasDeed (l : cl_Hall G h a) {v : Int32} : am_evm G (d + 1) 9 [.ref a, .int v] h = some (some (.int (if 0 ≤ v ∧ v ≤ am_i h a 6 - 1 then 1 else 0)), h) := by
  simp only [n_9, e_9_0, e_9_1, e_9_2, e_9_3, e_9_6, e_9_7, e_9_8, f_9_11, Option.bind_some, Option.toList_some, Option.toList_none, List.cons_append, List.nil_append, am_k1_i, am_k1_r, am_k1_u, am_k1_n, am_bo0, am_bo1, am_boi, am_ev_tb, am_tb_nil, am_rfs, am_rfn, eq_self, ha_ob l, c_within]
theorem c_hasTwo (l : cl_Hall G h a) {v w : Int32} : am_evm G (d + 2) 8 [.ref a, .int v, .int w] h = some (some (.int (if (0 ≤ v ∧ v ≤ am_i h a 5 - 1) ∧ (0 ≤ w ∧ w ≤ am_i h a 5 - 1) ∧ ¬ v = w then 1 else 0)), h) := by
  simp only [n_8, e_8_0, e_8_1, e_8_2, e_8_5, e_8_8, e_8_9, e_8_10, e_8_13, e_8_16, e_8_17, e_8_18, e_8_21, e_8_22, f_8_26, e_8_25, Option.bind_some, Option.toList_some, Option.toList_none, List.cons_append, List.nil_append, am_k1_i, am_k1_r, am_k1_u, am_k1_n, am_bo0, am_bo1, am_boi, am_ev_tb, am_tb_nil, am_rfs, am_rfn, eq_self, ha_ob l, c_hasPerson l]
  by_cases h1 : 0 ≤ v ∧ v ≤ am_i h a 5 - 1
  · by_cases h2 : 0 ≤ w ∧ w ≤ am_i h a 5 - 1
    · by_cases h3 : v = w
      · simp [h1, h2, h3, Option.bind_some, Option.toList_some, Option.toList_none, List.cons_append, List.nil_append, am_k1_i, am_k1_r, am_k1_u, am_k1_n, am_bo0, am_bo1, am_boi, am_ev_tb, am_tb_nil, am_rfs, am_rfn, eq_self, e_8_0, e_8_1, e_8_2, e_8_5, e_8_8, e_8_9, e_8_10, e_8_13, e_8_16, e_8_17, e_8_18, e_8_21, e_8_22, f_8_26, e_8_25]
      · simp [h1, h2, h3, Option.bind_some, Option.toList_some, Option.toList_none, List.cons_append, List.nil_append, am_k1_i, am_k1_r, am_k1_u, am_k1_n, am_bo0, am_bo1, am_boi, am_ev_tb, am_tb_nil, am_rfs, am_rfn, eq_self, e_8_0, e_8_1, e_8_2, e_8_5, e_8_8, e_8_9, e_8_10, e_8_13, e_8_16, e_8_17, e_8_18, e_8_21, e_8_22, f_8_26, e_8_25]
    · simp [h1, h2, Option.bind_some, Option.toList_some, Option.toList_none, List.cons_append, List.nil_append, am_k1_i, am_k1_r, am_k1_u, am_k1_n, am_bo0, am_bo1, am_boi, am_ev_tb, am_tb_nil, am_rfs, am_rfn, eq_self, e_8_0, e_8_1, e_8_2, e_8_5, e_8_8, e_8_9, e_8_10, e_8_13, e_8_16, e_8_17, e_8_18, e_8_21, e_8_22, f_8_26, e_8_25]
  · simp [h1, Option.bind_some, Option.toList_some, Option.toList_none, List.cons_append, List.nil_append, am_k1_i, am_k1_r, am_k1_u, am_k1_n, am_bo0, am_bo1, am_boi, am_ev_tb, am_tb_nil, am_rfs, am_rfn, eq_self, e_8_0, e_8_1, e_8_2, e_8_5, e_8_8, e_8_9, e_8_10, e_8_13, e_8_16, e_8_17, e_8_18, e_8_21, e_8_22, f_8_26, e_8_25]
theorem c_everyone (l : cl_Hall G h a) : am_evm G d 11 [.ref a] h = some (some (.int (mt_every (am_i h a 5))), h) := by
  simp only [n_11, e_11_0, e_11_1, e_11_2, e_11_5, e_11_6, e_11_7, e_11_8, Option.bind_some, Option.toList_some, Option.toList_none, List.cons_append, List.nil_append, am_k1_i, am_k1_r, am_k1_u, am_k1_n, am_bo0, am_bo1, am_boi, am_ev_tb, am_tb_nil, am_rfs, am_rfn, eq_self, ha_ob l, mt_every]
theorem c_leftOn (l : cl_Hall G h a) {p : Nat} (hp : p < 8) : am_evm G (d + 1) 19 [.ref a, .ref (a + 18 + p)] h = some (some (.int (mt_every (am_i h a 5) &&& (am_i h (a + 18 + p) 3 ^^^ (-1)))), h) := by
  simp only [n_19, e_19_0, e_19_1, e_19_4, e_19_5, e_19_8, e_19_9, e_19_10, e_19_11, Option.bind_some, Option.toList_some, Option.toList_none, List.cons_append, List.nil_append, am_k1_i, am_k1_r, am_k1_u, am_k1_n, am_bo0, am_bo1, am_boi, am_ev_tb, am_tb_nil, am_rfs, am_rfn, eq_self, ha_ob l, ha_d3 l hp, c_everyone l]
theorem c_goersBy (l : cl_Hall G h a) {p : Nat} (hp : p < 12) : am_evm G (d + 1) 18 [.ref a, .int (nI p)] h = some (some (.int (am_i h (a + 6 + p) 5 ||| (1 : Int32) <<< (nI p &&& 31))), h) := by
  have h1 : (0 : Int32) ≤ nI p ∧ nI p ≤ 11 := ⟨nI_pos' (by omega), nI_le (b := 11) (by omega) (by decide)⟩
  simp only [n_18, e_18_0, e_18_1, e_18_2, e_18_4, e_18_7, e_18_10, e_18_11, e_18_14, e_18_15, e_18_16, e_18_19, e_18_20, e_18_21, e_18_22, e_18_23, e_18_27, e_18_26, Option.bind_some, Option.toList_some, Option.toList_none, List.cons_append, List.nil_append, am_k1_i, am_k1_r, am_k1_u, am_k1_n, am_bo0, am_bo1, am_boi, am_ev_tb, am_tb_nil, am_rfs, am_rfn, eq_self, c_within, h1, and_self, if_true, show ¬ (1 : Int32) = 0 from by decide, if_false, ha_ob l, ha_r0 l, ha_p1 l hp, am_cl (show p < 2147483648 by omega), ha_p2 l hp, ha_p3 l hp]
theorem c_draw (l : cl_Hall G h a) : am_evm G d 15 [.ref a] h = some (some (.int (((am_i h a 9 * 1103515245 + 12345).toUInt32 >>> ((8 : Int32).toUInt32 &&& Int32.toUInt32 31)).toInt32)), am_pi h a 9 (am_i h a 9 * 1103515245 + 12345)) := by
  simp only [n_15, e_15_0, e_15_1, e_15_2, e_15_5, e_15_7, e_15_8, e_15_11, e_15_12, e_15_15, e_15_16, e_15_19, e_15_21, e_15_22, Option.bind_some, Option.toList_some, Option.toList_none, List.cons_append, List.nil_append, am_k1_i, am_k1_r, am_k1_u, am_k1_n, am_bo0, am_bo1, am_boi, am_ev_tb, am_tb_nil, am_rfs, am_rfn, eq_self, ha_ob l, am_ob_pi, am_pi_i, and_self, if_true]
theorem c_takeSaying (l : cl_Hall G h a) {p : Nat} (hp : p < 8) {g : Int32} : am_evm G d 4 [.ref (a + 18 + p), .int g] h = some (none, if g &&& am_i h (a + 18 + p) 0 = 0 then am_pi (am_pi h (a + 18 + p) 3 (am_i h (a + 18 + p) 3 ||| g)) (a + 18 + p) 4 (am_i h (a + 18 + p) 4 + 1) else am_pi (am_pi (am_pi h (a + 18 + p) 3 (am_i h (a + 18 + p) 3 ||| g)) (a + 18 + p) 4 (am_i h (a + 18 + p) 4 + 1)) (a + 18 + p) 5 (am_i h (a + 18 + p) 5 + 1)) := by
  simp only [n_4, e_4_0, e_4_1, e_4_2, e_4_5, e_4_6, e_4_7, e_4_10, e_4_11, e_4_12, e_4_15, e_4_16, e_4_17, e_4_20, e_4_21, e_4_22, e_4_25, e_4_26, e_4_29, e_4_30, e_4_31, e_4_34, e_4_35, e_4_36, e_4_39, Option.bind_some, Option.toList_some, Option.toList_none, List.cons_append, List.nil_append, am_k1_i, am_k1_r, am_k1_u, am_k1_n, am_bo0, am_bo1, am_boi, am_ev_tb, am_tb_nil, am_rfs, am_rfn, eq_self, ha_d3 l hp, am_ob_pi, am_pi_i, true_and, show ¬ (4 : Nat) = 3 from by decide, show ¬ (0 : Nat) = 4 from by decide, show ¬ (0 : Nat) = 3 from by decide, show ¬ (5 : Nat) = 4 from by decide, show ¬ (5 : Nat) = 3 from by decide, if_false]
  split <;> rfl
theorem c_beginD (l : cl_Hall G h a) {p : Nat} (hp : p < 8) : am_evm G d 2 [.ref (a + 18 + p)] h = some (none, am_pi (am_pi (am_pi h (a + 18 + p) 3 0) (a + 18 + p) 4 0) (a + 18 + p) 5 0) := by
  simp only [n_2, e_2_0, e_2_1, e_2_2, e_2_5, e_2_6, e_2_7, e_2_10, e_2_11, e_2_12, e_2_15, Option.bind_some, Option.toList_some, Option.toList_none, List.cons_append, List.nil_append, am_k1_i, am_k1_r, am_k1_u, am_k1_n, am_bo0, am_bo1, am_boi, am_ev_tb, am_tb_nil, am_rfs, am_rfn, eq_self, ha_d3 l hp, am_ob_pi]
theorem c_worth {b : Nat} (ho : am_ob G h b 2) : am_evm G d 40 [.ref b] h = some (some (.int (mt_worth (am_i h b 0) (am_i h b 1))), h) := by
  simp only [n_40, e_40_0, e_40_1, e_40_4, e_40_83, e_40_84, e_40_87, e_40_75, e_40_77, e_40_78, e_40_81, e_40_82, e_40_64, e_40_66, e_40_67, e_40_70, e_40_71, e_40_73, e_40_74, e_40_47, e_40_48, e_40_49, e_40_52, e_40_53, e_40_54, e_40_55, e_40_56, e_40_58, e_40_59, e_40_62, e_40_63, e_40_40, e_40_41, e_40_44, e_40_45, e_40_46, Option.bind_some, Option.toList_some, Option.toList_none, List.cons_append, List.nil_append, am_k1_i, am_k1_r, am_k1_u, am_k1_n, am_bo0, am_bo1, am_boi, am_ev_tb, am_tb_nil, am_rfs, am_rfn, eq_self, ho]
  unfold mt_worth
  generalize am_i h b 0 = k
  by_cases h1 : k = 1
  · subst h1; simp
  by_cases h2 : k = 2
  · subst h2; simp
  by_cases h3 : k = 3
  · subst h3; simp
  by_cases h4 : k = 4
  · subst h4
    simp
    rw [show (93 : Int32) = 100 - 7 from by decide]
    apply Int32.toBitVec_inj.mp
    simp only [Int32.toBitVec_sub]
    bv_omega
  by_cases h5 : k = 5
  · subst h5; simp
  simp only [h1, h2, h3, h4, h5, if_false]
end CH
