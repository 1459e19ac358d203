/-! the law, call by call -/
section LC
variable {G : Nat → Nat} {d : Nat} {h h2 : am_H} {o m b L q : Nat} {xs : Nat → Int32}
def sc (G : Nat → Nat) (h : am_H) (b L : Nat) (xs : Nat → Int32) : Prop := b < G 0 ∧ am_sh h b = (30, L) ∧ am_i h b = xs
theorem sc.lw (s : sc G h b L xs) (hG : G 0 ≤ am_top h) (w : am_lw G h h2) : sc G h2 b L xs := ⟨s.1, by rw [w.2.1 b (by have := s.1; omega)]; exact s.2.1, by rw [w.2.2 b s.1]; exact s.2.2⟩
theorem sc.ia (s : sc G h b L xs) {j : Nat} (hj : j < L) (hL : L ≤ 3072) : am_ia G h b (nI j) := ⟨Or.inr ⟨s.1, by rw [s.2.1]⟩, by rw [s.2.1]; exact nI_in hj (by omega)⟩
theorem ob_lw {x c : Nat} (ho : am_ob G h x c) (w : am_lw G h h2) : am_ob G h2 x c := ⟨⟨ho.1.1, Nat.lt_of_lt_of_le ho.1.2 w.1⟩, by rw [w.2.1 x ho.1.2]; exact ho.2⟩
def lc (G : Nat → Nat) (h : am_H) (o m d b L q pc : Nat) (xs : Nat → Int32) : Prop := ∃ h3, am_ev G (d + 201) 0 pc [some (.ref b), some (.ref o), some (.ref m), some (.int (nI q))] [] h = am_ev G (d + 201) 0 1503 [some (.ref b), some (.ref o), some (.ref m), some (.int (nI q))] [] h3 ∧ iv G h3 o m ∧ sc G h3 b L xs ∧ am_top h3 ≤ am_top h + 2 ∧ am_sl h3 ≤ am_sl h + 120
theorem law_0 (i : iv G h o m) (s : sc G h b L xs) (hq : q + 6 ≤ L) (hL : L ≤ 3072) : lc G h o m d b L q 216 xs := by
  have hG : G 0 ≤ am_top h := by have := i.1.1.1; have := i.1.2.2.1.1.2.1; omega
  have S : sm G h o m d 74 146 [.int (xs (q + 1)), .int (xs (q + 2))] := s_person i
  obtain ⟨v, h2, h3, e1, e2, i3, t3, l3⟩ := S
  have w1 := am_evm_lw hG e1
  have s2 := s.lw hG w1
  have hG2 : G 0 ≤ am_top h2 := Nat.le_trans hG w1.1
  have s3 := s2.lw hG2 (am_evm_lw hG2 e2)
  refine ⟨h3, ?_, i3, s3, t3, l3⟩
  have ox : am_ob G h o 8 := co_ob i.1.2.2.1
  have om : am_ob G h2 m 9 := ob_lw (cm_ob i.1.2.1) w1
  have a1 : nI q + 1 = nI (q + 1) := nI_add q 1
  have sa1 := s.ia (show q + 1 < L by omega) hL
  have s2a1 := s2.ia (show q + 1 < L by omega) hL
  have a2 : nI q + 2 = nI (q + 2) := nI_add q 2
  have sa2 := s.ia (show q + 2 < L by omega) hL
  have s2a2 := s2.ia (show q + 2 < L by omega) hL
  have c := s.2.2
  have c2 := s2.2.2
  rw [e_0_216]
  simp only [e_0_217, e_0_218, e_0_219, e_0_220, e_0_221, e_0_222, e_0_223, e_0_224, e_0_225, e_0_226, e_0_227, e_0_230, e_0_231, e_0_232, e_0_233, e_0_234, e_0_235, e_0_236, e_0_237, e_0_238, e_0_239, e_0_240, e_0_241, e_0_244, e_0_247, f_0_248, Option.bind_some, Option.toList_some, Option.toList_none, List.cons_append, List.nil_append, am_k1_i, am_k1_r, am_k1_u, am_k1_n, am_bo0, am_bo1, am_boi, am_ev_tb, am_tb_nil, am_rfs, am_rfn, eq_self, and_self, if_true, if_false, show ¬ (1 : Int32) = 0 from by decide, show ¬ (0 : Int32) = 1 from by decide, not_true, not_false_eq_true, and_true, true_and, and_false, false_and, or_true, true_or, or_false, false_or, a1, sa1, s2a1, am_cl (show q + 1 < 2147483648 by omega), a2, sa2, s2a2, am_cl (show q + 2 < 2147483648 by omega), c, c2, ox, om, e1, e2]
theorem law_1 (i : iv G h o m) (s : sc G h b L xs) (hq : q + 6 ≤ L) (hL : L ≤ 3072) : lc G h o m d b L q 249 xs := by
  have hG : G 0 ≤ am_top h := by have := i.1.1.1; have := i.1.2.2.1.1.2.1; omega
  have S : sm G h o m d 75 151 [.int (xs (q + 1)), .int (xs (q + 2))] := s_told i
  obtain ⟨v, h2, h3, e1, e2, i3, t3, l3⟩ := S
  have w1 := am_evm_lw hG e1
  have s2 := s.lw hG w1
  have hG2 : G 0 ≤ am_top h2 := Nat.le_trans hG w1.1
  have s3 := s2.lw hG2 (am_evm_lw hG2 e2)
  refine ⟨h3, ?_, i3, s3, t3, l3⟩
  have ox : am_ob G h o 8 := co_ob i.1.2.2.1
  have om : am_ob G h2 m 9 := ob_lw (cm_ob i.1.2.1) w1
  have a1 : nI q + 1 = nI (q + 1) := nI_add q 1
  have sa1 := s.ia (show q + 1 < L by omega) hL
  have s2a1 := s2.ia (show q + 1 < L by omega) hL
  have a2 : nI q + 2 = nI (q + 2) := nI_add q 2
  have sa2 := s.ia (show q + 2 < L by omega) hL
  have s2a2 := s2.ia (show q + 2 < L by omega) hL
  have c := s.2.2
  have c2 := s2.2.2
  rw [e_0_249]
  simp only [e_0_250, e_0_251, e_0_252, e_0_253, e_0_254, e_0_255, e_0_256, e_0_257, e_0_258, e_0_259, e_0_260, e_0_263, e_0_264, e_0_265, e_0_266, e_0_267, e_0_268, e_0_269, e_0_270, e_0_271, e_0_272, e_0_273, e_0_274, e_0_277, e_0_280, f_0_281, Option.bind_some, Option.toList_some, Option.toList_none, List.cons_append, List.nil_append, am_k1_i, am_k1_r, am_k1_u, am_k1_n, am_bo0, am_bo1, am_boi, am_ev_tb, am_tb_nil, am_rfs, am_rfn, eq_self, and_self, if_true, if_false, show ¬ (1 : Int32) = 0 from by decide, show ¬ (0 : Int32) = 1 from by decide, not_true, not_false_eq_true, and_true, true_and, and_false, false_and, or_true, true_or, or_false, false_or, a1, sa1, s2a1, am_cl (show q + 1 < 2147483648 by omega), a2, sa2, s2a2, am_cl (show q + 2 < 2147483648 by omega), c, c2, ox, om, e1, e2]
theorem law_2 (i : iv G h o m) (s : sc G h b L xs) (hq : q + 6 ≤ L) (hL : L ≤ 3072) : lc G h o m d b L q 282 xs := by
  have hG : G 0 ≤ am_top h := by have := i.1.1.1; have := i.1.2.2.1.1.2.1; omega
  have S : sm G h o m d 76 153 [.int (xs (q + 1)), .int (xs (q + 2))] := s_as i
  obtain ⟨v, h2, h3, e1, e2, i3, t3, l3⟩ := S
  have w1 := am_evm_lw hG e1
  have s2 := s.lw hG w1
  have hG2 : G 0 ≤ am_top h2 := Nat.le_trans hG w1.1
  have s3 := s2.lw hG2 (am_evm_lw hG2 e2)
  refine ⟨h3, ?_, i3, s3, t3, l3⟩
  have ox : am_ob G h o 8 := co_ob i.1.2.2.1
  have om : am_ob G h2 m 9 := ob_lw (cm_ob i.1.2.1) w1
  have a1 : nI q + 1 = nI (q + 1) := nI_add q 1
  have sa1 := s.ia (show q + 1 < L by omega) hL
  have s2a1 := s2.ia (show q + 1 < L by omega) hL
  have a2 : nI q + 2 = nI (q + 2) := nI_add q 2
  have sa2 := s.ia (show q + 2 < L by omega) hL
  have s2a2 := s2.ia (show q + 2 < L by omega) hL
  have c := s.2.2
  have c2 := s2.2.2
  rw [e_0_282]
  simp only [e_0_283, e_0_284, e_0_285, e_0_286, e_0_287, e_0_288, e_0_289, e_0_290, e_0_291, e_0_292, e_0_293, e_0_296, e_0_297, e_0_298, e_0_299, e_0_300, e_0_301, e_0_302, e_0_303, e_0_304, e_0_305, e_0_306, e_0_307, e_0_310, e_0_313, f_0_314, Option.bind_some, Option.toList_some, Option.toList_none, List.cons_append, List.nil_append, am_k1_i, am_k1_r, am_k1_u, am_k1_n, am_bo0, am_bo1, am_boi, am_ev_tb, am_tb_nil, am_rfs, am_rfn, eq_self, and_self, if_true, if_false, show ¬ (1 : Int32) = 0 from by decide, show ¬ (0 : Int32) = 1 from by decide, not_true, not_false_eq_true, and_true, true_and, and_false, false_and, or_true, true_or, or_false, false_or, a1, sa1, s2a1, am_cl (show q + 1 < 2147483648 by omega), a2, sa2, s2a2, am_cl (show q + 2 < 2147483648 by omega), c, c2, ox, om, e1, e2]
theorem law_3 (i : iv G h o m) (s : sc G h b L xs) (hq : q + 6 ≤ L) (hL : L ≤ 3072) : lc G h o m d b L q 315 xs := by
  have hG : G 0 ≤ am_top h := by have := i.1.1.1; have := i.1.2.2.1.1.2.1; omega
  have S : sm G h o m d 77 154 [.int (xs (q + 1)), .int (xs (q + 2))] := s_turns i
  obtain ⟨v, h2, h3, e1, e2, i3, t3, l3⟩ := S
  have w1 := am_evm_lw hG e1
  have s2 := s.lw hG w1
  have hG2 : G 0 ≤ am_top h2 := Nat.le_trans hG w1.1
  have s3 := s2.lw hG2 (am_evm_lw hG2 e2)
  refine ⟨h3, ?_, i3, s3, t3, l3⟩
  have ox : am_ob G h o 8 := co_ob i.1.2.2.1
  have om : am_ob G h2 m 9 := ob_lw (cm_ob i.1.2.1) w1
  have a1 : nI q + 1 = nI (q + 1) := nI_add q 1
  have sa1 := s.ia (show q + 1 < L by omega) hL
  have s2a1 := s2.ia (show q + 1 < L by omega) hL
  have a2 : nI q + 2 = nI (q + 2) := nI_add q 2
  have sa2 := s.ia (show q + 2 < L by omega) hL
  have s2a2 := s2.ia (show q + 2 < L by omega) hL
  have c := s.2.2
  have c2 := s2.2.2
  rw [e_0_315]
  simp only [e_0_316, e_0_317, e_0_318, e_0_319, e_0_320, e_0_321, e_0_322, e_0_323, e_0_324, e_0_325, e_0_326, e_0_329, e_0_330, e_0_331, e_0_332, e_0_333, e_0_334, e_0_335, e_0_336, e_0_337, e_0_338, e_0_339, e_0_340, e_0_343, e_0_346, f_0_347, Option.bind_some, Option.toList_some, Option.toList_none, List.cons_append, List.nil_append, am_k1_i, am_k1_r, am_k1_u, am_k1_n, am_bo0, am_bo1, am_boi, am_ev_tb, am_tb_nil, am_rfs, am_rfn, eq_self, and_self, if_true, if_false, show ¬ (1 : Int32) = 0 from by decide, show ¬ (0 : Int32) = 1 from by decide, not_true, not_false_eq_true, and_true, true_and, and_false, false_and, or_true, true_or, or_false, false_or, a1, sa1, s2a1, am_cl (show q + 1 < 2147483648 by omega), a2, sa2, s2a2, am_cl (show q + 2 < 2147483648 by omega), c, c2, ox, om, e1, e2]
theorem law_4 (i : iv G h o m) (s : sc G h b L xs) (hq : q + 6 ≤ L) (hL : L ≤ 3072) : lc G h o m d b L q 348 xs := by
  have hG : G 0 ≤ am_top h := by have := i.1.1.1; have := i.1.2.2.1.1.2.1; omega
  have S : sm G h o m d 78 155 [.int (xs (q + 1)), .int (xs (q + 2))] := s_bolder i
  obtain ⟨v, h2, h3, e1, e2, i3, t3, l3⟩ := S
  have w1 := am_evm_lw hG e1
  have s2 := s.lw hG w1
  have hG2 : G 0 ≤ am_top h2 := Nat.le_trans hG w1.1
  have s3 := s2.lw hG2 (am_evm_lw hG2 e2)
  refine ⟨h3, ?_, i3, s3, t3, l3⟩
  have ox : am_ob G h o 8 := co_ob i.1.2.2.1
  have om : am_ob G h2 m 9 := ob_lw (cm_ob i.1.2.1) w1
  have a1 : nI q + 1 = nI (q + 1) := nI_add q 1
  have sa1 := s.ia (show q + 1 < L by omega) hL
  have s2a1 := s2.ia (show q + 1 < L by omega) hL
  have a2 : nI q + 2 = nI (q + 2) := nI_add q 2
  have sa2 := s.ia (show q + 2 < L by omega) hL
  have s2a2 := s2.ia (show q + 2 < L by omega) hL
  have c := s.2.2
  have c2 := s2.2.2
  rw [e_0_348]
  simp only [e_0_349, e_0_350, e_0_351, e_0_352, e_0_353, e_0_354, e_0_355, e_0_356, e_0_357, e_0_358, e_0_359, e_0_362, e_0_363, e_0_364, e_0_365, e_0_366, e_0_367, e_0_368, e_0_369, e_0_370, e_0_371, e_0_372, e_0_373, e_0_376, e_0_379, f_0_380, Option.bind_some, Option.toList_some, Option.toList_none, List.cons_append, List.nil_append, am_k1_i, am_k1_r, am_k1_u, am_k1_n, am_bo0, am_bo1, am_boi, am_ev_tb, am_tb_nil, am_rfs, am_rfn, eq_self, and_self, if_true, if_false, show ¬ (1 : Int32) = 0 from by decide, show ¬ (0 : Int32) = 1 from by decide, not_true, not_false_eq_true, and_true, true_and, and_false, false_and, or_true, true_or, or_false, false_or, a1, sa1, s2a1, am_cl (show q + 1 < 2147483648 by omega), a2, sa2, s2a2, am_cl (show q + 2 < 2147483648 by omega), c, c2, ox, om, e1, e2]
theorem law_5 (i : iv G h o m) (s : sc G h b L xs) (hq : q + 6 ≤ L) (hL : L ≤ 3072) : lc G h o m d b L q 381 xs := by
  have hG : G 0 ≤ am_top h := by have := i.1.1.1; have := i.1.2.2.1.1.2.1; omega
  have S : sm G h o m d 79 157 [.int (xs (q + 1)), .int (xs (q + 2)), .int (xs (q + 3))] := s_away i
  obtain ⟨v, h2, h3, e1, e2, i3, t3, l3⟩ := S
  have w1 := am_evm_lw hG e1
  have s2 := s.lw hG w1
  have hG2 : G 0 ≤ am_top h2 := Nat.le_trans hG w1.1
  have s3 := s2.lw hG2 (am_evm_lw hG2 e2)
  refine ⟨h3, ?_, i3, s3, t3, l3⟩
  have ox : am_ob G h o 8 := co_ob i.1.2.2.1
  have om : am_ob G h2 m 9 := ob_lw (cm_ob i.1.2.1) w1
  have a1 : nI q + 1 = nI (q + 1) := nI_add q 1
  have sa1 := s.ia (show q + 1 < L by omega) hL
  have s2a1 := s2.ia (show q + 1 < L by omega) hL
  have a2 : nI q + 2 = nI (q + 2) := nI_add q 2
  have sa2 := s.ia (show q + 2 < L by omega) hL
  have s2a2 := s2.ia (show q + 2 < L by omega) hL
  have a3 : nI q + 3 = nI (q + 3) := nI_add q 3
  have sa3 := s.ia (show q + 3 < L by omega) hL
  have s2a3 := s2.ia (show q + 3 < L by omega) hL
  have c := s.2.2
  have c2 := s2.2.2
  rw [e_0_381]
  simp only [e_0_382, e_0_383, e_0_384, e_0_385, e_0_386, e_0_387, e_0_388, e_0_389, e_0_390, e_0_391, e_0_392, e_0_393, e_0_394, e_0_395, e_0_396, e_0_397, e_0_400, e_0_401, e_0_402, e_0_403, e_0_404, e_0_405, e_0_406, e_0_407, e_0_408, e_0_409, e_0_410, e_0_411, e_0_412, e_0_413, e_0_414, e_0_415, e_0_416, e_0_419, e_0_422, f_0_423, Option.bind_some, Option.toList_some, Option.toList_none, List.cons_append, List.nil_append, am_k1_i, am_k1_r, am_k1_u, am_k1_n, am_bo0, am_bo1, am_boi, am_ev_tb, am_tb_nil, am_rfs, am_rfn, eq_self, and_self, if_true, if_false, show ¬ (1 : Int32) = 0 from by decide, show ¬ (0 : Int32) = 1 from by decide, not_true, not_false_eq_true, and_true, true_and, and_false, false_and, or_true, true_or, or_false, false_or, a1, sa1, s2a1, am_cl (show q + 1 < 2147483648 by omega), a2, sa2, s2a2, am_cl (show q + 2 < 2147483648 by omega), a3, sa3, s2a3, am_cl (show q + 3 < 2147483648 by omega), c, c2, ox, om, e1, e2]
theorem law_6 (i : iv G h o m) (s : sc G h b L xs) (hq : q + 6 ≤ L) (hL : L ≤ 3072) : lc G h o m d b L q 424 xs := by
  have hG : G 0 ≤ am_top h := by have := i.1.1.1; have := i.1.2.2.1.1.2.1; omega
  have S : sm G h o m d 80 159 [.int (xs (q + 1)), .int (xs (q + 2)), .int (xs (q + 3))] := s_friend i
  obtain ⟨v, h2, h3, e1, e2, i3, t3, l3⟩ := S
  have w1 := am_evm_lw hG e1
  have s2 := s.lw hG w1
  have hG2 : G 0 ≤ am_top h2 := Nat.le_trans hG w1.1
  have s3 := s2.lw hG2 (am_evm_lw hG2 e2)
  refine ⟨h3, ?_, i3, s3, t3, l3⟩
  have ox : am_ob G h o 8 := co_ob i.1.2.2.1
  have om : am_ob G h2 m 9 := ob_lw (cm_ob i.1.2.1) w1
  have a1 : nI q + 1 = nI (q + 1) := nI_add q 1
  have sa1 := s.ia (show q + 1 < L by omega) hL
  have s2a1 := s2.ia (show q + 1 < L by omega) hL
  have a2 : nI q + 2 = nI (q + 2) := nI_add q 2
  have sa2 := s.ia (show q + 2 < L by omega) hL
  have s2a2 := s2.ia (show q + 2 < L by omega) hL
  have a3 : nI q + 3 = nI (q + 3) := nI_add q 3
  have sa3 := s.ia (show q + 3 < L by omega) hL
  have s2a3 := s2.ia (show q + 3 < L by omega) hL
  have c := s.2.2
  have c2 := s2.2.2
  rw [e_0_424]
  simp only [e_0_425, e_0_426, e_0_427, e_0_428, e_0_429, e_0_430, e_0_431, e_0_432, e_0_433, e_0_434, e_0_435, e_0_436, e_0_437, e_0_438, e_0_439, e_0_440, e_0_443, e_0_444, e_0_445, e_0_446, e_0_447, e_0_448, e_0_449, e_0_450, e_0_451, e_0_452, e_0_453, e_0_454, e_0_455, e_0_456, e_0_457, e_0_458, e_0_459, e_0_462, e_0_465, f_0_466, Option.bind_some, Option.toList_some, Option.toList_none, List.cons_append, List.nil_append, am_k1_i, am_k1_r, am_k1_u, am_k1_n, am_bo0, am_bo1, am_boi, am_ev_tb, am_tb_nil, am_rfs, am_rfn, eq_self, and_self, if_true, if_false, show ¬ (1 : Int32) = 0 from by decide, show ¬ (0 : Int32) = 1 from by decide, not_true, not_false_eq_true, and_true, true_and, and_false, false_and, or_true, true_or, or_false, false_or, a1, sa1, s2a1, am_cl (show q + 1 < 2147483648 by omega), a2, sa2, s2a2, am_cl (show q + 2 < 2147483648 by omega), a3, sa3, s2a3, am_cl (show q + 3 < 2147483648 by omega), c, c2, ox, om, e1, e2]
theorem law_7 (i : iv G h o m) (s : sc G h b L xs) (hq : q + 6 ≤ L) (hL : L ≤ 3072) : lc G h o m d b L q 467 xs := by
  have hG : G 0 ≤ am_top h := by have := i.1.1.1; have := i.1.2.2.1.1.2.1; omega
  have S : sm G h o m d 81 160 [.int (xs (q + 1)), .int (xs (q + 2)), .int (xs (q + 3))] := s_follow i
  obtain ⟨v, h2, h3, e1, e2, i3, t3, l3⟩ := S
  have w1 := am_evm_lw hG e1
  have s2 := s.lw hG w1
  have hG2 : G 0 ≤ am_top h2 := Nat.le_trans hG w1.1
  have s3 := s2.lw hG2 (am_evm_lw hG2 e2)
  refine ⟨h3, ?_, i3, s3, t3, l3⟩
  have ox : am_ob G h o 8 := co_ob i.1.2.2.1
  have om : am_ob G h2 m 9 := ob_lw (cm_ob i.1.2.1) w1
  have a1 : nI q + 1 = nI (q + 1) := nI_add q 1
  have sa1 := s.ia (show q + 1 < L by omega) hL
  have s2a1 := s2.ia (show q + 1 < L by omega) hL
  have a2 : nI q + 2 = nI (q + 2) := nI_add q 2
  have sa2 := s.ia (show q + 2 < L by omega) hL
  have s2a2 := s2.ia (show q + 2 < L by omega) hL
  have a3 : nI q + 3 = nI (q + 3) := nI_add q 3
  have sa3 := s.ia (show q + 3 < L by omega) hL
  have s2a3 := s2.ia (show q + 3 < L by omega) hL
  have c := s.2.2
  have c2 := s2.2.2
  rw [e_0_467]
  simp only [e_0_468, e_0_469, e_0_470, e_0_471, e_0_472, e_0_473, e_0_474, e_0_475, e_0_476, e_0_477, e_0_478, e_0_479, e_0_480, e_0_481, e_0_482, e_0_483, e_0_486, e_0_487, e_0_488, e_0_489, e_0_490, e_0_491, e_0_492, e_0_493, e_0_494, e_0_495, e_0_496, e_0_497, e_0_498, e_0_499, e_0_500, e_0_501, e_0_502, e_0_505, e_0_508, f_0_509, Option.bind_some, Option.toList_some, Option.toList_none, List.cons_append, List.nil_append, am_k1_i, am_k1_r, am_k1_u, am_k1_n, am_bo0, am_bo1, am_boi, am_ev_tb, am_tb_nil, am_rfs, am_rfn, eq_self, and_self, if_true, if_false, show ¬ (1 : Int32) = 0 from by decide, show ¬ (0 : Int32) = 1 from by decide, not_true, not_false_eq_true, and_true, true_and, and_false, false_and, or_true, true_or, or_false, false_or, a1, sa1, s2a1, am_cl (show q + 1 < 2147483648 by omega), a2, sa2, s2a2, am_cl (show q + 2 < 2147483648 by omega), a3, sa3, s2a3, am_cl (show q + 3 < 2147483648 by omega), c, c2, ox, om, e1, e2]
theorem law_8 (i : iv G h o m) (s : sc G h b L xs) (hq : q + 6 ≤ L) (hL : L ≤ 3072) : lc G h o m d b L q 510 xs := by
  have hG : G 0 ≤ am_top h := by have := i.1.1.1; have := i.1.2.2.1.1.2.1; omega
  have S : sm G h o m d 82 161 [.int (xs (q + 1))] := s_deal i
  obtain ⟨v, h2, h3, e1, e2, i3, t3, l3⟩ := S
  have w1 := am_evm_lw hG e1
  have s2 := s.lw hG w1
  have hG2 : G 0 ≤ am_top h2 := Nat.le_trans hG w1.1
  have s3 := s2.lw hG2 (am_evm_lw hG2 e2)
  refine ⟨h3, ?_, i3, s3, t3, l3⟩
  have ox : am_ob G h o 8 := co_ob i.1.2.2.1
  have om : am_ob G h2 m 9 := ob_lw (cm_ob i.1.2.1) w1
  have a1 : nI q + 1 = nI (q + 1) := nI_add q 1
  have sa1 := s.ia (show q + 1 < L by omega) hL
  have s2a1 := s2.ia (show q + 1 < L by omega) hL
  have c := s.2.2
  have c2 := s2.2.2
  rw [e_0_510]
  simp only [e_0_511, e_0_512, e_0_513, e_0_514, e_0_515, e_0_516, e_0_519, e_0_520, e_0_521, e_0_522, e_0_523, e_0_524, e_0_525, e_0_528, e_0_531, f_0_532, Option.bind_some, Option.toList_some, Option.toList_none, List.cons_append, List.nil_append, am_k1_i, am_k1_r, am_k1_u, am_k1_n, am_bo0, am_bo1, am_boi, am_ev_tb, am_tb_nil, am_rfs, am_rfn, eq_self, and_self, if_true, if_false, show ¬ (1 : Int32) = 0 from by decide, show ¬ (0 : Int32) = 1 from by decide, not_true, not_false_eq_true, and_true, true_and, and_false, false_and, or_true, true_or, or_false, false_or, a1, sa1, s2a1, am_cl (show q + 1 < 2147483648 by omega), c, c2, ox, om, e1, e2]
theorem law_9 (i : iv G h o m) (s : sc G h b L xs) (hq : q + 6 ≤ L) (hL : L ≤ 3072) : lc G h o m d b L q 533 xs := by
  have hG : G 0 ≤ am_top h := by have := i.1.1.1; have := i.1.2.2.1.1.2.1; omega
  have S : sm G h o m d 83 162 [.int (xs (q + 1))] := s_seed i
  obtain ⟨v, h2, h3, e1, e2, i3, t3, l3⟩ := S
  have w1 := am_evm_lw hG e1
  have s2 := s.lw hG w1
  have hG2 : G 0 ≤ am_top h2 := Nat.le_trans hG w1.1
  have s3 := s2.lw hG2 (am_evm_lw hG2 e2)
  refine ⟨h3, ?_, i3, s3, t3, l3⟩
  have ox : am_ob G h o 8 := co_ob i.1.2.2.1
  have om : am_ob G h2 m 9 := ob_lw (cm_ob i.1.2.1) w1
  have a1 : nI q + 1 = nI (q + 1) := nI_add q 1
  have sa1 := s.ia (show q + 1 < L by omega) hL
  have s2a1 := s2.ia (show q + 1 < L by omega) hL
  have c := s.2.2
  have c2 := s2.2.2
  rw [e_0_533]
  simp only [e_0_534, e_0_535, e_0_536, e_0_537, e_0_538, e_0_539, e_0_542, e_0_543, e_0_544, e_0_545, e_0_546, e_0_547, e_0_548, e_0_551, e_0_554, f_0_555, Option.bind_some, Option.toList_some, Option.toList_none, List.cons_append, List.nil_append, am_k1_i, am_k1_r, am_k1_u, am_k1_n, am_bo0, am_bo1, am_boi, am_ev_tb, am_tb_nil, am_rfs, am_rfn, eq_self, and_self, if_true, if_false, show ¬ (1 : Int32) = 0 from by decide, show ¬ (0 : Int32) = 1 from by decide, not_true, not_false_eq_true, and_true, true_and, and_false, false_and, or_true, true_or, or_false, false_or, a1, sa1, s2a1, am_cl (show q + 1 < 2147483648 by omega), c, c2, ox, om, e1, e2]
theorem law_10 (i : iv G h o m) (s : sc G h b L xs) (hq : q + 6 ≤ L) (hL : L ≤ 3072) : lc G h o m d b L q 556 xs := by
  have hG : G 0 ≤ am_top h := by have := i.1.1.1; have := i.1.2.2.1.1.2.1; omega
  have S : sm G h o m d 84 163 [.int (xs (q + 1)), .int (xs (q + 2)), .int (xs (q + 3))] := s_deed i
  obtain ⟨v, h2, h3, e1, e2, i3, t3, l3⟩ := S
  have w1 := am_evm_lw hG e1
  have s2 := s.lw hG w1
  have hG2 : G 0 ≤ am_top h2 := Nat.le_trans hG w1.1
  have s3 := s2.lw hG2 (am_evm_lw hG2 e2)
  refine ⟨h3, ?_, i3, s3, t3, l3⟩
  have ox : am_ob G h o 8 := co_ob i.1.2.2.1
  have om : am_ob G h2 m 9 := ob_lw (cm_ob i.1.2.1) w1
  have a1 : nI q + 1 = nI (q + 1) := nI_add q 1
  have sa1 := s.ia (show q + 1 < L by omega) hL
  have s2a1 := s2.ia (show q + 1 < L by omega) hL
  have a2 : nI q + 2 = nI (q + 2) := nI_add q 2
  have sa2 := s.ia (show q + 2 < L by omega) hL
  have s2a2 := s2.ia (show q + 2 < L by omega) hL
  have a3 : nI q + 3 = nI (q + 3) := nI_add q 3
  have sa3 := s.ia (show q + 3 < L by omega) hL
  have s2a3 := s2.ia (show q + 3 < L by omega) hL
  have c := s.2.2
  have c2 := s2.2.2
  rw [e_0_556]
  simp only [e_0_557, e_0_558, e_0_559, e_0_560, e_0_561, e_0_562, e_0_563, e_0_564, e_0_565, e_0_566, e_0_567, e_0_568, e_0_569, e_0_570, e_0_571, e_0_572, e_0_575, e_0_576, e_0_577, e_0_578, e_0_579, e_0_580, e_0_581, e_0_582, e_0_583, e_0_584, e_0_585, e_0_586, e_0_587, e_0_588, e_0_589, e_0_590, e_0_591, e_0_594, e_0_597, f_0_598, Option.bind_some, Option.toList_some, Option.toList_none, List.cons_append, List.nil_append, am_k1_i, am_k1_r, am_k1_u, am_k1_n, am_bo0, am_bo1, am_boi, am_ev_tb, am_tb_nil, am_rfs, am_rfn, eq_self, and_self, if_true, if_false, show ¬ (1 : Int32) = 0 from by decide, show ¬ (0 : Int32) = 1 from by decide, not_true, not_false_eq_true, and_true, true_and, and_false, false_and, or_true, true_or, or_false, false_or, a1, sa1, s2a1, am_cl (show q + 1 < 2147483648 by omega), a2, sa2, s2a2, am_cl (show q + 2 < 2147483648 by omega), a3, sa3, s2a3, am_cl (show q + 3 < 2147483648 by omega), c, c2, ox, om, e1, e2]
theorem law_11 (i : iv G h o m) (s : sc G h b L xs) (hq : q + 6 ≤ L) (hL : L ≤ 3072) : lc G h o m d b L q 599 xs := by
  have hG : G 0 ≤ am_top h := by have := i.1.1.1; have := i.1.2.2.1.1.2.1; omega
  have S : sm G h o m d 85 165 [.int (xs (q + 1)), .int (xs (q + 2))] := s_deedTold i
  obtain ⟨v, h2, h3, e1, e2, i3, t3, l3⟩ := S
  have w1 := am_evm_lw hG e1
  have s2 := s.lw hG w1
  have hG2 : G 0 ≤ am_top h2 := Nat.le_trans hG w1.1
  have s3 := s2.lw hG2 (am_evm_lw hG2 e2)
  refine ⟨h3, ?_, i3, s3, t3, l3⟩
  have ox : am_ob G h o 8 := co_ob i.1.2.2.1
  have om : am_ob G h2 m 9 := ob_lw (cm_ob i.1.2.1) w1
  have a1 : nI q + 1 = nI (q + 1) := nI_add q 1
  have sa1 := s.ia (show q + 1 < L by omega) hL
  have s2a1 := s2.ia (show q + 1 < L by omega) hL
  have a2 : nI q + 2 = nI (q + 2) := nI_add q 2
  have sa2 := s.ia (show q + 2 < L by omega) hL
  have s2a2 := s2.ia (show q + 2 < L by omega) hL
  have c := s.2.2
  have c2 := s2.2.2
  rw [e_0_599]
  simp only [e_0_600, e_0_601, e_0_602, e_0_603, e_0_604, e_0_605, e_0_606, e_0_607, e_0_608, e_0_609, e_0_610, e_0_613, e_0_614, e_0_615, e_0_616, e_0_617, e_0_618, e_0_619, e_0_620, e_0_621, e_0_622, e_0_623, e_0_624, e_0_627, e_0_630, f_0_631, Option.bind_some, Option.toList_some, Option.toList_none, List.cons_append, List.nil_append, am_k1_i, am_k1_r, am_k1_u, am_k1_n, am_bo0, am_bo1, am_boi, am_ev_tb, am_tb_nil, am_rfs, am_rfn, eq_self, and_self, if_true, if_false, show ¬ (1 : Int32) = 0 from by decide, show ¬ (0 : Int32) = 1 from by decide, not_true, not_false_eq_true, and_true, true_and, and_false, false_and, or_true, true_or, or_false, false_or, a1, sa1, s2a1, am_cl (show q + 1 < 2147483648 by omega), a2, sa2, s2a2, am_cl (show q + 2 < 2147483648 by omega), c, c2, ox, om, e1, e2]
theorem law_12 (i : iv G h o m) (s : sc G h b L xs) (hq : q + 6 ≤ L) (hL : L ≤ 3072) : lc G h o m d b L q 632 xs := by
  have hG : G 0 ≤ am_top h := by have := i.1.1.1; have := i.1.2.2.1.1.2.1; omega
  have S : sm G h o m d 86 166 [.int (xs (q + 1))] := s_again i
  obtain ⟨v, h2, h3, e1, e2, i3, t3, l3⟩ := S
  have w1 := am_evm_lw hG e1
  have s2 := s.lw hG w1
  have hG2 : G 0 ≤ am_top h2 := Nat.le_trans hG w1.1
  have s3 := s2.lw hG2 (am_evm_lw hG2 e2)
  refine ⟨h3, ?_, i3, s3, t3, l3⟩
  have ox : am_ob G h o 8 := co_ob i.1.2.2.1
  have om : am_ob G h2 m 9 := ob_lw (cm_ob i.1.2.1) w1
  have a1 : nI q + 1 = nI (q + 1) := nI_add q 1
  have sa1 := s.ia (show q + 1 < L by omega) hL
  have s2a1 := s2.ia (show q + 1 < L by omega) hL
  have c := s.2.2
  have c2 := s2.2.2
  rw [e_0_632]
  simp only [e_0_633, e_0_634, e_0_635, e_0_636, e_0_637, e_0_638, e_0_641, e_0_642, e_0_643, e_0_644, e_0_645, e_0_646, e_0_647, e_0_650, e_0_653, f_0_654, Option.bind_some, Option.toList_some, Option.toList_none, List.cons_append, List.nil_append, am_k1_i, am_k1_r, am_k1_u, am_k1_n, am_bo0, am_bo1, am_boi, am_ev_tb, am_tb_nil, am_rfs, am_rfn, eq_self, and_self, if_true, if_false, show ¬ (1 : Int32) = 0 from by decide, show ¬ (0 : Int32) = 1 from by decide, not_true, not_false_eq_true, and_true, true_and, and_false, false_and, or_true, true_or, or_false, false_or, a1, sa1, s2a1, am_cl (show q + 1 < 2147483648 by omega), c, c2, ox, om, e1, e2]
theorem law_13 (i : iv G h o m) (s : sc G h b L xs) (hq : q + 6 ≤ L) (hL : L ≤ 3072) : lc G h o m d b L q 655 xs := by
  have hG : G 0 ≤ am_top h := by have := i.1.1.1; have := i.1.2.2.1.1.2.1; omega
  have S : sm G h o m d 87 167 [.int (xs (q + 1))] := s_stop i
  obtain ⟨v, h2, h3, e1, e2, i3, t3, l3⟩ := S
  have w1 := am_evm_lw hG e1
  have s2 := s.lw hG w1
  have hG2 : G 0 ≤ am_top h2 := Nat.le_trans hG w1.1
  have s3 := s2.lw hG2 (am_evm_lw hG2 e2)
  refine ⟨h3, ?_, i3, s3, t3, l3⟩
  have ox : am_ob G h o 8 := co_ob i.1.2.2.1
  have om : am_ob G h2 m 9 := ob_lw (cm_ob i.1.2.1) w1
  have a1 : nI q + 1 = nI (q + 1) := nI_add q 1
  have sa1 := s.ia (show q + 1 < L by omega) hL
  have s2a1 := s2.ia (show q + 1 < L by omega) hL
  have c := s.2.2
  have c2 := s2.2.2
  rw [e_0_655]
  simp only [e_0_656, e_0_657, e_0_658, e_0_659, e_0_660, e_0_661, e_0_664, e_0_665, e_0_666, e_0_667, e_0_668, e_0_669, e_0_670, e_0_673, e_0_676, f_0_677, Option.bind_some, Option.toList_some, Option.toList_none, List.cons_append, List.nil_append, am_k1_i, am_k1_r, am_k1_u, am_k1_n, am_bo0, am_bo1, am_boi, am_ev_tb, am_tb_nil, am_rfs, am_rfn, eq_self, and_self, if_true, if_false, show ¬ (1 : Int32) = 0 from by decide, show ¬ (0 : Int32) = 1 from by decide, not_true, not_false_eq_true, and_true, true_and, and_false, false_and, or_true, true_or, or_false, false_or, a1, sa1, s2a1, am_cl (show q + 1 < 2147483648 by omega), c, c2, ox, om, e1, e2]
theorem law_14 (i : iv G h o m) (s : sc G h b L xs) (hq : q + 6 ≤ L) (hL : L ≤ 3072) : lc G h o m d b L q 678 xs := by
  have hG : G 0 ≤ am_top h := by have := i.1.1.1; have := i.1.2.2.1.1.2.1; omega
  have S : sm G h o m d 88 170 [.int (xs (q + 1)), .int (xs (q + 2)), .int (xs (q + 3))] := s_say i
  obtain ⟨v, h2, h3, e1, e2, i3, t3, l3⟩ := S
  have w1 := am_evm_lw hG e1
  have s2 := s.lw hG w1
  have hG2 : G 0 ≤ am_top h2 := Nat.le_trans hG w1.1
  have s3 := s2.lw hG2 (am_evm_lw hG2 e2)
  refine ⟨h3, ?_, i3, s3, t3, l3⟩
  have ox : am_ob G h o 8 := co_ob i.1.2.2.1
  have om : am_ob G h2 m 9 := ob_lw (cm_ob i.1.2.1) w1
  have a1 : nI q + 1 = nI (q + 1) := nI_add q 1
  have sa1 := s.ia (show q + 1 < L by omega) hL
  have s2a1 := s2.ia (show q + 1 < L by omega) hL
  have a2 : nI q + 2 = nI (q + 2) := nI_add q 2
  have sa2 := s.ia (show q + 2 < L by omega) hL
  have s2a2 := s2.ia (show q + 2 < L by omega) hL
  have a3 : nI q + 3 = nI (q + 3) := nI_add q 3
  have sa3 := s.ia (show q + 3 < L by omega) hL
  have s2a3 := s2.ia (show q + 3 < L by omega) hL
  have c := s.2.2
  have c2 := s2.2.2
  rw [e_0_678]
  simp only [e_0_679, e_0_680, e_0_681, e_0_682, e_0_683, e_0_684, e_0_685, e_0_686, e_0_687, e_0_688, e_0_689, e_0_690, e_0_691, e_0_692, e_0_693, e_0_694, e_0_697, e_0_698, e_0_699, e_0_700, e_0_701, e_0_702, e_0_703, e_0_704, e_0_705, e_0_706, e_0_707, e_0_708, e_0_709, e_0_710, e_0_711, e_0_712, e_0_713, e_0_716, e_0_719, f_0_720, Option.bind_some, Option.toList_some, Option.toList_none, List.cons_append, List.nil_append, am_k1_i, am_k1_r, am_k1_u, am_k1_n, am_bo0, am_bo1, am_boi, am_ev_tb, am_tb_nil, am_rfs, am_rfn, eq_self, and_self, if_true, if_false, show ¬ (1 : Int32) = 0 from by decide, show ¬ (0 : Int32) = 1 from by decide, not_true, not_false_eq_true, and_true, true_and, and_false, false_and, or_true, true_or, or_false, false_or, a1, sa1, s2a1, am_cl (show q + 1 < 2147483648 by omega), a2, sa2, s2a2, am_cl (show q + 2 < 2147483648 by omega), a3, sa3, s2a3, am_cl (show q + 3 < 2147483648 by omega), c, c2, ox, om, e1, e2]
theorem law_15 (i : iv G h o m) (s : sc G h b L xs) (hq : q + 6 ≤ L) (hL : L ≤ 3072) : lc G h o m d b L q 721 xs := by
  have hG : G 0 ≤ am_top h := by have := i.1.1.1; have := i.1.2.2.1.1.2.1; omega
  have S : sm G h o m d 89 174 [.int (xs (q + 1)), .int (xs (q + 2))] := s_choice i
  obtain ⟨v, h2, h3, e1, e2, i3, t3, l3⟩ := S
  have w1 := am_evm_lw hG e1
  have s2 := s.lw hG w1
  have hG2 : G 0 ≤ am_top h2 := Nat.le_trans hG w1.1
  have s3 := s2.lw hG2 (am_evm_lw hG2 e2)
  refine ⟨h3, ?_, i3, s3, t3, l3⟩
  have ox : am_ob G h o 8 := co_ob i.1.2.2.1
  have om : am_ob G h2 m 9 := ob_lw (cm_ob i.1.2.1) w1
  have a1 : nI q + 1 = nI (q + 1) := nI_add q 1
  have sa1 := s.ia (show q + 1 < L by omega) hL
  have s2a1 := s2.ia (show q + 1 < L by omega) hL
  have a2 : nI q + 2 = nI (q + 2) := nI_add q 2
  have sa2 := s.ia (show q + 2 < L by omega) hL
  have s2a2 := s2.ia (show q + 2 < L by omega) hL
  have c := s.2.2
  have c2 := s2.2.2
  rw [e_0_721]
  simp only [e_0_722, e_0_723, e_0_724, e_0_725, e_0_726, e_0_727, e_0_728, e_0_729, e_0_730, e_0_731, e_0_732, e_0_735, e_0_736, e_0_737, e_0_738, e_0_739, e_0_740, e_0_741, e_0_742, e_0_743, e_0_744, e_0_745, e_0_746, e_0_749, e_0_752, f_0_753, Option.bind_some, Option.toList_some, Option.toList_none, List.cons_append, List.nil_append, am_k1_i, am_k1_r, am_k1_u, am_k1_n, am_bo0, am_bo1, am_boi, am_ev_tb, am_tb_nil, am_rfs, am_rfn, eq_self, and_self, if_true, if_false, show ¬ (1 : Int32) = 0 from by decide, show ¬ (0 : Int32) = 1 from by decide, not_true, not_false_eq_true, and_true, true_and, and_false, false_and, or_true, true_or, or_false, false_or, a1, sa1, s2a1, am_cl (show q + 1 < 2147483648 by omega), a2, sa2, s2a2, am_cl (show q + 2 < 2147483648 by omega), c, c2, ox, om, e1, e2]
theorem law_16 (i : iv G h o m) (s : sc G h b L xs) (hq : q + 6 ≤ L) (hL : L ≤ 3072) : lc G h o m d b L q 754 xs := by
  have hG : G 0 ≤ am_top h := by have := i.1.1.1; have := i.1.2.2.1.1.2.1; omega
  have S : sm G h o m d 90 177 [.int (xs (q + 1)), .int (xs (q + 2))] := s_rounds i
  obtain ⟨v, h2, h3, e1, e2, i3, t3, l3⟩ := S
  have w1 := am_evm_lw hG e1
  have s2 := s.lw hG w1
  have hG2 : G 0 ≤ am_top h2 := Nat.le_trans hG w1.1
  have s3 := s2.lw hG2 (am_evm_lw hG2 e2)
  refine ⟨h3, ?_, i3, s3, t3, l3⟩
  have ox : am_ob G h o 8 := co_ob i.1.2.2.1
  have om : am_ob G h2 m 9 := ob_lw (cm_ob i.1.2.1) w1
  have a1 : nI q + 1 = nI (q + 1) := nI_add q 1
  have sa1 := s.ia (show q + 1 < L by omega) hL
  have s2a1 := s2.ia (show q + 1 < L by omega) hL
  have a2 : nI q + 2 = nI (q + 2) := nI_add q 2
  have sa2 := s.ia (show q + 2 < L by omega) hL
  have s2a2 := s2.ia (show q + 2 < L by omega) hL
  have c := s.2.2
  have c2 := s2.2.2
  rw [e_0_754]
  simp only [e_0_755, e_0_756, e_0_757, e_0_758, e_0_759, e_0_760, e_0_761, e_0_762, e_0_763, e_0_764, e_0_765, e_0_768, e_0_769, e_0_770, e_0_771, e_0_772, e_0_773, e_0_774, e_0_775, e_0_776, e_0_777, e_0_778, e_0_779, e_0_782, e_0_785, f_0_786, Option.bind_some, Option.toList_some, Option.toList_none, List.cons_append, List.nil_append, am_k1_i, am_k1_r, am_k1_u, am_k1_n, am_bo0, am_bo1, am_boi, am_ev_tb, am_tb_nil, am_rfs, am_rfn, eq_self, and_self, if_true, if_false, show ¬ (1 : Int32) = 0 from by decide, show ¬ (0 : Int32) = 1 from by decide, not_true, not_false_eq_true, and_true, true_and, and_false, false_and, or_true, true_or, or_false, false_or, a1, sa1, s2a1, am_cl (show q + 1 < 2147483648 by omega), a2, sa2, s2a2, am_cl (show q + 2 < 2147483648 by omega), c, c2, ox, om, e1, e2]
theorem law_17 (i : iv G h o m) (s : sc G h b L xs) (hq : q + 6 ≤ L) (hL : L ≤ 3072) : lc G h o m d b L q 787 xs := by
  have hG : G 0 ≤ am_top h := by have := i.1.1.1; have := i.1.2.2.1.1.2.1; omega
  have S : sm G h o m d 91 178 [.int (xs (q + 1)), .int (xs (q + 2))] := s_fewest i
  obtain ⟨v, h2, h3, e1, e2, i3, t3, l3⟩ := S
  have w1 := am_evm_lw hG e1
  have s2 := s.lw hG w1
  have hG2 : G 0 ≤ am_top h2 := Nat.le_trans hG w1.1
  have s3 := s2.lw hG2 (am_evm_lw hG2 e2)
  refine ⟨h3, ?_, i3, s3, t3, l3⟩
  have ox : am_ob G h o 8 := co_ob i.1.2.2.1
  have om : am_ob G h2 m 9 := ob_lw (cm_ob i.1.2.1) w1
  have a1 : nI q + 1 = nI (q + 1) := nI_add q 1
  have sa1 := s.ia (show q + 1 < L by omega) hL
  have s2a1 := s2.ia (show q + 1 < L by omega) hL
  have a2 : nI q + 2 = nI (q + 2) := nI_add q 2
  have sa2 := s.ia (show q + 2 < L by omega) hL
  have s2a2 := s2.ia (show q + 2 < L by omega) hL
  have c := s.2.2
  have c2 := s2.2.2
  rw [e_0_787]
  simp only [e_0_788, e_0_789, e_0_790, e_0_791, e_0_792, e_0_793, e_0_794, e_0_795, e_0_796, e_0_797, e_0_798, e_0_801, e_0_802, e_0_803, e_0_804, e_0_805, e_0_806, e_0_807, e_0_808, e_0_809, e_0_810, e_0_811, e_0_812, e_0_815, e_0_818, f_0_819, Option.bind_some, Option.toList_some, Option.toList_none, List.cons_append, List.nil_append, am_k1_i, am_k1_r, am_k1_u, am_k1_n, am_bo0, am_bo1, am_boi, am_ev_tb, am_tb_nil, am_rfs, am_rfn, eq_self, and_self, if_true, if_false, show ¬ (1 : Int32) = 0 from by decide, show ¬ (0 : Int32) = 1 from by decide, not_true, not_false_eq_true, and_true, true_and, and_false, false_and, or_true, true_or, or_false, false_or, a1, sa1, s2a1, am_cl (show q + 1 < 2147483648 by omega), a2, sa2, s2a2, am_cl (show q + 2 < 2147483648 by omega), c, c2, ox, om, e1, e2]
theorem law_18 (i : iv G h o m) (s : sc G h b L xs) (hq : q + 6 ≤ L) (hL : L ≤ 3072) : lc G h o m d b L q 820 xs := by
  have hG : G 0 ≤ am_top h := by have := i.1.1.1; have := i.1.2.2.1.1.2.1; omega
  have S : sm G h o m d 92 179 [] := s_silent i
  obtain ⟨v, h2, h3, e1, e2, i3, t3, l3⟩ := S
  have w1 := am_evm_lw hG e1
  have s2 := s.lw hG w1
  have hG2 : G 0 ≤ am_top h2 := Nat.le_trans hG w1.1
  have s3 := s2.lw hG2 (am_evm_lw hG2 e2)
  refine ⟨h3, ?_, i3, s3, t3, l3⟩
  have ox : am_ob G h o 8 := co_ob i.1.2.2.1
  have om : am_ob G h2 m 9 := ob_lw (cm_ob i.1.2.1) w1
  have c := s.2.2
  have c2 := s2.2.2
  rw [e_0_820]
  simp only [e_0_821, e_0_824, e_0_825, e_0_828, e_0_831, f_0_832, Option.bind_some, Option.toList_some, Option.toList_none, List.cons_append, List.nil_append, am_k1_i, am_k1_r, am_k1_u, am_k1_n, am_bo0, am_bo1, am_boi, am_ev_tb, am_tb_nil, am_rfs, am_rfn, eq_self, and_self, if_true, if_false, show ¬ (1 : Int32) = 0 from by decide, show ¬ (0 : Int32) = 1 from by decide, not_true, not_false_eq_true, and_true, true_and, and_false, false_and, or_true, true_or, or_false, false_or, c, c2, ox, om, e1, e2]
theorem law_19 (i : iv G h o m) (s : sc G h b L xs) (hq : q + 6 ≤ L) (hL : L ≤ 3072) : lc G h o m d b L q 833 xs := by
  have hG : G 0 ≤ am_top h := by have := i.1.1.1; have := i.1.2.2.1.1.2.1; omega
  have S : sm G h o m d 93 180 [.int (xs (q + 1))] := s_meant i
  obtain ⟨v, h2, h3, e1, e2, i3, t3, l3⟩ := S
  have w1 := am_evm_lw hG e1
  have s2 := s.lw hG w1
  have hG2 : G 0 ≤ am_top h2 := Nat.le_trans hG w1.1
  have s3 := s2.lw hG2 (am_evm_lw hG2 e2)
  refine ⟨h3, ?_, i3, s3, t3, l3⟩
  have ox : am_ob G h o 8 := co_ob i.1.2.2.1
  have om : am_ob G h2 m 9 := ob_lw (cm_ob i.1.2.1) w1
  have a1 : nI q + 1 = nI (q + 1) := nI_add q 1
  have sa1 := s.ia (show q + 1 < L by omega) hL
  have s2a1 := s2.ia (show q + 1 < L by omega) hL
  have c := s.2.2
  have c2 := s2.2.2
  rw [e_0_833]
  simp only [e_0_834, e_0_835, e_0_836, e_0_837, e_0_838, e_0_839, e_0_842, e_0_843, e_0_844, e_0_845, e_0_846, e_0_847, e_0_848, e_0_851, e_0_854, f_0_855, Option.bind_some, Option.toList_some, Option.toList_none, List.cons_append, List.nil_append, am_k1_i, am_k1_r, am_k1_u, am_k1_n, am_bo0, am_bo1, am_boi, am_ev_tb, am_tb_nil, am_rfs, am_rfn, eq_self, and_self, if_true, if_false, show ¬ (1 : Int32) = 0 from by decide, show ¬ (0 : Int32) = 1 from by decide, not_true, not_false_eq_true, and_true, true_and, and_false, false_and, or_true, true_or, or_false, false_or, a1, sa1, s2a1, am_cl (show q + 1 < 2147483648 by omega), c, c2, ox, om, e1, e2]
theorem law_20 (i : iv G h o m) (s : sc G h b L xs) (hq : q + 6 ≤ L) (hL : L ≤ 3072) : lc G h o m d b L q 856 xs := by
  have hG : G 0 ≤ am_top h := by have := i.1.1.1; have := i.1.2.2.1.1.2.1; omega
  have S : sm G h o m d 94 181 [.int (xs (q + 1))] := s_proved i
  obtain ⟨v, h2, h3, e1, e2, i3, t3, l3⟩ := S
  have w1 := am_evm_lw hG e1
  have s2 := s.lw hG w1
  have hG2 : G 0 ≤ am_top h2 := Nat.le_trans hG w1.1
  have s3 := s2.lw hG2 (am_evm_lw hG2 e2)
  refine ⟨h3, ?_, i3, s3, t3, l3⟩
  have ox : am_ob G h o 8 := co_ob i.1.2.2.1
  have om : am_ob G h2 m 9 := ob_lw (cm_ob i.1.2.1) w1
  have a1 : nI q + 1 = nI (q + 1) := nI_add q 1
  have sa1 := s.ia (show q + 1 < L by omega) hL
  have s2a1 := s2.ia (show q + 1 < L by omega) hL
  have c := s.2.2
  have c2 := s2.2.2
  rw [e_0_856]
  simp only [e_0_857, e_0_858, e_0_859, e_0_860, e_0_861, e_0_862, e_0_865, e_0_866, e_0_867, e_0_868, e_0_869, e_0_870, e_0_871, e_0_874, e_0_877, f_0_878, Option.bind_some, Option.toList_some, Option.toList_none, List.cons_append, List.nil_append, am_k1_i, am_k1_r, am_k1_u, am_k1_n, am_bo0, am_bo1, am_boi, am_ev_tb, am_tb_nil, am_rfs, am_rfn, eq_self, and_self, if_true, if_false, show ¬ (1 : Int32) = 0 from by decide, show ¬ (0 : Int32) = 1 from by decide, not_true, not_false_eq_true, and_true, true_and, and_false, false_and, or_true, true_or, or_false, false_or, a1, sa1, s2a1, am_cl (show q + 1 < 2147483648 by omega), c, c2, ox, om, e1, e2]
theorem law_21 (i : iv G h o m) (s : sc G h b L xs) (hq : q + 6 ≤ L) (hL : L ≤ 3072) : lc G h o m d b L q 879 xs := by
  have hG : G 0 ≤ am_top h := by have := i.1.1.1; have := i.1.2.2.1.1.2.1; omega
  obtain ⟨v, e1, e2⟩ := s_falls (d := d) i (p := xs (q + 1)) (w := xs (q + 2))
  refine ⟨h, ?_, i, s, by omega, by omega⟩
  have z : lg_cmp v v = 0 := by unfold lg_cmp; rw [if_neg (fun z => Int64.lt_irrefl z), if_pos rfl]
  have ox : am_ob G h o 8 := co_ob i.1.2.2.1
  have om : am_ob G h m 9 := cm_ob i.1.2.1
  have a1 : nI q + 1 = nI (q + 1) := nI_add q 1
  have sa1 := s.ia (show q + 1 < L by omega) hL
  have a2 : nI q + 2 = nI (q + 2) := nI_add q 2
  have sa2 := s.ia (show q + 2 < L by omega) hL
  have c := s.2.2
  rw [e_0_879]
  simp only [e_0_880, e_0_881, e_0_882, e_0_883, e_0_884, e_0_885, e_0_886, e_0_887, e_0_888, e_0_889, e_0_890, e_0_893, e_0_894, e_0_895, e_0_896, e_0_897, e_0_898, e_0_899, e_0_900, e_0_901, e_0_902, e_0_903, e_0_904, e_0_907, e_0_908, e_0_911, f_0_912, Option.bind_some, Option.toList_some, Option.toList_none, List.cons_append, List.nil_append, am_k1_i, am_k1_r, am_k1_u, am_k1_n, am_bo0, am_bo1, am_boi, am_ev_tb, am_tb_nil, am_rfs, am_rfn, eq_self, and_self, if_true, if_false, show ¬ (1 : Int32) = 0 from by decide, show ¬ (0 : Int32) = 1 from by decide, not_true, not_false_eq_true, and_true, true_and, and_false, false_and, or_true, true_or, or_false, false_or, a1, sa1, am_cl (show q + 1 < 2147483648 by omega), a2, sa2, am_cl (show q + 2 < 2147483648 by omega), c, ox, om, e1, e2, z]
theorem law_22 (i : iv G h o m) (s : sc G h b L xs) (hq : q + 6 ≤ L) (hL : L ≤ 3072) : lc G h o m d b L q 913 xs := by
  have hG : G 0 ≤ am_top h := by have := i.1.1.1; have := i.1.2.2.1.1.2.1; omega
  have S : sm G h o m d 96 184 [] := s_most i
  obtain ⟨v, h2, h3, e1, e2, i3, t3, l3⟩ := S
  have w1 := am_evm_lw hG e1
  have s2 := s.lw hG w1
  have hG2 : G 0 ≤ am_top h2 := Nat.le_trans hG w1.1
  have s3 := s2.lw hG2 (am_evm_lw hG2 e2)
  refine ⟨h3, ?_, i3, s3, t3, l3⟩
  have ox : am_ob G h o 8 := co_ob i.1.2.2.1
  have om : am_ob G h2 m 9 := ob_lw (cm_ob i.1.2.1) w1
  have c := s.2.2
  have c2 := s2.2.2
  rw [e_0_913]
  simp only [e_0_914, e_0_917, e_0_918, e_0_921, e_0_924, f_0_925, Option.bind_some, Option.toList_some, Option.toList_none, List.cons_append, List.nil_append, am_k1_i, am_k1_r, am_k1_u, am_k1_n, am_bo0, am_bo1, am_boi, am_ev_tb, am_tb_nil, am_rfs, am_rfn, eq_self, and_self, if_true, if_false, show ¬ (1 : Int32) = 0 from by decide, show ¬ (0 : Int32) = 1 from by decide, not_true, not_false_eq_true, and_true, true_and, and_false, false_and, or_true, true_or, or_false, false_or, c, c2, ox, om, e1, e2]
theorem law_23 (i : iv G h o m) (s : sc G h b L xs) (hq : q + 6 ≤ L) (hL : L ≤ 3072) : lc G h o m d b L q 926 xs := by
  have hG : G 0 ≤ am_top h := by have := i.1.1.1; have := i.1.2.2.1.1.2.1; omega
  have S : sm G h o m d 97 185 [.int (xs (q + 1)), .int (xs (q + 2)), .int (xs (q + 3))] := s_feed i
  obtain ⟨v, h2, h3, e1, e2, i3, t3, l3⟩ := S
  have w1 := am_evm_lw hG e1
  have s2 := s.lw hG w1
  have hG2 : G 0 ≤ am_top h2 := Nat.le_trans hG w1.1
  have s3 := s2.lw hG2 (am_evm_lw hG2 e2)
  refine ⟨h3, ?_, i3, s3, t3, l3⟩
  have ox : am_ob G h o 8 := co_ob i.1.2.2.1
  have om : am_ob G h2 m 9 := ob_lw (cm_ob i.1.2.1) w1
  have a1 : nI q + 1 = nI (q + 1) := nI_add q 1
  have sa1 := s.ia (show q + 1 < L by omega) hL
  have s2a1 := s2.ia (show q + 1 < L by omega) hL
  have a2 : nI q + 2 = nI (q + 2) := nI_add q 2
  have sa2 := s.ia (show q + 2 < L by omega) hL
  have s2a2 := s2.ia (show q + 2 < L by omega) hL
  have a3 : nI q + 3 = nI (q + 3) := nI_add q 3
  have sa3 := s.ia (show q + 3 < L by omega) hL
  have s2a3 := s2.ia (show q + 3 < L by omega) hL
  have c := s.2.2
  have c2 := s2.2.2
  rw [e_0_926]
  simp only [e_0_927, e_0_928, e_0_929, e_0_930, e_0_931, e_0_932, e_0_933, e_0_934, e_0_935, e_0_936, e_0_937, e_0_938, e_0_939, e_0_940, e_0_941, e_0_942, e_0_945, e_0_946, e_0_947, e_0_948, e_0_949, e_0_950, e_0_951, e_0_952, e_0_953, e_0_954, e_0_955, e_0_956, e_0_957, e_0_958, e_0_959, e_0_960, e_0_961, e_0_964, e_0_967, f_0_968, Option.bind_some, Option.toList_some, Option.toList_none, List.cons_append, List.nil_append, am_k1_i, am_k1_r, am_k1_u, am_k1_n, am_bo0, am_bo1, am_boi, am_ev_tb, am_tb_nil, am_rfs, am_rfn, eq_self, and_self, if_true, if_false, show ¬ (1 : Int32) = 0 from by decide, show ¬ (0 : Int32) = 1 from by decide, not_true, not_false_eq_true, and_true, true_and, and_false, false_and, or_true, true_or, or_false, false_or, a1, sa1, s2a1, am_cl (show q + 1 < 2147483648 by omega), a2, sa2, s2a2, am_cl (show q + 2 < 2147483648 by omega), a3, sa3, s2a3, am_cl (show q + 3 < 2147483648 by omega), c, c2, ox, om, e1, e2]
theorem law_24 (i : iv G h o m) (s : sc G h b L xs) (hq : q + 6 ≤ L) (hL : L ≤ 3072) : lc G h o m d b L q 969 xs := by
  have hG : G 0 ≤ am_top h := by have := i.1.1.1; have := i.1.2.2.1.1.2.1; omega
  have S : sm G h o m d 98 186 [.int (xs (q + 1))] := s_trim i
  obtain ⟨v, h2, h3, e1, e2, i3, t3, l3⟩ := S
  have w1 := am_evm_lw hG e1
  have s2 := s.lw hG w1
  have hG2 : G 0 ≤ am_top h2 := Nat.le_trans hG w1.1
  have s3 := s2.lw hG2 (am_evm_lw hG2 e2)
  refine ⟨h3, ?_, i3, s3, t3, l3⟩
  have ox : am_ob G h o 8 := co_ob i.1.2.2.1
  have om : am_ob G h2 m 9 := ob_lw (cm_ob i.1.2.1) w1
  have a1 : nI q + 1 = nI (q + 1) := nI_add q 1
  have sa1 := s.ia (show q + 1 < L by omega) hL
  have s2a1 := s2.ia (show q + 1 < L by omega) hL
  have c := s.2.2
  have c2 := s2.2.2
  rw [e_0_969]
  simp only [e_0_970, e_0_971, e_0_972, e_0_973, e_0_974, e_0_975, e_0_978, e_0_979, e_0_980, e_0_981, e_0_982, e_0_983, e_0_984, e_0_987, e_0_990, f_0_991, Option.bind_some, Option.toList_some, Option.toList_none, List.cons_append, List.nil_append, am_k1_i, am_k1_r, am_k1_u, am_k1_n, am_bo0, am_bo1, am_boi, am_ev_tb, am_tb_nil, am_rfs, am_rfn, eq_self, and_self, if_true, if_false, show ¬ (1 : Int32) = 0 from by decide, show ¬ (0 : Int32) = 1 from by decide, not_true, not_false_eq_true, and_true, true_and, and_false, false_and, or_true, true_or, or_false, false_or, a1, sa1, s2a1, am_cl (show q + 1 < 2147483648 by omega), c, c2, ox, om, e1, e2]
theorem law_25 (i : iv G h o m) (s : sc G h b L xs) (hq : q + 6 ≤ L) (hL : L ≤ 3072) : lc G h o m d b L q 992 xs := by
  have hG : G 0 ≤ am_top h := by have := i.1.1.1; have := i.1.2.2.1.1.2.1; omega
  have S : sm G h o m d 99 202 [] := s_text i
  obtain ⟨v, h2, h3, e1, e2, i3, t3, l3⟩ := S
  have w1 := am_evm_lw hG e1
  have s2 := s.lw hG w1
  have hG2 : G 0 ≤ am_top h2 := Nat.le_trans hG w1.1
  have s3 := s2.lw hG2 (am_evm_lw hG2 e2)
  refine ⟨h3, ?_, i3, s3, t3, l3⟩
  have ox : am_ob G h o 8 := co_ob i.1.2.2.1
  have om : am_ob G h2 m 9 := ob_lw (cm_ob i.1.2.1) w1
  have c := s.2.2
  have c2 := s2.2.2
  rw [e_0_992]
  simp only [e_0_993, e_0_996, e_0_997, e_0_1000, e_0_1003, f_0_1004, Option.bind_some, Option.toList_some, Option.toList_none, List.cons_append, List.nil_append, am_k1_i, am_k1_r, am_k1_u, am_k1_n, am_bo0, am_bo1, am_boi, am_ev_tb, am_tb_nil, am_rfs, am_rfn, eq_self, and_self, if_true, if_false, show ¬ (1 : Int32) = 0 from by decide, show ¬ (0 : Int32) = 1 from by decide, not_true, not_false_eq_true, and_true, true_and, and_false, false_and, or_true, true_or, or_false, false_or, c, c2, ox, om, e1, e2]
theorem law_26 (i : iv G h o m) (s : sc G h b L xs) (hq : q + 6 ≤ L) (hL : L ≤ 3072) : lc G h o m d b L q 1005 xs := by
  have hG : G 0 ≤ am_top h := by have := i.1.1.1; have := i.1.2.2.1.1.2.1; omega
  have S : sm G h o m d 100 203 [.int (xs (q + 1)), .int (xs (q + 2))] := s_textTold i
  obtain ⟨v, h2, h3, e1, e2, i3, t3, l3⟩ := S
  have w1 := am_evm_lw hG e1
  have s2 := s.lw hG w1
  have hG2 : G 0 ≤ am_top h2 := Nat.le_trans hG w1.1
  have s3 := s2.lw hG2 (am_evm_lw hG2 e2)
  refine ⟨h3, ?_, i3, s3, t3, l3⟩
  have ox : am_ob G h o 8 := co_ob i.1.2.2.1
  have om : am_ob G h2 m 9 := ob_lw (cm_ob i.1.2.1) w1
  have a1 : nI q + 1 = nI (q + 1) := nI_add q 1
  have sa1 := s.ia (show q + 1 < L by omega) hL
  have s2a1 := s2.ia (show q + 1 < L by omega) hL
  have a2 : nI q + 2 = nI (q + 2) := nI_add q 2
  have sa2 := s.ia (show q + 2 < L by omega) hL
  have s2a2 := s2.ia (show q + 2 < L by omega) hL
  have c := s.2.2
  have c2 := s2.2.2
  rw [e_0_1005]
  simp only [e_0_1006, e_0_1007, e_0_1008, e_0_1009, e_0_1010, e_0_1011, e_0_1012, e_0_1013, e_0_1014, e_0_1015, e_0_1016, e_0_1019, e_0_1020, e_0_1021, e_0_1022, e_0_1023, e_0_1024, e_0_1025, e_0_1026, e_0_1027, e_0_1028, e_0_1029, e_0_1030, e_0_1033, e_0_1036, f_0_1037, Option.bind_some, Option.toList_some, Option.toList_none, List.cons_append, List.nil_append, am_k1_i, am_k1_r, am_k1_u, am_k1_n, am_bo0, am_bo1, am_boi, am_ev_tb, am_tb_nil, am_rfs, am_rfn, eq_self, and_self, if_true, if_false, show ¬ (1 : Int32) = 0 from by decide, show ¬ (0 : Int32) = 1 from by decide, not_true, not_false_eq_true, and_true, true_and, and_false, false_and, or_true, true_or, or_false, false_or, a1, sa1, s2a1, am_cl (show q + 1 < 2147483648 by omega), a2, sa2, s2a2, am_cl (show q + 2 < 2147483648 by omega), c, c2, ox, om, e1, e2]
theorem law_27 (i : iv G h o m) (s : sc G h b L xs) (hq : q + 6 ≤ L) (hL : L ≤ 3072) : lc G h o m d b L q 1038 xs := by
  have hG : G 0 ≤ am_top h := by have := i.1.1.1; have := i.1.2.2.1.1.2.1; omega
  have S : sm G h o m d 101 205 [.int (xs (q + 1))] := s_why i
  obtain ⟨v, h2, h3, e1, e2, i3, t3, l3⟩ := S
  have w1 := am_evm_lw hG e1
  have s2 := s.lw hG w1
  have hG2 : G 0 ≤ am_top h2 := Nat.le_trans hG w1.1
  have s3 := s2.lw hG2 (am_evm_lw hG2 e2)
  refine ⟨h3, ?_, i3, s3, t3, l3⟩
  have ox : am_ob G h o 8 := co_ob i.1.2.2.1
  have om : am_ob G h2 m 9 := ob_lw (cm_ob i.1.2.1) w1
  have a1 : nI q + 1 = nI (q + 1) := nI_add q 1
  have sa1 := s.ia (show q + 1 < L by omega) hL
  have s2a1 := s2.ia (show q + 1 < L by omega) hL
  have c := s.2.2
  have c2 := s2.2.2
  rw [e_0_1038]
  simp only [e_0_1039, e_0_1040, e_0_1041, e_0_1042, e_0_1043, e_0_1044, e_0_1047, e_0_1048, e_0_1049, e_0_1050, e_0_1051, e_0_1052, e_0_1053, e_0_1056, e_0_1059, f_0_1060, Option.bind_some, Option.toList_some, Option.toList_none, List.cons_append, List.nil_append, am_k1_i, am_k1_r, am_k1_u, am_k1_n, am_bo0, am_bo1, am_boi, am_ev_tb, am_tb_nil, am_rfs, am_rfn, eq_self, and_self, if_true, if_false, show ¬ (1 : Int32) = 0 from by decide, show ¬ (0 : Int32) = 1 from by decide, not_true, not_false_eq_true, and_true, true_and, and_false, false_and, or_true, true_or, or_false, false_or, a1, sa1, s2a1, am_cl (show q + 1 < 2147483648 by omega), c, c2, ox, om, e1, e2]
theorem law_28 (i : iv G h o m) (s : sc G h b L xs) (hq : q + 6 ≤ L) (hL : L ≤ 3072) : lc G h o m d b L q 1061 xs := by
  have hG : G 0 ≤ am_top h := by have := i.1.1.1; have := i.1.2.2.1.1.2.1; omega
  have S : sm G h o m d 102 209 [.int (xs (q + 1)), .int (xs (q + 2)), .int (xs (q + 3))] := s_sheet i
  obtain ⟨v, h2, h3, e1, e2, i3, t3, l3⟩ := S
  have w1 := am_evm_lw hG e1
  have s2 := s.lw hG w1
  have hG2 : G 0 ≤ am_top h2 := Nat.le_trans hG w1.1
  have s3 := s2.lw hG2 (am_evm_lw hG2 e2)
  refine ⟨h3, ?_, i3, s3, t3, l3⟩
  have ox : am_ob G h o 8 := co_ob i.1.2.2.1
  have om : am_ob G h2 m 9 := ob_lw (cm_ob i.1.2.1) w1
  have a1 : nI q + 1 = nI (q + 1) := nI_add q 1
  have sa1 := s.ia (show q + 1 < L by omega) hL
  have s2a1 := s2.ia (show q + 1 < L by omega) hL
  have a2 : nI q + 2 = nI (q + 2) := nI_add q 2
  have sa2 := s.ia (show q + 2 < L by omega) hL
  have s2a2 := s2.ia (show q + 2 < L by omega) hL
  have a3 : nI q + 3 = nI (q + 3) := nI_add q 3
  have sa3 := s.ia (show q + 3 < L by omega) hL
  have s2a3 := s2.ia (show q + 3 < L by omega) hL
  have c := s.2.2
  have c2 := s2.2.2
  rw [e_0_1061]
  simp only [e_0_1062, e_0_1063, e_0_1064, e_0_1065, e_0_1066, e_0_1067, e_0_1068, e_0_1069, e_0_1070, e_0_1071, e_0_1072, e_0_1073, e_0_1074, e_0_1075, e_0_1076, e_0_1077, e_0_1080, e_0_1081, e_0_1082, e_0_1083, e_0_1084, e_0_1085, e_0_1086, e_0_1087, e_0_1088, e_0_1089, e_0_1090, e_0_1091, e_0_1092, e_0_1093, e_0_1094, e_0_1095, e_0_1096, e_0_1099, e_0_1102, f_0_1103, Option.bind_some, Option.toList_some, Option.toList_none, List.cons_append, List.nil_append, am_k1_i, am_k1_r, am_k1_u, am_k1_n, am_bo0, am_bo1, am_boi, am_ev_tb, am_tb_nil, am_rfs, am_rfn, eq_self, and_self, if_true, if_false, show ¬ (1 : Int32) = 0 from by decide, show ¬ (0 : Int32) = 1 from by decide, not_true, not_false_eq_true, and_true, true_and, and_false, false_and, or_true, true_or, or_false, false_or, a1, sa1, s2a1, am_cl (show q + 1 < 2147483648 by omega), a2, sa2, s2a2, am_cl (show q + 2 < 2147483648 by omega), a3, sa3, s2a3, am_cl (show q + 3 < 2147483648 by omega), c, c2, ox, om, e1, e2]
theorem law_29 (i : iv G h o m) (s : sc G h b L xs) (hq : q + 6 ≤ L) (hL : L ≤ 3072) : lc G h o m d b L q 1104 xs := by
  have hG : G 0 ≤ am_top h := by have := i.1.1.1; have := i.1.2.2.1.1.2.1; omega
  have S : sm G h o m d 103 210 [.int (xs (q + 1)), .int (xs (q + 2)), .int (xs (q + 3))] := s_mark i
  obtain ⟨v, h2, h3, e1, e2, i3, t3, l3⟩ := S
  have w1 := am_evm_lw hG e1
  have s2 := s.lw hG w1
  have hG2 : G 0 ≤ am_top h2 := Nat.le_trans hG w1.1
  have s3 := s2.lw hG2 (am_evm_lw hG2 e2)
  refine ⟨h3, ?_, i3, s3, t3, l3⟩
  have ox : am_ob G h o 8 := co_ob i.1.2.2.1
  have om : am_ob G h2 m 9 := ob_lw (cm_ob i.1.2.1) w1
  have a1 : nI q + 1 = nI (q + 1) := nI_add q 1
  have sa1 := s.ia (show q + 1 < L by omega) hL
  have s2a1 := s2.ia (show q + 1 < L by omega) hL
  have a2 : nI q + 2 = nI (q + 2) := nI_add q 2
  have sa2 := s.ia (show q + 2 < L by omega) hL
  have s2a2 := s2.ia (show q + 2 < L by omega) hL
  have a3 : nI q + 3 = nI (q + 3) := nI_add q 3
  have sa3 := s.ia (show q + 3 < L by omega) hL
  have s2a3 := s2.ia (show q + 3 < L by omega) hL
  have c := s.2.2
  have c2 := s2.2.2
  rw [e_0_1104]
  simp only [e_0_1105, e_0_1106, e_0_1107, e_0_1108, e_0_1109, e_0_1110, e_0_1111, e_0_1112, e_0_1113, e_0_1114, e_0_1115, e_0_1116, e_0_1117, e_0_1118, e_0_1119, e_0_1120, e_0_1123, e_0_1124, e_0_1125, e_0_1126, e_0_1127, e_0_1128, e_0_1129, e_0_1130, e_0_1131, e_0_1132, e_0_1133, e_0_1134, e_0_1135, e_0_1136, e_0_1137, e_0_1138, e_0_1139, e_0_1142, e_0_1145, f_0_1146, Option.bind_some, Option.toList_some, Option.toList_none, List.cons_append, List.nil_append, am_k1_i, am_k1_r, am_k1_u, am_k1_n, am_bo0, am_bo1, am_boi, am_ev_tb, am_tb_nil, am_rfs, am_rfn, eq_self, and_self, if_true, if_false, show ¬ (1 : Int32) = 0 from by decide, show ¬ (0 : Int32) = 1 from by decide, not_true, not_false_eq_true, and_true, true_and, and_false, false_and, or_true, true_or, or_false, false_or, a1, sa1, s2a1, am_cl (show q + 1 < 2147483648 by omega), a2, sa2, s2a2, am_cl (show q + 2 < 2147483648 by omega), a3, sa3, s2a3, am_cl (show q + 3 < 2147483648 by omega), c, c2, ox, om, e1, e2]
theorem law_30 (i : iv G h o m) (s : sc G h b L xs) (hq : q + 6 ≤ L) (hL : L ≤ 3072) : lc G h o m d b L q 1147 xs := by
  have hG : G 0 ≤ am_top h := by have := i.1.1.1; have := i.1.2.2.1.1.2.1; omega
  have S : sm G h o m d 104 211 [.int (xs (q + 1))] := s_pour i
  obtain ⟨v, h2, h3, e1, e2, i3, t3, l3⟩ := S
  have w1 := am_evm_lw hG e1
  have s2 := s.lw hG w1
  have hG2 : G 0 ≤ am_top h2 := Nat.le_trans hG w1.1
  have s3 := s2.lw hG2 (am_evm_lw hG2 e2)
  refine ⟨h3, ?_, i3, s3, t3, l3⟩
  have ox : am_ob G h o 8 := co_ob i.1.2.2.1
  have om : am_ob G h2 m 9 := ob_lw (cm_ob i.1.2.1) w1
  have a1 : nI q + 1 = nI (q + 1) := nI_add q 1
  have sa1 := s.ia (show q + 1 < L by omega) hL
  have s2a1 := s2.ia (show q + 1 < L by omega) hL
  have c := s.2.2
  have c2 := s2.2.2
  rw [e_0_1147]
  simp only [e_0_1148, e_0_1149, e_0_1150, e_0_1151, e_0_1152, e_0_1153, e_0_1156, e_0_1157, e_0_1158, e_0_1159, e_0_1160, e_0_1161, e_0_1162, e_0_1165, e_0_1168, f_0_1169, Option.bind_some, Option.toList_some, Option.toList_none, List.cons_append, List.nil_append, am_k1_i, am_k1_r, am_k1_u, am_k1_n, am_bo0, am_bo1, am_boi, am_ev_tb, am_tb_nil, am_rfs, am_rfn, eq_self, and_self, if_true, if_false, show ¬ (1 : Int32) = 0 from by decide, show ¬ (0 : Int32) = 1 from by decide, not_true, not_false_eq_true, and_true, true_and, and_false, false_and, or_true, true_or, or_false, false_or, a1, sa1, s2a1, am_cl (show q + 1 < 2147483648 by omega), c, c2, ox, om, e1, e2]
theorem law_31 (i : iv G h o m) (s : sc G h b L xs) (hq : q + 6 ≤ L) (hL : L ≤ 3072) : lc G h o m d b L q 1170 xs := by
  have hG : G 0 ≤ am_top h := by have := i.1.1.1; have := i.1.2.2.1.1.2.1; omega
  have S : sm G h o m d 105 212 [.int (xs (q + 1))] := s_reads i
  obtain ⟨v, h2, h3, e1, e2, i3, t3, l3⟩ := S
  have w1 := am_evm_lw hG e1
  have s2 := s.lw hG w1
  have hG2 : G 0 ≤ am_top h2 := Nat.le_trans hG w1.1
  have s3 := s2.lw hG2 (am_evm_lw hG2 e2)
  refine ⟨h3, ?_, i3, s3, t3, l3⟩
  have ox : am_ob G h o 8 := co_ob i.1.2.2.1
  have om : am_ob G h2 m 9 := ob_lw (cm_ob i.1.2.1) w1
  have a1 : nI q + 1 = nI (q + 1) := nI_add q 1
  have sa1 := s.ia (show q + 1 < L by omega) hL
  have s2a1 := s2.ia (show q + 1 < L by omega) hL
  have c := s.2.2
  have c2 := s2.2.2
  rw [e_0_1170]
  simp only [e_0_1171, e_0_1172, e_0_1173, e_0_1174, e_0_1175, e_0_1176, e_0_1179, e_0_1180, e_0_1181, e_0_1182, e_0_1183, e_0_1184, e_0_1185, e_0_1188, e_0_1191, f_0_1192, Option.bind_some, Option.toList_some, Option.toList_none, List.cons_append, List.nil_append, am_k1_i, am_k1_r, am_k1_u, am_k1_n, am_bo0, am_bo1, am_boi, am_ev_tb, am_tb_nil, am_rfs, am_rfn, eq_self, and_self, if_true, if_false, show ¬ (1 : Int32) = 0 from by decide, show ¬ (0 : Int32) = 1 from by decide, not_true, not_false_eq_true, and_true, true_and, and_false, false_and, or_true, true_or, or_false, false_or, a1, sa1, s2a1, am_cl (show q + 1 < 2147483648 by omega), c, c2, ox, om, e1, e2]
theorem law_32 (i : iv G h o m) (s : sc G h b L xs) (hq : q + 6 ≤ L) (hL : L ≤ 3072) : lc G h o m d b L q 1193 xs := by
  have hG : G 0 ≤ am_top h := by have := i.1.1.1; have := i.1.2.2.1.1.2.1; omega
  have S : sm G h o m d 106 213 [.int (xs (q + 1)), .int (xs (q + 2)), .int (xs (q + 3)), .int (xs (q + 4)), .int (xs (q + 5))] := s_copy i
  obtain ⟨v, h2, h3, e1, e2, i3, t3, l3⟩ := S
  have w1 := am_evm_lw hG e1
  have s2 := s.lw hG w1
  have hG2 : G 0 ≤ am_top h2 := Nat.le_trans hG w1.1
  have s3 := s2.lw hG2 (am_evm_lw hG2 e2)
  refine ⟨h3, ?_, i3, s3, t3, l3⟩
  have ox : am_ob G h o 8 := co_ob i.1.2.2.1
  have om : am_ob G h2 m 9 := ob_lw (cm_ob i.1.2.1) w1
  have a1 : nI q + 1 = nI (q + 1) := nI_add q 1
  have sa1 := s.ia (show q + 1 < L by omega) hL
  have s2a1 := s2.ia (show q + 1 < L by omega) hL
  have a2 : nI q + 2 = nI (q + 2) := nI_add q 2
  have sa2 := s.ia (show q + 2 < L by omega) hL
  have s2a2 := s2.ia (show q + 2 < L by omega) hL
  have a3 : nI q + 3 = nI (q + 3) := nI_add q 3
  have sa3 := s.ia (show q + 3 < L by omega) hL
  have s2a3 := s2.ia (show q + 3 < L by omega) hL
  have a4 : nI q + 4 = nI (q + 4) := nI_add q 4
  have sa4 := s.ia (show q + 4 < L by omega) hL
  have s2a4 := s2.ia (show q + 4 < L by omega) hL
  have a5 : nI q + 5 = nI (q + 5) := nI_add q 5
  have sa5 := s.ia (show q + 5 < L by omega) hL
  have s2a5 := s2.ia (show q + 5 < L by omega) hL
  have c := s.2.2
  have c2 := s2.2.2
  rw [e_0_1193]
  simp only [e_0_1194, e_0_1195, e_0_1196, e_0_1197, e_0_1198, e_0_1199, e_0_1200, e_0_1201, e_0_1202, e_0_1203, e_0_1204, e_0_1205, e_0_1206, e_0_1207, e_0_1208, e_0_1209, e_0_1210, e_0_1211, e_0_1212, e_0_1213, e_0_1214, e_0_1215, e_0_1216, e_0_1217, e_0_1218, e_0_1219, e_0_1222, e_0_1223, e_0_1224, e_0_1225, e_0_1226, e_0_1227, e_0_1228, e_0_1229, e_0_1230, e_0_1231, e_0_1232, e_0_1233, e_0_1234, e_0_1235, e_0_1236, e_0_1237, e_0_1238, e_0_1239, e_0_1240, e_0_1241, e_0_1242, e_0_1243, e_0_1244, e_0_1245, e_0_1246, e_0_1247, e_0_1248, e_0_1251, e_0_1254, f_0_1255, Option.bind_some, Option.toList_some, Option.toList_none, List.cons_append, List.nil_append, am_k1_i, am_k1_r, am_k1_u, am_k1_n, am_bo0, am_bo1, am_boi, am_ev_tb, am_tb_nil, am_rfs, am_rfn, eq_self, and_self, if_true, if_false, show ¬ (1 : Int32) = 0 from by decide, show ¬ (0 : Int32) = 1 from by decide, not_true, not_false_eq_true, and_true, true_and, and_false, false_and, or_true, true_or, or_false, false_or, a1, sa1, s2a1, am_cl (show q + 1 < 2147483648 by omega), a2, sa2, s2a2, am_cl (show q + 2 < 2147483648 by omega), a3, sa3, s2a3, am_cl (show q + 3 < 2147483648 by omega), a4, sa4, s2a4, am_cl (show q + 4 < 2147483648 by omega), a5, sa5, s2a5, am_cl (show q + 5 < 2147483648 by omega), c, c2, ox, om, e1, e2]
theorem law_33 (i : iv G h o m) (s : sc G h b L xs) (hq : q + 6 ≤ L) (hL : L ≤ 3072) : lc G h o m d b L q 1256 xs := by
  have hG : G 0 ≤ am_top h := by have := i.1.1.1; have := i.1.2.2.1.1.2.1; omega
  have S : sm G h o m d 107 215 [.int (xs (q + 1)), .int (xs (q + 2)), .int (xs (q + 3))] := s_lay i
  obtain ⟨v, h2, h3, e1, e2, i3, t3, l3⟩ := S
  have w1 := am_evm_lw hG e1
  have s2 := s.lw hG w1
  have hG2 : G 0 ≤ am_top h2 := Nat.le_trans hG w1.1
  have s3 := s2.lw hG2 (am_evm_lw hG2 e2)
  refine ⟨h3, ?_, i3, s3, t3, l3⟩
  have ox : am_ob G h o 8 := co_ob i.1.2.2.1
  have om : am_ob G h2 m 9 := ob_lw (cm_ob i.1.2.1) w1
  have a1 : nI q + 1 = nI (q + 1) := nI_add q 1
  have sa1 := s.ia (show q + 1 < L by omega) hL
  have s2a1 := s2.ia (show q + 1 < L by omega) hL
  have a2 : nI q + 2 = nI (q + 2) := nI_add q 2
  have sa2 := s.ia (show q + 2 < L by omega) hL
  have s2a2 := s2.ia (show q + 2 < L by omega) hL
  have a3 : nI q + 3 = nI (q + 3) := nI_add q 3
  have sa3 := s.ia (show q + 3 < L by omega) hL
  have s2a3 := s2.ia (show q + 3 < L by omega) hL
  have c := s.2.2
  have c2 := s2.2.2
  rw [e_0_1256]
  simp only [e_0_1257, e_0_1258, e_0_1259, e_0_1260, e_0_1261, e_0_1262, e_0_1263, e_0_1264, e_0_1265, e_0_1266, e_0_1267, e_0_1268, e_0_1269, e_0_1270, e_0_1271, e_0_1272, e_0_1275, e_0_1276, e_0_1277, e_0_1278, e_0_1279, e_0_1280, e_0_1281, e_0_1282, e_0_1283, e_0_1284, e_0_1285, e_0_1286, e_0_1287, e_0_1288, e_0_1289, e_0_1290, e_0_1291, e_0_1294, e_0_1297, f_0_1298, Option.bind_some, Option.toList_some, Option.toList_none, List.cons_append, List.nil_append, am_k1_i, am_k1_r, am_k1_u, am_k1_n, am_bo0, am_bo1, am_boi, am_ev_tb, am_tb_nil, am_rfs, am_rfn, eq_self, and_self, if_true, if_false, show ¬ (1 : Int32) = 0 from by decide, show ¬ (0 : Int32) = 1 from by decide, not_true, not_false_eq_true, and_true, true_and, and_false, false_and, or_true, true_or, or_false, false_or, a1, sa1, s2a1, am_cl (show q + 1 < 2147483648 by omega), a2, sa2, s2a2, am_cl (show q + 2 < 2147483648 by omega), a3, sa3, s2a3, am_cl (show q + 3 < 2147483648 by omega), c, c2, ox, om, e1, e2]
theorem law_34 (i : iv G h o m) (s : sc G h b L xs) (hq : q + 6 ≤ L) (hL : L ≤ 3072) : lc G h o m d b L q 1299 xs := by
  have hG : G 0 ≤ am_top h := by have := i.1.1.1; have := i.1.2.2.1.1.2.1; omega
  have S : sm G h o m d 108 216 [.int (xs (q + 1)), .int (xs (q + 2))] := s_ask i
  obtain ⟨v, h2, h3, e1, e2, i3, t3, l3⟩ := S
  have w1 := am_evm_lw hG e1
  have s2 := s.lw hG w1
  have hG2 : G 0 ≤ am_top h2 := Nat.le_trans hG w1.1
  have s3 := s2.lw hG2 (am_evm_lw hG2 e2)
  refine ⟨h3, ?_, i3, s3, t3, l3⟩
  have ox : am_ob G h o 8 := co_ob i.1.2.2.1
  have om : am_ob G h2 m 9 := ob_lw (cm_ob i.1.2.1) w1
  have a1 : nI q + 1 = nI (q + 1) := nI_add q 1
  have sa1 := s.ia (show q + 1 < L by omega) hL
  have s2a1 := s2.ia (show q + 1 < L by omega) hL
  have a2 : nI q + 2 = nI (q + 2) := nI_add q 2
  have sa2 := s.ia (show q + 2 < L by omega) hL
  have s2a2 := s2.ia (show q + 2 < L by omega) hL
  have c := s.2.2
  have c2 := s2.2.2
  rw [e_0_1299]
  simp only [e_0_1300, e_0_1301, e_0_1302, e_0_1303, e_0_1304, e_0_1305, e_0_1306, e_0_1307, e_0_1308, e_0_1309, e_0_1310, e_0_1313, e_0_1314, e_0_1315, e_0_1316, e_0_1317, e_0_1318, e_0_1319, e_0_1320, e_0_1321, e_0_1322, e_0_1323, e_0_1324, e_0_1327, e_0_1330, f_0_1331, Option.bind_some, Option.toList_some, Option.toList_none, List.cons_append, List.nil_append, am_k1_i, am_k1_r, am_k1_u, am_k1_n, am_bo0, am_bo1, am_boi, am_ev_tb, am_tb_nil, am_rfs, am_rfn, eq_self, and_self, if_true, if_false, show ¬ (1 : Int32) = 0 from by decide, show ¬ (0 : Int32) = 1 from by decide, not_true, not_false_eq_true, and_true, true_and, and_false, false_and, or_true, true_or, or_false, false_or, a1, sa1, s2a1, am_cl (show q + 1 < 2147483648 by omega), a2, sa2, s2a2, am_cl (show q + 2 < 2147483648 by omega), c, c2, ox, om, e1, e2]
theorem law_35 (i : iv G h o m) (s : sc G h b L xs) (hq : q + 6 ≤ L) (hL : L ≤ 3072) : lc G h o m d b L q 1332 xs := by
  have hG : G 0 ≤ am_top h := by have := i.1.1.1; have := i.1.2.2.1.1.2.1; omega
  have S : sm G h o m d 109 217 [.int (xs (q + 1)), .int (xs (q + 2))] := s_item i
  obtain ⟨v, h2, h3, e1, e2, i3, t3, l3⟩ := S
  have w1 := am_evm_lw hG e1
  have s2 := s.lw hG w1
  have hG2 : G 0 ≤ am_top h2 := Nat.le_trans hG w1.1
  have s3 := s2.lw hG2 (am_evm_lw hG2 e2)
  refine ⟨h3, ?_, i3, s3, t3, l3⟩
  have ox : am_ob G h o 8 := co_ob i.1.2.2.1
  have om : am_ob G h2 m 9 := ob_lw (cm_ob i.1.2.1) w1
  have a1 : nI q + 1 = nI (q + 1) := nI_add q 1
  have sa1 := s.ia (show q + 1 < L by omega) hL
  have s2a1 := s2.ia (show q + 1 < L by omega) hL
  have a2 : nI q + 2 = nI (q + 2) := nI_add q 2
  have sa2 := s.ia (show q + 2 < L by omega) hL
  have s2a2 := s2.ia (show q + 2 < L by omega) hL
  have c := s.2.2
  have c2 := s2.2.2
  rw [e_0_1332]
  simp only [e_0_1333, e_0_1334, e_0_1335, e_0_1336, e_0_1337, e_0_1338, e_0_1339, e_0_1340, e_0_1341, e_0_1342, e_0_1343, e_0_1346, e_0_1347, e_0_1348, e_0_1349, e_0_1350, e_0_1351, e_0_1352, e_0_1353, e_0_1354, e_0_1355, e_0_1356, e_0_1357, e_0_1360, e_0_1363, f_0_1364, Option.bind_some, Option.toList_some, Option.toList_none, List.cons_append, List.nil_append, am_k1_i, am_k1_r, am_k1_u, am_k1_n, am_bo0, am_bo1, am_boi, am_ev_tb, am_tb_nil, am_rfs, am_rfn, eq_self, and_self, if_true, if_false, show ¬ (1 : Int32) = 0 from by decide, show ¬ (0 : Int32) = 1 from by decide, not_true, not_false_eq_true, and_true, true_and, and_false, false_and, or_true, true_or, or_false, false_or, a1, sa1, s2a1, am_cl (show q + 1 < 2147483648 by omega), a2, sa2, s2a2, am_cl (show q + 2 < 2147483648 by omega), c, c2, ox, om, e1, e2]
theorem law_36 (i : iv G h o m) (s : sc G h b L xs) (hq : q + 6 ≤ L) (hL : L ≤ 3072) : lc G h o m d b L q 1365 xs := by
  have hG : G 0 ≤ am_top h := by have := i.1.1.1; have := i.1.2.2.1.1.2.1; omega
  have S : sm G h o m d 110 218 [.int (xs (q + 1)), .int (xs (q + 2))] := s_rest i
  obtain ⟨v, h2, h3, e1, e2, i3, t3, l3⟩ := S
  have w1 := am_evm_lw hG e1
  have s2 := s.lw hG w1
  have hG2 : G 0 ≤ am_top h2 := Nat.le_trans hG w1.1
  have s3 := s2.lw hG2 (am_evm_lw hG2 e2)
  refine ⟨h3, ?_, i3, s3, t3, l3⟩
  have ox : am_ob G h o 8 := co_ob i.1.2.2.1
  have om : am_ob G h2 m 9 := ob_lw (cm_ob i.1.2.1) w1
  have a1 : nI q + 1 = nI (q + 1) := nI_add q 1
  have sa1 := s.ia (show q + 1 < L by omega) hL
  have s2a1 := s2.ia (show q + 1 < L by omega) hL
  have a2 : nI q + 2 = nI (q + 2) := nI_add q 2
  have sa2 := s.ia (show q + 2 < L by omega) hL
  have s2a2 := s2.ia (show q + 2 < L by omega) hL
  have c := s.2.2
  have c2 := s2.2.2
  rw [e_0_1365]
  simp only [e_0_1366, e_0_1367, e_0_1368, e_0_1369, e_0_1370, e_0_1371, e_0_1372, e_0_1373, e_0_1374, e_0_1375, e_0_1376, e_0_1379, e_0_1380, e_0_1381, e_0_1382, e_0_1383, e_0_1384, e_0_1385, e_0_1386, e_0_1387, e_0_1388, e_0_1389, e_0_1390, e_0_1393, e_0_1396, f_0_1397, Option.bind_some, Option.toList_some, Option.toList_none, List.cons_append, List.nil_append, am_k1_i, am_k1_r, am_k1_u, am_k1_n, am_bo0, am_bo1, am_boi, am_ev_tb, am_tb_nil, am_rfs, am_rfn, eq_self, and_self, if_true, if_false, show ¬ (1 : Int32) = 0 from by decide, show ¬ (0 : Int32) = 1 from by decide, not_true, not_false_eq_true, and_true, true_and, and_false, false_and, or_true, true_or, or_false, false_or, a1, sa1, s2a1, am_cl (show q + 1 < 2147483648 by omega), a2, sa2, s2a2, am_cl (show q + 2 < 2147483648 by omega), c, c2, ox, om, e1, e2]
theorem law_37 (i : iv G h o m) (s : sc G h b L xs) (hq : q + 6 ≤ L) (hL : L ≤ 3072) : lc G h o m d b L q 1398 xs := by
  have hG : G 0 ≤ am_top h := by have := i.1.1.1; have := i.1.2.2.1.1.2.1; omega
  have S : sm G h o m d 111 219 [.int (xs (q + 1))] := s_tell i
  obtain ⟨v, h2, h3, e1, e2, i3, t3, l3⟩ := S
  have w1 := am_evm_lw hG e1
  have s2 := s.lw hG w1
  have hG2 : G 0 ≤ am_top h2 := Nat.le_trans hG w1.1
  have s3 := s2.lw hG2 (am_evm_lw hG2 e2)
  refine ⟨h3, ?_, i3, s3, t3, l3⟩
  have ox : am_ob G h o 8 := co_ob i.1.2.2.1
  have om : am_ob G h2 m 9 := ob_lw (cm_ob i.1.2.1) w1
  have a1 : nI q + 1 = nI (q + 1) := nI_add q 1
  have sa1 := s.ia (show q + 1 < L by omega) hL
  have s2a1 := s2.ia (show q + 1 < L by omega) hL
  have c := s.2.2
  have c2 := s2.2.2
  rw [e_0_1398]
  simp only [e_0_1399, e_0_1400, e_0_1401, e_0_1402, e_0_1403, e_0_1404, e_0_1407, e_0_1408, e_0_1409, e_0_1410, e_0_1411, e_0_1412, e_0_1413, e_0_1416, e_0_1419, f_0_1420, Option.bind_some, Option.toList_some, Option.toList_none, List.cons_append, List.nil_append, am_k1_i, am_k1_r, am_k1_u, am_k1_n, am_bo0, am_bo1, am_boi, am_ev_tb, am_tb_nil, am_rfs, am_rfn, eq_self, and_self, if_true, if_false, show ¬ (1 : Int32) = 0 from by decide, show ¬ (0 : Int32) = 1 from by decide, not_true, not_false_eq_true, and_true, true_and, and_false, false_and, or_true, true_or, or_false, false_or, a1, sa1, s2a1, am_cl (show q + 1 < 2147483648 by omega), c, c2, ox, om, e1, e2]
theorem law_38 (i : iv G h o m) (s : sc G h b L xs) (hq : q + 6 ≤ L) (hL : L ≤ 3072) : lc G h o m d b L q 1421 xs := by
  have hG : G 0 ≤ am_top h := by have := i.1.1.1; have := i.1.2.2.1.1.2.1; omega
  have S : sm G h o m d 112 221 [.int (xs (q + 1)), .int (xs (q + 2))] := s_check i
  obtain ⟨v, h2, h3, e1, e2, i3, t3, l3⟩ := S
  have w1 := am_evm_lw hG e1
  have s2 := s.lw hG w1
  have hG2 : G 0 ≤ am_top h2 := Nat.le_trans hG w1.1
  have s3 := s2.lw hG2 (am_evm_lw hG2 e2)
  refine ⟨h3, ?_, i3, s3, t3, l3⟩
  have ox : am_ob G h o 8 := co_ob i.1.2.2.1
  have om : am_ob G h2 m 9 := ob_lw (cm_ob i.1.2.1) w1
  have a1 : nI q + 1 = nI (q + 1) := nI_add q 1
  have sa1 := s.ia (show q + 1 < L by omega) hL
  have s2a1 := s2.ia (show q + 1 < L by omega) hL
  have a2 : nI q + 2 = nI (q + 2) := nI_add q 2
  have sa2 := s.ia (show q + 2 < L by omega) hL
  have s2a2 := s2.ia (show q + 2 < L by omega) hL
  have c := s.2.2
  have c2 := s2.2.2
  rw [e_0_1421]
  simp only [e_0_1422, e_0_1423, e_0_1424, e_0_1425, e_0_1426, e_0_1427, e_0_1428, e_0_1429, e_0_1430, e_0_1431, e_0_1432, e_0_1435, e_0_1436, e_0_1437, e_0_1438, e_0_1439, e_0_1440, e_0_1441, e_0_1442, e_0_1443, e_0_1444, e_0_1445, e_0_1446, e_0_1449, e_0_1452, f_0_1453, Option.bind_some, Option.toList_some, Option.toList_none, List.cons_append, List.nil_append, am_k1_i, am_k1_r, am_k1_u, am_k1_n, am_bo0, am_bo1, am_boi, am_ev_tb, am_tb_nil, am_rfs, am_rfn, eq_self, and_self, if_true, if_false, show ¬ (1 : Int32) = 0 from by decide, show ¬ (0 : Int32) = 1 from by decide, not_true, not_false_eq_true, and_true, true_and, and_false, false_and, or_true, true_or, or_false, false_or, a1, sa1, s2a1, am_cl (show q + 1 < 2147483648 by omega), a2, sa2, s2a2, am_cl (show q + 2 < 2147483648 by omega), c, c2, ox, om, e1, e2]
theorem law_39 (i : iv G h o m) (s : sc G h b L xs) (hq : q + 6 ≤ L) (hL : L ≤ 3072) : lc G h o m d b L q 1454 xs := by
  have hG : G 0 ≤ am_top h := by have := i.1.1.1; have := i.1.2.2.1.1.2.1; omega
  have S : sm G h o m d 113 222 [] := s_keep i
  obtain ⟨v, h2, h3, e1, e2, i3, t3, l3⟩ := S
  have w1 := am_evm_lw hG e1
  have s2 := s.lw hG w1
  have hG2 : G 0 ≤ am_top h2 := Nat.le_trans hG w1.1
  have s3 := s2.lw hG2 (am_evm_lw hG2 e2)
  refine ⟨h3, ?_, i3, s3, t3, l3⟩
  have ox : am_ob G h o 8 := co_ob i.1.2.2.1
  have om : am_ob G h2 m 9 := ob_lw (cm_ob i.1.2.1) w1
  have c := s.2.2
  have c2 := s2.2.2
  rw [e_0_1454]
  simp only [e_0_1455, e_0_1458, e_0_1459, e_0_1462, e_0_1465, f_0_1466, Option.bind_some, Option.toList_some, Option.toList_none, List.cons_append, List.nil_append, am_k1_i, am_k1_r, am_k1_u, am_k1_n, am_bo0, am_bo1, am_boi, am_ev_tb, am_tb_nil, am_rfs, am_rfn, eq_self, and_self, if_true, if_false, show ¬ (1 : Int32) = 0 from by decide, show ¬ (0 : Int32) = 1 from by decide, not_true, not_false_eq_true, and_true, true_and, and_false, false_and, or_true, true_or, or_false, false_or, c, c2, ox, om, e1, e2]
theorem law_40 (i : iv G h o m) (s : sc G h b L xs) (hq : q + 6 ≤ L) (hL : L ≤ 3072) : lc G h o m d b L q 1467 xs := by
  have hG : G 0 ≤ am_top h := by have := i.1.1.1; have := i.1.2.2.1.1.2.1; omega
  have S : sm G h o m d 114 223 [] := s_back i
  obtain ⟨v, h2, h3, e1, e2, i3, t3, l3⟩ := S
  have w1 := am_evm_lw hG e1
  have s2 := s.lw hG w1
  have hG2 : G 0 ≤ am_top h2 := Nat.le_trans hG w1.1
  have s3 := s2.lw hG2 (am_evm_lw hG2 e2)
  refine ⟨h3, ?_, i3, s3, t3, l3⟩
  have ox : am_ob G h o 8 := co_ob i.1.2.2.1
  have om : am_ob G h2 m 9 := ob_lw (cm_ob i.1.2.1) w1
  have c := s.2.2
  have c2 := s2.2.2
  rw [e_0_1467]
  simp only [e_0_1468, e_0_1471, e_0_1472, e_0_1475, e_0_1478, f_0_1479, Option.bind_some, Option.toList_some, Option.toList_none, List.cons_append, List.nil_append, am_k1_i, am_k1_r, am_k1_u, am_k1_n, am_bo0, am_bo1, am_boi, am_ev_tb, am_tb_nil, am_rfs, am_rfn, eq_self, and_self, if_true, if_false, show ¬ (1 : Int32) = 0 from by decide, show ¬ (0 : Int32) = 1 from by decide, not_true, not_false_eq_true, and_true, true_and, and_false, false_and, or_true, true_or, or_false, false_or, c, c2, ox, om, e1, e2]
theorem law_41 (i : iv G h o m) (s : sc G h b L xs) (hq : q + 6 ≤ L) (hL : L ≤ 3072) : lc G h o m d b L q 1480 xs := by
  have hG : G 0 ≤ am_top h := by have := i.1.1.1; have := i.1.2.2.1.1.2.1; omega
  have S : sm G h o m d 115 225 [.int (xs (q + 1))] := s_count i
  obtain ⟨v, h2, h3, e1, e2, i3, t3, l3⟩ := S
  have w1 := am_evm_lw hG e1
  have s2 := s.lw hG w1
  have hG2 : G 0 ≤ am_top h2 := Nat.le_trans hG w1.1
  have s3 := s2.lw hG2 (am_evm_lw hG2 e2)
  refine ⟨h3, ?_, i3, s3, t3, l3⟩
  have ox : am_ob G h o 8 := co_ob i.1.2.2.1
  have om : am_ob G h2 m 9 := ob_lw (cm_ob i.1.2.1) w1
  have a1 : nI q + 1 = nI (q + 1) := nI_add q 1
  have sa1 := s.ia (show q + 1 < L by omega) hL
  have s2a1 := s2.ia (show q + 1 < L by omega) hL
  have c := s.2.2
  have c2 := s2.2.2
  rw [e_0_1480]
  simp only [e_0_1481, e_0_1482, e_0_1483, e_0_1484, e_0_1485, e_0_1486, e_0_1489, e_0_1490, e_0_1491, e_0_1492, e_0_1493, e_0_1494, e_0_1495, e_0_1498, e_0_1501, f_0_1502, Option.bind_some, Option.toList_some, Option.toList_none, List.cons_append, List.nil_append, am_k1_i, am_k1_r, am_k1_u, am_k1_n, am_bo0, am_bo1, am_boi, am_ev_tb, am_tb_nil, am_rfs, am_rfn, eq_self, and_self, if_true, if_false, show ¬ (1 : Int32) = 0 from by decide, show ¬ (0 : Int32) = 1 from by decide, not_true, not_false_eq_true, and_true, true_and, and_false, false_and, or_true, true_or, or_false, false_or, a1, sa1, s2a1, am_cl (show q + 1 < 2147483648 by omega), c, c2, ox, om, e1, e2]
theorem law_x {x : Int32} (hx : ∀ k : Nat, k < 42 → ¬ x = nI k) : am_tb x [(0, 216), (1, 249), (2, 282), (3, 315), (4, 348), (5, 381), (6, 424), (7, 467), (8, 510), (9, 533), (10, 556), (11, 599), (12, 632), (13, 655), (14, 678), (15, 721), (16, 754), (17, 787), (18, 820), (19, 833), (20, 856), (21, 879), (22, 913), (23, 926), (24, 969), (25, 992), (26, 1005), (27, 1038), (28, 1061), (29, 1104), (30, 1147), (31, 1170), (32, 1193), (33, 1256), (34, 1299), (35, 1332), (36, 1365), (37, 1398), (38, 1421), (39, 1454), (40, 1467), (41, 1480)] 1503 = 1503 := by
  have h : ∀ (l : List (Int32 × Nat)), (∀ p ∈ l, ¬ x = p.1) → am_tb x l 1503 = 1503 := by
    intro l
    induction l with
    | nil => intro _; rfl
    | cons p r ih =>
      intro hp
      show (if x = p.1 then p.2 else am_tb x r 1503) = 1503
      rw [if_neg (hp p List.mem_cons_self)]
      exact ih (fun y hy => hp y (List.mem_cons_of_mem _ hy))
  refine h _ (fun p hp => ?_)
  obtain ⟨k, hk, e⟩ : ∃ k : Nat, k < 42 ∧ p.1 = nI k := by
    have : ∀ p ∈ ([(0, 216), (1, 249), (2, 282), (3, 315), (4, 348), (5, 381), (6, 424), (7, 467), (8, 510), (9, 533), (10, 556), (11, 599), (12, 632), (13, 655), (14, 678), (15, 721), (16, 754), (17, 787), (18, 820), (19, 833), (20, 856), (21, 879), (22, 913), (23, 926), (24, 969), (25, 992), (26, 1005), (27, 1038), (28, 1061), (29, 1104), (30, 1147), (31, 1170), (32, 1193), (33, 1256), (34, 1299), (35, 1332), (36, 1365), (37, 1398), (38, 1421), (39, 1454), (40, 1467), (41, 1480)] : List (Int32 × Nat)), ∃ k, k < 42 ∧ p.1 = nI k := by decide
    exact this p hp
  rw [e]
  exact hx k hk
/-- one word of the script -/
theorem law_w (i : iv G h o m) (s : sc G h b L xs) (hq : q + 6 ≤ L) (hL : L ≤ 3072) : ∃ h3, am_ev G (d + 201) 0 27 [some (.ref b), some (.ref o), some (.ref m), some (.int (nI q))] [] h = am_ev G (d + 201) 0 1503 [some (.ref b), some (.ref o), some (.ref m), some (.int (nI q))] [] h3 ∧ iv G h3 o m ∧ sc G h3 b L xs ∧ am_top h3 ≤ am_top h + 2 ∧ am_sl h3 ≤ am_sl h + 120 := by
  have a0 := s.ia (show q < L by omega) hL
  have c := s.2.2
  have e0 : am_ev G (d + 201) 0 27 [some (.ref b), some (.ref o), some (.ref m), some (.int (nI q))] [] h = am_ev G (d + 201) 0 (am_tb (xs q &&& 63) [(0, 216), (1, 249), (2, 282), (3, 315), (4, 348), (5, 381), (6, 424), (7, 467), (8, 510), (9, 533), (10, 556), (11, 599), (12, 632), (13, 655), (14, 678), (15, 721), (16, 754), (17, 787), (18, 820), (19, 833), (20, 856), (21, 879), (22, 913), (23, 926), (24, 969), (25, 992), (26, 1005), (27, 1038), (28, 1061), (29, 1104), (30, 1147), (31, 1170), (32, 1193), (33, 1256), (34, 1299), (35, 1332), (36, 1365), (37, 1398), (38, 1421), (39, 1454), (40, 1467), (41, 1480)] 1503) [some (.ref b), some (.ref o), some (.ref m), some (.int (nI q))] [] h := by
    rw [e_0_27]
    simp only [e_0_28, e_0_29, e_0_30, e_0_32, e_0_33, Option.bind_some, a0, c, am_cl (show q < 2147483648 by omega)]
  rw [e0]
  by_cases hx : ∃ k : Nat, k < 42 ∧ xs q &&& 63 = nI k
  · obtain ⟨k, hk, e⟩ := hx
    rw [e]
    match k, hk with
    | 0, _ => exact law_0 i s hq hL
    | 1, _ => exact law_1 i s hq hL
    | 2, _ => exact law_2 i s hq hL
    | 3, _ => exact law_3 i s hq hL
    | 4, _ => exact law_4 i s hq hL
    | 5, _ => exact law_5 i s hq hL
    | 6, _ => exact law_6 i s hq hL
    | 7, _ => exact law_7 i s hq hL
    | 8, _ => exact law_8 i s hq hL
    | 9, _ => exact law_9 i s hq hL
    | 10, _ => exact law_10 i s hq hL
    | 11, _ => exact law_11 i s hq hL
    | 12, _ => exact law_12 i s hq hL
    | 13, _ => exact law_13 i s hq hL
    | 14, _ => exact law_14 i s hq hL
    | 15, _ => exact law_15 i s hq hL
    | 16, _ => exact law_16 i s hq hL
    | 17, _ => exact law_17 i s hq hL
    | 18, _ => exact law_18 i s hq hL
    | 19, _ => exact law_19 i s hq hL
    | 20, _ => exact law_20 i s hq hL
    | 21, _ => exact law_21 i s hq hL
    | 22, _ => exact law_22 i s hq hL
    | 23, _ => exact law_23 i s hq hL
    | 24, _ => exact law_24 i s hq hL
    | 25, _ => exact law_25 i s hq hL
    | 26, _ => exact law_26 i s hq hL
    | 27, _ => exact law_27 i s hq hL
    | 28, _ => exact law_28 i s hq hL
    | 29, _ => exact law_29 i s hq hL
    | 30, _ => exact law_30 i s hq hL
    | 31, _ => exact law_31 i s hq hL
    | 32, _ => exact law_32 i s hq hL
    | 33, _ => exact law_33 i s hq hL
    | 34, _ => exact law_34 i s hq hL
    | 35, _ => exact law_35 i s hq hL
    | 36, _ => exact law_36 i s hq hL
    | 37, _ => exact law_37 i s hq hL
    | 38, _ => exact law_38 i s hq hL
    | 39, _ => exact law_39 i s hq hL
    | 40, _ => exact law_40 i s hq hL
    | 41, _ => exact law_41 i s hq hL
    | n + 42, hk => omega
  · rw [law_x (fun k hk z => hx ⟨k, hk, z⟩)]
    exact ⟨h, rfl, i, s, by omega, by omega⟩
theorem law_l (hL : L ≤ 3072) : ∀ r q h, L ≤ q + 6 * r → q ≤ 3078 → iv G h o m → sc G h b L xs → ∃ h9, am_ev G (d + 201) 0 18 [some (.ref b), some (.ref o), some (.ref m), some (.int (nI q))] [] h = some (some (.int 1), h9) ∧ am_top h9 ≤ am_top h + 2 * r ∧ am_sl h9 ≤ am_sl h + 120 * r := by
  intro r
  induction r with
  | zero =>
    intro q h hr hq i s
    have hal : am_al G h b := Or.inr ⟨s.1, by rw [s.2.1]; exact ⟨by show 30 ≤ 30; omega, by show 30 ≤ 32; omega⟩⟩
    have hlen : Int32.ofNat (am_sh h b).2 = nI L := by rw [s.2.1]; rfl
    have hlt : nI L - 6 < nI q := by
      rw [Int32.lt_iff_toInt_lt, show (6 : Int32) = nI 6 from rfl, pk_sub_toInt (by omega) (by omega), nI_toInt (by omega)]
      omega
    refine ⟨h, ?_, by omega, by omega⟩
    rw [e_0_18]
    simp only [e_0_19, e_0_20, e_0_21, e_0_23, e_0_24, e_0_1509, f_0_1510, Option.bind_some, Option.toList_some, Option.toList_none, List.cons_append, List.nil_append, am_k1_i, am_k1_r, am_k1_u, am_k1_n, am_bo0, am_bo1, am_boi, am_ev_tb, am_tb_nil, am_rfs, am_rfn, eq_self, and_self, if_true, if_false, show ¬ (1 : Int32) = 0 from by decide, show ¬ (0 : Int32) = 1 from by decide, not_true, not_false_eq_true, and_true, true_and, and_false, false_and, or_true, true_or, or_false, false_or, hal, hlen, hlt]
  | succ r ih =>
    intro q h hr hq i s
    have hal : am_al G h b := Or.inr ⟨s.1, by rw [s.2.1]; exact ⟨by show 30 ≤ 30; omega, by show 30 ≤ 32; omega⟩⟩
    have hlen : Int32.ofNat (am_sh h b).2 = nI L := by rw [s.2.1]; rfl
    by_cases hge : q + 6 ≤ L
    · have hlt : ¬ nI L - 6 < nI q := by
        rw [Int32.lt_iff_toInt_lt, show (6 : Int32) = nI 6 from rfl, pk_sub_toInt (by omega) (by omega), nI_toInt (by omega)]
        omega
      obtain ⟨h3, e3, i3, s3, t3, l3⟩ := law_w (d := d) i s hge hL
      obtain ⟨h9, e9, t9, l9⟩ := ih (q + 6) h3 (by omega) (by omega) i3 s3
      refine ⟨h9, ?_, by omega, by omega⟩
      have a6 : nI q + 6 = nI (q + 6) := nI_add q 6
      rw [← e9, e_0_18]
      simp only [e_0_19, e_0_20, e_0_21, e_0_23, e_0_24, Option.bind_some, Option.toList_some, Option.toList_none, List.cons_append, List.nil_append, am_k1_i, am_k1_r, am_k1_u, am_k1_n, am_bo0, am_bo1, am_boi, am_ev_tb, am_tb_nil, am_rfs, am_rfn, eq_self, and_self, if_true, if_false, show ¬ (1 : Int32) = 0 from by decide, show ¬ (0 : Int32) = 1 from by decide, not_true, not_false_eq_true, and_true, true_and, and_false, false_and, or_true, true_or, or_false, false_or, hal, hlen, hlt]
      rw [e3]
      simp only [f_0_1503, e_0_1506, Option.bind_some, Option.toList_some, Option.toList_none, List.cons_append, List.nil_append, am_k1_i, am_k1_r, am_k1_u, am_k1_n, am_bo0, am_bo1, am_boi, am_ev_tb, am_tb_nil, am_rfs, am_rfn, eq_self, and_self, if_true, if_false, show ¬ (1 : Int32) = 0 from by decide, show ¬ (0 : Int32) = 1 from by decide, not_true, not_false_eq_true, and_true, true_and, and_false, false_and, or_true, true_or, or_false, false_or, a6]
    · have hlt : nI L - 6 < nI q := by
        rw [Int32.lt_iff_toInt_lt, show (6 : Int32) = nI 6 from rfl, pk_sub_toInt (by omega) (by omega), nI_toInt (by omega)]
        omega
      refine ⟨h, ?_, by omega, by omega⟩
      rw [e_0_18]
      simp only [e_0_19, e_0_20, e_0_21, e_0_23, e_0_24, e_0_1509, f_0_1510, Option.bind_some, Option.toList_some, Option.toList_none, List.cons_append, List.nil_append, am_k1_i, am_k1_r, am_k1_u, am_k1_n, am_bo0, am_bo1, am_boi, am_ev_tb, am_tb_nil, am_rfs, am_rfn, eq_self, and_self, if_true, if_false, show ¬ (1 : Int32) = 0 from by decide, show ¬ (0 : Int32) = 1 from by decide, not_true, not_false_eq_true, and_true, true_and, and_false, false_and, or_true, true_or, or_false, false_or, hal, hlen, hlt]
end LC
