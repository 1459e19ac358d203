/-! slots on both sides -/
section SL
variable {G : Nat → Nat} {h h3 : am_H} {o m d : Nat} {S : Nat → Prop}
theorem c_findingFor {x : Nat} {w : Int32} (hx : am_ob G h x 5) : am_evm G d 66 [.ref x, .int w] h = some (some (.int (if am_i h x 3 = 0 then -1000000011 else if am_i h x 3 = w then 0 else -1000000012)), h) := by
  by_cases h0 : am_i h x 3 = 0
  · simp only [n_66, e_66_0, e_66_1, e_66_4, e_66_7, e_66_9, e_66_10, e_66_11, e_66_14, e_66_15, e_66_18, e_66_19, e_66_24, e_66_22, Option.bind_some, Option.toList_some, Option.toList_none, List.cons_append, List.nil_append, am_k1_i, am_k1_r, am_k1_u, am_k1_n, am_bo0, am_bo1, am_boi, am_ev_tb, am_tb_nil, am_rfs, am_rfn, eq_self, and_self, if_true, if_false, show ¬ (1 : Int32) = 0 from by decide, show ¬ (0 : Int32) = 1 from by decide, not_true, not_false_eq_true, and_true, true_and, and_false, false_and, or_true, true_or, or_false, false_or, hx, h0]
  · by_cases h1 : am_i h x 3 = w
    · subst h1
      simp only [n_66, e_66_0, e_66_1, e_66_4, e_66_7, e_66_9, e_66_10, e_66_11, e_66_14, e_66_15, e_66_18, e_66_19, e_66_24, e_66_22, Option.bind_some, Option.toList_some, Option.toList_none, List.cons_append, List.nil_append, am_k1_i, am_k1_r, am_k1_u, am_k1_n, am_bo0, am_bo1, am_boi, am_ev_tb, am_tb_nil, am_rfs, am_rfn, eq_self, and_self, if_true, if_false, show ¬ (1 : Int32) = 0 from by decide, show ¬ (0 : Int32) = 1 from by decide, not_true, not_false_eq_true, and_true, true_and, and_false, false_and, or_true, true_or, or_false, false_or, hx, h0]
    · simp only [n_66, e_66_0, e_66_1, e_66_4, e_66_7, e_66_9, e_66_10, e_66_11, e_66_14, e_66_15, e_66_18, e_66_19, e_66_24, e_66_22, Option.bind_some, Option.toList_some, Option.toList_none, List.cons_append, List.nil_append, am_k1_i, am_k1_r, am_k1_u, am_k1_n, am_bo0, am_bo1, am_boi, am_ev_tb, am_tb_nil, am_rfs, am_rfn, eq_self, and_self, if_true, if_false, show ¬ (1 : Int32) = 0 from by decide, show ¬ (0 : Int32) = 1 from by decide, not_true, not_false_eq_true, and_true, true_and, and_false, false_and, or_true, true_or, or_false, false_or, hx, h0, h1]
theorem iv_O.up (O : iv_O h o m) {i : Nat} (hr : ∀ k, k < 5 → k ≠ i → am_i h3 (o + 97 + 4 * k) = am_i h (o + 97 + 4 * k) ∧ am_i h3 (o + 98 + 4 * k) = am_i h (o + 98 + 4 * k) ∧ am_i h3 (o + 99 + 4 * k) = am_i h (o + 99 + 4 * k) ∧ am_i h3 (o + 100 + 4 * k) = am_i h (o + 100 + 4 * k) ∧ am_i h3 (m + 7) k = am_i h (m + 7) k ∧ am_i h3 (m + 8) k = am_i h (m + 8) k ∧ am_i h3 (m + 9) k = am_i h (m + 9) k ∧ am_i h3 (m + 10) k = am_i h (m + 10) k ∧ ∀ j, j < 24 → am_i h3 (m + 11) (24 * k + j) = am_i h (m + 11) (24 * k + j)) (hi : am_i h3 (o + 97 + 4 * i) 3 = am_i h3 (m + 7) i ∧ (am_i h3 (m + 7) i = 1 → ∃ k, k < 6 ∧ am_i h3 (o + 98 + 4 * i) 0 = nI k ∧ am_i h3 (m + 8) i = nI k ∧ am_i h3 (m + 9) i = mt_worth (nI k) (am_i h3 (o + 98 + 4 * i) 1)) ∧ (am_i h3 (m + 7) i = 2 → ∃ z, z ≤ 24 ∧ am_i h3 (o + 99 + 4 * i) 2 = nI z ∧ am_i h3 (m + 10) i = nI z ∧ ∀ k, k < 24 → am_i h3 (o + 100 + 4 * i) k = am_i h3 (m + 11) (24 * i + k)) ∧ (am_i h3 (m + 7) i = 3 → am_i h3 (o + 97 + 4 * i) 2 = am_i h3 (m + 8) i)) : iv_O h3 o m := by
  intro k hk
  by_cases e : k = i
  · subst e; exact hi
  · obtain ⟨a1, a2, a3, a4, a5, a6, a7, a8, a9⟩ := hr k hk e
    obtain ⟨b1, b2, b3, b4⟩ := O k hk
    rw [a1, a2, a3, a4, a5, a6, a7, a8]
    refine ⟨b1, b2, fun q => ?_, b4⟩
    obtain ⟨z, c1, c2, c3, c4⟩ := b3 q
    exact ⟨z, c1, c2, c3, fun j hj => by rw [a9 j hj]; exact c4 j hj⟩
theorem c_becomeS {x y xp yp : Nat} (hx : am_ob G h x 4) (hy : am_ob G h y 4) (rx : am_r h x 0 = some xp) (ry : am_r h y 0 = some yp) (sx : (G 0 ≤ xp ∧ xp < am_top h) ∧ am_sh h xp = (20, 24)) (sy : (G 0 ≤ yp ∧ yp < am_top h) ∧ am_sh h yp = (20, 24)) (n1 : y ≠ x) (n3 : xp ≠ x) (n5 : yp ≠ x) : ∃ h2, am_evm G (d + 1) 62 [.ref x, .ref y] h = some (none, h2) ∧ am_fr (fun c => c = x ∨ c = xp) h h2 ∧ am_i h2 x 2 = am_i h y 2 ∧ ∀ j, j < 24 → am_i h2 xp j = am_i h yp j := by
  have hcp : am_cp G (am_pi (am_pi h x 1 (am_i h y 1)) x 2 (am_i h y 2)) yp xp 0 0 24 := by
    have h1 : am_sh (am_pi (am_pi h x 1 (am_i h y 1)) x 2 (am_i h y 2)) = am_sh h := rfl
    refine ⟨⟨sy.1, by rw [h1, sy.2]⟩, ⟨sx.1, by rw [h1, sx.2]⟩, by decide, ?_, ?_⟩
    · rw [h1, sy.2]; decide
    · rw [h1, sx.2]; decide
  refine ⟨am_pa (am_pi (am_pi h x 1 (am_i h y 1)) x 2 (am_i h y 2)) xp (va_cpy (am_i (am_pi (am_pi h x 1 (am_i h y 1)) x 2 (am_i h y 2)) yp) (am_i (am_pi (am_pi h x 1 (am_i h y 1)) x 2 (am_i h y 2)) xp) 0 0 24), ?_, ((am_fr.pi (Or.inl rfl)).tr (am_fr.pi (Or.inl rfl))).tr (am_fr.pa (Or.inr rfl)), ?_, fun j hj => ?_⟩
  · simp only [n_62, e_62_0, e_62_1, e_62_2, e_62_5, e_62_8, e_62_9, e_62_10, e_62_13, e_62_16, e_62_17, e_62_20, e_62_21, e_62_22, e_62_25, e_62_26, e_62_28, e_62_31, Option.bind_some, Option.toList_some, Option.toList_none, List.cons_append, List.nil_append, am_k1_i, am_k1_r, am_k1_u, am_k1_n, am_bo0, am_bo1, am_boi, am_ev_tb, am_tb_nil, am_rfs, am_rfn, eq_self, and_self, if_true, if_false, show ¬ (1 : Int32) = 0 from by decide, show ¬ (0 : Int32) = 1 from by decide, not_true, not_false_eq_true, and_true, true_and, and_false, false_and, or_true, true_or, or_false, false_or, hx, hy, am_ob_pi, am_pi_r, rx, ry, hcp, am_pi_i, n1, show ((0 : Int32)).toNatClampNeg = 0 from rfl, show ((24 : Int32)).toNatClampNeg = 24 from rfl]
  · rw [am_pa_i, if_neg (fun q => n3 q.symm), am_pi_i, if_pos ⟨rfl, rfl⟩]
  · rw [am_pa_i, if_pos rfl, pk_cpy_in (by omega) (by omega), (am_pi_o yp n5).1, (am_pi_o yp n5).1]
    congr 1
    omega
def lay_S (o m i : Nat) : Nat → Prop := fun b => b = o + 97 + 4 * i ∨ b = o + 98 + 4 * i ∨ b = o + 99 + 4 * i ∨ b = o + 100 + 4 * i ∨ b = m + 7 ∨ b = m + 8 ∨ b = m + 9 ∨ b = m + 10 ∨ b = m + 11
theorem sm_lay {h2 : am_H} {yc yr k : Nat} {v : Int32} {vs : List Value} (i : iv G h o m) (hk : k < 5) (e1 : am_evm G (d + 200) yc (.ref o :: vs) h = some (some (.int v), h2)) (e2 : am_evm G (d + 200) yr (.ref m :: vs) h2 = some (some (.int v), h3)) (f2 : am_fr (lay_S o m k) h h3) (O : iv_O h3 o m) : sm G h o m d yc yr vs := by
  have hm : m = o + 117 := i.1.1.2
  have N : ∀ b, (b < o + 97 + 4 * k ∨ o + 100 + 4 * k < b) → (b < m + 7 ∨ m + 11 < b) → ¬ lay_S o m k b := fun b h1 h2 z => by unfold lay_S at z; omega
  refine ⟨_, _, _, e1, e2, ?_, by rw [f2.1]; omega, by rw [f2.2.1]; omega⟩
  exact i.gen f2 (fun b hb => by unfold lay_S at hb; omega) (by rw [f2.i1 (N _ (by omega) (by omega))]) (by rw [f2.i1 (N _ (by omega) (by omega))]) (i.2.2.2.1.fr f2 (N _ (by omega) (by omega)) (N _ (by omega) (by omega)) (N _ (by omega) (by omega)) (N _ (by omega) (by omega))) (i.2.2.2.2.1.fr f2 (fun k h1 h2 => N _ (by omega) (by omega)) (N _ (by omega) (by omega)) (N _ (by omega) (by omega)) (N _ (by omega) (by omega))) O (i.2.2.2.2.2.2.fr f2 (N _ (by omega) (by omega)) (N _ (by omega) (by omega)) (N _ (by omega) (by omega)) (N _ (by omega) (by omega)))
theorem s_layN (i : iv G h o m) {k : Nat} {t w : Int32} (hk : k < 5) (ht : t = 0 ∨ t = 3) : sm G h o m d 107 215 [.int (nI k), .int t, .int w] := by
  have lm := i.1.2.1
  have lo := i.1.2.2.1
  have hm : m = o + 117 := i.1.1.2
  have hi5 : 0 ≤ nI k ∧ nI k ≤ 4 := mt_ix5.mpr ⟨k, hk, rfl⟩
  have O := i.2.2.2.2.2.1 k hk
  have f1 : am_fr (lay_S o m k) h (am_pi (am_pi h (o + 97 + 4 * k) 3 t) (o + 97 + 4 * k) 2 w) := (am_fr.pi (Or.inl rfl)).tr (am_fr.pi (Or.inl rfl))
  have e2 := m_layN (d := d + 198) (lm.fr f1) hk (k := w) ht
  have g7 : am_i (am_pi (am_pi h (o + 97 + 4 * k) 3 t) (o + 97 + 4 * k) 2 w) (m + 7) = am_i h (m + 7) := by rw [(am_pi_o (m + 7) (by omega)).1, (am_pi_o (m + 7) (by omega)).1]
  rw [g7, ← O.1] at e2
  have f2 := f1.tr (((am_fr.pi (S := lay_S o m k) (a := m + 7) (k := k) (v := t) (Or.inr (Or.inr (Or.inr (Or.inr (Or.inl rfl)))))).tr (am_fr.pi (a := m + 8) (k := k) (v := w) (Or.inr (Or.inr (Or.inr (Or.inr (Or.inr (Or.inl rfl)))))))).tr (am_fr.pi (a := m + 9) (k := k) (v := 0) (Or.inr (Or.inr (Or.inr (Or.inr (Or.inr (Or.inr (Or.inl rfl)))))))))
  have N : ∀ b, (b < o + 97 + 4 * k ∨ o + 100 + 4 * k < b) → (b < m + 7 ∨ m + 11 < b) → ¬ lay_S o m k b := fun b h1 h2 z => by unfold lay_S at z; omega
  refine sm_lay i hk ?_ e2 f2 (i.2.2.2.2.2.1.up (i := k) (fun q hq hne => ⟨f2.i1 (N _ (by omega) (by omega)), f2.i1 (N _ (by omega) (by omega)), f2.i1 (N _ (by omega) (by omega)), f2.i1 (N _ (by omega) (by omega)), ?_, ?_, ?_, ?_, fun j hj => ?_⟩) ⟨?_, fun q => ?_, fun q => ?_, fun q => ?_⟩)
  · rcases ht with rfl | rfl
    · simp only [n_107, e_107_0, e_107_1, e_107_4, e_107_7, e_107_8, e_107_9, e_107_10, e_107_13, e_107_16, e_107_18, e_107_19, e_107_20, e_107_21, e_107_24, e_107_25, e_107_28, e_107_29, e_107_32, e_107_35, e_107_36, e_107_37, e_107_40, e_107_41, e_107_44, e_107_47, e_107_49, e_107_50, e_107_51, e_107_52, e_107_55, e_107_56, e_107_59, e_107_60, e_107_61, e_107_64, e_107_65, e_107_68, e_107_71, e_107_72, e_107_73, e_107_76, e_107_77, f_107_78, e_107_80, e_107_82, f_107_85, e_107_87, e_107_89, e_107_90, e_107_93, e_107_94, e_107_95, e_107_98, e_107_100, e_107_103, e_107_104, e_107_107, e_107_110, e_107_111, e_107_112, e_107_115, e_107_146, e_107_148, e_107_118, e_107_119, e_107_120, e_107_123, e_107_125, e_107_128, e_107_129, e_107_132, e_107_133, e_107_134, e_107_137, e_107_140, e_107_142, e_107_143, Option.bind_some, Option.toList_some, Option.toList_none, List.cons_append, List.nil_append, am_k1_i, am_k1_r, am_k1_u, am_k1_n, am_bo0, am_bo1, am_boi, am_ev_tb, am_tb_nil, am_rfs, am_rfn, eq_self, and_self, if_true, if_false, show ¬ (1 : Int32) = 0 from by decide, show ¬ (0 : Int32) = 1 from by decide, not_true, not_false_eq_true, and_true, true_and, and_false, false_and, or_true, true_or, or_false, false_or, c_isSlot, hi5, c_within, show (0 : Int32) ≤ 0 ∧ (0 : Int32) ≤ 3 from by decide, show ¬ (0 : Int32) = 2 from by decide, co_ob lo, co_r6 lo, co_o1 lo hk, am_cl (show k < 2147483648 by omega), co_o2 lo hk, co_o3 lo hk, am_ob_pi]
    · simp only [n_107, e_107_0, e_107_1, e_107_4, e_107_7, e_107_8, e_107_9, e_107_10, e_107_13, e_107_16, e_107_18, e_107_19, e_107_20, e_107_21, e_107_24, e_107_25, e_107_28, e_107_29, e_107_32, e_107_35, e_107_36, e_107_37, e_107_40, e_107_41, e_107_44, e_107_47, e_107_49, e_107_50, e_107_51, e_107_52, e_107_55, e_107_56, e_107_59, e_107_60, e_107_61, e_107_64, e_107_65, e_107_68, e_107_71, e_107_72, e_107_73, e_107_76, e_107_77, f_107_78, e_107_80, e_107_82, f_107_85, e_107_87, e_107_89, e_107_90, e_107_93, e_107_94, e_107_95, e_107_98, e_107_100, e_107_103, e_107_104, e_107_107, e_107_110, e_107_111, e_107_112, e_107_115, e_107_146, e_107_148, e_107_118, e_107_119, e_107_120, e_107_123, e_107_125, e_107_128, e_107_129, e_107_132, e_107_133, e_107_134, e_107_137, e_107_140, e_107_142, e_107_143, Option.bind_some, Option.toList_some, Option.toList_none, List.cons_append, List.nil_append, am_k1_i, am_k1_r, am_k1_u, am_k1_n, am_bo0, am_bo1, am_boi, am_ev_tb, am_tb_nil, am_rfs, am_rfn, eq_self, and_self, if_true, if_false, show ¬ (1 : Int32) = 0 from by decide, show ¬ (0 : Int32) = 1 from by decide, not_true, not_false_eq_true, and_true, true_and, and_false, false_and, or_true, true_or, or_false, false_or, c_isSlot, hi5, c_within, show (0 : Int32) ≤ 3 ∧ (3 : Int32) ≤ 3 from by decide, show ¬ (3 : Int32) = 2 from by decide, show ¬ (3 : Int32) = 1 from by decide, co_ob lo, co_r6 lo, co_o1 lo hk, am_cl (show k < 2147483648 by omega), co_o2 lo hk, co_o3 lo hk, am_ob_pi]
  · rw [am_pi_i, if_neg (by omega), am_pi_i, if_neg (by omega), am_pi_i, if_neg (by omega), am_pi_i, if_neg (by omega), am_pi_i, if_neg (by omega)]
  · rw [am_pi_i, if_neg (by omega), am_pi_i, if_neg (by omega), am_pi_i, if_neg (by omega), am_pi_i, if_neg (by omega), am_pi_i, if_neg (by omega)]
  · rw [am_pi_i, if_neg (by omega), am_pi_i, if_neg (by omega), am_pi_i, if_neg (by omega), am_pi_i, if_neg (by omega), am_pi_i, if_neg (by omega)]
  · rw [am_pi_i, if_neg (by omega), am_pi_i, if_neg (by omega), am_pi_i, if_neg (by omega), am_pi_i, if_neg (by omega), am_pi_i, if_neg (by omega)]
  · rw [am_pi_i, if_neg (by omega), am_pi_i, if_neg (by omega), am_pi_i, if_neg (by omega), am_pi_i, if_neg (by omega), am_pi_i, if_neg (by omega)]
  · rw [am_pi_i, if_neg (by omega), am_pi_i, if_neg (by omega), am_pi_i, if_neg (by omega), am_pi_i, if_neg (by omega), am_pi_i, if_pos ⟨rfl, rfl⟩, am_pi_i, if_neg (by omega), am_pi_i, if_neg (by omega), am_pi_i, if_pos ⟨rfl, rfl⟩]
  · rw [am_pi_i, if_neg (by omega), am_pi_i, if_neg (by omega), am_pi_i, if_pos ⟨rfl, rfl⟩] at q
    rcases ht with e | e <;> rw [e] at q <;> exact absurd q (by decide)
  · rw [am_pi_i, if_neg (by omega), am_pi_i, if_neg (by omega), am_pi_i, if_pos ⟨rfl, rfl⟩] at q
    rcases ht with e | e <;> rw [e] at q <;> exact absurd q (by decide)
  · rw [am_pi_i, if_neg (by omega), am_pi_i, if_neg (by omega), am_pi_i, if_neg (by omega), am_pi_i, if_pos ⟨rfl, rfl⟩, am_pi_i, if_neg (by omega), am_pi_i, if_pos ⟨rfl, rfl⟩]
theorem s_layP (i : iv G h o m) {k p n nd nt : Nat} (hk : k < 5) (hs : mt_wf (am_i h (m + 1)) n nd nt) (r : cl_R G h (o + 1) (am_i h (m + 1)) n nd nt) (hp : p < n) : sm G h o m d 107 215 [.int (nI k), .int 1, .int (nI p)] := by
  have lm := i.1.2.1
  have lo := i.1.2.2.1
  have hm : m = o + 117 := i.1.1.2
  have hn := hs.1.1.2
  have hi5 : 0 ≤ nI k ∧ nI k ≤ 4 := mt_ix5.mpr ⟨k, hk, rfl⟩
  have hin := mt_inP hs hp
  have O := i.2.2.2.2.2.1 k hk
  have f0 : am_fr (fun c => c = o + 97 + 4 * k) h (am_pi h (o + 97 + 4 * k) 3 1) := am_fr.pi rfl
  have lo0 := lo.fr f0
  have l0 := r.1.fr f0
  obtain ⟨h2, eb, fb, vb⟩ := c_becomeP (d := d + 199) (x := o + 98 + 4 * k) (y := o + 1 + 6 + p) (co_o6 lo0 hk) (ha_p3 l0 (show p < 12 by omega)) (by omega)
  have f1 : am_fr (lay_S o m k) h h2 := (f0.wd (fun b hb => Or.inl hb)).tr (fb.wd (fun b hb => Or.inr (Or.inl hb)))
  have g1 : am_i h2 (m + 1) = am_i h (m + 1) := by rw [fb.i1 (by omega), f0.i1 (by omega)]
  have g7 : am_i h2 (m + 7) = am_i h (m + 7) := by rw [fb.i1 (by omega), f0.i1 (by omega)]
  have e2 := m_layP (d := d + 198) (lm.fr f1) (σ := am_i h (m + 1)) g1 hk hs.1.1.1 hn hp
  rw [g7, ← O.1] at e2
  have vp : ∀ j, j < 6 → am_i h2 (o + 98 + 4 * k) j = am_i h (o + 1 + 6 + p) j := fun j hj => by rw [vb j hj, f0.i1 (by omega)]
  have f2 := f1.tr (((am_fr.pi (S := lay_S o m k) (a := m + 7) (k := k) (v := 1) (Or.inr (Or.inr (Or.inr (Or.inr (Or.inl rfl)))))).tr (am_fr.pi (a := m + 8) (k := k) (v := am_i h (m + 1) (6 + 5 * p + 0)) (Or.inr (Or.inr (Or.inr (Or.inr (Or.inr (Or.inl rfl)))))))).tr (am_fr.pi (a := m + 9) (k := k) (v := mt_worth (am_i h (m + 1) (6 + 5 * p + 0)) (am_i h (m + 1) (6 + 5 * p + 1))) (Or.inr (Or.inr (Or.inr (Or.inr (Or.inr (Or.inr (Or.inl rfl)))))))))
  have N : ∀ b, (b < o + 97 + 4 * k ∨ o + 100 + 4 * k < b) → (b < m + 7 ∨ m + 11 < b) → ¬ lay_S o m k b := fun b h1 h2 z => by unfold lay_S at z; omega
  have hM : ∀ b, m + 7 ≤ b → b ≤ m + 11 → am_i h2 b = am_i h b := fun b h1 h2 => by rw [fb.i1 (by omega), f0.i1 (by omega)]
  refine sm_lay i hk ?_ e2 f2 (i.2.2.2.2.2.1.up (i := k) (fun q hq hne => ⟨f2.i1 (N _ (by omega) (by omega)), f2.i1 (N _ (by omega) (by omega)), f2.i1 (N _ (by omega) (by omega)), f2.i1 (N _ (by omega) (by omega)), ?_, ?_, ?_, ?_, fun j hj => ?_⟩) ⟨?_, fun q => ?_, fun q => ?_, fun q => ?_⟩)
  · simp only [n_107, e_107_0, e_107_1, e_107_4, e_107_7, e_107_8, e_107_9, e_107_10, e_107_13, e_107_16, e_107_18, e_107_19, e_107_20, e_107_21, e_107_24, e_107_25, e_107_28, e_107_29, e_107_32, e_107_35, e_107_36, e_107_37, e_107_40, e_107_41, e_107_44, e_107_47, e_107_49, e_107_50, e_107_51, e_107_52, e_107_55, e_107_56, e_107_59, e_107_60, e_107_61, e_107_64, e_107_65, e_107_68, e_107_71, e_107_72, e_107_73, e_107_76, e_107_77, f_107_78, e_107_80, e_107_82, f_107_85, e_107_87, e_107_89, e_107_90, e_107_93, e_107_94, e_107_95, e_107_98, e_107_100, e_107_103, e_107_104, e_107_107, e_107_110, e_107_111, e_107_112, e_107_115, e_107_146, e_107_148, e_107_118, e_107_119, e_107_120, e_107_123, e_107_125, e_107_128, e_107_129, e_107_132, e_107_133, e_107_134, e_107_137, e_107_140, e_107_142, e_107_143, Option.bind_some, Option.toList_some, Option.toList_none, List.cons_append, List.nil_append, am_k1_i, am_k1_r, am_k1_u, am_k1_n, am_bo0, am_bo1, am_boi, am_ev_tb, am_tb_nil, am_rfs, am_rfn, eq_self, and_self, if_true, if_false, show ¬ (1 : Int32) = 0 from by decide, show ¬ (0 : Int32) = 1 from by decide, not_true, not_false_eq_true, and_true, true_and, and_false, false_and, or_true, true_or, or_false, false_or, c_isSlot, hi5, c_within, show (0 : Int32) ≤ 1 ∧ (1 : Int32) ≤ 3 from by decide, show ¬ (1 : Int32) = 2 from by decide, co_ob lo, co_r0 lo, ha_ob r.1, c_hasPerson r.1, r.2.1.1, hin, co_r6 lo, co_o1 lo hk, am_cl (show k < 2147483648 by omega), co_o2 lo hk, co_o3 lo hk, am_ob_pi, am_pi_r, co_o4 lo hk, ha_r0 l0, ha_p1 l0 (show p < 12 by omega), am_cl (show p < 2147483648 by omega), ha_ob l0, ha_r0 r.1, ha_p2 r.1 (show p < 12 by omega), co_o6 lo hk, eb]
  · rw [am_pi_i, if_neg (by omega), am_pi_i, if_neg (by omega), am_pi_i, if_neg (by omega), hM _ (by omega) (by omega)]
  · rw [am_pi_i, if_neg (by omega), am_pi_i, if_neg (by omega), am_pi_i, if_neg (by omega), hM _ (by omega) (by omega)]
  · rw [am_pi_i, if_neg (by omega), am_pi_i, if_neg (by omega), am_pi_i, if_neg (by omega), hM _ (by omega) (by omega)]
  · rw [am_pi_i, if_neg (by omega), am_pi_i, if_neg (by omega), am_pi_i, if_neg (by omega), hM _ (by omega) (by omega)]
  · rw [am_pi_i, if_neg (by omega), am_pi_i, if_neg (by omega), am_pi_i, if_neg (by omega), hM _ (by omega) (by omega)]
  · rw [am_pi_i, if_neg (by omega), am_pi_i, if_neg (by omega), am_pi_i, if_neg (by omega), am_pi_i, if_neg (by omega), am_pi_i, if_neg (by omega), am_pi_i, if_pos ⟨rfl, rfl⟩, fb.i1 (by omega), am_pi_i, if_pos ⟨rfl, rfl⟩]
  · obtain ⟨kk, hkk, ek⟩ := (hs.2.1 p hp).1
    refine ⟨kk, hkk, ?_, ?_, ?_⟩
    · rw [am_pi_i, if_neg (by omega), am_pi_i, if_neg (by omega), am_pi_i, if_neg (by omega), vp 0 (by omega), cr_p r hp (by omega), ek]
    · rw [am_pi_i, if_neg (by omega), am_pi_i, if_pos ⟨rfl, rfl⟩, ek]
    · rw [am_pi_i, if_pos ⟨rfl, rfl⟩, am_pi_i, if_neg (by omega), am_pi_i, if_neg (by omega), am_pi_i, if_neg (by omega), vp 1 (by omega), cr_p r hp (by omega), ek]
  · rw [am_pi_i, if_neg (by omega), am_pi_i, if_neg (by omega), am_pi_i, if_pos ⟨rfl, rfl⟩] at q
    exact absurd q (by decide)
  · rw [am_pi_i, if_neg (by omega), am_pi_i, if_neg (by omega), am_pi_i, if_pos ⟨rfl, rfl⟩] at q
    exact absurd q (by decide)
theorem s_layS (i : iv G h o m) {k p : Nat} (hk : k < 5) (hp : p < 4) (hms : ¬ am_i h (m + 4) p = -1) : sm G h o m d 107 215 [.int (nI k), .int 2, .int (nI p)] := by
  have lm := i.1.2.1
  have lo := i.1.2.2.1
  have hm : m = o + 117 := i.1.1.2
  have hi5 : 0 ≤ nI k ∧ nI k ≤ 4 := mt_ix5.mpr ⟨k, hk, rfl⟩
  have hi4 : 0 ≤ nI p ∧ nI p ≤ 3 := mt_ix4.mpr ⟨p, hp, rfl⟩
  have O := i.2.2.2.2.2.1 k hk
  obtain ⟨b1, b2, z, hz, b3, b4, b5⟩ := i.2.2.2.2.1 p hp
  have hms' : ¬ am_i h (m + 4) p < 0 := by
    rcases b2.resolve_left hms with e | e
    · rw [e]; decide
    · rw [e]; decide
  have f0 : am_fr (fun c => c = o + 97 + 4 * k) h (am_pi h (o + 97 + 4 * k) 3 2) := am_fr.pi rfl
  have lo0 := lo.fr f0
  obtain ⟨h2, eb, fb, vz, vb⟩ := c_becomeS (d := d + 198) (x := o + 99 + 4 * k) (y := o + 89 + 2 * p) (xp := o + 100 + 4 * k) (yp := o + 90 + 2 * p) (co_o7 lo0 hk) (co_s3 lo0 hp) (co_o8 lo0 hk) (co_s4 lo0 hp) ⟨by rw [Nat.add_assoc]; exact co_own lo0 (by omega), (lo0.2.2.2.2.2.2 k hk).2.2.2.2.2.2.2⟩ ⟨by rw [Nat.add_assoc]; exact co_own lo0 (by omega), (lo0.2.2.2.2.2.1 p hp).2.2.2⟩ (by omega) (by omega) (by omega)
  have f1 : am_fr (lay_S o m k) h h2 := (f0.wd (fun b hb => Or.inl hb)).tr (fb.wd (fun b hb => hb.elim (fun e => Or.inr (Or.inr (Or.inl e))) (fun e => Or.inr (Or.inr (Or.inr (Or.inl e))))))
  have hM : ∀ b, (m ≤ b ∨ b < o + 97) → am_i h2 b = am_i h b := fun b h1 => by rw [fb.i1 (by omega), f0.i1 (by omega)]
  have e2 := m_layS (d := d + 198) (lm.fr f1) hk hp (by rw [hM _ (by omega)]; exact hms')
  rw [hM (m + 5) (by omega), hM (m + 6) (by omega), hM (m + 7) (by omega), hM (m + 11) (by omega), ← O.1] at e2
  have f2 := f1.tr (((((am_fr.pi (S := lay_S o m k) (a := m + 7) (k := k) (v := 2) (Or.inr (Or.inr (Or.inr (Or.inr (Or.inl rfl)))))).tr (am_fr.pi (a := m + 8) (k := k) (v := nI p) (Or.inr (Or.inr (Or.inr (Or.inr (Or.inr (Or.inl rfl)))))))).tr (am_fr.pi (a := m + 9) (k := k) (v := 0) (Or.inr (Or.inr (Or.inr (Or.inr (Or.inr (Or.inr (Or.inl rfl))))))))).tr (am_fr.pi (a := m + 10) (k := k) (v := am_i h (m + 5) p) (Or.inr (Or.inr (Or.inr (Or.inr (Or.inr (Or.inr (Or.inr (Or.inl rfl)))))))))).tr (am_fr.pa (a := m + 11) (g := va_cpy (am_i h (m + 6)) (am_i h (m + 11)) (24 * p) (24 * k) 24) (Or.inr (Or.inr (Or.inr (Or.inr (Or.inr (Or.inr (Or.inr (Or.inr rfl))))))))))
  have N : ∀ b, (b < o + 97 + 4 * k ∨ o + 100 + 4 * k < b) → (b < m + 7 ∨ m + 11 < b) → ¬ lay_S o m k b := fun b h1 h2 z => by unfold lay_S at z; omega
  refine sm_lay i hk ?_ e2 f2 (i.2.2.2.2.2.1.up (i := k) (fun q hq hne => ⟨f2.i1 (N _ (by omega) (by omega)), f2.i1 (N _ (by omega) (by omega)), f2.i1 (N _ (by omega) (by omega)), f2.i1 (N _ (by omega) (by omega)), ?_, ?_, ?_, ?_, fun j hj => ?_⟩) ⟨?_, fun q => ?_, fun q => ⟨z, hz, ?_, ?_, fun j hj => ?_⟩, fun q => ?_⟩)
  · simp only [n_107, e_107_0, e_107_1, e_107_4, e_107_7, e_107_8, e_107_9, e_107_10, e_107_13, e_107_16, e_107_18, e_107_19, e_107_20, e_107_21, e_107_24, e_107_25, e_107_28, e_107_29, e_107_32, e_107_35, e_107_36, e_107_37, e_107_40, e_107_41, e_107_44, e_107_47, e_107_49, e_107_50, e_107_51, e_107_52, e_107_55, e_107_56, e_107_59, e_107_60, e_107_61, e_107_64, e_107_65, e_107_68, e_107_71, e_107_72, e_107_73, e_107_76, e_107_77, f_107_78, e_107_80, e_107_82, f_107_85, e_107_87, e_107_89, e_107_90, e_107_93, e_107_94, e_107_95, e_107_98, e_107_100, e_107_103, e_107_104, e_107_107, e_107_110, e_107_111, e_107_112, e_107_115, e_107_146, e_107_148, e_107_118, e_107_119, e_107_120, e_107_123, e_107_125, e_107_128, e_107_129, e_107_132, e_107_133, e_107_134, e_107_137, e_107_140, e_107_142, e_107_143, Option.bind_some, Option.toList_some, Option.toList_none, List.cons_append, List.nil_append, am_k1_i, am_k1_r, am_k1_u, am_k1_n, am_bo0, am_bo1, am_boi, am_ev_tb, am_tb_nil, am_rfs, am_rfn, eq_self, and_self, if_true, if_false, show ¬ (1 : Int32) = 0 from by decide, show ¬ (0 : Int32) = 1 from by decide, not_true, not_false_eq_true, and_true, true_and, and_false, false_and, or_true, true_or, or_false, false_or, c_isSlot, hi5, c_within, show (0 : Int32) ≤ 2 ∧ (2 : Int32) ≤ 3 from by decide, show ¬ (2 : Int32) = 1 from by decide, c_isSheet, hi4, co_ob lo, co_r5 lo, co_s1 lo hp, am_cl (show p < 2147483648 by omega), co_s2 lo hp, co_s3 lo hp, b1, hms, co_r6 lo, co_o1 lo hk, am_cl (show k < 2147483648 by omega), co_o2 lo hk, co_o3 lo hk, am_ob_pi, am_pi_r, co_o5 lo hk, co_s1 lo0 hp, co_o7 lo hk, eb]
  · rw [am_pa_i, if_neg (by omega)]
    rw [am_pi_i, if_neg (by omega), am_pi_i, if_neg (by omega), am_pi_i, if_neg (by omega), am_pi_i, if_neg (by omega), hM _ (by omega)]
  · rw [am_pa_i, if_neg (by omega)]
    rw [am_pi_i, if_neg (by omega), am_pi_i, if_neg (by omega), am_pi_i, if_neg (by omega), am_pi_i, if_neg (by omega), hM _ (by omega)]
  · rw [am_pa_i, if_neg (by omega)]
    rw [am_pi_i, if_neg (by omega), am_pi_i, if_neg (by omega), am_pi_i, if_neg (by omega), am_pi_i, if_neg (by omega), hM _ (by omega)]
  · rw [am_pa_i, if_neg (by omega)]
    rw [am_pi_i, if_neg (by omega), am_pi_i, if_neg (by omega), am_pi_i, if_neg (by omega), am_pi_i, if_neg (by omega), hM _ (by omega)]
  · rw [am_pa_i, if_pos rfl, pk_cpy_out (by omega)]
  · rw [am_pa_i, if_neg (by omega), am_pa_i, if_neg (by omega)]
    rw [am_pi_i, if_neg (by omega), am_pi_i, if_neg (by omega), am_pi_i, if_neg (by omega), am_pi_i, if_neg (by omega), am_pi_i, if_neg (by omega), am_pi_i, if_neg (by omega), am_pi_i, if_neg (by omega), am_pi_i, if_pos ⟨rfl, rfl⟩, fb.i1 (by omega), am_pi_i, if_pos ⟨rfl, rfl⟩]
  · rw [am_pa_i, if_neg (by omega)] at q
    rw [am_pi_i, if_neg (by omega), am_pi_i, if_neg (by omega), am_pi_i, if_neg (by omega), am_pi_i, if_pos ⟨rfl, rfl⟩] at q
    exact absurd q (by decide)
  · rw [am_pa_i, if_neg (by omega)]
    rw [am_pi_i, if_neg (by omega), am_pi_i, if_neg (by omega), am_pi_i, if_neg (by omega), am_pi_i, if_neg (by omega), vz, f0.i1 (by omega), b3]
  · rw [am_pa_i, if_neg (by omega)]
    rw [am_pi_i, if_pos ⟨rfl, rfl⟩, b4]
  · rw [am_pa_i, if_neg (by omega), am_pa_i, if_pos rfl]
    rw [am_pi_i, if_neg (by omega), am_pi_i, if_neg (by omega), am_pi_i, if_neg (by omega), am_pi_i, if_neg (by omega), vb j hj, f0.i1 (by omega), b5 j hj, pk_cpy_in (by omega) (by omega)]
    congr 1
    omega
  · rw [am_pa_i, if_neg (by omega)] at q
    rw [am_pi_i, if_neg (by omega), am_pi_i, if_neg (by omega), am_pi_i, if_neg (by omega), am_pi_i, if_pos ⟨rfl, rfl⟩] at q
    exact absurd q (by decide)
theorem s_lay (i : iv G h o m) {v t w : Int32} : sm G h o m d 107 215 [.int v, .int t, .int w] := by
  have lm := i.1.2.1
  have lo := i.1.2.2.1
  have hm : m = o + 117 := i.1.1.2
  obtain ⟨n, nd, nt, hs, r⟩ := i.2.1
  by_cases h1 : 0 ≤ v ∧ v ≤ 4
  · obtain ⟨k, hk, rfl⟩ := mt_ix5.mp h1
    by_cases h2 : 0 ≤ t ∧ t ≤ 3
    · obtain ⟨c, hc, rfl⟩ := mt_ix4.mp h2
      rcases (show c = 0 ∨ c = 1 ∨ c = 2 ∨ c = 3 by omega) with rfl | rfl | rfl | rfl
      · exact s_layN i hk (Or.inl rfl)
      · by_cases h3 : 0 ≤ w ∧ w ≤ am_i h (m + 1) 0 - 1
        · obtain ⟨p, hp, rfl⟩ := i.np hs h3
          exact s_layP i hk hs r hp
        · refine sm_same i ?_ (m_lay0 lm (fun q => ?_))
          · show am_evm G (d + 200) 107 [.ref o, .int (nI k), .int 1, .int w] h = _
            simp only [n_107, e_107_0, e_107_1, e_107_4, e_107_7, e_107_8, e_107_9, e_107_10, e_107_13, e_107_16, e_107_18, e_107_19, e_107_20, e_107_21, e_107_24, e_107_25, e_107_28, e_107_29, e_107_32, e_107_35, e_107_36, e_107_37, e_107_40, e_107_41, e_107_44, e_107_47, e_107_49, e_107_50, e_107_51, e_107_52, e_107_55, e_107_56, e_107_59, e_107_60, e_107_61, e_107_64, e_107_65, e_107_68, e_107_71, e_107_72, e_107_73, e_107_76, e_107_77, f_107_78, e_107_80, e_107_82, f_107_85, e_107_87, e_107_89, e_107_90, e_107_93, e_107_94, e_107_95, e_107_98, e_107_100, e_107_103, e_107_104, e_107_107, e_107_110, e_107_111, e_107_112, e_107_115, e_107_146, e_107_148, e_107_118, e_107_119, e_107_120, e_107_123, e_107_125, e_107_128, e_107_129, e_107_132, e_107_133, e_107_134, e_107_137, e_107_140, e_107_142, e_107_143, Option.bind_some, Option.toList_some, Option.toList_none, List.cons_append, List.nil_append, am_k1_i, am_k1_r, am_k1_u, am_k1_n, am_bo0, am_bo1, am_boi, am_ev_tb, am_tb_nil, am_rfs, am_rfn, eq_self, and_self, if_true, if_false, show ¬ (1 : Int32) = 0 from by decide, show ¬ (0 : Int32) = 1 from by decide, not_true, not_false_eq_true, and_true, true_and, and_false, false_and, or_true, true_or, or_false, false_or, c_isSlot, h1, c_within, show (0 : Int32) ≤ 1 ∧ (1 : Int32) ≤ 3 from by decide, co_ob lo, co_r0 lo, ha_ob r.1, c_hasPerson r.1, r.2.1.1, h3]
          · rcases q.2 with e | e | e | e
            · exact absurd e (by decide)
            · exact absurd e (by decide)
            · exact h3 e.2
            · exact absurd e.1 (by decide)
      · by_cases h3 : 0 ≤ w ∧ w ≤ 3
        · obtain ⟨p, hp, rfl⟩ := mt_ix4.mp h3
          by_cases h4 : am_i h (m + 4) p = -1
          · refine sm_same i ?_ (m_lay1 lm h1 hp (by rw [h4]; decide))
            have b1 := (i.2.2.2.2.1 p hp).1
            show am_evm G (d + 200) 107 [.ref o, .int (nI k), .int 2, .int (nI p)] h = _
            simp only [n_107, e_107_0, e_107_1, e_107_4, e_107_7, e_107_8, e_107_9, e_107_10, e_107_13, e_107_16, e_107_18, e_107_19, e_107_20, e_107_21, e_107_24, e_107_25, e_107_28, e_107_29, e_107_32, e_107_35, e_107_36, e_107_37, e_107_40, e_107_41, e_107_44, e_107_47, e_107_49, e_107_50, e_107_51, e_107_52, e_107_55, e_107_56, e_107_59, e_107_60, e_107_61, e_107_64, e_107_65, e_107_68, e_107_71, e_107_72, e_107_73, e_107_76, e_107_77, f_107_78, e_107_80, e_107_82, f_107_85, e_107_87, e_107_89, e_107_90, e_107_93, e_107_94, e_107_95, e_107_98, e_107_100, e_107_103, e_107_104, e_107_107, e_107_110, e_107_111, e_107_112, e_107_115, e_107_146, e_107_148, e_107_118, e_107_119, e_107_120, e_107_123, e_107_125, e_107_128, e_107_129, e_107_132, e_107_133, e_107_134, e_107_137, e_107_140, e_107_142, e_107_143, Option.bind_some, Option.toList_some, Option.toList_none, List.cons_append, List.nil_append, am_k1_i, am_k1_r, am_k1_u, am_k1_n, am_bo0, am_bo1, am_boi, am_ev_tb, am_tb_nil, am_rfs, am_rfn, eq_self, and_self, if_true, if_false, show ¬ (1 : Int32) = 0 from by decide, show ¬ (0 : Int32) = 1 from by decide, not_true, not_false_eq_true, and_true, true_and, and_false, false_and, or_true, true_or, or_false, false_or, c_isSlot, h1, c_within, show (0 : Int32) ≤ 2 ∧ (2 : Int32) ≤ 3 from by decide, show ¬ (2 : Int32) = 1 from by decide, c_isSheet, h3, co_ob lo, co_r5 lo, co_s1 lo hp, am_cl (show p < 2147483648 by omega), co_s2 lo hp, co_s3 lo hp, b1, h4]
          · exact s_layS i hk hp h4
        · refine sm_same i ?_ (m_lay0 lm (fun q => ?_))
          · show am_evm G (d + 200) 107 [.ref o, .int (nI k), .int 2, .int w] h = _
            simp only [n_107, e_107_0, e_107_1, e_107_4, e_107_7, e_107_8, e_107_9, e_107_10, e_107_13, e_107_16, e_107_18, e_107_19, e_107_20, e_107_21, e_107_24, e_107_25, e_107_28, e_107_29, e_107_32, e_107_35, e_107_36, e_107_37, e_107_40, e_107_41, e_107_44, e_107_47, e_107_49, e_107_50, e_107_51, e_107_52, e_107_55, e_107_56, e_107_59, e_107_60, e_107_61, e_107_64, e_107_65, e_107_68, e_107_71, e_107_72, e_107_73, e_107_76, e_107_77, f_107_78, e_107_80, e_107_82, f_107_85, e_107_87, e_107_89, e_107_90, e_107_93, e_107_94, e_107_95, e_107_98, e_107_100, e_107_103, e_107_104, e_107_107, e_107_110, e_107_111, e_107_112, e_107_115, e_107_146, e_107_148, e_107_118, e_107_119, e_107_120, e_107_123, e_107_125, e_107_128, e_107_129, e_107_132, e_107_133, e_107_134, e_107_137, e_107_140, e_107_142, e_107_143, Option.bind_some, Option.toList_some, Option.toList_none, List.cons_append, List.nil_append, am_k1_i, am_k1_r, am_k1_u, am_k1_n, am_bo0, am_bo1, am_boi, am_ev_tb, am_tb_nil, am_rfs, am_rfn, eq_self, and_self, if_true, if_false, show ¬ (1 : Int32) = 0 from by decide, show ¬ (0 : Int32) = 1 from by decide, not_true, not_false_eq_true, and_true, true_and, and_false, false_and, or_true, true_or, or_false, false_or, c_isSlot, h1, c_within, show (0 : Int32) ≤ 2 ∧ (2 : Int32) ≤ 3 from by decide, show ¬ (2 : Int32) = 1 from by decide, c_isSheet, h3]
          · rcases q.2 with e | e | e | e
            · exact absurd e (by decide)
            · exact absurd e (by decide)
            · exact absurd e.1 (by decide)
            · exact h3 e.2
      · exact s_layN i hk (Or.inr rfl)
    · refine sm_same i ?_ (m_lay0 lm (fun q => h2 ?_))
      · simp only [n_107, e_107_0, e_107_1, e_107_4, e_107_7, e_107_8, e_107_9, e_107_10, e_107_13, e_107_16, e_107_18, e_107_19, e_107_20, e_107_21, e_107_24, e_107_25, e_107_28, e_107_29, e_107_32, e_107_35, e_107_36, e_107_37, e_107_40, e_107_41, e_107_44, e_107_47, e_107_49, e_107_50, e_107_51, e_107_52, e_107_55, e_107_56, e_107_59, e_107_60, e_107_61, e_107_64, e_107_65, e_107_68, e_107_71, e_107_72, e_107_73, e_107_76, e_107_77, f_107_78, e_107_80, e_107_82, f_107_85, e_107_87, e_107_89, e_107_90, e_107_93, e_107_94, e_107_95, e_107_98, e_107_100, e_107_103, e_107_104, e_107_107, e_107_110, e_107_111, e_107_112, e_107_115, e_107_146, e_107_148, e_107_118, e_107_119, e_107_120, e_107_123, e_107_125, e_107_128, e_107_129, e_107_132, e_107_133, e_107_134, e_107_137, e_107_140, e_107_142, e_107_143, Option.bind_some, Option.toList_some, Option.toList_none, List.cons_append, List.nil_append, am_k1_i, am_k1_r, am_k1_u, am_k1_n, am_bo0, am_bo1, am_boi, am_ev_tb, am_tb_nil, am_rfs, am_rfn, eq_self, and_self, if_true, if_false, show ¬ (1 : Int32) = 0 from by decide, show ¬ (0 : Int32) = 1 from by decide, not_true, not_false_eq_true, and_true, true_and, and_false, false_and, or_true, true_or, or_false, false_or, c_isSlot, h1, c_within, h2]
      · rcases q.2 with e | e | e | e
        · rw [e]; decide
        · rw [e]; decide
        · rw [e.1]; decide
        · rw [e.1]; decide
  · refine sm_same i ?_ (m_lay0 lm (fun q => h1 q.1))
    simp only [n_107, e_107_0, e_107_1, e_107_4, e_107_7, e_107_8, e_107_9, e_107_10, e_107_13, e_107_16, e_107_18, e_107_19, e_107_20, e_107_21, e_107_24, e_107_25, e_107_28, e_107_29, e_107_32, e_107_35, e_107_36, e_107_37, e_107_40, e_107_41, e_107_44, e_107_47, e_107_49, e_107_50, e_107_51, e_107_52, e_107_55, e_107_56, e_107_59, e_107_60, e_107_61, e_107_64, e_107_65, e_107_68, e_107_71, e_107_72, e_107_73, e_107_76, e_107_77, f_107_78, e_107_80, e_107_82, f_107_85, e_107_87, e_107_89, e_107_90, e_107_93, e_107_94, e_107_95, e_107_98, e_107_100, e_107_103, e_107_104, e_107_107, e_107_110, e_107_111, e_107_112, e_107_115, e_107_146, e_107_148, e_107_118, e_107_119, e_107_120, e_107_123, e_107_125, e_107_128, e_107_129, e_107_132, e_107_133, e_107_134, e_107_137, e_107_140, e_107_142, e_107_143, Option.bind_some, Option.toList_some, Option.toList_none, List.cons_append, List.nil_append, am_k1_i, am_k1_r, am_k1_u, am_k1_n, am_bo0, am_bo1, am_boi, am_ev_tb, am_tb_nil, am_rfs, am_rfn, eq_self, and_self, if_true, if_false, show ¬ (1 : Int32) = 0 from by decide, show ¬ (0 : Int32) = 1 from by decide, not_true, not_false_eq_true, and_true, true_and, and_false, false_and, or_true, true_or, or_false, false_or, c_isSlot, h1]
theorem s_ask (i : iv G h o m) {v w : Int32} : sm G h o m d 108 216 [.int v, .int w] := by
  have lm := i.1.2.1
  have lo := i.1.2.2.1
  by_cases h1 : 0 ≤ v ∧ v ≤ 4
  · by_cases h2 : 0 ≤ w ∧ w ≤ 5
    · obtain ⟨k, hk, rfl⟩ := mt_ix5.mp h1
      obtain ⟨b1, b2, b3, b4⟩ := i.2.2.2.2.2.1 k hk
      refine sm_same i ?_ (m_ask lm hk h2)
      by_cases c0 : am_i h (m + 7) k = 0
      · simp only [n_108, e_108_0, e_108_1, e_108_4, e_108_7, e_108_8, e_108_11, e_108_14, e_108_16, e_108_17, e_108_18, e_108_21, e_108_22, f_108_23, e_108_24, e_108_25, e_108_26, f_108_29, e_108_31, e_108_33, e_108_36, e_108_38, e_108_39, e_108_40, e_108_43, e_108_44, e_108_47, e_108_50, e_108_51, e_108_54, e_108_57, e_108_62, e_108_60, Option.bind_some, Option.toList_some, Option.toList_none, List.cons_append, List.nil_append, am_k1_i, am_k1_r, am_k1_u, am_k1_n, am_bo0, am_bo1, am_boi, am_ev_tb, am_tb_nil, am_rfs, am_rfn, eq_self, and_self, if_true, if_false, show ¬ (1 : Int32) = 0 from by decide, show ¬ (0 : Int32) = 1 from by decide, not_true, not_false_eq_true, and_true, true_and, and_false, false_and, or_true, true_or, or_false, false_or, c_isSlot, h1, c_isKind, h2, co_ob lo, co_r6 lo, co_o1 lo hk, am_cl (show k < 2147483648 by omega), co_o2 lo hk, co_o3 lo hk, c_findingFor (co_o3 lo hk), b1, c0, show ¬ (-1000000011 : Int32) = 0 from by decide]
      · by_cases c1 : am_i h (m + 7) k = 1
        · obtain ⟨kk, hkk, d1, d2, d3⟩ := b2 c1
          rw [if_neg c0, d2, d3]
          simp only [n_108, e_108_0, e_108_1, e_108_4, e_108_7, e_108_8, e_108_11, e_108_14, e_108_16, e_108_17, e_108_18, e_108_21, e_108_22, f_108_23, e_108_24, e_108_25, e_108_26, f_108_29, e_108_31, e_108_33, e_108_36, e_108_38, e_108_39, e_108_40, e_108_43, e_108_44, e_108_47, e_108_50, e_108_51, e_108_54, e_108_57, e_108_62, e_108_60, Option.bind_some, Option.toList_some, Option.toList_none, List.cons_append, List.nil_append, am_k1_i, am_k1_r, am_k1_u, am_k1_n, am_bo0, am_bo1, am_boi, am_ev_tb, am_tb_nil, am_rfs, am_rfn, eq_self, and_self, if_true, if_false, show ¬ (1 : Int32) = 0 from by decide, show ¬ (0 : Int32) = 1 from by decide, not_true, not_false_eq_true, and_true, true_and, and_false, false_and, or_true, true_or, or_false, false_or, c_isSlot, h1, c_isKind, h2, co_ob lo, co_r6 lo, co_o1 lo hk, am_cl (show k < 2147483648 by omega), co_o2 lo hk, co_o3 lo hk, c_findingFor (co_o3 lo hk), b1, c1, co_o4 lo hk, co_o6 lo hk, c_isOf i.1.2.2.2.2.2 (co_o6 lo hk) hkk d1, c_worth (co_o6 lo hk), d1]
          split <;> simp
        · simp only [n_108, e_108_0, e_108_1, e_108_4, e_108_7, e_108_8, e_108_11, e_108_14, e_108_16, e_108_17, e_108_18, e_108_21, e_108_22, f_108_23, e_108_24, e_108_25, e_108_26, f_108_29, e_108_31, e_108_33, e_108_36, e_108_38, e_108_39, e_108_40, e_108_43, e_108_44, e_108_47, e_108_50, e_108_51, e_108_54, e_108_57, e_108_62, e_108_60, Option.bind_some, Option.toList_some, Option.toList_none, List.cons_append, List.nil_append, am_k1_i, am_k1_r, am_k1_u, am_k1_n, am_bo0, am_bo1, am_boi, am_ev_tb, am_tb_nil, am_rfs, am_rfn, eq_self, and_self, if_true, if_false, show ¬ (1 : Int32) = 0 from by decide, show ¬ (0 : Int32) = 1 from by decide, not_true, not_false_eq_true, and_true, true_and, and_false, false_and, or_true, true_or, or_false, false_or, c_isSlot, h1, c_isKind, h2, co_ob lo, co_r6 lo, co_o1 lo hk, am_cl (show k < 2147483648 by omega), co_o2 lo hk, co_o3 lo hk, c_findingFor (co_o3 lo hk), b1, c0, c1, show ¬ (-1000000012 : Int32) = 0 from by decide]
    · refine sm_same i ?_ (m_ask0 (fun q => h2 q.2))
      simp only [n_108, e_108_0, e_108_1, e_108_4, e_108_7, e_108_8, e_108_11, e_108_14, e_108_16, e_108_17, e_108_18, e_108_21, e_108_22, f_108_23, e_108_24, e_108_25, e_108_26, f_108_29, e_108_31, e_108_33, e_108_36, e_108_38, e_108_39, e_108_40, e_108_43, e_108_44, e_108_47, e_108_50, e_108_51, e_108_54, e_108_57, e_108_62, e_108_60, Option.bind_some, Option.toList_some, Option.toList_none, List.cons_append, List.nil_append, am_k1_i, am_k1_r, am_k1_u, am_k1_n, am_bo0, am_bo1, am_boi, am_ev_tb, am_tb_nil, am_rfs, am_rfn, eq_self, and_self, if_true, if_false, show ¬ (1 : Int32) = 0 from by decide, show ¬ (0 : Int32) = 1 from by decide, not_true, not_false_eq_true, and_true, true_and, and_false, false_and, or_true, true_or, or_false, false_or, c_isSlot, h1, c_isKind, h2]
  · refine sm_same i ?_ (m_ask0 (fun q => h1 q.1))
    simp only [n_108, e_108_0, e_108_1, e_108_4, e_108_7, e_108_8, e_108_11, e_108_14, e_108_16, e_108_17, e_108_18, e_108_21, e_108_22, f_108_23, e_108_24, e_108_25, e_108_26, f_108_29, e_108_31, e_108_33, e_108_36, e_108_38, e_108_39, e_108_40, e_108_43, e_108_44, e_108_47, e_108_50, e_108_51, e_108_54, e_108_57, e_108_62, e_108_60, Option.bind_some, Option.toList_some, Option.toList_none, List.cons_append, List.nil_append, am_k1_i, am_k1_r, am_k1_u, am_k1_n, am_bo0, am_bo1, am_boi, am_ev_tb, am_tb_nil, am_rfs, am_rfn, eq_self, and_self, if_true, if_false, show ¬ (1 : Int32) = 0 from by decide, show ¬ (0 : Int32) = 1 from by decide, not_true, not_false_eq_true, and_true, true_and, and_false, false_and, or_true, true_or, or_false, false_or, c_isSlot, h1]
theorem s_item (i : iv G h o m) {v w : Int32} : sm G h o m d 109 217 [.int v, .int w] := by
  have lm := i.1.2.1
  have lo := i.1.2.2.1
  by_cases h1 : 0 ≤ v ∧ v ≤ 4
  · obtain ⟨k, hk, rfl⟩ := mt_ix5.mp h1
    obtain ⟨b1, b2, b3, b4⟩ := i.2.2.2.2.2.1 k hk
    by_cases c0 : am_i h (m + 7) k = 2
    · obtain ⟨z, hz, d1, d2, d3⟩ := b3 c0
      by_cases h2 : 0 ≤ w ∧ w ≤ nI z - 1
      · obtain ⟨j, hj, rfl⟩ := (mt_ix (by omega)).mp h2
        refine sm_same i ?_ (m_item lm hk c0 (show j < 24 by omega) (by rw [d2]; exact h2))
        rw [← d3 j (by omega)]
        simp only [n_109, e_109_0, e_109_1, e_109_4, e_109_7, e_109_9, e_109_10, e_109_11, e_109_14, e_109_15, f_109_16, e_109_17, e_109_18, e_109_19, f_109_22, e_109_24, e_109_26, e_109_29, e_109_31, e_109_32, e_109_33, e_109_36, e_109_37, e_109_40, e_109_43, e_109_46, e_109_47, e_109_48, e_109_51, e_109_54, e_109_55, e_109_56, e_109_58, e_109_61, e_109_63, e_109_75, e_109_66, e_109_67, e_109_70, e_109_73, e_109_74, Option.bind_some, Option.toList_some, Option.toList_none, List.cons_append, List.nil_append, am_k1_i, am_k1_r, am_k1_u, am_k1_n, am_bo0, am_bo1, am_boi, am_ev_tb, am_tb_nil, am_rfs, am_rfn, eq_self, and_self, if_true, if_false, show ¬ (1 : Int32) = 0 from by decide, show ¬ (0 : Int32) = 1 from by decide, not_true, not_false_eq_true, and_true, true_and, and_false, false_and, or_true, true_or, or_false, false_or, c_isSlot, h1, co_ob lo, co_r6 lo, co_o1 lo hk, am_cl (show k < 2147483648 by omega), co_o2 lo hk, co_o3 lo hk, c_findingFor (co_o3 lo hk), b1, c0, show ¬ (2 : Int32) = 0 from by decide, co_o5 lo hk, co_o7 lo hk, c_hasPlace (co_o7 lo hk), d1, h2, co_o8 lo hk, co_o9 lo hk (show j < 24 by omega), am_cl (show j < 2147483648 by omega)]
        split <;> simp only [Option.bind_some, Option.toList_some, Option.toList_none, List.cons_append, List.nil_append, am_k1_i, am_k1_r, am_k1_u, am_k1_n, am_bo0, am_bo1, am_boi, am_ev_tb, am_tb_nil, am_rfs, am_rfn, eq_self]
      · refine sm_same i ?_ (m_item2 lm hk c0 (by rw [d2]; exact h2))
        simp only [n_109, e_109_0, e_109_1, e_109_4, e_109_7, e_109_9, e_109_10, e_109_11, e_109_14, e_109_15, f_109_16, e_109_17, e_109_18, e_109_19, f_109_22, e_109_24, e_109_26, e_109_29, e_109_31, e_109_32, e_109_33, e_109_36, e_109_37, e_109_40, e_109_43, e_109_46, e_109_47, e_109_48, e_109_51, e_109_54, e_109_55, e_109_56, e_109_58, e_109_61, e_109_63, e_109_75, e_109_66, e_109_67, e_109_70, e_109_73, e_109_74, Option.bind_some, Option.toList_some, Option.toList_none, List.cons_append, List.nil_append, am_k1_i, am_k1_r, am_k1_u, am_k1_n, am_bo0, am_bo1, am_boi, am_ev_tb, am_tb_nil, am_rfs, am_rfn, eq_self, and_self, if_true, if_false, show ¬ (1 : Int32) = 0 from by decide, show ¬ (0 : Int32) = 1 from by decide, not_true, not_false_eq_true, and_true, true_and, and_false, false_and, or_true, true_or, or_false, false_or, c_isSlot, h1, co_ob lo, co_r6 lo, co_o1 lo hk, am_cl (show k < 2147483648 by omega), co_o2 lo hk, co_o3 lo hk, c_findingFor (co_o3 lo hk), b1, c0, show ¬ (2 : Int32) = 0 from by decide, co_o5 lo hk, co_o7 lo hk, c_hasPlace (co_o7 lo hk), d1, h2]
    · refine sm_same i ?_ (m_item1 lm hk c0)
      by_cases c1 : am_i h (m + 7) k = 0
      · simp only [n_109, e_109_0, e_109_1, e_109_4, e_109_7, e_109_9, e_109_10, e_109_11, e_109_14, e_109_15, f_109_16, e_109_17, e_109_18, e_109_19, f_109_22, e_109_24, e_109_26, e_109_29, e_109_31, e_109_32, e_109_33, e_109_36, e_109_37, e_109_40, e_109_43, e_109_46, e_109_47, e_109_48, e_109_51, e_109_54, e_109_55, e_109_56, e_109_58, e_109_61, e_109_63, e_109_75, e_109_66, e_109_67, e_109_70, e_109_73, e_109_74, Option.bind_some, Option.toList_some, Option.toList_none, List.cons_append, List.nil_append, am_k1_i, am_k1_r, am_k1_u, am_k1_n, am_bo0, am_bo1, am_boi, am_ev_tb, am_tb_nil, am_rfs, am_rfn, eq_self, and_self, if_true, if_false, show ¬ (1 : Int32) = 0 from by decide, show ¬ (0 : Int32) = 1 from by decide, not_true, not_false_eq_true, and_true, true_and, and_false, false_and, or_true, true_or, or_false, false_or, c_isSlot, h1, co_ob lo, co_r6 lo, co_o1 lo hk, am_cl (show k < 2147483648 by omega), co_o2 lo hk, co_o3 lo hk, c_findingFor (co_o3 lo hk), b1, c1, show ¬ (-1000000011 : Int32) = 0 from by decide]
      · simp only [n_109, e_109_0, e_109_1, e_109_4, e_109_7, e_109_9, e_109_10, e_109_11, e_109_14, e_109_15, f_109_16, e_109_17, e_109_18, e_109_19, f_109_22, e_109_24, e_109_26, e_109_29, e_109_31, e_109_32, e_109_33, e_109_36, e_109_37, e_109_40, e_109_43, e_109_46, e_109_47, e_109_48, e_109_51, e_109_54, e_109_55, e_109_56, e_109_58, e_109_61, e_109_63, e_109_75, e_109_66, e_109_67, e_109_70, e_109_73, e_109_74, Option.bind_some, Option.toList_some, Option.toList_none, List.cons_append, List.nil_append, am_k1_i, am_k1_r, am_k1_u, am_k1_n, am_bo0, am_bo1, am_boi, am_ev_tb, am_tb_nil, am_rfs, am_rfn, eq_self, and_self, if_true, if_false, show ¬ (1 : Int32) = 0 from by decide, show ¬ (0 : Int32) = 1 from by decide, not_true, not_false_eq_true, and_true, true_and, and_false, false_and, or_true, true_or, or_false, false_or, c_isSlot, h1, co_ob lo, co_r6 lo, co_o1 lo hk, am_cl (show k < 2147483648 by omega), co_o2 lo hk, co_o3 lo hk, c_findingFor (co_o3 lo hk), b1, c0, c1, show ¬ (-1000000012 : Int32) = 0 from by decide]
  · refine sm_same i ?_ (m_item0 h1)
    simp only [n_109, e_109_0, e_109_1, e_109_4, e_109_7, e_109_9, e_109_10, e_109_11, e_109_14, e_109_15, f_109_16, e_109_17, e_109_18, e_109_19, f_109_22, e_109_24, e_109_26, e_109_29, e_109_31, e_109_32, e_109_33, e_109_36, e_109_37, e_109_40, e_109_43, e_109_46, e_109_47, e_109_48, e_109_51, e_109_54, e_109_55, e_109_56, e_109_58, e_109_61, e_109_63, e_109_75, e_109_66, e_109_67, e_109_70, e_109_73, e_109_74, Option.bind_some, Option.toList_some, Option.toList_none, List.cons_append, List.nil_append, am_k1_i, am_k1_r, am_k1_u, am_k1_n, am_bo0, am_bo1, am_boi, am_ev_tb, am_tb_nil, am_rfs, am_rfn, eq_self, and_self, if_true, if_false, show ¬ (1 : Int32) = 0 from by decide, show ¬ (0 : Int32) = 1 from by decide, not_true, not_false_eq_true, and_true, true_and, and_false, false_and, or_true, true_or, or_false, false_or, c_isSlot, h1]
theorem s_rest (i : iv G h o m) {v w : Int32} : sm G h o m d 110 218 [.int v, .int w] := by
  have lm := i.1.2.1
  have lo := i.1.2.2.1
  by_cases h1 : 0 ≤ v ∧ v ≤ 4
  · obtain ⟨k, hk, rfl⟩ := mt_ix5.mp h1
    obtain ⟨b1, b2, b3, b4⟩ := i.2.2.2.2.2.1 k hk
    refine sm_same i ?_ (m_rest lm hk)
    by_cases c1 : am_i h (m + 7) k = 0
    · simp only [n_110, e_110_0, e_110_1, e_110_4, e_110_7, e_110_9, e_110_10, e_110_11, e_110_14, e_110_15, f_110_16, e_110_17, e_110_18, e_110_19, f_110_22, e_110_24, e_110_26, e_110_29, e_110_31, e_110_32, e_110_33, e_110_36, e_110_38, e_110_47, e_110_41, e_110_42, e_110_45, e_110_46, Option.bind_some, Option.toList_some, Option.toList_none, List.cons_append, List.nil_append, am_k1_i, am_k1_r, am_k1_u, am_k1_n, am_bo0, am_bo1, am_boi, am_ev_tb, am_tb_nil, am_rfs, am_rfn, eq_self, and_self, if_true, if_false, show ¬ (1 : Int32) = 0 from by decide, show ¬ (0 : Int32) = 1 from by decide, not_true, not_false_eq_true, and_true, true_and, and_false, false_and, or_true, true_or, or_false, false_or, c_isSlot, h1, co_ob lo, co_r6 lo, co_o1 lo hk, am_cl (show k < 2147483648 by omega), co_o2 lo hk, co_o3 lo hk, c_findingFor (co_o3 lo hk), b1, c1, show ¬ (-1000000011 : Int32) = 0 from by decide]
    · by_cases c0 : am_i h (m + 7) k = 3
      · by_cases hw : w = 0
        · simp only [n_110, e_110_0, e_110_1, e_110_4, e_110_7, e_110_9, e_110_10, e_110_11, e_110_14, e_110_15, f_110_16, e_110_17, e_110_18, e_110_19, f_110_22, e_110_24, e_110_26, e_110_29, e_110_31, e_110_32, e_110_33, e_110_36, e_110_38, e_110_47, e_110_41, e_110_42, e_110_45, e_110_46, Option.bind_some, Option.toList_some, Option.toList_none, List.cons_append, List.nil_append, am_k1_i, am_k1_r, am_k1_u, am_k1_n, am_bo0, am_bo1, am_boi, am_ev_tb, am_tb_nil, am_rfs, am_rfn, eq_self, and_self, if_true, if_false, show ¬ (1 : Int32) = 0 from by decide, show ¬ (0 : Int32) = 1 from by decide, not_true, not_false_eq_true, and_true, true_and, and_false, false_and, or_true, true_or, or_false, false_or, c_isSlot, h1, co_ob lo, co_r6 lo, co_o1 lo hk, am_cl (show k < 2147483648 by omega), co_o2 lo hk, co_o3 lo hk, c_findingFor (co_o3 lo hk), b1, c0, show ¬ (3 : Int32) = 0 from by decide, hw]
        · simp only [n_110, e_110_0, e_110_1, e_110_4, e_110_7, e_110_9, e_110_10, e_110_11, e_110_14, e_110_15, f_110_16, e_110_17, e_110_18, e_110_19, f_110_22, e_110_24, e_110_26, e_110_29, e_110_31, e_110_32, e_110_33, e_110_36, e_110_38, e_110_47, e_110_41, e_110_42, e_110_45, e_110_46, Option.bind_some, Option.toList_some, Option.toList_none, List.cons_append, List.nil_append, am_k1_i, am_k1_r, am_k1_u, am_k1_n, am_bo0, am_bo1, am_boi, am_ev_tb, am_tb_nil, am_rfs, am_rfn, eq_self, and_self, if_true, if_false, show ¬ (1 : Int32) = 0 from by decide, show ¬ (0 : Int32) = 1 from by decide, not_true, not_false_eq_true, and_true, true_and, and_false, false_and, or_true, true_or, or_false, false_or, c_isSlot, h1, co_ob lo, co_r6 lo, co_o1 lo hk, am_cl (show k < 2147483648 by omega), co_o2 lo hk, co_o3 lo hk, c_findingFor (co_o3 lo hk), b1, c0, show ¬ (3 : Int32) = 0 from by decide, hw, b4 c0, not_false_eq_true]
          rfl
      · simp only [n_110, e_110_0, e_110_1, e_110_4, e_110_7, e_110_9, e_110_10, e_110_11, e_110_14, e_110_15, f_110_16, e_110_17, e_110_18, e_110_19, f_110_22, e_110_24, e_110_26, e_110_29, e_110_31, e_110_32, e_110_33, e_110_36, e_110_38, e_110_47, e_110_41, e_110_42, e_110_45, e_110_46, Option.bind_some, Option.toList_some, Option.toList_none, List.cons_append, List.nil_append, am_k1_i, am_k1_r, am_k1_u, am_k1_n, am_bo0, am_bo1, am_boi, am_ev_tb, am_tb_nil, am_rfs, am_rfn, eq_self, and_self, if_true, if_false, show ¬ (1 : Int32) = 0 from by decide, show ¬ (0 : Int32) = 1 from by decide, not_true, not_false_eq_true, and_true, true_and, and_false, false_and, or_true, true_or, or_false, false_or, c_isSlot, h1, co_ob lo, co_r6 lo, co_o1 lo hk, am_cl (show k < 2147483648 by omega), co_o2 lo hk, co_o3 lo hk, c_findingFor (co_o3 lo hk), b1, c0, c1, show ¬ (-1000000012 : Int32) = 0 from by decide]
  · refine sm_same i ?_ (m_rest0 h1)
    simp only [n_110, e_110_0, e_110_1, e_110_4, e_110_7, e_110_9, e_110_10, e_110_11, e_110_14, e_110_15, f_110_16, e_110_17, e_110_18, e_110_19, f_110_22, e_110_24, e_110_26, e_110_29, e_110_31, e_110_32, e_110_33, e_110_36, e_110_38, e_110_47, e_110_41, e_110_42, e_110_45, e_110_46, Option.bind_some, Option.toList_some, Option.toList_none, List.cons_append, List.nil_append, am_k1_i, am_k1_r, am_k1_u, am_k1_n, am_bo0, am_bo1, am_boi, am_ev_tb, am_tb_nil, am_rfs, am_rfn, eq_self, and_self, if_true, if_false, show ¬ (1 : Int32) = 0 from by decide, show ¬ (0 : Int32) = 1 from by decide, not_true, not_false_eq_true, and_true, true_and, and_false, false_and, or_true, true_or, or_false, false_or, c_isSlot, h1]
end SL
