/-! steps of a text in a row, and the small methods of both readers -/
def ot_n : List (Int32 × Int32) → Nat
  | [] => 0
  | x :: r => (if x.1 = 2 then 0 else 1) + ot_n r
theorem ot_n_app (a b : List (Int32 × Int32)) : ot_n (a ++ b) = ot_n a + ot_n b := by
  induction a with
  | nil => show ot_n b = 0 + ot_n b; omega
  | cons x r ih => show (if x.1 = 2 then 0 else 1) + ot_n (r ++ b) = (if x.1 = 2 then 0 else 1) + ot_n r + ot_n b; rw [ih]; omega
def ot_d (n : Nat) (x : Int32 × Int32) : Nat := if x.1 = 2 then (if x.2 = 33 then n else n - 1) else n + 1
def ot_dp : Nat → List (Int32 × Int32) → Nat
  | n, [] => n
  | n, x :: r => ot_dp (ot_d n x) r
def ot_ok (key : Nat) : Nat → List (Int32 × Int32) → Prop
  | _, [] => True
  | n, x :: r => mt_so key x.1 x.2 n ∧ ot_ok key (ot_d n x) r
theorem ot_dp_app (b : List (Int32 × Int32)) : ∀ (a : List (Int32 × Int32)) (n : Nat), ot_dp n (a ++ b) = ot_dp (ot_dp n a) b := by
  intro a
  induction a with
  | nil => intro n; rfl
  | cons x r ih => intro n; exact ih _
theorem ot_ok_app {key : Nat} (b : List (Int32 × Int32)) : ∀ (a : List (Int32 × Int32)) (n : Nat), ot_ok key n a → ot_ok key (ot_dp n a) b → ot_ok key n (a ++ b) := by
  intro a
  induction a with
  | nil => intro n _ h; exact h
  | cons x r ih => intro n h1 h2; exact ⟨h1.1, ih _ h1.2 h2⟩
def ot_g (key : Nat) (s : List (Int32 × Int32)) : Prop := ∀ n, ot_ok key n s ∧ ot_dp n s = n + 1
def ot_h (key : Nat) (s : List (Int32 × Int32)) : Prop := ∀ n, ot_ok key (n + 1) s ∧ ot_dp (n + 1) s = n + 1
theorem ot_h0 {key : Nat} : ot_h key [] := fun _ => ⟨trivial, rfl⟩
theorem ot_gh {key : Nat} {a b : List (Int32 × Int32)} (ha : ot_g key a) (hb : ot_h key b) : ot_g key (a ++ b) := fun n => ⟨ot_ok_app b a n (ha n).1 (by rw [(ha n).2]; exact (hb n).1), by rw [ot_dp_app, (ha n).2, (hb n).2]⟩
theorem ot_hs {key : Nat} {a b : List (Int32 × Int32)} {v : Int32} (ha : ot_g key a) (hv : mt_op v) (hb : ot_h key b) : ot_h key (a ++ [(2, v)] ++ b) := fun n => by
  have h33 := mt_op33 hv
  have hd : ot_d (n + 2) ((2, v) : Int32 × Int32) = n + 1 := by
    unfold ot_d
    rw [if_pos rfl, if_neg h33]
    rfl
  have e1 : ot_dp (n + 1) (a ++ [(2, v)]) = n + 1 := by
    rw [ot_dp_app, (ha (n + 1)).2]
    show ot_d (n + 1 + 1) (2, v) = n + 1
    exact hd
  refine ⟨ot_ok_app b _ _ (ot_ok_app _ a _ (ha (n + 1)).1 ?_) (by rw [e1]; exact (hb n).1), by rw [ot_dp_app, e1, (hb n).2]⟩
  rw [(ha (n + 1)).2]
  exact ⟨Or.inr (Or.inr (Or.inr ⟨rfl, hv, by omega⟩)), trivial⟩
theorem ot_gn {key : Nat} {a : List (Int32 × Int32)} (ha : ot_g key a) : ot_g key (a ++ [(2, 33)]) := fun n => by
  refine ⟨ot_ok_app _ a n (ha n).1 ?_, ?_⟩
  · rw [(ha n).2]
    exact ⟨Or.inr (Or.inr (Or.inl ⟨rfl, rfl, by omega⟩)), trivial⟩
  · rw [ot_dp_app, (ha n).2]
    show ot_d (n + 1) (2, 33) = n + 1
    unfold ot_d
    rw [if_pos rfl, if_pos rfl]
theorem ot_g0 {key x : Nat} (hx : x < 10000) : ot_g key [(0, nI x)] := fun n => ⟨⟨Or.inl ⟨rfl, x, hx, rfl⟩, trivial⟩, by show ot_d n (0, nI x) = n + 1; unfold ot_d; rw [if_neg (show ¬ (0 : Int32) = 2 from by decide)]⟩
theorem ot_g1 {key i : Nat} (hi : i < 3) : ot_g key [(1, nI (mt_nc key i))] := fun n => ⟨⟨Or.inr (Or.inl ⟨rfl, i, hi, rfl⟩), trivial⟩, by show ot_d n (1, nI (mt_nc key i)) = n + 1; unfold ot_d; rw [if_neg (show ¬ (1 : Int32) = 2 from by decide)]⟩
theorem ot_ap {out : List (Int32 × Int32)} {x y : Int32 × Int32} {i : Nat} (h : (out ++ [x])[i]? = some y) : (i < out.length ∧ out[i]? = some y) ∨ (i = out.length ∧ y = x) := by
  rcases Nat.lt_trichotomy i out.length with h1 | h1 | h1
  · left
    rw [List.getElem?_append_left h1] at h
    exact ⟨h1, h⟩
  · right
    subst h1
    rw [List.getElem?_append_right (Nat.le_refl _), Nat.sub_self] at h
    exact ⟨rfl, (Option.some.inj h).symm⟩
  · rw [List.getElem?_append_right (by omega)] at h
    obtain ⟨j, hj⟩ : ∃ j, i - out.length = j + 1 := ⟨i - out.length - 1, by omega⟩
    rw [hj] at h
    cases h
/-! the class -/
def pc_E (G : Nat → Nat) (h0 : am_H) (o : Nat) (T : Nat → Int32) (t W : Nat) (st ln : Nat → Nat) (key : Nat) : Prop := (cl_Obj G h0 o ∧ cl_E G h0 ∧ o = G 0) ∧ (am_i h0 (o + 80) 1 = nI t ∧ ∀ j, j < t → am_i h0 (o + 81) j &&& 255 = T j) ∧ tk_Env T t W st ln ∧ cw_A h0 o W (fun j => tk_c (T j)) st ln ∧ (am_i h0 (o + 82) W = 5 ∧ am_i h0 (o + 83) W = nI (st W) ∧ am_i h0 (o + 84) W = nI (ln W)) ∧ key < 3
def pc_Q (o : Nat) : Nat → Prop := fun b => b = o + 79 ∨ b = o + 85
def pc_S (h : am_H) (o W key k : Nat) (out : List (Int32 × Int32)) : Prop := (am_i h (o + 79) 5 = nI W ∧ am_i h (o + 79) 6 = nI k ∧ am_i h (o + 79) 7 = nI out.length ∧ am_i h (o + 79) 8 = nI (ot_n out) ∧ am_i h (o + 79) 9 = nI key ∧ am_i h (o + 79) 10 = -1000000005) ∧ ∀ i x, out[i]? = some x → mt_cs key (am_i h (o + 85) i) x.1 x.2
def pc_X (h : am_H) (o W : Nat) (st : Nat → Nat) (k : Nat) : Prop := am_i h (o + 79) 5 = nI W ∧ (∃ s, s ≤ 96 ∧ am_i h (o + 79) 7 = nI s) ∧ (∃ q, q ≤ W ∧ am_i h (o + 79) 6 = nI q) ∧ am_i h (o + 79) 10 = nI (st k)
section PC
variable {G : Nat → Nat} {d : Nat} {h0 h : am_H} {o t W key k : Nat} {T : Nat → Int32} {st ln : Nat → Nat} {out : List (Int32 × Int32)}
theorem pc_W (E : pc_E G h0 o T t W st ln key) : W ≤ 96 := by have := E.2.2.1.1; have := E.2.2.1.2.1.1; omega
theorem pc_lo (E : pc_E G h0 o T t W st ln key) (f : am_fr (pc_Q o) h0 h) : cl_Obj G h o := E.1.1.fr f
theorem pc_ne {x : Nat} (hx : x ≤ 96) : ¬ nI x = -1000000005 := fun z => by
  have := nI_pos' (n := x) (by omega)
  rw [z] at this
  exact absurd this (by decide)
theorem pc_so (E : pc_E G h0 o T t W st ln key) (f : am_fr (pc_Q o) h0 h) (hk : k ≤ W) : am_i h (o + 82) k = if k < W then nI (tk_so (fun j => tk_c (T j)) (st k)) else 5 := by
  rw [f.i1 (fun z => by unfold pc_Q at z; omega)]
  by_cases h1 : k < W
  · rw [if_pos h1]; exact (E.2.2.2.1 k h1).1
  · rw [if_neg h1, show k = W by omega]; exact E.2.2.2.2.1.1
theorem pc_st (E : pc_E G h0 o T t W st ln key) (f : am_fr (pc_Q o) h0 h) (hk : k ≤ W) : am_i h (o + 83) k = nI (st k) := by
  rw [f.i1 (fun z => by unfold pc_Q at z; omega)]
  by_cases h1 : k < W
  · exact (E.2.2.2.1 k h1).2.1
  · rw [show k = W by omega]; exact E.2.2.2.2.1.2.1
theorem pc_ln (E : pc_E G h0 o T t W st ln key) (f : am_fr (pc_Q o) h0 h) (hk : k ≤ W) : am_i h (o + 84) k = nI (ln k) := by
  rw [f.i1 (fun z => by unfold pc_Q at z; omega)]
  by_cases h1 : k < W
  · exact (E.2.2.2.1 k h1).2.2
  · rw [show k = W by omega]; exact E.2.2.2.2.1.2.2
theorem pc_at (E : pc_E G h0 o T t W st ln key) (f : am_fr (pc_Q o) h0 h) {p : Nat} (hp : p < t) : am_evm G (d + 1) 69 [.ref (o + 80), .int (nI p)] h = some (some (.int (T p)), h) := by
  rw [← E.2.1.2 p hp, ← f.i1 (b := o + 81) (fun z => by unfold pc_Q at z; omega)]
  exact c_at (pc_lo E f) (by rw [f.i1 (fun z => by unfold pc_Q at z; omega)]; exact E.2.1.1) E.2.2.1.1 hp
theorem tk_kd3 : tk_kd T W st ln k = 3 ↔ (k < W ∧ tk_so (fun j => tk_c (T j)) (st k) = 1) := by
  unfold tk_kd
  by_cases h1 : k < W
  · rw [if_pos h1]
    by_cases h2 : tk_so (fun j => tk_c (T j)) (st k) = 1
    · rw [if_pos h2]; exact iff_of_true rfl ⟨h1, h2⟩
    · rw [if_neg h2]
      refine iff_of_false ?_ (fun z => h2 z.2)
      (repeat' split) <;> decide
  · rw [if_neg h1]; exact iff_of_false (by decide) (fun z => h1 z.1)
theorem tk_so_le {c : Nat → Nat} (hc : ∀ j, c j ≤ 3) (b : Nat) : tk_so c b ≤ 4 := by
  have := hc b
  unfold tk_so
  (repeat' split) <;> omega
theorem tk_so4 (b : Nat) : tk_so (fun j => tk_c (T j)) b ≤ 4 := tk_so_le (fun j => tk_c_le (T j)) b
theorem c_sign (E : pc_E G h0 o T t W st ln key) (f : am_fr (pc_Q o) h0 h) (hk : k ≤ W) (h6 : am_i h (o + 79) 6 = nI k) : am_evm G (d + 2) 49 [.ref (o + 79)] h = some (some (.int (if tk_kd T W st ln k = 3 then T (st k) else -1000000005)), h) := by
  have lo := pc_lo E f
  have hW := pc_W E
  have hs := pc_so E f hk
  by_cases h1 : k < W
  · rw [if_pos h1] at hs
    have w := (E.2.2.1.w h1).1
    by_cases h2 : tk_so (fun j => tk_c (T j)) (st k) = 1
    · rw [h2] at hs
      rw [if_pos (tk_kd3.mpr ⟨h1, h2⟩)]
      simp only [n_49, e_49_0, e_49_1, e_49_4, e_49_5, e_49_8, e_49_9, e_49_10, e_49_13, e_49_14, e_49_17, e_49_18, e_49_21, e_49_22, e_49_25, e_49_26, e_49_29, e_49_34, e_49_32, Option.bind_some, Option.toList_some, Option.toList_none, List.cons_append, List.nil_append, am_k1_i, am_k1_r, am_k1_u, am_k1_n, am_bo0, am_bo1, am_boi, am_ev_tb, am_tb_nil, am_rfs, am_rfn, eq_self, and_self, if_true, if_false, show ¬ (1 : Int32) = 0 from by decide, show ¬ (0 : Int32) = 1 from by decide, not_true, not_false_eq_true, and_true, true_and, and_false, false_and, or_true, true_or, or_false, false_or, co_rd lo, co_e1 lo, h6, co_1a lo (show k < 97 by omega), am_cl (show k < 2147483648 by omega), hs, show nI 1 = (1 : Int32) from rfl, co_e0 lo, co_tp lo, co_e2 lo, co_2a lo (show k < 97 by omega), pc_st E f hk, pc_at E f (show st k < t by omega)]
    · have h2' : ¬ nI (tk_so (fun j => tk_c (T j)) (st k)) = 1 := fun z => h2 ((nI_eq (b := 1) (by have := tk_so4 (T := T) (st k); omega) (by decide)).mp z)
      rw [if_neg (fun z => h2 (tk_kd3.mp z).2)]
      simp only [n_49, e_49_0, e_49_1, e_49_4, e_49_5, e_49_8, e_49_9, e_49_10, e_49_13, e_49_14, e_49_17, e_49_18, e_49_21, e_49_22, e_49_25, e_49_26, e_49_29, e_49_34, e_49_32, Option.bind_some, Option.toList_some, Option.toList_none, List.cons_append, List.nil_append, am_k1_i, am_k1_r, am_k1_u, am_k1_n, am_bo0, am_bo1, am_boi, am_ev_tb, am_tb_nil, am_rfs, am_rfn, eq_self, and_self, if_true, if_false, show ¬ (1 : Int32) = 0 from by decide, show ¬ (0 : Int32) = 1 from by decide, not_true, not_false_eq_true, and_true, true_and, and_false, false_and, or_true, true_or, or_false, false_or, co_rd lo, co_e1 lo, h6, co_1a lo (show k < 97 by omega), am_cl (show k < 2147483648 by omega), hs, h2']
  · rw [if_neg h1] at hs
    rw [if_neg (fun z => h1 (tk_kd3.mp z).1)]
    simp only [n_49, e_49_0, e_49_1, e_49_4, e_49_5, e_49_8, e_49_9, e_49_10, e_49_13, e_49_14, e_49_17, e_49_18, e_49_21, e_49_22, e_49_25, e_49_26, e_49_29, e_49_34, e_49_32, Option.bind_some, Option.toList_some, Option.toList_none, List.cons_append, List.nil_append, am_k1_i, am_k1_r, am_k1_u, am_k1_n, am_bo0, am_bo1, am_boi, am_ev_tb, am_tb_nil, am_rfs, am_rfn, eq_self, and_self, if_true, if_false, show ¬ (1 : Int32) = 0 from by decide, show ¬ (0 : Int32) = 1 from by decide, not_true, not_false_eq_true, and_true, true_and, and_false, false_and, or_true, true_or, or_false, false_or, co_rd lo, co_e1 lo, h6, co_1a lo (show k < 97 by omega), am_cl (show k < 2147483648 by omega), hs, show ¬ (5 : Int32) = 1 from by decide]
theorem c_goOn (E : pc_E G h0 o T t W st ln key) (f : am_fr (pc_Q o) h0 h) (hk : k < W) (S : pc_S h o W key k out) : ∃ h2, am_evm G d 48 [.ref (o + 79)] h = some (none, h2) ∧ am_fr (pc_Q o) h0 h2 ∧ pc_S h2 o W key (k + 1) out := by
  have lo := pc_lo E f
  have hW := pc_W E
  obtain ⟨⟨s5, s6, s7, s8, s9, s10⟩, sc⟩ := S
  have hlt : ¬ nI W ≤ nI k := nI_ge hk (by omega)
  refine ⟨am_pi h (o + 79) 6 (nI (k + 1)), ?_, f.tr (am_fr.pi (Or.inl rfl)), ⟨?_, ?_, ?_, ?_, ?_, ?_⟩, fun i x hx => ?_⟩
  · simp only [n_48, e_48_0, e_48_1, e_48_4, e_48_5, e_48_8, e_48_11, e_48_12, e_48_13, e_48_16, e_48_17, e_48_18, e_48_21, Option.bind_some, Option.toList_some, Option.toList_none, List.cons_append, List.nil_append, am_k1_i, am_k1_r, am_k1_u, am_k1_n, am_bo0, am_bo1, am_boi, am_ev_tb, am_tb_nil, am_rfs, am_rfn, eq_self, and_self, if_true, if_false, show ¬ (1 : Int32) = 0 from by decide, show ¬ (0 : Int32) = 1 from by decide, not_true, not_false_eq_true, and_true, true_and, and_false, false_and, or_true, true_or, or_false, false_or, co_rd lo, s6, s5, hlt, nI_1]
  · rw [am_pi_i, if_neg (by omega)]; exact s5
  · rw [am_pi_i, if_pos ⟨rfl, rfl⟩]
  · rw [am_pi_i, if_neg (by omega)]; exact s7
  · rw [am_pi_i, if_neg (by omega)]; exact s8
  · rw [am_pi_i, if_neg (by omega)]; exact s9
  · rw [am_pi_i, if_neg (by omega)]; exact s10
  · rw [am_pi_i, if_neg (by omega)]; exact sc i x hx
theorem c_fail (E : pc_E G h0 o T t W st ln key) (f : am_fr (pc_Q o) h0 h) (hk : k ≤ W) (ho : out.length ≤ 96) (S : pc_S h o W key k out) : ∃ h2, am_evm G d 47 [.ref (o + 79)] h = some (none, h2) ∧ am_fr (pc_Q o) h0 h2 ∧ pc_X h2 o W st k := by
  have lo := pc_lo E f
  have hW := pc_W E
  obtain ⟨⟨s5, s6, s7, s8, s9, s10⟩, sc⟩ := S
  refine ⟨am_pi h (o + 79) 10 (nI (st k)), ?_, f.tr (am_fr.pi (Or.inl rfl)), ?_, ⟨out.length, ho, ?_⟩, ⟨k, hk, ?_⟩, ?_⟩
  · simp only [n_47, e_47_0, e_47_1, e_47_4, e_47_6, e_47_9, e_47_10, e_47_11, e_47_14, e_47_15, e_47_18, e_47_19, e_47_22, Option.bind_some, Option.toList_some, Option.toList_none, List.cons_append, List.nil_append, am_k1_i, am_k1_r, am_k1_u, am_k1_n, am_bo0, am_bo1, am_boi, am_ev_tb, am_tb_nil, am_rfs, am_rfn, eq_self, and_self, if_true, if_false, show ¬ (1 : Int32) = 0 from by decide, show ¬ (0 : Int32) = 1 from by decide, not_true, not_false_eq_true, and_true, true_and, and_false, false_and, or_true, true_or, or_false, false_or, co_rd lo, s10, co_e2 lo, s6, co_2a lo (show k < 97 by omega), am_cl (show k < 2147483648 by omega), pc_st E f hk]
  · rw [am_pi_i, if_neg (by omega)]; exact s5
  · rw [am_pi_i, if_neg (by omega)]; exact s7
  · rw [am_pi_i, if_neg (by omega)]; exact s6
  · rw [am_pi_i, if_pos ⟨rfl, rfl⟩]
theorem pc_Xn (E : pc_E G h0 o T t W st ln key) (hk : k ≤ W) (X : pc_X h o W st k) : ¬ am_i h (o + 79) 10 = -1000000005 := by
  rw [X.2.2.2]
  exact pc_ne (by have := E.2.2.1.le hk; have := E.2.2.1.1; omega)
theorem c_failX (E : pc_E G h0 o T t W st ln key) (f : am_fr (pc_Q o) h0 h) (hk : k ≤ W) (X : pc_X h o W st k) : am_evm G d 47 [.ref (o + 79)] h = some (none, h) := by
  simp only [n_47, e_47_0, e_47_1, e_47_4, e_47_6, e_47_9, e_47_10, e_47_11, e_47_14, e_47_15, e_47_18, e_47_19, e_47_22, Option.bind_some, Option.toList_some, Option.toList_none, List.cons_append, List.nil_append, am_k1_i, am_k1_r, am_k1_u, am_k1_n, am_bo0, am_bo1, am_boi, am_ev_tb, am_tb_nil, am_rfs, am_rfn, eq_self, and_self, if_true, if_false, show ¬ (1 : Int32) = 0 from by decide, show ¬ (0 : Int32) = 1 from by decide, not_true, not_false_eq_true, and_true, true_and, and_false, false_and, or_true, true_or, or_false, false_or, co_rd (pc_lo E f), pc_Xn E hk X]
theorem c_addStep0 (lo : cl_Obj G h o) {s : Nat} {v : Int32} (hs : s < 96) (h7 : am_i h (o + 79) 7 = nI s) : am_evm G d 59 [.ref (o + 79), .int v] h = some (none, am_pi (am_pi h (o + 85) s v) (o + 79) 7 (nI (s + 1))) := by
  have hlt : ¬ (96 : Int32) ≤ nI s := nI_ge (b := 96) hs (by decide)
  have q : am_i (am_pi h (o + 85) s v) (o + 79) 7 = nI s := by rw [(am_pi_o _ (by omega)).1, h7]
  simp only [n_59, e_59_0, e_59_1, e_59_4, e_59_6, e_59_9, e_59_10, e_59_13, e_59_14, e_59_17, e_59_18, e_59_19, e_59_20, e_59_21, e_59_24, e_59_25, e_59_26, e_59_29, Option.bind_some, Option.toList_some, Option.toList_none, List.cons_append, List.nil_append, am_k1_i, am_k1_r, am_k1_u, am_k1_n, am_bo0, am_bo1, am_boi, am_ev_tb, am_tb_nil, am_rfs, am_rfn, eq_self, and_self, if_true, if_false, show ¬ (1 : Int32) = 0 from by decide, show ¬ (0 : Int32) = 1 from by decide, not_true, not_false_eq_true, and_true, true_and, and_false, false_and, or_true, true_or, or_false, false_or, co_rd lo, h7, hlt, co_e4 lo, co_4w lo hs, am_cl (show s < 2147483648 by omega), am_ob_pi, q, nI_1]
theorem c_addStepX (E : pc_E G h0 o T t W st ln key) (f : am_fr (pc_Q o) h0 h) {v : Int32} (X : pc_X h o W st k) : ∃ h2, am_evm G d 59 [.ref (o + 79), .int v] h = some (none, h2) ∧ am_fr (pc_Q o) h0 h2 ∧ pc_X h2 o W st k := by
  have lo := pc_lo E f
  obtain ⟨x1, ⟨s, hs, x2⟩, ⟨q, hq, x3⟩, x4⟩ := X
  by_cases h1 : s < 96
  · refine ⟨_, c_addStep0 lo h1 x2, f.tr ((am_fr.pi (S := pc_Q o) (Or.inr rfl)).tr (am_fr.pi (Or.inl rfl))), ?_, ⟨s + 1, by omega, ?_⟩, ⟨q, hq, ?_⟩, ?_⟩
    · rw [am_pi_i, if_neg (by omega), am_pi_i, if_neg (by omega)]; exact x1
    · rw [am_pi_i, if_pos ⟨rfl, rfl⟩]
    · rw [am_pi_i, if_neg (by omega), am_pi_i, if_neg (by omega)]; exact x3
    · rw [am_pi_i, if_neg (by omega), am_pi_i, if_neg (by omega)]; exact x4
  · refine ⟨h, ?_, f, x1, ⟨s, hs, x2⟩, ⟨q, hq, x3⟩, x4⟩
    have hle : (96 : Int32) ≤ nI s := nI_le (a := 96) (by omega) (by omega)
    simp only [n_59, e_59_0, e_59_1, e_59_4, e_59_6, e_59_9, e_59_10, e_59_13, e_59_14, e_59_17, e_59_18, e_59_19, e_59_20, e_59_21, e_59_24, e_59_25, e_59_26, e_59_29, Option.bind_some, Option.toList_some, Option.toList_none, List.cons_append, List.nil_append, am_k1_i, am_k1_r, am_k1_u, am_k1_n, am_bo0, am_bo1, am_boi, am_ev_tb, am_tb_nil, am_rfs, am_rfn, eq_self, and_self, if_true, if_false, show ¬ (1 : Int32) = 0 from by decide, show ¬ (0 : Int32) = 1 from by decide, not_true, not_false_eq_true, and_true, true_and, and_false, false_and, or_true, true_or, or_false, false_or, co_rd lo, x2, hle]
theorem c_addStepS (E : pc_E G h0 o T t W st ln key) (f : am_fr (pc_Q o) h0 h) {v u : Int32} (hv : v = 20000 + u) (hl : out.length < 96) (S : pc_S h o W key k out) : ∃ h2, am_evm G d 59 [.ref (o + 79), .int v] h = some (none, h2) ∧ am_fr (pc_Q o) h0 h2 ∧ pc_S h2 o W key k (out ++ [(2, u)]) := by
  have lo := pc_lo E f
  obtain ⟨⟨s5, s6, s7, s8, s9, s10⟩, sc⟩ := S
  refine ⟨_, c_addStep0 lo hl s7, f.tr ((am_fr.pi (S := pc_Q o) (Or.inr rfl)).tr (am_fr.pi (Or.inl rfl))), ⟨?_, ?_, ?_, ?_, ?_, ?_⟩, fun i x hx => ?_⟩
  · rw [am_pi_i, if_neg (by omega), am_pi_i, if_neg (by omega)]; exact s5
  · rw [am_pi_i, if_neg (by omega), am_pi_i, if_neg (by omega)]; exact s6
  · rw [am_pi_i, if_pos ⟨rfl, rfl⟩, List.length_append]; rfl
  · rw [am_pi_i, if_neg (by omega), am_pi_i, if_neg (by omega), ot_n_app]; exact s8
  · rw [am_pi_i, if_neg (by omega), am_pi_i, if_neg (by omega)]; exact s9
  · rw [am_pi_i, if_neg (by omega), am_pi_i, if_neg (by omega)]; exact s10
  · rcases ot_ap hx with ⟨h1, h2⟩ | ⟨h1, h2⟩
    · rw [am_pi_i, if_neg (by omega), am_pi_i, if_neg (by omega)]; exact sc i x h2
    · rw [am_pi_i, if_neg (by omega), am_pi_i, if_pos ⟨rfl, h1⟩, h2]
      exact Or.inr (Or.inr ⟨rfl, hv⟩)
theorem c_addPiece (E : pc_E G h0 o T t W st ln key) (f : am_fr (pc_Q o) h0 h) {v : Int32} {y : Int32 × Int32} (hv : mt_cs key v y.1 y.2) (hy : ¬ y.1 = 2) (hk : k < W) (hl : out.length < 96) (S : pc_S h o W key k out) : ∃ h2, am_evm G (d + 1) 58 [.ref (o + 79), .int v] h = some (none, h2) ∧ am_fr (pc_Q o) h0 h2 ∧ pc_S h2 o W key (k + 1) (out ++ [y]) := by
  have lo := pc_lo E f
  obtain ⟨⟨s5, s6, s7, s8, s9, s10⟩, sc⟩ := S
  have e1 := c_addStep0 (d := d) (v := v) lo hl s7
  have f1 : am_fr (pc_Q o) h0 (am_pi (am_pi h (o + 85) out.length v) (o + 79) 7 (nI (out.length + 1))) := f.tr ((am_fr.pi (S := pc_Q o) (Or.inr rfl)).tr (am_fr.pi (Or.inl rfl)))
  have q8 : am_i (am_pi (am_pi h (o + 85) out.length v) (o + 79) 7 (nI (out.length + 1))) (o + 79) 8 = nI (ot_n out) := by rw [am_pi_i, if_neg (by omega), am_pi_i, if_neg (by omega)]; exact s8
  have f2 : am_fr (pc_Q o) h0 (am_pi (am_pi (am_pi h (o + 85) out.length v) (o + 79) 7 (nI (out.length + 1))) (o + 79) 8 (nI (ot_n out + 1))) := f1.tr (am_fr.pi (Or.inl rfl))
  have hn : ot_n [y] = 1 := by show (if y.1 = 2 then 0 else 1) + 0 = 1; rw [if_neg hy]
  have S2 : pc_S (am_pi (am_pi (am_pi h (o + 85) out.length v) (o + 79) 7 (nI (out.length + 1))) (o + 79) 8 (nI (ot_n out + 1))) o W key k (out ++ [y]) := by
    refine ⟨⟨?_, ?_, ?_, ?_, ?_, ?_⟩, fun i x hx => ?_⟩
    · rw [am_pi_i, if_neg (by omega), am_pi_i, if_neg (by omega), am_pi_i, if_neg (by omega)]; exact s5
    · rw [am_pi_i, if_neg (by omega), am_pi_i, if_neg (by omega), am_pi_i, if_neg (by omega)]; exact s6
    · rw [am_pi_i, if_neg (by omega), am_pi_i, if_pos ⟨rfl, rfl⟩, List.length_append]; rfl
    · rw [am_pi_i, if_pos ⟨rfl, rfl⟩, ot_n_app, hn]
    · rw [am_pi_i, if_neg (by omega), am_pi_i, if_neg (by omega), am_pi_i, if_neg (by omega)]; exact s9
    · rw [am_pi_i, if_neg (by omega), am_pi_i, if_neg (by omega), am_pi_i, if_neg (by omega)]; exact s10
    · rcases ot_ap hx with ⟨h1, h2⟩ | ⟨h1, h2⟩
      · rw [am_pi_i, if_neg (by omega), am_pi_i, if_neg (by omega), am_pi_i, if_neg (by omega)]; exact sc i x h2
      · rw [am_pi_i, if_neg (by omega), am_pi_i, if_neg (by omega), am_pi_i, if_pos ⟨rfl, h1⟩, h2]
        exact hv
  obtain ⟨h3, e3, f3, S3⟩ := c_goOn (d := d) E f2 hk S2
  refine ⟨h3, ?_, f3, S3⟩
  simp only [n_58, e_58_0, e_58_1, e_58_2, e_58_5, e_58_6, e_58_7, e_58_10, e_58_11, e_58_12, e_58_15, e_58_16, e_58_19, Option.bind_some, Option.toList_some, Option.toList_none, List.cons_append, List.nil_append, am_k1_i, am_k1_r, am_k1_u, am_k1_n, am_bo0, am_bo1, am_boi, am_ev_tb, am_tb_nil, am_rfs, am_rfn, eq_self, and_self, if_true, if_false, show ¬ (1 : Int32) = 0 from by decide, show ¬ (0 : Int32) = 1 from by decide, not_true, not_false_eq_true, and_true, true_and, and_false, false_and, or_true, true_or, or_false, false_or, co_rd lo, e1, co_rd (pc_lo E f1), q8, nI_1, co_rd (pc_lo E f2), e3]
/-- the level of a sign -/
def tk_lv (v : Int32) : Int32 := if v = 38 then 1 else if v = 42 then 4 else if v = 43 then 3 else if v = 45 then 3 else if v = 47 then 4 else if v = 60 then 2 else if v = 61 then 2 else if v = 62 then 2 else if v = 124 then 0 else -1000000005
theorem c_levelOf {v : Int32} : am_evm G d 53 [.int v] h = some (some (.int (tk_lv v)), h) := by
  unfold tk_lv
  simp only [n_53, e_53_0, e_53_1, e_53_94, e_53_96, e_53_84, e_53_85, e_53_88, e_53_89, e_53_92, e_53_93, e_53_90, e_53_91, e_53_86, e_53_87, Option.bind_some, Option.toList_some, Option.toList_none, List.cons_append, List.nil_append, am_k1_i, am_k1_r, am_k1_u, am_k1_n, am_bo0, am_bo1, am_boi, am_ev_tb, am_tb_nil, am_rfs, am_rfn, eq_self]
  by_cases h1 : v = 38
  · subst h1; simp
  by_cases h2 : v = 42
  · subst h2; simp
  by_cases h3 : v = 43
  · subst h3; simp
  by_cases h4 : v = 45
  · subst h4; simp
  by_cases h5 : v = 47
  · subst h5; simp
  by_cases h6 : v = 60
  · subst h6; simp
  by_cases h7 : v = 61
  · subst h7; simp
  by_cases h8 : v = 62
  · subst h8; simp
  by_cases h9 : v = 124
  · subst h9; simp
  simp only [h1, h2, h3, h4, h5, h6, h7, h8, h9, if_false]
end PC
/-! the reference -/
def rp_E (G : Nat → Nat) (h0 : am_H) (m : Nat) (T : Nat → Int32) (t W : Nat) (st ln : Nat → Nat) (key A : Nat) : Prop := cm_Lay G h0 m ∧ (am_i h0 m 14 = nI t ∧ ∀ j, j < t → am_i h0 (m + 13) j = T j) ∧ tk_Env T t W st ln ∧ A + 196 ≤ 3114 ∧ key < 3
def rp_F (h0 h : am_H) (m A : Nat) : Prop := am_fr (fun b => b = m ∨ b = m + 1) h0 h ∧ (∀ k, k < 15 ∨ 24 < k → am_i h m k = am_i h0 m k) ∧ ∀ j, j < A ∨ A + 196 ≤ j → am_i h (m + 1) j = am_i h0 (m + 1) j
def rp_S (T : Nat → Int32) (W : Nat) (st ln : Nat → Nat) (A : Nat) (h : am_H) (m k op nt : Nat) (out : List (Int32 × Int32)) : Prop := rt_at T W st ln h m k ∧ (am_i h m 20 = nI op ∧ am_i h m 21 = nI nt ∧ am_i h m 22 = nI out.length ∧ am_i h m 23 = nI A ∧ am_i h m 24 = nI (ot_n out)) ∧ ∀ i x, out[i]? = some x → am_i h (m + 1) (A + 2 * i) = x.1 ∧ am_i h (m + 1) (A + 2 * i + 1) = x.2
section PR
variable {G : Nat → Nat} {d : Nat} {h0 h : am_H} {m t W key A k op nt : Nat} {T : Nat → Int32} {st ln : Nat → Nat} {out : List (Int32 × Int32)}
theorem rp_l (E : rp_E G h0 m T t W st ln key A) (F : rp_F h0 h m A) : cm_Lay G h m := E.1.fr F.1
theorem rp_next (E : rp_E G h0 m T t W st ln key A) (F : rp_F h0 h m A) (hk : k < W) (hw : tk_kd T W st ln k ≠ 4) (S : rp_S T W st ln A h m k op nt out) : ∃ h2, am_evm G (d + 2) 189 [.ref m] h = some (none, h2) ∧ rp_F h0 h2 m A ∧ rp_S T W st ln A h2 m (k + 1) op nt out := by
  obtain ⟨h2, e, f, q, R⟩ := m_next1 (d := d) (rp_l E F) (by rw [F.2.1 14 (by omega)]; exact E.2.1.1) E.2.2.1 (fun j hj => by rw [F.1.i1 (by omega)]; exact E.2.1.2 j hj) hk hw S.1
  have g1 : am_i h2 (m + 1) = am_i h (m + 1) := f.i1 (by omega)
  refine ⟨h2, e, ⟨F.1.tr (f.wd (fun b hb => Or.inl hb)), fun j hj => by rw [q j (by omega)]; exact F.2.1 j hj, fun j hj => by rw [g1]; exact F.2.2 j hj⟩, R, ?_, ?_⟩
  · rw [q 20 (by omega), q 21 (by omega), q 22 (by omega), q 23 (by omega), q 24 (by omega)]
    exact S.2.1
  · rw [g1]; exact S.2.2
theorem m_isSign (E : rp_E G h0 m T t W st ln key A) (F : rp_F h0 h m A) {c : Int32} (R : rt_at T W st ln h m k) : am_evm G d 190 [.ref m, .int c] h = some (some (.int (if tk_kd T W st ln k = 3 ∧ T (st k) = c then 1 else 0)), h) := by
  have l := rp_l E F
  obtain ⟨r1, r2, r3, r4, r5, r6⟩ := R
  have hle : tk_kd T W st ln k ≤ 4 := by unfold tk_kd; (repeat' split) <;> omega
  by_cases h1 : tk_kd T W st ln k = 3
  · have r4' := r4 h1
    rw [h1] at r3
    by_cases h2 : T (st k) = c
    · simp only [n_190, e_190_0, e_190_1, e_190_4, e_190_5, e_190_8, e_190_9, e_190_12, e_190_13, e_190_16, e_190_17, f_190_21, e_190_20, Option.bind_some, Option.toList_some, Option.toList_none, List.cons_append, List.nil_append, am_k1_i, am_k1_r, am_k1_u, am_k1_n, am_bo0, am_bo1, am_boi, am_ev_tb, am_tb_nil, am_rfs, am_rfn, eq_self, and_self, if_true, if_false, show ¬ (1 : Int32) = 0 from by decide, show ¬ (0 : Int32) = 1 from by decide, not_true, not_false_eq_true, and_true, true_and, and_false, false_and, or_true, true_or, or_false, false_or, cm_ob l, r3, show nI 3 = (3 : Int32) from rfl, r4', h1, h2]
    · simp only [n_190, e_190_0, e_190_1, e_190_4, e_190_5, e_190_8, e_190_9, e_190_12, e_190_13, e_190_16, e_190_17, f_190_21, e_190_20, Option.bind_some, Option.toList_some, Option.toList_none, List.cons_append, List.nil_append, am_k1_i, am_k1_r, am_k1_u, am_k1_n, am_bo0, am_bo1, am_boi, am_ev_tb, am_tb_nil, am_rfs, am_rfn, eq_self, and_self, if_true, if_false, show ¬ (1 : Int32) = 0 from by decide, show ¬ (0 : Int32) = 1 from by decide, not_true, not_false_eq_true, and_true, true_and, and_false, false_and, or_true, true_or, or_false, false_or, cm_ob l, r3, show nI 3 = (3 : Int32) from rfl, r4', h1, h2]
  · have h1' : ¬ nI (tk_kd T W st ln k) = 3 := fun z => h1 ((nI_eq (b := 3) (by omega) (by decide)).mp z)
    simp only [n_190, e_190_0, e_190_1, e_190_4, e_190_5, e_190_8, e_190_9, e_190_12, e_190_13, e_190_16, e_190_17, f_190_21, e_190_20, Option.bind_some, Option.toList_some, Option.toList_none, List.cons_append, List.nil_append, am_k1_i, am_k1_r, am_k1_u, am_k1_n, am_bo0, am_bo1, am_boi, am_ev_tb, am_tb_nil, am_rfs, am_rfn, eq_self, and_self, if_true, if_false, show ¬ (1 : Int32) = 0 from by decide, show ¬ (0 : Int32) = 1 from by decide, not_true, not_false_eq_true, and_true, true_and, and_false, false_and, or_true, true_or, or_false, false_or, cm_ob l, r3, h1', h1]
theorem rp_step (E : rp_E G h0 m T t W st ln key A) (F : rp_F h0 h m A) {y : Int32 × Int32} (hl : out.length < 96) (R : rt_at T W st ln h m k) (q20 : am_i h m 20 = nI op) (q21 : am_i h m 21 = nI nt) (q22 : am_i h m 22 = nI out.length) (q23 : am_i h m 23 = nI A) (sc : ∀ i x, out[i]? = some x → am_i h (m + 1) (A + 2 * i) = x.1 ∧ am_i h (m + 1) (A + 2 * i + 1) = x.2) : ∃ h2, am_evm G d 194 [.ref m, .int y.1, .int y.2] h = some (none, h2) ∧ rp_F h0 h2 m A ∧ rt_at T W st ln h2 m k ∧ (am_i h2 m 20 = nI op ∧ am_i h2 m 21 = nI nt ∧ am_i h2 m 22 = nI (out ++ [y]).length ∧ am_i h2 m 23 = nI A ∧ am_i h2 m 24 = am_i h m 24) ∧ ∀ i x, (out ++ [y])[i]? = some x → am_i h2 (m + 1) (A + 2 * i) = x.1 ∧ am_i h2 (m + 1) (A + 2 * i + 1) = x.2 := by
  have l := rp_l E F
  have hA := E.2.2.2.1
  have e0 : nI A + 2 * nI out.length = nI (A + 2 * out.length) := by rw [← nI_add, ← pk_mul]; rfl
  have e1 : nI (A + 2 * out.length) + 1 = nI (A + 2 * out.length + 1) := nI_1 _
  have g1 : ∀ j, am_i (am_pi h (m + 1) (A + 2 * out.length) y.1) m j = am_i h m j := fun j => by rw [(am_pi_o m (by omega)).1]
  have g2 : ∀ j, am_i (am_pi (am_pi h (m + 1) (A + 2 * out.length) y.1) (m + 1) (A + 2 * out.length + 1) y.2) m j = am_i h m j := fun j => by rw [(am_pi_o m (by omega)).1, g1]
  have g3 : ∀ j, j ≠ 22 → am_i (am_pi (am_pi (am_pi h (m + 1) (A + 2 * out.length) y.1) (m + 1) (A + 2 * out.length + 1) y.2) m 22 (nI (out.length + 1))) m j = am_i h m j := fun j hj => by rw [am_pi_i, if_neg (fun z => hj z.2), g2]
  refine ⟨am_pi (am_pi (am_pi h (m + 1) (A + 2 * out.length) y.1) (m + 1) (A + 2 * out.length + 1) y.2) m 22 (nI (out.length + 1)), ?_, ⟨F.1.tr (((am_fr.pi (S := fun b => b = m ∨ b = m + 1) (Or.inr rfl)).tr (am_fr.pi (Or.inr rfl))).tr (am_fr.pi (Or.inl rfl))), fun j hj => by rw [g3 j (by omega)]; exact F.2.1 j hj, fun j hj => ?_⟩, ?_, ⟨?_, ?_, ?_, ?_, ?_⟩, fun i x hx => ?_⟩
  · simp only [n_194, e_194_0, e_194_1, e_194_4, e_194_5, e_194_8, e_194_9, e_194_10, e_194_13, e_194_14, e_194_15, e_194_16, e_194_17, e_194_18, e_194_21, e_194_22, e_194_25, e_194_26, e_194_27, e_194_30, e_194_31, e_194_32, e_194_33, e_194_34, e_194_35, e_194_36, e_194_37, e_194_38, e_194_41, e_194_42, e_194_43, e_194_46, Option.bind_some, Option.toList_some, Option.toList_none, List.cons_append, List.nil_append, am_k1_i, am_k1_r, am_k1_u, am_k1_n, am_bo0, am_bo1, am_boi, am_ev_tb, am_tb_nil, am_rfs, am_rfn, eq_self, and_self, if_true, if_false, show ¬ (1 : Int32) = 0 from by decide, show ¬ (0 : Int32) = 1 from by decide, not_true, not_false_eq_true, and_true, true_and, and_false, false_and, or_true, true_or, or_false, false_or, cm_ob l, cm_r0 l, q22, q23, e0, e1, cm_iw1 l (show A + 2 * out.length < 3114 by omega), cm_iw1 l (show A + 2 * out.length + 1 < 3114 by omega), am_cl (show A + 2 * out.length < 2147483648 by omega), am_cl (show A + 2 * out.length + 1 < 2147483648 by omega), am_ob_pi, am_pi_r, am_iw_pi, g1, g2, nI_1]
  · rw [am_pi_i, if_neg (by omega), am_pi_i, if_neg (by omega), am_pi_i, if_neg (by omega)]; exact F.2.2 j hj
  · unfold rt_at
    rw [g3 15 (by omega), g3 16 (by omega), g3 17 (by omega), g3 18 (by omega), g3 19 (by omega)]
    exact R
  · rw [g3 20 (by omega)]; exact q20
  · rw [g3 21 (by omega)]; exact q21
  · rw [am_pi_i, if_pos ⟨rfl, rfl⟩, List.length_append]; rfl
  · rw [g3 23 (by omega)]; exact q23
  · rw [g3 24 (by omega)]
  · rcases ot_ap hx with ⟨h1, h2⟩ | ⟨h1, h2⟩
    · obtain ⟨a1, a2⟩ := sc i x h2
      refine ⟨?_, ?_⟩
      · rw [am_pi_i, if_neg (by omega), am_pi_i, if_neg (by omega), am_pi_i, if_neg (by omega)]; exact a1
      · rw [am_pi_i, if_neg (by omega), am_pi_i, if_neg (by omega), am_pi_i, if_neg (by omega)]; exact a2
    · rw [h2, h1]
      refine ⟨?_, ?_⟩
      · rw [am_pi_i, if_neg (by omega), am_pi_i, if_neg (by omega), am_pi_i, if_pos ⟨rfl, rfl⟩]
      · rw [am_pi_i, if_neg (by omega), am_pi_i, if_pos ⟨rfl, rfl⟩]
theorem rp_stepS (E : rp_E G h0 m T t W st ln key A) (F : rp_F h0 h m A) {u : Int32} (hl : out.length < 96) (S : rp_S T W st ln A h m k op nt out) : ∃ h2, am_evm G d 194 [.ref m, .int 2, .int u] h = some (none, h2) ∧ rp_F h0 h2 m A ∧ rp_S T W st ln A h2 m k op nt (out ++ [(2, u)]) := by
  obtain ⟨h2, e, F2, R2, ⟨a1, a2, a3, a4, a5⟩, c2⟩ := rp_step (d := d) (y := (2, u)) E F hl S.1 S.2.1.1 S.2.1.2.1 S.2.1.2.2.1 S.2.1.2.2.2.1 S.2.2
  exact ⟨h2, e, F2, R2, ⟨a1, a2, a3, a4, by rw [a5, S.2.1.2.2.2.2, ot_n_app]; rfl⟩, c2⟩
/-- a number or a name: its step, and on -/
theorem rp_pieceS (E : rp_E G h0 m T t W st ln key A) (F : rp_F h0 h m A) {y : Int32 × Int32} (hy : ¬ y.1 = 2) (hl : out.length < 96) (hk : k < W) (hw : tk_kd T W st ln k ≠ 4) (S : rp_S T W st ln A h m k op nt out) : ∃ h2 h3, am_evm G (d + 2) 194 [.ref m, .int y.1, .int y.2] h = some (none, h2) ∧ cm_Lay G h2 m ∧ am_i h2 m 24 = nI (ot_n out) ∧ am_evm G (d + 2) 189 [.ref m] (am_pi h2 m 24 (nI (ot_n out + 1))) = some (none, h3) ∧ cm_Lay G (am_pi h2 m 24 (nI (ot_n out + 1))) m ∧ rp_F h0 h3 m A ∧ rp_S T W st ln A h3 m (k + 1) op nt (out ++ [y]) := by
  obtain ⟨h2, e, F2, R2, ⟨a1, a2, a3, a4, a5⟩, c2⟩ := rp_step (d := d + 2) (y := y) E F hl S.1 S.2.1.1 S.2.1.2.1 S.2.1.2.2.1 S.2.1.2.2.2.1 S.2.2
  have hn : ot_n [y] = 1 := by show (if y.1 = 2 then 0 else 1) + 0 = 1; rw [if_neg hy]
  have g3 : ∀ j, j ≠ 24 → am_i (am_pi h2 m 24 (nI (ot_n out + 1))) m j = am_i h2 m j := fun j hj => by rw [am_pi_i, if_neg (fun z => hj z.2)]
  have g1 : am_i (am_pi h2 m 24 (nI (ot_n out + 1))) (m + 1) = am_i h2 (m + 1) := (am_pi_o _ (by omega)).1
  have F3 : rp_F h0 (am_pi h2 m 24 (nI (ot_n out + 1))) m A := ⟨F2.1.tr (am_fr.pi (Or.inl rfl)), fun j hj => by rw [g3 j (by omega)]; exact F2.2.1 j hj, fun j hj => by rw [g1]; exact F2.2.2 j hj⟩
  have S3 : rp_S T W st ln A (am_pi h2 m 24 (nI (ot_n out + 1))) m k op nt (out ++ [y]) := by
    refine ⟨?_, ⟨by rw [g3 20 (by omega)]; exact a1, by rw [g3 21 (by omega)]; exact a2, by rw [g3 22 (by omega)]; exact a3, by rw [g3 23 (by omega)]; exact a4, by rw [am_pi_i, if_pos ⟨rfl, rfl⟩, ot_n_app, hn]⟩, by rw [g1]; exact c2⟩
    unfold rt_at
    rw [g3 15 (by omega), g3 16 (by omega), g3 17 (by omega), g3 18 (by omega), g3 19 (by omega)]
    exact R2
  obtain ⟨h4, e4, F4, S4⟩ := rp_next (d := d) E F3 hk hw S3
  exact ⟨h2, h4, e, rp_l E F2, by rw [a5]; exact S.2.1.2.2.2.2, e4, rp_l E F3, F4, S4⟩
end PR
