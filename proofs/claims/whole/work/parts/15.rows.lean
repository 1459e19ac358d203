/-! rows for single instructions, by kind -/
def am_ob (G : Nat → Nat) (h : am_H) (a ci : Nat) : Prop := (G 0 ≤ a ∧ a < am_top h) ∧ (am_sh h a).1 = ci
def am_ia (G : Nat → Nat) (h : am_H) (a : Nat) (j : Int32) : Prop := (((G 0 ≤ a ∧ a < am_top h) ∧ (am_sh h a).1 = 20) ∨ (a < G 0 ∧ (am_sh h a).1 = 30)) ∧ ¬ (j < 0 ∨ (am_sh h a).2 ≤ j.toNatClampNeg)
def am_ba (G : Nat → Nat) (h : am_H) (a : Nat) (j : Int32) : Prop := (((G 0 ≤ a ∧ a < am_top h) ∧ (am_sh h a).1 = 21) ∨ (a < G 0 ∧ (am_sh h a).1 = 32)) ∧ ¬ (j < 0 ∨ (am_sh h a).2 ≤ j.toNatClampNeg)
def am_ca (G : Nat → Nat) (h : am_H) (a : Nat) (j : Int32) : Prop := (a < G 0 ∧ (am_sh h a).1 = 31) ∧ ¬ (j < 0 ∨ (am_sh h a).2 ≤ j.toNatClampNeg)
def am_iw (G : Nat → Nat) (h : am_H) (a : Nat) (j : Int32) : Prop := ((G 0 ≤ a ∧ a < am_top h) ∧ (am_sh h a).1 = 20) ∧ ¬ (j < 0 ∨ (am_sh h a).2 ≤ j.toNatClampNeg)
def am_bw (G : Nat → Nat) (h : am_H) (a : Nat) (j : Int32) : Prop := ((G 0 ≤ a ∧ a < am_top h) ∧ (am_sh h a).1 = 21) ∧ ¬ (j < 0 ∨ (am_sh h a).2 ≤ j.toNatClampNeg)
def am_ra (G : Nat → Nat) (h : am_H) (a : Nat) (j : Int32) : Prop := ((G 0 ≤ a ∧ a < am_top h) ∧ 22 ≤ (am_sh h a).1 ∧ (am_sh h a).1 ≤ 26) ∧ ¬ (j < 0 ∨ (am_sh h a).2 ≤ j.toNatClampNeg)
def am_rw (G : Nat → Nat) (h : am_H) (a : Nat) (j : Int32) (v : Nat) : Prop := (((G 0 ≤ a ∧ a < am_top h) ∧ 22 ≤ (am_sh h a).1 ∧ (am_sh h a).1 ≤ 26) ∧ ¬ (j < 0 ∨ (am_sh h a).2 ≤ j.toNatClampNeg)) ∧ (G 0 ≤ v ∧ v < am_top h) ∧ (am_sh h v).1 = am_aC (am_sh h a).1
def am_al (G : Nat → Nat) (h : am_H) (a : Nat) : Prop := ((G 0 ≤ a ∧ a < am_top h) ∧ 20 ≤ (am_sh h a).1 ∧ (am_sh h a).1 ≤ 26) ∨ (a < G 0 ∧ 30 ≤ (am_sh h a).1 ∧ (am_sh h a).1 ≤ 32)
def am_cp (G : Nat → Nat) (h : am_H) (a b : Nat) (sp dp n : Int32) : Prop := ((G 0 ≤ a ∧ a < am_top h) ∧ (am_sh h a).1 = 20) ∧ ((G 0 ≤ b ∧ b < am_top h) ∧ (am_sh h b).1 = 20) ∧ (¬ sp < 0 ∧ ¬ dp < 0 ∧ ¬ n < 0) ∧ sp.toNatClampNeg + n.toNatClampNeg ≤ (am_sh h a).2 ∧ dp.toNatClampNeg + n.toNatClampNeg ≤ (am_sh h b).2
section AMR
variable {G : Nat → Nat} {d cn x a b ci k : Nat} {ini : Bool} {r : List Value} {h : am_H} {j v z : Int32}
theorem am_m_gi (hl : am_lk am_flT cn x = some (ci, k)) (hr : am_isR ci k = false) (ho : am_ob G h a ci) : am_mem G d cn ini (.getfield x) (.ref a :: r) h = some (.int (am_i h a k) :: r, h) := by
  show am_get G cn x (.ref a :: r) h = _
  unfold am_get
  simp only [hl]
  unfold am_ob at ho
  rw [if_pos ho]
  unfold am_fv
  rw [if_neg (by rw [hr]; decide)]
theorem am_m_gr (hl : am_lk am_flT cn x = some (ci, k)) (hr : am_isR ci k = true) (ho : am_ob G h a ci) : am_mem G d cn ini (.getfield x) (.ref a :: r) h = some (va_rf (am_r h a k) :: r, h) := by
  show am_get G cn x (.ref a :: r) h = _
  unfold am_get
  simp only [hl]
  unfold am_ob at ho
  rw [if_pos ho]
  unfold am_fv
  rw [if_pos hr]
theorem am_m_gw {w : Nat} (hl : am_lk am_flT 11 9 = none) (hw : am_str G a = some w) : am_mem G d 11 ini (.getfield 9) (.ref a :: r) h = some (.ref w :: r, h) := by
  show am_get G 11 9 (.ref a :: r) h = _
  unfold am_get
  simp [hl, hw]
theorem am_m_gc {w : Nat} (hl : am_lk am_flT 11 15 = none) (hw : am_str G a = some w) : am_mem G d 11 ini (.getfield 15) (.ref a :: r) h = some (.int 0 :: r, h) := by
  show am_get G 11 15 (.ref a :: r) h = _
  unfold am_get
  simp [hl, hw]
theorem am_m_pi (hl : am_lk am_flT cn x = some (ci, k)) (hr : am_isR ci k = false) (hf : (am_T ci k).2.2.2 = false ∨ (ini = true ∧ (am_T ci k).1 = am_cs cn)) (hn : narrow (am_ty ci k) (.int v) = .int v ∧ fits (am_ty ci k) (.int v) = true) (ho : am_ob G h a ci) : am_mem G d cn ini (.putfield x) (.int v :: .ref a :: r) h = some (r, am_pi h a k v) := by
  show am_put G cn ini x (.int v :: .ref a :: r) h = _
  unfold am_put
  simp only [hl]
  rw [if_pos ⟨ho, hf⟩]
  unfold am_pv
  rw [if_neg (by rw [hr]; decide)]
  simp only [if_pos hn]
theorem am_m_pr (hl : am_lk am_flT cn x = some (ci, k)) (hr : am_isR ci k = true) (hf : (am_T ci k).2.2.2 = false ∨ (ini = true ∧ (am_T ci k).1 = am_cs cn)) (ho : am_ob G h a ci) : am_mem G d cn ini (.putfield x) (.ref b :: .ref a :: r) h = some (r, am_pr h a k (some b)) := by
  show am_put G cn ini x (.ref b :: .ref a :: r) h = _
  unfold am_put
  simp only [hl]
  rw [if_pos ⟨ho, hf⟩]
  unfold am_pv
  rw [if_pos hr]
theorem am_m_ia (ho : am_ia G h a j) : am_mem G d cn ini .iaload (.int j :: .ref a :: r) h = some (.int (am_i h a j.toNatClampNeg) :: r, h) := if_pos ho
theorem am_m_ba (ho : am_ba G h a j) : am_mem G d cn ini .baload (.int j :: .ref a :: r) h = some (.int (am_i h a j.toNatClampNeg) :: r, h) := if_pos ho
theorem am_m_ca (ho : am_ca G h a j) : am_mem G d cn ini .caload (.int j :: .ref a :: r) h = some (.int (am_i h a j.toNatClampNeg) :: r, h) := if_pos ho
theorem am_m_ra (ho : am_ra G h a j) : am_mem G d cn ini .aaload (.int j :: .ref a :: r) h = some (va_rf (am_r h a j.toNatClampNeg) :: r, h) := if_pos ho
theorem am_m_iw (ho : am_iw G h a j) : am_mem G d cn ini .iastore (.int v :: .int j :: .ref a :: r) h = some (r, am_pi h a j.toNatClampNeg v) := if_pos ho
theorem am_m_bw (ho : am_bw G h a j) : am_mem G d cn ini .bastore (.int v :: .int j :: .ref a :: r) h = some (r, am_pi h a j.toNatClampNeg v.toInt8.toInt32) := if_pos ho
theorem am_m_rw (ho : am_rw G h a j b) : am_mem G d cn ini .aastore (.ref b :: .int j :: .ref a :: r) h = some (r, am_pr h a j.toNatClampNeg (some b)) := if_pos ho
theorem am_m_rn (ho : am_ra G h a j) : am_mem G d cn ini .aastore (.null :: .int j :: .ref a :: r) h = some (r, am_pr h a j.toNatClampNeg none) := if_pos ho
theorem am_m_al (ho : am_al G h a) : am_mem G d cn ini .arraylength (.ref a :: r) h = some (.int (Int32.ofNat (am_sh h a).2) :: r, h) := if_pos ho
theorem am_m_nw {t : Jvm.ClassFile.ArrayType} (ht : am_nwk t ≠ 0) (hn : ¬ v < 0 ∧ v.toNatClampNeg ≤ 100000) : am_mem G d cn ini (.newarray t) (.int v :: r) h = some (.ref (am_top h) :: r, am_new h (am_nwk t) v.toNatClampNeg v.toNatClampNeg) := if_pos ⟨ht, hn⟩
theorem am_m_an (hl : am_lk am_nlT cn x = some ci) (hc : ci = 2 ∨ ci = 0 ∨ ci = 7 ∨ ci = 4 ∨ ci = 5) (hn : ¬ v < 0 ∧ v.toNatClampNeg ≤ 100000) : am_mem G d cn ini (.anewarray x) (.int v :: r) h = some (.ref (am_top h) :: r, am_new h (am_kA ci) v.toNatClampNeg v.toNatClampNeg) := by
  show am_anw cn x (.int v :: r) h = _
  unfold am_anw
  simp only [hl]
  exact if_pos ⟨hc, hn⟩
theorem am_m_no (hl : am_lk am_nlT cn x = some ci) : am_mem G d cn ini (.new x) r h = some (.ref (am_top h) :: r, am_new h ci 0 (am_N ci)) := by
  show am_nwo cn x r h = _
  unfold am_nwo
  simp only [hl]
theorem am_m_oi (hl : am_lk am_biT cn x = some 0) (hr : r.length ≤ 4) : am_mem G (d + 1) cn ini (.invokespecial x) (.ref a :: r) h = some (r, h) := if_pos ⟨hl, Nat.succ_le_succ (Nat.zero_le d), am_cat_le hr⟩
theorem am_m_cp {sp dp n : Int32} (hl : am_lk am_biT cn x = some 1) (hr : r.length ≤ 4) (ho : am_cp G h a b sp dp n) : am_mem G (d + 1) cn ini (.invokestatic x) (.int n :: .int dp :: .ref b :: .int sp :: .ref a :: r) h = some (r, am_pa h b (va_cpy (am_i h a) (am_i h b) sp.toNatClampNeg dp.toNatClampNeg n.toNatClampNeg)) := if_pos ⟨⟨hl, Nat.succ_le_succ (Nat.zero_le d), am_cat_le hr⟩, ho⟩
theorem am_m_mx (hl : am_lk am_biT cn x = some 2) (hr : r.length ≤ 2) : am_mem G (d + 1) cn ini (.invokestatic x) (.int v :: .int z :: r) h = some (.int (if z < v then v else z) :: r, h) := by
  show am_sta2 G (d + 1) cn x (.int v :: .int z :: r) h = _
  unfold am_sta2
  split
  · next e => injection e with e1 e2; injection e2 with e3 e4; rw [e4] at hr; simp at hr
  · next e2 =>
    injection e2 with e3 e4
    injection e4 with e5 e6
    injection e3 with e3
    injection e5 with e5
    subst e3; subst e5; subst e6
    rw [if_pos ⟨Nat.succ_le_succ (Nat.zero_le d), am_cat_le (by omega)⟩, if_pos hl]
  · next h1 h2 => exact absurd rfl (h2 _ _ _)
theorem am_m_mn (hl : am_lk am_biT cn x = some 3) (hr : r.length ≤ 2) : am_mem G (d + 1) cn ini (.invokestatic x) (.int v :: .int z :: r) h = some (.int (if v < z then v else z) :: r, h) := by
  show am_sta2 G (d + 1) cn x (.int v :: .int z :: r) h = _
  unfold am_sta2
  split
  · next e => injection e with e1 e2; injection e2 with e3 e4; rw [e4] at hr; simp at hr
  · next e2 =>
    injection e2 with e3 e4
    injection e4 with e5 e6
    injection e3 with e3
    injection e5 with e5
    subst e3; subst e5; subst e6
    rw [if_pos ⟨Nat.succ_le_succ (Nat.zero_le d), am_cat_le (by omega)⟩, if_neg (by rw [hl]; decide), if_pos hl]
  · next h1 h2 => exact absurd rfl (h2 _ _ _)
theorem am_m_li (hl : am_lk am_klT cn x = some v) : am_mem G d cn ini (.ldc x) r h = some (.int v :: r, h) := by
  show am_ldc G cn x r h = _
  unfold am_ldc
  simp only [hl]
theorem am_m_lw (hl : am_lk am_klT cn x = some v) : am_mem G d cn ini (.ldc_w x) r h = some (.int v :: r, h) := by
  show am_ldcw cn x r h = _
  unfold am_ldcw
  simp only [hl]
theorem am_m_l2 {w : Int64} (hl : am_lk am_k2T cn x = some w) : am_mem G d cn ini (.ldc2_w x) r h = some (.long w :: r, h) := by
  show am_ldc2 cn x r h = _
  unfold am_ldc2
  simp only [hl]
theorem am_n_st {st : List Value} (hl : am_lk am_biT cn x = none) : am_mem G d cn ini (.invokestatic x) st h = none := by
  show am_sta2 G d cn x st h = _
  unfold am_sta2
  split
  · rw [if_neg]
    intro z
    rw [hl] at z
    exact absurd z.1.1 (by decide)
  · split
    · rw [hl]
      rfl
    · rfl
  · rfl
theorem am_n_sp {st : List Value} (hl : am_lk am_biT cn x = none) : am_mem G d cn ini (.invokespecial x) st h = none := by
  show am_oin d cn x st h = _
  unfold am_oin
  split
  · rw [if_neg]
    intro z
    rw [hl] at z
    exact absurd z.1 (by decide)
  · rfl
theorem am_c_st {y2 f : Nat} {m2 : am_MI} {vs st : List Value} (hl : am_lk am_mlT cn x = some (y2, f)) (hM : am_ML[y2]? = some m2) (h0 : m2.2.2.2.2.2.2 = 0) (hst : st = vs.reverse ++ r) (hn : vs.length = m2.2.2.2.2.2.1) (hr : r.length ≤ 4) (hs : (am_slt vs).length ≤ m2.2.2.1) : am_call G h cn (.invokestatic x) st = some (y2, vs, r) := by
  subst hst
  show am_cst cn x (vs.reverse ++ r) = _
  have e1 : (vs.reverse ++ r).take m2.2.2.2.2.2.1 = vs.reverse := by rw [← hn, ← List.length_reverse, List.take_left]
  have e2 : (vs.reverse ++ r).drop m2.2.2.2.2.2.1 = r := by rw [← hn, ← List.length_reverse, List.drop_left]
  unfold am_cst
  simp only [hl, hM, e1, e2, List.reverse_reverse]
  rw [if_pos ⟨h0, by rw [List.length_append, List.length_reverse]; omega, am_cat_le hr, hs⟩]
theorem am_c_in {srt y2 f : Nat} {m2 : am_MI} {vs st : List Value} (hl : am_lk am_mlT cn x = some (y2, f)) (hM : am_ML[y2]? = some m2) (h0 : m2.2.2.2.2.2.2 = srt ∧ (srt = 1 → f = 0)) (hst : st = vs.reverse ++ .ref b :: r) (hn : vs.length = m2.2.2.2.2.2.1) (hr : r.length ≤ 4) (hs : (am_slt (.ref b :: vs)).length ≤ m2.2.2.1) (hb : srt = 2 ∨ (m2.2.2.2.2.1 < 10 ∧ (G 0 ≤ b ∧ b < am_top h) ∧ (am_sh h b).1 = m2.2.2.2.2.1) ∨ (m2.2.2.2.2.1 = 11 ∧ (am_str G b).isSome = true)) : am_cin srt G h cn x st = some (y2, .ref b :: vs, r) := by
  subst hst
  have e1 : (vs.reverse ++ .ref b :: r).take m2.2.2.2.2.2.1 = vs.reverse := by rw [← hn, ← List.length_reverse, List.take_left]
  have e2 : (vs.reverse ++ .ref b :: r).drop m2.2.2.2.2.2.1 = .ref b :: r := by rw [← hn, ← List.length_reverse, List.drop_left]
  unfold am_cin
  simp only [hl, hM, e1, e2, List.reverse_reverse]
  rw [if_pos ⟨h0, by rw [List.length_append, List.length_reverse]; omega, ⟨am_cat_le hr, hs⟩, hb⟩]
theorem am_r_z {ty : FieldType} (hn : narrow ty (.int v) = .int v) : am_ret (some ty) .ireturn [.int v] = some (some (.int v)) := if_pos hn
theorem am_r_l {w : Int64} : am_ret (some .long) .lreturn [.long w] = some (some (.long w)) := by
  show (if (some FieldType.long : Option FieldType) = some .long then some (some (Value.long w)) else none) = _
  rw [if_pos rfl]
theorem am_nb0 : narrow .boolean (.int 0) = .int 0 := rfl
theorem am_nb1 : narrow .boolean (.int 1) = .int 1 := rfl
theorem am_nbi {P : Prop} {dP : Decidable P} : narrow .boolean (.int (if P then 1 else 0)) = .int (if P then 1 else 0) := by
  by_cases h : P
  · rw [if_pos h]; rfl
  · rw [if_neg h]; rfl
theorem am_c1_i : am_c1 (some (.int v)) = true := rfl
theorem am_c1_r : am_c1 (some (.ref a)) = true := rfl
theorem am_c1_u : am_c1 (some .null) = true := rfl
theorem am_c1_n : am_c1 none = true := rfl
theorem am_e_sto {y pc pc2 len : Nat} {m : am_MI} {i : Instr} {L : am_L} {st : List Value} {w : Value} {kk : Nat} (hM : am_ML[y]? = some m) (hd : decode m.2.1 pc = .ok (i, len)) (hl : len = am_len i) (hb : am_br i pc st = none) (hp : am_pure i L st = am_sto L kk w r) (hk : kk < L.length) (hc : am_c1 (L.getD (kk - 1) none) = true) (hpc : pc + len = pc2) : am_ev G d y pc L st h = am_ev G d y pc2 (L.set kk (some w)) r h := by
  refine am_e_pure hM hd hl hb (hp.trans ?_) hpc
  unfold am_sto
  rw [if_pos ⟨hk, hc⟩]
theorem am_e_div {y pc pc2 : Nat} {m : am_MI} {L : am_L} {p q : Int32} (hM : am_ML[y]? = some m) (hd : decode m.2.1 pc = .ok (.idiv, 1)) (hq : ¬ q = 0) (hpc : pc + 1 = pc2) : am_ev G d y pc L (.int q :: .int p :: r) h = am_ev G d y pc2 L (.int (p / q) :: r) h := by
  refine am_e_pure hM hd rfl rfl ?_ hpc
  show (if q = 0 then none else some (L, Value.int (p / q) :: r)) = _
  rw [if_neg hq]
theorem am_e_rem {y pc pc2 : Nat} {m : am_MI} {L : am_L} {p q : Int32} (hM : am_ML[y]? = some m) (hd : decode m.2.1 pc = .ok (.irem, 1)) (hq : ¬ q = 0) (hpc : pc + 1 = pc2) : am_ev G d y pc L (.int q :: .int p :: r) h = am_ev G d y pc2 L (.int (p - p / q * q) :: r) h := by
  refine am_e_pure hM hd rfl rfl ?_ hpc
  show (if q = 0 then none else some (L, Value.int (p - p / q * q) :: r)) = _
  rw [if_neg hq]
theorem am_cc_eq : am_cc .eq j v = true ↔ j = v := decide_eq_true_iff
theorem am_cc_lt : am_cc .lt j v = true ↔ j < v := decide_eq_true_iff
theorem am_cc_ge : am_cc .ge j v = true ↔ v ≤ j := decide_eq_true_iff
theorem am_cc_gt : am_cc .gt j v = true ↔ v < j := decide_eq_true_iff
theorem am_cc_le : am_cc .le j v = true ↔ j ≤ v := decide_eq_true_iff
theorem am_cc_ne : am_cc .ne j v = true ↔ ¬ j = v := decide_eq_true_iff
/-- a switch as a chain -/
def am_tb (x : Int32) (l : List (Int32 × Nat)) (e : Nat) : Nat := match l with
  | [] => e
  | q :: t => if x = q.1 then q.2 else am_tb x t e
theorem am_ev_tb {y e : Nat} {x : Int32} {q : Int32 × Nat} {t : List (Int32 × Nat)} {L : am_L} {st : List Value} : am_ev G d y (am_tb x (q :: t) e) L st h = if x = q.1 then am_ev G d y q.2 L st h else am_ev G d y (am_tb x t e) L st h := by
  show am_ev G d y (if x = q.1 then q.2 else am_tb x t e) L st h = _
  split <;> rfl
theorem am_tb_nil {e : Nat} {x : Int32} : am_tb x [] e = e := rfl
def am_num (lo : Int) (ts : List Nat) : List (Int32 × Nat) := match ts with
  | [] => []
  | t :: r => (Int32.ofInt lo, t) :: am_num (lo + 1) r
theorem am_tsw (x : Int32) (e : Nat) : ∀ (ts : List Nat) (lo : Int), -2147483648 ≤ lo → lo + ts.length ≤ 2147483647 → (if x.toInt < lo ∨ lo + ts.length ≤ x.toInt then some e else ts[(x.toInt - lo).toNat]?) = some (am_tb x (am_num lo ts) e) := by
  intro ts
  induction ts with
  | nil =>
    intro lo h1 h2
    rw [if_pos (by simp; omega)]
    rfl
  | cons t r ih =>
    intro lo h1 h2
    have hlen : ((t :: r).length : Int) = r.length + 1 := by simp
    rw [hlen] at h2 ⊢
    show _ = some (if x = Int32.ofInt lo then t else am_tb x (am_num (lo + 1) r) e)
    have hx : (Int32.ofInt lo).toInt = lo := Int32.toInt_ofInt_of_le (by omega) (by omega)
    by_cases hxl : x = Int32.ofInt lo
    · rw [if_pos hxl]
      have : x.toInt = lo := by rw [hxl, hx]
      rw [if_neg (by omega), this, Int.sub_self]
      rfl
    · rw [if_neg hxl]
      have hne : x.toInt ≠ lo := fun q => hxl (Int32.toInt_inj.mp (by rw [hx, q]))
      have := ih (lo + 1) (by omega) (by omega)
      rw [← this]
      by_cases hc : x.toInt < lo ∨ lo + (r.length + 1) ≤ x.toInt
      · rw [if_pos hc, if_pos (by omega)]
      · rw [if_neg hc, if_neg (by omega), show (x.toInt - lo).toNat = (x.toInt - (lo + 1)).toNat + 1 by omega]
        rfl
theorem am_e_ifn {y pc pc2 : Nat} {m : am_MI} {L : am_L} {c : Jvm.ClassFile.Cond} {off : Int} {x : Int32} {t : Nat} {P : Prop} {dP : Decidable P} (hM : am_ML[y]? = some m) (hd : decode m.2.1 pc = .ok (.ifCond c off, 3)) (ht : (pc : Int) + off = (t : Int)) (hpc : pc + 3 = pc2) (hc : am_cc c x 0 = true ↔ ¬ P) : am_ev G d y pc L (.int x :: r) h = if P then am_ev G d y pc2 L r h else am_ev G d y t L r h := by
  rw [am_e_if hM hd ht hpc hc]
  by_cases hP : P
  · rw [if_pos hP, if_neg (fun q => q hP)]
  · rw [if_neg hP, if_pos hP]
theorem am_e_icmpn {y pc pc2 : Nat} {m : am_MI} {L : am_L} {c : Jvm.ClassFile.Cond} {off : Int} {x w : Int32} {t : Nat} {P : Prop} {dP : Decidable P} (hM : am_ML[y]? = some m) (hd : decode m.2.1 pc = .ok (.if_icmp c off, 3)) (ht : (pc : Int) + off = (t : Int)) (hpc : pc + 3 = pc2) (hc : am_cc c x w = true ↔ ¬ P) : am_ev G d y pc L (.int w :: .int x :: r) h = if P then am_ev G d y pc2 L r h else am_ev G d y t L r h := by
  rw [am_e_icmp hM hd ht hpc hc]
  by_cases hP : P
  · rw [if_pos hP, if_neg (fun q => q hP)]
  · rw [if_neg hP, if_pos hP]
theorem am_e_tsw {y pc len e : Nat} {m : am_MI} {L : am_L} {x : Int32} {df lo hi : Int} {offs : Array Int} (hM : am_ML[y]? = some m) (hd : decode m.2.1 pc = .ok (.tableswitch df lo hi offs, len)) (ts : List Nat) (h1 : offs.toList.map (fun o => (pc : Int) + o) = ts.map (fun t : Nat => (t : Int))) (h2 : (pc : Int) + df = (e : Int)) (h3 : hi = lo + ts.length - 1) (h4 : -2147483648 ≤ lo) (h5 : lo + ts.length ≤ 2147483647) {lst : List (Int32 × Nat)} (h6 : am_num lo ts = lst) : am_ev G d y pc L (.int x :: r) h = am_ev G d y (am_tb x lst e) L r h := by
  subst h6
  refine am_e_br (q := (am_tb x (am_num lo ts) e, r)) hM hd (Or.inl rfl) ?_
  have key := am_tsw x e ts lo h4 h5
  show (if x.toInt < lo ∨ hi < x.toInt then am_tg pc df r else (match offs[(x.toInt - lo).toNat]? with | some off => am_tg pc off r | none => none)) = _
  have htg : ∀ (off : Int) (t : Nat), (pc : Int) + off = (t : Int) → am_tg pc off r = some (t, r) := by
    intro off t ht
    unfold am_tg
    rw [ht, if_pos (Int.natCast_nonneg t), Int.toNat_natCast]
  by_cases hc : x.toInt < lo ∨ lo + ts.length ≤ x.toInt
  · rw [if_pos hc] at key
    rw [if_pos (by omega), htg df e h2]
    exact congrArg (fun z => some (z, r)) (Option.some.inj key)
  · rw [if_neg hc] at key
    rw [if_neg (by omega)]
    have hz : (offs.toList.map (fun o => (pc : Int) + o))[(x.toInt - lo).toNat]? = (ts.map (fun t : Nat => (t : Int)))[(x.toInt - lo).toNat]? := by rw [h1]
    rw [List.getElem?_map, List.getElem?_map, key, Array.getElem?_toList] at hz
    cases ho : offs[(x.toInt - lo).toNat]? with
    | none => rw [ho] at hz; cases hz
    | some off =>
      rw [ho] at hz
      simp only [Option.map_some, Option.some.injEq] at hz
      exact htg off _ hz
theorem am_lsw {x : Int32} {e : Nat} {pc : Nat} {df : Int} : ∀ (ps : List (Int × Int)) (lst : List (Int32 × Nat)), ps.map (fun q => (Int32.ofInt q.1, (pc : Int) + q.2)) = lst.map (fun q => (q.1, (q.2 : Int))) → ps.all (fun q => decide (-2147483648 ≤ q.1 ∧ q.1 ≤ 2147483647)) = true → (pc : Int) + df = (e : Int) → (pc : Int) + Op.lookupswitch.offset ps df x.toInt = (am_tb x lst e : Int) := by
  intro ps
  induction ps with
  | nil =>
    intro lst h1 h2 h3
    cases lst with
    | nil => exact h3
    | cons a b => cases h1
  | cons p t ih =>
    intro lst h1 h2 h3
    cases lst with
    | nil => cases h1
    | cons q w =>
      simp only [List.map_cons, List.cons.injEq, Prod.mk.injEq] at h1
      simp only [List.all_cons, Bool.and_eq_true, decide_eq_true_eq] at h2
      have ih2 := ih w h1.2 h2.2 h3
      have hx : (Int32.ofInt p.1).toInt = p.1 := Int32.toInt_ofInt_of_le (by omega) (by omega)
      show _ = ((if x = q.1 then q.2 else am_tb x w e : Nat) : Int)
      by_cases hxq : x = q.1
      · rw [if_pos hxq, ← h1.1.2]
        have : x.toInt = p.1 := by rw [hxq, ← h1.1.1, hx]
        simp [Op.lookupswitch.offset, this]
      · rw [if_neg hxq, ← ih2]
        have : ¬ p.1 = x.toInt := fun z => hxq (by rw [← h1.1.1]; exact Int32.toInt_inj.mp (by rw [hx, z]))
        simp [Op.lookupswitch.offset, this]
theorem am_e_lsw {y pc len e : Nat} {m : am_MI} {L : am_L} {x : Int32} {df : Int} {ps : Array (Int × Int)} {lst : List (Int32 × Nat)} (hM : am_ML[y]? = some m) (hd : decode m.2.1 pc = .ok (.lookupswitch df ps, len)) (h1 : ps.toList.map (fun q => (Int32.ofInt q.1, (pc : Int) + q.2)) = lst.map (fun q => (q.1, (q.2 : Int)))) (h2 : ps.toList.all (fun q => decide (-2147483648 ≤ q.1 ∧ q.1 ≤ 2147483647)) = true) (h3 : (pc : Int) + df = (e : Int)) (h4 : (ps.toList.zip (ps.toList.drop 1)).all (fun (a, next) => a.1 < next.1) = true) : am_ev G d y pc L (.int x :: r) h = am_ev G d y (am_tb x lst e) L r h := by
  refine am_e_br (q := (am_tb x lst e, r)) hM hd (Or.inl rfl) ?_
  have key := am_lsw (x := x) ps.toList lst h1 h2 h3
  show (if (ps.toList.zip (ps.toList.drop 1)).all (fun (a, next) => a.1 < next.1) = true then am_tg pc (Op.lookupswitch.offset ps.toList df x.toInt) r else none) = _
  rw [if_pos h4]
  unfold am_tg
  rw [key, if_pos (Int.natCast_nonneg _), Int.toNat_natCast]
end AMR
