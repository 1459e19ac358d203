/-! the walking machine is right, 4: each instruction on the memory -/
def am_Cx (cc : ByteArray) (cn : Nat) (p : Program) (c : Code) (s : State) (m : MethodId) (args : Array Value) : Prop := p.tables.exec = Jvm.exec ∧ c.code = cc ∧ s.vm.findClass (am_cs cn) = some m.cls ∧ ∀ w ∈ am_WS, w.before args s = true
theorem am_fs_get {h : am_H} {a ci k : Nat} (hk : k < am_N ci) : (am_fs h a ci)[k]? = some (am_fv h a ci k) := by
  unfold am_fs
  rw [List.getElem?_map, List.getElem?_range hk]
  rfl
theorem am_pv_ok {h h2 : am_H} {a ci k : Nat} {v : Value} (hk : k < am_N ci) (hv : am_pv h a ci k v = some h2) : (am_fs h a ci).set k v = am_fs h2 a ci ∧ narrow (am_ty ci k) v = v ∧ fits (am_ty ci k) v = true ∧ am_top h2 = am_top h ∧ am_sl h2 = am_sl h ∧ am_sh h2 = am_sh h ∧ ∀ b, b ≠ a → am_i h2 b = am_i h b ∧ am_r h2 b = am_r h b := by
  have hset : ∀ (g : am_H), (∀ j, j ≠ k → am_fv g a ci j = am_fv h a ci j) → am_fv g a ci k = v → (am_fs h a ci).set k v = am_fs g a ci := by
    intro g hg1 hg2
    apply List.ext_getElem?
    intro j
    rw [List.getElem?_set]
    by_cases hj : j < am_N ci
    · rw [am_fs_get hj, am_fs_get hj]
      by_cases he : k = j
      · subst he
        rw [if_pos rfl, if_pos (by simp [am_fs]; exact hk), hg2]
      · rw [if_neg he, hg1 j (fun q => he q.symm)]
    · rw [if_neg (by omega), List.getElem?_eq_none (by simp [am_fs]; omega), List.getElem?_eq_none (by simp [am_fs]; omega)]
  unfold am_pv at hv
  split at hv
  · next hr =>
    have hty : (∃ x, am_ty ci k = .object x) ∨ ∃ x, am_ty ci k = .array x := by
      unfold am_isR at hr
      split at hr
      · next x hx => exact Or.inl ⟨x, hx⟩
      · next x hx => exact Or.inr ⟨x, hx⟩
      · cases hr
    have hoth : ∀ (z : Option Nat) (b : Nat), b ≠ a → am_i (am_pr h a k z) b = am_i h b ∧ am_r (am_pr h a k z) b = am_r h b := by
      intro z b hb
      refine ⟨rfl, ?_⟩
      funext j
      show am_u2 h.2.2.2.2 a k z b j = _
      unfold am_u2
      rw [if_neg (fun q => hb q.1)]
      rfl
    have hfv : ∀ (z : Option Nat) (j : Nat), j ≠ k → am_fv (am_pr h a k z) a ci j = am_fv h a ci j := by
      intro z j hj
      unfold am_fv
      have e : am_r (am_pr h a k z) a j = am_r h a j := by
        show am_u2 h.2.2.2.2 a k z a j = _
        unfold am_u2
        rw [if_neg (fun q => hj q.2)]
        rfl
      rw [e]
      rfl
    have hfk : ∀ (z : Option Nat), am_fv (am_pr h a k z) a ci k = va_rf z := by
      intro z
      unfold am_fv
      rw [if_pos hr]
      show va_rf (am_u2 h.2.2.2.2 a k z a k) = _
      unfold am_u2
      rw [if_pos ⟨rfl, rfl⟩]
    split at hv
    · next b =>
      cases hv
      refine ⟨hset _ (hfv _) (hfk _), ?_, ?_, rfl, rfl, rfl, hoth _⟩
      · rcases hty with ⟨x, hx⟩ | ⟨x, hx⟩ <;> rw [hx] <;> rfl
      · rcases hty with ⟨x, hx⟩ | ⟨x, hx⟩ <;> rw [hx] <;> rfl
    · cases hv
      refine ⟨hset _ (hfv _) (hfk _), ?_, ?_, rfl, rfl, rfl, hoth _⟩
      · rcases hty with ⟨x, hx⟩ | ⟨x, hx⟩ <;> rw [hx] <;> rfl
      · rcases hty with ⟨x, hx⟩ | ⟨x, hx⟩ <;> rw [hx] <;> rfl
    · cases hv
  · next hr =>
    split at hv
    · next z =>
      split at hv
      · next hz =>
        cases hv
        refine ⟨hset _ ?_ ?_, hz.1, hz.2, rfl, rfl, rfl, ?_⟩
        · intro j hj
          unfold am_fv
          have e : am_i (am_pi h a k z) a j = am_i h a j := by
            show am_u2 h.2.2.2.1 a k z a j = _
            unfold am_u2
            rw [if_neg (fun q => hj q.2)]
            rfl
          rw [e]
          rfl
        · unfold am_fv
          rw [if_neg hr]
          show Value.int (am_u2 h.2.2.2.1 a k z a k) = _
          unfold am_u2
          rw [if_pos ⟨rfl, rfl⟩]
        · intro b hb
          refine ⟨?_, rfl⟩
          funext j
          show am_u2 h.2.2.2.1 a k z b j = _
          unfold am_u2
          rw [if_neg (fun q => hb q.1)]
          rfl
      · cases hv
    · cases hv
theorem am_cell_obj {dA : Nat → ClassId} {h : am_H} {a ci : Nat} (hc : ci < 10) (hs : (am_sh h a).1 = ci) : am_cell dA h a = .inr (ci, am_fs h a ci) := by
  unfold am_cell
  rw [if_pos (by omega), hs]
theorem am_cell_int {dA : Nat → ClassId} {h : am_H} {a : Nat} (hs : (am_sh h a).1 = 20) : am_cell dA h a = .inl (dA 0, (am_sh h a).2, .inl (am_i h a)) := by
  unfold am_cell
  rw [if_neg (by omega), if_pos (by omega), hs]
theorem am_cell_byte {dA : Nat → ClassId} {h : am_H} {a : Nat} (hs : (am_sh h a).1 = 21) : am_cell dA h a = .inl (dA 1, (am_sh h a).2, .inl (am_i h a)) := by
  unfold am_cell
  rw [if_neg (by omega), if_pos (by omega), hs]
theorem am_cell_ref {dA : Nat → ClassId} {h : am_H} {a : Nat} (hs : 22 ≤ (am_sh h a).1) : am_cell dA h a = .inl (dA ((am_sh h a).1 - 20), (am_sh h a).2, .inr (.inr (.inr (.inr (am_r h a))))) := by
  unfold am_cell
  rw [if_neg (by omega), if_neg (by omega)]
theorem am_tys_ref {dA : Nat → ClassId} {kd : Nat} (h1 : 22 ≤ kd) (h2 : kd ≤ 26) : (am_tys dA)[kd - 20]? = some (dA (kd - 20), .object (am_cs (am_aC kd))) := by
  rcases (show kd = 22 ∨ kd = 23 ∨ kd = 24 ∨ kd = 25 ∨ kd = 26 by omega) with rfl | rfl | rfl | rfl | rfl <;> rfl
theorem am_aC_lt {kd : Nat} : am_aC kd < 10 := by
  unfold am_aC
  split <;> omega
/-- a store into one cell keeps the rest -/
theorem am_Rp.upd {G : Nat → Nat} {X : am_H} {D : va_G} {dA : Nat → ClassId} {H0 H H1 : Heap} {h h2 : am_H} {locs locs1 : List Loc} {a : Nat} (hR : am_Rp G X D dA H0 h H locs) (ha : G 0 ≤ a) (ht : am_top h2 = am_top h) (hs : am_sh h2 = am_sh h) (ho : ∀ b, b ≠ a → am_i h2 b = am_i h b ∧ am_r h2 b = am_r h b)
    (hP : va_P D vwCl ((am_ws (G 0) dA h).set (a - G 0) (a, am_cell dA h2 a)) H1) (hS : va_S (fun q => G 0 ≤ q) H0 H1 locs1) (hz : H1.size = H.size) : am_Rp G X D dA H0 h2 H1 locs1 := by
  obtain ⟨r1, r2, r3, r4, r5, r6⟩ := hR
  have hw := am_ws_set (B := G 0) (dA := dA) ha ht (fun b hb => am_cell_eq (h := h) (h2 := h2) (by rw [hs]) (ho b hb).1 (ho b hb).2)
  rw [hw] at hP
  refine ⟨by rw [hz, r1, ht], by rw [ht]; exact r2, hP, hS, r5, fun b hb => ?_⟩
  have hne : b ≠ a := by omega
  rw [hs, (ho b hne).1, (ho b hne).2]
  exact r6 b hb
theorem am_Rp.upd' {G : Nat → Nat} {X : am_H} {D : va_G} {dA : Nat → ClassId} {H0 H H1 : Heap} {h h2 : am_H} {locs locs1 : List Loc} {a : Nat} {ce : va_E} (hR : am_Rp G X D dA H0 h H locs) (ha : G 0 ≤ a) (ht : am_top h2 = am_top h) (hs : am_sh h2 = am_sh h) (ho : ∀ b, b ≠ a → am_i h2 b = am_i h b ∧ am_r h2 b = am_r h b)
    (hce : am_cell dA h2 a = ce) (hP : va_P D vwCl ((am_ws (G 0) dA h).set (a - G 0) (a, ce)) H1) (hS : va_S (fun q => G 0 ≤ q) H0 H1 locs1) (hz : H1.size = H.size) : am_Rp G X D dA H0 h2 H1 locs1 := am_Rp.upd hR ha ht hs ho (by rw [hce]; exact hP) hS hz
theorem am_pi_o {h : am_H} {a k : Nat} {v : Int32} : ∀ b, b ≠ a → am_i (am_pi h a k v) b = am_i h b ∧ am_r (am_pi h a k v) b = am_r h b := by
  intro b hb
  refine ⟨?_, rfl⟩
  funext j
  show am_u2 h.2.2.2.1 a k v b j = _
  unfold am_u2
  rw [if_neg (fun q => hb q.1)]
  rfl
theorem am_pr_o {h : am_H} {a k : Nat} {v : Option Nat} : ∀ b, b ≠ a → am_i (am_pr h a k v) b = am_i h b ∧ am_r (am_pr h a k v) b = am_r h b := by
  intro b hb
  refine ⟨rfl, ?_⟩
  funext j
  show am_u2 h.2.2.2.2 a k v b j = _
  unfold am_u2
  rw [if_neg (fun q => hb q.1)]
  rfl
theorem am_pa_o {h : am_H} {a : Nat} {g : Nat → Int32} : ∀ b, b ≠ a → am_i (am_pa h a g) b = am_i h b ∧ am_r (am_pa h a g) b = am_r h b := by
  intro b hb
  refine ⟨?_, rfl⟩
  show am_ua h.2.2.2.1 a g b = _
  unfold am_ua
  rw [if_neg hb]
  rfl
theorem am_pi_s {h : am_H} {a k : Nat} {v : Int32} : am_i (am_pi h a k v) a = upd (am_i h a) k v := by
  funext j
  show am_u2 h.2.2.2.1 a k v a j = _
  unfold am_u2
  by_cases hj : j = k
  · subst hj
    rw [if_pos ⟨rfl, rfl⟩]
    exact (pk_us).symm
  · rw [if_neg (fun q => hj q.2)]
    exact (pk_un hj).symm
theorem am_pr_s {h : am_H} {a k : Nat} {v : Option Nat} : am_r (am_pr h a k v) a = va_up (am_r h a) k v := by
  funext j
  show am_u2 h.2.2.2.2 a k v a j = _
  unfold am_u2 va_up
  by_cases hj : j = k
  · subst hj
    rw [if_pos ⟨rfl, rfl⟩, if_pos rfl]
  · rw [if_neg (fun q => hj q.2), if_neg hj]
    rfl
theorem am_pa_s {h : am_H} {a : Nat} {g : Nat → Int32} : am_i (am_pa h a g) a = g := by
  show am_ua h.2.2.2.1 a g a = _
  unfold am_ua
  rw [if_pos rfl]

section AMO
variable {p : Program} {l : Launch} {e : Env} {R : Room} {s : State} {m : MethodId} {args : Array Value} {below : List Frame} {meth : Method} {c : Code} {H : Heap} {locs : List Loc} {cells slots : Nat} {Q : State → Prop}
variable {cc : ByteArray} {pc : Nat} {ls : Array Slot} {st st2 : List Value} {D : va_G} {dA : Nat → ClassId} {G : Nat → Nat} {X h h2 : am_H} {cn x d : Nat} {ini : Bool}
theorem am_get_ok (hC : am_Cx cc cn p c s m args) (hX : am_Xt G X D dA s s.heap) (hR : am_Rp G X D dA s.heap h H locs) (hd : decode cc pc = .ok (.getfield x, 3)) (hg : am_get G cn x st h = some (st2, h2))
    (k : W p l e R s m args below meth c H locs cells slots Q (F0 m (pc + 3) ls st2)) : h2 = h ∧ W p l e R s m args below meth c H locs cells slots Q (F0 m pc ls st) := by
  obtain ⟨hx, hb, hown, hts⟩ := hC
  unfold am_get at hg
  split at hg
  · next a r =>
    split at hg
    · next q hq =>
      split at hg
      · next hc =>
        cases hg
        refine ⟨rfl, ?_⟩
        obtain ⟨ps, h1⟩ := am_lk_in hq am_flT_ok
        simp only [Bool.and_eq_true, decide_eq_true_eq] at h1
        obtain ⟨⟨h1, h2⟩, h3⟩ := h1
        have hcell := am_ws_at (dA := dA) hc.1.1 hc.1.2
        rw [am_cell_obj h2 hc.2] at hcell
        exact va_get (T := am_T q.1) hx hb hts (am_lays h2) hown hX.2.2.2.2.2 hR.2.2.1 (a - G 0) hcell (am_vw h2) q.2 h3 (hts _ (am_in (am_at_in h1) rfl)) (fun _ h9 => h9) (am_fs_get h3) hd k
      · cases hg
    · split at hg
      · next hc =>
        subst hc
        split at hg
        · next w hw =>
          obtain ⟨b1, b2, b3⟩ := hX.1.2 a w hw
          split at hg
          · next hx9 =>
            subst hx9
            cases hg
            exact ⟨rfl, vk_getf hx hb b3 hR.2.2.2.1 hown (hts _ (am_in am_w_fV rfl)) (fun _ h9 => h9) hd k⟩
          · split at hg
            · next hx15 =>
              subst hx15
              cases hg
              exact ⟨rfl, vk_getf hx hb b2 hR.2.2.2.1 hown (hts _ (am_in am_w_fC rfl)) (fun _ h9 => h9) hd k⟩
            · cases hg
        · cases hg
      · cases hg
  · cases hg
theorem am_put_ok (hC : am_Cx cc cn p c s m args) (hX : am_Xt G X D dA s s.heap) (hR : am_Rp G X D dA s.heap h H locs) (hini : ini = true → meth.name = "<init>") (hd : decode cc pc = .ok (.putfield x, 3)) (hg : am_put G cn ini x st h = some (st2, h2))
    (k : ∀ H2 locs2, am_Rp G X D dA s.heap h2 H2 locs2 → W p l e R s m args below meth c H2 locs2 cells slots Q (F0 m (pc + 3) ls st2)) : (am_top h2 = am_top h ∧ am_sl h2 = am_sl h) ∧ W p l e R s m args below meth c H locs cells slots Q (F0 m pc ls st) := by
  obtain ⟨hx, hb, hown, hts⟩ := hC
  unfold am_put at hg
  split at hg
  · next v a r =>
    split at hg
    · next q hq =>
      split at hg
      · next hc =>
        split at hg
        · next h3 hpv =>
          cases hg
          obtain ⟨ps, h1⟩ := am_lk_in hq am_flT_ok
          simp only [Bool.and_eq_true, decide_eq_true_eq] at h1
          obtain ⟨⟨h1, hq2⟩, hq3⟩ := h1
          obtain ⟨e1, e2, e3, e4, e5, e6, e7⟩ := am_pv_ok hq3 hpv
          refine ⟨⟨e4, e5⟩, ?_⟩
          have hcell := am_ws_at (dA := dA) hc.1.1.1 hc.1.1.2
          rw [am_cell_obj hq2 hc.1.2] at hcell
          have hfin : (am_T q.1 q.2).2.2.2 = false ∨ (meth.name = "<init>" ∧ (am_T q.1 q.2).1 = am_cs cn) := hc.2.imp id (fun z => ⟨hini z.1, z.2⟩)
          refine am_putW (T := am_T q.1) hx hb hts (am_lays hq2) (am_ty q.1) (am_tyok hq2) (am_names hq2) hown hX.2.2.2.2.2 hR.2.2.1 am_ws_D hR.2.2.2.1 (a - G 0) hcell (am_vw hq2) q.2 hq3 (hts _ (am_in (am_at_in h1) rfl)) hfin e2 e3 (by simp [am_fs]; exact hq3) hd fun H1 locs1 hP1 hS1 hz1 => ?_
          rw [e1] at hP1
          exact k H1 locs1 (am_Rp.upd' hR hc.1.1.1 e4 e6 e7 (am_cell_obj hq2 (by rw [e6]; exact hc.1.2)) hP1 hS1 hz1)
        · cases hg
      · cases hg
    · cases hg
  · cases hg
theorem am_gst_ok (hC : am_Cx cc cn p c s m args) (hX : am_Xt G X D dA s s.heap) (hR : am_Rp G X D dA s.heap h H locs) (hd : decode cc pc = .ok (.getstatic x, 3)) (hg : am_gst G cn x st h = some (st2, h2))
    (k : W p l e R s m args below meth c H locs cells slots Q (F0 m (pc + 3) ls st2)) : h2 = h ∧ W p l e R s m args below meth c H locs cells slots Q (F0 m pc ls st) := by
  obtain ⟨hx, hb, hown, hts⟩ := hC
  obtain ⟨z1, z2, z3, z4⟩ := hX.2.1
  obtain ⟨-, n1, n2⟩ := hX.2.2.2.2.1
  unfold am_gst at hg
  split at hg
  · next hc => obtain ⟨rfl, rfl⟩ := hc; cases hg; exact ⟨rfl, va_getsN hx hb z1 hR.2.2.2.1 hown (va_Nw.use rfl n1) (fun _ h9 => h9) hd k⟩
  · split at hg
    · next hc => obtain ⟨rfl, rfl⟩ := hc; cases hg; exact ⟨rfl, va_getsN hx hb z2 hR.2.2.2.1 hown (va_Nw.use rfl n2) (fun _ h9 => h9) hd k⟩
    · split at hg
      · next hc => obtain ⟨rfl, rfl⟩ := hc; cases hg; exact ⟨rfl, va_gets hx hb z3 hR.2.2.2.1 hown (hts _ (am_in am_w_stCS rfl)) (fun _ h9 => h9) hd k⟩
      · split at hg
        · next hc => obtain ⟨rfl, rfl⟩ := hc; cases hg; exact ⟨rfl, va_gets hx hb z4 hR.2.2.2.1 hown (hts _ (am_in am_w_stSF rfl)) (fun _ h9 => h9) hd k⟩
        · cases hg
theorem am_ldc_ok (hC : am_Cx cc cn p c s m args) (hX : am_Xt G X D dA s s.heap) (hd : decode cc pc = .ok (.ldc x, 2)) (hg : am_ldc G cn x st h = some (st2, h2))
    (k : W p l e R s m args below meth c H locs cells slots Q (F0 m (pc + 2) ls st2)) : h2 = h ∧ W p l e R s m args below meth c H locs cells slots Q (F0 m pc ls st) := by
  obtain ⟨hx, hb, hown, hts⟩ := hC
  obtain ⟨k1, k2, k3⟩ := hX.2.2.1
  unfold am_ldc at hg
  split at hg
  · next v hv =>
    cases hg
    obtain ⟨ps, h1⟩ := am_lk_in hv am_klT_ok
    exact ⟨rfl, lv_ldc hx hb hown (hts _ (am_in (am_at_in h1) rfl)) hd k⟩
  · split at hg
    · next hc => obtain ⟨rfl, rfl⟩ := hc; cases hg; exact ⟨rfl, va_ldcS hx hb hown k1 hd k⟩
    · split at hg
      · next hc => obtain ⟨rfl, rfl⟩ := hc; cases hg; exact ⟨rfl, va_ldcS hx hb hown k2 hd k⟩
      · split at hg
        · next hc => obtain ⟨rfl, rfl⟩ := hc; cases hg; exact ⟨rfl, va_ldcS hx hb hown k3 hd k⟩
        · cases hg
theorem am_ldcw_ok (hC : am_Cx cc cn p c s m args) (hd : decode cc pc = .ok (.ldc_w x, 3)) (hg : am_ldcw cn x st h = some (st2, h2))
    (k : W p l e R s m args below meth c H locs cells slots Q (F0 m (pc + 3) ls st2)) : h2 = h ∧ W p l e R s m args below meth c H locs cells slots Q (F0 m pc ls st) := by
  obtain ⟨hx, hb, hown, hts⟩ := hC
  unfold am_ldcw at hg
  split at hg
  · next v hv =>
    cases hg
    obtain ⟨ps, h1⟩ := am_lk_in hv am_klT_ok
    exact ⟨rfl, lv_ldcw hx hb hown (hts _ (am_in (am_at_in h1) rfl)) hd k⟩
  · cases hg
theorem am_ldc2_ok (hC : am_Cx cc cn p c s m args) (hd : decode cc pc = .ok (.ldc2_w x, 3)) (hg : am_ldc2 cn x st h = some (st2, h2))
    (k : W p l e R s m args below meth c H locs cells slots Q (F0 m (pc + 3) ls st2)) : h2 = h ∧ W p l e R s m args below meth c H locs cells slots Q (F0 m pc ls st) := by
  obtain ⟨hx, hb, hown, hts⟩ := hC
  unfold am_ldc2 at hg
  split at hg
  · next v hv =>
    cases hg
    obtain ⟨ps, h1⟩ := am_lk_in hv am_k2T_ok
    exact ⟨rfl, lv_ldc2 hx hb hown (hts _ (am_in (am_at_in h1) rfl)) hd k⟩
  · cases hg
end AMO
