/-! the walking machine is right, 8: what it answers, the machine answers -/
def am_Pc (G : Nat → Nat) (X : am_H) (D : va_G) (dA : Nat → ClassId) (vs : List Value) (h : am_H) : Array Value → State → Prop := va_Pc vs (fun U => U.heap.size = am_top h ∧ am_Xt G X D dA U U.heap ∧ va_P D vwCl (am_ws (G 0) dA h) U.heap)
def am_Qc (G : Nat → Nat) (D : va_G) (dA : Nat → ClassId) (v : Option Value) (h : am_H) : Array Value → State → Outcome → State → Prop := fun _ st o t => o = .returned v ∧ t.heap.size = am_top h ∧ va_P D vwCl (am_ws (G 0) dA h) t.heap ∧ va_F (fun q => G 0 ≤ q) st t
theorem am_blind {G : Nat → Nat} {X : am_H} {D : va_G} {dA : Nat → ClassId} {vs : List Value} {h : am_H} : FrameBlind (am_Pc G X D dA vs h) := by
  intro a U g mk q
  obtain ⟨q0, q1, q2, q3⟩ := q
  exact ⟨q0, q1, am_Xt.same q2 rfl, q3⟩
def am_B (y : Nat) (a : am_MI) (p : Program) (s : State) (m : MethodId) (args : Array Value) (meth : Method) (c : Code) : Prop := am_ML[y]? = some a ∧ am_Cx a.2.1 a.2.2.2.2.1 p c s m args ∧ c.maxLocals = a.2.2.1 ∧ meth.sig.returnType = a.2.2.2.1 ∧ meth.locks = false ∧ (a.2.2.2.2.2.2 = 2 → meth.name = "<init>")
theorem am_ml_mem {cn x : Nat} {q : Nat × Nat} (hq : am_lk am_mlT cn x = some q) : ∃ q9, (cn, x, q, q9) ∈ am_mlT := by
  unfold am_lk at hq
  cases hfd : am_mlT.find? (fun q => q.1 == cn && q.2.1 == x) with
  | none => rw [hfd] at hq; cases hq
  | some z =>
    rw [hfd] at hq
    have g1 := List.find?_some hfd
    simp only [Bool.and_eq_true, beq_iff_eq] at g1
    have g2 : z.2.2.1 = q := Option.some.inj hq
    refine ⟨z.2.2.2, ?_⟩
    have g3 := List.mem_of_find?_eq_some hfd
    rw [← g1.1, ← g1.2, ← g2]
    exact g3
section AMC
variable {p : Program} {l : Launch} {e : Env} {R : Room} {s : State} {m : MethodId} {args : Array Value} {below : List Frame} {meth : Method} {c : Code} {H : Heap} {locs : List Loc} {cells slots : Nat} {Q : State → Prop}
variable {pc : Nat} {ls : Array Slot} {st rest : List Value} {D : va_G} {dA : Nat → ClassId} {G : Nat → Nat} {X h h1 : am_H}
/-- behind a call -/
theorem am_cont {st0 : List Value} {av : Array Value} {v1 : Option Value} {mc ms : Nat} (hr : va_Run p l e R s m args below meth c H locs cells slots mc ms (F0 m pc ls st0) rest (am_Qc G D dA v1 h1 av) (fun q => G 0 ≤ q)) (hR : am_Rp G X D dA s.heap h H locs) (hlow : am_low G X h1) (htop : G 0 ≤ am_top h1)
    (kk : ∀ H1 locs1, am_Rp G X D dA s.heap h1 H1 locs1 → W p l e R s m args below meth c H1 locs1 (cells + mc) (slots + ms) Q (F0 m (pc + 3) ls (v1.toList ++ rest))) : W p l e R s m args below meth c H locs cells slots Q (F0 m pc ls st0) := by
  intro T hT Xs
  obtain ⟨v, st₀, t, T', Lc, g0, X', hL, e1, e2, ⟨hv, hz, hP, hF⟩, stp⟩ := hr T hT Xs
  cases hv
  obtain ⟨r1, r2, r3, r4, r5, r6⟩ := hR
  obtain ⟨hf1, hf2⟩ := hF
  rw [g0] at hf1 hf2
  have hS : va_S (fun q => G 0 ≤ q) s.heap T'.heap (locs ++ Lc) := by
    refine ⟨?_, fun q h1 h2 => ?_, fun q hq => ?_⟩
    · rw [e1]; exact Nat.le_trans r4.1 hf1
    · rw [e1, hf2 q (Nat.lt_of_lt_of_le h1 r4.1) h2]
      exact r4.2.1 q h1 h2
    · rcases List.mem_append.mp hq with h | h
      · exact r4.2.2 q h
      · exact hL q h
  obtain ⟨t2, a1, b1⟩ := kk T'.heap (locs ++ Lc) ⟨by rw [e1]; exact hz, htop, by rw [e1]; exact hP, hS, r5, hlow⟩ T' rfl X'
  exact ⟨t2, stp t2 a1, b1⟩
theorem am_goodIn {c0 : Cond} {ws : List Cond} (h0 : c0 ∈ am_WS) (hw : ∀ w ∈ ws, w ∈ am_WS) : GoodIn am_WS (ws ++ (c0 :: am_WS)) := by
  intro w hw2
  have hm : w ∈ am_WS := by
    rcases List.mem_append.mp hw2 with h | h
    · exact hw w h
    · rcases List.mem_cons.mp h with h | h
      · rw [h]; exact h0
      · exact h
  exact ⟨hm, good_of_word (List.mem_filter.mp hm).2⟩
set_option maxHeartbeats 4000000 in
theorem am_call_ok {y d2 : Nat} {a b : am_MI} {i : Instr} {vs : List Value} {v1 : Option Value} (hB : am_B y a p s m args meth c) (hX : am_Xt G X D dA s s.heap) (hR : am_Rp G X D dA s.heap h H locs) (hls : ls.size = a.2.2.1) (hfr : d2 + 1 ≤ R.frames) (hlo : 60 * (d2 + 1) ≤ R.locals)
    (hd : decode a.2.1 pc = .ok (i, am_len i)) {y2 : Nat} (hc : am_call G h a.2.2.2.2.1 i st = some (y2, vs, rest)) (hb2 : am_ML[y2]? = some b) (hm : (0 < y2 ∧ (am_slt vs).length ≤ b.2.2.1) → Met l b.1 (.code b.1 b.2.1 b.2.2.1 b.2.2.2.1 :: am_WS) { frames := d2, cells := am_top h1 - am_top h, slots := am_sl h1 - am_sl h, locals := 60 * d2 } (am_Pc G X D dA vs h) (am_Qc G D dA v1 h1) (am_top h1 - am_top h) (am_sl h1 - am_sl h) (fun q => G 0 ≤ q))
    (hc1 : cells + (am_top h1 - am_top h) ≤ R.cells) (hs1 : slots + (am_sl h1 - am_sl h) ≤ R.slots) (hlow : am_low G X h1) (htop : G 0 ≤ am_top h1)
    (kk : ∀ H1 locs1, am_Rp G X D dA s.heap h1 H1 locs1 → W p l e R s m args below meth c H1 locs1 (cells + (am_top h1 - am_top h)) (slots + (am_sl h1 - am_sl h)) Q (F0 m (pc + 3) ls (v1.toList ++ rest))) : W p l e R s m args below meth c H locs cells slots Q (F0 m pc ls st) := by
  obtain ⟨ha, ⟨hx, hbc, hown, hts⟩, hml, hret, hlocks, hnm⟩ := hB
  have hfix : CallFix p m c a.2.1 a.2.2.1 s args am_WS (am_cs a.2.2.2.2.1) := ⟨hx, hbc, hml, hown, hts⟩
  have hpre : ∀ U : State, U.heap = H → s.WarmedH U.vm → am_Pc G X D dA vs h vs.toArray U := by
    intro U hU hW
    refine ⟨rfl, by rw [hU]; exact hR.1, ?_, by rw [hU]; exact hR.2.2.1⟩
    rw [hU]
    exact am_Xt.warm hX hW hR.2.2.2.1
  have hroom : b.2.2.1 ≤ 20 → (d2 + 1 ≤ R.frames ∧ 8 + (b.2.2.1 + 11) + 60 * d2 ≤ R.locals) := fun z => ⟨hfr, by omega⟩
  unfold am_call at hc
  split at hc
  · next x =>
    unfold am_cst at hc
    split at hc
    · next q hq =>
      split at hc
      · next b' hb' =>
        split at hc
        · next hcd =>
          cases hc
          cases hb2.symm.trans hb'
          obtain ⟨ps, hp1⟩ := am_lk_in hq am_mlT_ok
          simp only [Bool.and_eq_true, decide_eq_true_eq] at hp1
          obtain ⟨⟨hp1, hp2⟩, hp3⟩ := hp1
          obtain ⟨hk1, qq, hk2⟩ := am_kn hb2 hp2
          unfold am_mok at hk2
          rw [if_pos hcd.1] at hk2
          simp only [Bool.and_eq_true, decide_eq_true_eq] at hk2
          obtain ⟨⟨⟨⟨⟨⟨⟨⟨⟨k1, k2⟩, k3⟩, k4⟩, k5⟩, k6⟩, k7⟩, k8⟩, k9⟩, k10⟩ := hk2
          have hMet := hm ⟨hp2, hcd.2.2.2⟩
          have hcode : (.code b.1 b.2.1 b.2.2.1 b.2.2.2.1 : Cond) ∈ am_WS := am_in hk1 rfl
          have hst : st = (st.take b.2.2.2.2.2.1).reverse.reverse ++ st.drop b.2.2.2.2.2.1 := by rw [List.reverse_reverse, List.take_append_drop]
          have hlen : (st.take b.2.2.2.2.2.1).reverse.length = b.2.2.2.2.2.1 := by rw [List.length_reverse, List.length_take]; omega
          have hnmy : am_nm q.1 = b.1 := by unfold am_nm; rw [hb2]
          by_cases hf : q.2 = 0
          · rw [hf, am_mw, if_pos rfl, hnmy] at hp1
            have hG : GoodIn am_WS (va_wsS (am_cs a.2.2.2.2.1) x b.1 (.code b.1 b.2.1 b.2.2.1 b.2.2.2.1 :: am_WS)) := am_goodIn hcode (by
              intro w hw
              simp only [List.mem_cons, List.not_mem_nil, or_false] at hw
              rcases hw with rfl | rfl | rfl
              · exact am_in (am_at_in hp1) rfl
              · exact am_in (am_at_in k2) rfl
              · exact am_in (am_at_in k1) rfl)
            exact am_cont (va_runS hfix hMet (va_cwS b.2.2.2.2.2.1 hts hG rfl rfl rfl ⟨k5, k6, k7⟩ (hroom k8)) ⟨am_blind, hpre⟩ rfl hlen hls hst (lv_room hcd.2.2.1) hd ⟨hc1, hs1⟩) hR hlow htop kk
          · rw [am_mw, if_neg hf, hnmy] at hp1
            have hG : GoodIn am_WS (.code b.1 b.2.1 b.2.2.1 b.2.2.2.1 :: am_WS) := am_goodIn (ws := []) hcode (fun w hw => absurd hw List.not_mem_nil)
            obtain ⟨q9, hmem⟩ := am_ml_mem hq
            have hn := hX.2.2.2.2.1.1 _ hmem hf
            simp only [hnmy] at hn
            exact am_cont (va_runSN hfix hMet ⟨va_cnB b.2.2.2.2.2.1 hts hG rfl rfl rfl hn (hts _ (am_in (am_at_in k1) rfl)) ⟨k5, k6, k7⟩ (hroom k8), hts _ (am_in (am_at_in k2) rfl), trivial⟩ ⟨am_blind, hpre⟩ rfl hlen hls hst (lv_room hcd.2.2.1) hd ⟨hc1, hs1⟩) hR hlow htop kk
        · cases hc
      · cases hc
    · cases hc
  · next x =>
    unfold am_cin at hc
    split at hc
    · next q hq =>
      split at hc
      · next b' hb' =>
        split at hc
        · next b0 r hdrop =>
          split at hc
          · next hcd =>
            cases hc
            cases hb2.symm.trans hb'
            obtain ⟨ps, hp1⟩ := am_lk_in hq am_mlT_ok
            simp only [Bool.and_eq_true, decide_eq_true_eq] at hp1
            obtain ⟨⟨hp1, hp2⟩, hp3⟩ := hp1
            obtain ⟨hk1, qq, hk2⟩ := am_kn hb2 hp2
            unfold am_mok at hk2
            rw [if_neg (by rw [hcd.1.1]; decide), if_pos hcd.1.1] at hk2
            simp only [Bool.and_eq_true, decide_eq_true_eq] at hk2
            obtain ⟨⟨⟨⟨⟨⟨⟨⟨⟨k1, k2⟩, k3⟩, k4⟩, k5⟩, k6⟩, k7⟩, k8⟩, k9⟩, k10⟩ := hk2
            have hMet := hm ⟨hp2, hcd.2.2.1.2⟩
            have hcode : (.code b.1 b.2.1 b.2.2.1 b.2.2.2.1 : Cond) ∈ am_WS := am_in hk1 rfl
            have hst : st = (st.take b.2.2.2.2.2.1).reverse.reverse ++ .ref b0 :: rest := by rw [List.reverse_reverse, ← hdrop, List.take_append_drop]
            have hlen : (st.take b.2.2.2.2.2.1).reverse.length = b.2.2.2.2.2.1 := by rw [List.length_reverse, List.length_take]; omega
            have hnmy : am_nm q.1 = b.1 := by unfold am_nm; rw [hb2]
            rw [hcd.1.2 rfl, am_mw, if_pos rfl, hnmy] at hp1
            have hG : GoodIn am_WS (wsV (am_cs a.2.2.2.2.1) x b.1.cls b.1 (.code b.1 b.2.1 b.2.2.1 b.2.2.2.1 :: am_WS)) := am_goodIn hcode (by
              intro w hw
              simp only [List.mem_cons, List.not_mem_nil, or_false] at hw
              rcases hw with rfl | rfl | rfl | rfl
              · exact am_in (am_at_in hp1) rfl
              · exact am_in (am_at_in k2) rfl
              · exact am_in (am_at_in k3) rfl
              · exact am_in (am_at_in k1) rfl)
            have hrecv : ∃ cellB : Cell, H[b0]? = some cellB ∧ cellB.vm.isStatics = false ∧ s.vm.findClass b.1.cls = some cellB.cls := by
              rcases hcd.2.2.2 with z | ⟨z1, z2, z3⟩ | ⟨z1, z2⟩
              · exact absurd z (by decide)
              · have hcell := am_ws_at (dA := dA) z2.1 z2.2
                rw [am_cell_obj z1 z3] at hcell
                rw [k9]
                exact va_recv hX.2.2.2.2.2 hR.2.2.1 (am_vw z1) hcell
              · obtain ⟨w, hw⟩ := Option.isSome_iff_exists.mp z2
                obtain ⟨cell, c1, c2, c3, -⟩ := ((hX.1.2 b0 w hw).1).kept hR.2.2.2.1.2.1
                rw [k9, z1]
                exact ⟨cell, c1, c2, c3⟩
            exact am_cont (va_runV (C := b.1.cls) hfix hMet (cwV b.2.2.2.2.2.1 hts hG rfl rfl rfl ⟨rfl, k5, k6, k7⟩ (hroom k8)) ⟨am_blind, hrecv, hpre⟩ rfl hlen hls hst (lv_room hcd.2.2.1.1) hd ⟨hc1, hs1⟩) hR hlow htop kk
          · cases hc
        · cases hc
      · cases hc
    · cases hc
  · next x =>
    unfold am_cin at hc
    split at hc
    · next q hq =>
      split at hc
      · next b' hb' =>
        split at hc
        · next b0 r hdrop =>
          split at hc
          · next hcd =>
            cases hc
            cases hb2.symm.trans hb'
            obtain ⟨ps, hp1⟩ := am_lk_in hq am_mlT_ok
            simp only [Bool.and_eq_true, decide_eq_true_eq] at hp1
            obtain ⟨⟨hp1, hp2⟩, hp3⟩ := hp1
            obtain ⟨hk1, qq, hk2⟩ := am_kn hb2 hp2
            unfold am_mok at hk2
            rw [if_neg (by rw [hcd.1.1]; decide), if_neg (by rw [hcd.1.1]; decide), if_pos hcd.1.1] at hk2
            simp only [Bool.and_eq_true, decide_eq_true_eq] at hk2
            obtain ⟨⟨⟨⟨⟨⟨⟨⟨⟨k1, k2⟩, k3⟩, k4⟩, k5⟩, k6⟩, k7⟩, k8⟩, k9⟩, k10, k11⟩ := hk2
            have hMet := hm ⟨hp2, hcd.2.2.1.2⟩
            have hcode : (.code b.1 b.2.1 b.2.2.1 b.2.2.2.1 : Cond) ∈ am_WS := am_in hk1 rfl
            rw [k11] at hMet hcode
            have hst : st = (st.take b.2.2.2.2.2.1).reverse.reverse ++ .ref b0 :: rest := by rw [List.reverse_reverse, ← hdrop, List.take_append_drop]
            have hlen : (st.take b.2.2.2.2.2.1).reverse.length = b.2.2.2.2.2.1 := by rw [List.length_reverse, List.length_take]; omega
            have hnmy : am_nm q.1 = b.1 := by unfold am_nm; rw [hb2]
            have hG : GoodIn am_WS (.code b.1 b.2.1 b.2.2.1 none :: am_WS) := am_goodIn (ws := []) hcode (fun w hw => absurd hw List.not_mem_nil)
            by_cases hf : q.2 = 0
            · rw [hf, am_mw, if_pos rfl, hnmy] at hp1
              exact am_cont (va_runI hfix hMet (cwI b.2.2.2.2.2.1 hts hG rfl rfl rfl (hts _ (am_in (am_at_in k1) rfl)) (hts _ (am_in (am_at_in hp1) rfl)) (hts _ (am_in (am_at_in k2) rfl)) k10 ⟨k5, k6, k7⟩ (hroom k8)) ⟨am_blind, hpre⟩ rfl hlen hls hst (lv_room hcd.2.2.1.1) hd ⟨hc1, hs1⟩) hR hlow htop kk
            · rw [am_mw, if_neg hf, hnmy] at hp1
              obtain ⟨q9, hmem⟩ := am_ml_mem hq
              have hn := hX.2.2.2.2.1.1 _ hmem hf
              simp only [hnmy] at hn
              exact am_cont (va_runIN hfix hMet ⟨va_cnB b.2.2.2.2.2.1 hts hG rfl rfl rfl hn (hts _ (am_in (am_at_in k1) rfl)) ⟨k5, k6, k7⟩ (hroom k8), k10, hts _ (am_in (am_at_in k2) rfl)⟩ ⟨am_blind, hpre⟩ rfl hlen hls hst (lv_room hcd.2.2.1.1) hd ⟨hc1, hs1⟩) hR hlow htop kk
          · cases hc
        · cases hc
      · cases hc
    · cases hc
  · cases hc
end AMC
