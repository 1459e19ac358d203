/-! THE WALKING MACHINE (am_): memory is (next address, slots used, shapes, numbers, references) by address and place; a shape is (kind, length): kinds 0 to 9 objects of vwCl, 20 rows of int, 21 of byte, 22 Person, 23 Deed, 24 Text, 25 Sheet, 26 Slot; what lies below G 0 is read only: 30 int, 31 char, 32 byte. G 0 is the first address of ours, G 1 KIND_ABOVE, G 2 NAMES, G 3 to G 5 the three texts, G 6 the formatter (0: null), G 7 to G 9 the texts' bytes -/
abbrev am_H : Type := Nat × Nat × (Nat → Nat × Nat) × (Nat → Nat → Int32) × (Nat → Nat → Option Nat)
abbrev am_L : Type := List (Option Value)
def am_top (h : am_H) : Nat := h.1
def am_sl (h : am_H) : Nat := h.2.1
def am_sh (h : am_H) : Nat → Nat × Nat := h.2.2.1
def am_i (h : am_H) : Nat → Nat → Int32 := h.2.2.2.1
def am_r (h : am_H) : Nat → Nat → Option Nat := h.2.2.2.2
def am_u2 {α : Type} (f : Nat → Nat → α) (a k : Nat) (v : α) : Nat → Nat → α := fun b j => if b = a ∧ j = k then v else f b j
def am_ua {α : Type} (f : Nat → Nat → α) (a : Nat) (g : Nat → α) : Nat → Nat → α := fun b => if b = a then g else f b
def am_pi (h : am_H) (a k : Nat) (v : Int32) : am_H := (h.1, h.2.1, h.2.2.1, am_u2 h.2.2.2.1 a k v, h.2.2.2.2)
def am_pr (h : am_H) (a k : Nat) (v : Option Nat) : am_H := (h.1, h.2.1, h.2.2.1, h.2.2.2.1, am_u2 h.2.2.2.2 a k v)
def am_pa (h : am_H) (a : Nat) (g : Nat → Int32) : am_H := (h.1, h.2.1, h.2.2.1, am_ua h.2.2.2.1 a g, h.2.2.2.2)
def am_new (h : am_H) (kd n sl : Nat) : am_H := (h.1 + 1, h.2.1 + sl, (fun b => if b = h.1 then (kd, n) else h.2.2.1 b), am_ua h.2.2.2.1 h.1 (fun _ => 0), am_ua h.2.2.2.2 h.1 (fun _ => none))
def am_isR (ci k : Nat) : Bool := match am_ty ci k with
  | .object _ => true
  | .array _ => true
  | _ => false
def am_fv (h : am_H) (a ci k : Nat) : Value := if am_isR ci k = true then va_rf (am_r h a k) else .int (am_i h a k)
def am_own (G : Nat → Nat) (h : am_H) (a : Nat) : Prop := G 0 ≤ a ∧ a < am_top h
def am_len (i : Instr) : Nat := match i with
  | .aload _ => 2
  | .iload _ => 2
  | .lload _ => 2
  | .istore _ => 2
  | .astore _ => 2
  | .bipush _ => 2
  | .sipush _ => 3
  | .iinc _ _ => 3
  | .ldc _ => 2
  | .ldc_w _ => 3
  | .ldc2_w _ => 3
  | .getfield _ => 3
  | .putfield _ => 3
  | .getstatic _ => 3
  | .newarray _ => 2
  | .anewarray _ => 3
  | .new _ => 3
  | .goto _ => 3
  | .ifCond _ _ => 3
  | .if_icmp _ _ => 3
  | .ifnull _ => 3
  | .ifnonnull _ => 3
  | .invokespecial _ => 3
  | .invokestatic _ => 3
  | .invokevirtual _ => 3
  | _ => 1
def am_ldi (L : am_L) (k : Nat) (st : List Value) : Option (am_L × List Value) := match L[k]? with
  | some (some (.int x)) => some (L, .int x :: st)
  | _ => none
def am_ldl (L : am_L) (k : Nat) (st : List Value) : Option (am_L × List Value) := match L[k]? with
  | some (some (.long x)) => some (L, .long x :: st)
  | _ => none
def am_lda (L : am_L) (k : Nat) (st : List Value) : Option (am_L × List Value) := match L[k]? with
  | some (some (.ref x)) => some (L, .ref x :: st)
  | some (some .null) => some (L, .null :: st)
  | _ => none
def am_c1 (q : Option Value) : Bool := match q with
  | some v => v.category == 1
  | none => true
def am_sto (L : am_L) (k : Nat) (v : Value) (st : List Value) : Option (am_L × List Value) := if k < L.length ∧ am_c1 (L.getD (k - 1) none) = true then some (L.set k (some v), st) else none
def am_sti (L : am_L) (k : Nat) (st : List Value) : Option (am_L × List Value) := match st with
  | .int x :: r => am_sto L k (.int x) r
  | _ => none
def am_sta (L : am_L) (k : Nat) (st : List Value) : Option (am_L × List Value) := match st with
  | .ref x :: r => am_sto L k (.ref x) r
  | .null :: r => am_sto L k .null r
  | _ => none
def am_inc (L : am_L) (k : Nat) (n : Int) (st : List Value) : Option (am_L × List Value) := match L[k]? with
  | some (some (.int x)) => am_sto L k (.int (x + Int32.ofInt n)) st
  | _ => none
def am_b2 (f : Int32 → Int32 → Int32) (L : am_L) (st : List Value) : Option (am_L × List Value) := match st with
  | .int y :: .int x :: r => some (L, .int (f x y) :: r)
  | _ => none
def am_d2 (f : Int32 → Int32 → Int32) (L : am_L) (st : List Value) : Option (am_L × List Value) := match st with
  | .int y :: .int x :: r => if y = 0 then none else some (L, .int (f x y) :: r)
  | _ => none
def am_u1 (f : Int32 → Int32) (L : am_L) (st : List Value) : Option (am_L × List Value) := match st with
  | .int x :: r => some (L, .int (f x) :: r)
  | _ => none
def am_i2l (L : am_L) (st : List Value) : Option (am_L × List Value) := match st with
  | .int x :: r => some (L, .long x.toInt64 :: r)
  | _ => none
def am_ladd (L : am_L) (st : List Value) : Option (am_L × List Value) := match st with
  | .long y :: .long x :: r => some (L, .long (x + y) :: r)
  | _ => none
def am_lcmp (L : am_L) (st : List Value) : Option (am_L × List Value) := match st with
  | .long y :: .long x :: r => some (L, .int (lg_cmp x y) :: r)
  | _ => none
def am_dup (L : am_L) (st : List Value) : Option (am_L × List Value) := match st with
  | v :: r => if v.category = 1 then some (L, v :: v :: r) else none
  | _ => none
def am_dup2 (L : am_L) (st : List Value) : Option (am_L × List Value) := match st with
  | v :: w :: r => if v.category = 1 ∧ w.category = 1 then some (L, v :: w :: v :: w :: r) else none
  | _ => none
def am_pop (L : am_L) (st : List Value) : Option (am_L × List Value) := match st with
  | v :: r => if v.category = 1 then some (L, r) else none
  | _ => none
def am_pure (i : Instr) (L : am_L) (st : List Value) : Option (am_L × List Value) := match i with
  | .iconst n => some (L, .int (Int32.ofInt n) :: st)
  | .bipush n => some (L, .int (Int8.ofInt n).toInt32 :: st)
  | .sipush n => some (L, .int (Int16.ofInt n).toInt32 :: st)
  | .lconst n => some (L, .long (Int64.ofNat (n : Nat)) :: st)
  | .aconst_null => some (L, .null :: st)
  | .iload_n k => am_ldi L k st
  | .iload k => am_ldi L k st
  | .lload_n k => am_ldl L k st
  | .lload k => am_ldl L k st
  | .aload_n k => am_lda L k st
  | .aload k => am_lda L k st
  | .istore_n k => am_sti L k st
  | .istore k => am_sti L k st
  | .astore_n k => am_sta L k st
  | .astore k => am_sta L k st
  | .iinc k n => am_inc L k n st
  | .iadd => am_b2 (fun x y => x + y) L st
  | .isub => am_b2 (fun x y => x - y) L st
  | .imul => am_b2 (fun x y => x * y) L st
  | .iand => am_b2 (fun x y => x &&& y) L st
  | .ior => am_b2 (fun x y => x ||| y) L st
  | .ixor => am_b2 (fun x y => x ^^^ y) L st
  | .ishl => am_b2 (fun x y => x <<< (y &&& 31)) L st
  | .ishr => am_b2 (fun x y => x >>> (y &&& 31)) L st
  | .iushr => am_b2 (fun x y => (x.toUInt32 >>> (y.toUInt32 &&& Int32.toUInt32 31)).toInt32) L st
  | .idiv => am_d2 (fun x y => x / y) L st
  | .irem => am_d2 (fun x y => x - x / y * y) L st
  | .ineg => am_u1 (fun x => -x) L st
  | .i2b => am_u1 (fun x => x.toInt8.toInt32) L st
  | .i2s => am_u1 (fun x => x.toInt16.toInt32) L st
  | .i2c => am_u1 (fun x => (x.toUInt32 % 65536).toInt32) L st
  | .i2l => am_i2l L st
  | .ladd => am_ladd L st
  | .lcmp => am_lcmp L st
  | .dup => am_dup L st
  | .dup2 => am_dup2 L st
  | .pop => am_pop L st
  | _ => none
def am_tg (pc : Nat) (off : Int) (st : List Value) : Option (Nat × List Value) := if 0 ≤ (pc : Int) + off then some (((pc : Int) + off).toNat, st) else none
def am_cc (c : Jvm.ClassFile.Cond) (x y : Int32) : Bool := match c with
  | .eq => decide (x = y)
  | .ne => decide (x ≠ y)
  | .lt => decide (x < y)
  | .ge => decide (y ≤ x)
  | .gt => decide (y < x)
  | .le => decide (x ≤ y)
def am_br (i : Instr) (pc : Nat) (st : List Value) : Option (Nat × List Value) := match i with
  | .goto off => am_tg pc off st
  | .ifCond c off => (match st with
    | .int x :: r => (match am_tg pc off r with
      | some q => some (if am_cc c x 0 = true then q else (pc + 3, r))
      | none => none)
    | _ => none)
  | .if_icmp c off => (match st with
    | .int y :: .int x :: r => (match am_tg pc off r with
      | some q => some (if am_cc c x y = true then q else (pc + 3, r))
      | none => none)
    | _ => none)
  | .ifnull off => (match st with
    | .null :: r => am_tg pc off r
    | .ref _ :: r => some (pc + 3, r)
    | _ => none)
  | .ifnonnull off => (match st with
    | .ref _ :: r => am_tg pc off r
    | .null :: r => some (pc + 3, r)
    | _ => none)
  | .tableswitch d lo hi offs => (match st with
    | .int x :: r => if x.toInt < lo ∨ hi < x.toInt then am_tg pc d r else (match offs[(x.toInt - lo).toNat]? with
      | some off => am_tg pc off r
      | none => none)
    | _ => none)
  | .lookupswitch d ps => (match st with
    | .int x :: r => if (ps.toList.zip (ps.toList.drop 1)).all (fun (a, next) => a.1 < next.1) = true then am_tg pc (Op.lookupswitch.offset ps.toList d x.toInt) r else none
    | _ => none)
  | _ => none
def am_cat (st : List Value) : Nat := (st.map fun v => v.category).sum
def am_ldc (G : Nat → Nat) (cn x : Nat) (st : List Value) (h : am_H) : Option (List Value × am_H) := match am_lk am_klT cn x with
  | some v => some (.int v :: st, h)
  | none => if cn = 3 ∧ x = 97 then some (.ref (G 3) :: st, h) else if cn = 3 ∧ x = 103 then some (.ref (G 4) :: st, h) else if cn = 3 ∧ x = 105 then some (.ref (G 5) :: st, h) else none
def am_ldcw (cn x : Nat) (st : List Value) (h : am_H) : Option (List Value × am_H) := match am_lk am_klT cn x with
  | some v => some (.int v :: st, h)
  | none => none
def am_ldc2 (cn x : Nat) (st : List Value) (h : am_H) : Option (List Value × am_H) := match am_lk am_k2T cn x with
  | some v => some (.long v :: st, h)
  | none => none
/-- a text constant's own row of bytes -/
def am_str (G : Nat → Nat) (a : Nat) : Option Nat := if a = G 3 then some (G 7) else if a = G 4 then some (G 8) else if a = G 5 then some (G 9) else none
def am_get (G : Nat → Nat) (cn x : Nat) (st : List Value) (h : am_H) : Option (List Value × am_H) := match st with
  | .ref a :: r => (match am_lk am_flT cn x with
    | some q => if (G 0 ≤ a ∧ a < am_top h) ∧ (am_sh h a).1 = q.1 then some (am_fv h a q.1 q.2 :: r, h) else none
    | none => if cn = 11 then (match am_str G a with
      | some w => if x = 9 then some (.ref w :: r, h) else if x = 15 then some (.int 0 :: r, h) else none
      | none => none) else none)
  | _ => none
def am_pv (h : am_H) (a ci k : Nat) (v : Value) : Option am_H := if am_isR ci k = true then (match v with
    | .ref b => some (am_pr h a k (some b))
    | .null => some (am_pr h a k none)
    | _ => none) else (match v with
    | .int z => if narrow (am_ty ci k) (.int z) = .int z ∧ fits (am_ty ci k) (.int z) = true then some (am_pi h a k z) else none
    | _ => none)
def am_put (G : Nat → Nat) (cn : Nat) (ini : Bool) (x : Nat) (st : List Value) (h : am_H) : Option (List Value × am_H) := match st with
  | v :: .ref a :: r => (match am_lk am_flT cn x with
    | some q => if ((G 0 ≤ a ∧ a < am_top h) ∧ (am_sh h a).1 = q.1) ∧ ((am_T q.1 q.2).2.2.2 = false ∨ (ini = true ∧ (am_T q.1 q.2).1 = am_cs cn)) then (match am_pv h a q.1 q.2 v with
      | some h2 => some (r, h2)
      | none => none) else none
    | none => none)
  | _ => none
def am_gst (G : Nat → Nat) (cn x : Nat) (st : List Value) (h : am_H) : Option (List Value × am_H) :=
  if cn = 2 ∧ x = 34 then some (.ref (G 1) :: st, h) else if cn = 3 ∧ x = 144 then some (.ref (G 2) :: st, h) else if cn = 11 ∧ x = 38 then some (.int 1 :: st, h) else if cn = 11 ∧ x = 1053 then some (va_rf (if G 6 = 0 then none else some (G 6 - 1)) :: st, h) else none
def am_inb (j : Int32) (n : Nat) : Prop := ¬ (j < 0 ∨ n ≤ j.toNatClampNeg)
def am_ald (G : Nat → Nat) (k1 k2 : Nat) (st : List Value) (h : am_H) : Option (List Value × am_H) := match st with
  | .int j :: .ref a :: r => if (((G 0 ≤ a ∧ a < am_top h) ∧ (am_sh h a).1 = k1) ∨ (a < G 0 ∧ (am_sh h a).1 = k2)) ∧ ¬ (j < 0 ∨ (am_sh h a).2 ≤ j.toNatClampNeg) then some (.int (am_i h a j.toNatClampNeg) :: r, h) else none
  | _ => none
def am_cld (G : Nat → Nat) (st : List Value) (h : am_H) : Option (List Value × am_H) := match st with
  | .int j :: .ref a :: r => if (a < G 0 ∧ (am_sh h a).1 = 31) ∧ ¬ (j < 0 ∨ (am_sh h a).2 ≤ j.toNatClampNeg) then some (.int (am_i h a j.toNatClampNeg) :: r, h) else none
  | _ => none
def am_aal (G : Nat → Nat) (st : List Value) (h : am_H) : Option (List Value × am_H) := match st with
  | .int j :: .ref a :: r => if ((G 0 ≤ a ∧ a < am_top h) ∧ 22 ≤ (am_sh h a).1 ∧ (am_sh h a).1 ≤ 26) ∧ ¬ (j < 0 ∨ (am_sh h a).2 ≤ j.toNatClampNeg) then some (va_rf (am_r h a j.toNatClampNeg) :: r, h) else none
  | _ => none
def am_ias (G : Nat → Nat) (st : List Value) (h : am_H) : Option (List Value × am_H) := match st with
  | .int x :: .int j :: .ref a :: r => if ((G 0 ≤ a ∧ a < am_top h) ∧ (am_sh h a).1 = 20) ∧ ¬ (j < 0 ∨ (am_sh h a).2 ≤ j.toNatClampNeg) then some (r, am_pi h a j.toNatClampNeg x) else none
  | _ => none
def am_bas (G : Nat → Nat) (st : List Value) (h : am_H) : Option (List Value × am_H) := match st with
  | .int x :: .int j :: .ref a :: r => if ((G 0 ≤ a ∧ a < am_top h) ∧ (am_sh h a).1 = 21) ∧ ¬ (j < 0 ∨ (am_sh h a).2 ≤ j.toNatClampNeg) then some (r, am_pi h a j.toNatClampNeg x.toInt8.toInt32) else none
  | _ => none
/-- the objects that a row of references holds, and the row's kind by these -/
def am_aC (kd : Nat) : Nat := match kd with
  | 22 => 2
  | 23 => 0
  | 24 => 7
  | 25 => 4
  | _ => 5
def am_kA (ci : Nat) : Nat := match ci with
  | 2 => 22
  | 0 => 23
  | 7 => 24
  | 4 => 25
  | _ => 26
def am_aas (G : Nat → Nat) (st : List Value) (h : am_H) : Option (List Value × am_H) := match st with
  | .null :: .int j :: .ref a :: r => if ((G 0 ≤ a ∧ a < am_top h) ∧ 22 ≤ (am_sh h a).1 ∧ (am_sh h a).1 ≤ 26) ∧ ¬ (j < 0 ∨ (am_sh h a).2 ≤ j.toNatClampNeg) then some (r, am_pr h a j.toNatClampNeg none) else none
  | .ref v :: .int j :: .ref a :: r => if (((G 0 ≤ a ∧ a < am_top h) ∧ 22 ≤ (am_sh h a).1 ∧ (am_sh h a).1 ≤ 26) ∧ ¬ (j < 0 ∨ (am_sh h a).2 ≤ j.toNatClampNeg)) ∧ (G 0 ≤ v ∧ v < am_top h) ∧ (am_sh h v).1 = am_aC (am_sh h a).1 then some (r, am_pr h a j.toNatClampNeg (some v)) else none
  | _ => none
def am_aln (G : Nat → Nat) (st : List Value) (h : am_H) : Option (List Value × am_H) := match st with
  | .ref a :: r => if ((G 0 ≤ a ∧ a < am_top h) ∧ 20 ≤ (am_sh h a).1 ∧ (am_sh h a).1 ≤ 26) ∨ (a < G 0 ∧ 30 ≤ (am_sh h a).1 ∧ (am_sh h a).1 ≤ 32) then some (.int (Int32.ofNat (am_sh h a).2) :: r, h) else none
  | _ => none
def am_nwk (t : Jvm.ClassFile.ArrayType) : Nat := match t with
  | .int => 20
  | .byte => 21
  | _ => 0
def am_nwa (t : Jvm.ClassFile.ArrayType) (st : List Value) (h : am_H) : Option (List Value × am_H) := match st with
  | .int n :: r => if am_nwk t ≠ 0 ∧ ¬ n < 0 ∧ n.toNatClampNeg ≤ 100000 then some (.ref (am_top h) :: r, am_new h (am_nwk t) n.toNatClampNeg n.toNatClampNeg) else none
  | _ => none
def am_anw (cn x : Nat) (st : List Value) (h : am_H) : Option (List Value × am_H) := match st with
  | .int n :: r => (match am_lk am_nlT cn x with
    | some ci => if (ci = 2 ∨ ci = 0 ∨ ci = 7 ∨ ci = 4 ∨ ci = 5) ∧ ¬ n < 0 ∧ n.toNatClampNeg ≤ 100000 then some (.ref (am_top h) :: r, am_new h (am_kA ci) n.toNatClampNeg n.toNatClampNeg) else none
    | none => none)
  | _ => none
def am_nwo (cn x : Nat) (st : List Value) (h : am_H) : Option (List Value × am_H) := match am_lk am_nlT cn x with
  | some ci => some (.ref (am_top h) :: st, am_new h ci 0 (am_N ci))
  | none => none
def am_oin (d cn x : Nat) (st : List Value) (h : am_H) : Option (List Value × am_H) := match st with
  | .ref _ :: r => if am_lk am_biT cn x = some 0 ∧ 1 ≤ d ∧ am_cat r ≤ 8 then some (r, h) else none
  | _ => none
def am_sta2 (G : Nat → Nat) (d cn x : Nat) (st : List Value) (h : am_H) : Option (List Value × am_H) := match st with
  | .int n :: .int dp :: .ref b :: .int sp :: .ref a :: r => if (am_lk am_biT cn x = some 1 ∧ 1 ≤ d ∧ am_cat r ≤ 8) ∧ ((G 0 ≤ a ∧ a < am_top h) ∧ (am_sh h a).1 = 20) ∧ ((G 0 ≤ b ∧ b < am_top h) ∧ (am_sh h b).1 = 20) ∧ (¬ sp < 0 ∧ ¬ dp < 0 ∧ ¬ n < 0) ∧ sp.toNatClampNeg + n.toNatClampNeg ≤ (am_sh h a).2 ∧ dp.toNatClampNeg + n.toNatClampNeg ≤ (am_sh h b).2 then some (r, am_pa h b (va_cpy (am_i h a) (am_i h b) sp.toNatClampNeg dp.toNatClampNeg n.toNatClampNeg)) else none
  | .int y :: .int x2 :: r => if 1 ≤ d ∧ am_cat r ≤ 8 then (if am_lk am_biT cn x = some 2 then some (.int (if x2 < y then y else x2) :: r, h) else if am_lk am_biT cn x = some 3 then some (.int (if y < x2 then y else x2) :: r, h) else none) else none
  | _ => none
def am_mem (G : Nat → Nat) (d cn : Nat) (ini : Bool) (i : Instr) (st : List Value) (h : am_H) : Option (List Value × am_H) := match i with
  | .ldc x => am_ldc G cn x st h
  | .ldc_w x => am_ldcw cn x st h
  | .ldc2_w x => am_ldc2 cn x st h
  | .getfield x => am_get G cn x st h
  | .putfield x => am_put G cn ini x st h
  | .getstatic x => am_gst G cn x st h
  | .iaload => am_ald G 20 30 st h
  | .baload => am_ald G 21 32 st h
  | .caload => am_cld G st h
  | .aaload => am_aal G st h
  | .iastore => am_ias G st h
  | .bastore => am_bas G st h
  | .aastore => am_aas G st h
  | .arraylength => am_aln G st h
  | .newarray t => am_nwa t st h
  | .anewarray x => am_anw cn x st h
  | .new x => am_nwo cn x st h
  | .invokespecial x => am_oin d cn x st h
  | .invokestatic x => am_sta2 G d cn x st h
  | _ => none
def am_slt (vs : List Value) : am_L := vs.flatMap fun v => if v.category = 2 then [some v, none] else [some v]
def am_cst (cn x : Nat) (st : List Value) : Option (Nat × List Value × List Value) := match am_lk am_mlT cn x with
  | some q => (match am_ML[q.1]? with
    | some a => if a.2.2.2.2.2.2 = 0 ∧ a.2.2.2.2.2.1 ≤ st.length ∧ am_cat (st.drop a.2.2.2.2.2.1) ≤ 8 ∧ (am_slt (st.take a.2.2.2.2.2.1).reverse).length ≤ a.2.2.1 then some (q.1, (st.take a.2.2.2.2.2.1).reverse, st.drop a.2.2.2.2.2.1) else none
    | none => none)
  | none => none
def am_cin (srt : Nat) (G : Nat → Nat) (h : am_H) (cn x : Nat) (st : List Value) : Option (Nat × List Value × List Value) := match am_lk am_mlT cn x with
  | some q => (match am_ML[q.1]? with
    | some a => (match st.drop a.2.2.2.2.2.1 with
      | .ref b :: r => if (a.2.2.2.2.2.2 = srt ∧ (srt = 1 → q.2 = 0)) ∧ a.2.2.2.2.2.1 ≤ st.length ∧ (am_cat r ≤ 8 ∧ (am_slt (.ref b :: (st.take a.2.2.2.2.2.1).reverse)).length ≤ a.2.2.1) ∧ (srt = 2 ∨ (a.2.2.2.2.1 < 10 ∧ (G 0 ≤ b ∧ b < am_top h) ∧ (am_sh h b).1 = a.2.2.2.2.1) ∨ (a.2.2.2.2.1 = 11 ∧ (am_str G b).isSome = true)) then some (q.1, .ref b :: (st.take a.2.2.2.2.2.1).reverse, r) else none
      | _ => none)
    | none => none)
  | none => none
def am_call (G : Nat → Nat) (h : am_H) (cn : Nat) (i : Instr) (st : List Value) : Option (Nat × List Value × List Value) := match i with
  | .invokestatic x => am_cst cn x st
  | .invokevirtual x => am_cin 1 G h cn x st
  | .invokespecial x => am_cin 2 G h cn x st
  | _ => none
def am_ret (rt : Option FieldType) (i : Instr) (st : List Value) : Option (Option Value) := match i with
  | .return_ => (match st with
    | [] => if rt = none then some none else none
    | _ => none)
  | .ireturn => (match st with
    | [.int v] => (match rt with
      | some ty => if narrow ty (.int v) = .int v then some (some (.int v)) else none
      | none => none)
    | _ => none)
  | .lreturn => (match st with
    | [.long v] => if rt = some .long then some (some (.long v)) else none
    | _ => none)
  | .areturn => (match st with
    | [.ref v] => (match rt with
      | some (.object _) => some (some (.ref v))
      | some (.array _) => some (some (.ref v))
      | _ => none)
    | [.null] => (match rt with
      | some (.object _) => some (some .null)
      | some (.array _) => some (some .null)
      | _ => none)
    | _ => none)
  | _ => none
def am_entry (y : Nat) (vs : List Value) : am_L := match am_ML[y]? with
  | some a => am_slt vs ++ List.replicate (a.2.2.1 - (am_slt vs).length) none
  | none => []
/-- one step: on in this method, an end, or a call (whom, its values, what stays below) -/
abbrev am_S : Type := (Nat × am_L × List Value × am_H) ⊕ (Option Value) ⊕ (Nat × List Value × List Value)
def am_sw (i : Instr) : Bool := match i with
  | .tableswitch _ _ _ _ => true
  | .lookupswitch _ _ => true
  | _ => false
def am_op (G : Nat → Nat) (d : Nat) (a : am_MI) (i : Instr) (len pc : Nat) (L : am_L) (st : List Value) (h : am_H) : Option am_S :=
  if am_sw i = true ∨ len = am_len i then (match am_br i pc st with
    | some q => some (.inl (q.1, L, q.2, h))
    | none => (match am_pure i L st with
      | some q => some (.inl (pc + len, q.1, q.2, h))
      | none => (match am_mem G d a.2.2.2.2.1 (a.2.2.2.2.2.2 == 2) i st h with
        | some q => some (.inl (pc + len, L, q.1, q.2))
        | none => (match am_call G h a.2.2.2.2.1 i st with
          | some q => some (.inr (.inr q))
          | none => (match am_ret a.2.2.2.1 i st with
            | some v => some (.inr (.inl v))
            | none => none))))) else none
def am_stp (G : Nat → Nat) (d y pc : Nat) (L : am_L) (st : List Value) (h : am_H) : Option am_S := match am_ML[y]? with
  | some a => (match decode a.2.1 pc with
    | .ok q => am_op G d a q.1 q.2 pc L st h
    | .error _ => none)
  | none => none
def am_run (G : Nat → Nat) : Nat → Nat → Nat → Nat → am_L → List Value → am_H → Option (Option Value × am_H)
  | 0, _, _, _, _, _, _ => none
  | n + 1, d, y, pc, L, st, h => match am_stp G d y pc L st h with
    | none => none
    | some (.inl q) => am_run G n d y q.1 q.2.1 q.2.2.1 q.2.2.2
    | some (.inr (.inl v)) => some (v, h)
    | some (.inr (.inr q)) => match d with
      | 0 => none
      | d2 + 1 => match am_run G n d2 q.1 0 (am_entry q.1 q.2.1) [] h with
        | none => none
        | some r => am_run G n (d2 + 1) y (pc + 3) L (r.1.toList ++ q.2.2) r.2
