/-! THE SMALL MACHINE: the program's bytecode over lists and whole numbers. An int is .inl z, a long .inr (.inl z), a reference .inr (.inr (.inl r)), nothing .inr (.inr (.inr ())). -/
abbrev AV : Type := Int ⊕ (Int ⊕ (Option Nat ⊕ Unit))
/-- a cell: (kind, ints) with kind 0 int, 1 byte, 2 boolean, 5 the script, 9 a String; longs; (class, references); (class, fields) -/
abbrev SC : Type := (Nat × List Int) ⊕ (List Int ⊕ ((Nat × List (Option Nat)) ⊕ (Nat × List AV)))
def tc_3 (z : Int) : Int32 := Int32.ofInt z
def tc_6 (z : Int) : Int64 := Int64.ofInt z
def i3_add (a b : Int) : Int := (tc_3 a + tc_3 b).toInt
def i3_sub (a b : Int) : Int := (tc_3 a - tc_3 b).toInt
def i3_mul (a b : Int) : Int := (tc_3 a * tc_3 b).toInt
def i3_div (a b : Int) : Int := (tc_3 a / tc_3 b).toInt
def i3_rem (a b : Int) : Int := (tc_3 a - tc_3 a / tc_3 b * tc_3 b).toInt
def i3_and (a b : Int) : Int := (tc_3 a &&& tc_3 b).toInt
def i3_or (a b : Int) : Int := (tc_3 a ||| tc_3 b).toInt
def i3_xor (a b : Int) : Int := (tc_3 a ^^^ tc_3 b).toInt
def i3_shl (a b : Int) : Int := (tc_3 a <<< (tc_3 b &&& 31)).toInt
def i3_shr (a b : Int) : Int := (tc_3 a >>> (tc_3 b &&& 31)).toInt
def i3_ushr (a b : Int) : Int := (((tc_3 a).toUInt32 >>> ((tc_3 b).toUInt32 &&& Int32.toUInt32 31)).toInt32).toInt
def i3_neg (a : Int) : Int := (-(tc_3 a)).toInt
def i3_b (a : Int) : Int := ((tc_3 a).toInt8.toInt32).toInt
def i3_c (a : Int) : Int := (((tc_3 a).toUInt32 % 65536).toInt32).toInt
def i6_add (a b : Int) : Int := (tc_6 a + tc_6 b).toInt
def i6_sub (a b : Int) : Int := (tc_6 a - tc_6 b).toInt
def i6_mul (a b : Int) : Int := (tc_6 a * tc_6 b).toInt
def i6_div (a b : Int) : Int := (tc_6 a / tc_6 b).toInt
def i6_rem (a b : Int) : Int := (tc_6 a - tc_6 a / tc_6 b * tc_6 b).toInt
def i6_and (a b : Int) : Int := (tc_6 a &&& tc_6 b).toInt
def i6_or (a b : Int) : Int := (tc_6 a ||| tc_6 b).toInt
def i6_i (a : Int) : Int := ((tc_6 a).toInt32).toInt
def i6_cmp (a b : Int) : Int := if a = b then 0 else if a < b then -1 else 1
def tc_nil : AV := .inr (.inr (.inr ()))
def tc_cat (v : AV) : Nat := match v with
  | .inr (.inl _) => 2
  | _ => 1
def tc_kill (ls : List AV) (k : Nat) : List AV := match k with
  | 0 => ls
  | j + 1 => match ls[j]? with
    | some (.inr (.inl _)) => ls.set j tc_nil
    | _ => ls
def tc_s1 (pc : Nat) (ls : List AV) (k : Nat) (v : AV) (st : List AV) : Option (Nat × List AV × List AV) :=
  if k < ls.length then some (pc, (tc_kill ls k).set k v, st) else none
def tc_s2 (pc : Nat) (ls : List AV) (k : Nat) (v : AV) (st : List AV) : Option (Nat × List AV × List AV) :=
  if k + 1 < ls.length then some (pc, ((tc_kill ls k).set k v).set (k + 1) tc_nil, st) else none
def tc_j (pc : Nat) (off : Int) (b : Bool) (ls st : List AV) : Option (Nat × List AV × List AV) :=
  if 0 ≤ (pc : Int) + off then some (if b then ((pc : Int) + off).toNat else pc + 3, ls, st) else none
def tc_li (pc : Nat) (ls : List AV) (k : Nat) (st : List AV) : Option (Nat × List AV × List AV) := match ls[k]? with
  | some (.inl z) => some (pc, ls, .inl z :: st)
  | _ => none
def tc_ll (pc : Nat) (ls : List AV) (k : Nat) (st : List AV) : Option (Nat × List AV × List AV) := match ls[k]? with
  | some (.inr (.inl z)) => some (pc, ls, .inr (.inl z) :: st)
  | _ => none
def tc_la (pc : Nat) (ls : List AV) (k : Nat) (st : List AV) : Option (Nat × List AV × List AV) := match ls[k]? with
  | some (.inr (.inr (.inl r))) => some (pc, ls, .inr (.inr (.inl r)) :: st)
  | _ => none
def tc_inc (pc : Nat) (ls : List AV) (k : Nat) (n : Int) (st : List AV) : Option (Nat × List AV × List AV) := match ls[k]? with
  | some (.inl z) => tc_s1 pc ls k (.inl (i3_add z n)) st
  | _ => none
def tc_sw (pc : Nat) (d lo hi : Int) (offs : Array Int) (z : Int) (ls st : List AV) : Option (Nat × List AV × List AV) :=
  if z < lo ∨ hi < z then (if 0 ≤ (pc : Int) + d then some (((pc : Int) + d).toNat, ls, st) else none)
  else match offs[(z - lo).toNat]? with
    | some off => if 0 ≤ (pc : Int) + off then some (((pc : Int) + off).toNat, ls, st) else none
    | none => none
/-- what touches locals and stack alone -/
def tc_A (i : Instr) (len pc : Nat) (ls st : List AV) : Option (Nat × List AV × List AV) := match i, len, st with
  | .iconst n, 1, st => some (pc + 1, ls, .inl (tc_3 n).toInt :: st)
  | .bipush n, 2, st => some (pc + 2, ls, .inl ((Int8.ofInt n).toInt32).toInt :: st)
  | .sipush n, 3, st => some (pc + 3, ls, .inl ((Int16.ofInt n).toInt32).toInt :: st)
  | .lconst n, 1, st => some (pc + 1, ls, .inr (.inl (Int64.ofNat (n : Nat)).toInt) :: st)
  | .aconst_null, 1, st => some (pc + 1, ls, .inr (.inr (.inl none)) :: st)
  | .iload k, 2, st => tc_li (pc + 2) ls k st
  | .iload_n k, 1, st => tc_li (pc + 1) ls k st
  | .lload k, 2, st => tc_ll (pc + 2) ls k st
  | .lload_n k, 1, st => tc_ll (pc + 1) ls k st
  | .aload k, 2, st => tc_la (pc + 2) ls k st
  | .aload_n k, 1, st => tc_la (pc + 1) ls k st
  | .istore k, 2, .inl z :: st => tc_s1 (pc + 2) ls k (.inl z) st
  | .istore_n k, 1, .inl z :: st => tc_s1 (pc + 1) ls k (.inl z) st
  | .lstore k, 2, .inr (.inl z) :: st => tc_s2 (pc + 2) ls k (.inr (.inl z)) st
  | .lstore_n k, 1, .inr (.inl z) :: st => tc_s2 (pc + 1) ls k (.inr (.inl z)) st
  | .astore k, 2, .inr (.inr (.inl r)) :: st => tc_s1 (pc + 2) ls k (.inr (.inr (.inl r))) st
  | .astore_n k, 1, .inr (.inr (.inl r)) :: st => tc_s1 (pc + 1) ls k (.inr (.inr (.inl r))) st
  | .iinc k n, 3, st => tc_inc (pc + 3) ls k n st
  | .iadd, 1, .inl b :: .inl a :: st => some (pc + 1, ls, .inl (i3_add a b) :: st)
  | .isub, 1, .inl b :: .inl a :: st => some (pc + 1, ls, .inl (i3_sub a b) :: st)
  | .imul, 1, .inl b :: .inl a :: st => some (pc + 1, ls, .inl (i3_mul a b) :: st)
  | .idiv, 1, .inl b :: .inl a :: st => if b = 0 then none else some (pc + 1, ls, .inl (i3_div a b) :: st)
  | .irem, 1, .inl b :: .inl a :: st => if b = 0 then none else some (pc + 1, ls, .inl (i3_rem a b) :: st)
  | .iand, 1, .inl b :: .inl a :: st => some (pc + 1, ls, .inl (i3_and a b) :: st)
  | .ior, 1, .inl b :: .inl a :: st => some (pc + 1, ls, .inl (i3_or a b) :: st)
  | .ixor, 1, .inl b :: .inl a :: st => some (pc + 1, ls, .inl (i3_xor a b) :: st)
  | .ishl, 1, .inl b :: .inl a :: st => some (pc + 1, ls, .inl (i3_shl a b) :: st)
  | .ishr, 1, .inl b :: .inl a :: st => some (pc + 1, ls, .inl (i3_shr a b) :: st)
  | .iushr, 1, .inl b :: .inl a :: st => some (pc + 1, ls, .inl (i3_ushr a b) :: st)
  | .ineg, 1, .inl a :: st => some (pc + 1, ls, .inl (i3_neg a) :: st)
  | .i2b, 1, .inl a :: st => some (pc + 1, ls, .inl (i3_b a) :: st)
  | .i2c, 1, .inl a :: st => some (pc + 1, ls, .inl (i3_c a) :: st)
  | .i2l, 1, .inl a :: st => some (pc + 1, ls, .inr (.inl a) :: st)
  | .l2i, 1, .inr (.inl a) :: st => some (pc + 1, ls, .inl (i6_i a) :: st)
  | .ladd, 1, .inr (.inl b) :: .inr (.inl a) :: st => some (pc + 1, ls, .inr (.inl (i6_add a b)) :: st)
  | .lsub, 1, .inr (.inl b) :: .inr (.inl a) :: st => some (pc + 1, ls, .inr (.inl (i6_sub a b)) :: st)
  | .lmul, 1, .inr (.inl b) :: .inr (.inl a) :: st => some (pc + 1, ls, .inr (.inl (i6_mul a b)) :: st)
  | .ldiv, 1, .inr (.inl b) :: .inr (.inl a) :: st => if b = 0 then none else some (pc + 1, ls, .inr (.inl (i6_div a b)) :: st)
  | .lrem, 1, .inr (.inl b) :: .inr (.inl a) :: st => if b = 0 then none else some (pc + 1, ls, .inr (.inl (i6_rem a b)) :: st)
  | .land, 1, .inr (.inl b) :: .inr (.inl a) :: st => some (pc + 1, ls, .inr (.inl (i6_and a b)) :: st)
  | .lor, 1, .inr (.inl b) :: .inr (.inl a) :: st => some (pc + 1, ls, .inr (.inl (i6_or a b)) :: st)
  | .lcmp, 1, .inr (.inl b) :: .inr (.inl a) :: st => some (pc + 1, ls, .inl (i6_cmp a b) :: st)
  | .dup, 1, v :: st => if tc_cat v = 1 then some (pc + 1, ls, v :: v :: st) else none
  | .pop, 1, v :: st => if tc_cat v = 1 then some (pc + 1, ls, st) else none
  | .dup2, 1, v :: w :: st => if tc_cat v = 1 ∧ tc_cat w = 1 then some (pc + 1, ls, v :: w :: v :: w :: st) else none
  | .if_icmp .eq off, 3, .inl b :: .inl a :: st => tc_j pc off (decide (a = b)) ls st
  | .if_icmp .ne off, 3, .inl b :: .inl a :: st => tc_j pc off (decide (a ≠ b)) ls st
  | .if_icmp .lt off, 3, .inl b :: .inl a :: st => tc_j pc off (decide (a < b)) ls st
  | .if_icmp .ge off, 3, .inl b :: .inl a :: st => tc_j pc off (decide (b ≤ a)) ls st
  | .if_icmp .gt off, 3, .inl b :: .inl a :: st => tc_j pc off (decide (b < a)) ls st
  | .if_icmp .le off, 3, .inl b :: .inl a :: st => tc_j pc off (decide (a ≤ b)) ls st
  | .ifCond .eq off, 3, .inl a :: st => tc_j pc off (decide (a = 0)) ls st
  | .ifCond .ne off, 3, .inl a :: st => tc_j pc off (decide (a ≠ 0)) ls st
  | .ifCond .lt off, 3, .inl a :: st => tc_j pc off (decide (a < 0)) ls st
  | .ifCond .ge off, 3, .inl a :: st => tc_j pc off (decide (0 ≤ a)) ls st
  | .ifCond .gt off, 3, .inl a :: st => tc_j pc off (decide (0 < a)) ls st
  | .ifCond .le off, 3, .inl a :: st => tc_j pc off (decide (a ≤ 0)) ls st
  | .ifnull off, 3, .inr (.inr (.inl r)) :: st => tc_j pc off r.isNone ls st
  | .ifnonnull off, 3, .inr (.inr (.inl r)) :: st => tc_j pc off r.isSome ls st
  | .goto off, 3, st => tc_j pc off true ls st
  | .tableswitch d lo hi offs, _, .inl z :: st => tc_sw pc d lo hi offs z ls st
  | _, _, _ => none
def tc_fld (o idx ci : Nat) : Option Nat := (tc_tF.find? fun e => e.1 == o && (e.2.1 == idx && e.2.2.2.1 == ci)).map fun e => e.2.2.2.2.1
def tc_fit (ty : FieldType) (v : AV) : Bool := match ty, v with
  | .int, .inl _ => true
  | .boolean, .inl z => z == 0 || z == 1
  | .object _, .inr (.inr (.inl _)) => true
  | .array _, .inr (.inr (.inl _)) => true
  | _, _ => false
def tc_dv (ty : FieldType) : AV := match ty with
  | .object _ => .inr (.inr (.inl none))
  | .array _ => .inr (.inr (.inl none))
  | _ => .inl 0
def tc_may (K ci k : Nat) : Bool := !(tc_T ci k).2.2.2 || (decide ((tc_y K).name = "<init>") && decide ((tc_T ci k).1 = tc_cn (tc_o K)))
/-- a cell of n blanks, by newarray's word -/
def tc_blank (t : ArrayType) (n : Nat) : Option SC := match t with
  | .int => some (.inl (0, List.replicate n 0))
  | .byte => some (.inl (1, List.replicate n 0))
  | .boolean => some (.inl (2, List.replicate n 0))
  | .long => some (.inr (.inl (List.replicate n 0)))
  | _ => none
def tc_ws (st : List AV) : Nat := (st.map tc_cat).sum
/-- what of a row of ints may be copied into another -/
def tc_cpy (f g : List Int) (sp dp n : Nat) : List Int := g.take dp ++ ((f.drop sp).take n ++ g.drop (dp + n))
/-- Math's own: 0 max, 1 min, 2 max of longs, 3 min of longs -/
def tc_math (k : Nat) (st : List AV) : Option (List AV) := match k, st with
  | 0, .inl b :: .inl a :: st => some (.inl (if a < b then b else a) :: st)
  | 1, .inl b :: .inl a :: st => some (.inl (if b < a then b else a) :: st)
  | 2, .inr (.inl b) :: .inr (.inl a) :: st => some (.inr (.inl (if a < b then b else a)) :: st)
  | 3, .inr (.inl b) :: .inr (.inl a) :: st => some (.inr (.inl (if b < a then b else a)) :: st)
  | _, _ => none
def tc_acopy (st : List AV) (h : List SC) : Option (List AV × List SC) := match st with
  | .inl m :: .inl dp :: .inr (.inr (.inl (some a))) :: .inl sp :: .inr (.inr (.inl (some b))) :: st => (match h[a]?, h[b]? with
    | some (.inl (k, g)), some (.inl (k', f)) => if k = 0 ∧ k' = 0 ∧ a ≠ b ∧ 0 ≤ m ∧ 0 ≤ dp ∧ 0 ≤ sp ∧ sp.toNat + m.toNat ≤ f.length ∧ dp.toNat + m.toNat ≤ g.length then some (st, h.set a (.inl (k, tc_cpy f g sp.toNat dp.toNat m.toNat))) else none
    | _, _ => none)
  | _ => none
/-- what reads or writes cells -/
def tc_H (K : Nat) (i : Instr) (len : Nat) (st : List AV) (h : List SC) (n : Nat) : Option (List AV × List SC × Nat) := match i, len, st with
  | .ldc idx, 2, st => (match tc_tCI.find? fun e => e.1 == tc_o K && e.2.1 == idx with
    | some e => some (.inl e.2.2.1 :: st, h, n)
    | none => match tc_tCS.find? fun e => e.1 == tc_o K && e.2.1 == idx with
      | some e => some (.inr (.inr (.inl (some e.2.2))) :: st, h, n)
      | none => none)
  | .ldc_w idx, 3, st => (match tc_tCI.find? fun e => e.1 == tc_o K && e.2.1 == idx with
    | some e => some (.inl e.2.2.1 :: st, h, n)
    | none => match tc_tCS.find? fun e => e.1 == tc_o K && e.2.1 == idx with
      | some e => some (.inr (.inr (.inl (some e.2.2))) :: st, h, n)
      | none => none)
  | .ldc2_w idx, 3, st => (match tc_tCL.find? fun e => e.1 == tc_o K && e.2.1 == idx with
    | some e => some (.inr (.inl e.2.2.1) :: st, h, n)
    | none => none)
  | .getfield idx, 3, .inr (.inr (.inl (some a))) :: st => (match h[a]? with
    | some (.inr (.inr (.inr (ci, fs)))) => (match tc_fld (tc_o K) idx ci with
      | some k => (match fs[k]? with
        | some v => some (v :: st, h, n)
        | none => none)
      | none => none)
    | _ => none)
  | .putfield idx, 3, v :: .inr (.inr (.inl (some a))) :: st => (match h[a]? with
    | some (.inr (.inr (.inr (ci, fs)))) => (match tc_fld (tc_o K) idx ci with
      | some k => if k < fs.length ∧ tc_fit (tc_ty ci k) v = true ∧ tc_may K ci k = true then some (st, h.set a (.inr (.inr (.inr (ci, fs.set k v)))), n) else none
      | none => none)
    | _ => none)
  | .arraylength, 1, .inr (.inr (.inl (some a))) :: st => (match h[a]? with
    | some (.inl (k, l)) => if k = 0 ∨ k = 1 ∨ k = 2 ∨ k = 5 then some (.inl l.length :: st, h, n) else none
    | some (.inr (.inl l)) => some (.inl l.length :: st, h, n)
    | some (.inr (.inr (.inl (_, l)))) => some (.inl l.length :: st, h, n)
    | _ => none)
  | .iaload, 1, .inl z :: .inr (.inr (.inl (some a))) :: st => (match h[a]? with
    | some (.inl (k, l)) => if (k = 0 ∨ k = 5) ∧ 0 ≤ z then (match l[z.toNat]? with
      | some v => some (.inl v :: st, h, n)
      | none => none) else none
    | _ => none)
  | .baload, 1, .inl z :: .inr (.inr (.inl (some a))) :: st => (match h[a]? with
    | some (.inl (k, l)) => if (k = 1 ∨ k = 2) ∧ 0 ≤ z then (match l[z.toNat]? with
      | some v => some (.inl v :: st, h, n)
      | none => none) else none
    | _ => none)
  | .laload, 1, .inl z :: .inr (.inr (.inl (some a))) :: st => (match h[a]? with
    | some (.inr (.inl l)) => if 0 ≤ z then (match l[z.toNat]? with
      | some v => some (.inr (.inl v) :: st, h, n)
      | none => none) else none
    | _ => none)
  | .aaload, 1, .inl z :: .inr (.inr (.inl (some a))) :: st => (match h[a]? with
    | some (.inr (.inr (.inl (_, l)))) => if 0 ≤ z then (match l[z.toNat]? with
      | some v => some (.inr (.inr (.inl v)) :: st, h, n)
      | none => none) else none
    | _ => none)
  | .iastore, 1, .inl x :: .inl z :: .inr (.inr (.inl (some a))) :: st => (match h[a]? with
    | some (.inl (k, l)) => if k = 0 ∧ 0 ≤ z ∧ z.toNat < l.length then some (st, h.set a (.inl (k, l.set z.toNat x)), n) else none
    | _ => none)
  | .bastore, 1, .inl x :: .inl z :: .inr (.inr (.inl (some a))) :: st => (match h[a]? with
    | some (.inl (k, l)) => if k = 1 ∧ 0 ≤ z ∧ z.toNat < l.length then some (st, h.set a (.inl (k, l.set z.toNat (i3_b x))), n)
      else if k = 2 ∧ 0 ≤ z ∧ z.toNat < l.length ∧ (x = 0 ∨ x = 1) then some (st, h.set a (.inl (k, l.set z.toNat x)), n) else none
    | _ => none)
  | .lastore, 1, .inr (.inl x) :: .inl z :: .inr (.inr (.inl (some a))) :: st => (match h[a]? with
    | some (.inr (.inl l)) => if 0 ≤ z ∧ z.toNat < l.length then some (st, h.set a (.inr (.inl (l.set z.toNat x))), n) else none
    | _ => none)
  | .aastore, 1, .inr (.inr (.inl (some v))) :: .inl z :: .inr (.inr (.inl (some a))) :: st => (match h[a]?, h[v]? with
    | some (.inr (.inr (.inl (k, l)))), some (.inr (.inr (.inr (ci, _)))) => if k = ci ∧ 0 ≤ z ∧ z.toNat < l.length then some (st, h.set a (.inr (.inr (.inl (k, l.set z.toNat (some v))))), n) else none
    | _, _ => none)
  | .newarray t, 2, .inl z :: st => if 0 ≤ z ∧ z ≤ 100000 then (match tc_blank t z.toNat with
    | some c => some (.inr (.inr (.inl (some h.length))) :: st, h ++ [c], n + z.toNat)
    | none => none) else none
  | .anewarray idx, 3, .inl z :: st => if 0 ≤ z ∧ z ≤ 100000 then (match tc_tA.find? fun e => e.1 == tc_o K && e.2.1 == idx with
    | some e => some (.inr (.inr (.inl (some h.length))) :: st, h ++ [.inr (.inr (.inl (e.2.2.1, List.replicate z.toNat none)))], n + z.toNat)
    | none => none) else none
  | .new idx, 3, st => (match tc_tN.find? fun e => e.1 == tc_o K && e.2.1 == idx with
    | some e => some (.inr (.inr (.inl (some h.length))) :: st, h ++ [.inr (.inr (.inr (e.2.2.1, (tc_tyl.getD e.2.2.1 []).map tc_dv)))], n + tc_N e.2.2.1)
    | none => none)
  | .invokespecial idx, 3, .inr (.inr (.inl (some _))) :: st => (match tc_tO.find? fun e => e.1 == tc_o K && e.2.1 == idx with
    | some _ => if 1 ≤ tc_fr K ∧ tc_ws st + 12 ≤ tc_lo K then some (st, h, n) else none
    | none => none)
  | .invokevirtual idx, 3, .inr (.inr (.inl (some a))) :: st => (match h[a]? with
    | some (.inl (k, l)) => if k = 9 then (match tc_tSL.find? fun e => e.1 == tc_o K && e.2.1 == idx with
        | some _ => if 2 ≤ tc_fr K ∧ 40 ≤ tc_lo K ∧ tc_ws st ≤ 8 then some (.inl l.length :: st, h, n) else none
        | none => none)
      else if k = 0 then (match tc_tCl.find? fun e => e.1 == tc_o K && e.2.1 == idx with
        | some _ => if 1 ≤ tc_fr K ∧ tc_ws st + 14 ≤ tc_lo K then some (.inr (.inr (.inl (some h.length))) :: st, h ++ [.inl (0, l)], n + l.length) else none
        | none => none)
      else none
    | _ => none)
  | .invokevirtual idx, 3, .inl z :: .inr (.inr (.inl (some a))) :: st => (match h[a]? with
    | some (.inl (k, l)) => if k = 9 ∧ 0 ≤ z then (match tc_tSC.find? fun e => e.1 == tc_o K && e.2.1 == idx with
        | some _ => if 4 ≤ tc_fr K ∧ 85 ≤ tc_lo K ∧ tc_ws st ≤ 8 then (match l[z.toNat]? with
          | some v => some (.inl v :: st, h, n)
          | none => none) else none
        | none => none)
      else none
    | _ => none)
  | .checkcast idx, 3, .inr (.inr (.inl (some a))) :: st => (match h[a]? with
    | some (.inl (k, _)) => if k = 0 ∧ tc_o K = 16 ∧ idx = 317 then some (.inr (.inr (.inl (some a))) :: st, h, n) else none
    | _ => none)
  | .invokestatic idx, 3, st => (match tc_tM.find? fun e => e.1 == tc_o K && e.2.1 == idx with
    | some e => if 1 ≤ tc_fr K ∧ 23 ≤ tc_lo K ∧ tc_ws (st.drop 2) ≤ 8 then (tc_math e.2.2.1 st).map fun st' => (st', h, n) else none
    | none => (match tc_tAC.find? fun e => e.1 == tc_o K && e.2.1 == idx with
      | some _ => if 1 ≤ tc_fr K ∧ 26 ≤ tc_lo K ∧ tc_ws (st.drop 5) ≤ 8 then (tc_acopy st h).map fun q => (q.1, q.2, n) else none
      | none => none))
  | _, _, _ => none
/-- a return: the answer -/
def tc_ret (K : Nat) (i : Instr) (len : Nat) (st : List AV) : Option (Option AV) := match i, len, st, tc_rt K with
  | .ireturn, 1, [.inl z], some .int => some (some (.inl z))
  | .ireturn, 1, [.inl z], some .boolean => if z = 0 ∨ z = 1 then some (some (.inl z)) else none
  | .lreturn, 1, [.inr (.inl z)], some .long => some (some (.inr (.inl z)))
  | .areturn, 1, [.inr (.inr (.inl r))], some (.object _) => some (some (.inr (.inr (.inl r))))
  | .areturn, 1, [.inr (.inr (.inl r))], some (.array _) => some (some (.inr (.inr (.inl r))))
  | .return_, 1, [], none => some none
  | _, _, _, _ => none
def tc_fS (o idx : Nat) : Option Nat := (tc_tS.find? fun e => e.1 == o && e.2.1 == idx).map fun e => e.2.2.1
def tc_fI (o idx : Nat) : Option Nat := (tc_tI.find? fun e => e.1 == o && e.2.1 == idx).map fun e => e.2.2.1
def tc_fV (o idx ci : Nat) : Option Nat := (tc_tV.find? fun e => e.1 == o && (e.2.1 == idx && e.2.2.1 == ci)).map fun e => e.2.2.2.1
def tc_fVn (o idx : Nat) : Option Nat := (tc_tV.find? fun e => e.1 == o && e.2.1 == idx).map fun e => tc_np e.2.2.2.1
/-- a call: whom, with what, over what -/
def tc_call (K : Nat) (i : Instr) (len : Nat) (st : List AV) (h : List SC) : Option (Nat × List AV × List AV) := match i, len with
  | .invokestatic idx, 3 => (match tc_fS (tc_o K) idx with
    | some K' => if tc_np K' ≤ st.length then some (K', (st.take (tc_np K')).reverse, st.drop (tc_np K')) else none
    | none => none)
  | .invokespecial idx, 3 => (match tc_fI (tc_o K) idx with
    | some K' => (match st.drop (tc_np K') with
      | .inr (.inr (.inl (some a))) :: rest => some (K', .inr (.inr (.inl (some a))) :: (st.take (tc_np K')).reverse, rest)
      | _ => none)
    | none => none)
  | .invokevirtual idx, 3 => (match tc_fVn (tc_o K) idx with
    | some m => (match st.drop m with
      | .inr (.inr (.inl (some a))) :: rest => (match h[a]? with
        | some (.inr (.inr (.inr (ci, _)))) => (match tc_fV (tc_o K) idx ci with
          | some K' => if tc_np K' = m then some (K', .inr (.inr (.inl (some a))) :: (st.take m).reverse, rest) else none
          | none => none)
        | _ => none)
      | _ => none)
    | none => none)
  | _, _ => none
def tc_sl (as : List AV) : List AV := as.flatMap fun v => match v with
  | .inr (.inl z) => [.inr (.inl z), tc_nil]
  | v => [v]
def tc_ent (K : Nat) (as : List AV) : List AV := tc_sl as ++ List.replicate (tc_ml K - (tc_sl as).length) tc_nil
/-- a run of at most f steps from a place in method K: the answer, the heap, the slots used -/
def tc_run : Nat → Nat → Nat → List AV → List AV → List SC → Nat → Option (Option AV × List SC × Nat)
  | 0, _, _, _, _, _, _ => none
  | f + 1, K, pc, ls, st, h, n => match decode (tc_b K) pc with
    | .error _ => none
    | .ok (i, len) => match tc_ret K i len st with
      | some r => some (r, h, n)
      | none => match tc_call K i len st h with
        | some (K', as, rest) => if tc_fr K' + 1 ≤ tc_fr K ∧ 8 + (tc_ml K' + 11) + tc_lo K' ≤ tc_lo K ∧ tc_ws rest ≤ 8 ∧ (tc_sl as).length ≤ tc_ml K' then
            (match tc_run f K' 0 (tc_ent K' as) [] h n with
            | some (r, h', n') => tc_run f K (pc + 3) ls (r.toList ++ rest) h' n'
            | none => none)
          else none
        | none => match tc_A i len pc ls st with
          | some (pc', ls', st') => tc_run f K pc' ls' st' h n
          | none => match tc_H K i len st h n with
            | some (st', h', n') => tc_run f K (pc + len) ls st' h' n'
            | none => none
/-- from this place the method comes to an end with Q -/
def tc_W (K pc : Nat) (ls st : List AV) (h : List SC) (n : Nat) (Q : Option AV → List SC → Nat → Prop) : Prop :=
  ∃ f r h' n', tc_run f K pc ls st h n = some (r, h', n') ∧ Q r h' n'
