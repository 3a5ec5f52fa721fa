/-! A SIMPLE MACHINE: whole numbers for ints and longs, cells by their places, one function for all contents; what it does the machine does (parts behind) -/
/-- a value: an int, a long, a cell's place, or one that nobody asks for -/
abbrev zV : Type := Int ⊕ (Int ⊕ Option Nat)
/-- a field: a reference (its cell's place), or a number of a type code: 0 int, 1 long, 2 boolean -/
abbrev zFT : Type := Option Nat ⊕ Nat
/-- a cell: an array (type code, length), or an object (class, fields); codes 10, 14: int, byte arrays that nobody writes -/
abbrev zSh : Type := (Nat × Nat) ⊕ (Nat × List zFT)
abbrev zX : Type := Nat × Nat × Int × List Nat
/-- an instruction: its place, itself, the next place, what it is resolved to -/
abbrev zE : Type := Nat × Instr × Nat × zX
abbrev zM : Type := Nat → Nat → Int
/-- the cells, what they hold, how many cells and slots were made -/
abbrev zW : Type := List zSh × zM × Nat × Nat
/-- a frame: place, locals, stack -/
abbrev zC : Type := Nat × List zV × List zV
abbrev zI (x : Int) : zV := .inl x
abbrev zL (x : Int) : zV := .inr (.inl x)
abbrev zR (r : Nat) : zV := .inr (.inr (some r))
abbrev zN : zV := .inr (.inr none)
abbrev zO : Type := Option ((zC × zW) ⊕ (Option zV ⊕ (Nat × List zV × zC)))
def w32 (x : Int) : Int := (x + 2147483648) % 4294967296 - 2147483648
def w64 (x : Int) : Int := (x + 9223372036854775808) % 18446744073709551616 - 9223372036854775808
def zband (a b : Int) : Int := (Int32.ofInt a &&& Int32.ofInt b).toInt
def zbor (a b : Int) : Int := (Int32.ofInt a ||| Int32.ofInt b).toInt
def zbxor (a b : Int) : Int := (Int32.ofInt a ^^^ Int32.ofInt b).toInt
def zbshl (a b : Int) : Int := (Int32.ofInt a <<< (Int32.ofInt b &&& 31)).toInt
def zbshr (a b : Int) : Int := (Int32.ofInt a >>> (Int32.ofInt b &&& 31)).toInt
def zbushr (a b : Int) : Int := ((Int32.ofInt a).toUInt32 >>> ((Int32.ofInt b).toUInt32 &&& 31)).toInt32.toInt
def zlband (a b : Int) : Int := (Int64.ofInt a &&& Int64.ofInt b).toInt
def zlshl (a b : Int) : Int := (Int64.ofInt a <<< ((Int32.ofInt b).toInt64 &&& 63)).toInt
def zlshr (a b : Int) : Int := (Int64.ofInt a >>> ((Int32.ofInt b).toInt64 &&& 63)).toInt
def zput (M : zM) (r k : Nat) (x : Int) : zM := fun i j => if i = r then (if j = k then x else M i j) else M i j
def zzero (M : zM) (r : Nat) : zM := fun i j => if i = r then 0 else M i j
def zcopy (M : zM) (a b s d n : Nat) : zM := fun i j => if i = b then (if d ≤ j ∧ j < d + n then M a (s + (j - d)) else M i j) else M i j
def zcat : zV → Nat
  | .inr (.inl _) => 2
  | _ => 1
def zsum (st : List zV) : Nat := (st.map zcat).sum
def zclr (L : List zV) (i : Nat) : List zV :=
  match i with
  | 0 => L
  | j + 1 => match L[j]? with
    | some (.inr (.inl _)) => L.set j zN
    | _ => L
def zsto (L : List zV) (i : Nat) (v : zV) : List zV := (zclr L i).set i v
def zstl (L : List zV) (i : Nat) (v : zV) : List zV := ((zclr L i).set i v).set (i + 1) zN
def zgo (pc : Nat) (L st : List zV) (w : zW) : zO := some (.inl ((pc, L, st), w))
def zld (L : List zV) (i n : Nat) (k : Nat) (st : List zV) (w : zW) : zO :=
  match L[i]?, k with
  | some (.inl x), 0 => zgo n L (.inl x :: st) w
  | some (.inr (.inl x)), 1 => zgo n L (.inr (.inl x) :: st) w
  | some (.inr (.inr (some r))), 2 => zgo n L (.inr (.inr (some r)) :: st) w
  | _, _ => none
def zss (L : List zV) (i n : Nat) (k : Nat) (st : List zV) (w : zW) : zO :=
  match st, k with
  | .inl x :: st', 0 => if i < L.length then zgo n (zsto L i (.inl x)) st' w else none
  | .inr (.inl x) :: st', 1 => if i + 1 < L.length then zgo n (zstl L i (.inr (.inl x))) st' w else none
  | .inr (.inr (some r)) :: st', 2 => if i < L.length then zgo n (zsto L i (.inr (.inr (some r)))) st' w else none
  | _, _ => none
/-- two ints to an int -/
def zi2 (g : Int → Int → Int) (n : Nat) (L st : List zV) (w : zW) : zO :=
  match st with
  | .inl y :: .inl x :: st' => zgo n L (.inl (g x y) :: st') w
  | _ => none
def zl2 (g : Int → Int → Int) (n : Nat) (L st : List zV) (w : zW) : zO :=
  match st with
  | .inr (.inl y) :: .inr (.inl x) :: st' => zgo n L (.inr (.inl (g x y)) :: st') w
  | _ => none
/-- a long by an int -/
def zli (g : Int → Int → Int) (n : Nat) (L st : List zV) (w : zW) : zO :=
  match st with
  | .inl y :: .inr (.inl x) :: st' => zgo n L (.inr (.inl (g x y)) :: st') w
  | _ => none
/-- the same where the second is not 0 -/
def zi2d (g : Int → Int → Int) (n : Nat) (L st : List zV) (w : zW) : zO :=
  match st with
  | .inl y :: .inl x :: st' => if y = 0 then none else zgo n L (.inl (g x y) :: st') w
  | _ => none
def zl2d (g : Int → Int → Int) (n : Nat) (L st : List zV) (w : zW) : zO :=
  match st with
  | .inr (.inl y) :: .inr (.inl x) :: st' => if y = 0 then none else zgo n L (.inr (.inl (g x y)) :: st') w
  | _ => none
def zjmp (b : Bool) (n t : Nat) (L st : List zV) (w : zW) : zO := if b then zgo t L st w else zgo n L st w
def zcmp (c : Jvm.ClassFile.Cond) (x y : Int) : Bool :=
  match c with
  | .eq => decide (x = y)
  | .ne => decide (¬ x = y)
  | .lt => decide (x < y)
  | .ge => decide (y ≤ x)
  | .gt => decide (y < x)
  | .le => decide (x ≤ y)
def zget (cl k n : Nat) (L st : List zV) (w : zW) : zO :=
  match st with
  | .inr (.inr (some r)) :: st' => match w.1[r]? with
    | some (.inr (c, fs)) => if c = cl then (match fs[k]? with
        | some (.inl (some q)) => zgo n L (.inr (.inr (some q)) :: st') w
        | some (.inr t) => if t = 1 then zgo n L (.inr (.inl (w.2.1 r k)) :: st') w else zgo n L (.inl (w.2.1 r k) :: st') w
        | _ => none) else none
    | _ => none
  | _ => none
def zpf (cl k n : Nat) (L st : List zV) (w : zW) : zO :=
  match st with
  | v :: .inr (.inr (some r)) :: st' => if r < 8 then none else match w.1[r]? with
    | some (.inr (c, fs)) => if c = cl then (match fs[k]?, v with
        | some (.inl none), .inr (.inr (some q)) => zgo n L st' (w.1.set r (.inr (c, fs.set k (.inl (some q)))), w.2)
        | some (.inr 0), .inl x => zgo n L st' (w.1, zput w.2.1 r k x, w.2.2)
        | some (.inr 1), .inr (.inl x) => zgo n L st' (w.1, zput w.2.1 r k x, w.2.2)
        | some (.inr 2), .inl x => if x = 0 ∨ x = 1 then zgo n L st' (w.1, zput w.2.1 r k x, w.2.2) else none
        | _, _ => none) else none
    | _ => none
  | _ => none
def zal (n : Nat) (L st : List zV) (w : zW) : zO :=
  match st with
  | .inr (.inr (some r)) :: st' => match w.1[r]? with
    | some (.inl (_, k)) => zgo n L (.inl k :: st') w
    | _ => none
  | _ => none
/-- an element is read: of type t, of an array that nobody writes of type u -/
def zar (t u n : Nat) (L st : List zV) (w : zW) : zO :=
  match st with
  | .inl i :: .inr (.inr (some r)) :: st' => match w.1[r]? with
    | some (.inl (c, k)) => if c = t ∨ c = u then (if 0 ≤ i ∧ i < k then zgo n L ((if t = 1 then .inr (.inl (w.2.1 r i.toNat)) else .inl (w.2.1 r i.toNat)) :: st') w else none) else none
    | _ => none
  | _ => none
def zas (t n : Nat) (L st : List zV) (w : zW) : zO :=
  match st with
  | v :: .inl i :: .inr (.inr (some r)) :: st' => match w.1[r]? with
    | some (.inl (c, k)) => if c = t then (if 0 ≤ i ∧ i < k then (match v, t with
        | .inl x, 0 => zgo n L st' (w.1, zput w.2.1 r i.toNat x, w.2.2)
        | .inr (.inl x), 1 => zgo n L st' (w.1, zput w.2.1 r i.toNat x, w.2.2)
        | .inl x, 2 => if x = 0 ∨ x = 1 then zgo n L st' (w.1, zput w.2.1 r i.toNat x, w.2.2) else none
        | _, _ => none) else none) else none
    | _ => none
  | _ => none
def zti (a : ArrayType) : Option Nat :=
  match a with
  | .int => some 0
  | .long => some 1
  | .boolean => some 2
  | _ => none
def zna (B : Nat × Nat) (t : Option Nat) (n : Nat) (L st : List zV) (w : zW) : zO :=
  match st, t with
  | .inl k :: st', some t => if (0 ≤ k ∧ k < 100000) ∧ w.2.2.1 + 1 ≤ B.1 ∧ w.2.2.2 + k.toNat ≤ B.2 then zgo n L (.inr (.inr (some w.1.length)) :: st') (w.1 ++ [.inl (t, k.toNat)], zzero w.2.1 w.1.length, w.2.2.1 + 1, w.2.2.2 + k.toNat) else none
  | _, _ => none
def znew (B : Nat × Nat) (c : Nat) (ts : List Nat) (n : Nat) (L st : List zV) (w : zW) : zO :=
  if w.2.2.1 + 1 ≤ B.1 ∧ w.2.2.2 + ts.length ≤ B.2 then zgo n L (.inr (.inr (some w.1.length)) :: st) (w.1 ++ [.inr (c, ts.map (fun t => if t = 9 then .inl none else .inr t))], zzero w.2.1 w.1.length, w.2.2.1 + 1, w.2.2.2 + ts.length) else none
def zisA (z : Nat) (v : Option zV) (S : List zSh) : Bool :=
  if z = 0 then true else
  match v with
  | some (.inr (.inr (some r))) => if z = 1000 then true else (match S[r]? with
    | some (.inr (c, _)) => c + 1 == z
    | _ => false)
  | _ => false
/-- what isn't called but done: 9000 arraycopy, 9001 the empty constructor of Object, 9010 and on: max, min, abs of ints, max, min of longs -/
def zint (a n : Nat) (L st : List zV) (w : zW) : zO :=
  match a with
  | 9001 => (match st with
    | .inr (.inr (some _)) :: st' => if zsum st' ≤ 8 then zgo n L st' w else none
    | _ => none)
  | 9000 => (match st with
    | .inl k :: .inl e :: .inr (.inr (some q)) :: .inl s :: .inr (.inr (some r)) :: st' => (match w.1[r]?, w.1[q]? with
      | some (.inl (0, nr)), some (.inl (0, nq)) => if zsum st' ≤ 8 ∧ 0 ≤ k ∧ 0 ≤ e ∧ 0 ≤ s ∧ s + k ≤ nr ∧ e + k ≤ nq then zgo n L st' (w.1, zcopy w.2.1 r q s.toNat e.toNat k.toNat, w.2.2) else none
      | _, _ => none)
    | _ => none)
  | 9010 => (match st with
    | .inl y :: .inl x :: st' => if zsum st' ≤ 8 then zgo n L (.inl (if x < y then y else x) :: st') w else none
    | _ => none)
  | 9011 => (match st with
    | .inl y :: .inl x :: st' => if zsum st' ≤ 8 then zgo n L (.inl (if y < x then y else x) :: st') w else none
    | _ => none)
  | 9012 => (match st with
    | .inl x :: st' => if zsum st' ≤ 8 then zgo n L (.inl (if 0 ≤ x then x else w32 (0 - x)) :: st') w else none
    | _ => none)
  | 9013 => (match st with
    | .inr (.inl y) :: .inr (.inl x) :: st' => if zsum st' ≤ 8 then zgo n L (.inr (.inl (if y < x then x else y)) :: st') w else none
    | _ => none)
  | 9014 => (match st with
    | .inr (.inl y) :: .inr (.inl x) :: st' => if zsum st' ≤ 8 then zgo n L (.inr (.inl (if y < x then y else x)) :: st') w else none
    | _ => none)
  | _ => none
/-- a call: of a method, with so many values; d: may it call -/
def zinv (d : Bool) (z a b n : Nat) (L st : List zV) (w : zW) : zO :=
  if d = false then none else
  match Nat.ble 9000 a with
  | true => zint a n L st w
  | false => if b ≤ st.length ∧ zsum (st.drop b) ≤ 8 ∧ zisA z st[b - 1]? w.1 = true then some (.inr (.inr (a, (st.take b).reverse, (n, L, st.drop b)))) else none
def zts (lo : Int) (x : Int) (dflt : Nat) (ts : List Nat) : Nat := if x < lo then dflt else ts.getD (x - lo).toNat dflt
def zst (d : Bool) (B : Nat × Nat) (e : zE) (L st : List zV) (w : zW) : zO :=
  let n := e.2.2.1
  let x := e.2.2.2
  match e.2.1 with
  | .iconst k => zgo n L (.inl k :: st) w
  | .bipush k => zgo n L (.inl k :: st) w
  | .sipush k => zgo n L (.inl k :: st) w
  | .lconst k => zgo n L (.inr (.inl (k.val : Nat)) :: st) w
  | .ldc _ => if x.1 = 0 then zgo n L (.inl x.2.2.1 :: st) w else zgo n L (.inr (.inr (some x.2.1)) :: st) w
  | .ldc_w _ => zgo n L (.inl x.2.2.1 :: st) w
  | .ldc2_w _ => zgo n L (.inr (.inl x.2.2.1) :: st) w
  | .iload_n k => zld L k.val n 0 st w
  | .iload i => zld L i n 0 st w
  | .lload_n k => zld L k.val n 1 st w
  | .lload i => zld L i n 1 st w
  | .aload_n k => zld L k.val n 2 st w
  | .aload i => zld L i n 2 st w
  | .istore_n k => zss L k.val n 0 st w
  | .istore i => zss L i n 0 st w
  | .lstore_n k => zss L k.val n 1 st w
  | .lstore i => zss L i n 1 st w
  | .astore_n k => zss L k.val n 2 st w
  | .astore i => zss L i n 2 st w
  | .iinc i k => (match L[i]? with
    | some (.inl y) => zgo n (zsto L i (.inl (w32 (y + k)))) st w
    | _ => none)
  | .iadd => zi2 (fun a b => w32 (a + b)) n L st w
  | .isub => zi2 (fun a b => w32 (a - b)) n L st w
  | .imul => zi2 (fun a b => w32 (a * b)) n L st w
  | .iand => zi2 zband n L st w
  | .ior => zi2 zbor n L st w
  | .ixor => zi2 zbxor n L st w
  | .ishl => zi2 zbshl n L st w
  | .ishr => zi2 zbshr n L st w
  | .iushr => zi2 zbushr n L st w
  | .idiv => zi2d (fun a b => w32 (a.tdiv b)) n L st w
  | .irem => zi2d (fun a b => a.tmod b) n L st w
  | .ineg => (match st with
    | .inl y :: st' => zgo n L (.inl (w32 (-y)) :: st') w
    | _ => none)
  | .ladd => zl2 (fun a b => w64 (a + b)) n L st w
  | .lsub => zl2 (fun a b => w64 (a - b)) n L st w
  | .lmul => zl2 (fun a b => w64 (a * b)) n L st w
  | .land => zl2 zlband n L st w
  | .ldiv => zl2d (fun a b => w64 (a.tdiv b)) n L st w
  | .lrem => zl2d (fun a b => a.tmod b) n L st w
  | .lneg => (match st with
    | .inr (.inl y) :: st' => zgo n L (.inr (.inl (w64 (-y))) :: st') w
    | _ => none)
  | .lshl => zli zlshl n L st w
  | .lshr => zli zlshr n L st w
  | .i2l => (match st with
    | .inl y :: st' => zgo n L (.inr (.inl y) :: st') w
    | _ => none)
  | .l2i => (match st with
    | .inr (.inl y) :: st' => zgo n L (.inl (w32 y) :: st') w
    | _ => none)
  | .i2c => (match st with
    | .inl y :: st' => zgo n L (.inl (y % 65536) :: st') w
    | _ => none)
  | .i2b => (match st with
    | .inl y :: st' => zgo n L (.inl ((y + 128) % 256 - 128) :: st') w
    | _ => none)
  | .lcmp => (match st with
    | .inr (.inl b) :: .inr (.inl a) :: st' => zgo n L (.inl (if b < a then 1 else if a = b then 0 else -1) :: st') w
    | _ => none)
  | .ifCond c _ => (match st with
    | .inl y :: st' => zjmp (zcmp c y 0) n x.1 L st' w
    | _ => none)
  | .if_icmp c _ => (match st with
    | .inl b :: .inl a :: st' => zjmp (zcmp c a b) n x.1 L st' w
    | _ => none)
  | .goto _ => zgo x.1 L st w
  | .tableswitch _ lo _ _ => (match st with
    | .inl y :: st' => zgo (zts lo y x.1 x.2.2.2) L st' w
    | _ => none)
  | .dup => (match st with
    | v :: st' => if zcat v = 1 then zgo n L (v :: v :: st') w else none
    | _ => none)
  | .dup2 => (match st with
    | v :: u :: st' => if zcat v = 1 ∧ zcat u = 1 then zgo n L (v :: u :: v :: u :: st') w else none
    | _ => none)
  | .pop => (match st with
    | v :: st' => if zcat v = 1 then zgo n L st' w else none
    | _ => none)
  | .pop2 => (match st with
    | .inr (.inl _) :: st' => zgo n L st' w
    | _ => none)
  | .getfield _ => zget x.1 x.2.1 n L st w
  | .putfield _ => zpf x.1 x.2.1 n L st w
  | .getstatic _ => if x.1 = 0 then zgo n L (.inl x.2.2.1 :: st) w else if x.1 = 1 then zgo n L (.inr (.inr (some x.2.1)) :: st) w else zgo n L (.inr (.inr none) :: st) w
  | .arraylength => zal n L st w
  | .iaload => zar 0 10 n L st w
  | .laload => zar 1 1 n L st w
  | .baload => zar 2 14 n L st w
  | .iastore => zas 0 n L st w
  | .lastore => zas 1 n L st w
  | .bastore => zas 2 n L st w
  | .newarray a => zna B (zti a) n L st w
  | .new _ => znew B x.1 x.2.2.2 n L st w
  | .invokevirtual _ => zinv d (x.2.2.2.headD 0) x.1 x.2.1 n L st w
  | .invokespecial _ => zinv d 1000 x.1 x.2.1 n L st w
  | .invokestatic _ => zinv d 0 x.1 x.2.1 n L st w
  | .ireturn => (match st, x.1 with
    | [.inl y], 0 => some (.inr (.inl (some (.inl y))))
    | [.inl y], 2 => if y = 0 ∨ y = 1 then some (.inr (.inl (some (.inl y)))) else none
    | [.inl y], 5 => if 0 ≤ y ∧ y < 65536 then some (.inr (.inl (some (.inl y)))) else none
    | [.inl y], 6 => if -128 ≤ y ∧ y < 128 then some (.inr (.inl (some (.inl y)))) else none
    | _, _ => none)
  | .lreturn => (match st with
    | [.inr (.inl y)] => some (.inr (.inl (some (.inr (.inl y)))))
    | _ => none)
  | .areturn => (match st with
    | [.inr (.inr (some r))] => some (.inr (.inl (some (.inr (.inr (some r))))))
    | _ => none)
  | .return_ => (match st with
    | [] => some (.inr (.inl none))
    | _ => none)
  | _ => none
/-- a method: its code, locals, cells and slots that it may make -/
abbrev zMd : Type := List zE × Nat × Nat × Nat
def zat (l : List zE) (pc : Nat) : Option zE :=
  match l with
  | [] => none
  | e :: l => match Nat.beq e.1 pc with
    | true => some e
    | false => zat l pc
def zini (as : List zV) (n : Nat) : List zV := (as.flatMap (fun v => if zcat v = 2 then [v, zN] else [v])) ++ List.replicate (n - zsum as) zN
/-- f: how many instructions at most on a row of calls; d: how many calls may stand open -/
def zrun (P : Nat → zMd) : Nat → Nat → Nat → zC → zW → Option (Option zV × zW)
  | 0, _, _, _, _ => none
  | f + 1, d, μ, c, w =>
    match zat (P μ).1 c.1 with
    | none => none
    | some e =>
      match zst (d != 0) (P μ).2.2 e c.2.1 c.2.2 w with
      | none => none
      | some (.inl (c', w')) => zrun P f d μ c' w'
      | some (.inr (.inl v)) => some (v, w)
      | some (.inr (.inr (y, as, c'))) =>
        if zsum as ≤ (P y).2.1 ∧ w.2.2.1 + (P y).2.2.1 ≤ (P μ).2.2.1 ∧ w.2.2.2 + (P y).2.2.2 ≤ (P μ).2.2.2 then
          match zrun P f (d - 1) y (0, zini as (P y).2.1, []) (w.1, w.2.1, 0, 0) with
          | none => none
          | some (v, w') => zrun P f d μ (c'.1, c'.2.1, v.toList ++ c'.2.2) (w'.1, w'.2.1, w.2.2.1 + (P y).2.2.1, w.2.2.2 + (P y).2.2.2)
        else none
