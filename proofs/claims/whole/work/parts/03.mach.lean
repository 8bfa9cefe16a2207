/-! A mini machine over a small pure memory: shapes of cells, ints, longs. Values: xi an int, xl a long, xr a reference (below 1000: a cell; from 1000 on: the old heap's constants). -/
abbrev xPV : Type := Int ⊕ (Int64 ⊕ Nat)
abbrev xi (z : Int) : xPV := Sum.inl z
abbrev xl (x : Int64) : xPV := Sum.inr (Sum.inl x)
abbrev xr (k : Nat) : xPV := Sum.inr (Sum.inr k)
abbrev xShp : Type := Nat × Nat × List (Option Nat)
abbrev xMem : Type := List xShp × (Nat → Nat → Int) × (Nat → Nat → Int64)
abbrev xLc : Type := List (Nat × xPV)
abbrev xEnt : Type := Instr × Nat × Nat × Nat × Int
def i3 (z : Int) : Int32 := Int32.ofInt z
def wr (z : Int) : Int := (z + 2147483648) % 4294967296 - 2147483648
def z_and (a b : Int) : Int := (i3 a &&& i3 b).toInt
def z_or (a b : Int) : Int := (i3 a ||| i3 b).toInt
def z_xor (a b : Int) : Int := (i3 a ^^^ i3 b).toInt
def z_shl (a b : Int) : Int := (i3 a <<< (i3 b &&& 31)).toInt
def z_shr (a b : Int) : Int := (i3 a >>> (i3 b &&& 31)).toInt
def z_ushr (a b : Int) : Int := ((i3 a).toUInt32 >>> ((i3 b).toUInt32 &&& Int32.toUInt32 31)).toInt32.toInt
def z_i2b (a : Int) : Int := (i3 a).toInt8.toInt32.toInt
def z_i2s (a : Int) : Int := (i3 a).toInt16.toInt32.toInt
def z_i2c (a : Int) : Int := ((i3 a).toUInt32 % 65536).toInt32.toInt
def z_l2i (x : Int64) : Int := x.toInt32.toInt
def z_i2l (a : Int) : Int64 := (i3 a).toInt64
def x_cat : xPV → Nat
  | .inr (.inl _) => 2
  | _ => 1
def x_up (I : Nat → Nat → Int) (k j : Nat) (v : Int) : Nat → Nat → Int := fun a b => if a = k then (if b = j then v else I a b) else I a b
def x_upL (I : Nat → Nat → Int64) (k j : Nat) (v : Int64) : Nat → Nat → Int64 := fun a b => if a = k then (if b = j then v else I a b) else I a b
def x_cp (I : Nat → Nat → Int) (a sp b dp n : Nat) : Nat → Nat → Int := fun k j => if k = b then (if dp ≤ j ∧ j < dp + n then I a (sp + (j - dp)) else I k j) else I k j
def x_cpL (I : Nat → Nat → Int64) (a sp b dp n : Nat) : Nat → Nat → Int64 := fun k j => if k = b then (if dp ≤ j ∧ j < dp + n then I a (sp + (j - dp)) else I k j) else I k j
def x_get : xLc → Nat → Option xPV
  | [], _ => none
  | q :: l, i => if q.1 = i then some q.2 else x_get l i
def x_st1 (ls : xLc) (i : Nat) (v : xPV) : xLc := (i, v) :: ls.filter (fun q => !(q.1 == i) && !(q.1 + 1 == i && x_cat q.2 == 2))
def x_st2 (ls : xLc) (i : Nat) (v : xPV) : xLc := (i, v) :: ls.filter (fun q => !(q.1 == i) && (!(q.1 == i + 1) && !(q.1 + 1 == i && x_cat q.2 == 2)))
def x_args : Nat → List xPV → xLc
  | _, [] => []
  | i, v :: vs => (i, v) :: x_args (if x_cat v = 2 then i + 2 else i + 1) vs
def x_words : List xPV → Nat
  | [] => 0
  | v :: vs => x_cat v + x_words vs
/-- the old heap's arrays: the script, the static arrays, the strings' bytes -/
def x_cArr (sc : List Int) : Nat → Option (Nat × List Int)
  | 1000 => some (20, sc)
  | 1001 => some (20, [-1, 0, 0, 0, 1, 2, 3])
  | 1002 => some (20, [1, 1, 2, 6, 24, 120, 720])
  | 1003 => some (20, [10, 11, 12, 10, 20, 12, 30, 11, 12, 10, 11, 40, 50, 51, 12, 30, 11, 60, 71, 70, 40])
  | 1020 => some (21, [108, 105, 107, 101, 32])
  | 1021 => some (21, [108, 111, 97, 116, 104, 101, 32])
  | 1022 => some (21, [113, 117, 111, 116, 97, 32])
  | 1023 => some (21, [112, 107, 118, 120, 103, 115])
  | 1024 => some (21, [60, 61, 62])
  | _ => none
def x_isStr (k : Nat) : Bool := 1010 ≤ k && k < 1015
def x_cFld (k b : Nat) : Option xPV := if x_isStr k then (match b with
  | 0 => some (xr (k + 10))
  | 1 => some (xi 0)
  | _ => none) else none
def x_ald (sc : List Int) (tag : Nat) (m : xMem) (k : Nat) (i : Int) : Option Int :=
  if k < 1000 then (match m.1[k]? with
    | some (t, n, _) => if t = tag ∧ 0 ≤ wr i ∧ wr i < n then some (m.2.1 k (wr i).toNat) else none
    | none => none)
  else (match x_cArr sc k with
    | some (t, l) => if t = tag ∧ 0 ≤ wr i ∧ wr i < l.length then l[(wr i).toNat]? else none
    | none => none)
def x_defR : Nat → List (Option Nat)
  | 0 => [some 1031, none, none, none, none]
  | 1 => [some 1031, none, none, none, some 1031, some 1031, some 1031, some 1031]
  | 2 => [none, none, none, none, some 1031, some 1031]
  | 3 => [some 1031, none, none]
  | 4 => [none, some 1031, none]
  | 5 => [none, none, some 1031]
  | 6 => [none, none, some 1031, some 1031, some 1031, none]
  | 7 => [some 1031, none, some 1031, some 1031, none, none, none, none, some 1031, some 1031, some 1031]
  | 8 => [some 1031, some 1031, some 1031, none, some 1031, some 1031, some 1031, none, some 1031, some 1031, some 1031]
  | 9 => [none, none, none, none, none, some 1031, some 1031, some 1031, some 1031, some 1031, some 1031, some 1031, none, none, none, none, none, some 1031, some 1031, some 1031, some 1031, some 1031, some 1031, some 1031, some 1031, none, none, none, some 1031, some 1031, some 1031, some 1031, none, none, none, none, some 1031, some 1031, none, some 1031, some 1031, some 1031, some 1031, none, none, some 1031, some 1031, some 1031, some 1031, some 1031, none, none, none, none, none, none, none, none, none, none, some 1031, some 1031, some 1031, some 1031, some 1031, some 1031, some 1031, some 1031, some 1031, some 1031, some 1031, some 1031, some 1031, some 1031, some 1031, some 1031, none, some 1031, some 1031, some 1031, some 1031, some 1031]
  | _ => []
def x_cnd : Jvm.ClassFile.Cond → Int → Int → Bool
  | .eq, a, b => decide (a = b)
  | .ne, a, b => decide (¬ a = b)
  | .lt, a, b => decide (a < b)
  | .ge, a, b => decide (b ≤ a)
  | .gt, a, b => decide (b < a)
  | .le, a, b => decide (a ≤ b)
def x_nw (m : xMem) (k : xShp) : xMem := (m.1 ++ [k], m.2)
def x_multi (n w : Nat) (m : xMem) : xMem := (m.1 ++ (40, n, (List.range n).map (fun i => some (m.1.length + 1 + i))) :: List.replicate n (20, w, []), m.2)
/-- Math.max, min, abs -/
def x_math (a nx : Nat) (ls : xLc) (st : List xPV) (m : xMem) : Option (Nat × xLc × List xPV × xMem) := match st with
  | .inl y :: r => if (r.map x_cat).sum ≤ 8 then
      (if a = 904 then some (nx, ls, xi (if 0 ≤ wr y then y else 0 - y) :: r, m)
      else match r with
        | .inl x :: r' => if a = 902 then some (nx, ls, xi (if wr x < wr y then y else x) :: r', m) else some (nx, ls, xi (if wr y < wr x then y else x) :: r', m)
        | _ => none)
    else none
  | _ => none
/-- one instruction that neither calls nor returns -/
def x_sm (sc : List Int) (nL : Nat) (e : xEnt) (pc : Nat) (ls : xLc) (st : List xPV) (m : xMem) : Option (Nat × xLc × List xPV × xMem) :=
  match e with
  | (ins, len, a, b, z) => match ins with
    | .iconst _ | .bipush _ | .sipush _ => some (pc + len, ls, xi z :: st, m)
    | .ldc _ => some (pc + len, ls, (if a = 0 then xi z else xr a) :: st, m)
    | .ldc_w _ => some (pc + len, ls, xi z :: st, m)
    | .ldc2_w _ | .lconst _ => some (pc + len, ls, xl (Int64.ofInt z) :: st, m)
    | .iload_n _ | .iload _ => match x_get ls a with
      | some (.inl v) => some (pc + len, ls, xi v :: st, m)
      | _ => none
    | .lload_n _ => match x_get ls a with
      | some (.inr (.inl v)) => some (pc + len, ls, xl v :: st, m)
      | _ => none
    | .aload_n _ | .aload _ => match x_get ls a with
      | some (.inr (.inr v)) => some (pc + len, ls, xr v :: st, m)
      | _ => none
    | .istore_n _ | .istore _ => match st with
      | .inl v :: r => if a < nL then some (pc + len, x_st1 ls a (xi v), r, m) else none
      | _ => none
    | .astore_n _ | .astore _ => match st with
      | .inr (.inr v) :: r => if a < nL then some (pc + len, x_st1 ls a (xr v), r, m) else none
      | _ => none
    | .iinc _ _ => match x_get ls a with
      | some (.inl v) => if a < nL then some (pc + len, x_st1 ls a (xi (v + z)), st, m) else none
      | _ => none
    | .iadd => match st with
      | .inl y :: .inl x :: r => some (pc + len, ls, xi (x + y) :: r, m)
      | _ => none
    | .isub => match st with
      | .inl y :: .inl x :: r => some (pc + len, ls, xi (x - y) :: r, m)
      | _ => none
    | .imul => match st with
      | .inl y :: .inl x :: r => some (pc + len, ls, xi (x * y) :: r, m)
      | _ => none
    | .idiv => match st with
      | .inl y :: .inl x :: r => if wr y = 0 then none else some (pc + len, ls, xi ((wr x).tdiv (wr y)) :: r, m)
      | _ => none
    | .irem => match st with
      | .inl y :: .inl x :: r => if wr y = 0 then none else some (pc + len, ls, xi ((wr x).tmod (wr y)) :: r, m)
      | _ => none
    | .ineg => match st with
      | .inl x :: r => some (pc + len, ls, xi (-x) :: r, m)
      | _ => none
    | .iand => match st with
      | .inl y :: .inl x :: r => some (pc + len, ls, xi (z_and x y) :: r, m)
      | _ => none
    | .ior => match st with
      | .inl y :: .inl x :: r => some (pc + len, ls, xi (z_or x y) :: r, m)
      | _ => none
    | .ixor => match st with
      | .inl y :: .inl x :: r => some (pc + len, ls, xi (z_xor x y) :: r, m)
      | _ => none
    | .ishl => match st with
      | .inl y :: .inl x :: r => some (pc + len, ls, xi (z_shl x y) :: r, m)
      | _ => none
    | .ishr => match st with
      | .inl y :: .inl x :: r => some (pc + len, ls, xi (z_shr x y) :: r, m)
      | _ => none
    | .iushr => match st with
      | .inl y :: .inl x :: r => some (pc + len, ls, xi (z_ushr x y) :: r, m)
      | _ => none
    | .i2b => match st with
      | .inl x :: r => some (pc + len, ls, xi (z_i2b x) :: r, m)
      | _ => none
    | .i2s => match st with
      | .inl x :: r => some (pc + len, ls, xi (z_i2s x) :: r, m)
      | _ => none
    | .i2c => match st with
      | .inl x :: r => some (pc + len, ls, xi (z_i2c x) :: r, m)
      | _ => none
    | .i2l => match st with
      | .inl x :: r => some (pc + len, ls, xl (z_i2l x) :: r, m)
      | _ => none
    | .l2i => match st with
      | .inr (.inl x) :: r => some (pc + len, ls, xi (z_l2i x) :: r, m)
      | _ => none
    | .lshl => match st with
      | .inl y :: .inr (.inl x) :: r => some (pc + len, ls, xl (x <<< ((i3 y).toInt64 &&& 63)) :: r, m)
      | _ => none
    | .land => match st with
      | .inr (.inl y) :: .inr (.inl x) :: r => some (pc + len, ls, xl (x &&& y) :: r, m)
      | _ => none
    | .lor => match st with
      | .inr (.inl y) :: .inr (.inl x) :: r => some (pc + len, ls, xl (x ||| y) :: r, m)
      | _ => none
    | .lcmp => match st with
      | .inr (.inl y) :: .inr (.inl x) :: r => some (pc + len, ls, xi (lg_cmp x y).toInt :: r, m)
      | _ => none
    | .dup => match st with
      | v :: r => if x_cat v = 1 then some (pc + len, ls, v :: v :: r, m) else none
      | _ => none
    | .dup2 => match st with
      | v :: w :: r => if x_cat v = 1 ∧ x_cat w = 1 then some (pc + len, ls, v :: w :: v :: w :: r, m) else none
      | _ => none
    | .pop => match st with
      | .inl _ :: r => some (pc + len, ls, r, m)
      | _ => none
    | .goto _ => some (a, ls, st, m)
    | .ifCond c _ => match st with
      | .inl x :: r => some (if x_cnd c (wr x) 0 = true then a else pc + len, ls, r, m)
      | _ => none
    | .if_icmp c _ => match st with
      | .inl y :: .inl x :: r => some (if x_cnd c (wr x) (wr y) = true then a else pc + len, ls, r, m)
      | _ => none
    | .tableswitch d lo hi offs => match st with
      | .inl x :: r => if wr x < lo ∨ hi < wr x then some (((pc : Int) + d).toNat, ls, r, m) else (match offs[(wr x - lo).toNat]? with
        | some o => some (((pc : Int) + o).toNat, ls, r, m)
        | none => none)
      | _ => none
    | .lookupswitch d ps => match st with
      | .inl x :: r => some (((pc : Int) + Op.lookupswitch.offset ps.toList d (wr x)).toNat, ls, r, m)
      | _ => none
    | .getstatic _ => some (pc + len, ls, (if a = 0 then xi z else xr a) :: st, m)
    | .getfield _ => match st with
      | .inr (.inr k) :: r => if k < 1000 then (match m.1[k]? with
          | some (t, n, rs) => if t = a ∧ a < 10 ∧ b < n then (match rs[b]? with
              | some (some q) => some (pc + len, ls, xr q :: r, m)
              | some none => some (pc + len, ls, xi (m.2.1 k b) :: r, m)
              | none => none) else none
          | none => none)
        else if a = 50 then (match x_cFld k b with
          | some v => some (pc + len, ls, v :: r, m)
          | none => none) else none
      | _ => none
    | .putfield _ => match st with
      | .inl v :: .inr (.inr k) :: r => if k < 1000 then (match m.1[k]? with
          | some (t, n, rs) => if t = a ∧ b < n ∧ rs[b]? = some none ∧ (z = 1 → v = 0 ∨ v = 1) ∧ z < 2 then some (pc + len, ls, r, (m.1, x_up m.2.1 k b v, m.2.2)) else none
          | none => none) else none
      | .inr (.inr v) :: .inr (.inr k) :: r => if k < 1000 ∧ v < 1000 ∧ z = 2 then (match m.1[k]? with
          | some (t, n, rs) => if t = a ∧ b < n ∧ b < rs.length ∧ rs[b]? ≠ some none then some (pc + len, ls, r, (m.1.set k (t, n, rs.set b (some v)), m.2)) else none
          | none => none) else none
      | _ => none
    | .new _ => if a < 10 then some (pc + len, ls, xr m.1.length :: st, x_nw m (a, (x_defR a).length, x_defR a)) else none
    | .newarray _ => match st with
      | .inl n :: r => if 0 ≤ n ∧ n < 100000 then some (pc + len, ls, xr m.1.length :: r, x_nw m (a, n.toNat, [])) else none
      | _ => none
    | .anewarray _ => match st with
      | .inl n :: r => if 0 ≤ n ∧ n < 100000 then some (pc + len, ls, xr m.1.length :: r, x_nw m (a, n.toNat, List.replicate n.toNat (some 1031))) else none
      | _ => none
    | .multianewarray _ _ => match st with
      | .inl w :: .inl n :: r => if 0 ≤ n ∧ n < 1000 ∧ 0 ≤ w ∧ w < 1000 then some (pc + len, ls, xr m.1.length :: r, x_multi n.toNat w.toNat m) else none
      | _ => none
    | .iaload => match st with
      | .inl i :: .inr (.inr k) :: r => match x_ald sc 20 m k i with
        | some v => some (pc + len, ls, xi v :: r, m)
        | none => none
      | _ => none
    | .baload => match st with
      | .inl i :: .inr (.inr k) :: r => match x_ald sc a m k i with
        | some v => some (pc + len, ls, xi v :: r, m)
        | none => none
      | _ => none
    | .laload => match st with
      | .inl i :: .inr (.inr k) :: r => if k < 1000 then (match m.1[k]? with
          | some (t, n, _) => if t = 23 ∧ 0 ≤ wr i ∧ wr i < n then some (pc + len, ls, xl (m.2.2 k (wr i).toNat) :: r, m) else none
          | none => none) else none
      | _ => none
    | .aaload => match st with
      | .inl i :: .inr (.inr k) :: r => if k < 1000 then (match m.1[k]? with
          | some (t, n, rs) => if (t = 32 ∨ t = 35 ∨ t = 36 ∨ t = 40) ∧ 0 ≤ wr i ∧ wr i < n then (match rs[(wr i).toNat]? with
              | some (some q) => if q < 1000 then some (pc + len, ls, xr q :: r, m) else none
              | _ => none) else none
          | none => none) else none
      | _ => none
    | .iastore => match st with
      | .inl v :: .inl i :: .inr (.inr k) :: r => if k < 1000 then (match m.1[k]? with
          | some (t, n, _) => if t = 20 ∧ 0 ≤ wr i ∧ wr i < n then some (pc + len, ls, r, (m.1, x_up m.2.1 k (wr i).toNat v, m.2.2)) else none
          | none => none) else none
      | _ => none
    | .bastore => match st with
      | .inl v :: .inl i :: .inr (.inr k) :: r => if k < 1000 then (match m.1[k]? with
          | some (t, n, _) => if t = a ∧ 0 ≤ wr i ∧ wr i < n ∧ ((a = 21 ∧ -128 ≤ v ∧ v < 128) ∨ (a = 22 ∧ (v = 0 ∨ v = 1))) then some (pc + len, ls, r, (m.1, x_up m.2.1 k (wr i).toNat v, m.2.2)) else none
          | none => none) else none
      | _ => none
    | .lastore => match st with
      | .inr (.inl v) :: .inl i :: .inr (.inr k) :: r => if k < 1000 then (match m.1[k]? with
          | some (t, n, _) => if t = 23 ∧ 0 ≤ wr i ∧ wr i < n then some (pc + len, ls, r, (m.1, m.2.1, x_upL m.2.2 k (wr i).toNat v)) else none
          | none => none) else none
      | _ => none
    | .aastore => match st with
      | .inr (.inr v) :: .inl i :: .inr (.inr k) :: r => if k < 1000 ∧ v < 1000 then (match m.1[k]?, m.1[v]? with
          | some (t, n, rs), some (tv, _, _) => if t = 30 + tv ∧ (tv = 2 ∨ tv = 5 ∨ tv = 6) ∧ 0 ≤ wr i ∧ wr i < n ∧ (wr i).toNat < rs.length then some (pc + len, ls, r, (m.1.set k (t, n, rs.set (wr i).toNat (some v)), m.2)) else none
          | _, _ => none) else none
      | _ => none
    | .arraylength => match st with
      | .inr (.inr k) :: r => if k < 1000 then none else (match x_cArr sc k with
          | some (_, l) => some (pc + len, ls, xi l.length :: r, m)
          | none => none)
      | _ => none
    | .invokestatic _ => if a = 902 ∨ a = 903 ∨ a = 904 then x_math a (pc + len) ls st m else match st with
      | .inl n :: .inl dp :: .inr (.inr kb) :: .inl sp :: .inr (.inr ka) :: r => if a = 900 ∧ ka < 1000 ∧ kb < 1000 ∧ 0 ≤ n ∧ 0 ≤ sp ∧ 0 ≤ dp ∧ n < 100000 ∧ sp < 100000 ∧ dp < 100000 ∧ (r.map x_cat).sum ≤ 8 then (match m.1[ka]?, m.1[kb]? with
          | some (ta, na, _), some (tb, nb, _) => if sp + n ≤ na ∧ dp + n ≤ nb then
              (if ta = 20 ∧ tb = 20 then some (pc + len, ls, r, (m.1, x_cp m.2.1 ka sp.toNat kb dp.toNat n.toNat, m.2.2))
              else if ta = 23 ∧ tb = 23 then some (pc + len, ls, r, (m.1, m.2.1, x_cpL m.2.2 ka sp.toNat kb dp.toNat n.toNat))
              else none) else none
          | _, _ => none) else none
      | _ => none
    | .invokespecial _ => match st with
      | .inr (.inr k) :: r => if a = 901 ∧ k < 1000 ∧ (r.map x_cat).sum ≤ 8 then some (pc + len, ls, r, m) else none
      | _ => none
    | _ => none
def x_isInv (ins : Instr) (a : Nat) : Bool := match ins with
  | .invokevirtual _ | .invokespecial _ | .invokestatic _ => decide (a < 900)
  | _ => false
def x_isRet (ins : Instr) : Bool := match ins with
  | .ireturn | .lreturn | .areturn | .return_ => true
  | _ => false
/-- by the kind of a method's answer: 0 none, 1 int, 2 boolean, 3 char, 4 long, 5 reference, 6 byte -/
def x_ret (rk : Nat) (ins : Instr) (st : List xPV) (m : xMem) : Option (Option xPV × xMem) := match ins, st with
  | .ireturn, [.inl v] => if rk = 1 ∨ (rk = 2 ∧ (v = 0 ∨ v = 1)) ∨ (rk = 3 ∧ 0 ≤ v ∧ v < 65536) ∨ (rk = 6 ∧ -128 ≤ v ∧ v < 128) then some (some (xi v), m) else none
  | .lreturn, [.inr (.inl v)] => if rk = 4 then some (some (xl v), m) else none
  | .areturn, [.inr (.inr v)] => if rk = 5 ∧ v < 1000 then some (some (xr v), m) else none
  | .return_, [] => if rk = 0 then some (none, m) else none
  | _, _ => none
/-- a call's receiver: a cell of its class (class 50: a text) -/
def x_recv (ins : Instr) (z : Int) (m : xMem) (as : List xPV) : Bool := match ins with
  | .invokevirtual _ => (match as with
    | .inr (.inr k) :: _ => if k < 1000 then (match m.1[k]? with
        | some (t, _, _) => decide ((t : Int) = z ∧ t < 10)
        | none => false) else (decide (z = 50) && x_isStr k)
    | _ => false)
  | .invokespecial _ => (match as with
    | .inr (.inr k) :: _ => decide (k < 1000)
    | _ => false)
  | _ => true
def x_cnt (ins : Instr) (b : Nat) : Nat := match ins with
  | .invokestatic _ => b
  | _ => b + 1
abbrev xMt : Type := Nat × Nat × List (Nat × xEnt)
def x_lk : List (Nat × xEnt) → Nat → Option xEnt
  | [], _ => none
  | q :: l, pc => if q.1 = pc then some q.2 else x_lk l pc
def x_run (call : Nat → List xPV → xMem → Option (Option xPV × xMem)) (sc : List Int) (M : xMt) : Nat → Nat → xLc → List xPV → xMem → Option (Option xPV × xMem)
  | 0, _, _, _, _ => none
  | n + 1, pc, ls, st, m => match x_lk M.2.2 pc with
    | none => none
    | some e => if x_isRet e.1 = true then x_ret M.1 e.1 st m
      else if x_isInv e.1 e.2.2.1 = true then
        (if x_cnt e.1 e.2.2.2.1 ≤ st.length ∧ ((st.drop (x_cnt e.1 e.2.2.2.1)).map x_cat).sum ≤ 8 ∧ x_recv e.1 e.2.2.2.2 m (st.take (x_cnt e.1 e.2.2.2.1)).reverse = true then
          (match call e.2.2.1 (st.take (x_cnt e.1 e.2.2.2.1)).reverse m with
          | some (r, m') => x_run call sc M n (pc + e.2.1) ls (r.toList ++ st.drop (x_cnt e.1 e.2.2.2.1)) m'
          | none => none) else none)
      else (match x_sm sc M.2.1 e pc ls st m with
        | some (pc', ls', st', m') => x_run call sc M n pc' ls' st' m'
        | none => none)
