/-! Z: a small machine of my own over the decoded instructions; values: int, long (as Int), references by tag and number -/
abbrev zV : Type := Int ⊕ (Int ⊕ Option (Nat × Nat))
abbrev zi (n : Int) : zV := Sum.inl n
abbrev zl (n : Int) : zV := Sum.inr (Sum.inl n)
abbrev zq (r : Option (Nat × Nat)) : zV := Sum.inr (Sum.inr r)
abbrev zMI : Type := Nat → Nat → Nat → Int
abbrev zMR : Type := Nat → Nat → Nat → Option (Nat × Nat)
/-- how many of each tag; cells; slots; the script's length -/
abbrev zA : Type := (Nat → Nat) × Nat × Nat × Nat
abbrev zS : Type := zMI × zMR × zA
abbrev zL : Type := List (Option zV)
def zw (x : Int) : Int := x.bmod 4294967296
def zw6 (x : Int) : Int := x.bmod 18446744073709551616
def zsI (I : zMI) (c i k : Nat) (v : Int) : zMI := fun c' i' k' => if c' = c ∧ i' = i ∧ k' = k then v else I c' i' k'
def zsR (R : zMR) (c i k : Nat) (v : Option (Nat × Nat)) : zMR := fun c' i' k' => if c' = c ∧ i' = i ∧ k' = k then v else R c' i' k'
/-- locals -/
def zkl (a : Option zV) : Option zV := match a with
  | some (.inr (.inl _)) => none
  | x => x
def zst : zL → Nat → Option zV → zL
  | [], _, _ => []
  | _ :: l, 0, v => v :: l
  | a :: l, k + 1, v => (if k = 0 then zkl a else a) :: zst l k v
/-- the arguments in their places -/
def zargs : List zV → zL
  | [] => []
  | .inr (.inl x) :: l => some (.inr (.inl x)) :: none :: zargs l
  | v :: l => some v :: zargs l
def zent (n : Nat) (as : List zV) : zL := zargs as ++ List.replicate (n - (zargs as).length) none
section ZP
variable {α β : Type}
def zldi (L : zL) (k : Nat) (bad : α) (f : Int → α) : α := match L[k]? with
  | some (some (.inl x)) => f x
  | _ => bad
def zldl (L : zL) (k : Nat) (bad : α) (f : Int → α) : α := match L[k]? with
  | some (some (.inr (.inl x))) => f x
  | _ => bad
def zlda (L : zL) (k : Nat) (bad : α) (f : Option (Nat × Nat) → α) : α := match L[k]? with
  | some (some (.inr (.inr x))) => f x
  | _ => bad
/-- operands -/
def zpi (st : List zV) (bad : α) (f : Int → List zV → α) : α := match st with
  | .inl x :: t => f x t
  | _ => bad
def zpl (st : List zV) (bad : α) (f : Int → List zV → α) : α := match st with
  | .inr (.inl x) :: t => f x t
  | _ => bad
def zpa (st : List zV) (bad : α) (f : Option (Nat × Nat) → List zV → α) : α := match st with
  | .inr (.inr x) :: t => f x t
  | _ => bad
/-- an operand of one word -/
def zp1 (st : List zV) (bad : α) (f : zV → List zV → α) : α := match st with
  | .inl x :: t => f (.inl x) t
  | .inr (.inr x) :: t => f (.inr (.inr x)) t
  | _ => bad
def zpn : Nat → List zV → List zV → α → (List zV → List zV → α) → α
  | 0, acc, st, _, f => f acc st
  | n + 1, acc, st, bad, f => match st with
    | v :: t => zpn n (v :: acc) t bad f
    | [] => bad
def zwt : List zV → Nat
  | [] => 0
  | .inr (.inl _) :: t => 2 + zwt t
  | _ :: t => 1 + zwt t
/-- a call's arguments; what stays below them weighs at most eight words -/
def zinv (b : Nat) (st : List zV) (bad : α) (f : List zV → List zV → α) : α := zpn b [] st bad fun as t => if zwt t ≤ 8 then f as t else bad
def zde (r : Option (Nat × Nat)) (c : Nat) (bad : α) (f : Nat → α) : α := match r with
  | some q => if q.1 = c then f q.2 else bad
  | none => bad
def znn (r : Option (Nat × Nat)) (bad : α) (f : Nat → Nat → α) : α := match r with
  | some q => f q.1 q.2
  | none => bad
def zif (c : Prop) (h : Decidable c) (f g : α) : α := if c then f else g
def zix (j : Int) (n : Nat) (bad : α) (f : Nat → α) : α := if 0 ≤ zw j ∧ zw j < (n : Int) then f (zw j).toNat else bad
def zop (o : Option β) (bad : α) (f : β → α) : α := match o with
  | some x => f x
  | none => bad
def zem (st : List zV) (bad f : α) : α := match st with
  | [] => f
  | _ => bad
def zgt (t : Int) (bad : α) (f : Nat → α) : α := if 0 ≤ t then f t.toNat else bad
def zsame (a b : Option (Nat × Nat)) (bad f g : α) : α := match a, b with
  | none, none => f
  | none, some _ => g
  | some _, none => g
  | some p, some q => if p.1 = q.1 then (if p.2 = q.2 then f else g) else bad
/-- what may be stored where: int, boolean, char -/
def zok (ty : Nat) (x : Int) (bad f : α) : α := if ty = 1 then (if x = 0 ∨ x = 1 then f else bad) else if ty = 2 then (if 0 ≤ x ∧ x < 65536 then f else bad) else f
end ZP
/-- operations that look at bits -/
def zand (a b : Int) : Int := (Int32.ofInt a &&& Int32.ofInt b).toInt
def zor (a b : Int) : Int := (Int32.ofInt a ||| Int32.ofInt b).toInt
def zxor (a b : Int) : Int := (Int32.ofInt a ^^^ Int32.ofInt b).toInt
def zshl (a b : Int) : Int := (Int32.ofInt a <<< (Int32.ofInt b &&& 31)).toInt
def zshr (a b : Int) : Int := (Int32.ofInt a >>> (Int32.ofInt b &&& 31)).toInt
def zdiv (a b : Int) : Int := (Int32.ofInt a / Int32.ofInt b).toInt
def zlushr (a b : Int) : Int := ((Int64.ofInt a).toUInt64 >>> ((Int32.ofInt b).toInt64.toUInt64 &&& Int64.toUInt64 63)).toInt64.toInt
def zlshr (a b : Int) : Int := (Int64.ofInt a >>> ((Int32.ofInt b).toInt64 &&& 63)).toInt
def zlshl (a b : Int) : Int := (Int64.ofInt a <<< ((Int32.ofInt b).toInt64 &&& 63)).toInt
def zland (a b : Int) : Int := (Int64.ofInt a &&& Int64.ofInt b).toInt
def zlor (a b : Int) : Int := (Int64.ofInt a ||| Int64.ofInt b).toInt
def zlcmp (a b : Int) : Int := if zw6 b < zw6 a then 1 else if zw6 a < zw6 b then -1 else 0
/-- where the text of operators has a character -/
def zops (c : Int) : Int := if c = 43 then 0 else if c = 45 then 1 else if c = 42 then 2 else if c = 47 then 3 else if c = 60 then 4 else -1
def zmax (a b : Int) : Int := if zw a < zw b then b else a
def zlen (S : zS) (c : Nat) : Option (Nat × Nat) := if c = 99 then some (0, S.2.2.2.2.2) else zArr c
section ZStep
variable {α : Type}
def zcmp (c : ClassFile.Cond) (a b : Int) (f g : α) : α := match c with
  | .eq => if zw a = zw b then f else g
  | .ne => if zw a = zw b then g else f
  | .lt => if zw a < zw b then f else g
  | .ge => if zw a < zw b then g else f
  | .gt => if zw b < zw a then f else g
  | .le => if zw b < zw a then g else f
def zlu : List (Int × Int) → Int → Int → Int
  | [], d, _ => d
  | (m, o) :: r, d, x => if x = m then o else zlu r d x
def zrec (as : List zV) (t : Nat) (bad f : α) : α := match as with
  | .inr (.inr (some q)) :: _ => if q.1 = t then f else bad
  | _ => bad
/-- an exception that came out of a call -/
def zxr (r : Option zV) (h : Nat → α) (f : α) : α := match r with
  | some (.inr (.inr (some q))) => h q.1
  | _ => f
/-- one instruction: what comes next -/
def zStep (i : Instr) (len a b c pc : Nat) (y : Nat) (L : zL) (st : List zV) (S : zS)
    (k : Nat → zL → List zV → zS → α) (call : Nat → List zV → zS → (Option zV → zS → α) → α) (ret : Option zV → zS → α) (bad : α) : α :=
  match i with
  | .aconst_null => k (pc + len) L (zq none :: st) S
  | .aload n => zlda L n bad fun r => k (pc + len) L (zq r :: st) S
  | .aload_n n => zlda L n.val bad fun r => k (pc + len) L (zq r :: st) S
  | .iload n => zldi L n bad fun x => k (pc + len) L (zi x :: st) S
  | .iload_n n => zldi L n.val bad fun x => k (pc + len) L (zi x :: st) S
  | .lload_n n => zldl L n.val bad fun x => k (pc + len) L (zl x :: st) S
  | .istore n => zpi st bad fun x t => k (pc + len) (zst L n (some (zi x))) t S
  | .istore_n n => zpi st bad fun x t => k (pc + len) (zst L n.val (some (zi x))) t S
  | .astore n => zpa st bad fun x t => k (pc + len) (zst L n (some (zq x))) t S
  | .astore_n n => zpa st bad fun x t => k (pc + len) (zst L n.val (some (zq x))) t S
  | .iinc n v => zldi L n bad fun x => k (pc + len) (zst L n (some (zi (x + v)))) st S
  | .iconst v => k (pc + len) L (zi v :: st) S
  | .bipush v => k (pc + len) L (zi v :: st) S
  | .sipush v => k (pc + len) L (zi v :: st) S
  | .ldc2_w _ => k (pc + len) L (zl a :: st) S
  | .ldc _ => k (pc + len) L (zq (some (a, b)) :: st) S
  | .getstatic _ => k (pc + len) L (zq (some (a, b)) :: st) S
  | .getfield _ => zpa st bad fun r t => zde r a bad fun o => if c = 3 then k (pc + len) L (zq (S.2.1 a o b) :: t) S else k (pc + len) L (zi (S.1 a o b) :: t) S
  | .putfield _ => if c = 3 then zpa st bad fun v t => zpa t bad fun r t => zde r a bad fun o => k (pc + len) L t (S.1, zsR S.2.1 a o b v, S.2.2)
      else zpi st bad fun v t => zpa t bad fun r t => zde r a bad fun o => zok c v bad (k (pc + len) L t (zsI S.1 a o b v, S.2))
  | .iaload => zpi st bad fun j t => zpa t bad fun r t => znn r bad fun q o => zop (zlen S q) bad fun n => if n.1 = 0 then zix j n.2 bad fun x => k (pc + len) L (zi (S.1 q o x) :: t) S else bad
  | .caload => zpi st bad fun j t => zpa t bad fun r t => znn r bad fun q o => zop (zlen S q) bad fun n => if n.1 = 2 then zix j n.2 bad fun x => k (pc + len) L (zi (S.1 q o x) :: t) S else bad
  | .laload => zpi st bad fun j t => zpa t bad fun r t => znn r bad fun q o => zop (zlen S q) bad fun n => if n.1 = 4 then zix j n.2 bad fun x => k (pc + len) L (zl (S.1 q o x) :: t) S else bad
  | .aaload => zpi st bad fun j t => zpa t bad fun r t => znn r bad fun q o => zop (zlen S q) bad fun n => if n.1 = 3 then zix j n.2 bad fun x => k (pc + len) L (zq (S.2.1 q o x) :: t) S else bad
  | .iastore => zpi st bad fun v t => zpi t bad fun j t => zpa t bad fun r t => znn r bad fun q o => zop (zArr q) bad fun n => if n.1 = 0 then zix j n.2 bad fun x => k (pc + len) L t (zsI S.1 q o x v, S.2) else bad
  | .castore => zpi st bad fun v t => zpi t bad fun j t => zpa t bad fun r t => znn r bad fun q o => zop (zArr q) bad fun n => if n.1 = 2 then zix j n.2 bad fun x => k (pc + len) L t (zsI S.1 q o x (v % 65536), S.2) else bad
  | .lastore => zpl st bad fun v t => zpi t bad fun j t => zpa t bad fun r t => znn r bad fun q o => zop (zArr q) bad fun n => if n.1 = 4 then zix j n.2 bad fun x => k (pc + len) L t (zsI S.1 q o x v, S.2) else bad
  | .aastore => zpa st bad fun v t => zpi t bad fun j t => zpa t bad fun r t => znn r bad fun q o => zop (zArr q) bad fun n => if n.1 = 3 then zix j n.2 bad fun x => zde v (zArT q) bad fun u => k (pc + len) L t (S.1, zsR S.2.1 q o x (some (zArT q, u)), S.2.2) else bad
  | .arraylength => zpa st bad fun r t => znn r bad fun q _ => zop (zlen S q) bad fun n => k (pc + len) L (zi n.2 :: t) S
  | .iadd => zpi st bad fun y t => zpi t bad fun x t => k (pc + len) L (zi (x + y) :: t) S
  | .isub => zpi st bad fun y t => zpi t bad fun x t => k (pc + len) L (zi (x - y) :: t) S
  | .imul => zpi st bad fun y t => zpi t bad fun x t => k (pc + len) L (zi (x * y) :: t) S
  | .idiv => zpi st bad fun y t => zpi t bad fun x t => if zw y = 0 then bad else k (pc + len) L (zi (zdiv x y) :: t) S
  | .ineg => zpi st bad fun x t => k (pc + len) L (zi (-x) :: t) S
  | .iand => zpi st bad fun y t => zpi t bad fun x t => k (pc + len) L (zi (zand x y) :: t) S
  | .ior => zpi st bad fun y t => zpi t bad fun x t => k (pc + len) L (zi (zor x y) :: t) S
  | .ixor => zpi st bad fun y t => zpi t bad fun x t => k (pc + len) L (zi (zxor x y) :: t) S
  | .ishl => zpi st bad fun y t => zpi t bad fun x t => k (pc + len) L (zi (zshl x y) :: t) S
  | .ishr => zpi st bad fun y t => zpi t bad fun x t => k (pc + len) L (zi (zshr x y) :: t) S
  | .land => zpl st bad fun y t => zpl t bad fun x t => k (pc + len) L (zl (zland x y) :: t) S
  | .lor => zpl st bad fun y t => zpl t bad fun x t => k (pc + len) L (zl (zlor x y) :: t) S
  | .lshl => zpi st bad fun y t => zpl t bad fun x t => k (pc + len) L (zl (zlshl x y) :: t) S
  | .lshr => zpi st bad fun y t => zpl t bad fun x t => k (pc + len) L (zl (zlshr x y) :: t) S
  | .lushr => zpi st bad fun y t => zpl t bad fun x t => k (pc + len) L (zl (zlushr x y) :: t) S
  | .lcmp => zpl st bad fun y t => zpl t bad fun x t => k (pc + len) L (zi (zlcmp x y) :: t) S
  | .i2l => zpi st bad fun x t => k (pc + len) L (zl (zw x) :: t) S
  | .l2i => zpl st bad fun x t => k (pc + len) L (zi x :: t) S
  | .i2c => zpi st bad fun x t => k (pc + len) L (zi (x % 65536) :: t) S
  | .pop => zp1 st bad fun _ t => k (pc + len) L t S
  | .dup => zp1 st bad fun v t => k (pc + len) L (v :: v :: t) S
  | .dup_x1 => zp1 st bad fun v t => zp1 t bad fun u t => k (pc + len) L (v :: u :: v :: t) S
  | .dup2 => zp1 st bad fun v t => zp1 t bad fun u t => k (pc + len) L (v :: u :: v :: u :: t) S
  | .goto o => zgt (pc + o) bad fun g => k g L st S
  | .ifCond q o => zpi st bad fun x t => zgt (pc + o) bad fun g => zcmp q x 0 (k g L t S) (k (pc + len) L t S)
  | .if_icmp q o => zpi st bad fun y t => zpi t bad fun x t => zgt (pc + o) bad fun g => zcmp q x y (k g L t S) (k (pc + len) L t S)
  | .if_acmp q o => zpa st bad fun y t => zpa t bad fun x t => zgt (pc + o) bad fun g => match q with
    | .eq => zsame x y bad (k g L t S) (k (pc + len) L t S)
    | .ne => zsame x y bad (k (pc + len) L t S) (k g L t S)
  | .ifnull o => zpa st bad fun x t => zgt (pc + o) bad fun g => if x = none then k g L t S else k (pc + len) L t S
  | .ifnonnull o => zpa st bad fun x t => zgt (pc + o) bad fun g => if x = none then k (pc + len) L t S else k g L t S
  | .tableswitch d lo hi os => zpi st bad fun x t => if zw x < lo ∨ hi < zw x then zgt (pc + d) bad fun g => k g L t S else zop os[(zw x - lo).toNat]? bad fun o => zgt (pc + o) bad fun g => k g L t S
  | .lookupswitch d ps => zpi st bad fun x t => zgt (pc + zlu ps.toList d (zw x)) bad fun g => k g L t S
  | .invokevirtual _ => zinv b st bad fun as t => zrec as (zOw a) bad (if zThr a = true then call a as S fun r S' => zxr r (fun e => zop (zHd y e) bad fun h => k h L [zq (some (e, 0))] S') (k (pc + len) L (r.toList ++ t) S')
      else call a as S fun r S' => k (pc + len) L (r.toList ++ t) S')
  | .invokestatic _ => zinv b st bad fun as t => call a as S fun r S' => k (pc + len) L (r.toList ++ t) S'
  | .invokespecial _ => if c = 4 then zinv 1 st bad fun as t => call 905 as S fun _ S' => k (pc + len) L t S' else zinv b st bad fun as t => zrec as (zOw a) bad (call a as S fun r S' => k (pc + len) L (r.toList ++ t) S')
  | .new _ => if c = 7 then zem st bad (ret (some (zq (some (a, 0)))) (S.1, S.2.1, S.2.2.1, S.2.2.2.1 + 1, S.2.2.2.2.1 + b, S.2.2.2.2.2)) else k (pc + len) L (zq (some (a, S.2.2.1 a)) :: st) (S.1, S.2.1, va_up S.2.2.1 a (S.2.2.1 a + 1), S.2.2.2.1 + 1, S.2.2.2.2.1 + b, S.2.2.2.2.2)
  | .newarray _ => zpi st bad fun n t => if n = b ∧ S.2.2.1 a = 0 then k (pc + len) L (zq (some (a, 0)) :: t) (S.1, S.2.1, va_up S.2.2.1 a 1, S.2.2.2.1 + 1, S.2.2.2.2.1 + b, S.2.2.2.2.2) else bad
  | .anewarray _ => zpi st bad fun n t => if n = b ∧ S.2.2.1 a = 0 then k (pc + len) L (zq (some (a, 0)) :: t) (S.1, S.2.1, va_up S.2.2.1 a 1, S.2.2.2.1 + 1, S.2.2.2.2.1 + b, S.2.2.2.2.2) else bad
  | .ireturn => zpi st bad fun x t => zem t bad (zok (zRt y) x bad (ret (some (zi x)) S))
  | .areturn => zpa st bad fun x t => zem t bad (ret (some (zq x)) S)
  | .return_ => zem st bad (ret none S)
  | _ => bad
end ZStep
