/-! ===== the machine in small: one step, runs, what holds behind a run ===== -/
def z32 (x : Int) : Int := Int.bmod x 4294967296
def z64 (x : Int) : Int := Int.bmod x 18446744073709551616
def z8 (x : Int) : Int := Int.bmod x 256
def zupd (w : zW) (p j : Nat) (x : Int) : zW := fun q i => if q = p then (if i = j then x else w q i) else w q i
def zfill (w : zW) (p : Nat) (f : Nat → Int) : zW := fun q i => if q = p then f i else w q i
def zcopy (w : zW) (p q n : Nat) : zW := fun a i => if a = q then (if i < n then w p i else w a i) else w a i
def zmsk : List Bool → List zV → List zV
  | b :: bs, v :: vs => cond b v (9, 0) :: zmsk bs vs
  | _, vs => vs
def zkill (ls : List zV) (i : Nat) : List zV := match i with
  | 0 => ls
  | j + 1 => match ls[j]? with
    | some v => cond (Nat.beq v.1 1) (ls.set j (9, 0)) ls
    | none => ls
def zst1 (ls : List zV) (i : Nat) (v : zV) : List zV := (zkill ls i).set i v
def zst2 (ls : List zV) (i : Nat) (v : zV) : List zV := ((zkill ls i).set i v).set (i + 1) (9, 0)
/-- the locals at a method's entry: a long takes two -/
def zent : List zV → List zV
  | [] => []
  | v :: vs => cond (Nat.beq v.1 1) (v :: (9, 0) :: zent vs) (v :: zent vs)
def zloc (args : List zV) (n : Nat) : List zV := zent args ++ List.replicate (n - (zent args).length) (9, 0)
def zcats : List zV → Nat
  | [] => 0
  | v :: vs => cond (Nat.beq v.1 1) 2 1 + zcats vs
/-- an int, a long from the stack -/
def zp1 {α : Sort _} (fail : α) (st : List zV) (g : Nat) (f : Int → List zV → α) : α := match st with
  | v :: r => cond (Nat.beq v.1 g) (f v.2 r) fail
  | [] => fail
/-- a reference or null from the stack -/
def zpr {α : Sort _} (fail : α) (st : List zV) (f : zV → List zV → α) : α := match st with
  | v :: r => cond (Nat.beq v.1 2) (f v r) (cond (Nat.beq v.1 3) (f v r) fail)
  | [] => fail
def zpv {α : Sort _} (fail : α) (st : List zV) (f : zV → List zV → α) : α := match st with
  | v :: r => f v r
  | [] => fail
def zgt {α : Sort _} (fail : α) (ls : List zV) (i g : Nat) (f : Int → α) : α := match ls[i]? with
  | some v => cond (Nat.beq v.1 g) (f v.2) fail
  | none => fail
def zga {α : Sort _} (fail : α) (ls : List zV) (i : Nat) (f : zV → α) : α := match ls[i]? with
  | some v => cond (Nat.beq v.1 2) (f v) (cond (Nat.beq v.1 3) (f v) fail)
  | none => fail
def zemp {α : Sort _} (fail : α) (st : List zV) (a : α) : α := match st with
  | [] => a
  | _ :: _ => fail
def zopt {α : Sort _} {β : Type} (fail : α) (o : Option β) (f : β → α) : α := match o with
  | some b => f b
  | none => fail
def zcase {α : Sort _} {β : Type} (o : Option β) (f : β → α) (g : α) : α := match o with
  | some b => f b
  | none => g
def zifc {α : Sort _} (fail : α) (i : ClassFile.Instr) (f : ClassFile.Cond → Int → α) : α := match i with
  | .ifCond cd o => f cd o
  | _ => fail
def zhnd {α : Sort _} (fail : α) (i : ClassFile.Instr) (f : Nat → α) : α := match i with
  | .astore j => f j
  | .astore_n j => f j.val
  | _ => fail
def zend {α : Sort _} (n : Nat) (a : α) (b : Nat → α) : α := match n with
  | 0 => a
  | e + 1 => b e
/-- a test of the state: where it fails, so does the run -/
def zif {α : Sort _} (fail : α) (c : Prop) [h : Decidable c] (a : α) : α := @ite _ c h a fail
def zcnd {α : Sort _} (cd : ClassFile.Cond) (x y : Int) (a b : α) : α := match cd with
  | .eq => if x = y then a else b
  | .ne => if x = y then b else a
  | .lt => if x < y then a else b
  | .ge => if x < y then b else a
  | .gt => if y < x then a else b
  | .le => if y < x then b else a
def zacn {α : Sort _} (cd : ClassFile.ACond) (x y : Int) (a b : α) : α := match cd with
  | .eq => if x = y then a else b
  | .ne => if x = y then b else a
def ztgt (pc : Nat) (o : Int) : Nat := ((pc : Int) + o).toNat
def zswl {α : Sort _} (F : Nat → α) (pc : Nat) (x : Int) (d : Int) : Int → List Int → α
  | _, [] => F (ztgt pc d)
  | lo, o :: os => if x = lo then F (ztgt pc o) else zswl F pc x d (lo + 1) os
def zbin {α : Sort _} (fail : α) (st : List zV) (g : Nat) (f : Int → Int → α → α) (e : Int → Int → zV) (K : List zV → α) : α :=
  zp1 fail st g fun y r => zp1 fail r g fun x r => f x y (K (e x y :: r))
def zarrk (a : ClassFile.ArrayType) : Nat := match a with
  | .int => 1 | .long => 2 | .byte => 3 | .boolean => 4 | _ => 99
/-- an object's place: of this class, and made before this time -/
def zobj (p : Int) (ci t : Nat) : Bool := zcase (zlay p.toNat) (fun a => Nat.beq a.1 0 && (Nat.beq a.2 ci && Nat.blt p.toNat (znx t))) false
def zarr {α : Sort _} (fail : α) (p : Int) (kd t : Nat) (f : Nat → α) : α := zopt fail (zlay p.toNat) fun a => cond (Nat.beq a.1 kd && Nat.blt p.toNat (znx t)) (f a.2) fail
def zexh (pc e : Nat) : List (Nat × Nat × Nat × Nat) → Option Nat
  | [] => none
  | h :: hs => cond (Nat.ble h.1 pc && (Nat.blt pc h.2.1 && Nat.beq h.2.2.2 e)) (some h.2.2.1) (zexh pc e hs)
/-- what a call's end means for the caller: a value on the stack, or its handler, or the same end for it -/
def zback {α : Sort _} (fail : α) (F : Nat → List zV → List zV → zW → Nat → Nat → α) (k pc nx : Nat) (ls rest : List zV) (w : zW) (t c : Nat) (o : zR) (thr : zR → zW → Nat → α) : α :=
  zend o.1 (zcase o.2 (fun v => F nx ls (v :: rest) w t c) (F nx ls rest w t c)) fun e =>
    cond (List.isEmpty (zex k)) (thr (e + 1, none) w t)
      (zopt fail (zexh pc e (zex k)) fun h => zopt fail (zcode k h) fun x => zhnd fail x.1 fun i =>
        cond (List.isEmpty x.2.2 && Nat.blt i ls.length) (F x.2.1 (zst1 ls i (9, 0)) [] w t c) fail)
/-- the receiver: an object of the method's class, or a constant of Word -/
def zrcv {α : Sort _} (fail : α) (kd o : Nat) (p : Int) (t : Nat) (a : α) : α :=
  cond (Nat.beq kd 5) (zif fail (1000 ≤ p ∧ p < 1015) a) (zopt fail (zcix o) fun ci => cond (zobj p ci t) a fail)
/-- Math.max, min, abs over ints (20 to 22) and longs (23 to 25) -/
def zmath {α : Sort _} (fail : α) (kd : Nat) (st : List zV) (K : List zV → α) : α :=
  cond (Nat.beq kd 20) (zbin fail st 0 (fun _ _ a => a) (fun x y => (0, max x y)) K)
  (cond (Nat.beq kd 21) (zbin fail st 0 (fun _ _ a => a) (fun x y => (0, min x y)) K)
  (cond (Nat.beq kd 22) (zp1 fail st 0 fun x r => K ((0, z32 (max x (-x))) :: r))
  (cond (Nat.beq kd 23) (zbin fail st 1 (fun _ _ a => a) (fun x y => (1, max x y)) K)
  (cond (Nat.beq kd 24) (zbin fail st 1 (fun _ _ a => a) (fun x y => (1, min x y)) K)
  (cond (Nat.beq kd 25) (zp1 fail st 1 fun x r => K ((1, z64 (max x (-x))) :: r)) fail)))))
/-- constructors and calls by the nest don't throw -/
def zthn {α : Sort _} (fail : α) (kd e : Nat) (a : α) : α := cond (Nat.ble 10 kd || Nat.beq kd 2) (cond (Nat.beq e 0) a fail) a
/-- a call: what is on the stack for it, the room, what is done with what comes back -/
def zinvk {α : Sort _} (fail : α) (F : Nat → List zV → List zV → zW → Nat → Nat → α) (ret : zR → zW → Nat → α) (call : Nat → List zV → zW → Nat → (zR → zW → Nat → α) → α) (k pc i op nx : Nat) (ls st : List zV) (w : zW) (t c : Nat) : α :=
  zopt fail (zmth (zown k) i) fun e =>
    cond (Nat.beq e.2 6) (zp1 fail st 2 fun p r => cond (Nat.beq op 0 && (Nat.ble (28 + zcats r) (zlo k) && (Nat.blt 0 (zht k) && Nat.ble (zcats r) 8))) (zif fail (1000 ≤ p ∧ p < 1015) (F nx ls ((0, p - 1000) :: r) w t c)) fail)
    (cond (Nat.beq e.2 7) (zp1 fail st 0 fun n r => zp1 fail r 0 fun b r => zp1 fail r 2 fun q r => zp1 fail r 0 fun a r => zp1 fail r 2 fun p r =>
        zopt fail (zlay p.toNat) fun x => zopt fail (zlay q.toNat) fun y =>
          cond (Nat.beq op 1 && (Nat.beq x.1 y.1 && (Nat.blt 0 x.1 && (Nat.blt x.1 5 && (Nat.blt p.toNat (znx t) && (Nat.blt q.toNat (znx t) && (Nat.blt 0 (zht k) && Nat.ble (40 + zcats r) (zlo k)))))))) (zif fail (a = 0) (zif fail (b = 0) (zif fail (0 ≤ n ∧ n ≤ (x.2 : Int) ∧ n ≤ (y.2 : Int)) (F nx ls r (zcopy w p.toNat q.toNat n.toNat) t c)))) fail)
    (cond (Nat.blt 19 e.2) (cond (Nat.beq op 1 && (Nat.blt 0 (zht k) && Nat.ble (15 + zcats st) (zlo k))) (zmath fail e.2 st fun r => F nx ls r w t c) fail)
    (cond (Nat.beq e.2 8) (zp1 fail st 2 fun _ r => cond (Nat.beq op 2 && (Nat.blt 0 (zht k) && Nat.ble (12 + zcats r) (zlo k))) (F nx ls r w t c) fail)
    (cond (Nat.ble (zht e.1 + 1) (zht k) && (Nat.ble (8 + (zmL e.1 + 11) + zlo e.1) (zlo k) && Nat.ble (zmc e.1) c))
        (cond (Nat.beq (e.2 % 5) 1)
          (cond (Nat.beq op 1 && (Nat.ble (zcats (st.drop (znp e.1))) 8 && (Nat.ble (znp e.1) st.length && Nat.ble (zcats (st.take (znp e.1))) (zmL e.1))))
            (call e.1 (zloc (st.take (znp e.1)).reverse (zmL e.1)) w t fun o w t => zthn fail e.2 o.1 (zback fail F k pc nx ls (st.drop (znp e.1)) w t (c - zmc e.1) o ret)) fail)
          (zopt fail (st.drop (znp e.1)).head? fun x => cond (Nat.beq x.1 2 && (Nat.beq op (cond (Nat.beq (e.2 % 5) 2) 2 0) && (Nat.ble (zcats (st.drop (znp e.1 + 1))) 8 && (Nat.ble (znp e.1 + 1) st.length && Nat.ble (1 + zcats (st.take (znp e.1))) (zmL e.1)))))
            (zrcv fail e.2 (zown e.1) x.2 t (call e.1 (zloc (x :: (st.take (znp e.1)).reverse) (zmL e.1)) w t fun o w t => zthn fail e.2 o.1 (zback fail F k pc nx ls (st.drop (znp e.1 + 1)) w t (c - zmc e.1) o ret))) fail)) fail))))
/-- 'throw new E("text")' stands at pc -/
def zstx (i : Nat) : Bool := [101, 112, 119, 140, 179, 240, 260, 269, 277, 328, 336, 342, 347, 355, 357, 369, 391, 409, 411, 413, 415, 417, 420].any fun j => Nat.beq i j
def ztic (e : Nat) : Nat := cond (Nat.beq e 0) 103 (cond (Nat.beq e 1) 114 393)
def zidup (i : ClassFile.Instr) : Bool := match i with
  | .dup => true
  | _ => false
def zildc (i : ClassFile.Instr) (f g : Nat → Bool) : Bool := match i with
  | .ldc j => f j
  | .ldc_w j => g j
  | _ => false
def zisp (i : ClassFile.Instr) (j : Nat) : Bool := match i with
  | .invokespecial a => Nat.beq a j
  | _ => false
def ziat (i : ClassFile.Instr) : Bool := match i with
  | .athrow => true
  | _ => false
def zthq (k pc e : Nat) : Bool := Nat.beq (zown k) 11 && (zcase (zcode k (pc + 3)) (fun a => zidup a.1) false && zcase (zcode k (pc + 4)) (fun b => zildc b.1
    (fun j => zstx j && (zcase (zcode k (pc + 6)) (fun a => zisp a.1 (ztic e)) false && zcase (zcode k (pc + 9)) (fun a => ziat a.1) false))
    (fun j => zstx j && (zcase (zcode k (pc + 7)) (fun a => zisp a.1 (ztic e)) false && zcase (zcode k (pc + 10)) (fun a => ziat a.1) false))) false)
def zexec {α : Sort _} (fail : α) (ret : zR → zW → Nat → α) (F : Nat → List zV → List zV → zW → Nat → Nat → α)
    (call : Nat → List zV → zW → Nat → (zR → zW → Nat → α) → α) (k pc : Nat) (ins : ClassFile.Instr) (nx : Nat) (ls st : List zV) (w : zW) (t c : Nat) : α :=
  match ins with
  | .aconst_null => F nx ls ((3, 0) :: st) w t c
  | .aload i => zga fail ls i fun x => F nx ls (x :: st) w t c
  | .iload i => zgt fail ls i 0 fun x => F nx ls ((0, x) :: st) w t c
  | .lload i => zgt fail ls i 1 fun x => F nx ls ((1, x) :: st) w t c
  | .astore i => zpr fail st fun x r => cond (Nat.blt i ls.length) (F nx (zst1 ls i x) r w t c) fail
  | .istore i => zp1 fail st 0 fun x r => cond (Nat.blt i ls.length) (F nx (zst1 ls i (0, x)) r w t c) fail
  | .lstore i => zp1 fail st 1 fun x r => cond (Nat.blt (i + 1) ls.length) (F nx (zst2 ls i (1, x)) r w t c) fail
  | .aload_n i => zga fail ls i.val fun x => F nx ls (x :: st) w t c
  | .iload_n i => zgt fail ls i.val 0 fun x => F nx ls ((0, x) :: st) w t c
  | .lload_n i => zgt fail ls i.val 1 fun x => F nx ls ((1, x) :: st) w t c
  | .astore_n i => zpr fail st fun x r => cond (Nat.blt i.val ls.length) (F nx (zst1 ls i.val x) r w t c) fail
  | .istore_n i => zp1 fail st 0 fun x r => cond (Nat.blt i.val ls.length) (F nx (zst1 ls i.val (0, x)) r w t c) fail
  | .lstore_n i => zp1 fail st 1 fun x r => cond (Nat.blt (i.val + 1) ls.length) (F nx (zst2 ls i.val (1, x)) r w t c) fail
  | .iinc i n => zgt fail ls i 0 fun x => F nx (zst1 ls i (0, z32 (x + n))) st w t c
  | .iconst n => F nx ls ((0, n) :: st) w t c
  | .bipush n => F nx ls ((0, n) :: st) w t c
  | .sipush n => F nx ls ((0, n) :: st) w t c
  | .lconst n => F nx ls ((1, (n.val : Int)) :: st) w t c
  | .ldc i => zopt fail (zkc (zown k) i) fun v => F nx ls ((0, v) :: st) w t c
  | .ldc_w i => zopt fail (zkc (zown k) i) fun v => F nx ls ((0, v) :: st) w t c
  | .ldc2_w i => zopt fail (zkl (zown k) i) fun v => F nx ls ((1, v) :: st) w t c
  | .dup => zpv fail st fun v r => cond (Nat.beq v.1 1) fail (F nx ls (v :: v :: r) w t c)
  | .pop => zpv fail st fun v r => cond (Nat.beq v.1 1) fail (F nx ls r w t c)
  | .dup2 => zpv fail st fun v r => cond (Nat.beq v.1 1) (F nx ls (v :: v :: r) w t c) (zpv fail r fun u q => cond (Nat.beq u.1 1) fail (F nx ls (v :: u :: v :: u :: q) w t c))
  | .iadd => zbin fail st 0 (fun _ _ a => a) (fun x y => (0, z32 (x + y))) fun r => F nx ls r w t c
  | .isub => zbin fail st 0 (fun _ _ a => a) (fun x y => (0, z32 (x - y))) fun r => F nx ls r w t c
  | .imul => zbin fail st 0 (fun _ _ a => a) (fun x y => (0, z32 (x * y))) fun r => F nx ls r w t c
  | .ladd => zbin fail st 1 (fun _ _ a => a) (fun x y => (1, z64 (x + y))) fun r => F nx ls r w t c
  | .lsub => zbin fail st 1 (fun _ _ a => a) (fun x y => (1, z64 (x - y))) fun r => F nx ls r w t c
  | .lmul => zbin fail st 1 (fun _ _ a => a) (fun x y => (1, z64 (x * y))) fun r => F nx ls r w t c
  | .idiv => zbin fail st 0 (fun _ y a => zif fail (y ≠ 0) a) (fun x y => (0, z32 (Int.tdiv x y))) fun r => F nx ls r w t c
  | .irem => zbin fail st 0 (fun _ y a => zif fail (y ≠ 0) a) (fun x y => (0, z32 (Int.tmod x y))) fun r => F nx ls r w t c
  | .ldiv => zbin fail st 1 (fun _ y a => zif fail (y ≠ 0) a) (fun x y => (1, z64 (Int.tdiv x y))) fun r => F nx ls r w t c
  | .lrem => zbin fail st 1 (fun _ y a => zif fail (y ≠ 0) a) (fun x y => (1, z64 (Int.tmod x y))) fun r => F nx ls r w t c
  | .iand => zbin fail st 0 (fun _ _ a => a) (fun x y => (0, (Int32.ofInt x &&& Int32.ofInt y).toInt)) fun r => F nx ls r w t c
  | .land => zbin fail st 1 (fun _ _ a => a) (fun x y => (1, (Int64.ofInt x &&& Int64.ofInt y).toInt)) fun r => F nx ls r w t c
  | .lor => zbin fail st 1 (fun _ _ a => a) (fun x y => (1, (Int64.ofInt x ||| Int64.ofInt y).toInt)) fun r => F nx ls r w t c
  | .ishl => zbin fail st 0 (fun _ _ a => a) (fun x y => (0, (Int32.ofInt x <<< (Int32.ofInt y &&& 31)).toInt)) fun r => F nx ls r w t c
  | .ishr => zbin fail st 0 (fun _ _ a => a) (fun x y => (0, (Int32.ofInt x >>> (Int32.ofInt y &&& 31)).toInt)) fun r => F nx ls r w t c
  | .lshl => zp1 fail st 0 fun y r => zp1 fail r 1 fun x r => F nx ls ((1, (Int64.ofInt x <<< ((Int32.ofInt y).toInt64 &&& 63)).toInt) :: r) w t c
  | .lshr => zp1 fail st 0 fun y r => zp1 fail r 1 fun x r => F nx ls ((1, (Int64.ofInt x >>> ((Int32.ofInt y).toInt64 &&& 63)).toInt) :: r) w t c
  | .ineg => zp1 fail st 0 fun x r => F nx ls ((0, z32 (-x)) :: r) w t c
  | .lneg => zp1 fail st 1 fun x r => F nx ls ((1, z64 (-x)) :: r) w t c
  | .i2l => zp1 fail st 0 fun x r => F nx ls ((1, x) :: r) w t c
  | .l2i => zp1 fail st 1 fun x r => F nx ls ((0, z32 x) :: r) w t c
  | .i2b => zp1 fail st 0 fun x r => F nx ls ((0, z8 x) :: r) w t c
  | .lcmp => zp1 fail st 1 fun y r => zp1 fail r 1 fun x r => zopt fail (zcode k nx) fun e => zifc fail e.1 fun cd o => cond (List.isEmpty e.2.2) (zcnd cd x y (F (ztgt nx o) ls r w t c) (F e.2.1 ls r w t c)) fail
  | .goto o => F (ztgt pc o) ls st w t c
  | .ifCond cd o => zp1 fail st 0 fun x r => zcnd cd x 0 (F (ztgt pc o) ls r w t c) (F nx ls r w t c)
  | .if_icmp cd o => zp1 fail st 0 fun y r => zp1 fail r 0 fun x r => zcnd cd x y (F (ztgt pc o) ls r w t c) (F nx ls r w t c)
  | .if_acmp cd o => zp1 fail st 2 fun y r => zp1 fail r 2 fun x r => zif fail (1000 ≤ x ∧ x < 1015) (zif fail (1000 ≤ y ∧ y < 1015) (zacn cd x y (F (ztgt pc o) ls r w t c) (F nx ls r w t c)))
  | .ifnull o => zpr fail st fun v r => cond (Nat.beq v.1 3) (F (ztgt pc o) ls r w t c) (F nx ls r w t c)
  | .ifnonnull o => zpr fail st fun v r => cond (Nat.beq v.1 3) (F nx ls r w t c) (F (ztgt pc o) ls r w t c)
  | .tableswitch d lo _ os => zp1 fail st 0 fun x r => zswl (fun q => F q ls r w t c) pc x d lo os.toList
  | .getfield i => zcase (zfld (zown k) i) (fun e => zp1 fail st 2 fun p r => cond (zobj p e.1 t) (
        cond (Nat.beq e.2.2 0) (F nx ls ((0, w p.toNat e.2.1) :: r) w t c)
        (cond (Nat.beq e.2.2 1) (F nx ls ((1, w p.toNat e.2.1) :: r) w t c)
        (cond (Nat.beq e.2.2 2) (zopt fail (zptr p.toNat e.2.1) fun q => cond (Nat.blt q.2 t) (F nx ls ((2, (q.1 : Int)) :: r) w t c) fail)
        (cond (Nat.beq e.2.2 3) (zif fail (0 ≤ w p.toNat e.2.1) (F nx ls ((2, w p.toNat e.2.1) :: r) w t c))
        (F nx ls ((0, w p.toNat e.2.1) :: r) w t c))))) fail)
      (zopt fail (zfldE (zown k) i) fun f => zp1 fail st 2 fun p r => zif fail (1000 ≤ p ∧ p < 1015) (F nx ls ((cond (Nat.beq f 1) 1 0, zwf f (p - 1000).toNat) :: r) w t c))
  | .putfield i => zopt fail (zfld (zown k) i) fun e =>
        cond (Nat.beq e.2.2 0) (zp1 fail st 0 fun x r => zp1 fail r 2 fun p r => cond (zobj p e.1 t) (F nx ls r (zupd w p.toNat e.2.1 x) t c) fail)
        (cond (Nat.beq e.2.2 1) (zp1 fail st 1 fun x r => zp1 fail r 2 fun p r => cond (zobj p e.1 t) (F nx ls r (zupd w p.toNat e.2.1 x) t c) fail)
        (cond (Nat.beq e.2.2 2) (zp1 fail st 2 fun x r => zp1 fail r 2 fun p r => cond (zobj p e.1 t && (zini k && zcase (zcix (zown k)) (fun ci => Nat.beq ci e.1) false)) (zopt fail (zptr p.toNat e.2.1) fun q => cond (Nat.beq q.2 t && (Nat.beq q.1 x.toNat && (Nat.blt x.toNat (znx t) && Nat.beq (znx (t + 1)) (znx t)))) (F nx ls r w (t + 1) c) fail) fail)
        (cond (Nat.beq e.2.2 3) (zp1 fail st 2 fun x r => zp1 fail r 2 fun p r => cond (zobj p e.1 t) (zif fail (1000 ≤ x ∧ x < 1015) (F nx ls r (zupd w p.toNat e.2.1 x) t c)) fail)
        (zp1 fail st 0 fun x r => zp1 fail r 2 fun p r => cond (zobj p e.1 t) (zif fail (0 ≤ x ∧ x < 2) (F nx ls r (zupd w p.toNat e.2.1 x) t c)) fail))))
  | .getstatic i => zopt fail (zstt (zown k) i) fun p => F nx ls ((2, (p : Int)) :: st) w t c
  | .iaload => zp1 fail st 0 fun i r => zp1 fail r 2 fun p r => cond (Nat.beq p.toNat 2001) (zif fail (0 ≤ i ∧ i < 15) (F nx ls ((0, zsm i.toNat) :: r) w t c))
      (cond (Nat.beq p.toNat 2002) (zif fail (0 ≤ i ∧ i < w 2003 0) (F nx ls ((0, w 2002 i.toNat) :: r) w t c))
      (zarr fail p 1 t fun n => zif fail (0 ≤ i ∧ i < (n : Int)) (F nx ls ((0, w p.toNat i.toNat) :: r) w t c)))
  | .laload => zp1 fail st 0 fun i r => zp1 fail r 2 fun p r => zarr fail p 2 t fun n => zif fail (0 ≤ i ∧ i < (n : Int)) (F nx ls ((1, w p.toNat i.toNat) :: r) w t c)
  | .baload => zp1 fail st 0 fun i r => zp1 fail r 2 fun p r => zopt fail (zlay p.toNat) fun a => cond ((Nat.beq a.1 3 || Nat.beq a.1 4) && Nat.blt p.toNat (znx t)) (zif fail (0 ≤ i ∧ i < (a.2 : Int)) (F nx ls ((0, w p.toNat i.toNat) :: r) w t c)) fail
  | .aaload => zp1 fail st 0 fun i r => zp1 fail r 2 fun p r => cond (Nat.beq p.toNat 2000) (zif fail (0 ≤ i ∧ i < 15) (F nx ls ((2, 1000 + i) :: r) w t c)) (zopt fail (zlay p.toNat) fun a =>
      cond (Nat.blt p.toNat (znx t)) (zif fail (0 ≤ i ∧ i < (a.2 : Int)) (
        cond (Nat.beq a.1 5) (zif fail (0 ≤ w p.toNat i.toNat) (F nx ls ((2, w p.toNat i.toNat) :: r) w t c))
        (cond (Nat.beq a.1 6) (zopt fail (zptr p.toNat i.toNat) fun q => cond (Nat.blt q.2 t) (F nx ls ((2, (q.1 : Int)) :: r) w t c) fail) fail))) fail)
  | .iastore => zp1 fail st 0 fun x r => zp1 fail r 0 fun i r => zp1 fail r 2 fun p r => zarr fail p 1 t fun n => zif fail (0 ≤ i ∧ i < (n : Int)) (F nx ls r (zupd w p.toNat i.toNat x) t c)
  | .lastore => zp1 fail st 1 fun x r => zp1 fail r 0 fun i r => zp1 fail r 2 fun p r => zarr fail p 2 t fun n => zif fail (0 ≤ i ∧ i < (n : Int)) (F nx ls r (zupd w p.toNat i.toNat x) t c)
  | .bastore => zp1 fail st 0 fun x r => zp1 fail r 0 fun i r => zp1 fail r 2 fun p r => zopt fail (zlay p.toNat) fun a =>
      cond (Nat.blt p.toNat (znx t)) (zif fail (0 ≤ i ∧ i < (a.2 : Int)) (
        cond (Nat.beq a.1 3) (F nx ls r (zupd w p.toNat i.toNat (z8 x)) t c)
        (cond (Nat.beq a.1 4) (zif fail (0 ≤ x ∧ x < 2) (F nx ls r (zupd w p.toNat i.toNat x) t c)) fail))) fail
  | .aastore => zp1 fail st 2 fun x r => zp1 fail r 0 fun i r => zp1 fail r 2 fun p r => zopt fail (zlay p.toNat) fun a =>
      cond (Nat.blt p.toNat (znx t)) (zif fail (0 ≤ i ∧ i < (a.2 : Int)) (
        cond (Nat.beq a.1 5) (zif fail (1000 ≤ x ∧ x < 1015) (F nx ls r (zupd w p.toNat i.toNat x) t c))
        (cond (Nat.beq a.1 6) (zopt fail (zptr p.toNat i.toNat) fun q => cond (Nat.beq q.2 t && (Nat.beq q.1 x.toNat && (zobj x 4 t && Nat.beq (znx (t + 1)) (znx t)))) (F nx ls r w (t + 1) c) fail) fail))) fail
  | .arraylength => zp1 fail st 2 fun p r => cond (Nat.beq p.toNat 2000) (F nx ls ((0, 15) :: r) w t c) (cond (Nat.beq p.toNat 2002) (F nx ls ((0, w 2003 0) :: r) w t c)
      (zopt fail (zlay p.toNat) fun a => cond (Nat.blt 0 a.1 && (Nat.blt a.1 5 && Nat.blt p.toNat (znx t))) (F nx ls ((0, (a.2 : Int)) :: r) w t c) fail))
  | .newarray a => zp1 fail st 0 fun n r => zopt fail (zlay (znx t)) fun e => cond (Nat.beq e.1 (zarrk a) && (Nat.beq (znx (t + 1)) (znx t + 1) && Nat.ble (1 + e.2 / 12) c)) (zif fail (n = (e.2 : Int)) (F nx ls ((2, (znx t : Int)) :: r) (zfill w (znx t) fun _ => 0) (t + 1) (c - (1 + e.2 / 12)))) fail
  | .anewarray i => zp1 fail st 0 fun n r => zopt fail (zlay (znx t)) fun e => zopt fail (zacl (zown k) i) fun kd => cond (Nat.beq e.1 kd && (Nat.beq (znx (t + 1)) (znx t + 1) && Nat.ble (1 + e.2 / 12) c)) (zif fail (n = (e.2 : Int)) (F nx ls ((2, (znx t : Int)) :: r) (zfill w (znx t) fun _ => -1) (t + 1) (c - (1 + e.2 / 12)))) fail
  | .new i => zcase (zthr (zown k) i) (fun e => cond (Nat.blt 5 (zht k) && (Nat.ble (82 + zcats st) (zlo k) && (Nat.ble 1 c && (List.isEmpty (zex k) && zthq k pc e)))) (ret (e + 1, none) w t) fail)
    (zopt fail (zcls (zown k) i) fun ci => zopt fail (zlay (znx t)) fun e => cond (Nat.beq e.1 0 && (Nat.beq e.2 ci && (Nat.beq (znx (t + 1)) (znx t + 1) && Nat.ble (1 + zN ci / 12) c))) (F nx ls ((2, (znx t : Int)) :: st) (zfill w (znx t) (zdfl ci)) (t + 1) (c - (1 + zN ci / 12))) fail)
  | .ireturn => zp1 fail st 0 fun x r => zemp fail r (cond (Nat.beq (zrt k) 1) (ret (0, some (0, x)) w t) (cond (Nat.beq (zrt k) 4) (zif fail (0 ≤ x ∧ x < 2) (ret (0, some (0, x)) w t)) fail))
  | .lreturn => zp1 fail st 1 fun x r => zemp fail r (cond (Nat.beq (zrt k) 2) (ret (0, some (1, x)) w t) fail)
  | .areturn => zpr fail st fun v r => zemp fail r (cond (Nat.beq (zrt k) 3) (ret (0, some v) w t) fail)
  | .return_ => zemp fail st (cond (Nat.beq (zrt k) 0) (ret (0, none) w t) fail)
  | .invokevirtual i => zinvk fail F ret call k pc i 0 nx ls st w t c
  | .invokespecial i => zinvk fail F ret call k pc i 2 nx ls st w t c
  | .invokestatic i => zinvk fail F ret call k pc i 1 nx ls st w t c
  | _ => fail
def zstep {α : Sort _} (fail : α) (ret : zR → zW → Nat → α) (F : Nat → List zV → List zV → zW → Nat → Nat → α)
    (call : Nat → List zV → zW → Nat → (zR → zW → Nat → α) → α) (k pc : Nat) (ls st : List zV) (w : zW) (t c : Nat) : α :=
  zopt fail (zcode k pc) fun e => zexec fail ret F call k pc e.1 e.2.1 (zmsk e.2.2 ls) st w t c
/-- a method's run with so much fuel: its end, the world, the time -/
def zrun (n : Nat) : Nat → Nat → List zV → List zV → zW → Nat → Nat → Option (zR × zW × Nat) :=
  Nat.rec (fun _ _ _ _ _ _ _ => none) (fun _ G k pc ls st w t c => zstep none (fun r w t => some (r, w, t)) (G k)
    (fun y l0 w t K => match G y 0 l0 [] w t (zmc y) with
      | some o => K o.1 o.2.1 o.2.2
      | none => none) k pc ls st w t c) n
/-- from here the method comes to an end that satisfies Q -/
def zwp (k pc : Nat) (ls st : List zV) (w : zW) (t c : Nat) (Q : zR → zW → Nat → Prop) : Prop :=
  ∃ (n : Nat) (r : zR) (w' : zW) (t' : Nat), zrun n k pc ls st w t c = some (r, w', t') ∧ Q r w' t'
/-- the method, called with these locals -/
def zcall (y : Nat) (l0 : List zV) (w : zW) (t : Nat) (Q : zR → zW → Nat → Prop) : Prop := zwp y 0 l0 [] w t (zmc y) Q
