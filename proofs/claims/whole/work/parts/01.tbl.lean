abbrev zV : Type := Nat × Int
abbrev zW : Type := Nat → Nat → Int
abbrev zR : Type := Nat × Option zV
def z32 (x : Int) : Int := Int.bmod x 4294967296
def z64 (x : Int) : Int := Int.bmod x 18446744073709551616
def zset (ls : List zV) (i : Nat) (v : zV) : List zV := ls.set i v
def zcode (k pc : Nat) : Option (ClassFile.Instr × Nat) := cond (Nat.blt k 1) (cond (Nat.blt pc 5) (cond (Nat.blt pc 2) (cond (Nat.blt pc 1) (some (.iload_n 0, 1)) (some (.iload_n 1, 1))) (cond (Nat.blt pc 3) (some (.iadd, 1)) (cond (Nat.blt pc 4) (some (.istore_n 0, 1)) (some (.iload_n 0, 1))))) (cond (Nat.blt pc 6) (some (.iload_n 1, 1)) (cond (Nat.blt pc 7) (some (.if_icmp .lt (-6), 3)) (some (.ireturn, 1))))) none
def zstep {α : Sort _} (fail : α) (ret : zR → zW → Nat → α) (F : Nat → List zV → List zV → zW → Nat → Nat → α) (k pc : Nat) (ls st : List zV) (w : zW) (nx c : Nat) : α :=
  match zcode k pc with
  | none => fail
  | some (ins, len) => match ins with
    | .iload_n i => match ls[i.val]? with
      | some (0, x) => F (pc + len) ls ((0, x) :: st) w nx c
      | _ => fail
    | .istore_n i => match st with
      | (0, x) :: r => F (pc + len) (ls.set i.val (0, x)) r w nx c
      | _ => fail
    | .iadd => match st with
      | (0, y) :: (0, x) :: r => F (pc + len) ls ((0, z32 (x + y)) :: r) w nx c
      | _ => fail
    | .if_icmp .lt off => match st with
      | (0, y) :: (0, x) :: r => @ite _ (x < y) _ (F ((pc : Int) + off).toNat ls r w nx c) (F (pc + len) ls r w nx c)
      | _ => fail
    | .ireturn => match st with
      | (0, x) :: _ => ret (0, some (0, x)) w nx
      | _ => fail
    | _ => fail
def zgo {α : Sort _} (fail : α) (ret : zR → zW → Nat → α) (cut : Nat → Bool) (F : Nat → List zV → List zV → zW → Nat → Nat → α) (k : Nat) (m : Nat) : Nat → List zV → List zV → zW → Nat → Nat → α :=
  Nat.rec F (fun _ G => zstep fail ret (fun pc ls st w nx c => cond (cut pc) (F pc ls st w nx c) (G pc ls st w nx c)) k) m
theorem zt1 (F : Nat → List zV → List zV → zW → Nat → Nat → Prop) (Q : zR → zW → Nat → Prop) (x y : Int) (w : zW) (h : if z32 (x + y) < y then F 0 [(0, z32 (x+y)), (0, y)] [] w 5 2 else False) :
   zgo False Q (fun pc => Nat.beq pc 0) F 0 20 0 [(0, x), (0, y)] [] w 5 2 := by
  exact h
