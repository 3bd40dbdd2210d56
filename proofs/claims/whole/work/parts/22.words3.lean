/-! ===== words of ordinal, arraycopy, Object, Math; lists of words for calls (written by wip/whole/gen22w.py) ===== -/
def zspW0 (x : Nat) : Nat := cond (Nat.blt x 33) (cond (Nat.beq x 3) (387) 0) (cond (Nat.blt x 39) (cond (Nat.beq x 33) (604) 0) (cond (Nat.beq x 39) (770) 0))
def zspW1 (x : Nat) : Nat := cond (Nat.blt x 103) (cond (Nat.blt x 91) (cond (Nat.beq x 3) (374) 0) (cond (Nat.beq x 91) (688) 0)) (cond (Nat.blt x 106) (cond (Nat.beq x 103) (1532) 0) (cond (Nat.blt x 109) (cond (Nat.beq x 106) (1533) 0) (cond (Nat.beq x 109) (735) 0)))
def zspW2 (x : Nat) : Nat := cond (Nat.blt x 57) (cond (Nat.beq x 3) (217) 0) (cond (Nat.beq x 57) (779) 0)
def zspW3 (x : Nat) : Nat := cond (Nat.beq x 3) (275) 0
def zspW4 (x : Nat) : Nat := cond (Nat.blt x 62) (cond (Nat.blt x 37) (cond (Nat.beq x 3) (335) 0) (cond (Nat.beq x 37) (597) 0)) (cond (Nat.blt x 68) (cond (Nat.beq x 62) (1161) 0) (cond (Nat.beq x 68) (1162) 0))
def zspW5 (x : Nat) : Nat := cond (Nat.blt x 23) (cond (Nat.beq x 3) (407) 0) (cond (Nat.beq x 23) (757) 0)
def zspW6 (x : Nat) : Nat := cond (Nat.beq x 5) (298) 0
def zspW7 (x : Nat) : Nat := cond (Nat.blt x 91) (cond (Nat.blt x 64) (cond (Nat.beq x 3) (361) 0) (cond (Nat.beq x 64) (540) 0)) (cond (Nat.blt x 101) (cond (Nat.beq x 91) (571) 0) (cond (Nat.blt x 104) (cond (Nat.beq x 101) (622) 0) (cond (Nat.beq x 104) (625) 0)))
def zspW8 (x : Nat) : Nat := cond (Nat.beq x 3) (155) 0
def zspW9 (x : Nat) : Nat := cond (Nat.beq x 3) (171) 0
def zspW11 (x : Nat) : Nat := cond (Nat.blt x 326) (cond (Nat.blt x 247) (cond (Nat.beq x 1) (147) 0) (cond (Nat.beq x 247) (558) 0)) (cond (Nat.blt x 442) (cond (Nat.beq x 326) (692) 0) (cond (Nat.beq x 442) (1127) 0))
def zspW12 (x : Nat) : Nat := cond (Nat.beq x 1) (1572) 0
def zspW (o : Nat) : Nat → Nat := cond (Nat.blt o 6) (cond (Nat.blt o 3) (cond (Nat.blt o 1) (cond (Nat.beq o 0) (zspW0) fun _ => 0) (cond (Nat.blt o 2) (cond (Nat.beq o 1) (zspW1) fun _ => 0) (cond (Nat.beq o 2) (zspW2) fun _ => 0))) (cond (Nat.blt o 4) (cond (Nat.beq o 3) (zspW3) fun _ => 0) (cond (Nat.blt o 5) (cond (Nat.beq o 4) (zspW4) fun _ => 0) (cond (Nat.beq o 5) (zspW5) fun _ => 0)))) (cond (Nat.blt o 9) (cond (Nat.blt o 7) (cond (Nat.beq o 6) (zspW6) fun _ => 0) (cond (Nat.blt o 8) (cond (Nat.beq o 7) (zspW7) fun _ => 0) (cond (Nat.beq o 8) (zspW8) fun _ => 0))) (cond (Nat.blt o 11) (cond (Nat.beq o 9) (zspW9) fun _ => 0) (cond (Nat.blt o 12) (cond (Nat.beq o 11) (zspW11) fun _ => 0) (cond (Nat.beq o 12) (zspW12) fun _ => 0))))
def zspN (kd : Nat) : MethodName := cond (Nat.blt kd 21) (cond (Nat.blt kd 8) (cond (Nat.blt kd 7) (cond (Nat.beq kd 6) (⟨"CirclePacker$Word", "ordinal", "()I"⟩) Lib.objectInit) (cond (Nat.beq kd 7) (arraycopyName) Lib.objectInit)) (cond (Nat.blt kd 20) (cond (Nat.beq kd 8) (Lib.objectInit) Lib.objectInit) (cond (Nat.beq kd 20) (Lib.Math.max.name) Lib.objectInit))) (cond (Nat.blt kd 23) (cond (Nat.blt kd 22) (cond (Nat.beq kd 21) (Lib.Math.min.name) Lib.objectInit) (cond (Nat.beq kd 22) (Lib.Math.abs.name) Lib.objectInit)) (cond (Nat.blt kd 24) (cond (Nat.beq kd 23) (Lib.MathLoose.max_long.x) Lib.objectInit) (cond (Nat.blt kd 25) (cond (Nat.beq kd 24) (Lib.MathLoose.min_long.x) Lib.objectInit) (cond (Nat.beq kd 25) (Lib.MathLoose.abs_long.x) Lib.objectInit))))
def zspk (kd : Nat) : Bool := Nat.beq kd 6 || (Nat.beq kd 7 || (Nat.beq kd 8 || Nat.blt 19 kd))
def zspc (o i : Nat) : Bool := match zmth o i with
  | none => true
  | some e => cond (zspk e.2) (decide (lw_tbl[zspW o i]? = some (Cond.methodLink (zcn o) i (zspN e.2)))) true
theorem zspc_all : ∀ o, o < 17 → ∀ i, i < 600 → zspc o i = true := by decide +kernel
theorem zsp_ok {o i : Nat} {e : Nat × Nat} (ho : o < 17) (h : zmth o i = some e) (hk : zspk e.2 = true) : Cond.methodLink (zcn o) i (zspN e.2) ∈ zW0 := by
  have hc := zspc_all o ho i (zmth_lt h)
  unfold zspc at hc
  rw [h] at hc
  simp only [hk, cond_true, decide_eq_true_eq] at hc
  exact zin _ hc rfl
set_option maxRecDepth 100000 in
theorem zwAs : Cond.static arraycopyName ∈ zW0 := zin 598 rfl rfl
set_option maxRecDepth 100000 in
theorem zwAn0 : lw_tbl[599]? = some (Cond.native arraycopyName) := rfl
theorem zwAn : Cond.native arraycopyName ∈ zoddW := List.mem_filter.mpr ⟨List.mem_of_getElem? zwAn0, rfl⟩
set_option maxRecDepth 100000 in
theorem zwAi : Cond.initialized "java/lang/System" ∈ zW0 := zin 138 rfl rfl
set_option maxRecDepth 100000 in
theorem zwOi : Cond.instanceMethod Lib.objectInit ∈ zW0 := zin 148 rfl rfl
set_option maxRecDepth 100000 in
theorem zwOc : Cond.code Lib.objectInit ⟨#[0xb1]⟩ 1 none ∈ zW0 := zin 149 rfl rfl
set_option maxRecDepth 100000 in
theorem zwMi : Cond.initialized "java/lang/Math" ∈ zW0 := zin 140 rfl rfl
set_option maxRecDepth 100000 in
theorem zwMs20 : Cond.static Lib.Math.max.name ∈ zW0 := zin 541 rfl rfl
set_option maxRecDepth 100000 in
theorem zwMc20 : Cond.code Lib.Math.max.name Lib.Math.max.code 2 (some .int) ∈ zW0 := zin 542 rfl rfl
set_option maxRecDepth 100000 in
theorem zwMs21 : Cond.static Lib.Math.min.name ∈ zW0 := zin 605 rfl rfl
set_option maxRecDepth 100000 in
theorem zwMc21 : Cond.code Lib.Math.min.name Lib.Math.min.code 2 (some .int) ∈ zW0 := zin 606 rfl rfl
set_option maxRecDepth 100000 in
theorem zwMs22 : Cond.static Lib.Math.abs.name ∈ zW0 := zin 689 rfl rfl
set_option maxRecDepth 100000 in
theorem zwMc22 : Cond.code Lib.Math.abs.name Lib.Math.abs.code 1 (some .int) ∈ zW0 := zin 690 rfl rfl
set_option maxRecDepth 100000 in
theorem zwMs23 : Cond.static Lib.MathLoose.max_long.x ∈ zW0 := zin 626 rfl rfl
set_option maxRecDepth 100000 in
theorem zwMc23 : Cond.code Lib.MathLoose.max_long.x Lib.MathLoose.max_long.code 4 (some .long) ∈ zW0 := zin 627 rfl rfl
set_option maxRecDepth 100000 in
theorem zwMs24 : Cond.static Lib.MathLoose.min_long.x ∈ zW0 := zin 623 rfl rfl
set_option maxRecDepth 100000 in
theorem zwMc24 : Cond.code Lib.MathLoose.min_long.x Lib.MathLoose.min_long.code 4 (some .long) ∈ zW0 := zin 624 rfl rfl
set_option maxRecDepth 100000 in
theorem zwMs25 : Cond.static Lib.MathLoose.abs_long.x ∈ zW0 := zin 559 rfl rfl
set_option maxRecDepth 100000 in
theorem zwMc25 : Cond.code Lib.MathLoose.abs_long.x Lib.MathLoose.abs_long.code 2 (some .long) ∈ zW0 := zin 560 rfl rfl
set_option maxRecDepth 100000 in
theorem zwRs : Cond.sameMethod "CirclePacker$Word" "java/lang/Enum" "ordinal" "()I" ∈ zW0 := zin 1128 rfl rfl
set_option maxRecDepth 100000 in
theorem zwRl : Cond.selects "CirclePacker$Word" ⟨"CirclePacker$Word", "ordinal", "()I"⟩ ⟨"java/lang/Enum", "ordinal", "()I"⟩ ∈ zW0 := zin 1130 rfl rfl
set_option maxRecDepth 100000 in
theorem zwRi : Cond.instanceMethod ⟨"java/lang/Enum", "ordinal", "()I"⟩ ∈ zW0 := zin 1131 rfl rfl
/-- Enum.ordinal -/
abbrev zKO : Nat := 341
theorem zgoodIn {ws : List Cond} (h : ∀ w ∈ ws, w ∈ zW0) : GoodIn zW0 ws := fun w hw => ⟨h w hw, good_of_word (List.mem_filter.mp (h w hw)).2⟩
theorem zgood0 {w : Cond} (h : w ∈ lw_tbl) (hg : goodWord w = true) : w ∈ zW0 := List.mem_filter.mpr ⟨h, hg⟩
/-- callees by the nest and constructors have no handlers -/
def znxc (o i : Nat) : Bool := match zmth o i with
  | none => true
  | some e => cond (Nat.ble 10 e.2 && Nat.blt e.2 20 || Nat.beq e.2 2) (List.isEmpty (zex e.1)) true
theorem znxc_all : ∀ o, o < 17 → ∀ i, i < 600 → znxc o i = true := by decide +kernel
theorem znx_ok {o i : Nat} {e : Nat × Nat} (h : zmth o i = some e) (ho : o < 17) (hk : (Nat.ble 10 e.2 && Nat.blt e.2 20 || Nat.beq e.2 2) = true) : zex e.1 = [] := by
  have hc := znxc_all o ho i (zmth_lt h)
  unfold znxc at hc
  rw [h] at hc
  simp only [hk, cond_true] at hc
  exact List.isEmpty_iff.mp hc
