/-! ===== what lw_tbl says of each method and each call (written by wip/whole/gen_all.py) ===== -/
def zW0 : List Cond := lw_tbl.filter goodWord
theorem zin {w : Cond} (i : Nat) (h : lw_tbl[i]? = some w) (hg : goodWord w = true) : w ∈ zW0 := List.mem_filter.mpr ⟨List.mem_of_getElem? h, hg⟩
def zcodeW (k : Nat) : Cond := cond (List.isEmpty (zex k)) (Cond.code (zyn k) (zby k) (zmL k) (zret k)) (Cond.codeWith (zyn k) (zby k) (zmL k) (zret k) (zexT k))
def zrtc (g : Nat) (r : Option FieldType) : Bool := match r with
  | none => Nat.beq g 0
  | some .int => Nat.beq g 1
  | some .byte => Nat.beq g 1
  | some .long => Nat.beq g 2
  | some (.object _) => Nat.beq g 3
  | some .boolean => Nat.beq g 4
  | _ => false
/-- what the tables say of a method -/
def zMF (k : Nat) : Prop := zcodeW k ∈ zW0 ∧ Cond.initialized (zyn k).cls ∈ zW0 ∧ (zyn k).cls = zcn (zown k) ∧ zrtc (zrt k) (zret k) = true ∧ (parseMethodDescriptor (zyn k).desc).map (fun d => d.parameters.length) = some (znp k) ∧ (zown k ≠ 14 → plainName (zyn k).cls = true) ∧ ((zyn k).cls ≠ "java/lang/invoke/MethodHandle" ∧ (zyn k).cls ≠ "java/lang/invoke/VarHandle")
/-- what they say of how it is called -/
def zMK (k : Nat) : Prop := (zkd k = 0 → Cond.instanceMethod (zyn k) ∈ zW0 ∧ Cond.selects (zyn k).cls (zyn k) (zyn k) ∈ zW0) ∧ (zkd k = 1 → Cond.static (zyn k) ∈ zW0) ∧ (zkd k = 2 → Cond.instanceMethod (zyn k) ∈ zW0 ∧ (zyn k).name = "<init>")
set_option maxRecDepth 100000 in
theorem zm0 : zMF 0 := ⟨zin 386 rfl rfl, zin 130 rfl rfl, rfl, rfl, by decide +kernel, fun _ => by decide +kernel, by decide +kernel, by decide +kernel⟩
set_option maxRecDepth 100000 in
theorem zn0 : zMK 0 := ⟨(fun h => absurd h (by decide +kernel)), (fun h => absurd h (by decide +kernel)), (fun _ => ⟨zin 385 rfl rfl, rfl⟩)⟩
set_option maxRecDepth 100000 in
theorem zm1 : zMF 1 := ⟨zin 592 rfl rfl, zin 130 rfl rfl, rfl, rfl, by decide +kernel, fun _ => by decide +kernel, by decide +kernel, by decide +kernel⟩
set_option maxRecDepth 100000 in
theorem zn1 : zMK 1 := ⟨(fun _ => ⟨zin 591 rfl rfl, zin 5 rfl rfl⟩), (fun h => absurd h (by decide +kernel)), (fun h => absurd h (by decide +kernel))⟩
set_option maxRecDepth 100000 in
theorem zm2 : zMF 2 := ⟨zin 588 rfl rfl, zin 130 rfl rfl, rfl, rfl, by decide +kernel, fun _ => by decide +kernel, by decide +kernel, by decide +kernel⟩
set_option maxRecDepth 100000 in
theorem zn2 : zMK 2 := ⟨(fun _ => ⟨zin 586 rfl rfl, zin 587 rfl rfl⟩), (fun h => absurd h (by decide +kernel)), (fun h => absurd h (by decide +kernel))⟩
set_option maxRecDepth 100000 in
theorem zm3 : zMF 3 := ⟨zin 603 rfl rfl, zin 130 rfl rfl, rfl, rfl, by decide +kernel, fun _ => by decide +kernel, by decide +kernel, by decide +kernel⟩
set_option maxRecDepth 100000 in
theorem zn3 : zMK 3 := ⟨(fun _ => ⟨zin 601 rfl rfl, zin 602 rfl rfl⟩), (fun h => absurd h (by decide +kernel)), (fun h => absurd h (by decide +kernel))⟩
set_option maxRecDepth 100000 in
theorem zm4 : zMF 4 := ⟨zin 769 rfl rfl, zin 130 rfl rfl, rfl, rfl, by decide +kernel, fun _ => by decide +kernel, by decide +kernel, by decide +kernel⟩
set_option maxRecDepth 100000 in
theorem zn4 : zMK 4 := ⟨(fun _ => ⟨zin 767 rfl rfl, zin 768 rfl rfl⟩), (fun h => absurd h (by decide +kernel)), (fun h => absurd h (by decide +kernel))⟩
set_option maxRecDepth 100000 in
theorem zm5 : zMF 5 := ⟨zin 1038 rfl rfl, zin 130 rfl rfl, rfl, rfl, by decide +kernel, fun _ => by decide +kernel, by decide +kernel, by decide +kernel⟩
set_option maxRecDepth 100000 in
theorem zn5 : zMK 5 := ⟨(fun _ => ⟨zin 1036 rfl rfl, zin 1037 rfl rfl⟩), (fun h => absurd h (by decide +kernel)), (fun h => absurd h (by decide +kernel))⟩
set_option maxRecDepth 100000 in
theorem zm6 : zMF 6 := ⟨zin 373 rfl rfl, zin 129 rfl rfl, rfl, rfl, by decide +kernel, fun _ => by decide +kernel, by decide +kernel, by decide +kernel⟩
set_option maxRecDepth 100000 in
theorem zn6 : zMK 6 := ⟨(fun h => absurd h (by decide +kernel)), (fun h => absurd h (by decide +kernel)), (fun _ => ⟨zin 372 rfl rfl, rfl⟩)⟩
set_option maxRecDepth 100000 in
theorem zm7 : zMF 7 := ⟨zin 1150 rfl rfl, zin 129 rfl rfl, rfl, rfl, by decide +kernel, fun _ => by decide +kernel, by decide +kernel, by decide +kernel⟩
set_option maxRecDepth 100000 in
theorem zn7 : zMK 7 := ⟨(fun _ => ⟨zin 1148 rfl rfl, zin 1149 rfl rfl⟩), (fun h => absurd h (by decide +kernel)), (fun h => absurd h (by decide +kernel))⟩
set_option maxRecDepth 100000 in
theorem zm8 : zMF 8 := ⟨zin 1176 rfl rfl, zin 129 rfl rfl, rfl, rfl, by decide +kernel, fun _ => by decide +kernel, by decide +kernel, by decide +kernel⟩
set_option maxRecDepth 100000 in
theorem zn8 : zMK 8 := ⟨(fun _ => ⟨zin 1175 rfl rfl, zin 32 rfl rfl⟩), (fun h => absurd h (by decide +kernel)), (fun h => absurd h (by decide +kernel))⟩
set_option maxRecDepth 100000 in
theorem zm9 : zMF 9 := ⟨zin 708 rfl rfl, zin 129 rfl rfl, rfl, rfl, by decide +kernel, fun _ => by decide +kernel, by decide +kernel, by decide +kernel⟩
set_option maxRecDepth 100000 in
theorem zn9 : zMK 9 := ⟨(fun _ => ⟨zin 707 rfl rfl, zin 7 rfl rfl⟩), (fun h => absurd h (by decide +kernel)), (fun h => absurd h (by decide +kernel))⟩
set_option maxRecDepth 100000 in
theorem zm10 : zMF 10 := ⟨zin 1166 rfl rfl, zin 129 rfl rfl, rfl, rfl, by decide +kernel, fun _ => by decide +kernel, by decide +kernel, by decide +kernel⟩
set_option maxRecDepth 100000 in
theorem zn10 : zMK 10 := ⟨(fun _ => ⟨zin 1165 rfl rfl, zin 30 rfl rfl⟩), (fun h => absurd h (by decide +kernel)), (fun h => absurd h (by decide +kernel))⟩
set_option maxRecDepth 100000 in
theorem zm11 : zMF 11 := ⟨zin 1170 rfl rfl, zin 129 rfl rfl, rfl, rfl, by decide +kernel, fun _ => by decide +kernel, by decide +kernel, by decide +kernel⟩
set_option maxRecDepth 100000 in
theorem zn11 : zMK 11 := ⟨(fun _ => ⟨zin 1169 rfl rfl, zin 31 rfl rfl⟩), (fun h => absurd h (by decide +kernel)), (fun h => absurd h (by decide +kernel))⟩
set_option maxRecDepth 100000 in
theorem zm12 : zMF 12 := ⟨zin 704 rfl rfl, zin 129 rfl rfl, rfl, rfl, by decide +kernel, fun _ => by decide +kernel, by decide +kernel, by decide +kernel⟩
set_option maxRecDepth 100000 in
theorem zn12 : zMK 12 := ⟨(fun _ => ⟨zin 702 rfl rfl, zin 703 rfl rfl⟩), (fun h => absurd h (by decide +kernel)), (fun h => absurd h (by decide +kernel))⟩
set_option maxRecDepth 100000 in
theorem zm13 : zMF 13 := ⟨zin 677 rfl rfl, zin 129 rfl rfl, rfl, rfl, by decide +kernel, fun _ => by decide +kernel, by decide +kernel, by decide +kernel⟩
set_option maxRecDepth 100000 in
theorem zn13 : zMK 13 := ⟨(fun _ => ⟨zin 675 rfl rfl, zin 676 rfl rfl⟩), (fun h => absurd h (by decide +kernel)), (fun h => absurd h (by decide +kernel))⟩
set_option maxRecDepth 100000 in
theorem zm14 : zMF 14 := ⟨zin 661 rfl rfl, zin 129 rfl rfl, rfl, rfl, by decide +kernel, fun _ => by decide +kernel, by decide +kernel, by decide +kernel⟩
set_option maxRecDepth 100000 in
theorem zn14 : zMK 14 := ⟨(fun _ => ⟨zin 660 rfl rfl, zin 6 rfl rfl⟩), (fun h => absurd h (by decide +kernel)), (fun h => absurd h (by decide +kernel))⟩
set_option maxRecDepth 100000 in
theorem zm15 : zMF 15 := ⟨zin 657 rfl rfl, zin 129 rfl rfl, rfl, rfl, by decide +kernel, fun _ => by decide +kernel, by decide +kernel, by decide +kernel⟩
set_option maxRecDepth 100000 in
theorem zn15 : zMK 15 := ⟨(fun _ => ⟨zin 655 rfl rfl, zin 656 rfl rfl⟩), (fun h => absurd h (by decide +kernel)), (fun h => absurd h (by decide +kernel))⟩
set_option maxRecDepth 100000 in
theorem zm16 : zMF 16 := ⟨zin 1485 rfl rfl, zin 129 rfl rfl, rfl, rfl, by decide +kernel, fun _ => by decide +kernel, by decide +kernel, by decide +kernel⟩
set_option maxRecDepth 100000 in
theorem zn16 : zMK 16 := ⟨(fun _ => ⟨zin 1483 rfl rfl, zin 1484 rfl rfl⟩), (fun h => absurd h (by decide +kernel)), (fun h => absurd h (by decide +kernel))⟩
set_option maxRecDepth 100000 in
theorem zm17 : zMF 17 := ⟨zin 716 rfl rfl, zin 129 rfl rfl, rfl, rfl, by decide +kernel, fun _ => by decide +kernel, by decide +kernel, by decide +kernel⟩
set_option maxRecDepth 100000 in
theorem zn17 : zMK 17 := ⟨(fun _ => ⟨zin 714 rfl rfl, zin 715 rfl rfl⟩), (fun h => absurd h (by decide +kernel)), (fun h => absurd h (by decide +kernel))⟩
set_option maxRecDepth 100000 in
theorem zm18 : zMF 18 := ⟨zin 1529 rfl rfl, zin 129 rfl rfl, rfl, rfl, by decide +kernel, fun _ => by decide +kernel, by decide +kernel, by decide +kernel⟩
set_option maxRecDepth 100000 in
theorem zn18 : zMK 18 := ⟨(fun _ => ⟨zin 1527 rfl rfl, zin 1528 rfl rfl⟩), (fun h => absurd h (by decide +kernel)), (fun h => absurd h (by decide +kernel))⟩
set_option maxRecDepth 100000 in
theorem zm19 : zMF 19 := ⟨zin 733 rfl rfl, zin 129 rfl rfl, rfl, rfl, by decide +kernel, fun _ => by decide +kernel, by decide +kernel, by decide +kernel⟩
set_option maxRecDepth 100000 in
theorem zn19 : zMK 19 := ⟨(fun _ => ⟨zin 731 rfl rfl, zin 732 rfl rfl⟩), (fun h => absurd h (by decide +kernel)), (fun h => absurd h (by decide +kernel))⟩
set_option maxRecDepth 100000 in
theorem zm20 : zMF 20 := ⟨zin 1546 rfl rfl, zin 129 rfl rfl, rfl, rfl, by decide +kernel, fun _ => by decide +kernel, by decide +kernel, by decide +kernel⟩
set_option maxRecDepth 100000 in
theorem zn20 : zMK 20 := ⟨(fun _ => ⟨zin 1544 rfl rfl, zin 1545 rfl rfl⟩), (fun h => absurd h (by decide +kernel)), (fun h => absurd h (by decide +kernel))⟩
set_option maxRecDepth 100000 in
theorem zm21 : zMF 21 := ⟨zin 216 rfl rfl, zin 123 rfl rfl, rfl, rfl, by decide +kernel, fun _ => by decide +kernel, by decide +kernel, by decide +kernel⟩
set_option maxRecDepth 100000 in
theorem zn21 : zMK 21 := ⟨(fun h => absurd h (by decide +kernel)), (fun h => absurd h (by decide +kernel)), (fun _ => ⟨zin 215 rfl rfl, rfl⟩)⟩
set_option maxRecDepth 100000 in
theorem zm22 : zMF 22 := ⟨zin 221 rfl rfl, zin 123 rfl rfl, rfl, rfl, by decide +kernel, fun _ => by decide +kernel, by decide +kernel, by decide +kernel⟩
set_option maxRecDepth 100000 in
theorem zn22 : zMK 22 := ⟨(fun _ => ⟨zin 219 rfl rfl, zin 220 rfl rfl⟩), (fun h => absurd h (by decide +kernel)), (fun h => absurd h (by decide +kernel))⟩
set_option maxRecDepth 100000 in
theorem zm23 : zMF 23 := ⟨zin 778 rfl rfl, zin 123 rfl rfl, rfl, rfl, by decide +kernel, fun _ => by decide +kernel, by decide +kernel, by decide +kernel⟩
set_option maxRecDepth 100000 in
theorem zn23 : zMK 23 := ⟨(fun _ => ⟨zin 776 rfl rfl, zin 777 rfl rfl⟩), (fun h => absurd h (by decide +kernel)), (fun h => absurd h (by decide +kernel))⟩
set_option maxRecDepth 100000 in
theorem zm24 : zMF 24 := ⟨zin 969 rfl rfl, zin 123 rfl rfl, rfl, rfl, by decide +kernel, fun _ => by decide +kernel, by decide +kernel, by decide +kernel⟩
set_option maxRecDepth 100000 in
theorem zn24 : zMK 24 := ⟨(fun _ => ⟨zin 967 rfl rfl, zin 968 rfl rfl⟩), (fun h => absurd h (by decide +kernel)), (fun h => absurd h (by decide +kernel))⟩
set_option maxRecDepth 100000 in
theorem zm25 : zMF 25 := ⟨zin 985 rfl rfl, zin 123 rfl rfl, rfl, rfl, by decide +kernel, fun _ => by decide +kernel, by decide +kernel, by decide +kernel⟩
set_option maxRecDepth 100000 in
theorem zn25 : zMK 25 := ⟨(fun _ => ⟨zin 983 rfl rfl, zin 984 rfl rfl⟩), (fun h => absurd h (by decide +kernel)), (fun h => absurd h (by decide +kernel))⟩
set_option maxRecDepth 100000 in
theorem zm26 : zMF 26 := ⟨zin 989 rfl rfl, zin 123 rfl rfl, rfl, rfl, by decide +kernel, fun _ => by decide +kernel, by decide +kernel, by decide +kernel⟩
set_option maxRecDepth 100000 in
theorem zn26 : zMK 26 := ⟨(fun _ => ⟨zin 988 rfl rfl, zin 15 rfl rfl⟩), (fun h => absurd h (by decide +kernel)), (fun h => absurd h (by decide +kernel))⟩
set_option maxRecDepth 100000 in
theorem zm27 : zMF 27 := ⟨zin 490 rfl rfl, zin 123 rfl rfl, rfl, rfl, by decide +kernel, fun _ => by decide +kernel, by decide +kernel, by decide +kernel⟩
set_option maxRecDepth 100000 in
theorem zn27 : zMK 27 := ⟨(fun h => absurd h (by decide +kernel)), (fun _ => zin 489 rfl rfl), (fun h => absurd h (by decide +kernel))⟩
set_option maxRecDepth 100000 in
theorem zm28 : zMF 28 := ⟨zin 957 rfl rfl, zin 123 rfl rfl, rfl, rfl, by decide +kernel, fun _ => by decide +kernel, by decide +kernel, by decide +kernel⟩
set_option maxRecDepth 100000 in
theorem zn28 : zMK 28 := ⟨(fun _ => ⟨zin 955 rfl rfl, zin 956 rfl rfl⟩), (fun h => absurd h (by decide +kernel)), (fun h => absurd h (by decide +kernel))⟩
set_option maxRecDepth 100000 in
theorem zm29 : zMF 29 := ⟨zin 743 rfl rfl, zin 123 rfl rfl, rfl, rfl, by decide +kernel, fun _ => by decide +kernel, by decide +kernel, by decide +kernel⟩
set_option maxRecDepth 100000 in
theorem zn29 : zMK 29 := ⟨(fun _ => ⟨zin 741 rfl rfl, zin 742 rfl rfl⟩), (fun h => absurd h (by decide +kernel)), (fun h => absurd h (by decide +kernel))⟩
set_option maxRecDepth 100000 in
theorem zm30 : zMF 30 := ⟨zin 522 rfl rfl, zin 123 rfl rfl, rfl, rfl, by decide +kernel, fun _ => by decide +kernel, by decide +kernel, by decide +kernel⟩
set_option maxRecDepth 100000 in
theorem zn30 : zMK 30 := ⟨(fun _ => ⟨zin 520 rfl rfl, zin 521 rfl rfl⟩), (fun h => absurd h (by decide +kernel)), (fun h => absurd h (by decide +kernel))⟩
set_option maxRecDepth 100000 in
theorem zm31 : zMF 31 := ⟨zin 510 rfl rfl, zin 123 rfl rfl, rfl, rfl, by decide +kernel, fun _ => by decide +kernel, by decide +kernel, by decide +kernel⟩
set_option maxRecDepth 100000 in
theorem zn31 : zMK 31 := ⟨(fun _ => ⟨zin 508 rfl rfl, zin 509 rfl rfl⟩), (fun h => absurd h (by decide +kernel)), (fun h => absurd h (by decide +kernel))⟩
set_option maxRecDepth 100000 in
theorem zm32 : zMF 32 := ⟨zin 1030 rfl rfl, zin 123 rfl rfl, rfl, rfl, by decide +kernel, fun _ => by decide +kernel, by decide +kernel, by decide +kernel⟩
set_option maxRecDepth 100000 in
theorem zn32 : zMK 32 := ⟨(fun _ => ⟨zin 1028 rfl rfl, zin 1029 rfl rfl⟩), (fun h => absurd h (by decide +kernel)), (fun h => absurd h (by decide +kernel))⟩
set_option maxRecDepth 100000 in
theorem zm33 : zMF 33 := ⟨zin 712 rfl rfl, zin 123 rfl rfl, rfl, rfl, by decide +kernel, fun _ => by decide +kernel, by decide +kernel, by decide +kernel⟩
set_option maxRecDepth 100000 in
theorem zn33 : zMK 33 := ⟨(fun _ => ⟨zin 710 rfl rfl, zin 711 rfl rfl⟩), (fun h => absurd h (by decide +kernel)), (fun h => absurd h (by decide +kernel))⟩
set_option maxRecDepth 100000 in
theorem zm34 : zMF 34 := ⟨zin 673 rfl rfl, zin 123 rfl rfl, rfl, rfl, by decide +kernel, fun _ => by decide +kernel, by decide +kernel, by decide +kernel⟩
set_option maxRecDepth 100000 in
theorem zn34 : zMK 34 := ⟨(fun _ => ⟨zin 671 rfl rfl, zin 672 rfl rfl⟩), (fun h => absurd h (by decide +kernel)), (fun h => absurd h (by decide +kernel))⟩
set_option maxRecDepth 100000 in
theorem zm35 : zMF 35 := ⟨zin 669 rfl rfl, zin 123 rfl rfl, rfl, rfl, by decide +kernel, fun _ => by decide +kernel, by decide +kernel, by decide +kernel⟩
set_option maxRecDepth 100000 in
theorem zn35 : zMK 35 := ⟨(fun _ => ⟨zin 667 rfl rfl, zin 668 rfl rfl⟩), (fun h => absurd h (by decide +kernel)), (fun h => absurd h (by decide +kernel))⟩
set_option maxRecDepth 100000 in
theorem zm36 : zMF 36 := ⟨zin 487 rfl rfl, zin 123 rfl rfl, rfl, rfl, by decide +kernel, fun _ => by decide +kernel, by decide +kernel, by decide +kernel⟩
set_option maxRecDepth 100000 in
theorem zn36 : zMK 36 := ⟨(fun _ => ⟨zin 485 rfl rfl, zin 486 rfl rfl⟩), (fun h => absurd h (by decide +kernel)), (fun h => absurd h (by decide +kernel))⟩
set_option maxRecDepth 100000 in
theorem zm37 : zMF 37 := ⟨zin 494 rfl rfl, zin 123 rfl rfl, rfl, rfl, by decide +kernel, fun _ => by decide +kernel, by decide +kernel, by decide +kernel⟩
set_option maxRecDepth 100000 in
theorem zn37 : zMK 37 := ⟨(fun _ => ⟨zin 492 rfl rfl, zin 493 rfl rfl⟩), (fun h => absurd h (by decide +kernel)), (fun h => absurd h (by decide +kernel))⟩
set_option maxRecDepth 100000 in
theorem zm38 : zMF 38 := ⟨zin 1300 rfl rfl, zin 123 rfl rfl, rfl, rfl, by decide +kernel, fun _ => by decide +kernel, by decide +kernel, by decide +kernel⟩
set_option maxRecDepth 100000 in
theorem zn38 : zMK 38 := ⟨(fun _ => ⟨zin 1298 rfl rfl, zin 1299 rfl rfl⟩), (fun h => absurd h (by decide +kernel)), (fun h => absurd h (by decide +kernel))⟩
set_option maxRecDepth 100000 in
theorem zm39 : zMF 39 := ⟨zin 534 rfl rfl, zin 123 rfl rfl, rfl, rfl, by decide +kernel, fun _ => by decide +kernel, by decide +kernel, by decide +kernel⟩
set_option maxRecDepth 100000 in
theorem zn39 : zMK 39 := ⟨(fun _ => ⟨zin 532 rfl rfl, zin 533 rfl rfl⟩), (fun h => absurd h (by decide +kernel)), (fun h => absurd h (by decide +kernel))⟩
set_option maxRecDepth 100000 in
theorem zm40 : zMF 40 := ⟨zin 1003 rfl rfl, zin 123 rfl rfl, rfl, rfl, by decide +kernel, fun _ => by decide +kernel, by decide +kernel, by decide +kernel⟩
set_option maxRecDepth 100000 in
theorem zn40 : zMK 40 := ⟨(fun _ => ⟨zin 1001 rfl rfl, zin 1002 rfl rfl⟩), (fun h => absurd h (by decide +kernel)), (fun h => absurd h (by decide +kernel))⟩
set_option maxRecDepth 100000 in
theorem zm41 : zMF 41 := ⟨zin 1007 rfl rfl, zin 123 rfl rfl, rfl, rfl, by decide +kernel, fun _ => by decide +kernel, by decide +kernel, by decide +kernel⟩
set_option maxRecDepth 100000 in
theorem zn41 : zMK 41 := ⟨(fun _ => ⟨zin 1006 rfl rfl, zin 17 rfl rfl⟩), (fun h => absurd h (by decide +kernel)), (fun h => absurd h (by decide +kernel))⟩
set_option maxRecDepth 100000 in
theorem zm42 : zMF 42 := ⟨zin 1011 rfl rfl, zin 123 rfl rfl, rfl, rfl, by decide +kernel, fun _ => by decide +kernel, by decide +kernel, by decide +kernel⟩
set_option maxRecDepth 100000 in
theorem zn42 : zMK 42 := ⟨(fun _ => ⟨zin 1010 rfl rfl, zin 18 rfl rfl⟩), (fun h => absurd h (by decide +kernel)), (fun h => absurd h (by decide +kernel))⟩
set_option maxRecDepth 100000 in
theorem zm43 : zMF 43 := ⟨zin 1016 rfl rfl, zin 123 rfl rfl, rfl, rfl, by decide +kernel, fun _ => by decide +kernel, by decide +kernel, by decide +kernel⟩
set_option maxRecDepth 100000 in
theorem zn43 : zMK 43 := ⟨(fun _ => ⟨zin 1015 rfl rfl, zin 19 rfl rfl⟩), (fun h => absurd h (by decide +kernel)), (fun h => absurd h (by decide +kernel))⟩
set_option maxRecDepth 100000 in
theorem zm44 : zMF 44 := ⟨zin 1021 rfl rfl, zin 123 rfl rfl, rfl, rfl, by decide +kernel, fun _ => by decide +kernel, by decide +kernel, by decide +kernel⟩
set_option maxRecDepth 100000 in
theorem zn44 : zMK 44 := ⟨(fun _ => ⟨zin 1020 rfl rfl, zin 20 rfl rfl⟩), (fun h => absurd h (by decide +kernel)), (fun h => absurd h (by decide +kernel))⟩
set_option maxRecDepth 100000 in
theorem zm45 : zMF 45 := ⟨zin 274 rfl rfl, zin 125 rfl rfl, rfl, rfl, by decide +kernel, fun _ => by decide +kernel, by decide +kernel, by decide +kernel⟩
set_option maxRecDepth 100000 in
theorem zn45 : zMK 45 := ⟨(fun h => absurd h (by decide +kernel)), (fun h => absurd h (by decide +kernel)), (fun _ => ⟨zin 273 rfl rfl, rfl⟩)⟩
set_option maxRecDepth 100000 in
theorem zm46 : zMF 46 := ⟨zin 894 rfl rfl, zin 125 rfl rfl, rfl, rfl, by decide +kernel, fun _ => by decide +kernel, by decide +kernel, by decide +kernel⟩
set_option maxRecDepth 100000 in
theorem zn46 : zMK 46 := ⟨(fun _ => ⟨zin 892 rfl rfl, zin 893 rfl rfl⟩), (fun h => absurd h (by decide +kernel)), (fun h => absurd h (by decide +kernel))⟩
set_option maxRecDepth 100000 in
theorem zm47 : zMF 47 := ⟨zin 936 rfl rfl, zin 125 rfl rfl, rfl, rfl, by decide +kernel, fun _ => by decide +kernel, by decide +kernel, by decide +kernel⟩
set_option maxRecDepth 100000 in
theorem zn47 : zMK 47 := ⟨(fun _ => ⟨zin 935 rfl rfl, zin 12 rfl rfl⟩), (fun h => absurd h (by decide +kernel)), (fun h => absurd h (by decide +kernel))⟩
set_option maxRecDepth 100000 in
theorem zm48 : zMF 48 := ⟨zin 942 rfl rfl, zin 125 rfl rfl, rfl, rfl, by decide +kernel, fun _ => by decide +kernel, by decide +kernel, by decide +kernel⟩
set_option maxRecDepth 100000 in
theorem zn48 : zMK 48 := ⟨(fun _ => ⟨zin 941 rfl rfl, zin 13 rfl rfl⟩), (fun h => absurd h (by decide +kernel)), (fun h => absurd h (by decide +kernel))⟩
set_option maxRecDepth 100000 in
theorem zm49 : zMF 49 := ⟨zin 975 rfl rfl, zin 125 rfl rfl, rfl, rfl, by decide +kernel, fun _ => by decide +kernel, by decide +kernel, by decide +kernel⟩
set_option maxRecDepth 100000 in
theorem zn49 : zMK 49 := ⟨(fun _ => ⟨zin 974 rfl rfl, zin 14 rfl rfl⟩), (fun h => absurd h (by decide +kernel)), (fun h => absurd h (by decide +kernel))⟩
set_option maxRecDepth 100000 in
theorem zm50 : zMF 50 := ⟨zin 995 rfl rfl, zin 125 rfl rfl, rfl, rfl, by decide +kernel, fun _ => by decide +kernel, by decide +kernel, by decide +kernel⟩
set_option maxRecDepth 100000 in
theorem zn50 : zMK 50 := ⟨(fun _ => ⟨zin 994 rfl rfl, zin 16 rfl rfl⟩), (fun h => absurd h (by decide +kernel)), (fun h => absurd h (by decide +kernel))⟩
set_option maxRecDepth 100000 in
theorem zm51 : zMF 51 := ⟨zin 334 rfl rfl, zin 127 rfl rfl, rfl, rfl, by decide +kernel, fun _ => by decide +kernel, by decide +kernel, by decide +kernel⟩
set_option maxRecDepth 100000 in
theorem zn51 : zMK 51 := ⟨(fun h => absurd h (by decide +kernel)), (fun h => absurd h (by decide +kernel)), (fun _ => ⟨zin 333 rfl rfl, rfl⟩)⟩
set_option maxRecDepth 100000 in
theorem zm52 : zMF 52 := ⟨zin 1026 rfl rfl, zin 127 rfl rfl, rfl, rfl, by decide +kernel, fun _ => by decide +kernel, by decide +kernel, by decide +kernel⟩
set_option maxRecDepth 100000 in
theorem zn52 : zMK 52 := ⟨(fun _ => ⟨zin 1024 rfl rfl, zin 1025 rfl rfl⟩), (fun h => absurd h (by decide +kernel)), (fun h => absurd h (by decide +kernel))⟩
set_option maxRecDepth 100000 in
theorem zm53 : zMF 53 := ⟨zin 596 rfl rfl, zin 127 rfl rfl, rfl, rfl, by decide +kernel, fun _ => by decide +kernel, by decide +kernel, by decide +kernel⟩
set_option maxRecDepth 100000 in
theorem zn53 : zMK 53 := ⟨(fun _ => ⟨zin 594 rfl rfl, zin 595 rfl rfl⟩), (fun h => absurd h (by decide +kernel)), (fun h => absurd h (by decide +kernel))⟩
set_option maxRecDepth 100000 in
theorem zm54 : zMF 54 := ⟨zin 634 rfl rfl, zin 127 rfl rfl, rfl, rfl, by decide +kernel, fun _ => by decide +kernel, by decide +kernel, by decide +kernel⟩
set_option maxRecDepth 100000 in
theorem zn54 : zMK 54 := ⟨(fun h => absurd h (by decide +kernel)), (fun _ => zin 633 rfl rfl), (fun h => absurd h (by decide +kernel))⟩
set_option maxRecDepth 100000 in
theorem zm55 : zMF 55 := ⟨zin 502 rfl rfl, zin 127 rfl rfl, rfl, rfl, by decide +kernel, fun _ => by decide +kernel, by decide +kernel, by decide +kernel⟩
set_option maxRecDepth 100000 in
theorem zn55 : zMK 55 := ⟨(fun _ => ⟨zin 500 rfl rfl, zin 501 rfl rfl⟩), (fun h => absurd h (by decide +kernel)), (fun h => absurd h (by decide +kernel))⟩
set_option maxRecDepth 100000 in
theorem zm56 : zMF 56 := ⟨zin 631 rfl rfl, zin 127 rfl rfl, rfl, rfl, by decide +kernel, fun _ => by decide +kernel, by decide +kernel, by decide +kernel⟩
set_option maxRecDepth 100000 in
theorem zn56 : zMK 56 := ⟨(fun _ => ⟨zin 629 rfl rfl, zin 630 rfl rfl⟩), (fun h => absurd h (by decide +kernel)), (fun h => absurd h (by decide +kernel))⟩
set_option maxRecDepth 100000 in
theorem zm57 : zMF 57 := ⟨zin 498 rfl rfl, zin 127 rfl rfl, rfl, rfl, by decide +kernel, fun _ => by decide +kernel, by decide +kernel, by decide +kernel⟩
set_option maxRecDepth 100000 in
theorem zn57 : zMK 57 := ⟨(fun _ => ⟨zin 496 rfl rfl, zin 497 rfl rfl⟩), (fun h => absurd h (by decide +kernel)), (fun h => absurd h (by decide +kernel))⟩
set_option maxRecDepth 100000 in
theorem zm58 : zMF 58 := ⟨zin 665 rfl rfl, zin 127 rfl rfl, rfl, rfl, by decide +kernel, fun _ => by decide +kernel, by decide +kernel, by decide +kernel⟩
set_option maxRecDepth 100000 in
theorem zn58 : zMK 58 := ⟨(fun _ => ⟨zin 663 rfl rfl, zin 664 rfl rfl⟩), (fun h => absurd h (by decide +kernel)), (fun h => absurd h (by decide +kernel))⟩
set_option maxRecDepth 100000 in
theorem zm59 : zMF 59 := ⟨zin 681 rfl rfl, zin 127 rfl rfl, rfl, rfl, by decide +kernel, fun _ => by decide +kernel, by decide +kernel, by decide +kernel⟩
set_option maxRecDepth 100000 in
theorem zn59 : zMK 59 := ⟨(fun _ => ⟨zin 679 rfl rfl, zin 680 rfl rfl⟩), (fun h => absurd h (by decide +kernel)), (fun h => absurd h (by decide +kernel))⟩
set_option maxRecDepth 100000 in
theorem zm60 : zMF 60 := ⟨zin 685 rfl rfl, zin 127 rfl rfl, rfl, rfl, by decide +kernel, fun _ => by decide +kernel, by decide +kernel, by decide +kernel⟩
set_option maxRecDepth 100000 in
theorem zn60 : zMK 60 := ⟨(fun _ => ⟨zin 683 rfl rfl, zin 684 rfl rfl⟩), (fun h => absurd h (by decide +kernel)), (fun h => absurd h (by decide +kernel))⟩
set_option maxRecDepth 100000 in
theorem zm61 : zMF 61 := ⟨zin 649 rfl rfl, zin 127 rfl rfl, rfl, rfl, by decide +kernel, fun _ => by decide +kernel, by decide +kernel, by decide +kernel⟩
set_option maxRecDepth 100000 in
theorem zn61 : zMK 61 := ⟨(fun _ => ⟨zin 647 rfl rfl, zin 648 rfl rfl⟩), (fun h => absurd h (by decide +kernel)), (fun h => absurd h (by decide +kernel))⟩
set_option maxRecDepth 100000 in
theorem zm62 : zMF 62 := ⟨zin 1034 rfl rfl, zin 127 rfl rfl, rfl, rfl, by decide +kernel, fun _ => by decide +kernel, by decide +kernel, by decide +kernel⟩
set_option maxRecDepth 100000 in
theorem zn62 : zMK 62 := ⟨(fun _ => ⟨zin 1032 rfl rfl, zin 1033 rfl rfl⟩), (fun h => absurd h (by decide +kernel)), (fun h => absurd h (by decide +kernel))⟩
set_option maxRecDepth 100000 in
theorem zm63 : zMF 63 := ⟨zin 1155 rfl rfl, zin 127 rfl rfl, rfl, rfl, by decide +kernel, fun _ => by decide +kernel, by decide +kernel, by decide +kernel⟩
set_option maxRecDepth 100000 in
theorem zn63 : zMK 63 := ⟨(fun _ => ⟨zin 1153 rfl rfl, zin 1154 rfl rfl⟩), (fun h => absurd h (by decide +kernel)), (fun h => absurd h (by decide +kernel))⟩
set_option maxRecDepth 100000 in
theorem zm64 : zMF 64 := ⟨zin 1158 rfl rfl, zin 127 rfl rfl, rfl, rfl, by decide +kernel, fun _ => by decide +kernel, by decide +kernel, by decide +kernel⟩
set_option maxRecDepth 100000 in
theorem zn64 : zMK 64 := ⟨(fun h => absurd h (by decide +kernel)), (fun _ => zin 1157 rfl rfl), (fun h => absurd h (by decide +kernel))⟩
set_option maxRecDepth 100000 in
theorem zm65 : zMF 65 := ⟨zin 1506 rfl rfl, zin 127 rfl rfl, rfl, rfl, by decide +kernel, fun _ => by decide +kernel, by decide +kernel, by decide +kernel⟩
set_option maxRecDepth 100000 in
theorem zn65 : zMK 65 := ⟨(fun _ => ⟨zin 1504 rfl rfl, zin 1505 rfl rfl⟩), (fun h => absurd h (by decide +kernel)), (fun h => absurd h (by decide +kernel))⟩
set_option maxRecDepth 100000 in
theorem zm66 : zMF 66 := ⟨zin 1509 rfl rfl, zin 127 rfl rfl, rfl, rfl, by decide +kernel, fun _ => by decide +kernel, by decide +kernel, by decide +kernel⟩
set_option maxRecDepth 100000 in
theorem zn66 : zMK 66 := ⟨(fun h => absurd h (by decide +kernel)), (fun _ => zin 1508 rfl rfl), (fun h => absurd h (by decide +kernel))⟩
set_option maxRecDepth 100000 in
theorem zm67 : zMF 67 := ⟨zin 1516 rfl rfl, zin 127 rfl rfl, rfl, rfl, by decide +kernel, fun _ => by decide +kernel, by decide +kernel, by decide +kernel⟩
set_option maxRecDepth 100000 in
theorem zn67 : zMK 67 := ⟨(fun _ => ⟨zin 1514 rfl rfl, zin 1515 rfl rfl⟩), (fun h => absurd h (by decide +kernel)), (fun h => absurd h (by decide +kernel))⟩
set_option maxRecDepth 100000 in
theorem zm68 : zMF 68 := ⟨zin 724 rfl rfl, zin 127 rfl rfl, rfl, rfl, by decide +kernel, fun _ => by decide +kernel, by decide +kernel, by decide +kernel⟩
set_option maxRecDepth 100000 in
theorem zn68 : zMK 68 := ⟨(fun _ => ⟨zin 722 rfl rfl, zin 723 rfl rfl⟩), (fun h => absurd h (by decide +kernel)), (fun h => absurd h (by decide +kernel))⟩
set_option maxRecDepth 100000 in
theorem zm69 : zMF 69 := ⟨zin 406 rfl rfl, zin 131 rfl rfl, rfl, rfl, by decide +kernel, fun _ => by decide +kernel, by decide +kernel, by decide +kernel⟩
set_option maxRecDepth 100000 in
theorem zn69 : zMK 69 := ⟨(fun h => absurd h (by decide +kernel)), (fun h => absurd h (by decide +kernel)), (fun _ => ⟨zin 405 rfl rfl, rfl⟩)⟩
set_option maxRecDepth 100000 in
theorem zm70 : zMF 70 := ⟨zin 1558 rfl rfl, zin 131 rfl rfl, rfl, rfl, by decide +kernel, fun _ => by decide +kernel, by decide +kernel, by decide +kernel⟩
set_option maxRecDepth 100000 in
theorem zn70 : zMK 70 := ⟨(fun _ => ⟨zin 1556 rfl rfl, zin 1557 rfl rfl⟩), (fun h => absurd h (by decide +kernel)), (fun h => absurd h (by decide +kernel))⟩
set_option maxRecDepth 100000 in
theorem zm71 : zMF 71 := ⟨zin 751 rfl rfl, zin 131 rfl rfl, rfl, rfl, by decide +kernel, fun _ => by decide +kernel, by decide +kernel, by decide +kernel⟩
set_option maxRecDepth 100000 in
theorem zn71 : zMK 71 := ⟨(fun _ => ⟨zin 749 rfl rfl, zin 750 rfl rfl⟩), (fun h => absurd h (by decide +kernel)), (fun h => absurd h (by decide +kernel))⟩
set_option maxRecDepth 100000 in
theorem zm72 : zMF 72 := ⟨zin 747 rfl rfl, zin 131 rfl rfl, rfl, rfl, by decide +kernel, fun _ => by decide +kernel, by decide +kernel, by decide +kernel⟩
set_option maxRecDepth 100000 in
theorem zn72 : zMK 72 := ⟨(fun _ => ⟨zin 745 rfl rfl, zin 746 rfl rfl⟩), (fun h => absurd h (by decide +kernel)), (fun h => absurd h (by decide +kernel))⟩
set_option maxRecDepth 100000 in
theorem zm73 : zMF 73 := ⟨zin 756 rfl rfl, zin 131 rfl rfl, rfl, rfl, by decide +kernel, fun _ => by decide +kernel, by decide +kernel, by decide +kernel⟩
set_option maxRecDepth 100000 in
theorem zn73 : zMK 73 := ⟨(fun _ => ⟨zin 754 rfl rfl, zin 755 rfl rfl⟩), (fun h => absurd h (by decide +kernel)), (fun h => absurd h (by decide +kernel))⟩
set_option maxRecDepth 100000 in
theorem zm74 : zMF 74 := ⟨zin 297 rfl rfl, zin 126 rfl rfl, rfl, rfl, by decide +kernel, fun _ => by decide +kernel, by decide +kernel, by decide +kernel⟩
set_option maxRecDepth 100000 in
theorem zn74 : zMK 74 := ⟨(fun h => absurd h (by decide +kernel)), (fun h => absurd h (by decide +kernel)), (fun _ => ⟨zin 296 rfl rfl, rfl⟩)⟩
set_option maxRecDepth 100000 in
theorem zm75 : zMF 75 := ⟨zin 1049 rfl rfl, zin 126 rfl rfl, rfl, rfl, by decide +kernel, fun _ => by decide +kernel, by decide +kernel, by decide +kernel⟩
set_option maxRecDepth 100000 in
theorem zn75 : zMK 75 := ⟨(fun _ => ⟨zin 1047 rfl rfl, zin 1048 rfl rfl⟩), (fun h => absurd h (by decide +kernel)), (fun h => absurd h (by decide +kernel))⟩
set_option maxRecDepth 100000 in
theorem zm76 : zMF 76 := ⟨zin 1054 rfl rfl, zin 126 rfl rfl, rfl, rfl, by decide +kernel, fun _ => by decide +kernel, by decide +kernel, by decide +kernel⟩
set_option maxRecDepth 100000 in
theorem zn76 : zMK 76 := ⟨(fun _ => ⟨zin 1053 rfl rfl, zin 21 rfl rfl⟩), (fun h => absurd h (by decide +kernel)), (fun h => absurd h (by decide +kernel))⟩
set_option maxRecDepth 100000 in
theorem zm77 : zMF 77 := ⟨zin 1069 rfl rfl, zin 126 rfl rfl, rfl, rfl, by decide +kernel, fun _ => by decide +kernel, by decide +kernel, by decide +kernel⟩
set_option maxRecDepth 100000 in
theorem zn77 : zMK 77 := ⟨(fun h => absurd h (by decide +kernel)), (fun _ => zin 1068 rfl rfl), (fun h => absurd h (by decide +kernel))⟩
set_option maxRecDepth 100000 in
theorem zm78 : zMF 78 := ⟨zin 1088 rfl rfl, zin 126 rfl rfl, rfl, rfl, by decide +kernel, fun _ => by decide +kernel, by decide +kernel, by decide +kernel⟩
set_option maxRecDepth 100000 in
theorem zn78 : zMK 78 := ⟨(fun _ => ⟨zin 1087 rfl rfl, zin 24 rfl rfl⟩), (fun h => absurd h (by decide +kernel)), (fun h => absurd h (by decide +kernel))⟩
set_option maxRecDepth 100000 in
theorem zm79 : zMF 79 := ⟨zin 1058 rfl rfl, zin 126 rfl rfl, rfl, rfl, by decide +kernel, fun _ => by decide +kernel, by decide +kernel, by decide +kernel⟩
set_option maxRecDepth 100000 in
theorem zn79 : zMK 79 := ⟨(fun _ => ⟨zin 1057 rfl rfl, zin 22 rfl rfl⟩), (fun h => absurd h (by decide +kernel)), (fun h => absurd h (by decide +kernel))⟩
set_option maxRecDepth 100000 in
theorem zm80 : zMF 80 := ⟨zin 1093 rfl rfl, zin 126 rfl rfl, rfl, rfl, by decide +kernel, fun _ => by decide +kernel, by decide +kernel, by decide +kernel⟩
set_option maxRecDepth 100000 in
theorem zn80 : zMK 80 := ⟨(fun _ => ⟨zin 1092 rfl rfl, zin 25 rfl rfl⟩), (fun h => absurd h (by decide +kernel)), (fun h => absurd h (by decide +kernel))⟩
set_option maxRecDepth 100000 in
theorem zm81 : zMF 81 := ⟨zin 1064 rfl rfl, zin 126 rfl rfl, rfl, rfl, by decide +kernel, fun _ => by decide +kernel, by decide +kernel, by decide +kernel⟩
set_option maxRecDepth 100000 in
theorem zn81 : zMK 81 := ⟨(fun _ => ⟨zin 1063 rfl rfl, zin 23 rfl rfl⟩), (fun h => absurd h (by decide +kernel)), (fun h => absurd h (by decide +kernel))⟩
set_option maxRecDepth 100000 in
theorem zm82 : zMF 82 := ⟨zin 1104 rfl rfl, zin 126 rfl rfl, rfl, rfl, by decide +kernel, fun _ => by decide +kernel, by decide +kernel, by decide +kernel⟩
set_option maxRecDepth 100000 in
theorem zn82 : zMK 82 := ⟨(fun _ => ⟨zin 1102 rfl rfl, zin 1103 rfl rfl⟩), (fun h => absurd h (by decide +kernel)), (fun h => absurd h (by decide +kernel))⟩
set_option maxRecDepth 100000 in
theorem zm83 : zMF 83 := ⟨zin 1108 rfl rfl, zin 126 rfl rfl, rfl, rfl, by decide +kernel, fun _ => by decide +kernel, by decide +kernel, by decide +kernel⟩
set_option maxRecDepth 100000 in
theorem zn83 : zMK 83 := ⟨(fun _ => ⟨zin 1107 rfl rfl, zin 26 rfl rfl⟩), (fun h => absurd h (by decide +kernel)), (fun h => absurd h (by decide +kernel))⟩
set_option maxRecDepth 100000 in
theorem zm84 : zMF 84 := ⟨zin 1126 rfl rfl, zin 126 rfl rfl, rfl, rfl, by decide +kernel, fun _ => by decide +kernel, by decide +kernel, by decide +kernel⟩
set_option maxRecDepth 100000 in
theorem zn84 : zMK 84 := ⟨(fun _ => ⟨zin 1124 rfl rfl, zin 1125 rfl rfl⟩), (fun h => absurd h (by decide +kernel)), (fun h => absurd h (by decide +kernel))⟩
set_option maxRecDepth 100000 in
theorem zm85 : zMF 85 := ⟨zin 1116 rfl rfl, zin 126 rfl rfl, rfl, rfl, by decide +kernel, fun _ => by decide +kernel, by decide +kernel, by decide +kernel⟩
set_option maxRecDepth 100000 in
theorem zn85 : zMK 85 := ⟨(fun _ => ⟨zin 1114 rfl rfl, zin 1115 rfl rfl⟩), (fun h => absurd h (by decide +kernel)), (fun h => absurd h (by decide +kernel))⟩
set_option maxRecDepth 100000 in
theorem zm86 : zMF 86 := ⟨zin 1120 rfl rfl, zin 126 rfl rfl, rfl, rfl, by decide +kernel, fun _ => by decide +kernel, by decide +kernel, by decide +kernel⟩
set_option maxRecDepth 100000 in
theorem zn86 : zMK 86 := ⟨(fun _ => ⟨zin 1118 rfl rfl, zin 1119 rfl rfl⟩), (fun h => absurd h (by decide +kernel)), (fun h => absurd h (by decide +kernel))⟩
set_option maxRecDepth 100000 in
theorem zm87 : zMF 87 := ⟨zin 360 rfl rfl, zin 128 rfl rfl, rfl, rfl, by decide +kernel, fun _ => by decide +kernel, by decide +kernel, by decide +kernel⟩
set_option maxRecDepth 100000 in
theorem zn87 : zMK 87 := ⟨(fun h => absurd h (by decide +kernel)), (fun h => absurd h (by decide +kernel)), (fun _ => ⟨zin 359 rfl rfl, rfl⟩)⟩
set_option maxRecDepth 100000 in
theorem zm88 : zMF 88 := ⟨zin 545 rfl rfl, zin 128 rfl rfl, rfl, rfl, by decide +kernel, fun _ => by decide +kernel, by decide +kernel, by decide +kernel⟩
set_option maxRecDepth 100000 in
theorem zn88 : zMK 88 := ⟨(fun h => absurd h (by decide +kernel)), (fun _ => zin 544 rfl rfl), (fun h => absurd h (by decide +kernel))⟩
set_option maxRecDepth 100000 in
theorem zm89 : zMF 89 := ⟨zin 579 rfl rfl, zin 128 rfl rfl, rfl, rfl, by decide +kernel, fun _ => by decide +kernel, by decide +kernel, by decide +kernel⟩
set_option maxRecDepth 100000 in
theorem zn89 : zMK 89 := ⟨(fun _ => ⟨zin 577 rfl rfl, zin 578 rfl rfl⟩), (fun h => absurd h (by decide +kernel)), (fun h => absurd h (by decide +kernel))⟩
set_option maxRecDepth 100000 in
theorem zm90 : zMF 90 := ⟨zin 529 rfl rfl, zin 128 rfl rfl, rfl, rfl, by decide +kernel, fun _ => by decide +kernel, by decide +kernel, by decide +kernel⟩
set_option maxRecDepth 100000 in
theorem zn90 : zMK 90 := ⟨(fun _ => ⟨zin 528 rfl rfl, zin 3 rfl rfl⟩), (fun h => absurd h (by decide +kernel)), (fun h => absurd h (by decide +kernel))⟩
set_option maxRecDepth 100000 in
theorem zm91 : zMF 91 := ⟨zin 539 rfl rfl, zin 128 rfl rfl, rfl, rfl, by decide +kernel, fun _ => by decide +kernel, by decide +kernel, by decide +kernel⟩
set_option maxRecDepth 100000 in
theorem zn91 : zMK 91 := ⟨(fun _ => ⟨zin 538 rfl rfl, zin 4 rfl rfl⟩), (fun h => absurd h (by decide +kernel)), (fun h => absurd h (by decide +kernel))⟩
set_option maxRecDepth 100000 in
theorem zm92 : zMF 92 := ⟨zin 518 rfl rfl, zin 128 rfl rfl, rfl, rfl, by decide +kernel, fun _ => by decide +kernel, by decide +kernel, by decide +kernel⟩
set_option maxRecDepth 100000 in
theorem zn92 : zMK 92 := ⟨(fun _ => ⟨zin 516 rfl rfl, zin 517 rfl rfl⟩), (fun h => absurd h (by decide +kernel)), (fun h => absurd h (by decide +kernel))⟩
set_option maxRecDepth 100000 in
theorem zm93 : zMF 93 := ⟨zin 514 rfl rfl, zin 128 rfl rfl, rfl, rfl, by decide +kernel, fun _ => by decide +kernel, by decide +kernel, by decide +kernel⟩
set_option maxRecDepth 100000 in
theorem zn93 : zMK 93 := ⟨(fun _ => ⟨zin 512 rfl rfl, zin 513 rfl rfl⟩), (fun h => absurd h (by decide +kernel)), (fun h => absurd h (by decide +kernel))⟩
set_option maxRecDepth 100000 in
theorem zm94 : zMF 94 := ⟨zin 568 rfl rfl, zin 128 rfl rfl, rfl, rfl, by decide +kernel, fun _ => by decide +kernel, by decide +kernel, by decide +kernel⟩
set_option maxRecDepth 100000 in
theorem zn94 : zMK 94 := ⟨(fun _ => ⟨zin 566 rfl rfl, zin 567 rfl rfl⟩), (fun h => absurd h (by decide +kernel)), (fun h => absurd h (by decide +kernel))⟩
set_option maxRecDepth 100000 in
theorem zm95 : zMF 95 := ⟨zin 618 rfl rfl, zin 128 rfl rfl, rfl, rfl, by decide +kernel, fun _ => by decide +kernel, by decide +kernel, by decide +kernel⟩
set_option maxRecDepth 100000 in
theorem zn95 : zMK 95 := ⟨(fun _ => ⟨zin 616 rfl rfl, zin 617 rfl rfl⟩), (fun h => absurd h (by decide +kernel)), (fun h => absurd h (by decide +kernel))⟩
set_option maxRecDepth 100000 in
theorem zm96 : zMF 96 := ⟨zin 614 rfl rfl, zin 128 rfl rfl, rfl, rfl, by decide +kernel, fun _ => by decide +kernel, by decide +kernel, by decide +kernel⟩
set_option maxRecDepth 100000 in
theorem zn96 : zMK 96 := ⟨(fun _ => ⟨zin 612 rfl rfl, zin 613 rfl rfl⟩), (fun h => absurd h (by decide +kernel)), (fun h => absurd h (by decide +kernel))⟩
set_option maxRecDepth 100000 in
theorem zm97 : zMF 97 := ⟨zin 610 rfl rfl, zin 128 rfl rfl, rfl, rfl, by decide +kernel, fun _ => by decide +kernel, by decide +kernel, by decide +kernel⟩
set_option maxRecDepth 100000 in
theorem zn97 : zMK 97 := ⟨(fun _ => ⟨zin 608 rfl rfl, zin 609 rfl rfl⟩), (fun h => absurd h (by decide +kernel)), (fun h => absurd h (by decide +kernel))⟩
set_option maxRecDepth 100000 in
theorem zm98 : zMF 98 := ⟨zin 1141 rfl rfl, zin 128 rfl rfl, rfl, rfl, by decide +kernel, fun _ => by decide +kernel, by decide +kernel, by decide +kernel⟩
set_option maxRecDepth 100000 in
theorem zn98 : zMK 98 := ⟨(fun _ => ⟨zin 1139 rfl rfl, zin 1140 rfl rfl⟩), (fun h => absurd h (by decide +kernel)), (fun h => absurd h (by decide +kernel))⟩
set_option maxRecDepth 100000 in
theorem zm99 : zMF 99 := ⟨zin 1181 rfl rfl, zin 128 rfl rfl, rfl, rfl, by decide +kernel, fun _ => by decide +kernel, by decide +kernel, by decide +kernel⟩
set_option maxRecDepth 100000 in
theorem zn99 : zMK 99 := ⟨(fun _ => ⟨zin 1179 rfl rfl, zin 1180 rfl rfl⟩), (fun h => absurd h (by decide +kernel)), (fun h => absurd h (by decide +kernel))⟩
set_option maxRecDepth 100000 in
theorem zm100 : zMF 100 := ⟨zin 1393 rfl rfl, zin 128 rfl rfl, rfl, rfl, by decide +kernel, fun _ => by decide +kernel, by decide +kernel, by decide +kernel⟩
set_option maxRecDepth 100000 in
theorem zn100 : zMK 100 := ⟨(fun _ => ⟨zin 1391 rfl rfl, zin 1392 rfl rfl⟩), (fun h => absurd h (by decide +kernel)), (fun h => absurd h (by decide +kernel))⟩
set_option maxRecDepth 100000 in
theorem zm101 : zMF 101 := ⟨zin 1404 rfl rfl, zin 128 rfl rfl, rfl, rfl, by decide +kernel, fun _ => by decide +kernel, by decide +kernel, by decide +kernel⟩
set_option maxRecDepth 100000 in
theorem zn101 : zMK 101 := ⟨(fun _ => ⟨zin 1402 rfl rfl, zin 1403 rfl rfl⟩), (fun h => absurd h (by decide +kernel)), (fun h => absurd h (by decide +kernel))⟩
set_option maxRecDepth 100000 in
theorem zm102 : zMF 102 := ⟨zin 1420 rfl rfl, zin 128 rfl rfl, rfl, rfl, by decide +kernel, fun _ => by decide +kernel, by decide +kernel, by decide +kernel⟩
set_option maxRecDepth 100000 in
theorem zn102 : zMK 102 := ⟨(fun _ => ⟨zin 1418 rfl rfl, zin 1419 rfl rfl⟩), (fun h => absurd h (by decide +kernel)), (fun h => absurd h (by decide +kernel))⟩
set_option maxRecDepth 100000 in
theorem zm103 : zMF 103 := ⟨zin 1433 rfl rfl, zin 128 rfl rfl, rfl, rfl, by decide +kernel, fun _ => by decide +kernel, by decide +kernel, by decide +kernel⟩
set_option maxRecDepth 100000 in
theorem zn103 : zMK 103 := ⟨(fun _ => ⟨zin 1431 rfl rfl, zin 1432 rfl rfl⟩), (fun h => absurd h (by decide +kernel)), (fun h => absurd h (by decide +kernel))⟩
set_option maxRecDepth 100000 in
theorem zm104 : zMF 104 := ⟨zin 154 rfl rfl, zin 119 rfl rfl, rfl, rfl, by decide +kernel, fun _ => by decide +kernel, by decide +kernel, by decide +kernel⟩
set_option maxRecDepth 100000 in
theorem zn104 : zMK 104 := ⟨(fun h => absurd h (by decide +kernel)), (fun h => absurd h (by decide +kernel)), (fun _ => ⟨zin 153 rfl rfl, rfl⟩)⟩
set_option maxRecDepth 100000 in
theorem zm105 : zMF 105 := ⟨zin 859 rfl rfl, zin 119 rfl rfl, rfl, rfl, by decide +kernel, fun _ => by decide +kernel, by decide +kernel, by decide +kernel⟩
set_option maxRecDepth 100000 in
theorem zn105 : zMK 105 := ⟨(fun _ => ⟨zin 857 rfl rfl, zin 858 rfl rfl⟩), (fun h => absurd h (by decide +kernel)), (fun h => absurd h (by decide +kernel))⟩
set_option maxRecDepth 100000 in
theorem zm106 : zMF 106 := ⟨zin 911 rfl rfl, zin 119 rfl rfl, rfl, rfl, by decide +kernel, fun _ => by decide +kernel, by decide +kernel, by decide +kernel⟩
set_option maxRecDepth 100000 in
theorem zn106 : zMK 106 := ⟨(fun _ => ⟨zin 909 rfl rfl, zin 910 rfl rfl⟩), (fun h => absurd h (by decide +kernel)), (fun h => absurd h (by decide +kernel))⟩
set_option maxRecDepth 100000 in
theorem zm107 : zMF 107 := ⟨zin 170 rfl rfl, zin 120 rfl rfl, rfl, rfl, by decide +kernel, fun _ => by decide +kernel, by decide +kernel, by decide +kernel⟩
set_option maxRecDepth 100000 in
theorem zn107 : zMK 107 := ⟨(fun h => absurd h (by decide +kernel)), (fun h => absurd h (by decide +kernel)), (fun _ => ⟨zin 169 rfl rfl, rfl⟩)⟩
set_option maxRecDepth 100000 in
theorem zm108 : zMF 108 := ⟨zin 899 rfl rfl, zin 120 rfl rfl, rfl, rfl, by decide +kernel, fun _ => by decide +kernel, by decide +kernel, by decide +kernel⟩
set_option maxRecDepth 100000 in
theorem zn108 : zMK 108 := ⟨(fun _ => ⟨zin 897 rfl rfl, zin 898 rfl rfl⟩), (fun h => absurd h (by decide +kernel)), (fun h => absurd h (by decide +kernel))⟩
set_option maxRecDepth 100000 in
theorem zm109 : zMF 109 := ⟨zin 903 rfl rfl, zin 120 rfl rfl, rfl, rfl, by decide +kernel, fun _ => by decide +kernel, by decide +kernel, by decide +kernel⟩
set_option maxRecDepth 100000 in
theorem zn109 : zMK 109 := ⟨(fun _ => ⟨zin 901 rfl rfl, zin 902 rfl rfl⟩), (fun h => absurd h (by decide +kernel)), (fun h => absurd h (by decide +kernel))⟩
set_option maxRecDepth 100000 in
theorem zm110 : zMF 110 := ⟨zin 946 rfl rfl, zin 120 rfl rfl, rfl, rfl, by decide +kernel, fun _ => by decide +kernel, by decide +kernel, by decide +kernel⟩
set_option maxRecDepth 100000 in
theorem zn110 : zMK 110 := ⟨(fun _ => ⟨zin 944 rfl rfl, zin 945 rfl rfl⟩), (fun h => absurd h (by decide +kernel)), (fun h => absurd h (by decide +kernel))⟩
set_option maxRecDepth 100000 in
theorem zm111 : zMF 111 := ⟨zin 999 rfl rfl, zin 120 rfl rfl, rfl, rfl, by decide +kernel, fun _ => by decide +kernel, by decide +kernel, by decide +kernel⟩
set_option maxRecDepth 100000 in
theorem zn111 : zMK 111 := ⟨(fun _ => ⟨zin 997 rfl rfl, zin 998 rfl rfl⟩), (fun h => absurd h (by decide +kernel)), (fun h => absurd h (by decide +kernel))⟩
set_option maxRecDepth 100000 in
theorem zm112 : zMF 112 := ⟨zin 963 rfl rfl, zin 120 rfl rfl, rfl, rfl, by decide +kernel, fun _ => by decide +kernel, by decide +kernel, by decide +kernel⟩
set_option maxRecDepth 100000 in
theorem zn112 : zMK 112 := ⟨(fun _ => ⟨zin 961 rfl rfl, zin 962 rfl rfl⟩), (fun h => absurd h (by decide +kernel)), (fun h => absurd h (by decide +kernel))⟩
set_option maxRecDepth 100000 in
theorem zm113 : zMF 113 := ⟨zin 951 rfl rfl, zin 120 rfl rfl, rfl, rfl, by decide +kernel, fun _ => by decide +kernel, by decide +kernel, by decide +kernel⟩
set_option maxRecDepth 100000 in
theorem zn113 : zMK 113 := ⟨(fun _ => ⟨zin 949 rfl rfl, zin 950 rfl rfl⟩), (fun h => absurd h (by decide +kernel)), (fun h => absurd h (by decide +kernel))⟩
set_option maxRecDepth 100000 in
theorem zm114 : zMF 114 := ⟨zin 979 rfl rfl, zin 120 rfl rfl, rfl, rfl, by decide +kernel, fun _ => by decide +kernel, by decide +kernel, by decide +kernel⟩
set_option maxRecDepth 100000 in
theorem zn114 : zMK 114 := ⟨(fun _ => ⟨zin 977 rfl rfl, zin 978 rfl rfl⟩), (fun h => absurd h (by decide +kernel)), (fun h => absurd h (by decide +kernel))⟩
set_option maxRecDepth 100000 in
theorem zm115 : zMF 115 := ⟨zin 907 rfl rfl, zin 120 rfl rfl, rfl, rfl, by decide +kernel, fun _ => by decide +kernel, by decide +kernel, by decide +kernel⟩
set_option maxRecDepth 100000 in
theorem zn115 : zMK 115 := ⟨(fun _ => ⟨zin 906 rfl rfl, zin 9 rfl rfl⟩), (fun h => absurd h (by decide +kernel)), (fun h => absurd h (by decide +kernel))⟩
set_option maxRecDepth 100000 in
theorem zm116 : zMF 116 := ⟨zin 918 rfl rfl, zin 120 rfl rfl, rfl, rfl, by decide +kernel, fun _ => by decide +kernel, by decide +kernel, by decide +kernel⟩
set_option maxRecDepth 100000 in
theorem zn116 : zMK 116 := ⟨(fun _ => ⟨zin 917 rfl rfl, zin 10 rfl rfl⟩), (fun h => absurd h (by decide +kernel)), (fun h => absurd h (by decide +kernel))⟩
set_option maxRecDepth 100000 in
theorem zm117 : zMF 117 := ⟨zin 932 rfl rfl, zin 120 rfl rfl, rfl, rfl, by decide +kernel, fun _ => by decide +kernel, by decide +kernel, by decide +kernel⟩
set_option maxRecDepth 100000 in
theorem zn117 : zMK 117 := ⟨(fun _ => ⟨zin 931 rfl rfl, zin 11 rfl rfl⟩), (fun h => absurd h (by decide +kernel)), (fun h => absurd h (by decide +kernel))⟩
set_option maxRecDepth 100000 in
theorem zm118 : zMF 118 := ⟨zin 914 rfl rfl, zin 120 rfl rfl, rfl, rfl, by decide +kernel, fun _ => by decide +kernel, by decide +kernel, by decide +kernel⟩
set_option maxRecDepth 100000 in
theorem zn118 : zMK 118 := ⟨(fun h => absurd h (by decide +kernel)), (fun _ => zin 913 rfl rfl), (fun h => absurd h (by decide +kernel))⟩
set_option maxRecDepth 100000 in
theorem zm119 : zMF 119 := ⟨zin 928 rfl rfl, zin 120 rfl rfl, rfl, rfl, by decide +kernel, fun _ => by decide +kernel, by decide +kernel, by decide +kernel⟩
set_option maxRecDepth 100000 in
theorem zn119 : zMK 119 := ⟨(fun h => absurd h (by decide +kernel)), (fun _ => zin 927 rfl rfl), (fun h => absurd h (by decide +kernel))⟩
set_option maxRecDepth 100000 in
theorem zm120 : zMF 120 := ⟨zin 1099 rfl rfl, zin 122 rfl rfl, rfl, rfl, by decide +kernel, fun _ => by decide +kernel, by decide +kernel, by decide +kernel⟩
set_option maxRecDepth 100000 in
theorem zn120 : zMK 120 := ⟨(fun _ => ⟨zin 1097 rfl rfl, zin 1098 rfl rfl⟩), (fun h => absurd h (by decide +kernel)), (fun h => absurd h (by decide +kernel))⟩
set_option maxRecDepth 100000 in
theorem zm121 : zMF 121 := ⟨zin 921 rfl rfl, zin 122 rfl rfl, rfl, rfl, by decide +kernel, fun _ => by decide +kernel, by decide +kernel, by decide +kernel⟩
set_option maxRecDepth 100000 in
theorem zn121 : zMK 121 := ⟨(fun h => absurd h (by decide +kernel)), (fun _ => zin 920 rfl rfl), (fun h => absurd h (by decide +kernel))⟩
set_option maxRecDepth 100000 in
theorem zm122 : zMF 122 := ⟨zin 146 rfl rfl, zin 118 rfl rfl, rfl, rfl, by decide +kernel, fun _ => by decide +kernel, by decide +kernel, by decide +kernel⟩
set_option maxRecDepth 100000 in
theorem zn122 : zMK 122 := ⟨(fun h => absurd h (by decide +kernel)), (fun h => absurd h (by decide +kernel)), (fun _ => ⟨zin 145 rfl rfl, rfl⟩)⟩
set_option maxRecDepth 100000 in
theorem zm123 : zMF 123 := ⟨zin 788 rfl rfl, zin 118 rfl rfl, rfl, rfl, by decide +kernel, fun _ => by decide +kernel, by decide +kernel, by decide +kernel⟩
set_option maxRecDepth 100000 in
theorem zn123 : zMK 123 := ⟨(fun _ => ⟨zin 786 rfl rfl, zin 787 rfl rfl⟩), (fun h => absurd h (by decide +kernel)), (fun h => absurd h (by decide +kernel))⟩
set_option maxRecDepth 100000 in
theorem zm124 : zMF 124 := ⟨zin 867 rfl rfl, zin 118 rfl rfl, rfl, rfl, by decide +kernel, fun _ => by decide +kernel, by decide +kernel, by decide +kernel⟩
set_option maxRecDepth 100000 in
theorem zn124 : zMK 124 := ⟨(fun _ => ⟨zin 865 rfl rfl, zin 866 rfl rfl⟩), (fun h => absurd h (by decide +kernel)), (fun h => absurd h (by decide +kernel))⟩
set_option maxRecDepth 100000 in
theorem zm125 : zMF 125 := ⟨zin 890 rfl rfl, zin 118 rfl rfl, rfl, rfl, by decide +kernel, fun _ => by decide +kernel, by decide +kernel, by decide +kernel⟩
set_option maxRecDepth 100000 in
theorem zn125 : zMK 125 := ⟨(fun _ => ⟨zin 888 rfl rfl, zin 889 rfl rfl⟩), (fun h => absurd h (by decide +kernel)), (fun h => absurd h (by decide +kernel))⟩
set_option maxRecDepth 100000 in
theorem zm126 : zMF 126 := ⟨zin 1045 rfl rfl, zin 118 rfl rfl, rfl, rfl, by decide +kernel, fun _ => by decide +kernel, by decide +kernel, by decide +kernel⟩
set_option maxRecDepth 100000 in
theorem zn126 : zMK 126 := ⟨(fun _ => ⟨zin 1043 rfl rfl, zin 1044 rfl rfl⟩), (fun h => absurd h (by decide +kernel)), (fun h => absurd h (by decide +kernel))⟩
set_option maxRecDepth 100000 in
theorem zm127 : zMF 127 := ⟨zin 462 rfl rfl, zin 118 rfl rfl, rfl, rfl, by decide +kernel, fun _ => by decide +kernel, by decide +kernel, by decide +kernel⟩
set_option maxRecDepth 100000 in
theorem zn127 : zMK 127 := ⟨(fun _ => ⟨zin 460 rfl rfl, zin 461 rfl rfl⟩), (fun h => absurd h (by decide +kernel)), (fun h => absurd h (by decide +kernel))⟩
set_option maxRecDepth 100000 in
theorem zm128 : zMF 128 := ⟨zin 466 rfl rfl, zin 118 rfl rfl, rfl, rfl, by decide +kernel, fun _ => by decide +kernel, by decide +kernel, by decide +kernel⟩
set_option maxRecDepth 100000 in
theorem zn128 : zMK 128 := ⟨(fun _ => ⟨zin 464 rfl rfl, zin 465 rfl rfl⟩), (fun h => absurd h (by decide +kernel)), (fun h => absurd h (by decide +kernel))⟩
set_option maxRecDepth 100000 in
theorem zm129 : zMF 129 := ⟨zin 1189 rfl rfl, zin 118 rfl rfl, rfl, rfl, by decide +kernel, fun _ => by decide +kernel, by decide +kernel, by decide +kernel⟩
set_option maxRecDepth 100000 in
theorem zn129 : zMK 129 := ⟨(fun _ => ⟨zin 1187 rfl rfl, zin 1188 rfl rfl⟩), (fun h => absurd h (by decide +kernel)), (fun h => absurd h (by decide +kernel))⟩
set_option maxRecDepth 100000 in
theorem zm130 : zMF 130 := ⟨zin 1211 rfl rfl, zin 118 rfl rfl, rfl, rfl, by decide +kernel, fun _ => by decide +kernel, by decide +kernel, by decide +kernel⟩
set_option maxRecDepth 100000 in
theorem zn130 : zMK 130 := ⟨(fun _ => ⟨zin 1209 rfl rfl, zin 1210 rfl rfl⟩), (fun h => absurd h (by decide +kernel)), (fun h => absurd h (by decide +kernel))⟩
set_option maxRecDepth 100000 in
theorem zm131 : zMF 131 := ⟨zin 1238 rfl rfl, zin 118 rfl rfl, rfl, rfl, by decide +kernel, fun _ => by decide +kernel, by decide +kernel, by decide +kernel⟩
set_option maxRecDepth 100000 in
theorem zn131 : zMK 131 := ⟨(fun _ => ⟨zin 1236 rfl rfl, zin 1237 rfl rfl⟩), (fun h => absurd h (by decide +kernel)), (fun h => absurd h (by decide +kernel))⟩
set_option maxRecDepth 100000 in
theorem zm132 : zMF 132 := ⟨zin 1246 rfl rfl, zin 118 rfl rfl, rfl, rfl, by decide +kernel, fun _ => by decide +kernel, by decide +kernel, by decide +kernel⟩
set_option maxRecDepth 100000 in
theorem zn132 : zMK 132 := ⟨(fun _ => ⟨zin 1244 rfl rfl, zin 1245 rfl rfl⟩), (fun h => absurd h (by decide +kernel)), (fun h => absurd h (by decide +kernel))⟩
set_option maxRecDepth 100000 in
theorem zm133 : zMF 133 := ⟨zin 1253 rfl rfl, zin 118 rfl rfl, rfl, rfl, by decide +kernel, fun _ => by decide +kernel, by decide +kernel, by decide +kernel⟩
set_option maxRecDepth 100000 in
theorem zn133 : zMK 133 := ⟨(fun _ => ⟨zin 1251 rfl rfl, zin 1252 rfl rfl⟩), (fun h => absurd h (by decide +kernel)), (fun h => absurd h (by decide +kernel))⟩
set_option maxRecDepth 100000 in
theorem zm134 : zMF 134 := ⟨zin 1260 rfl rfl, zin 118 rfl rfl, rfl, rfl, by decide +kernel, fun _ => by decide +kernel, by decide +kernel, by decide +kernel⟩
set_option maxRecDepth 100000 in
theorem zn134 : zMK 134 := ⟨(fun _ => ⟨zin 1258 rfl rfl, zin 1259 rfl rfl⟩), (fun h => absurd h (by decide +kernel)), (fun h => absurd h (by decide +kernel))⟩
set_option maxRecDepth 100000 in
theorem zm135 : zMF 135 := ⟨zin 1277 rfl rfl, zin 118 rfl rfl, rfl, rfl, by decide +kernel, fun _ => by decide +kernel, by decide +kernel, by decide +kernel⟩
set_option maxRecDepth 100000 in
theorem zn135 : zMK 135 := ⟨(fun _ => ⟨zin 1275 rfl rfl, zin 1276 rfl rfl⟩), (fun h => absurd h (by decide +kernel)), (fun h => absurd h (by decide +kernel))⟩
set_option maxRecDepth 100000 in
theorem zm136 : zMF 136 := ⟨zin 1285 rfl rfl, zin 118 rfl rfl, rfl, rfl, by decide +kernel, fun _ => by decide +kernel, by decide +kernel, by decide +kernel⟩
set_option maxRecDepth 100000 in
theorem zn136 : zMK 136 := ⟨(fun _ => ⟨zin 1283 rfl rfl, zin 1284 rfl rfl⟩), (fun h => absurd h (by decide +kernel)), (fun h => absurd h (by decide +kernel))⟩
set_option maxRecDepth 100000 in
theorem zm137 : zMF 137 := ⟨zin 470 rfl rfl, zin 118 rfl rfl, rfl, rfl, by decide +kernel, fun _ => by decide +kernel, by decide +kernel, by decide +kernel⟩
set_option maxRecDepth 100000 in
theorem zn137 : zMK 137 := ⟨(fun _ => ⟨zin 468 rfl rfl, zin 469 rfl rfl⟩), (fun h => absurd h (by decide +kernel)), (fun h => absurd h (by decide +kernel))⟩
set_option maxRecDepth 100000 in
theorem zm138 : zMF 138 := ⟨zin 1292 rfl rfl, zin 118 rfl rfl, rfl, rfl, by decide +kernel, fun _ => by decide +kernel, by decide +kernel, by decide +kernel⟩
set_option maxRecDepth 100000 in
theorem zn138 : zMK 138 := ⟨(fun _ => ⟨zin 1290 rfl rfl, zin 1291 rfl rfl⟩), (fun h => absurd h (by decide +kernel)), (fun h => absurd h (by decide +kernel))⟩
set_option maxRecDepth 100000 in
theorem zm139 : zMF 139 := ⟨zin 1309 rfl rfl, zin 118 rfl rfl, rfl, rfl, by decide +kernel, fun _ => by decide +kernel, by decide +kernel, by decide +kernel⟩
set_option maxRecDepth 100000 in
theorem zn139 : zMK 139 := ⟨(fun _ => ⟨zin 1307 rfl rfl, zin 1308 rfl rfl⟩), (fun h => absurd h (by decide +kernel)), (fun h => absurd h (by decide +kernel))⟩
set_option maxRecDepth 100000 in
theorem zm140 : zMF 140 := ⟨zin 1316 rfl rfl, zin 118 rfl rfl, rfl, rfl, by decide +kernel, fun _ => by decide +kernel, by decide +kernel, by decide +kernel⟩
set_option maxRecDepth 100000 in
theorem zn140 : zMK 140 := ⟨(fun _ => ⟨zin 1314 rfl rfl, zin 1315 rfl rfl⟩), (fun h => absurd h (by decide +kernel)), (fun h => absurd h (by decide +kernel))⟩
set_option maxRecDepth 100000 in
theorem zm141 : zMF 141 := ⟨zin 1323 rfl rfl, zin 118 rfl rfl, rfl, rfl, by decide +kernel, fun _ => by decide +kernel, by decide +kernel, by decide +kernel⟩
set_option maxRecDepth 100000 in
theorem zn141 : zMK 141 := ⟨(fun _ => ⟨zin 1321 rfl rfl, zin 1322 rfl rfl⟩), (fun h => absurd h (by decide +kernel)), (fun h => absurd h (by decide +kernel))⟩
set_option maxRecDepth 100000 in
theorem zm142 : zMF 142 := ⟨zin 1330 rfl rfl, zin 118 rfl rfl, rfl, rfl, by decide +kernel, fun _ => by decide +kernel, by decide +kernel, by decide +kernel⟩
set_option maxRecDepth 100000 in
theorem zn142 : zMK 142 := ⟨(fun _ => ⟨zin 1328 rfl rfl, zin 1329 rfl rfl⟩), (fun h => absurd h (by decide +kernel)), (fun h => absurd h (by decide +kernel))⟩
set_option maxRecDepth 100000 in
theorem zm143 : zMF 143 := ⟨zin 1338 rfl rfl, zin 118 rfl rfl, rfl, rfl, by decide +kernel, fun _ => by decide +kernel, by decide +kernel, by decide +kernel⟩
set_option maxRecDepth 100000 in
theorem zn143 : zMK 143 := ⟨(fun _ => ⟨zin 1336 rfl rfl, zin 1337 rfl rfl⟩), (fun h => absurd h (by decide +kernel)), (fun h => absurd h (by decide +kernel))⟩
set_option maxRecDepth 100000 in
theorem zm144 : zMF 144 := ⟨zin 1345 rfl rfl, zin 118 rfl rfl, rfl, rfl, by decide +kernel, fun _ => by decide +kernel, by decide +kernel, by decide +kernel⟩
set_option maxRecDepth 100000 in
theorem zn144 : zMK 144 := ⟨(fun _ => ⟨zin 1343 rfl rfl, zin 1344 rfl rfl⟩), (fun h => absurd h (by decide +kernel)), (fun h => absurd h (by decide +kernel))⟩
set_option maxRecDepth 100000 in
theorem zm145 : zMF 145 := ⟨zin 506 rfl rfl, zin 118 rfl rfl, rfl, rfl, by decide +kernel, fun _ => by decide +kernel, by decide +kernel, by decide +kernel⟩
set_option maxRecDepth 100000 in
theorem zn145 : zMK 145 := ⟨(fun _ => ⟨zin 504 rfl rfl, zin 505 rfl rfl⟩), (fun h => absurd h (by decide +kernel)), (fun h => absurd h (by decide +kernel))⟩
set_option maxRecDepth 100000 in
theorem zm146 : zMF 146 := ⟨zin 564 rfl rfl, zin 118 rfl rfl, rfl, rfl, by decide +kernel, fun _ => by decide +kernel, by decide +kernel, by decide +kernel⟩
set_option maxRecDepth 100000 in
theorem zn146 : zMK 146 := ⟨(fun _ => ⟨zin 562 rfl rfl, zin 563 rfl rfl⟩), (fun h => absurd h (by decide +kernel)), (fun h => absurd h (by decide +kernel))⟩
set_option maxRecDepth 100000 in
theorem zm147 : zMF 147 := ⟨zin 575 rfl rfl, zin 118 rfl rfl, rfl, rfl, by decide +kernel, fun _ => by decide +kernel, by decide +kernel, by decide +kernel⟩
set_option maxRecDepth 100000 in
theorem zn147 : zMK 147 := ⟨(fun _ => ⟨zin 573 rfl rfl, zin 574 rfl rfl⟩), (fun h => absurd h (by decide +kernel)), (fun h => absurd h (by decide +kernel))⟩
set_option maxRecDepth 100000 in
theorem zm148 : zMF 148 := ⟨zin 1353 rfl rfl, zin 118 rfl rfl, rfl, rfl, by decide +kernel, fun _ => by decide +kernel, by decide +kernel, by decide +kernel⟩
set_option maxRecDepth 100000 in
theorem zn148 : zMK 148 := ⟨(fun _ => ⟨zin 1351 rfl rfl, zin 1352 rfl rfl⟩), (fun h => absurd h (by decide +kernel)), (fun h => absurd h (by decide +kernel))⟩
set_option maxRecDepth 100000 in
theorem zm149 : zMF 149 := ⟨zin 1362 rfl rfl, zin 118 rfl rfl, rfl, rfl, by decide +kernel, fun _ => by decide +kernel, by decide +kernel, by decide +kernel⟩
set_option maxRecDepth 100000 in
theorem zn149 : zMK 149 := ⟨(fun _ => ⟨zin 1360 rfl rfl, zin 1361 rfl rfl⟩), (fun h => absurd h (by decide +kernel)), (fun h => absurd h (by decide +kernel))⟩
set_option maxRecDepth 100000 in
theorem zm150 : zMF 150 := ⟨zin 1370 rfl rfl, zin 118 rfl rfl, rfl, rfl, by decide +kernel, fun _ => by decide +kernel, by decide +kernel, by decide +kernel⟩
set_option maxRecDepth 100000 in
theorem zn150 : zMK 150 := ⟨(fun _ => ⟨zin 1368 rfl rfl, zin 1369 rfl rfl⟩), (fun h => absurd h (by decide +kernel)), (fun h => absurd h (by decide +kernel))⟩
set_option maxRecDepth 100000 in
theorem zm151 : zMF 151 := ⟨zin 584 rfl rfl, zin 118 rfl rfl, rfl, rfl, by decide +kernel, fun _ => by decide +kernel, by decide +kernel, by decide +kernel⟩
set_option maxRecDepth 100000 in
theorem zn151 : zMK 151 := ⟨(fun _ => ⟨zin 582 rfl rfl, zin 583 rfl rfl⟩), (fun h => absurd h (by decide +kernel)), (fun h => absurd h (by decide +kernel))⟩
set_option maxRecDepth 100000 in
theorem zm152 : zMF 152 := ⟨zin 1377 rfl rfl, zin 118 rfl rfl, rfl, rfl, by decide +kernel, fun _ => by decide +kernel, by decide +kernel, by decide +kernel⟩
set_option maxRecDepth 100000 in
theorem zn152 : zMK 152 := ⟨(fun _ => ⟨zin 1375 rfl rfl, zin 1376 rfl rfl⟩), (fun h => absurd h (by decide +kernel)), (fun h => absurd h (by decide +kernel))⟩
set_option maxRecDepth 100000 in
theorem zm153 : zMF 153 := ⟨zin 638 rfl rfl, zin 118 rfl rfl, rfl, rfl, by decide +kernel, fun _ => by decide +kernel, by decide +kernel, by decide +kernel⟩
set_option maxRecDepth 100000 in
theorem zn153 : zMK 153 := ⟨(fun _ => ⟨zin 636 rfl rfl, zin 637 rfl rfl⟩), (fun h => absurd h (by decide +kernel)), (fun h => absurd h (by decide +kernel))⟩
set_option maxRecDepth 100000 in
theorem zm154 : zMF 154 := ⟨zin 1385 rfl rfl, zin 118 rfl rfl, rfl, rfl, by decide +kernel, fun _ => by decide +kernel, by decide +kernel, by decide +kernel⟩
set_option maxRecDepth 100000 in
theorem zn154 : zMK 154 := ⟨(fun _ => ⟨zin 1383 rfl rfl, zin 1384 rfl rfl⟩), (fun h => absurd h (by decide +kernel)), (fun h => absurd h (by decide +kernel))⟩
set_option maxRecDepth 100000 in
theorem zm155 : zMF 155 := ⟨zin 1400 rfl rfl, zin 118 rfl rfl, rfl, rfl, by decide +kernel, fun _ => by decide +kernel, by decide +kernel, by decide +kernel⟩
set_option maxRecDepth 100000 in
theorem zn155 : zMK 155 := ⟨(fun _ => ⟨zin 1398 rfl rfl, zin 1399 rfl rfl⟩), (fun h => absurd h (by decide +kernel)), (fun h => absurd h (by decide +kernel))⟩
set_option maxRecDepth 100000 in
theorem zm156 : zMF 156 := ⟨zin 1411 rfl rfl, zin 118 rfl rfl, rfl, rfl, by decide +kernel, fun _ => by decide +kernel, by decide +kernel, by decide +kernel⟩
set_option maxRecDepth 100000 in
theorem zn156 : zMK 156 := ⟨(fun _ => ⟨zin 1409 rfl rfl, zin 1410 rfl rfl⟩), (fun h => absurd h (by decide +kernel)), (fun h => absurd h (by decide +kernel))⟩
set_option maxRecDepth 100000 in
theorem zm157 : zMF 157 := ⟨zin 1429 rfl rfl, zin 118 rfl rfl, rfl, rfl, by decide +kernel, fun _ => by decide +kernel, by decide +kernel, by decide +kernel⟩
set_option maxRecDepth 100000 in
theorem zn157 : zMK 157 := ⟨(fun _ => ⟨zin 1427 rfl rfl, zin 1428 rfl rfl⟩), (fun h => absurd h (by decide +kernel)), (fun h => absurd h (by decide +kernel))⟩
set_option maxRecDepth 100000 in
theorem zm158 : zMF 158 := ⟨zin 1441 rfl rfl, zin 118 rfl rfl, rfl, rfl, by decide +kernel, fun _ => by decide +kernel, by decide +kernel, by decide +kernel⟩
set_option maxRecDepth 100000 in
theorem zn158 : zMK 158 := ⟨(fun _ => ⟨zin 1439 rfl rfl, zin 1440 rfl rfl⟩), (fun h => absurd h (by decide +kernel)), (fun h => absurd h (by decide +kernel))⟩
set_option maxRecDepth 100000 in
theorem zm159 : zMF 159 := ⟨zin 1448 rfl rfl, zin 118 rfl rfl, rfl, rfl, by decide +kernel, fun _ => by decide +kernel, by decide +kernel, by decide +kernel⟩
set_option maxRecDepth 100000 in
theorem zn159 : zMK 159 := ⟨(fun _ => ⟨zin 1446 rfl rfl, zin 1447 rfl rfl⟩), (fun h => absurd h (by decide +kernel)), (fun h => absurd h (by decide +kernel))⟩
set_option maxRecDepth 100000 in
theorem zm160 : zMF 160 := ⟨zin 1455 rfl rfl, zin 118 rfl rfl, rfl, rfl, by decide +kernel, fun _ => by decide +kernel, by decide +kernel, by decide +kernel⟩
set_option maxRecDepth 100000 in
theorem zn160 : zMK 160 := ⟨(fun _ => ⟨zin 1453 rfl rfl, zin 1454 rfl rfl⟩), (fun h => absurd h (by decide +kernel)), (fun h => absurd h (by decide +kernel))⟩
set_option maxRecDepth 100000 in
theorem zm161 : zMF 161 := ⟨zin 1467 rfl rfl, zin 118 rfl rfl, rfl, rfl, by decide +kernel, fun _ => by decide +kernel, by decide +kernel, by decide +kernel⟩
set_option maxRecDepth 100000 in
theorem zn161 : zMK 161 := ⟨(fun _ => ⟨zin 1465 rfl rfl, zin 1466 rfl rfl⟩), (fun h => absurd h (by decide +kernel)), (fun h => absurd h (by decide +kernel))⟩
set_option maxRecDepth 100000 in
theorem zm162 : zMF 162 := ⟨zin 645 rfl rfl, zin 118 rfl rfl, rfl, rfl, by decide +kernel, fun _ => by decide +kernel, by decide +kernel, by decide +kernel⟩
set_option maxRecDepth 100000 in
theorem zn162 : zMK 162 := ⟨(fun _ => ⟨zin 643 rfl rfl, zin 644 rfl rfl⟩), (fun h => absurd h (by decide +kernel)), (fun h => absurd h (by decide +kernel))⟩
set_option maxRecDepth 100000 in
theorem zm163 : zMF 163 := ⟨zin 1474 rfl rfl, zin 118 rfl rfl, rfl, rfl, by decide +kernel, fun _ => by decide +kernel, by decide +kernel, by decide +kernel⟩
set_option maxRecDepth 100000 in
theorem zn163 : zMK 163 := ⟨(fun _ => ⟨zin 1472 rfl rfl, zin 1473 rfl rfl⟩), (fun h => absurd h (by decide +kernel)), (fun h => absurd h (by decide +kernel))⟩
set_option maxRecDepth 100000 in
theorem zm164 : zMF 164 := ⟨zin 653 rfl rfl, zin 118 rfl rfl, rfl, rfl, by decide +kernel, fun _ => by decide +kernel, by decide +kernel, by decide +kernel⟩
set_option maxRecDepth 100000 in
theorem zn164 : zMK 164 := ⟨(fun _ => ⟨zin 651 rfl rfl, zin 652 rfl rfl⟩), (fun h => absurd h (by decide +kernel)), (fun h => absurd h (by decide +kernel))⟩
set_option maxRecDepth 100000 in
theorem zm165 : zMF 165 := ⟨zin 696 rfl rfl, zin 118 rfl rfl, rfl, rfl, by decide +kernel, fun _ => by decide +kernel, by decide +kernel, by decide +kernel⟩
set_option maxRecDepth 100000 in
theorem zn165 : zMK 165 := ⟨(fun _ => ⟨zin 694 rfl rfl, zin 695 rfl rfl⟩), (fun h => absurd h (by decide +kernel)), (fun h => absurd h (by decide +kernel))⟩
set_option maxRecDepth 100000 in
theorem zm166 : zMF 166 := ⟨zin 1481 rfl rfl, zin 118 rfl rfl, rfl, rfl, by decide +kernel, fun _ => by decide +kernel, by decide +kernel, by decide +kernel⟩
set_option maxRecDepth 100000 in
theorem zn166 : zMK 166 := ⟨(fun _ => ⟨zin 1479 rfl rfl, zin 1480 rfl rfl⟩), (fun h => absurd h (by decide +kernel)), (fun h => absurd h (by decide +kernel))⟩
set_option maxRecDepth 100000 in
theorem zm167 : zMF 167 := ⟨zin 1492 rfl rfl, zin 118 rfl rfl, rfl, rfl, by decide +kernel, fun _ => by decide +kernel, by decide +kernel, by decide +kernel⟩
set_option maxRecDepth 100000 in
theorem zn167 : zMK 167 := ⟨(fun _ => ⟨zin 1490 rfl rfl, zin 1491 rfl rfl⟩), (fun h => absurd h (by decide +kernel)), (fun h => absurd h (by decide +kernel))⟩
set_option maxRecDepth 100000 in
theorem zm168 : zMF 168 := ⟨zin 700 rfl rfl, zin 118 rfl rfl, rfl, rfl, by decide +kernel, fun _ => by decide +kernel, by decide +kernel, by decide +kernel⟩
set_option maxRecDepth 100000 in
theorem zn168 : zMK 168 := ⟨(fun _ => ⟨zin 698 rfl rfl, zin 699 rfl rfl⟩), (fun h => absurd h (by decide +kernel)), (fun h => absurd h (by decide +kernel))⟩
set_option maxRecDepth 100000 in
theorem zm169 : zMF 169 := ⟨zin 1500 rfl rfl, zin 118 rfl rfl, rfl, rfl, by decide +kernel, fun _ => by decide +kernel, by decide +kernel, by decide +kernel⟩
set_option maxRecDepth 100000 in
theorem zn169 : zMK 169 := ⟨(fun _ => ⟨zin 1498 rfl rfl, zin 1499 rfl rfl⟩), (fun h => absurd h (by decide +kernel)), (fun h => absurd h (by decide +kernel))⟩
set_option maxRecDepth 100000 in
theorem zm170 : zMF 170 := ⟨zin 720 rfl rfl, zin 118 rfl rfl, rfl, rfl, by decide +kernel, fun _ => by decide +kernel, by decide +kernel, by decide +kernel⟩
set_option maxRecDepth 100000 in
theorem zn170 : zMK 170 := ⟨(fun _ => ⟨zin 718 rfl rfl, zin 719 rfl rfl⟩), (fun h => absurd h (by decide +kernel)), (fun h => absurd h (by decide +kernel))⟩
set_option maxRecDepth 100000 in
theorem zm171 : zMF 171 := ⟨zin 1523 rfl rfl, zin 118 rfl rfl, rfl, rfl, by decide +kernel, fun _ => by decide +kernel, by decide +kernel, by decide +kernel⟩
set_option maxRecDepth 100000 in
theorem zn171 : zMK 171 := ⟨(fun _ => ⟨zin 1521 rfl rfl, zin 1522 rfl rfl⟩), (fun h => absurd h (by decide +kernel)), (fun h => absurd h (by decide +kernel))⟩
set_option maxRecDepth 100000 in
theorem zm172 : zMF 172 := ⟨zin 728 rfl rfl, zin 118 rfl rfl, rfl, rfl, by decide +kernel, fun _ => by decide +kernel, by decide +kernel, by decide +kernel⟩
set_option maxRecDepth 100000 in
theorem zn172 : zMK 172 := ⟨(fun _ => ⟨zin 726 rfl rfl, zin 727 rfl rfl⟩), (fun h => absurd h (by decide +kernel)), (fun h => absurd h (by decide +kernel))⟩
set_option maxRecDepth 100000 in
theorem zm173 : zMF 173 := ⟨zin 1540 rfl rfl, zin 118 rfl rfl, rfl, rfl, by decide +kernel, fun _ => by decide +kernel, by decide +kernel, by decide +kernel⟩
set_option maxRecDepth 100000 in
theorem zn173 : zMK 173 := ⟨(fun _ => ⟨zin 1538 rfl rfl, zin 1539 rfl rfl⟩), (fun h => absurd h (by decide +kernel)), (fun h => absurd h (by decide +kernel))⟩
set_option maxRecDepth 100000 in
theorem zm174 : zMF 174 := ⟨zin 739 rfl rfl, zin 118 rfl rfl, rfl, rfl, by decide +kernel, fun _ => by decide +kernel, by decide +kernel, by decide +kernel⟩
set_option maxRecDepth 100000 in
theorem zn174 : zMK 174 := ⟨(fun _ => ⟨zin 737 rfl rfl, zin 738 rfl rfl⟩), (fun h => absurd h (by decide +kernel)), (fun h => absurd h (by decide +kernel))⟩
set_option maxRecDepth 100000 in
theorem zm175 : zMF 175 := ⟨zin 1553 rfl rfl, zin 118 rfl rfl, rfl, rfl, by decide +kernel, fun _ => by decide +kernel, by decide +kernel, by decide +kernel⟩
set_option maxRecDepth 100000 in
theorem zn175 : zMK 175 := ⟨(fun _ => ⟨zin 1551 rfl rfl, zin 1552 rfl rfl⟩), (fun h => absurd h (by decide +kernel)), (fun h => absurd h (by decide +kernel))⟩
set_option maxRecDepth 100000 in
theorem zm176 : zMF 176 := ⟨zin 765 rfl rfl, zin 118 rfl rfl, rfl, rfl, by decide +kernel, fun _ => by decide +kernel, by decide +kernel, by decide +kernel⟩
set_option maxRecDepth 100000 in
theorem zn176 : zMK 176 := ⟨(fun _ => ⟨zin 763 rfl rfl, zin 764 rfl rfl⟩), (fun h => absurd h (by decide +kernel)), (fun h => absurd h (by decide +kernel))⟩
set_option maxRecDepth 100000 in
theorem zm177 : zMF 177 := ⟨zin 774 rfl rfl, zin 118 rfl rfl, rfl, rfl, by decide +kernel, fun _ => by decide +kernel, by decide +kernel, by decide +kernel⟩
set_option maxRecDepth 100000 in
theorem zn177 : zMK 177 := ⟨(fun _ => ⟨zin 772 rfl rfl, zin 773 rfl rfl⟩), (fun h => absurd h (by decide +kernel)), (fun h => absurd h (by decide +kernel))⟩
set_option maxRecDepth 100000 in
theorem zm178 : zMF 178 := ⟨zin 1565 rfl rfl, zin 118 rfl rfl, rfl, rfl, by decide +kernel, fun _ => by decide +kernel, by decide +kernel, by decide +kernel⟩
set_option maxRecDepth 100000 in
theorem zn178 : zMK 178 := ⟨(fun _ => ⟨zin 1563 rfl rfl, zin 1564 rfl rfl⟩), (fun h => absurd h (by decide +kernel)), (fun h => absurd h (by decide +kernel))⟩
set_option maxRecDepth 100000 in
theorem zm179 : zMF 179 := ⟨zin 1215 rfl rfl, zin 118 rfl rfl, rfl, rfl, by decide +kernel, fun _ => by decide +kernel, by decide +kernel, by decide +kernel⟩
set_option maxRecDepth 100000 in
theorem zn179 : zMK 179 := ⟨(fun _ => ⟨zin 1214 rfl rfl, zin 36 rfl rfl⟩), (fun h => absurd h (by decide +kernel)), (fun h => absurd h (by decide +kernel))⟩
set_option maxRecDepth 100000 in
theorem zm180 : zMF 180 := ⟨zin 1264 rfl rfl, zin 118 rfl rfl, rfl, rfl, by decide +kernel, fun _ => by decide +kernel, by decide +kernel, by decide +kernel⟩
set_option maxRecDepth 100000 in
theorem zn180 : zMK 180 := ⟨(fun _ => ⟨zin 1263 rfl rfl, zin 37 rfl rfl⟩), (fun h => absurd h (by decide +kernel)), (fun h => absurd h (by decide +kernel))⟩
set_option maxRecDepth 100000 in
theorem zm181 : zMF 181 := ⟨zin 1268 rfl rfl, zin 118 rfl rfl, rfl, rfl, by decide +kernel, fun _ => by decide +kernel, by decide +kernel, by decide +kernel⟩
set_option maxRecDepth 100000 in
theorem zn181 : zMK 181 := ⟨(fun h => absurd h (by decide +kernel)), (fun _ => zin 1267 rfl rfl), (fun h => absurd h (by decide +kernel))⟩
set_option maxRecDepth 100000 in
theorem zm182 : zMF 182 := ⟨zin 1388 rfl rfl, zin 118 rfl rfl, rfl, rfl, by decide +kernel, fun _ => by decide +kernel, by decide +kernel, by decide +kernel⟩
set_option maxRecDepth 100000 in
theorem zn182 : zMK 182 := ⟨(fun h => absurd h (by decide +kernel)), (fun _ => zin 1387 rfl rfl), (fun h => absurd h (by decide +kernel))⟩
set_option maxRecDepth 100000 in
theorem zm183 : zMF 183 := ⟨zin 1414 rfl rfl, zin 118 rfl rfl, rfl, rfl, by decide +kernel, fun _ => by decide +kernel, by decide +kernel, by decide +kernel⟩
set_option maxRecDepth 100000 in
theorem zn183 : zMK 183 := ⟨(fun h => absurd h (by decide +kernel)), (fun _ => zin 1413 rfl rfl), (fun h => absurd h (by decide +kernel))⟩
set_option maxRecDepth 100000 in
theorem zm184 : zMF 184 := ⟨zin 1459 rfl rfl, zin 118 rfl rfl, rfl, rfl, by decide +kernel, fun _ => by decide +kernel, by decide +kernel, by decide +kernel⟩
set_option maxRecDepth 100000 in
theorem zn184 : zMK 184 := ⟨(fun _ => ⟨zin 1458 rfl rfl, zin 39 rfl rfl⟩), (fun h => absurd h (by decide +kernel)), (fun h => absurd h (by decide +kernel))⟩
set_option maxRecDepth 100000 in
theorem zm185 : zMF 185 := ⟨zin 1193 rfl rfl, zin 118 rfl rfl, rfl, rfl, by decide +kernel, fun _ => by decide +kernel, by decide +kernel, by decide +kernel⟩
set_option maxRecDepth 100000 in
theorem zn185 : zMK 185 := ⟨(fun _ => ⟨zin 1192 rfl rfl, zin 33 rfl rfl⟩), (fun h => absurd h (by decide +kernel)), (fun h => absurd h (by decide +kernel))⟩
set_option maxRecDepth 100000 in
theorem zm186 : zMF 186 := ⟨zin 1197 rfl rfl, zin 118 rfl rfl, rfl, rfl, by decide +kernel, fun _ => by decide +kernel, by decide +kernel, by decide +kernel⟩
set_option maxRecDepth 100000 in
theorem zn186 : zMK 186 := ⟨(fun _ => ⟨zin 1196 rfl rfl, zin 34 rfl rfl⟩), (fun h => absurd h (by decide +kernel)), (fun h => absurd h (by decide +kernel))⟩
set_option maxRecDepth 100000 in
theorem zm187 : zMF 187 := ⟨zin 1202 rfl rfl, zin 118 rfl rfl, rfl, rfl, by decide +kernel, fun _ => by decide +kernel, by decide +kernel, by decide +kernel⟩
set_option maxRecDepth 100000 in
theorem zn187 : zMK 187 := ⟨(fun _ => ⟨zin 1201 rfl rfl, zin 35 rfl rfl⟩), (fun h => absurd h (by decide +kernel)), (fun h => absurd h (by decide +kernel))⟩
set_option maxRecDepth 100000 in
theorem zm188 : zMF 188 := ⟨zin 1296 rfl rfl, zin 118 rfl rfl, rfl, rfl, by decide +kernel, fun _ => by decide +kernel, by decide +kernel, by decide +kernel⟩
set_option maxRecDepth 100000 in
theorem zn188 : zMK 188 := ⟨(fun _ => ⟨zin 1295 rfl rfl, zin 38 rfl rfl⟩), (fun h => absurd h (by decide +kernel)), (fun h => absurd h (by decide +kernel))⟩
set_option maxRecDepth 100000 in
theorem zm189 : zMF 189 := ⟨zin 478 rfl rfl, zin 118 rfl rfl, rfl, rfl, by decide +kernel, fun _ => by decide +kernel, by decide +kernel, by decide +kernel⟩
set_option maxRecDepth 100000 in
theorem zn189 : zMK 189 := ⟨(fun _ => ⟨zin 477 rfl rfl, zin 1 rfl rfl⟩), (fun h => absurd h (by decide +kernel)), (fun h => absurd h (by decide +kernel))⟩
set_option maxRecDepth 100000 in
theorem zm190 : zMF 190 := ⟨zin 483 rfl rfl, zin 118 rfl rfl, rfl, rfl, by decide +kernel, fun _ => by decide +kernel, by decide +kernel, by decide +kernel⟩
set_option maxRecDepth 100000 in
theorem zn190 : zMK 190 := ⟨(fun _ => ⟨zin 482 rfl rfl, zin 2 rfl rfl⟩), (fun h => absurd h (by decide +kernel)), (fun h => absurd h (by decide +kernel))⟩
set_option maxRecDepth 100000 in
theorem zm191 : zMF 191 := ⟨zin 474 rfl rfl, zin 118 rfl rfl, rfl, rfl, by decide +kernel, fun _ => by decide +kernel, by decide +kernel, by decide +kernel⟩
set_option maxRecDepth 100000 in
theorem zn191 : zMK 191 := ⟨(fun _ => ⟨zin 473 rfl rfl, zin 0 rfl rfl⟩), (fun h => absurd h (by decide +kernel)), (fun h => absurd h (by decide +kernel))⟩
set_option maxRecDepth 100000 in
theorem zm192 : zMF 192 := ⟨zin 1112 rfl rfl, zin 118 rfl rfl, rfl, rfl, by decide +kernel, fun _ => by decide +kernel, by decide +kernel, by decide +kernel⟩
set_option maxRecDepth 100000 in
theorem zn192 : zMK 192 := ⟨(fun _ => ⟨zin 1111 rfl rfl, zin 27 rfl rfl⟩), (fun h => absurd h (by decide +kernel)), (fun h => absurd h (by decide +kernel))⟩
set_option maxRecDepth 100000 in
theorem zm193 : zMF 193 := ⟨zin 1136 rfl rfl, zin 118 rfl rfl, rfl, rfl, by decide +kernel, fun _ => by decide +kernel, by decide +kernel, by decide +kernel⟩
set_option maxRecDepth 100000 in
theorem zn193 : zMK 193 := ⟨(fun _ => ⟨zin 1135 rfl rfl, zin 28 rfl rfl⟩), (fun h => absurd h (by decide +kernel)), (fun h => absurd h (by decide +kernel))⟩
set_option maxRecDepth 100000 in
theorem zm194 : zMF 194 := ⟨zin 1146 rfl rfl, zin 118 rfl rfl, rfl, rfl, by decide +kernel, fun _ => by decide +kernel, by decide +kernel, by decide +kernel⟩
set_option maxRecDepth 100000 in
theorem zn194 : zMK 194 := ⟨(fun _ => ⟨zin 1145 rfl rfl, zin 29 rfl rfl⟩), (fun h => absurd h (by decide +kernel)), (fun h => absurd h (by decide +kernel))⟩
set_option maxRecDepth 100000 in
theorem zm195 : zMF 195 := ⟨zin 549 rfl rfl, zin 118 rfl rfl, rfl, rfl, by decide +kernel, fun _ => by decide +kernel, by decide +kernel, by decide +kernel⟩
set_option maxRecDepth 100000 in
theorem zn195 : zMK 195 := ⟨(fun h => absurd h (by decide +kernel)), (fun _ => zin 548 rfl rfl), (fun h => absurd h (by decide +kernel))⟩
set_option maxRecDepth 100000 in
theorem zm196 : zMF 196 := ⟨zin 554 rfl rfl, zin 118 rfl rfl, rfl, rfl, by decide +kernel, fun _ => by decide +kernel, by decide +kernel, by decide +kernel⟩
set_option maxRecDepth 100000 in
theorem zn196 : zMK 196 := ⟨(fun h => absurd h (by decide +kernel)), (fun _ => zin 553 rfl rfl), (fun h => absurd h (by decide +kernel))⟩
set_option maxRecDepth 100000 in
theorem zm197 : zMF 197 := ⟨zin 1571 rfl rfl, zin 132 rfl rfl, rfl, rfl, by decide +kernel, fun _ => by decide +kernel, by decide +kernel, by decide +kernel⟩
set_option maxRecDepth 100000 in
theorem zn197 : zMK 197 := ⟨(fun h => absurd h (by decide +kernel)), (fun h => absurd h (by decide +kernel)), (fun _ => ⟨zin 1570 rfl rfl, rfl⟩)⟩
set_option maxRecDepth 100000 in
theorem zm198 : zMF 198 := ⟨zin 1719 rfl rfl, zin 132 rfl rfl, rfl, rfl, by decide +kernel, fun _ => by decide +kernel, by decide +kernel, by decide +kernel⟩
set_option maxRecDepth 100000 in
theorem zn198 : zMK 198 := ⟨(fun _ => ⟨zin 1717 rfl rfl, zin 1718 rfl rfl⟩), (fun h => absurd h (by decide +kernel)), (fun h => absurd h (by decide +kernel))⟩
set_option maxRecDepth 100000 in
theorem zm199 : zMF 199 := ⟨zin 1741 rfl rfl, zin 132 rfl rfl, rfl, rfl, by decide +kernel, fun _ => by decide +kernel, by decide +kernel, by decide +kernel⟩
set_option maxRecDepth 100000 in
theorem zn199 : zMK 199 := ⟨(fun h => absurd h (by decide +kernel)), (fun _ => zin 1740 rfl rfl), (fun h => absurd h (by decide +kernel))⟩
set_option maxRecDepth 100000 in
theorem zm200 : zMF 200 := ⟨zin 1730 rfl rfl, zin 132 rfl rfl, rfl, rfl, by decide +kernel, fun _ => by decide +kernel, by decide +kernel, by decide +kernel⟩
set_option maxRecDepth 100000 in
theorem zn200 : zMK 200 := ⟨(fun h => absurd h (by decide +kernel)), (fun _ => zin 1729 rfl rfl), (fun h => absurd h (by decide +kernel))⟩
set_option maxRecDepth 100000 in
theorem zm201 : zMF 201 := ⟨zin 2013 rfl rfl, zin 132 rfl rfl, rfl, rfl, by decide +kernel, fun _ => by decide +kernel, by decide +kernel, by decide +kernel⟩
set_option maxRecDepth 100000 in
theorem zn201 : zMK 201 := ⟨(fun h => absurd h (by decide +kernel)), (fun _ => zin 2012 rfl rfl), (fun h => absurd h (by decide +kernel))⟩
set_option maxRecDepth 100000 in
theorem zm202 : zMF 202 := ⟨zin 1727 rfl rfl, zin 132 rfl rfl, rfl, rfl, by decide +kernel, fun _ => by decide +kernel, by decide +kernel, by decide +kernel⟩
set_option maxRecDepth 100000 in
theorem zn202 : zMK 202 := ⟨(fun _ => ⟨zin 1726 rfl rfl, zin 41 rfl rfl⟩), (fun h => absurd h (by decide +kernel)), (fun h => absurd h (by decide +kernel))⟩
set_option maxRecDepth 100000 in
theorem zm203 : zMF 203 := ⟨zin 1723 rfl rfl, zin 132 rfl rfl, rfl, rfl, by decide +kernel, fun _ => by decide +kernel, by decide +kernel, by decide +kernel⟩
set_option maxRecDepth 100000 in
theorem zn203 : zMK 203 := ⟨(fun _ => ⟨zin 1721 rfl rfl, zin 1722 rfl rfl⟩), (fun h => absurd h (by decide +kernel)), (fun h => absurd h (by decide +kernel))⟩
set_option maxRecDepth 100000 in
theorem zm204 : zMF 204 := ⟨zin 1734 rfl rfl, zin 132 rfl rfl, rfl, rfl, by decide +kernel, fun _ => by decide +kernel, by decide +kernel, by decide +kernel⟩
set_option maxRecDepth 100000 in
theorem zn204 : zMK 204 := ⟨(fun _ => ⟨zin 1733 rfl rfl, zin 42 rfl rfl⟩), (fun h => absurd h (by decide +kernel)), (fun h => absurd h (by decide +kernel))⟩
set_option maxRecDepth 100000 in
theorem zm205 : zMF 205 := ⟨zin 1738 rfl rfl, zin 132 rfl rfl, rfl, rfl, by decide +kernel, fun _ => by decide +kernel, by decide +kernel, by decide +kernel⟩
set_option maxRecDepth 100000 in
theorem zn205 : zMK 205 := ⟨(fun _ => ⟨zin 1736 rfl rfl, zin 1737 rfl rfl⟩), (fun h => absurd h (by decide +kernel)), (fun h => absurd h (by decide +kernel))⟩
set_option maxRecDepth 100000 in
theorem zm206 : zMF 206 := ⟨zin 1757 rfl rfl, zin 132 rfl rfl, rfl, rfl, by decide +kernel, fun _ => by decide +kernel, by decide +kernel, by decide +kernel⟩
set_option maxRecDepth 100000 in
theorem zn206 : zMK 206 := ⟨(fun _ => ⟨zin 1756 rfl rfl, zin 45 rfl rfl⟩), (fun h => absurd h (by decide +kernel)), (fun h => absurd h (by decide +kernel))⟩
set_option maxRecDepth 100000 in
theorem zm207 : zMF 207 := ⟨zin 1760 rfl rfl, zin 132 rfl rfl, rfl, rfl, by decide +kernel, fun _ => by decide +kernel, by decide +kernel, by decide +kernel⟩
set_option maxRecDepth 100000 in
theorem zn207 : zMK 207 := ⟨(fun h => absurd h (by decide +kernel)), (fun _ => zin 1759 rfl rfl), (fun h => absurd h (by decide +kernel))⟩
set_option maxRecDepth 100000 in
theorem zm208 : zMF 208 := ⟨zin 1763 rfl rfl, zin 132 rfl rfl, rfl, rfl, by decide +kernel, fun _ => by decide +kernel, by decide +kernel, by decide +kernel⟩
set_option maxRecDepth 100000 in
theorem zn208 : zMK 208 := ⟨(fun h => absurd h (by decide +kernel)), (fun _ => zin 1762 rfl rfl), (fun h => absurd h (by decide +kernel))⟩
set_option maxRecDepth 100000 in
theorem zm209 : zMF 209 := ⟨zin 1753 rfl rfl, zin 132 rfl rfl, rfl, rfl, by decide +kernel, fun _ => by decide +kernel, by decide +kernel, by decide +kernel⟩
set_option maxRecDepth 100000 in
theorem zn209 : zMK 209 := ⟨(fun _ => ⟨zin 1752 rfl rfl, zin 44 rfl rfl⟩), (fun h => absurd h (by decide +kernel)), (fun h => absurd h (by decide +kernel))⟩
set_option maxRecDepth 100000 in
theorem zm210 : zMF 210 := ⟨zin 1784 rfl rfl, zin 132 rfl rfl, rfl, rfl, by decide +kernel, fun _ => by decide +kernel, by decide +kernel, by decide +kernel⟩
set_option maxRecDepth 100000 in
theorem zn210 : zMK 210 := ⟨(fun _ => ⟨zin 1783 rfl rfl, zin 50 rfl rfl⟩), (fun h => absurd h (by decide +kernel)), (fun h => absurd h (by decide +kernel))⟩
set_option maxRecDepth 100000 in
theorem zm211 : zMF 211 := ⟨zin 1767 rfl rfl, zin 132 rfl rfl, rfl, rfl, by decide +kernel, fun _ => by decide +kernel, by decide +kernel, by decide +kernel⟩
set_option maxRecDepth 100000 in
theorem zn211 : zMK 211 := ⟨(fun _ => ⟨zin 1766 rfl rfl, zin 46 rfl rfl⟩), (fun h => absurd h (by decide +kernel)), (fun h => absurd h (by decide +kernel))⟩
set_option maxRecDepth 100000 in
theorem zm212 : zMF 212 := ⟨zin 1776 rfl rfl, zin 132 rfl rfl, rfl, rfl, by decide +kernel, fun _ => by decide +kernel, by decide +kernel, by decide +kernel⟩
set_option maxRecDepth 100000 in
theorem zn212 : zMK 212 := ⟨(fun _ => ⟨zin 1775 rfl rfl, zin 48 rfl rfl⟩), (fun h => absurd h (by decide +kernel)), (fun h => absurd h (by decide +kernel))⟩
set_option maxRecDepth 100000 in
theorem zm213 : zMF 213 := ⟨zin 1807 rfl rfl, zin 132 rfl rfl, rfl, rfl, by decide +kernel, fun _ => by decide +kernel, by decide +kernel, by decide +kernel⟩
set_option maxRecDepth 100000 in
theorem zn213 : zMK 213 := ⟨(fun _ => ⟨zin 1806 rfl rfl, zin 53 rfl rfl⟩), (fun h => absurd h (by decide +kernel)), (fun h => absurd h (by decide +kernel))⟩
set_option maxRecDepth 100000 in
theorem zm214 : zMF 214 := ⟨zin 1832 rfl rfl, zin 132 rfl rfl, rfl, rfl, by decide +kernel, fun _ => by decide +kernel, by decide +kernel, by decide +kernel⟩
set_option maxRecDepth 100000 in
theorem zn214 : zMK 214 := ⟨(fun _ => ⟨zin 1831 rfl rfl, zin 59 rfl rfl⟩), (fun h => absurd h (by decide +kernel)), (fun h => absurd h (by decide +kernel))⟩
set_option maxRecDepth 100000 in
theorem zm215 : zMF 215 := ⟨zin 1828 rfl rfl, zin 132 rfl rfl, rfl, rfl, by decide +kernel, fun _ => by decide +kernel, by decide +kernel, by decide +kernel⟩
set_option maxRecDepth 100000 in
theorem zn215 : zMK 215 := ⟨(fun _ => ⟨zin 1827 rfl rfl, zin 58 rfl rfl⟩), (fun h => absurd h (by decide +kernel)), (fun h => absurd h (by decide +kernel))⟩
set_option maxRecDepth 100000 in
theorem zm216 : zMF 216 := ⟨zin 1749 rfl rfl, zin 132 rfl rfl, rfl, rfl, by decide +kernel, fun _ => by decide +kernel, by decide +kernel, by decide +kernel⟩
set_option maxRecDepth 100000 in
theorem zn216 : zMK 216 := ⟨(fun _ => ⟨zin 1748 rfl rfl, zin 43 rfl rfl⟩), (fun h => absurd h (by decide +kernel)), (fun h => absurd h (by decide +kernel))⟩
set_option maxRecDepth 100000 in
theorem zm217 : zMF 217 := ⟨zin 1860 rfl rfl, zin 132 rfl rfl, rfl, rfl, by decide +kernel, fun _ => by decide +kernel, by decide +kernel, by decide +kernel⟩
set_option maxRecDepth 100000 in
theorem zn217 : zMK 217 := ⟨(fun _ => ⟨zin 1859 rfl rfl, zin 66 rfl rfl⟩), (fun h => absurd h (by decide +kernel)), (fun h => absurd h (by decide +kernel))⟩
set_option maxRecDepth 100000 in
theorem zm218 : zMF 218 := ⟨zin 1812 rfl rfl, zin 132 rfl rfl, rfl, rfl, by decide +kernel, fun _ => by decide +kernel, by decide +kernel, by decide +kernel⟩
set_option maxRecDepth 100000 in
theorem zn218 : zMK 218 := ⟨(fun _ => ⟨zin 1811 rfl rfl, zin 54 rfl rfl⟩), (fun h => absurd h (by decide +kernel)), (fun h => absurd h (by decide +kernel))⟩
set_option maxRecDepth 100000 in
theorem zm219 : zMF 219 := ⟨zin 1788 rfl rfl, zin 132 rfl rfl, rfl, rfl, by decide +kernel, fun _ => by decide +kernel, by decide +kernel, by decide +kernel⟩
set_option maxRecDepth 100000 in
theorem zn219 : zMK 219 := ⟨(fun _ => ⟨zin 1787 rfl rfl, zin 51 rfl rfl⟩), (fun h => absurd h (by decide +kernel)), (fun h => absurd h (by decide +kernel))⟩
set_option maxRecDepth 100000 in
theorem zm220 : zMF 220 := ⟨zin 1576 rfl rfl, zin 132 rfl rfl, rfl, rfl, by decide +kernel, fun _ => by decide +kernel, by decide +kernel, by decide +kernel⟩
set_option maxRecDepth 100000 in
theorem zn220 : zMK 220 := ⟨(fun _ => ⟨zin 1575 rfl rfl, zin 40 rfl rfl⟩), (fun h => absurd h (by decide +kernel)), (fun h => absurd h (by decide +kernel))⟩
set_option maxRecDepth 100000 in
theorem zm221 : zMF 221 := ⟨zin 1864 rfl rfl, zin 132 rfl rfl, rfl, rfl, by decide +kernel, fun _ => by decide +kernel, by decide +kernel, by decide +kernel⟩
set_option maxRecDepth 100000 in
theorem zn221 : zMK 221 := ⟨(fun _ => ⟨zin 1863 rfl rfl, zin 67 rfl rfl⟩), (fun h => absurd h (by decide +kernel)), (fun h => absurd h (by decide +kernel))⟩
set_option maxRecDepth 100000 in
theorem zm222 : zMF 222 := ⟨zin 1803 rfl rfl, zin 132 rfl rfl, rfl, rfl, by decide +kernel, fun _ => by decide +kernel, by decide +kernel, by decide +kernel⟩
set_option maxRecDepth 100000 in
theorem zn222 : zMK 222 := ⟨(fun _ => ⟨zin 1802 rfl rfl, zin 52 rfl rfl⟩), (fun h => absurd h (by decide +kernel)), (fun h => absurd h (by decide +kernel))⟩
set_option maxRecDepth 100000 in
theorem zm223 : zMF 223 := ⟨zin 1780 rfl rfl, zin 132 rfl rfl, rfl, rfl, by decide +kernel, fun _ => by decide +kernel, by decide +kernel, by decide +kernel⟩
set_option maxRecDepth 100000 in
theorem zn223 : zMK 223 := ⟨(fun _ => ⟨zin 1779 rfl rfl, zin 49 rfl rfl⟩), (fun h => absurd h (by decide +kernel)), (fun h => absurd h (by decide +kernel))⟩
set_option maxRecDepth 100000 in
theorem zm224 : zMF 224 := ⟨zin 1824 rfl rfl, zin 132 rfl rfl, rfl, rfl, by decide +kernel, fun _ => by decide +kernel, by decide +kernel, by decide +kernel⟩
set_option maxRecDepth 100000 in
theorem zn224 : zMK 224 := ⟨(fun _ => ⟨zin 1823 rfl rfl, zin 57 rfl rfl⟩), (fun h => absurd h (by decide +kernel)), (fun h => absurd h (by decide +kernel))⟩
set_option maxRecDepth 100000 in
theorem zm225 : zMF 225 := ⟨zin 1820 rfl rfl, zin 132 rfl rfl, rfl, rfl, by decide +kernel, fun _ => by decide +kernel, by decide +kernel, by decide +kernel⟩
set_option maxRecDepth 100000 in
theorem zn225 : zMK 225 := ⟨(fun _ => ⟨zin 1819 rfl rfl, zin 56 rfl rfl⟩), (fun h => absurd h (by decide +kernel)), (fun h => absurd h (by decide +kernel))⟩
set_option maxRecDepth 100000 in
theorem zm226 : zMF 226 := ⟨zin 1816 rfl rfl, zin 132 rfl rfl, rfl, rfl, by decide +kernel, fun _ => by decide +kernel, by decide +kernel, by decide +kernel⟩
set_option maxRecDepth 100000 in
theorem zn226 : zMK 226 := ⟨(fun _ => ⟨zin 1815 rfl rfl, zin 55 rfl rfl⟩), (fun h => absurd h (by decide +kernel)), (fun h => absurd h (by decide +kernel))⟩
set_option maxRecDepth 100000 in
theorem zm227 : zMF 227 := ⟨zin 1771 rfl rfl, zin 132 rfl rfl, rfl, rfl, by decide +kernel, fun _ => by decide +kernel, by decide +kernel, by decide +kernel⟩
set_option maxRecDepth 100000 in
theorem zn227 : zMK 227 := ⟨(fun _ => ⟨zin 1770 rfl rfl, zin 47 rfl rfl⟩), (fun h => absurd h (by decide +kernel)), (fun h => absurd h (by decide +kernel))⟩
set_option maxRecDepth 100000 in
theorem zm228 : zMF 228 := ⟨zin 1848 rfl rfl, zin 132 rfl rfl, rfl, rfl, by decide +kernel, fun _ => by decide +kernel, by decide +kernel, by decide +kernel⟩
set_option maxRecDepth 100000 in
theorem zn228 : zMK 228 := ⟨(fun _ => ⟨zin 1847 rfl rfl, zin 63 rfl rfl⟩), (fun h => absurd h (by decide +kernel)), (fun h => absurd h (by decide +kernel))⟩
set_option maxRecDepth 100000 in
theorem zm229 : zMF 229 := ⟨zin 1852 rfl rfl, zin 132 rfl rfl, rfl, rfl, by decide +kernel, fun _ => by decide +kernel, by decide +kernel, by decide +kernel⟩
set_option maxRecDepth 100000 in
theorem zn229 : zMK 229 := ⟨(fun _ => ⟨zin 1851 rfl rfl, zin 64 rfl rfl⟩), (fun h => absurd h (by decide +kernel)), (fun h => absurd h (by decide +kernel))⟩
set_option maxRecDepth 100000 in
theorem zm230 : zMF 230 := ⟨zin 1844 rfl rfl, zin 132 rfl rfl, rfl, rfl, by decide +kernel, fun _ => by decide +kernel, by decide +kernel, by decide +kernel⟩
set_option maxRecDepth 100000 in
theorem zn230 : zMK 230 := ⟨(fun _ => ⟨zin 1843 rfl rfl, zin 62 rfl rfl⟩), (fun h => absurd h (by decide +kernel)), (fun h => absurd h (by decide +kernel))⟩
set_option maxRecDepth 100000 in
theorem zm231 : zMF 231 := ⟨zin 1856 rfl rfl, zin 132 rfl rfl, rfl, rfl, by decide +kernel, fun _ => by decide +kernel, by decide +kernel, by decide +kernel⟩
set_option maxRecDepth 100000 in
theorem zn231 : zMK 231 := ⟨(fun _ => ⟨zin 1855 rfl rfl, zin 65 rfl rfl⟩), (fun h => absurd h (by decide +kernel)), (fun h => absurd h (by decide +kernel))⟩
set_option maxRecDepth 100000 in
theorem zm232 : zMF 232 := ⟨zin 1840 rfl rfl, zin 132 rfl rfl, rfl, rfl, by decide +kernel, fun _ => by decide +kernel, by decide +kernel, by decide +kernel⟩
set_option maxRecDepth 100000 in
theorem zn232 : zMK 232 := ⟨(fun _ => ⟨zin 1839 rfl rfl, zin 61 rfl rfl⟩), (fun h => absurd h (by decide +kernel)), (fun h => absurd h (by decide +kernel))⟩
set_option maxRecDepth 100000 in
theorem zm233 : zMF 233 := ⟨zin 1836 rfl rfl, zin 132 rfl rfl, rfl, rfl, by decide +kernel, fun _ => by decide +kernel, by decide +kernel, by decide +kernel⟩
set_option maxRecDepth 100000 in
theorem zn233 : zMK 233 := ⟨(fun _ => ⟨zin 1835 rfl rfl, zin 60 rfl rfl⟩), (fun h => absurd h (by decide +kernel)), (fun h => absurd h (by decide +kernel))⟩
set_option maxRecDepth 100000 in
theorem zm234 : zMF 234 := ⟨zin 1745 rfl rfl, zin 132 rfl rfl, rfl, rfl, by decide +kernel, fun _ => by decide +kernel, by decide +kernel, by decide +kernel⟩
set_option maxRecDepth 100000 in
theorem zn234 : zMK 234 := ⟨(fun _ => ⟨zin 1743 rfl rfl, zin 1744 rfl rfl⟩), (fun h => absurd h (by decide +kernel)), (fun h => absurd h (by decide +kernel))⟩
set_option maxRecDepth 100000 in
theorem zm235 : zMF 235 := ⟨zin 1868 rfl rfl, zin 132 rfl rfl, rfl, rfl, by decide +kernel, fun _ => by decide +kernel, by decide +kernel, by decide +kernel⟩
set_option maxRecDepth 100000 in
theorem zn235 : zMK 235 := ⟨(fun _ => ⟨zin 1866 rfl rfl, zin 1867 rfl rfl⟩), (fun h => absurd h (by decide +kernel)), (fun h => absurd h (by decide +kernel))⟩
set_option maxRecDepth 100000 in
theorem zm236 : zMF 236 := ⟨zin 1872 rfl rfl, zin 132 rfl rfl, rfl, rfl, by decide +kernel, fun _ => by decide +kernel, by decide +kernel, by decide +kernel⟩
set_option maxRecDepth 100000 in
theorem zn236 : zMK 236 := ⟨(fun _ => ⟨zin 1870 rfl rfl, zin 1871 rfl rfl⟩), (fun h => absurd h (by decide +kernel)), (fun h => absurd h (by decide +kernel))⟩
set_option maxRecDepth 100000 in
theorem zm237 : zMF 237 := ⟨zin 1893 rfl rfl, zin 132 rfl rfl, rfl, rfl, by decide +kernel, fun _ => by decide +kernel, by decide +kernel, by decide +kernel⟩
set_option maxRecDepth 100000 in
theorem zn237 : zMK 237 := ⟨(fun _ => ⟨zin 1892 rfl rfl, zin 70 rfl rfl⟩), (fun h => absurd h (by decide +kernel)), (fun h => absurd h (by decide +kernel))⟩
set_option maxRecDepth 100000 in
theorem zm238 : zMF 238 := ⟨zin 1913 rfl rfl, zin 132 rfl rfl, rfl, rfl, by decide +kernel, fun _ => by decide +kernel, by decide +kernel, by decide +kernel⟩
set_option maxRecDepth 100000 in
theorem zn238 : zMK 238 := ⟨(fun _ => ⟨zin 1912 rfl rfl, zin 71 rfl rfl⟩), (fun h => absurd h (by decide +kernel)), (fun h => absurd h (by decide +kernel))⟩
set_option maxRecDepth 100000 in
theorem zm239 : zMF 239 := ⟨zin 1881 rfl rfl, zin 132 rfl rfl, rfl, rfl, by decide +kernel, fun _ => by decide +kernel, by decide +kernel, by decide +kernel⟩
set_option maxRecDepth 100000 in
theorem zn239 : zMK 239 := ⟨(fun _ => ⟨zin 1880 rfl rfl, zin 68 rfl rfl⟩), (fun h => absurd h (by decide +kernel)), (fun h => absurd h (by decide +kernel))⟩
set_option maxRecDepth 100000 in
theorem zm240 : zMF 240 := ⟨zin 1885 rfl rfl, zin 132 rfl rfl, rfl, rfl, by decide +kernel, fun _ => by decide +kernel, by decide +kernel, by decide +kernel⟩
set_option maxRecDepth 100000 in
theorem zn240 : zMK 240 := ⟨(fun _ => ⟨zin 1884 rfl rfl, zin 69 rfl rfl⟩), (fun h => absurd h (by decide +kernel)), (fun h => absurd h (by decide +kernel))⟩
set_option maxRecDepth 100000 in
theorem zm241 : zMF 241 := ⟨zin 1876 rfl rfl, zin 132 rfl rfl, rfl, rfl, by decide +kernel, fun _ => by decide +kernel, by decide +kernel, by decide +kernel⟩
set_option maxRecDepth 100000 in
theorem zn241 : zMK 241 := ⟨(fun _ => ⟨zin 1874 rfl rfl, zin 1875 rfl rfl⟩), (fun h => absurd h (by decide +kernel)), (fun h => absurd h (by decide +kernel))⟩
set_option maxRecDepth 100000 in
theorem zm242 : zMF 242 := ⟨zin 1889 rfl rfl, zin 132 rfl rfl, rfl, rfl, by decide +kernel, fun _ => by decide +kernel, by decide +kernel, by decide +kernel⟩
set_option maxRecDepth 100000 in
theorem zn242 : zMK 242 := ⟨(fun _ => ⟨zin 1887 rfl rfl, zin 1888 rfl rfl⟩), (fun h => absurd h (by decide +kernel)), (fun h => absurd h (by decide +kernel))⟩
set_option maxRecDepth 100000 in
theorem zm243 : zMF 243 := ⟨zin 1897 rfl rfl, zin 132 rfl rfl, rfl, rfl, by decide +kernel, fun _ => by decide +kernel, by decide +kernel, by decide +kernel⟩
set_option maxRecDepth 100000 in
theorem zn243 : zMK 243 := ⟨(fun _ => ⟨zin 1895 rfl rfl, zin 1896 rfl rfl⟩), (fun h => absurd h (by decide +kernel)), (fun h => absurd h (by decide +kernel))⟩
set_option maxRecDepth 100000 in
theorem zm244 : zMF 244 := ⟨zin 1901 rfl rfl, zin 132 rfl rfl, rfl, rfl, by decide +kernel, fun _ => by decide +kernel, by decide +kernel, by decide +kernel⟩
set_option maxRecDepth 100000 in
theorem zn244 : zMK 244 := ⟨(fun _ => ⟨zin 1899 rfl rfl, zin 1900 rfl rfl⟩), (fun h => absurd h (by decide +kernel)), (fun h => absurd h (by decide +kernel))⟩
set_option maxRecDepth 100000 in
theorem zm245 : zMF 245 := ⟨zin 1905 rfl rfl, zin 132 rfl rfl, rfl, rfl, by decide +kernel, fun _ => by decide +kernel, by decide +kernel, by decide +kernel⟩
set_option maxRecDepth 100000 in
theorem zn245 : zMK 245 := ⟨(fun _ => ⟨zin 1903 rfl rfl, zin 1904 rfl rfl⟩), (fun h => absurd h (by decide +kernel)), (fun h => absurd h (by decide +kernel))⟩
set_option maxRecDepth 100000 in
theorem zm246 : zMF 246 := ⟨zin 1918 rfl rfl, zin 132 rfl rfl, rfl, rfl, by decide +kernel, fun _ => by decide +kernel, by decide +kernel, by decide +kernel⟩
set_option maxRecDepth 100000 in
theorem zn246 : zMK 246 := ⟨(fun _ => ⟨zin 1917 rfl rfl, zin 72 rfl rfl⟩), (fun h => absurd h (by decide +kernel)), (fun h => absurd h (by decide +kernel))⟩
set_option maxRecDepth 100000 in
theorem zm247 : zMF 247 := ⟨zin 1909 rfl rfl, zin 132 rfl rfl, rfl, rfl, by decide +kernel, fun _ => by decide +kernel, by decide +kernel, by decide +kernel⟩
set_option maxRecDepth 100000 in
theorem zn247 : zMK 247 := ⟨(fun _ => ⟨zin 1907 rfl rfl, zin 1908 rfl rfl⟩), (fun h => absurd h (by decide +kernel)), (fun h => absurd h (by decide +kernel))⟩
set_option maxRecDepth 100000 in
theorem zm248 : zMF 248 := ⟨zin 1922 rfl rfl, zin 132 rfl rfl, rfl, rfl, by decide +kernel, fun _ => by decide +kernel, by decide +kernel, by decide +kernel⟩
set_option maxRecDepth 100000 in
theorem zn248 : zMK 248 := ⟨(fun _ => ⟨zin 1920 rfl rfl, zin 1921 rfl rfl⟩), (fun h => absurd h (by decide +kernel)), (fun h => absurd h (by decide +kernel))⟩
set_option maxRecDepth 100000 in
theorem zm249 : zMF 249 := ⟨zin 1930 rfl rfl, zin 132 rfl rfl, rfl, rfl, by decide +kernel, fun _ => by decide +kernel, by decide +kernel, by decide +kernel⟩
set_option maxRecDepth 100000 in
theorem zn249 : zMK 249 := ⟨(fun _ => ⟨zin 1929 rfl rfl, zin 73 rfl rfl⟩), (fun h => absurd h (by decide +kernel)), (fun h => absurd h (by decide +kernel))⟩
set_option maxRecDepth 100000 in
theorem zm250 : zMF 250 := ⟨zin 1926 rfl rfl, zin 132 rfl rfl, rfl, rfl, by decide +kernel, fun _ => by decide +kernel, by decide +kernel, by decide +kernel⟩
set_option maxRecDepth 100000 in
theorem zn250 : zMK 250 := ⟨(fun _ => ⟨zin 1924 rfl rfl, zin 1925 rfl rfl⟩), (fun h => absurd h (by decide +kernel)), (fun h => absurd h (by decide +kernel))⟩
set_option maxRecDepth 100000 in
theorem zm251 : zMF 251 := ⟨zin 1934 rfl rfl, zin 132 rfl rfl, rfl, rfl, by decide +kernel, fun _ => by decide +kernel, by decide +kernel, by decide +kernel⟩
set_option maxRecDepth 100000 in
theorem zn251 : zMK 251 := ⟨(fun _ => ⟨zin 1932 rfl rfl, zin 1933 rfl rfl⟩), (fun h => absurd h (by decide +kernel)), (fun h => absurd h (by decide +kernel))⟩
set_option maxRecDepth 100000 in
theorem zm252 : zMF 252 := ⟨zin 1946 rfl rfl, zin 132 rfl rfl, rfl, rfl, by decide +kernel, fun _ => by decide +kernel, by decide +kernel, by decide +kernel⟩
set_option maxRecDepth 100000 in
theorem zn252 : zMK 252 := ⟨(fun _ => ⟨zin 1945 rfl rfl, zin 75 rfl rfl⟩), (fun h => absurd h (by decide +kernel)), (fun h => absurd h (by decide +kernel))⟩
set_option maxRecDepth 100000 in
theorem zm253 : zMF 253 := ⟨zin 1942 rfl rfl, zin 132 rfl rfl, rfl, rfl, by decide +kernel, fun _ => by decide +kernel, by decide +kernel, by decide +kernel⟩
set_option maxRecDepth 100000 in
theorem zn253 : zMK 253 := ⟨(fun _ => ⟨zin 1941 rfl rfl, zin 74 rfl rfl⟩), (fun h => absurd h (by decide +kernel)), (fun h => absurd h (by decide +kernel))⟩
set_option maxRecDepth 100000 in
theorem zm254 : zMF 254 := ⟨zin 1938 rfl rfl, zin 132 rfl rfl, rfl, rfl, by decide +kernel, fun _ => by decide +kernel, by decide +kernel, by decide +kernel⟩
set_option maxRecDepth 100000 in
theorem zn254 : zMK 254 := ⟨(fun _ => ⟨zin 1936 rfl rfl, zin 1937 rfl rfl⟩), (fun h => absurd h (by decide +kernel)), (fun h => absurd h (by decide +kernel))⟩
set_option maxRecDepth 100000 in
theorem zm255 : zMF 255 := ⟨zin 1950 rfl rfl, zin 132 rfl rfl, rfl, rfl, by decide +kernel, fun _ => by decide +kernel, by decide +kernel, by decide +kernel⟩
set_option maxRecDepth 100000 in
theorem zn255 : zMK 255 := ⟨(fun _ => ⟨zin 1948 rfl rfl, zin 1949 rfl rfl⟩), (fun h => absurd h (by decide +kernel)), (fun h => absurd h (by decide +kernel))⟩
set_option maxRecDepth 100000 in
theorem zm256 : zMF 256 := ⟨zin 1954 rfl rfl, zin 132 rfl rfl, rfl, rfl, by decide +kernel, fun _ => by decide +kernel, by decide +kernel, by decide +kernel⟩
set_option maxRecDepth 100000 in
theorem zn256 : zMK 256 := ⟨(fun _ => ⟨zin 1952 rfl rfl, zin 1953 rfl rfl⟩), (fun h => absurd h (by decide +kernel)), (fun h => absurd h (by decide +kernel))⟩
set_option maxRecDepth 100000 in
theorem zm257 : zMF 257 := ⟨zin 1975 rfl rfl, zin 132 rfl rfl, rfl, rfl, by decide +kernel, fun _ => by decide +kernel, by decide +kernel, by decide +kernel⟩
set_option maxRecDepth 100000 in
theorem zn257 : zMK 257 := ⟨(fun h => absurd h (by decide +kernel)), (fun _ => zin 1974 rfl rfl), (fun h => absurd h (by decide +kernel))⟩
set_option maxRecDepth 100000 in
theorem zm258 : zMF 258 := ⟨zin 1970 rfl rfl, zin 132 rfl rfl, rfl, rfl, by decide +kernel, fun _ => by decide +kernel, by decide +kernel, by decide +kernel⟩
set_option maxRecDepth 100000 in
theorem zn258 : zMK 258 := ⟨(fun h => absurd h (by decide +kernel)), (fun _ => zin 1969 rfl rfl), (fun h => absurd h (by decide +kernel))⟩
set_option maxRecDepth 100000 in
theorem zm259 : zMF 259 := ⟨zin 1959 rfl rfl, zin 132 rfl rfl, rfl, rfl, by decide +kernel, fun _ => by decide +kernel, by decide +kernel, by decide +kernel⟩
set_option maxRecDepth 100000 in
theorem zn259 : zMK 259 := ⟨(fun _ => ⟨zin 1957 rfl rfl, zin 1958 rfl rfl⟩), (fun h => absurd h (by decide +kernel)), (fun h => absurd h (by decide +kernel))⟩
set_option maxRecDepth 100000 in
theorem zm260 : zMF 260 := ⟨zin 1967 rfl rfl, zin 132 rfl rfl, rfl, rfl, by decide +kernel, fun _ => by decide +kernel, by decide +kernel, by decide +kernel⟩
set_option maxRecDepth 100000 in
theorem zn260 : zMK 260 := ⟨(fun _ => ⟨zin 1966 rfl rfl, zin 76 rfl rfl⟩), (fun h => absurd h (by decide +kernel)), (fun h => absurd h (by decide +kernel))⟩
set_option maxRecDepth 100000 in
theorem zm261 : zMF 261 := ⟨zin 1963 rfl rfl, zin 132 rfl rfl, rfl, rfl, by decide +kernel, fun _ => by decide +kernel, by decide +kernel, by decide +kernel⟩
set_option maxRecDepth 100000 in
theorem zn261 : zMK 261 := ⟨(fun _ => ⟨zin 1961 rfl rfl, zin 1962 rfl rfl⟩), (fun h => absurd h (by decide +kernel)), (fun h => absurd h (by decide +kernel))⟩
set_option maxRecDepth 100000 in
theorem zm262 : zMF 262 := ⟨zin 1992 rfl rfl, zin 132 rfl rfl, rfl, rfl, by decide +kernel, fun _ => by decide +kernel, by decide +kernel, by decide +kernel⟩
set_option maxRecDepth 100000 in
theorem zn262 : zMK 262 := ⟨(fun h => absurd h (by decide +kernel)), (fun _ => zin 1991 rfl rfl), (fun h => absurd h (by decide +kernel))⟩
set_option maxRecDepth 100000 in
theorem zm263 : zMF 263 := ⟨zin 1989 rfl rfl, zin 132 rfl rfl, rfl, rfl, by decide +kernel, fun _ => by decide +kernel, by decide +kernel, by decide +kernel⟩
set_option maxRecDepth 100000 in
theorem zn263 : zMK 263 := ⟨(fun _ => ⟨zin 1988 rfl rfl, zin 78 rfl rfl⟩), (fun h => absurd h (by decide +kernel)), (fun h => absurd h (by decide +kernel))⟩
set_option maxRecDepth 100000 in
theorem zm264 : zMF 264 := ⟨zin 1985 rfl rfl, zin 132 rfl rfl, rfl, rfl, by decide +kernel, fun _ => by decide +kernel, by decide +kernel, by decide +kernel⟩
set_option maxRecDepth 100000 in
theorem zn264 : zMK 264 := ⟨(fun _ => ⟨zin 1984 rfl rfl, zin 77 rfl rfl⟩), (fun h => absurd h (by decide +kernel)), (fun h => absurd h (by decide +kernel))⟩
set_option maxRecDepth 100000 in
theorem zm265 : zMF 265 := ⟨zin 1981 rfl rfl, zin 132 rfl rfl, rfl, rfl, by decide +kernel, fun _ => by decide +kernel, by decide +kernel, by decide +kernel⟩
set_option maxRecDepth 100000 in
theorem zn265 : zMK 265 := ⟨(fun _ => ⟨zin 1979 rfl rfl, zin 1980 rfl rfl⟩), (fun h => absurd h (by decide +kernel)), (fun h => absurd h (by decide +kernel))⟩
set_option maxRecDepth 100000 in
theorem zm266 : zMF 266 := ⟨zin 2004 rfl rfl, zin 132 rfl rfl, rfl, rfl, by decide +kernel, fun _ => by decide +kernel, by decide +kernel, by decide +kernel⟩
set_option maxRecDepth 100000 in
theorem zn266 : zMK 266 := ⟨(fun _ => ⟨zin 2003 rfl rfl, zin 80 rfl rfl⟩), (fun h => absurd h (by decide +kernel)), (fun h => absurd h (by decide +kernel))⟩
set_option maxRecDepth 100000 in
theorem zm267 : zMF 267 := ⟨zin 2000 rfl rfl, zin 132 rfl rfl, rfl, rfl, by decide +kernel, fun _ => by decide +kernel, by decide +kernel, by decide +kernel⟩
set_option maxRecDepth 100000 in
theorem zn267 : zMK 267 := ⟨(fun _ => ⟨zin 1999 rfl rfl, zin 79 rfl rfl⟩), (fun h => absurd h (by decide +kernel)), (fun h => absurd h (by decide +kernel))⟩
set_option maxRecDepth 100000 in
theorem zm268 : zMF 268 := ⟨zin 1996 rfl rfl, zin 132 rfl rfl, rfl, rfl, by decide +kernel, fun _ => by decide +kernel, by decide +kernel, by decide +kernel⟩
set_option maxRecDepth 100000 in
theorem zn268 : zMK 268 := ⟨(fun _ => ⟨zin 1994 rfl rfl, zin 1995 rfl rfl⟩), (fun h => absurd h (by decide +kernel)), (fun h => absurd h (by decide +kernel))⟩
set_option maxRecDepth 100000 in
theorem zm269 : zMF 269 := ⟨zin 2010 rfl rfl, zin 132 rfl rfl, rfl, rfl, by decide +kernel, fun _ => by decide +kernel, by decide +kernel, by decide +kernel⟩
set_option maxRecDepth 100000 in
theorem zn269 : zMK 269 := ⟨(fun _ => ⟨zin 2008 rfl rfl, zin 2009 rfl rfl⟩), (fun h => absurd h (by decide +kernel)), (fun h => absurd h (by decide +kernel))⟩
set_option maxRecDepth 100000 in
theorem zm270 : zMF 270 := ⟨zin 2021 rfl rfl, zin 132 rfl rfl, rfl, rfl, by decide +kernel, fun _ => by decide +kernel, by decide +kernel, by decide +kernel⟩
set_option maxRecDepth 100000 in
theorem zn270 : zMK 270 := ⟨(fun _ => ⟨zin 2020 rfl rfl, zin 81 rfl rfl⟩), (fun h => absurd h (by decide +kernel)), (fun h => absurd h (by decide +kernel))⟩
set_option maxRecDepth 100000 in
theorem zm271 : zMF 271 := ⟨zin 2017 rfl rfl, zin 132 rfl rfl, rfl, rfl, by decide +kernel, fun _ => by decide +kernel, by decide +kernel, by decide +kernel⟩
set_option maxRecDepth 100000 in
theorem zn271 : zMK 271 := ⟨(fun _ => ⟨zin 2015 rfl rfl, zin 2016 rfl rfl⟩), (fun h => absurd h (by decide +kernel)), (fun h => absurd h (by decide +kernel))⟩
set_option maxRecDepth 100000 in
theorem zm272 : zMF 272 := ⟨zin 2025 rfl rfl, zin 132 rfl rfl, rfl, rfl, by decide +kernel, fun _ => by decide +kernel, by decide +kernel, by decide +kernel⟩
set_option maxRecDepth 100000 in
theorem zn272 : zMK 272 := ⟨(fun _ => ⟨zin 2023 rfl rfl, zin 2024 rfl rfl⟩), (fun h => absurd h (by decide +kernel)), (fun h => absurd h (by decide +kernel))⟩
set_option maxRecDepth 100000 in
theorem zm273 : zMF 273 := ⟨zin 2039 rfl rfl, zin 132 rfl rfl, rfl, rfl, by decide +kernel, fun _ => by decide +kernel, by decide +kernel, by decide +kernel⟩
set_option maxRecDepth 100000 in
theorem zn273 : zMK 273 := ⟨(fun _ => ⟨zin 2038 rfl rfl, zin 82 rfl rfl⟩), (fun h => absurd h (by decide +kernel)), (fun h => absurd h (by decide +kernel))⟩
set_option maxRecDepth 100000 in
theorem zm274 : zMF 274 := ⟨zin 2043 rfl rfl, zin 132 rfl rfl, rfl, rfl, by decide +kernel, fun _ => by decide +kernel, by decide +kernel, by decide +kernel⟩
set_option maxRecDepth 100000 in
theorem zn274 : zMK 274 := ⟨(fun _ => ⟨zin 2042 rfl rfl, zin 83 rfl rfl⟩), (fun h => absurd h (by decide +kernel)), (fun h => absurd h (by decide +kernel))⟩
set_option maxRecDepth 100000 in
theorem zm275 : zMF 275 := ⟨zin 2030 rfl rfl, zin 132 rfl rfl, rfl, rfl, by decide +kernel, fun _ => by decide +kernel, by decide +kernel, by decide +kernel⟩
set_option maxRecDepth 100000 in
theorem zn275 : zMK 275 := ⟨(fun _ => ⟨zin 2028 rfl rfl, zin 2029 rfl rfl⟩), (fun h => absurd h (by decide +kernel)), (fun h => absurd h (by decide +kernel))⟩
set_option maxRecDepth 100000 in
theorem zm276 : zMF 276 := ⟨zin 2034 rfl rfl, zin 132 rfl rfl, rfl, rfl, by decide +kernel, fun _ => by decide +kernel, by decide +kernel, by decide +kernel⟩
set_option maxRecDepth 100000 in
theorem zn276 : zMK 276 := ⟨(fun _ => ⟨zin 2032 rfl rfl, zin 2033 rfl rfl⟩), (fun h => absurd h (by decide +kernel)), (fun h => absurd h (by decide +kernel))⟩
set_option maxRecDepth 100000 in
theorem zm277 : zMF 277 := ⟨zin 2051 rfl rfl, zin 132 rfl rfl, rfl, rfl, by decide +kernel, fun _ => by decide +kernel, by decide +kernel, by decide +kernel⟩
set_option maxRecDepth 100000 in
theorem zn277 : zMK 277 := ⟨(fun _ => ⟨zin 2050 rfl rfl, zin 84 rfl rfl⟩), (fun h => absurd h (by decide +kernel)), (fun h => absurd h (by decide +kernel))⟩
set_option maxRecDepth 100000 in
theorem zm278 : zMF 278 := ⟨zin 2055 rfl rfl, zin 132 rfl rfl, rfl, rfl, by decide +kernel, fun _ => by decide +kernel, by decide +kernel, by decide +kernel⟩
set_option maxRecDepth 100000 in
theorem zn278 : zMK 278 := ⟨(fun _ => ⟨zin 2054 rfl rfl, zin 85 rfl rfl⟩), (fun h => absurd h (by decide +kernel)), (fun h => absurd h (by decide +kernel))⟩
set_option maxRecDepth 100000 in
theorem zm279 : zMF 279 := ⟨zin 2047 rfl rfl, zin 132 rfl rfl, rfl, rfl, by decide +kernel, fun _ => by decide +kernel, by decide +kernel, by decide +kernel⟩
set_option maxRecDepth 100000 in
theorem zn279 : zMK 279 := ⟨(fun _ => ⟨zin 2045 rfl rfl, zin 2046 rfl rfl⟩), (fun h => absurd h (by decide +kernel)), (fun h => absurd h (by decide +kernel))⟩
set_option maxRecDepth 100000 in
theorem zm280 : zMF 280 := ⟨zin 2060 rfl rfl, zin 132 rfl rfl, rfl, rfl, by decide +kernel, fun _ => by decide +kernel, by decide +kernel, by decide +kernel⟩
set_option maxRecDepth 100000 in
theorem zn280 : zMK 280 := ⟨(fun _ => ⟨zin 2058 rfl rfl, zin 2059 rfl rfl⟩), (fun h => absurd h (by decide +kernel)), (fun h => absurd h (by decide +kernel))⟩
set_option maxRecDepth 100000 in
theorem zm281 : zMF 281 := ⟨zin 2068 rfl rfl, zin 132 rfl rfl, rfl, rfl, by decide +kernel, fun _ => by decide +kernel, by decide +kernel, by decide +kernel⟩
set_option maxRecDepth 100000 in
theorem zn281 : zMK 281 := ⟨(fun _ => ⟨zin 2067 rfl rfl, zin 86 rfl rfl⟩), (fun h => absurd h (by decide +kernel)), (fun h => absurd h (by decide +kernel))⟩
set_option maxRecDepth 100000 in
theorem zm282 : zMF 282 := ⟨zin 2064 rfl rfl, zin 132 rfl rfl, rfl, rfl, by decide +kernel, fun _ => by decide +kernel, by decide +kernel, by decide +kernel⟩
set_option maxRecDepth 100000 in
theorem zn282 : zMK 282 := ⟨(fun _ => ⟨zin 2062 rfl rfl, zin 2063 rfl rfl⟩), (fun h => absurd h (by decide +kernel)), (fun h => absurd h (by decide +kernel))⟩
set_option maxRecDepth 100000 in
theorem zm283 : zMF 283 := ⟨zin 2072 rfl rfl, zin 132 rfl rfl, rfl, rfl, by decide +kernel, fun _ => by decide +kernel, by decide +kernel, by decide +kernel⟩
set_option maxRecDepth 100000 in
theorem zn283 : zMK 283 := ⟨(fun _ => ⟨zin 2070 rfl rfl, zin 2071 rfl rfl⟩), (fun h => absurd h (by decide +kernel)), (fun h => absurd h (by decide +kernel))⟩
set_option maxRecDepth 100000 in
theorem zm284 : zMF 284 := ⟨zin 2077 rfl rfl, zin 132 rfl rfl, rfl, rfl, by decide +kernel, fun _ => by decide +kernel, by decide +kernel, by decide +kernel⟩
set_option maxRecDepth 100000 in
theorem zn284 : zMK 284 := ⟨(fun _ => ⟨zin 2075 rfl rfl, zin 2076 rfl rfl⟩), (fun h => absurd h (by decide +kernel)), (fun h => absurd h (by decide +kernel))⟩
set_option maxRecDepth 100000 in
theorem zm285 : zMF 285 := ⟨zin 2085 rfl rfl, zin 132 rfl rfl, rfl, rfl, by decide +kernel, fun _ => by decide +kernel, by decide +kernel, by decide +kernel⟩
set_option maxRecDepth 100000 in
theorem zn285 : zMK 285 := ⟨(fun _ => ⟨zin 2084 rfl rfl, zin 87 rfl rfl⟩), (fun h => absurd h (by decide +kernel)), (fun h => absurd h (by decide +kernel))⟩
set_option maxRecDepth 100000 in
theorem zm286 : zMF 286 := ⟨zin 2090 rfl rfl, zin 132 rfl rfl, rfl, rfl, by decide +kernel, fun _ => by decide +kernel, by decide +kernel, by decide +kernel⟩
set_option maxRecDepth 100000 in
theorem zn286 : zMK 286 := ⟨(fun _ => ⟨zin 2089 rfl rfl, zin 88 rfl rfl⟩), (fun h => absurd h (by decide +kernel)), (fun h => absurd h (by decide +kernel))⟩
set_option maxRecDepth 100000 in
theorem zm287 : zMF 287 := ⟨zin 2098 rfl rfl, zin 132 rfl rfl, rfl, rfl, by decide +kernel, fun _ => by decide +kernel, by decide +kernel, by decide +kernel⟩
set_option maxRecDepth 100000 in
theorem zn287 : zMK 287 := ⟨(fun _ => ⟨zin 2097 rfl rfl, zin 89 rfl rfl⟩), (fun h => absurd h (by decide +kernel)), (fun h => absurd h (by decide +kernel))⟩
set_option maxRecDepth 100000 in
theorem zm288 : zMF 288 := ⟨zin 2081 rfl rfl, zin 132 rfl rfl, rfl, rfl, by decide +kernel, fun _ => by decide +kernel, by decide +kernel, by decide +kernel⟩
set_option maxRecDepth 100000 in
theorem zn288 : zMK 288 := ⟨(fun _ => ⟨zin 2079 rfl rfl, zin 2080 rfl rfl⟩), (fun h => absurd h (by decide +kernel)), (fun h => absurd h (by decide +kernel))⟩
set_option maxRecDepth 100000 in
theorem zm289 : zMF 289 := ⟨zin 2094 rfl rfl, zin 132 rfl rfl, rfl, rfl, by decide +kernel, fun _ => by decide +kernel, by decide +kernel, by decide +kernel⟩
set_option maxRecDepth 100000 in
theorem zn289 : zMK 289 := ⟨(fun _ => ⟨zin 2092 rfl rfl, zin 2093 rfl rfl⟩), (fun h => absurd h (by decide +kernel)), (fun h => absurd h (by decide +kernel))⟩
set_option maxRecDepth 100000 in
theorem zm290 : zMF 290 := ⟨zin 2106 rfl rfl, zin 132 rfl rfl, rfl, rfl, by decide +kernel, fun _ => by decide +kernel, by decide +kernel, by decide +kernel⟩
set_option maxRecDepth 100000 in
theorem zn290 : zMK 290 := ⟨(fun _ => ⟨zin 2105 rfl rfl, zin 90 rfl rfl⟩), (fun h => absurd h (by decide +kernel)), (fun h => absurd h (by decide +kernel))⟩
set_option maxRecDepth 100000 in
theorem zm291 : zMF 291 := ⟨zin 2102 rfl rfl, zin 132 rfl rfl, rfl, rfl, by decide +kernel, fun _ => by decide +kernel, by decide +kernel, by decide +kernel⟩
set_option maxRecDepth 100000 in
theorem zn291 : zMK 291 := ⟨(fun _ => ⟨zin 2100 rfl rfl, zin 2101 rfl rfl⟩), (fun h => absurd h (by decide +kernel)), (fun h => absurd h (by decide +kernel))⟩
set_option maxRecDepth 100000 in
theorem zm292 : zMF 292 := ⟨zin 2114 rfl rfl, zin 132 rfl rfl, rfl, rfl, by decide +kernel, fun _ => by decide +kernel, by decide +kernel, by decide +kernel⟩
set_option maxRecDepth 100000 in
theorem zn292 : zMK 292 := ⟨(fun _ => ⟨zin 2113 rfl rfl, zin 91 rfl rfl⟩), (fun h => absurd h (by decide +kernel)), (fun h => absurd h (by decide +kernel))⟩
set_option maxRecDepth 100000 in
theorem zm293 : zMF 293 := ⟨zin 2110 rfl rfl, zin 132 rfl rfl, rfl, rfl, by decide +kernel, fun _ => by decide +kernel, by decide +kernel, by decide +kernel⟩
set_option maxRecDepth 100000 in
theorem zn293 : zMK 293 := ⟨(fun _ => ⟨zin 2108 rfl rfl, zin 2109 rfl rfl⟩), (fun h => absurd h (by decide +kernel)), (fun h => absurd h (by decide +kernel))⟩
set_option maxRecDepth 100000 in
theorem zm294 : zMF 294 := ⟨zin 2145 rfl rfl, zin 132 rfl rfl, rfl, rfl, by decide +kernel, fun _ => by decide +kernel, by decide +kernel, by decide +kernel⟩
set_option maxRecDepth 100000 in
theorem zn294 : zMK 294 := ⟨(fun _ => ⟨zin 2144 rfl rfl, zin 96 rfl rfl⟩), (fun h => absurd h (by decide +kernel)), (fun h => absurd h (by decide +kernel))⟩
set_option maxRecDepth 100000 in
theorem zm295 : zMF 295 := ⟨zin 2126 rfl rfl, zin 132 rfl rfl, rfl, rfl, by decide +kernel, fun _ => by decide +kernel, by decide +kernel, by decide +kernel⟩
set_option maxRecDepth 100000 in
theorem zn295 : zMK 295 := ⟨(fun _ => ⟨zin 2125 rfl rfl, zin 93 rfl rfl⟩), (fun h => absurd h (by decide +kernel)), (fun h => absurd h (by decide +kernel))⟩
set_option maxRecDepth 100000 in
theorem zm296 : zMF 296 := ⟨zin 2129 rfl rfl, zin 132 rfl rfl, rfl, rfl, by decide +kernel, fun _ => by decide +kernel, by decide +kernel, by decide +kernel⟩
set_option maxRecDepth 100000 in
theorem zn296 : zMK 296 := ⟨(fun h => absurd h (by decide +kernel)), (fun _ => zin 2128 rfl rfl), (fun h => absurd h (by decide +kernel))⟩
set_option maxRecDepth 100000 in
theorem zm297 : zMF 297 := ⟨zin 2137 rfl rfl, zin 132 rfl rfl, rfl, rfl, by decide +kernel, fun _ => by decide +kernel, by decide +kernel, by decide +kernel⟩
set_option maxRecDepth 100000 in
theorem zn297 : zMK 297 := ⟨(fun _ => ⟨zin 2136 rfl rfl, zin 94 rfl rfl⟩), (fun h => absurd h (by decide +kernel)), (fun h => absurd h (by decide +kernel))⟩
set_option maxRecDepth 100000 in
theorem zm298 : zMF 298 := ⟨zin 2141 rfl rfl, zin 132 rfl rfl, rfl, rfl, by decide +kernel, fun _ => by decide +kernel, by decide +kernel, by decide +kernel⟩
set_option maxRecDepth 100000 in
theorem zn298 : zMK 298 := ⟨(fun _ => ⟨zin 2140 rfl rfl, zin 95 rfl rfl⟩), (fun h => absurd h (by decide +kernel)), (fun h => absurd h (by decide +kernel))⟩
set_option maxRecDepth 100000 in
theorem zm299 : zMF 299 := ⟨zin 2118 rfl rfl, zin 132 rfl rfl, rfl, rfl, by decide +kernel, fun _ => by decide +kernel, by decide +kernel, by decide +kernel⟩
set_option maxRecDepth 100000 in
theorem zn299 : zMK 299 := ⟨(fun _ => ⟨zin 2116 rfl rfl, zin 2117 rfl rfl⟩), (fun h => absurd h (by decide +kernel)), (fun h => absurd h (by decide +kernel))⟩
set_option maxRecDepth 100000 in
theorem zm300 : zMF 300 := ⟨zin 2122 rfl rfl, zin 132 rfl rfl, rfl, rfl, by decide +kernel, fun _ => by decide +kernel, by decide +kernel, by decide +kernel⟩
set_option maxRecDepth 100000 in
theorem zn300 : zMK 300 := ⟨(fun _ => ⟨zin 2121 rfl rfl, zin 92 rfl rfl⟩), (fun h => absurd h (by decide +kernel)), (fun h => absurd h (by decide +kernel))⟩
set_option maxRecDepth 100000 in
theorem zm301 : zMF 301 := ⟨zin 2154 rfl rfl, zin 132 rfl rfl, rfl, rfl, by decide +kernel, fun _ => by decide +kernel, by decide +kernel, by decide +kernel⟩
set_option maxRecDepth 100000 in
theorem zn301 : zMK 301 := ⟨(fun _ => ⟨zin 2153 rfl rfl, zin 97 rfl rfl⟩), (fun h => absurd h (by decide +kernel)), (fun h => absurd h (by decide +kernel))⟩
set_option maxRecDepth 100000 in
theorem zm302 : zMF 302 := ⟨zin 2149 rfl rfl, zin 132 rfl rfl, rfl, rfl, by decide +kernel, fun _ => by decide +kernel, by decide +kernel, by decide +kernel⟩
set_option maxRecDepth 100000 in
theorem zn302 : zMK 302 := ⟨(fun _ => ⟨zin 2147 rfl rfl, zin 2148 rfl rfl⟩), (fun h => absurd h (by decide +kernel)), (fun h => absurd h (by decide +kernel))⟩
set_option maxRecDepth 100000 in
theorem zm303 : zMF 303 := ⟨zin 2163 rfl rfl, zin 132 rfl rfl, rfl, rfl, by decide +kernel, fun _ => by decide +kernel, by decide +kernel, by decide +kernel⟩
set_option maxRecDepth 100000 in
theorem zn303 : zMK 303 := ⟨(fun _ => ⟨zin 2162 rfl rfl, zin 98 rfl rfl⟩), (fun h => absurd h (by decide +kernel)), (fun h => absurd h (by decide +kernel))⟩
set_option maxRecDepth 100000 in
theorem zm304 : zMF 304 := ⟨zin 2159 rfl rfl, zin 132 rfl rfl, rfl, rfl, by decide +kernel, fun _ => by decide +kernel, by decide +kernel, by decide +kernel⟩
set_option maxRecDepth 100000 in
theorem zn304 : zMK 304 := ⟨(fun _ => ⟨zin 2157 rfl rfl, zin 2158 rfl rfl⟩), (fun h => absurd h (by decide +kernel)), (fun h => absurd h (by decide +kernel))⟩
set_option maxRecDepth 100000 in
theorem zm305 : zMF 305 := ⟨zin 2172 rfl rfl, zin 132 rfl rfl, rfl, rfl, by decide +kernel, fun _ => by decide +kernel, by decide +kernel, by decide +kernel⟩
set_option maxRecDepth 100000 in
theorem zn305 : zMK 305 := ⟨(fun _ => ⟨zin 2171 rfl rfl, zin 99 rfl rfl⟩), (fun h => absurd h (by decide +kernel)), (fun h => absurd h (by decide +kernel))⟩
set_option maxRecDepth 100000 in
theorem zm306 : zMF 306 := ⟨zin 2167 rfl rfl, zin 132 rfl rfl, rfl, rfl, by decide +kernel, fun _ => by decide +kernel, by decide +kernel, by decide +kernel⟩
set_option maxRecDepth 100000 in
theorem zn306 : zMK 306 := ⟨(fun _ => ⟨zin 2165 rfl rfl, zin 2166 rfl rfl⟩), (fun h => absurd h (by decide +kernel)), (fun h => absurd h (by decide +kernel))⟩
set_option maxRecDepth 100000 in
theorem zm307 : zMF 307 := ⟨zin 2180 rfl rfl, zin 132 rfl rfl, rfl, rfl, by decide +kernel, fun _ => by decide +kernel, by decide +kernel, by decide +kernel⟩
set_option maxRecDepth 100000 in
theorem zn307 : zMK 307 := ⟨(fun _ => ⟨zin 2179 rfl rfl, zin 100 rfl rfl⟩), (fun h => absurd h (by decide +kernel)), (fun h => absurd h (by decide +kernel))⟩
set_option maxRecDepth 100000 in
theorem zm308 : zMF 308 := ⟨zin 2176 rfl rfl, zin 132 rfl rfl, rfl, rfl, by decide +kernel, fun _ => by decide +kernel, by decide +kernel, by decide +kernel⟩
set_option maxRecDepth 100000 in
theorem zn308 : zMK 308 := ⟨(fun _ => ⟨zin 2174 rfl rfl, zin 2175 rfl rfl⟩), (fun h => absurd h (by decide +kernel)), (fun h => absurd h (by decide +kernel))⟩
set_option maxRecDepth 100000 in
theorem zm309 : zMF 309 := ⟨zin 2184 rfl rfl, zin 132 rfl rfl, rfl, rfl, by decide +kernel, fun _ => by decide +kernel, by decide +kernel, by decide +kernel⟩
set_option maxRecDepth 100000 in
theorem zn309 : zMK 309 := ⟨(fun _ => ⟨zin 2182 rfl rfl, zin 2183 rfl rfl⟩), (fun h => absurd h (by decide +kernel)), (fun h => absurd h (by decide +kernel))⟩
set_option maxRecDepth 100000 in
theorem zm310 : zMF 310 := ⟨zin 2188 rfl rfl, zin 132 rfl rfl, rfl, rfl, by decide +kernel, fun _ => by decide +kernel, by decide +kernel, by decide +kernel⟩
set_option maxRecDepth 100000 in
theorem zn310 : zMK 310 := ⟨(fun _ => ⟨zin 2186 rfl rfl, zin 2187 rfl rfl⟩), (fun h => absurd h (by decide +kernel)), (fun h => absurd h (by decide +kernel))⟩
set_option maxRecDepth 100000 in
theorem zm311 : zMF 311 := ⟨zin 2196 rfl rfl, zin 132 rfl rfl, rfl, rfl, by decide +kernel, fun _ => by decide +kernel, by decide +kernel, by decide +kernel⟩
set_option maxRecDepth 100000 in
theorem zn311 : zMK 311 := ⟨(fun _ => ⟨zin 2195 rfl rfl, zin 101 rfl rfl⟩), (fun h => absurd h (by decide +kernel)), (fun h => absurd h (by decide +kernel))⟩
set_option maxRecDepth 100000 in
theorem zm312 : zMF 312 := ⟨zin 2192 rfl rfl, zin 132 rfl rfl, rfl, rfl, by decide +kernel, fun _ => by decide +kernel, by decide +kernel, by decide +kernel⟩
set_option maxRecDepth 100000 in
theorem zn312 : zMK 312 := ⟨(fun _ => ⟨zin 2190 rfl rfl, zin 2191 rfl rfl⟩), (fun h => absurd h (by decide +kernel)), (fun h => absurd h (by decide +kernel))⟩
set_option maxRecDepth 100000 in
theorem zm313 : zMF 313 := ⟨zin 2200 rfl rfl, zin 132 rfl rfl, rfl, rfl, by decide +kernel, fun _ => by decide +kernel, by decide +kernel, by decide +kernel⟩
set_option maxRecDepth 100000 in
theorem zn313 : zMK 313 := ⟨(fun _ => ⟨zin 2198 rfl rfl, zin 2199 rfl rfl⟩), (fun h => absurd h (by decide +kernel)), (fun h => absurd h (by decide +kernel))⟩
set_option maxRecDepth 100000 in
theorem zm314 : zMF 314 := ⟨zin 2204 rfl rfl, zin 132 rfl rfl, rfl, rfl, by decide +kernel, fun _ => by decide +kernel, by decide +kernel, by decide +kernel⟩
set_option maxRecDepth 100000 in
theorem zn314 : zMK 314 := ⟨(fun _ => ⟨zin 2202 rfl rfl, zin 2203 rfl rfl⟩), (fun h => absurd h (by decide +kernel)), (fun h => absurd h (by decide +kernel))⟩
set_option maxRecDepth 100000 in
theorem zm315 : zMF 315 := ⟨zin 2212 rfl rfl, zin 132 rfl rfl, rfl, rfl, by decide +kernel, fun _ => by decide +kernel, by decide +kernel, by decide +kernel⟩
set_option maxRecDepth 100000 in
theorem zn315 : zMK 315 := ⟨(fun _ => ⟨zin 2211 rfl rfl, zin 102 rfl rfl⟩), (fun h => absurd h (by decide +kernel)), (fun h => absurd h (by decide +kernel))⟩
set_option maxRecDepth 100000 in
theorem zm316 : zMF 316 := ⟨zin 2208 rfl rfl, zin 132 rfl rfl, rfl, rfl, by decide +kernel, fun _ => by decide +kernel, by decide +kernel, by decide +kernel⟩
set_option maxRecDepth 100000 in
theorem zn316 : zMK 316 := ⟨(fun _ => ⟨zin 2206 rfl rfl, zin 2207 rfl rfl⟩), (fun h => absurd h (by decide +kernel)), (fun h => absurd h (by decide +kernel))⟩
set_option maxRecDepth 100000 in
theorem zm317 : zMF 317 := ⟨zin 2220 rfl rfl, zin 132 rfl rfl, rfl, rfl, by decide +kernel, fun _ => by decide +kernel, by decide +kernel, by decide +kernel⟩
set_option maxRecDepth 100000 in
theorem zn317 : zMK 317 := ⟨(fun _ => ⟨zin 2219 rfl rfl, zin 103 rfl rfl⟩), (fun h => absurd h (by decide +kernel)), (fun h => absurd h (by decide +kernel))⟩
set_option maxRecDepth 100000 in
theorem zm318 : zMF 318 := ⟨zin 2216 rfl rfl, zin 132 rfl rfl, rfl, rfl, by decide +kernel, fun _ => by decide +kernel, by decide +kernel, by decide +kernel⟩
set_option maxRecDepth 100000 in
theorem zn318 : zMK 318 := ⟨(fun _ => ⟨zin 2214 rfl rfl, zin 2215 rfl rfl⟩), (fun h => absurd h (by decide +kernel)), (fun h => absurd h (by decide +kernel))⟩
set_option maxRecDepth 100000 in
theorem zm319 : zMF 319 := ⟨zin 2224 rfl rfl, zin 132 rfl rfl, rfl, rfl, by decide +kernel, fun _ => by decide +kernel, by decide +kernel, by decide +kernel⟩
set_option maxRecDepth 100000 in
theorem zn319 : zMK 319 := ⟨(fun _ => ⟨zin 2222 rfl rfl, zin 2223 rfl rfl⟩), (fun h => absurd h (by decide +kernel)), (fun h => absurd h (by decide +kernel))⟩
set_option maxRecDepth 100000 in
theorem zm320 : zMF 320 := ⟨zin 2228 rfl rfl, zin 132 rfl rfl, rfl, rfl, by decide +kernel, fun _ => by decide +kernel, by decide +kernel, by decide +kernel⟩
set_option maxRecDepth 100000 in
theorem zn320 : zMK 320 := ⟨(fun _ => ⟨zin 2226 rfl rfl, zin 2227 rfl rfl⟩), (fun h => absurd h (by decide +kernel)), (fun h => absurd h (by decide +kernel))⟩
set_option maxRecDepth 100000 in
theorem zm321 : zMF 321 := ⟨zin 2236 rfl rfl, zin 132 rfl rfl, rfl, rfl, by decide +kernel, fun _ => by decide +kernel, by decide +kernel, by decide +kernel⟩
set_option maxRecDepth 100000 in
theorem zn321 : zMK 321 := ⟨(fun _ => ⟨zin 2235 rfl rfl, zin 104 rfl rfl⟩), (fun h => absurd h (by decide +kernel)), (fun h => absurd h (by decide +kernel))⟩
set_option maxRecDepth 100000 in
theorem zm322 : zMF 322 := ⟨zin 2240 rfl rfl, zin 132 rfl rfl, rfl, rfl, by decide +kernel, fun _ => by decide +kernel, by decide +kernel, by decide +kernel⟩
set_option maxRecDepth 100000 in
theorem zn322 : zMK 322 := ⟨(fun _ => ⟨zin 2239 rfl rfl, zin 105 rfl rfl⟩), (fun h => absurd h (by decide +kernel)), (fun h => absurd h (by decide +kernel))⟩
set_option maxRecDepth 100000 in
theorem zm323 : zMF 323 := ⟨zin 2232 rfl rfl, zin 132 rfl rfl, rfl, rfl, by decide +kernel, fun _ => by decide +kernel, by decide +kernel, by decide +kernel⟩
set_option maxRecDepth 100000 in
theorem zn323 : zMK 323 := ⟨(fun _ => ⟨zin 2230 rfl rfl, zin 2231 rfl rfl⟩), (fun h => absurd h (by decide +kernel)), (fun h => absurd h (by decide +kernel))⟩
set_option maxRecDepth 100000 in
theorem zm324 : zMF 324 := ⟨zin 2244 rfl rfl, zin 132 rfl rfl, rfl, rfl, by decide +kernel, fun _ => by decide +kernel, by decide +kernel, by decide +kernel⟩
set_option maxRecDepth 100000 in
theorem zn324 : zMK 324 := ⟨(fun _ => ⟨zin 2242 rfl rfl, zin 2243 rfl rfl⟩), (fun h => absurd h (by decide +kernel)), (fun h => absurd h (by decide +kernel))⟩
set_option maxRecDepth 100000 in
theorem zm325 : zMF 325 := ⟨zin 2265 rfl rfl, zin 132 rfl rfl, rfl, rfl, by decide +kernel, fun _ => by decide +kernel, by decide +kernel, by decide +kernel⟩
set_option maxRecDepth 100000 in
theorem zn325 : zMK 325 := ⟨(fun _ => ⟨zin 2264 rfl rfl, zin 109 rfl rfl⟩), (fun h => absurd h (by decide +kernel)), (fun h => absurd h (by decide +kernel))⟩
set_option maxRecDepth 100000 in
theorem zm326 : zMF 326 := ⟨zin 2256 rfl rfl, zin 132 rfl rfl, rfl, rfl, by decide +kernel, fun _ => by decide +kernel, by decide +kernel, by decide +kernel⟩
set_option maxRecDepth 100000 in
theorem zn326 : zMK 326 := ⟨(fun _ => ⟨zin 2255 rfl rfl, zin 107 rfl rfl⟩), (fun h => absurd h (by decide +kernel)), (fun h => absurd h (by decide +kernel))⟩
set_option maxRecDepth 100000 in
theorem zm327 : zMF 327 := ⟨zin 2260 rfl rfl, zin 132 rfl rfl, rfl, rfl, by decide +kernel, fun _ => by decide +kernel, by decide +kernel, by decide +kernel⟩
set_option maxRecDepth 100000 in
theorem zn327 : zMK 327 := ⟨(fun _ => ⟨zin 2259 rfl rfl, zin 108 rfl rfl⟩), (fun h => absurd h (by decide +kernel)), (fun h => absurd h (by decide +kernel))⟩
set_option maxRecDepth 100000 in
theorem zm328 : zMF 328 := ⟨zin 2252 rfl rfl, zin 132 rfl rfl, rfl, rfl, by decide +kernel, fun _ => by decide +kernel, by decide +kernel, by decide +kernel⟩
set_option maxRecDepth 100000 in
theorem zn328 : zMK 328 := ⟨(fun _ => ⟨zin 2251 rfl rfl, zin 106 rfl rfl⟩), (fun h => absurd h (by decide +kernel)), (fun h => absurd h (by decide +kernel))⟩
set_option maxRecDepth 100000 in
theorem zm329 : zMF 329 := ⟨zin 2270 rfl rfl, zin 132 rfl rfl, rfl, rfl, by decide +kernel, fun _ => by decide +kernel, by decide +kernel, by decide +kernel⟩
set_option maxRecDepth 100000 in
theorem zn329 : zMK 329 := ⟨(fun _ => ⟨zin 2269 rfl rfl, zin 110 rfl rfl⟩), (fun h => absurd h (by decide +kernel)), (fun h => absurd h (by decide +kernel))⟩
set_option maxRecDepth 100000 in
theorem zm330 : zMF 330 := ⟨zin 2282 rfl rfl, zin 132 rfl rfl, rfl, rfl, by decide +kernel, fun _ => by decide +kernel, by decide +kernel, by decide +kernel⟩
set_option maxRecDepth 100000 in
theorem zn330 : zMK 330 := ⟨(fun _ => ⟨zin 2281 rfl rfl, zin 113 rfl rfl⟩), (fun h => absurd h (by decide +kernel)), (fun h => absurd h (by decide +kernel))⟩
set_option maxRecDepth 100000 in
theorem zm331 : zMF 331 := ⟨zin 2278 rfl rfl, zin 132 rfl rfl, rfl, rfl, by decide +kernel, fun _ => by decide +kernel, by decide +kernel, by decide +kernel⟩
set_option maxRecDepth 100000 in
theorem zn331 : zMK 331 := ⟨(fun _ => ⟨zin 2277 rfl rfl, zin 112 rfl rfl⟩), (fun h => absurd h (by decide +kernel)), (fun h => absurd h (by decide +kernel))⟩
set_option maxRecDepth 100000 in
theorem zm332 : zMF 332 := ⟨zin 2248 rfl rfl, zin 132 rfl rfl, rfl, rfl, by decide +kernel, fun _ => by decide +kernel, by decide +kernel, by decide +kernel⟩
set_option maxRecDepth 100000 in
theorem zn332 : zMK 332 := ⟨(fun _ => ⟨zin 2246 rfl rfl, zin 2247 rfl rfl⟩), (fun h => absurd h (by decide +kernel)), (fun h => absurd h (by decide +kernel))⟩
set_option maxRecDepth 100000 in
theorem zm333 : zMF 333 := ⟨zin 2274 rfl rfl, zin 132 rfl rfl, rfl, rfl, by decide +kernel, fun _ => by decide +kernel, by decide +kernel, by decide +kernel⟩
set_option maxRecDepth 100000 in
theorem zn333 : zMK 333 := ⟨(fun _ => ⟨zin 2273 rfl rfl, zin 111 rfl rfl⟩), (fun h => absurd h (by decide +kernel)), (fun h => absurd h (by decide +kernel))⟩
set_option maxRecDepth 100000 in
theorem zm334 : zMF 334 := ⟨zin 2295 rfl rfl, zin 132 rfl rfl, rfl, rfl, by decide +kernel, fun _ => by decide +kernel, by decide +kernel, by decide +kernel⟩
set_option maxRecDepth 100000 in
theorem zn334 : zMK 334 := ⟨(fun _ => ⟨zin 2294 rfl rfl, zin 115 rfl rfl⟩), (fun h => absurd h (by decide +kernel)), (fun h => absurd h (by decide +kernel))⟩
set_option maxRecDepth 100000 in
theorem zm335 : zMF 335 := ⟨zin 2290 rfl rfl, zin 132 rfl rfl, rfl, rfl, by decide +kernel, fun _ => by decide +kernel, by decide +kernel, by decide +kernel⟩
set_option maxRecDepth 100000 in
theorem zn335 : zMK 335 := ⟨(fun _ => ⟨zin 2289 rfl rfl, zin 114 rfl rfl⟩), (fun h => absurd h (by decide +kernel)), (fun h => absurd h (by decide +kernel))⟩
set_option maxRecDepth 100000 in
theorem zm336 : zMF 336 := ⟨zin 2299 rfl rfl, zin 132 rfl rfl, rfl, rfl, by decide +kernel, fun _ => by decide +kernel, by decide +kernel, by decide +kernel⟩
set_option maxRecDepth 100000 in
theorem zn336 : zMK 336 := ⟨(fun _ => ⟨zin 2298 rfl rfl, zin 116 rfl rfl⟩), (fun h => absurd h (by decide +kernel)), (fun h => absurd h (by decide +kernel))⟩
set_option maxRecDepth 100000 in
theorem zm337 : zMF 337 := ⟨zin 2286 rfl rfl, zin 132 rfl rfl, rfl, rfl, by decide +kernel, fun _ => by decide +kernel, by decide +kernel, by decide +kernel⟩
set_option maxRecDepth 100000 in
theorem zn337 : zMK 337 := ⟨(fun _ => ⟨zin 2284 rfl rfl, zin 2285 rfl rfl⟩), (fun h => absurd h (by decide +kernel)), (fun h => absurd h (by decide +kernel))⟩
set_option maxRecDepth 100000 in
theorem zm338 : zMF 338 := ⟨zin 2303 rfl rfl, zin 132 rfl rfl, rfl, rfl, by decide +kernel, fun _ => by decide +kernel, by decide +kernel, by decide +kernel⟩
set_option maxRecDepth 100000 in
theorem zn338 : zMK 338 := ⟨(fun _ => ⟨zin 2301 rfl rfl, zin 2302 rfl rfl⟩), (fun h => absurd h (by decide +kernel)), (fun h => absurd h (by decide +kernel))⟩
set_option maxRecDepth 100000 in
theorem zm339 : zMF 339 := ⟨zin 2307 rfl rfl, zin 132 rfl rfl, rfl, rfl, by decide +kernel, fun _ => by decide +kernel, by decide +kernel, by decide +kernel⟩
set_option maxRecDepth 100000 in
theorem zn339 : zMK 339 := ⟨(fun _ => ⟨zin 2305 rfl rfl, zin 2306 rfl rfl⟩), (fun h => absurd h (by decide +kernel)), (fun h => absurd h (by decide +kernel))⟩
set_option maxRecDepth 100000 in
theorem zm340 : zMF 340 := ⟨zin 2311 rfl rfl, zin 132 rfl rfl, rfl, rfl, by decide +kernel, fun _ => by decide +kernel, by decide +kernel, by decide +kernel⟩
set_option maxRecDepth 100000 in
theorem zn340 : zMK 340 := ⟨(fun _ => ⟨zin 2309 rfl rfl, zin 2310 rfl rfl⟩), (fun h => absurd h (by decide +kernel)), (fun h => absurd h (by decide +kernel))⟩
set_option maxRecDepth 100000 in
theorem zm341 : zMF 341 := ⟨zin 1132 rfl rfl, zin 121 rfl rfl, rfl, rfl, by decide +kernel, fun _ => by decide +kernel, by decide +kernel, by decide +kernel⟩
set_option maxRecDepth 100000 in
theorem zn341 : zMK 341 := ⟨(fun h => absurd h (by decide +kernel)), (fun h => absurd h (by decide +kernel)), (fun h => absurd h (by decide +kernel))⟩
set_option maxRecDepth 100000 in
theorem zm342 : zMF 342 := ⟨zin 690 rfl rfl, zin 140 rfl rfl, rfl, rfl, by decide +kernel, fun h => absurd rfl h, by decide +kernel, by decide +kernel⟩
set_option maxRecDepth 100000 in
theorem zn342 : zMK 342 := ⟨(fun h => absurd h (by decide +kernel)), (fun _ => zin 689 rfl rfl), (fun h => absurd h (by decide +kernel))⟩
set_option maxRecDepth 100000 in
theorem zm343 : zMF 343 := ⟨zin 560 rfl rfl, zin 140 rfl rfl, rfl, rfl, by decide +kernel, fun h => absurd rfl h, by decide +kernel, by decide +kernel⟩
set_option maxRecDepth 100000 in
theorem zn343 : zMK 343 := ⟨(fun h => absurd h (by decide +kernel)), (fun _ => zin 559 rfl rfl), (fun h => absurd h (by decide +kernel))⟩
set_option maxRecDepth 100000 in
theorem zm344 : zMF 344 := ⟨zin 542 rfl rfl, zin 140 rfl rfl, rfl, rfl, by decide +kernel, fun h => absurd rfl h, by decide +kernel, by decide +kernel⟩
set_option maxRecDepth 100000 in
theorem zn344 : zMK 344 := ⟨(fun h => absurd h (by decide +kernel)), (fun _ => zin 541 rfl rfl), (fun h => absurd h (by decide +kernel))⟩
set_option maxRecDepth 100000 in
theorem zm345 : zMF 345 := ⟨zin 627 rfl rfl, zin 140 rfl rfl, rfl, rfl, by decide +kernel, fun h => absurd rfl h, by decide +kernel, by decide +kernel⟩
set_option maxRecDepth 100000 in
theorem zn345 : zMK 345 := ⟨(fun h => absurd h (by decide +kernel)), (fun _ => zin 626 rfl rfl), (fun h => absurd h (by decide +kernel))⟩
set_option maxRecDepth 100000 in
theorem zm346 : zMF 346 := ⟨zin 606 rfl rfl, zin 140 rfl rfl, rfl, rfl, by decide +kernel, fun h => absurd rfl h, by decide +kernel, by decide +kernel⟩
set_option maxRecDepth 100000 in
theorem zn346 : zMK 346 := ⟨(fun h => absurd h (by decide +kernel)), (fun _ => zin 605 rfl rfl), (fun h => absurd h (by decide +kernel))⟩
set_option maxRecDepth 100000 in
theorem zm347 : zMF 347 := ⟨zin 624 rfl rfl, zin 140 rfl rfl, rfl, rfl, by decide +kernel, fun h => absurd rfl h, by decide +kernel, by decide +kernel⟩
set_option maxRecDepth 100000 in
theorem zn347 : zMK 347 := ⟨(fun h => absurd h (by decide +kernel)), (fun _ => zin 623 rfl rfl), (fun h => absurd h (by decide +kernel))⟩
set_option maxRecDepth 100000 in
theorem zm348 : zMF 348 := ⟨zin 224 rfl rfl, zin 124 rfl rfl, rfl, rfl, by decide +kernel, fun _ => by decide +kernel, by decide +kernel, by decide +kernel⟩
set_option maxRecDepth 100000 in
theorem zn348 : zMK 348 := ⟨(fun h => absurd h (by decide +kernel)), (fun _ => zin 223 rfl rfl), (fun h => absurd h (by decide +kernel))⟩
set_option maxRecDepth 100000 in
theorem zm349 : zMF 349 := ⟨zin 783 rfl rfl, zin 117 rfl rfl, rfl, rfl, by decide +kernel, fun _ => by decide +kernel, by decide +kernel, by decide +kernel⟩
set_option maxRecDepth 100000 in
theorem zn349 : zMK 349 := ⟨(fun h => absurd h (by decide +kernel)), (fun _ => zin 782 rfl rfl), (fun h => absurd h (by decide +kernel))⟩
set_option maxRecDepth 100000 in
theorem zm350 : zMF 350 := ⟨zin 862 rfl rfl, zin 117 rfl rfl, rfl, rfl, by decide +kernel, fun _ => by decide +kernel, by decide +kernel, by decide +kernel⟩
set_option maxRecDepth 100000 in
theorem zn350 : zMK 350 := ⟨(fun h => absurd h (by decide +kernel)), (fun _ => zin 861 rfl rfl), (fun h => absurd h (by decide +kernel))⟩
set_option maxRecDepth 100000 in
theorem zm351 : zMF 351 := ⟨zin 886 rfl rfl, zin 117 rfl rfl, rfl, rfl, by decide +kernel, fun _ => by decide +kernel, by decide +kernel, by decide +kernel⟩
set_option maxRecDepth 100000 in
theorem zn351 : zMK 351 := ⟨(fun h => absurd h (by decide +kernel)), (fun _ => zin 885 rfl rfl), (fun h => absurd h (by decide +kernel))⟩
set_option maxRecDepth 100000 in
theorem zm352 : zMF 352 := ⟨zin 1041 rfl rfl, zin 117 rfl rfl, rfl, rfl, by decide +kernel, fun _ => by decide +kernel, by decide +kernel, by decide +kernel⟩
set_option maxRecDepth 100000 in
theorem zn352 : zMK 352 := ⟨(fun h => absurd h (by decide +kernel)), (fun _ => zin 1040 rfl rfl), (fun h => absurd h (by decide +kernel))⟩
set_option maxRecDepth 100000 in
theorem zm353 : zMF 353 := ⟨zin 1185 rfl rfl, zin 117 rfl rfl, rfl, rfl, by decide +kernel, fun _ => by decide +kernel, by decide +kernel, by decide +kernel⟩
set_option maxRecDepth 100000 in
theorem zn353 : zMK 353 := ⟨(fun h => absurd h (by decide +kernel)), (fun _ => zin 1184 rfl rfl), (fun h => absurd h (by decide +kernel))⟩
set_option maxRecDepth 100000 in
theorem zm354 : zMF 354 := ⟨zin 1206 rfl rfl, zin 117 rfl rfl, rfl, rfl, by decide +kernel, fun _ => by decide +kernel, by decide +kernel, by decide +kernel⟩
set_option maxRecDepth 100000 in
theorem zn354 : zMK 354 := ⟨(fun h => absurd h (by decide +kernel)), (fun _ => zin 1205 rfl rfl), (fun h => absurd h (by decide +kernel))⟩
set_option maxRecDepth 100000 in
theorem zm355 : zMF 355 := ⟨zin 1234 rfl rfl, zin 117 rfl rfl, rfl, rfl, by decide +kernel, fun _ => by decide +kernel, by decide +kernel, by decide +kernel⟩
set_option maxRecDepth 100000 in
theorem zn355 : zMK 355 := ⟨(fun h => absurd h (by decide +kernel)), (fun _ => zin 1233 rfl rfl), (fun h => absurd h (by decide +kernel))⟩
set_option maxRecDepth 100000 in
theorem zm356 : zMF 356 := ⟨zin 1242 rfl rfl, zin 117 rfl rfl, rfl, rfl, by decide +kernel, fun _ => by decide +kernel, by decide +kernel, by decide +kernel⟩
set_option maxRecDepth 100000 in
theorem zn356 : zMK 356 := ⟨(fun h => absurd h (by decide +kernel)), (fun _ => zin 1241 rfl rfl), (fun h => absurd h (by decide +kernel))⟩
set_option maxRecDepth 100000 in
theorem zm357 : zMF 357 := ⟨zin 1249 rfl rfl, zin 117 rfl rfl, rfl, rfl, by decide +kernel, fun _ => by decide +kernel, by decide +kernel, by decide +kernel⟩
set_option maxRecDepth 100000 in
theorem zn357 : zMK 357 := ⟨(fun h => absurd h (by decide +kernel)), (fun _ => zin 1248 rfl rfl), (fun h => absurd h (by decide +kernel))⟩
set_option maxRecDepth 100000 in
theorem zm358 : zMF 358 := ⟨zin 1256 rfl rfl, zin 117 rfl rfl, rfl, rfl, by decide +kernel, fun _ => by decide +kernel, by decide +kernel, by decide +kernel⟩
set_option maxRecDepth 100000 in
theorem zn358 : zMK 358 := ⟨(fun h => absurd h (by decide +kernel)), (fun _ => zin 1255 rfl rfl), (fun h => absurd h (by decide +kernel))⟩
set_option maxRecDepth 100000 in
theorem zm359 : zMF 359 := ⟨zin 1273 rfl rfl, zin 117 rfl rfl, rfl, rfl, by decide +kernel, fun _ => by decide +kernel, by decide +kernel, by decide +kernel⟩
set_option maxRecDepth 100000 in
theorem zn359 : zMK 359 := ⟨(fun h => absurd h (by decide +kernel)), (fun _ => zin 1272 rfl rfl), (fun h => absurd h (by decide +kernel))⟩
set_option maxRecDepth 100000 in
theorem zm360 : zMF 360 := ⟨zin 1281 rfl rfl, zin 117 rfl rfl, rfl, rfl, by decide +kernel, fun _ => by decide +kernel, by decide +kernel, by decide +kernel⟩
set_option maxRecDepth 100000 in
theorem zn360 : zMK 360 := ⟨(fun h => absurd h (by decide +kernel)), (fun _ => zin 1280 rfl rfl), (fun h => absurd h (by decide +kernel))⟩
set_option maxRecDepth 100000 in
theorem zm361 : zMF 361 := ⟨zin 1288 rfl rfl, zin 117 rfl rfl, rfl, rfl, by decide +kernel, fun _ => by decide +kernel, by decide +kernel, by decide +kernel⟩
set_option maxRecDepth 100000 in
theorem zn361 : zMK 361 := ⟨(fun h => absurd h (by decide +kernel)), (fun _ => zin 1287 rfl rfl), (fun h => absurd h (by decide +kernel))⟩
set_option maxRecDepth 100000 in
theorem zm362 : zMF 362 := ⟨zin 1305 rfl rfl, zin 117 rfl rfl, rfl, rfl, by decide +kernel, fun _ => by decide +kernel, by decide +kernel, by decide +kernel⟩
set_option maxRecDepth 100000 in
theorem zn362 : zMK 362 := ⟨(fun h => absurd h (by decide +kernel)), (fun _ => zin 1304 rfl rfl), (fun h => absurd h (by decide +kernel))⟩
set_option maxRecDepth 100000 in
theorem zm363 : zMF 363 := ⟨zin 1312 rfl rfl, zin 117 rfl rfl, rfl, rfl, by decide +kernel, fun _ => by decide +kernel, by decide +kernel, by decide +kernel⟩
set_option maxRecDepth 100000 in
theorem zn363 : zMK 363 := ⟨(fun h => absurd h (by decide +kernel)), (fun _ => zin 1311 rfl rfl), (fun h => absurd h (by decide +kernel))⟩
set_option maxRecDepth 100000 in
theorem zm364 : zMF 364 := ⟨zin 1319 rfl rfl, zin 117 rfl rfl, rfl, rfl, by decide +kernel, fun _ => by decide +kernel, by decide +kernel, by decide +kernel⟩
set_option maxRecDepth 100000 in
theorem zn364 : zMK 364 := ⟨(fun h => absurd h (by decide +kernel)), (fun _ => zin 1318 rfl rfl), (fun h => absurd h (by decide +kernel))⟩
set_option maxRecDepth 100000 in
theorem zm365 : zMF 365 := ⟨zin 1326 rfl rfl, zin 117 rfl rfl, rfl, rfl, by decide +kernel, fun _ => by decide +kernel, by decide +kernel, by decide +kernel⟩
set_option maxRecDepth 100000 in
theorem zn365 : zMK 365 := ⟨(fun h => absurd h (by decide +kernel)), (fun _ => zin 1325 rfl rfl), (fun h => absurd h (by decide +kernel))⟩
set_option maxRecDepth 100000 in
theorem zm366 : zMF 366 := ⟨zin 1334 rfl rfl, zin 117 rfl rfl, rfl, rfl, by decide +kernel, fun _ => by decide +kernel, by decide +kernel, by decide +kernel⟩
set_option maxRecDepth 100000 in
theorem zn366 : zMK 366 := ⟨(fun h => absurd h (by decide +kernel)), (fun _ => zin 1333 rfl rfl), (fun h => absurd h (by decide +kernel))⟩
set_option maxRecDepth 100000 in
theorem zm367 : zMF 367 := ⟨zin 1341 rfl rfl, zin 117 rfl rfl, rfl, rfl, by decide +kernel, fun _ => by decide +kernel, by decide +kernel, by decide +kernel⟩
set_option maxRecDepth 100000 in
theorem zn367 : zMK 367 := ⟨(fun h => absurd h (by decide +kernel)), (fun _ => zin 1340 rfl rfl), (fun h => absurd h (by decide +kernel))⟩
set_option maxRecDepth 100000 in
theorem zm368 : zMF 368 := ⟨zin 1349 rfl rfl, zin 117 rfl rfl, rfl, rfl, by decide +kernel, fun _ => by decide +kernel, by decide +kernel, by decide +kernel⟩
set_option maxRecDepth 100000 in
theorem zn368 : zMK 368 := ⟨(fun h => absurd h (by decide +kernel)), (fun _ => zin 1348 rfl rfl), (fun h => absurd h (by decide +kernel))⟩
set_option maxRecDepth 100000 in
theorem zm369 : zMF 369 := ⟨zin 1358 rfl rfl, zin 117 rfl rfl, rfl, rfl, by decide +kernel, fun _ => by decide +kernel, by decide +kernel, by decide +kernel⟩
set_option maxRecDepth 100000 in
theorem zn369 : zMK 369 := ⟨(fun h => absurd h (by decide +kernel)), (fun _ => zin 1357 rfl rfl), (fun h => absurd h (by decide +kernel))⟩
set_option maxRecDepth 100000 in
theorem zm370 : zMF 370 := ⟨zin 1366 rfl rfl, zin 117 rfl rfl, rfl, rfl, by decide +kernel, fun _ => by decide +kernel, by decide +kernel, by decide +kernel⟩
set_option maxRecDepth 100000 in
theorem zn370 : zMK 370 := ⟨(fun h => absurd h (by decide +kernel)), (fun _ => zin 1365 rfl rfl), (fun h => absurd h (by decide +kernel))⟩
set_option maxRecDepth 100000 in
theorem zm371 : zMF 371 := ⟨zin 1373 rfl rfl, zin 117 rfl rfl, rfl, rfl, by decide +kernel, fun _ => by decide +kernel, by decide +kernel, by decide +kernel⟩
set_option maxRecDepth 100000 in
theorem zn371 : zMK 371 := ⟨(fun h => absurd h (by decide +kernel)), (fun _ => zin 1372 rfl rfl), (fun h => absurd h (by decide +kernel))⟩
set_option maxRecDepth 100000 in
theorem zm372 : zMF 372 := ⟨zin 1381 rfl rfl, zin 117 rfl rfl, rfl, rfl, by decide +kernel, fun _ => by decide +kernel, by decide +kernel, by decide +kernel⟩
set_option maxRecDepth 100000 in
theorem zn372 : zMK 372 := ⟨(fun h => absurd h (by decide +kernel)), (fun _ => zin 1380 rfl rfl), (fun h => absurd h (by decide +kernel))⟩
set_option maxRecDepth 100000 in
theorem zm373 : zMF 373 := ⟨zin 1396 rfl rfl, zin 117 rfl rfl, rfl, rfl, by decide +kernel, fun _ => by decide +kernel, by decide +kernel, by decide +kernel⟩
set_option maxRecDepth 100000 in
theorem zn373 : zMK 373 := ⟨(fun h => absurd h (by decide +kernel)), (fun _ => zin 1395 rfl rfl), (fun h => absurd h (by decide +kernel))⟩
set_option maxRecDepth 100000 in
theorem zm374 : zMF 374 := ⟨zin 1407 rfl rfl, zin 117 rfl rfl, rfl, rfl, by decide +kernel, fun _ => by decide +kernel, by decide +kernel, by decide +kernel⟩
set_option maxRecDepth 100000 in
theorem zn374 : zMK 374 := ⟨(fun h => absurd h (by decide +kernel)), (fun _ => zin 1406 rfl rfl), (fun h => absurd h (by decide +kernel))⟩
set_option maxRecDepth 100000 in
theorem zm375 : zMF 375 := ⟨zin 1425 rfl rfl, zin 117 rfl rfl, rfl, rfl, by decide +kernel, fun _ => by decide +kernel, by decide +kernel, by decide +kernel⟩
set_option maxRecDepth 100000 in
theorem zn375 : zMK 375 := ⟨(fun h => absurd h (by decide +kernel)), (fun _ => zin 1424 rfl rfl), (fun h => absurd h (by decide +kernel))⟩
set_option maxRecDepth 100000 in
theorem zm376 : zMF 376 := ⟨zin 1437 rfl rfl, zin 117 rfl rfl, rfl, rfl, by decide +kernel, fun _ => by decide +kernel, by decide +kernel, by decide +kernel⟩
set_option maxRecDepth 100000 in
theorem zn376 : zMK 376 := ⟨(fun h => absurd h (by decide +kernel)), (fun _ => zin 1436 rfl rfl), (fun h => absurd h (by decide +kernel))⟩
set_option maxRecDepth 100000 in
theorem zm377 : zMF 377 := ⟨zin 1444 rfl rfl, zin 117 rfl rfl, rfl, rfl, by decide +kernel, fun _ => by decide +kernel, by decide +kernel, by decide +kernel⟩
set_option maxRecDepth 100000 in
theorem zn377 : zMK 377 := ⟨(fun h => absurd h (by decide +kernel)), (fun _ => zin 1443 rfl rfl), (fun h => absurd h (by decide +kernel))⟩
set_option maxRecDepth 100000 in
theorem zm378 : zMF 378 := ⟨zin 1451 rfl rfl, zin 117 rfl rfl, rfl, rfl, by decide +kernel, fun _ => by decide +kernel, by decide +kernel, by decide +kernel⟩
set_option maxRecDepth 100000 in
theorem zn378 : zMK 378 := ⟨(fun h => absurd h (by decide +kernel)), (fun _ => zin 1450 rfl rfl), (fun h => absurd h (by decide +kernel))⟩
set_option maxRecDepth 100000 in
theorem zm379 : zMF 379 := ⟨zin 1463 rfl rfl, zin 117 rfl rfl, rfl, rfl, by decide +kernel, fun _ => by decide +kernel, by decide +kernel, by decide +kernel⟩
set_option maxRecDepth 100000 in
theorem zn379 : zMK 379 := ⟨(fun h => absurd h (by decide +kernel)), (fun _ => zin 1462 rfl rfl), (fun h => absurd h (by decide +kernel))⟩
set_option maxRecDepth 100000 in
theorem zm380 : zMF 380 := ⟨zin 1470 rfl rfl, zin 117 rfl rfl, rfl, rfl, by decide +kernel, fun _ => by decide +kernel, by decide +kernel, by decide +kernel⟩
set_option maxRecDepth 100000 in
theorem zn380 : zMK 380 := ⟨(fun h => absurd h (by decide +kernel)), (fun _ => zin 1469 rfl rfl), (fun h => absurd h (by decide +kernel))⟩
set_option maxRecDepth 100000 in
theorem zm381 : zMF 381 := ⟨zin 1477 rfl rfl, zin 117 rfl rfl, rfl, rfl, by decide +kernel, fun _ => by decide +kernel, by decide +kernel, by decide +kernel⟩
set_option maxRecDepth 100000 in
theorem zn381 : zMK 381 := ⟨(fun h => absurd h (by decide +kernel)), (fun _ => zin 1476 rfl rfl), (fun h => absurd h (by decide +kernel))⟩
set_option maxRecDepth 100000 in
theorem zm382 : zMF 382 := ⟨zin 1488 rfl rfl, zin 117 rfl rfl, rfl, rfl, by decide +kernel, fun _ => by decide +kernel, by decide +kernel, by decide +kernel⟩
set_option maxRecDepth 100000 in
theorem zn382 : zMK 382 := ⟨(fun h => absurd h (by decide +kernel)), (fun _ => zin 1487 rfl rfl), (fun h => absurd h (by decide +kernel))⟩
set_option maxRecDepth 100000 in
theorem zm383 : zMF 383 := ⟨zin 1496 rfl rfl, zin 117 rfl rfl, rfl, rfl, by decide +kernel, fun _ => by decide +kernel, by decide +kernel, by decide +kernel⟩
set_option maxRecDepth 100000 in
theorem zn383 : zMK 383 := ⟨(fun h => absurd h (by decide +kernel)), (fun _ => zin 1495 rfl rfl), (fun h => absurd h (by decide +kernel))⟩
set_option maxRecDepth 100000 in
theorem zm384 : zMF 384 := ⟨zin 1519 rfl rfl, zin 117 rfl rfl, rfl, rfl, by decide +kernel, fun _ => by decide +kernel, by decide +kernel, by decide +kernel⟩
set_option maxRecDepth 100000 in
theorem zn384 : zMK 384 := ⟨(fun h => absurd h (by decide +kernel)), (fun _ => zin 1518 rfl rfl), (fun h => absurd h (by decide +kernel))⟩
set_option maxRecDepth 100000 in
theorem zm385 : zMF 385 := ⟨zin 1536 rfl rfl, zin 117 rfl rfl, rfl, rfl, by decide +kernel, fun _ => by decide +kernel, by decide +kernel, by decide +kernel⟩
set_option maxRecDepth 100000 in
theorem zn385 : zMK 385 := ⟨(fun h => absurd h (by decide +kernel)), (fun _ => zin 1535 rfl rfl), (fun h => absurd h (by decide +kernel))⟩
set_option maxRecDepth 100000 in
theorem zm386 : zMF 386 := ⟨zin 1549 rfl rfl, zin 117 rfl rfl, rfl, rfl, by decide +kernel, fun _ => by decide +kernel, by decide +kernel, by decide +kernel⟩
set_option maxRecDepth 100000 in
theorem zn386 : zMK 386 := ⟨(fun h => absurd h (by decide +kernel)), (fun _ => zin 1548 rfl rfl), (fun h => absurd h (by decide +kernel))⟩
set_option maxRecDepth 100000 in
theorem zm387 : zMF 387 := ⟨zin 1561 rfl rfl, zin 117 rfl rfl, rfl, rfl, by decide +kernel, fun _ => by decide +kernel, by decide +kernel, by decide +kernel⟩
set_option maxRecDepth 100000 in
theorem zn387 : zMK 387 := ⟨(fun h => absurd h (by decide +kernel)), (fun _ => zin 1560 rfl rfl), (fun h => absurd h (by decide +kernel))⟩
theorem zMF_all (k : Nat) (hk : k < 388) : zMF k := if h194 : k < 194 then (if h97 : k < 97 then (if h48 : k < 48 then (if h24 : k < 24 then (if h12 : k < 12 then (if h6 : k < 6 then (if h3 : k < 3 then (if h1 : k < 1 then ((show 0 = k by omega) ▸ zm0) else (if h2 : k < 2 then ((show 1 = k by omega) ▸ zm1) else ((show 2 = k by omega) ▸ zm2))) else (if h4 : k < 4 then ((show 3 = k by omega) ▸ zm3) else (if h5 : k < 5 then ((show 4 = k by omega) ▸ zm4) else ((show 5 = k by omega) ▸ zm5)))) else (if h9 : k < 9 then (if h7 : k < 7 then ((show 6 = k by omega) ▸ zm6) else (if h8 : k < 8 then ((show 7 = k by omega) ▸ zm7) else ((show 8 = k by omega) ▸ zm8))) else (if h10 : k < 10 then ((show 9 = k by omega) ▸ zm9) else (if h11 : k < 11 then ((show 10 = k by omega) ▸ zm10) else ((show 11 = k by omega) ▸ zm11))))) else (if h18 : k < 18 then (if h15 : k < 15 then (if h13 : k < 13 then ((show 12 = k by omega) ▸ zm12) else (if h14 : k < 14 then ((show 13 = k by omega) ▸ zm13) else ((show 14 = k by omega) ▸ zm14))) else (if h16 : k < 16 then ((show 15 = k by omega) ▸ zm15) else (if h17 : k < 17 then ((show 16 = k by omega) ▸ zm16) else ((show 17 = k by omega) ▸ zm17)))) else (if h21 : k < 21 then (if h19 : k < 19 then ((show 18 = k by omega) ▸ zm18) else (if h20 : k < 20 then ((show 19 = k by omega) ▸ zm19) else ((show 20 = k by omega) ▸ zm20))) else (if h22 : k < 22 then ((show 21 = k by omega) ▸ zm21) else (if h23 : k < 23 then ((show 22 = k by omega) ▸ zm22) else ((show 23 = k by omega) ▸ zm23)))))) else (if h36 : k < 36 then (if h30 : k < 30 then (if h27 : k < 27 then (if h25 : k < 25 then ((show 24 = k by omega) ▸ zm24) else (if h26 : k < 26 then ((show 25 = k by omega) ▸ zm25) else ((show 26 = k by omega) ▸ zm26))) else (if h28 : k < 28 then ((show 27 = k by omega) ▸ zm27) else (if h29 : k < 29 then ((show 28 = k by omega) ▸ zm28) else ((show 29 = k by omega) ▸ zm29)))) else (if h33 : k < 33 then (if h31 : k < 31 then ((show 30 = k by omega) ▸ zm30) else (if h32 : k < 32 then ((show 31 = k by omega) ▸ zm31) else ((show 32 = k by omega) ▸ zm32))) else (if h34 : k < 34 then ((show 33 = k by omega) ▸ zm33) else (if h35 : k < 35 then ((show 34 = k by omega) ▸ zm34) else ((show 35 = k by omega) ▸ zm35))))) else (if h42 : k < 42 then (if h39 : k < 39 then (if h37 : k < 37 then ((show 36 = k by omega) ▸ zm36) else (if h38 : k < 38 then ((show 37 = k by omega) ▸ zm37) else ((show 38 = k by omega) ▸ zm38))) else (if h40 : k < 40 then ((show 39 = k by omega) ▸ zm39) else (if h41 : k < 41 then ((show 40 = k by omega) ▸ zm40) else ((show 41 = k by omega) ▸ zm41)))) else (if h45 : k < 45 then (if h43 : k < 43 then ((show 42 = k by omega) ▸ zm42) else (if h44 : k < 44 then ((show 43 = k by omega) ▸ zm43) else ((show 44 = k by omega) ▸ zm44))) else (if h46 : k < 46 then ((show 45 = k by omega) ▸ zm45) else (if h47 : k < 47 then ((show 46 = k by omega) ▸ zm46) else ((show 47 = k by omega) ▸ zm47))))))) else (if h72 : k < 72 then (if h60 : k < 60 then (if h54 : k < 54 then (if h51 : k < 51 then (if h49 : k < 49 then ((show 48 = k by omega) ▸ zm48) else (if h50 : k < 50 then ((show 49 = k by omega) ▸ zm49) else ((show 50 = k by omega) ▸ zm50))) else (if h52 : k < 52 then ((show 51 = k by omega) ▸ zm51) else (if h53 : k < 53 then ((show 52 = k by omega) ▸ zm52) else ((show 53 = k by omega) ▸ zm53)))) else (if h57 : k < 57 then (if h55 : k < 55 then ((show 54 = k by omega) ▸ zm54) else (if h56 : k < 56 then ((show 55 = k by omega) ▸ zm55) else ((show 56 = k by omega) ▸ zm56))) else (if h58 : k < 58 then ((show 57 = k by omega) ▸ zm57) else (if h59 : k < 59 then ((show 58 = k by omega) ▸ zm58) else ((show 59 = k by omega) ▸ zm59))))) else (if h66 : k < 66 then (if h63 : k < 63 then (if h61 : k < 61 then ((show 60 = k by omega) ▸ zm60) else (if h62 : k < 62 then ((show 61 = k by omega) ▸ zm61) else ((show 62 = k by omega) ▸ zm62))) else (if h64 : k < 64 then ((show 63 = k by omega) ▸ zm63) else (if h65 : k < 65 then ((show 64 = k by omega) ▸ zm64) else ((show 65 = k by omega) ▸ zm65)))) else (if h69 : k < 69 then (if h67 : k < 67 then ((show 66 = k by omega) ▸ zm66) else (if h68 : k < 68 then ((show 67 = k by omega) ▸ zm67) else ((show 68 = k by omega) ▸ zm68))) else (if h70 : k < 70 then ((show 69 = k by omega) ▸ zm69) else (if h71 : k < 71 then ((show 70 = k by omega) ▸ zm70) else ((show 71 = k by omega) ▸ zm71)))))) else (if h84 : k < 84 then (if h78 : k < 78 then (if h75 : k < 75 then (if h73 : k < 73 then ((show 72 = k by omega) ▸ zm72) else (if h74 : k < 74 then ((show 73 = k by omega) ▸ zm73) else ((show 74 = k by omega) ▸ zm74))) else (if h76 : k < 76 then ((show 75 = k by omega) ▸ zm75) else (if h77 : k < 77 then ((show 76 = k by omega) ▸ zm76) else ((show 77 = k by omega) ▸ zm77)))) else (if h81 : k < 81 then (if h79 : k < 79 then ((show 78 = k by omega) ▸ zm78) else (if h80 : k < 80 then ((show 79 = k by omega) ▸ zm79) else ((show 80 = k by omega) ▸ zm80))) else (if h82 : k < 82 then ((show 81 = k by omega) ▸ zm81) else (if h83 : k < 83 then ((show 82 = k by omega) ▸ zm82) else ((show 83 = k by omega) ▸ zm83))))) else (if h90 : k < 90 then (if h87 : k < 87 then (if h85 : k < 85 then ((show 84 = k by omega) ▸ zm84) else (if h86 : k < 86 then ((show 85 = k by omega) ▸ zm85) else ((show 86 = k by omega) ▸ zm86))) else (if h88 : k < 88 then ((show 87 = k by omega) ▸ zm87) else (if h89 : k < 89 then ((show 88 = k by omega) ▸ zm88) else ((show 89 = k by omega) ▸ zm89)))) else (if h93 : k < 93 then (if h91 : k < 91 then ((show 90 = k by omega) ▸ zm90) else (if h92 : k < 92 then ((show 91 = k by omega) ▸ zm91) else ((show 92 = k by omega) ▸ zm92))) else (if h95 : k < 95 then (if h94 : k < 94 then ((show 93 = k by omega) ▸ zm93) else ((show 94 = k by omega) ▸ zm94)) else (if h96 : k < 96 then ((show 95 = k by omega) ▸ zm95) else ((show 96 = k by omega) ▸ zm96)))))))) else (if h145 : k < 145 then (if h121 : k < 121 then (if h109 : k < 109 then (if h103 : k < 103 then (if h100 : k < 100 then (if h98 : k < 98 then ((show 97 = k by omega) ▸ zm97) else (if h99 : k < 99 then ((show 98 = k by omega) ▸ zm98) else ((show 99 = k by omega) ▸ zm99))) else (if h101 : k < 101 then ((show 100 = k by omega) ▸ zm100) else (if h102 : k < 102 then ((show 101 = k by omega) ▸ zm101) else ((show 102 = k by omega) ▸ zm102)))) else (if h106 : k < 106 then (if h104 : k < 104 then ((show 103 = k by omega) ▸ zm103) else (if h105 : k < 105 then ((show 104 = k by omega) ▸ zm104) else ((show 105 = k by omega) ▸ zm105))) else (if h107 : k < 107 then ((show 106 = k by omega) ▸ zm106) else (if h108 : k < 108 then ((show 107 = k by omega) ▸ zm107) else ((show 108 = k by omega) ▸ zm108))))) else (if h115 : k < 115 then (if h112 : k < 112 then (if h110 : k < 110 then ((show 109 = k by omega) ▸ zm109) else (if h111 : k < 111 then ((show 110 = k by omega) ▸ zm110) else ((show 111 = k by omega) ▸ zm111))) else (if h113 : k < 113 then ((show 112 = k by omega) ▸ zm112) else (if h114 : k < 114 then ((show 113 = k by omega) ▸ zm113) else ((show 114 = k by omega) ▸ zm114)))) else (if h118 : k < 118 then (if h116 : k < 116 then ((show 115 = k by omega) ▸ zm115) else (if h117 : k < 117 then ((show 116 = k by omega) ▸ zm116) else ((show 117 = k by omega) ▸ zm117))) else (if h119 : k < 119 then ((show 118 = k by omega) ▸ zm118) else (if h120 : k < 120 then ((show 119 = k by omega) ▸ zm119) else ((show 120 = k by omega) ▸ zm120)))))) else (if h133 : k < 133 then (if h127 : k < 127 then (if h124 : k < 124 then (if h122 : k < 122 then ((show 121 = k by omega) ▸ zm121) else (if h123 : k < 123 then ((show 122 = k by omega) ▸ zm122) else ((show 123 = k by omega) ▸ zm123))) else (if h125 : k < 125 then ((show 124 = k by omega) ▸ zm124) else (if h126 : k < 126 then ((show 125 = k by omega) ▸ zm125) else ((show 126 = k by omega) ▸ zm126)))) else (if h130 : k < 130 then (if h128 : k < 128 then ((show 127 = k by omega) ▸ zm127) else (if h129 : k < 129 then ((show 128 = k by omega) ▸ zm128) else ((show 129 = k by omega) ▸ zm129))) else (if h131 : k < 131 then ((show 130 = k by omega) ▸ zm130) else (if h132 : k < 132 then ((show 131 = k by omega) ▸ zm131) else ((show 132 = k by omega) ▸ zm132))))) else (if h139 : k < 139 then (if h136 : k < 136 then (if h134 : k < 134 then ((show 133 = k by omega) ▸ zm133) else (if h135 : k < 135 then ((show 134 = k by omega) ▸ zm134) else ((show 135 = k by omega) ▸ zm135))) else (if h137 : k < 137 then ((show 136 = k by omega) ▸ zm136) else (if h138 : k < 138 then ((show 137 = k by omega) ▸ zm137) else ((show 138 = k by omega) ▸ zm138)))) else (if h142 : k < 142 then (if h140 : k < 140 then ((show 139 = k by omega) ▸ zm139) else (if h141 : k < 141 then ((show 140 = k by omega) ▸ zm140) else ((show 141 = k by omega) ▸ zm141))) else (if h143 : k < 143 then ((show 142 = k by omega) ▸ zm142) else (if h144 : k < 144 then ((show 143 = k by omega) ▸ zm143) else ((show 144 = k by omega) ▸ zm144))))))) else (if h169 : k < 169 then (if h157 : k < 157 then (if h151 : k < 151 then (if h148 : k < 148 then (if h146 : k < 146 then ((show 145 = k by omega) ▸ zm145) else (if h147 : k < 147 then ((show 146 = k by omega) ▸ zm146) else ((show 147 = k by omega) ▸ zm147))) else (if h149 : k < 149 then ((show 148 = k by omega) ▸ zm148) else (if h150 : k < 150 then ((show 149 = k by omega) ▸ zm149) else ((show 150 = k by omega) ▸ zm150)))) else (if h154 : k < 154 then (if h152 : k < 152 then ((show 151 = k by omega) ▸ zm151) else (if h153 : k < 153 then ((show 152 = k by omega) ▸ zm152) else ((show 153 = k by omega) ▸ zm153))) else (if h155 : k < 155 then ((show 154 = k by omega) ▸ zm154) else (if h156 : k < 156 then ((show 155 = k by omega) ▸ zm155) else ((show 156 = k by omega) ▸ zm156))))) else (if h163 : k < 163 then (if h160 : k < 160 then (if h158 : k < 158 then ((show 157 = k by omega) ▸ zm157) else (if h159 : k < 159 then ((show 158 = k by omega) ▸ zm158) else ((show 159 = k by omega) ▸ zm159))) else (if h161 : k < 161 then ((show 160 = k by omega) ▸ zm160) else (if h162 : k < 162 then ((show 161 = k by omega) ▸ zm161) else ((show 162 = k by omega) ▸ zm162)))) else (if h166 : k < 166 then (if h164 : k < 164 then ((show 163 = k by omega) ▸ zm163) else (if h165 : k < 165 then ((show 164 = k by omega) ▸ zm164) else ((show 165 = k by omega) ▸ zm165))) else (if h167 : k < 167 then ((show 166 = k by omega) ▸ zm166) else (if h168 : k < 168 then ((show 167 = k by omega) ▸ zm167) else ((show 168 = k by omega) ▸ zm168)))))) else (if h181 : k < 181 then (if h175 : k < 175 then (if h172 : k < 172 then (if h170 : k < 170 then ((show 169 = k by omega) ▸ zm169) else (if h171 : k < 171 then ((show 170 = k by omega) ▸ zm170) else ((show 171 = k by omega) ▸ zm171))) else (if h173 : k < 173 then ((show 172 = k by omega) ▸ zm172) else (if h174 : k < 174 then ((show 173 = k by omega) ▸ zm173) else ((show 174 = k by omega) ▸ zm174)))) else (if h178 : k < 178 then (if h176 : k < 176 then ((show 175 = k by omega) ▸ zm175) else (if h177 : k < 177 then ((show 176 = k by omega) ▸ zm176) else ((show 177 = k by omega) ▸ zm177))) else (if h179 : k < 179 then ((show 178 = k by omega) ▸ zm178) else (if h180 : k < 180 then ((show 179 = k by omega) ▸ zm179) else ((show 180 = k by omega) ▸ zm180))))) else (if h187 : k < 187 then (if h184 : k < 184 then (if h182 : k < 182 then ((show 181 = k by omega) ▸ zm181) else (if h183 : k < 183 then ((show 182 = k by omega) ▸ zm182) else ((show 183 = k by omega) ▸ zm183))) else (if h185 : k < 185 then ((show 184 = k by omega) ▸ zm184) else (if h186 : k < 186 then ((show 185 = k by omega) ▸ zm185) else ((show 186 = k by omega) ▸ zm186)))) else (if h190 : k < 190 then (if h188 : k < 188 then ((show 187 = k by omega) ▸ zm187) else (if h189 : k < 189 then ((show 188 = k by omega) ▸ zm188) else ((show 189 = k by omega) ▸ zm189))) else (if h192 : k < 192 then (if h191 : k < 191 then ((show 190 = k by omega) ▸ zm190) else ((show 191 = k by omega) ▸ zm191)) else (if h193 : k < 193 then ((show 192 = k by omega) ▸ zm192) else ((show 193 = k by omega) ▸ zm193))))))))) else (if h291 : k < 291 then (if h242 : k < 242 then (if h218 : k < 218 then (if h206 : k < 206 then (if h200 : k < 200 then (if h197 : k < 197 then (if h195 : k < 195 then ((show 194 = k by omega) ▸ zm194) else (if h196 : k < 196 then ((show 195 = k by omega) ▸ zm195) else ((show 196 = k by omega) ▸ zm196))) else (if h198 : k < 198 then ((show 197 = k by omega) ▸ zm197) else (if h199 : k < 199 then ((show 198 = k by omega) ▸ zm198) else ((show 199 = k by omega) ▸ zm199)))) else (if h203 : k < 203 then (if h201 : k < 201 then ((show 200 = k by omega) ▸ zm200) else (if h202 : k < 202 then ((show 201 = k by omega) ▸ zm201) else ((show 202 = k by omega) ▸ zm202))) else (if h204 : k < 204 then ((show 203 = k by omega) ▸ zm203) else (if h205 : k < 205 then ((show 204 = k by omega) ▸ zm204) else ((show 205 = k by omega) ▸ zm205))))) else (if h212 : k < 212 then (if h209 : k < 209 then (if h207 : k < 207 then ((show 206 = k by omega) ▸ zm206) else (if h208 : k < 208 then ((show 207 = k by omega) ▸ zm207) else ((show 208 = k by omega) ▸ zm208))) else (if h210 : k < 210 then ((show 209 = k by omega) ▸ zm209) else (if h211 : k < 211 then ((show 210 = k by omega) ▸ zm210) else ((show 211 = k by omega) ▸ zm211)))) else (if h215 : k < 215 then (if h213 : k < 213 then ((show 212 = k by omega) ▸ zm212) else (if h214 : k < 214 then ((show 213 = k by omega) ▸ zm213) else ((show 214 = k by omega) ▸ zm214))) else (if h216 : k < 216 then ((show 215 = k by omega) ▸ zm215) else (if h217 : k < 217 then ((show 216 = k by omega) ▸ zm216) else ((show 217 = k by omega) ▸ zm217)))))) else (if h230 : k < 230 then (if h224 : k < 224 then (if h221 : k < 221 then (if h219 : k < 219 then ((show 218 = k by omega) ▸ zm218) else (if h220 : k < 220 then ((show 219 = k by omega) ▸ zm219) else ((show 220 = k by omega) ▸ zm220))) else (if h222 : k < 222 then ((show 221 = k by omega) ▸ zm221) else (if h223 : k < 223 then ((show 222 = k by omega) ▸ zm222) else ((show 223 = k by omega) ▸ zm223)))) else (if h227 : k < 227 then (if h225 : k < 225 then ((show 224 = k by omega) ▸ zm224) else (if h226 : k < 226 then ((show 225 = k by omega) ▸ zm225) else ((show 226 = k by omega) ▸ zm226))) else (if h228 : k < 228 then ((show 227 = k by omega) ▸ zm227) else (if h229 : k < 229 then ((show 228 = k by omega) ▸ zm228) else ((show 229 = k by omega) ▸ zm229))))) else (if h236 : k < 236 then (if h233 : k < 233 then (if h231 : k < 231 then ((show 230 = k by omega) ▸ zm230) else (if h232 : k < 232 then ((show 231 = k by omega) ▸ zm231) else ((show 232 = k by omega) ▸ zm232))) else (if h234 : k < 234 then ((show 233 = k by omega) ▸ zm233) else (if h235 : k < 235 then ((show 234 = k by omega) ▸ zm234) else ((show 235 = k by omega) ▸ zm235)))) else (if h239 : k < 239 then (if h237 : k < 237 then ((show 236 = k by omega) ▸ zm236) else (if h238 : k < 238 then ((show 237 = k by omega) ▸ zm237) else ((show 238 = k by omega) ▸ zm238))) else (if h240 : k < 240 then ((show 239 = k by omega) ▸ zm239) else (if h241 : k < 241 then ((show 240 = k by omega) ▸ zm240) else ((show 241 = k by omega) ▸ zm241))))))) else (if h266 : k < 266 then (if h254 : k < 254 then (if h248 : k < 248 then (if h245 : k < 245 then (if h243 : k < 243 then ((show 242 = k by omega) ▸ zm242) else (if h244 : k < 244 then ((show 243 = k by omega) ▸ zm243) else ((show 244 = k by omega) ▸ zm244))) else (if h246 : k < 246 then ((show 245 = k by omega) ▸ zm245) else (if h247 : k < 247 then ((show 246 = k by omega) ▸ zm246) else ((show 247 = k by omega) ▸ zm247)))) else (if h251 : k < 251 then (if h249 : k < 249 then ((show 248 = k by omega) ▸ zm248) else (if h250 : k < 250 then ((show 249 = k by omega) ▸ zm249) else ((show 250 = k by omega) ▸ zm250))) else (if h252 : k < 252 then ((show 251 = k by omega) ▸ zm251) else (if h253 : k < 253 then ((show 252 = k by omega) ▸ zm252) else ((show 253 = k by omega) ▸ zm253))))) else (if h260 : k < 260 then (if h257 : k < 257 then (if h255 : k < 255 then ((show 254 = k by omega) ▸ zm254) else (if h256 : k < 256 then ((show 255 = k by omega) ▸ zm255) else ((show 256 = k by omega) ▸ zm256))) else (if h258 : k < 258 then ((show 257 = k by omega) ▸ zm257) else (if h259 : k < 259 then ((show 258 = k by omega) ▸ zm258) else ((show 259 = k by omega) ▸ zm259)))) else (if h263 : k < 263 then (if h261 : k < 261 then ((show 260 = k by omega) ▸ zm260) else (if h262 : k < 262 then ((show 261 = k by omega) ▸ zm261) else ((show 262 = k by omega) ▸ zm262))) else (if h264 : k < 264 then ((show 263 = k by omega) ▸ zm263) else (if h265 : k < 265 then ((show 264 = k by omega) ▸ zm264) else ((show 265 = k by omega) ▸ zm265)))))) else (if h278 : k < 278 then (if h272 : k < 272 then (if h269 : k < 269 then (if h267 : k < 267 then ((show 266 = k by omega) ▸ zm266) else (if h268 : k < 268 then ((show 267 = k by omega) ▸ zm267) else ((show 268 = k by omega) ▸ zm268))) else (if h270 : k < 270 then ((show 269 = k by omega) ▸ zm269) else (if h271 : k < 271 then ((show 270 = k by omega) ▸ zm270) else ((show 271 = k by omega) ▸ zm271)))) else (if h275 : k < 275 then (if h273 : k < 273 then ((show 272 = k by omega) ▸ zm272) else (if h274 : k < 274 then ((show 273 = k by omega) ▸ zm273) else ((show 274 = k by omega) ▸ zm274))) else (if h276 : k < 276 then ((show 275 = k by omega) ▸ zm275) else (if h277 : k < 277 then ((show 276 = k by omega) ▸ zm276) else ((show 277 = k by omega) ▸ zm277))))) else (if h284 : k < 284 then (if h281 : k < 281 then (if h279 : k < 279 then ((show 278 = k by omega) ▸ zm278) else (if h280 : k < 280 then ((show 279 = k by omega) ▸ zm279) else ((show 280 = k by omega) ▸ zm280))) else (if h282 : k < 282 then ((show 281 = k by omega) ▸ zm281) else (if h283 : k < 283 then ((show 282 = k by omega) ▸ zm282) else ((show 283 = k by omega) ▸ zm283)))) else (if h287 : k < 287 then (if h285 : k < 285 then ((show 284 = k by omega) ▸ zm284) else (if h286 : k < 286 then ((show 285 = k by omega) ▸ zm285) else ((show 286 = k by omega) ▸ zm286))) else (if h289 : k < 289 then (if h288 : k < 288 then ((show 287 = k by omega) ▸ zm287) else ((show 288 = k by omega) ▸ zm288)) else (if h290 : k < 290 then ((show 289 = k by omega) ▸ zm289) else ((show 290 = k by omega) ▸ zm290)))))))) else (if h339 : k < 339 then (if h315 : k < 315 then (if h303 : k < 303 then (if h297 : k < 297 then (if h294 : k < 294 then (if h292 : k < 292 then ((show 291 = k by omega) ▸ zm291) else (if h293 : k < 293 then ((show 292 = k by omega) ▸ zm292) else ((show 293 = k by omega) ▸ zm293))) else (if h295 : k < 295 then ((show 294 = k by omega) ▸ zm294) else (if h296 : k < 296 then ((show 295 = k by omega) ▸ zm295) else ((show 296 = k by omega) ▸ zm296)))) else (if h300 : k < 300 then (if h298 : k < 298 then ((show 297 = k by omega) ▸ zm297) else (if h299 : k < 299 then ((show 298 = k by omega) ▸ zm298) else ((show 299 = k by omega) ▸ zm299))) else (if h301 : k < 301 then ((show 300 = k by omega) ▸ zm300) else (if h302 : k < 302 then ((show 301 = k by omega) ▸ zm301) else ((show 302 = k by omega) ▸ zm302))))) else (if h309 : k < 309 then (if h306 : k < 306 then (if h304 : k < 304 then ((show 303 = k by omega) ▸ zm303) else (if h305 : k < 305 then ((show 304 = k by omega) ▸ zm304) else ((show 305 = k by omega) ▸ zm305))) else (if h307 : k < 307 then ((show 306 = k by omega) ▸ zm306) else (if h308 : k < 308 then ((show 307 = k by omega) ▸ zm307) else ((show 308 = k by omega) ▸ zm308)))) else (if h312 : k < 312 then (if h310 : k < 310 then ((show 309 = k by omega) ▸ zm309) else (if h311 : k < 311 then ((show 310 = k by omega) ▸ zm310) else ((show 311 = k by omega) ▸ zm311))) else (if h313 : k < 313 then ((show 312 = k by omega) ▸ zm312) else (if h314 : k < 314 then ((show 313 = k by omega) ▸ zm313) else ((show 314 = k by omega) ▸ zm314)))))) else (if h327 : k < 327 then (if h321 : k < 321 then (if h318 : k < 318 then (if h316 : k < 316 then ((show 315 = k by omega) ▸ zm315) else (if h317 : k < 317 then ((show 316 = k by omega) ▸ zm316) else ((show 317 = k by omega) ▸ zm317))) else (if h319 : k < 319 then ((show 318 = k by omega) ▸ zm318) else (if h320 : k < 320 then ((show 319 = k by omega) ▸ zm319) else ((show 320 = k by omega) ▸ zm320)))) else (if h324 : k < 324 then (if h322 : k < 322 then ((show 321 = k by omega) ▸ zm321) else (if h323 : k < 323 then ((show 322 = k by omega) ▸ zm322) else ((show 323 = k by omega) ▸ zm323))) else (if h325 : k < 325 then ((show 324 = k by omega) ▸ zm324) else (if h326 : k < 326 then ((show 325 = k by omega) ▸ zm325) else ((show 326 = k by omega) ▸ zm326))))) else (if h333 : k < 333 then (if h330 : k < 330 then (if h328 : k < 328 then ((show 327 = k by omega) ▸ zm327) else (if h329 : k < 329 then ((show 328 = k by omega) ▸ zm328) else ((show 329 = k by omega) ▸ zm329))) else (if h331 : k < 331 then ((show 330 = k by omega) ▸ zm330) else (if h332 : k < 332 then ((show 331 = k by omega) ▸ zm331) else ((show 332 = k by omega) ▸ zm332)))) else (if h336 : k < 336 then (if h334 : k < 334 then ((show 333 = k by omega) ▸ zm333) else (if h335 : k < 335 then ((show 334 = k by omega) ▸ zm334) else ((show 335 = k by omega) ▸ zm335))) else (if h337 : k < 337 then ((show 336 = k by omega) ▸ zm336) else (if h338 : k < 338 then ((show 337 = k by omega) ▸ zm337) else ((show 338 = k by omega) ▸ zm338))))))) else (if h363 : k < 363 then (if h351 : k < 351 then (if h345 : k < 345 then (if h342 : k < 342 then (if h340 : k < 340 then ((show 339 = k by omega) ▸ zm339) else (if h341 : k < 341 then ((show 340 = k by omega) ▸ zm340) else ((show 341 = k by omega) ▸ zm341))) else (if h343 : k < 343 then ((show 342 = k by omega) ▸ zm342) else (if h344 : k < 344 then ((show 343 = k by omega) ▸ zm343) else ((show 344 = k by omega) ▸ zm344)))) else (if h348 : k < 348 then (if h346 : k < 346 then ((show 345 = k by omega) ▸ zm345) else (if h347 : k < 347 then ((show 346 = k by omega) ▸ zm346) else ((show 347 = k by omega) ▸ zm347))) else (if h349 : k < 349 then ((show 348 = k by omega) ▸ zm348) else (if h350 : k < 350 then ((show 349 = k by omega) ▸ zm349) else ((show 350 = k by omega) ▸ zm350))))) else (if h357 : k < 357 then (if h354 : k < 354 then (if h352 : k < 352 then ((show 351 = k by omega) ▸ zm351) else (if h353 : k < 353 then ((show 352 = k by omega) ▸ zm352) else ((show 353 = k by omega) ▸ zm353))) else (if h355 : k < 355 then ((show 354 = k by omega) ▸ zm354) else (if h356 : k < 356 then ((show 355 = k by omega) ▸ zm355) else ((show 356 = k by omega) ▸ zm356)))) else (if h360 : k < 360 then (if h358 : k < 358 then ((show 357 = k by omega) ▸ zm357) else (if h359 : k < 359 then ((show 358 = k by omega) ▸ zm358) else ((show 359 = k by omega) ▸ zm359))) else (if h361 : k < 361 then ((show 360 = k by omega) ▸ zm360) else (if h362 : k < 362 then ((show 361 = k by omega) ▸ zm361) else ((show 362 = k by omega) ▸ zm362)))))) else (if h375 : k < 375 then (if h369 : k < 369 then (if h366 : k < 366 then (if h364 : k < 364 then ((show 363 = k by omega) ▸ zm363) else (if h365 : k < 365 then ((show 364 = k by omega) ▸ zm364) else ((show 365 = k by omega) ▸ zm365))) else (if h367 : k < 367 then ((show 366 = k by omega) ▸ zm366) else (if h368 : k < 368 then ((show 367 = k by omega) ▸ zm367) else ((show 368 = k by omega) ▸ zm368)))) else (if h372 : k < 372 then (if h370 : k < 370 then ((show 369 = k by omega) ▸ zm369) else (if h371 : k < 371 then ((show 370 = k by omega) ▸ zm370) else ((show 371 = k by omega) ▸ zm371))) else (if h373 : k < 373 then ((show 372 = k by omega) ▸ zm372) else (if h374 : k < 374 then ((show 373 = k by omega) ▸ zm373) else ((show 374 = k by omega) ▸ zm374))))) else (if h381 : k < 381 then (if h378 : k < 378 then (if h376 : k < 376 then ((show 375 = k by omega) ▸ zm375) else (if h377 : k < 377 then ((show 376 = k by omega) ▸ zm376) else ((show 377 = k by omega) ▸ zm377))) else (if h379 : k < 379 then ((show 378 = k by omega) ▸ zm378) else (if h380 : k < 380 then ((show 379 = k by omega) ▸ zm379) else ((show 380 = k by omega) ▸ zm380)))) else (if h384 : k < 384 then (if h382 : k < 382 then ((show 381 = k by omega) ▸ zm381) else (if h383 : k < 383 then ((show 382 = k by omega) ▸ zm382) else ((show 383 = k by omega) ▸ zm383))) else (if h386 : k < 386 then (if h385 : k < 385 then ((show 384 = k by omega) ▸ zm384) else ((show 385 = k by omega) ▸ zm385)) else (if h387 : k < 387 then ((show 386 = k by omega) ▸ zm386) else ((show 387 = k by omega) ▸ zm387)))))))))
theorem zMK_all (k : Nat) (hk : k < 388) : zMK k := if h194 : k < 194 then (if h97 : k < 97 then (if h48 : k < 48 then (if h24 : k < 24 then (if h12 : k < 12 then (if h6 : k < 6 then (if h3 : k < 3 then (if h1 : k < 1 then ((show 0 = k by omega) ▸ zn0) else (if h2 : k < 2 then ((show 1 = k by omega) ▸ zn1) else ((show 2 = k by omega) ▸ zn2))) else (if h4 : k < 4 then ((show 3 = k by omega) ▸ zn3) else (if h5 : k < 5 then ((show 4 = k by omega) ▸ zn4) else ((show 5 = k by omega) ▸ zn5)))) else (if h9 : k < 9 then (if h7 : k < 7 then ((show 6 = k by omega) ▸ zn6) else (if h8 : k < 8 then ((show 7 = k by omega) ▸ zn7) else ((show 8 = k by omega) ▸ zn8))) else (if h10 : k < 10 then ((show 9 = k by omega) ▸ zn9) else (if h11 : k < 11 then ((show 10 = k by omega) ▸ zn10) else ((show 11 = k by omega) ▸ zn11))))) else (if h18 : k < 18 then (if h15 : k < 15 then (if h13 : k < 13 then ((show 12 = k by omega) ▸ zn12) else (if h14 : k < 14 then ((show 13 = k by omega) ▸ zn13) else ((show 14 = k by omega) ▸ zn14))) else (if h16 : k < 16 then ((show 15 = k by omega) ▸ zn15) else (if h17 : k < 17 then ((show 16 = k by omega) ▸ zn16) else ((show 17 = k by omega) ▸ zn17)))) else (if h21 : k < 21 then (if h19 : k < 19 then ((show 18 = k by omega) ▸ zn18) else (if h20 : k < 20 then ((show 19 = k by omega) ▸ zn19) else ((show 20 = k by omega) ▸ zn20))) else (if h22 : k < 22 then ((show 21 = k by omega) ▸ zn21) else (if h23 : k < 23 then ((show 22 = k by omega) ▸ zn22) else ((show 23 = k by omega) ▸ zn23)))))) else (if h36 : k < 36 then (if h30 : k < 30 then (if h27 : k < 27 then (if h25 : k < 25 then ((show 24 = k by omega) ▸ zn24) else (if h26 : k < 26 then ((show 25 = k by omega) ▸ zn25) else ((show 26 = k by omega) ▸ zn26))) else (if h28 : k < 28 then ((show 27 = k by omega) ▸ zn27) else (if h29 : k < 29 then ((show 28 = k by omega) ▸ zn28) else ((show 29 = k by omega) ▸ zn29)))) else (if h33 : k < 33 then (if h31 : k < 31 then ((show 30 = k by omega) ▸ zn30) else (if h32 : k < 32 then ((show 31 = k by omega) ▸ zn31) else ((show 32 = k by omega) ▸ zn32))) else (if h34 : k < 34 then ((show 33 = k by omega) ▸ zn33) else (if h35 : k < 35 then ((show 34 = k by omega) ▸ zn34) else ((show 35 = k by omega) ▸ zn35))))) else (if h42 : k < 42 then (if h39 : k < 39 then (if h37 : k < 37 then ((show 36 = k by omega) ▸ zn36) else (if h38 : k < 38 then ((show 37 = k by omega) ▸ zn37) else ((show 38 = k by omega) ▸ zn38))) else (if h40 : k < 40 then ((show 39 = k by omega) ▸ zn39) else (if h41 : k < 41 then ((show 40 = k by omega) ▸ zn40) else ((show 41 = k by omega) ▸ zn41)))) else (if h45 : k < 45 then (if h43 : k < 43 then ((show 42 = k by omega) ▸ zn42) else (if h44 : k < 44 then ((show 43 = k by omega) ▸ zn43) else ((show 44 = k by omega) ▸ zn44))) else (if h46 : k < 46 then ((show 45 = k by omega) ▸ zn45) else (if h47 : k < 47 then ((show 46 = k by omega) ▸ zn46) else ((show 47 = k by omega) ▸ zn47))))))) else (if h72 : k < 72 then (if h60 : k < 60 then (if h54 : k < 54 then (if h51 : k < 51 then (if h49 : k < 49 then ((show 48 = k by omega) ▸ zn48) else (if h50 : k < 50 then ((show 49 = k by omega) ▸ zn49) else ((show 50 = k by omega) ▸ zn50))) else (if h52 : k < 52 then ((show 51 = k by omega) ▸ zn51) else (if h53 : k < 53 then ((show 52 = k by omega) ▸ zn52) else ((show 53 = k by omega) ▸ zn53)))) else (if h57 : k < 57 then (if h55 : k < 55 then ((show 54 = k by omega) ▸ zn54) else (if h56 : k < 56 then ((show 55 = k by omega) ▸ zn55) else ((show 56 = k by omega) ▸ zn56))) else (if h58 : k < 58 then ((show 57 = k by omega) ▸ zn57) else (if h59 : k < 59 then ((show 58 = k by omega) ▸ zn58) else ((show 59 = k by omega) ▸ zn59))))) else (if h66 : k < 66 then (if h63 : k < 63 then (if h61 : k < 61 then ((show 60 = k by omega) ▸ zn60) else (if h62 : k < 62 then ((show 61 = k by omega) ▸ zn61) else ((show 62 = k by omega) ▸ zn62))) else (if h64 : k < 64 then ((show 63 = k by omega) ▸ zn63) else (if h65 : k < 65 then ((show 64 = k by omega) ▸ zn64) else ((show 65 = k by omega) ▸ zn65)))) else (if h69 : k < 69 then (if h67 : k < 67 then ((show 66 = k by omega) ▸ zn66) else (if h68 : k < 68 then ((show 67 = k by omega) ▸ zn67) else ((show 68 = k by omega) ▸ zn68))) else (if h70 : k < 70 then ((show 69 = k by omega) ▸ zn69) else (if h71 : k < 71 then ((show 70 = k by omega) ▸ zn70) else ((show 71 = k by omega) ▸ zn71)))))) else (if h84 : k < 84 then (if h78 : k < 78 then (if h75 : k < 75 then (if h73 : k < 73 then ((show 72 = k by omega) ▸ zn72) else (if h74 : k < 74 then ((show 73 = k by omega) ▸ zn73) else ((show 74 = k by omega) ▸ zn74))) else (if h76 : k < 76 then ((show 75 = k by omega) ▸ zn75) else (if h77 : k < 77 then ((show 76 = k by omega) ▸ zn76) else ((show 77 = k by omega) ▸ zn77)))) else (if h81 : k < 81 then (if h79 : k < 79 then ((show 78 = k by omega) ▸ zn78) else (if h80 : k < 80 then ((show 79 = k by omega) ▸ zn79) else ((show 80 = k by omega) ▸ zn80))) else (if h82 : k < 82 then ((show 81 = k by omega) ▸ zn81) else (if h83 : k < 83 then ((show 82 = k by omega) ▸ zn82) else ((show 83 = k by omega) ▸ zn83))))) else (if h90 : k < 90 then (if h87 : k < 87 then (if h85 : k < 85 then ((show 84 = k by omega) ▸ zn84) else (if h86 : k < 86 then ((show 85 = k by omega) ▸ zn85) else ((show 86 = k by omega) ▸ zn86))) else (if h88 : k < 88 then ((show 87 = k by omega) ▸ zn87) else (if h89 : k < 89 then ((show 88 = k by omega) ▸ zn88) else ((show 89 = k by omega) ▸ zn89)))) else (if h93 : k < 93 then (if h91 : k < 91 then ((show 90 = k by omega) ▸ zn90) else (if h92 : k < 92 then ((show 91 = k by omega) ▸ zn91) else ((show 92 = k by omega) ▸ zn92))) else (if h95 : k < 95 then (if h94 : k < 94 then ((show 93 = k by omega) ▸ zn93) else ((show 94 = k by omega) ▸ zn94)) else (if h96 : k < 96 then ((show 95 = k by omega) ▸ zn95) else ((show 96 = k by omega) ▸ zn96)))))))) else (if h145 : k < 145 then (if h121 : k < 121 then (if h109 : k < 109 then (if h103 : k < 103 then (if h100 : k < 100 then (if h98 : k < 98 then ((show 97 = k by omega) ▸ zn97) else (if h99 : k < 99 then ((show 98 = k by omega) ▸ zn98) else ((show 99 = k by omega) ▸ zn99))) else (if h101 : k < 101 then ((show 100 = k by omega) ▸ zn100) else (if h102 : k < 102 then ((show 101 = k by omega) ▸ zn101) else ((show 102 = k by omega) ▸ zn102)))) else (if h106 : k < 106 then (if h104 : k < 104 then ((show 103 = k by omega) ▸ zn103) else (if h105 : k < 105 then ((show 104 = k by omega) ▸ zn104) else ((show 105 = k by omega) ▸ zn105))) else (if h107 : k < 107 then ((show 106 = k by omega) ▸ zn106) else (if h108 : k < 108 then ((show 107 = k by omega) ▸ zn107) else ((show 108 = k by omega) ▸ zn108))))) else (if h115 : k < 115 then (if h112 : k < 112 then (if h110 : k < 110 then ((show 109 = k by omega) ▸ zn109) else (if h111 : k < 111 then ((show 110 = k by omega) ▸ zn110) else ((show 111 = k by omega) ▸ zn111))) else (if h113 : k < 113 then ((show 112 = k by omega) ▸ zn112) else (if h114 : k < 114 then ((show 113 = k by omega) ▸ zn113) else ((show 114 = k by omega) ▸ zn114)))) else (if h118 : k < 118 then (if h116 : k < 116 then ((show 115 = k by omega) ▸ zn115) else (if h117 : k < 117 then ((show 116 = k by omega) ▸ zn116) else ((show 117 = k by omega) ▸ zn117))) else (if h119 : k < 119 then ((show 118 = k by omega) ▸ zn118) else (if h120 : k < 120 then ((show 119 = k by omega) ▸ zn119) else ((show 120 = k by omega) ▸ zn120)))))) else (if h133 : k < 133 then (if h127 : k < 127 then (if h124 : k < 124 then (if h122 : k < 122 then ((show 121 = k by omega) ▸ zn121) else (if h123 : k < 123 then ((show 122 = k by omega) ▸ zn122) else ((show 123 = k by omega) ▸ zn123))) else (if h125 : k < 125 then ((show 124 = k by omega) ▸ zn124) else (if h126 : k < 126 then ((show 125 = k by omega) ▸ zn125) else ((show 126 = k by omega) ▸ zn126)))) else (if h130 : k < 130 then (if h128 : k < 128 then ((show 127 = k by omega) ▸ zn127) else (if h129 : k < 129 then ((show 128 = k by omega) ▸ zn128) else ((show 129 = k by omega) ▸ zn129))) else (if h131 : k < 131 then ((show 130 = k by omega) ▸ zn130) else (if h132 : k < 132 then ((show 131 = k by omega) ▸ zn131) else ((show 132 = k by omega) ▸ zn132))))) else (if h139 : k < 139 then (if h136 : k < 136 then (if h134 : k < 134 then ((show 133 = k by omega) ▸ zn133) else (if h135 : k < 135 then ((show 134 = k by omega) ▸ zn134) else ((show 135 = k by omega) ▸ zn135))) else (if h137 : k < 137 then ((show 136 = k by omega) ▸ zn136) else (if h138 : k < 138 then ((show 137 = k by omega) ▸ zn137) else ((show 138 = k by omega) ▸ zn138)))) else (if h142 : k < 142 then (if h140 : k < 140 then ((show 139 = k by omega) ▸ zn139) else (if h141 : k < 141 then ((show 140 = k by omega) ▸ zn140) else ((show 141 = k by omega) ▸ zn141))) else (if h143 : k < 143 then ((show 142 = k by omega) ▸ zn142) else (if h144 : k < 144 then ((show 143 = k by omega) ▸ zn143) else ((show 144 = k by omega) ▸ zn144))))))) else (if h169 : k < 169 then (if h157 : k < 157 then (if h151 : k < 151 then (if h148 : k < 148 then (if h146 : k < 146 then ((show 145 = k by omega) ▸ zn145) else (if h147 : k < 147 then ((show 146 = k by omega) ▸ zn146) else ((show 147 = k by omega) ▸ zn147))) else (if h149 : k < 149 then ((show 148 = k by omega) ▸ zn148) else (if h150 : k < 150 then ((show 149 = k by omega) ▸ zn149) else ((show 150 = k by omega) ▸ zn150)))) else (if h154 : k < 154 then (if h152 : k < 152 then ((show 151 = k by omega) ▸ zn151) else (if h153 : k < 153 then ((show 152 = k by omega) ▸ zn152) else ((show 153 = k by omega) ▸ zn153))) else (if h155 : k < 155 then ((show 154 = k by omega) ▸ zn154) else (if h156 : k < 156 then ((show 155 = k by omega) ▸ zn155) else ((show 156 = k by omega) ▸ zn156))))) else (if h163 : k < 163 then (if h160 : k < 160 then (if h158 : k < 158 then ((show 157 = k by omega) ▸ zn157) else (if h159 : k < 159 then ((show 158 = k by omega) ▸ zn158) else ((show 159 = k by omega) ▸ zn159))) else (if h161 : k < 161 then ((show 160 = k by omega) ▸ zn160) else (if h162 : k < 162 then ((show 161 = k by omega) ▸ zn161) else ((show 162 = k by omega) ▸ zn162)))) else (if h166 : k < 166 then (if h164 : k < 164 then ((show 163 = k by omega) ▸ zn163) else (if h165 : k < 165 then ((show 164 = k by omega) ▸ zn164) else ((show 165 = k by omega) ▸ zn165))) else (if h167 : k < 167 then ((show 166 = k by omega) ▸ zn166) else (if h168 : k < 168 then ((show 167 = k by omega) ▸ zn167) else ((show 168 = k by omega) ▸ zn168)))))) else (if h181 : k < 181 then (if h175 : k < 175 then (if h172 : k < 172 then (if h170 : k < 170 then ((show 169 = k by omega) ▸ zn169) else (if h171 : k < 171 then ((show 170 = k by omega) ▸ zn170) else ((show 171 = k by omega) ▸ zn171))) else (if h173 : k < 173 then ((show 172 = k by omega) ▸ zn172) else (if h174 : k < 174 then ((show 173 = k by omega) ▸ zn173) else ((show 174 = k by omega) ▸ zn174)))) else (if h178 : k < 178 then (if h176 : k < 176 then ((show 175 = k by omega) ▸ zn175) else (if h177 : k < 177 then ((show 176 = k by omega) ▸ zn176) else ((show 177 = k by omega) ▸ zn177))) else (if h179 : k < 179 then ((show 178 = k by omega) ▸ zn178) else (if h180 : k < 180 then ((show 179 = k by omega) ▸ zn179) else ((show 180 = k by omega) ▸ zn180))))) else (if h187 : k < 187 then (if h184 : k < 184 then (if h182 : k < 182 then ((show 181 = k by omega) ▸ zn181) else (if h183 : k < 183 then ((show 182 = k by omega) ▸ zn182) else ((show 183 = k by omega) ▸ zn183))) else (if h185 : k < 185 then ((show 184 = k by omega) ▸ zn184) else (if h186 : k < 186 then ((show 185 = k by omega) ▸ zn185) else ((show 186 = k by omega) ▸ zn186)))) else (if h190 : k < 190 then (if h188 : k < 188 then ((show 187 = k by omega) ▸ zn187) else (if h189 : k < 189 then ((show 188 = k by omega) ▸ zn188) else ((show 189 = k by omega) ▸ zn189))) else (if h192 : k < 192 then (if h191 : k < 191 then ((show 190 = k by omega) ▸ zn190) else ((show 191 = k by omega) ▸ zn191)) else (if h193 : k < 193 then ((show 192 = k by omega) ▸ zn192) else ((show 193 = k by omega) ▸ zn193))))))))) else (if h291 : k < 291 then (if h242 : k < 242 then (if h218 : k < 218 then (if h206 : k < 206 then (if h200 : k < 200 then (if h197 : k < 197 then (if h195 : k < 195 then ((show 194 = k by omega) ▸ zn194) else (if h196 : k < 196 then ((show 195 = k by omega) ▸ zn195) else ((show 196 = k by omega) ▸ zn196))) else (if h198 : k < 198 then ((show 197 = k by omega) ▸ zn197) else (if h199 : k < 199 then ((show 198 = k by omega) ▸ zn198) else ((show 199 = k by omega) ▸ zn199)))) else (if h203 : k < 203 then (if h201 : k < 201 then ((show 200 = k by omega) ▸ zn200) else (if h202 : k < 202 then ((show 201 = k by omega) ▸ zn201) else ((show 202 = k by omega) ▸ zn202))) else (if h204 : k < 204 then ((show 203 = k by omega) ▸ zn203) else (if h205 : k < 205 then ((show 204 = k by omega) ▸ zn204) else ((show 205 = k by omega) ▸ zn205))))) else (if h212 : k < 212 then (if h209 : k < 209 then (if h207 : k < 207 then ((show 206 = k by omega) ▸ zn206) else (if h208 : k < 208 then ((show 207 = k by omega) ▸ zn207) else ((show 208 = k by omega) ▸ zn208))) else (if h210 : k < 210 then ((show 209 = k by omega) ▸ zn209) else (if h211 : k < 211 then ((show 210 = k by omega) ▸ zn210) else ((show 211 = k by omega) ▸ zn211)))) else (if h215 : k < 215 then (if h213 : k < 213 then ((show 212 = k by omega) ▸ zn212) else (if h214 : k < 214 then ((show 213 = k by omega) ▸ zn213) else ((show 214 = k by omega) ▸ zn214))) else (if h216 : k < 216 then ((show 215 = k by omega) ▸ zn215) else (if h217 : k < 217 then ((show 216 = k by omega) ▸ zn216) else ((show 217 = k by omega) ▸ zn217)))))) else (if h230 : k < 230 then (if h224 : k < 224 then (if h221 : k < 221 then (if h219 : k < 219 then ((show 218 = k by omega) ▸ zn218) else (if h220 : k < 220 then ((show 219 = k by omega) ▸ zn219) else ((show 220 = k by omega) ▸ zn220))) else (if h222 : k < 222 then ((show 221 = k by omega) ▸ zn221) else (if h223 : k < 223 then ((show 222 = k by omega) ▸ zn222) else ((show 223 = k by omega) ▸ zn223)))) else (if h227 : k < 227 then (if h225 : k < 225 then ((show 224 = k by omega) ▸ zn224) else (if h226 : k < 226 then ((show 225 = k by omega) ▸ zn225) else ((show 226 = k by omega) ▸ zn226))) else (if h228 : k < 228 then ((show 227 = k by omega) ▸ zn227) else (if h229 : k < 229 then ((show 228 = k by omega) ▸ zn228) else ((show 229 = k by omega) ▸ zn229))))) else (if h236 : k < 236 then (if h233 : k < 233 then (if h231 : k < 231 then ((show 230 = k by omega) ▸ zn230) else (if h232 : k < 232 then ((show 231 = k by omega) ▸ zn231) else ((show 232 = k by omega) ▸ zn232))) else (if h234 : k < 234 then ((show 233 = k by omega) ▸ zn233) else (if h235 : k < 235 then ((show 234 = k by omega) ▸ zn234) else ((show 235 = k by omega) ▸ zn235)))) else (if h239 : k < 239 then (if h237 : k < 237 then ((show 236 = k by omega) ▸ zn236) else (if h238 : k < 238 then ((show 237 = k by omega) ▸ zn237) else ((show 238 = k by omega) ▸ zn238))) else (if h240 : k < 240 then ((show 239 = k by omega) ▸ zn239) else (if h241 : k < 241 then ((show 240 = k by omega) ▸ zn240) else ((show 241 = k by omega) ▸ zn241))))))) else (if h266 : k < 266 then (if h254 : k < 254 then (if h248 : k < 248 then (if h245 : k < 245 then (if h243 : k < 243 then ((show 242 = k by omega) ▸ zn242) else (if h244 : k < 244 then ((show 243 = k by omega) ▸ zn243) else ((show 244 = k by omega) ▸ zn244))) else (if h246 : k < 246 then ((show 245 = k by omega) ▸ zn245) else (if h247 : k < 247 then ((show 246 = k by omega) ▸ zn246) else ((show 247 = k by omega) ▸ zn247)))) else (if h251 : k < 251 then (if h249 : k < 249 then ((show 248 = k by omega) ▸ zn248) else (if h250 : k < 250 then ((show 249 = k by omega) ▸ zn249) else ((show 250 = k by omega) ▸ zn250))) else (if h252 : k < 252 then ((show 251 = k by omega) ▸ zn251) else (if h253 : k < 253 then ((show 252 = k by omega) ▸ zn252) else ((show 253 = k by omega) ▸ zn253))))) else (if h260 : k < 260 then (if h257 : k < 257 then (if h255 : k < 255 then ((show 254 = k by omega) ▸ zn254) else (if h256 : k < 256 then ((show 255 = k by omega) ▸ zn255) else ((show 256 = k by omega) ▸ zn256))) else (if h258 : k < 258 then ((show 257 = k by omega) ▸ zn257) else (if h259 : k < 259 then ((show 258 = k by omega) ▸ zn258) else ((show 259 = k by omega) ▸ zn259)))) else (if h263 : k < 263 then (if h261 : k < 261 then ((show 260 = k by omega) ▸ zn260) else (if h262 : k < 262 then ((show 261 = k by omega) ▸ zn261) else ((show 262 = k by omega) ▸ zn262))) else (if h264 : k < 264 then ((show 263 = k by omega) ▸ zn263) else (if h265 : k < 265 then ((show 264 = k by omega) ▸ zn264) else ((show 265 = k by omega) ▸ zn265)))))) else (if h278 : k < 278 then (if h272 : k < 272 then (if h269 : k < 269 then (if h267 : k < 267 then ((show 266 = k by omega) ▸ zn266) else (if h268 : k < 268 then ((show 267 = k by omega) ▸ zn267) else ((show 268 = k by omega) ▸ zn268))) else (if h270 : k < 270 then ((show 269 = k by omega) ▸ zn269) else (if h271 : k < 271 then ((show 270 = k by omega) ▸ zn270) else ((show 271 = k by omega) ▸ zn271)))) else (if h275 : k < 275 then (if h273 : k < 273 then ((show 272 = k by omega) ▸ zn272) else (if h274 : k < 274 then ((show 273 = k by omega) ▸ zn273) else ((show 274 = k by omega) ▸ zn274))) else (if h276 : k < 276 then ((show 275 = k by omega) ▸ zn275) else (if h277 : k < 277 then ((show 276 = k by omega) ▸ zn276) else ((show 277 = k by omega) ▸ zn277))))) else (if h284 : k < 284 then (if h281 : k < 281 then (if h279 : k < 279 then ((show 278 = k by omega) ▸ zn278) else (if h280 : k < 280 then ((show 279 = k by omega) ▸ zn279) else ((show 280 = k by omega) ▸ zn280))) else (if h282 : k < 282 then ((show 281 = k by omega) ▸ zn281) else (if h283 : k < 283 then ((show 282 = k by omega) ▸ zn282) else ((show 283 = k by omega) ▸ zn283)))) else (if h287 : k < 287 then (if h285 : k < 285 then ((show 284 = k by omega) ▸ zn284) else (if h286 : k < 286 then ((show 285 = k by omega) ▸ zn285) else ((show 286 = k by omega) ▸ zn286))) else (if h289 : k < 289 then (if h288 : k < 288 then ((show 287 = k by omega) ▸ zn287) else ((show 288 = k by omega) ▸ zn288)) else (if h290 : k < 290 then ((show 289 = k by omega) ▸ zn289) else ((show 290 = k by omega) ▸ zn290)))))))) else (if h339 : k < 339 then (if h315 : k < 315 then (if h303 : k < 303 then (if h297 : k < 297 then (if h294 : k < 294 then (if h292 : k < 292 then ((show 291 = k by omega) ▸ zn291) else (if h293 : k < 293 then ((show 292 = k by omega) ▸ zn292) else ((show 293 = k by omega) ▸ zn293))) else (if h295 : k < 295 then ((show 294 = k by omega) ▸ zn294) else (if h296 : k < 296 then ((show 295 = k by omega) ▸ zn295) else ((show 296 = k by omega) ▸ zn296)))) else (if h300 : k < 300 then (if h298 : k < 298 then ((show 297 = k by omega) ▸ zn297) else (if h299 : k < 299 then ((show 298 = k by omega) ▸ zn298) else ((show 299 = k by omega) ▸ zn299))) else (if h301 : k < 301 then ((show 300 = k by omega) ▸ zn300) else (if h302 : k < 302 then ((show 301 = k by omega) ▸ zn301) else ((show 302 = k by omega) ▸ zn302))))) else (if h309 : k < 309 then (if h306 : k < 306 then (if h304 : k < 304 then ((show 303 = k by omega) ▸ zn303) else (if h305 : k < 305 then ((show 304 = k by omega) ▸ zn304) else ((show 305 = k by omega) ▸ zn305))) else (if h307 : k < 307 then ((show 306 = k by omega) ▸ zn306) else (if h308 : k < 308 then ((show 307 = k by omega) ▸ zn307) else ((show 308 = k by omega) ▸ zn308)))) else (if h312 : k < 312 then (if h310 : k < 310 then ((show 309 = k by omega) ▸ zn309) else (if h311 : k < 311 then ((show 310 = k by omega) ▸ zn310) else ((show 311 = k by omega) ▸ zn311))) else (if h313 : k < 313 then ((show 312 = k by omega) ▸ zn312) else (if h314 : k < 314 then ((show 313 = k by omega) ▸ zn313) else ((show 314 = k by omega) ▸ zn314)))))) else (if h327 : k < 327 then (if h321 : k < 321 then (if h318 : k < 318 then (if h316 : k < 316 then ((show 315 = k by omega) ▸ zn315) else (if h317 : k < 317 then ((show 316 = k by omega) ▸ zn316) else ((show 317 = k by omega) ▸ zn317))) else (if h319 : k < 319 then ((show 318 = k by omega) ▸ zn318) else (if h320 : k < 320 then ((show 319 = k by omega) ▸ zn319) else ((show 320 = k by omega) ▸ zn320)))) else (if h324 : k < 324 then (if h322 : k < 322 then ((show 321 = k by omega) ▸ zn321) else (if h323 : k < 323 then ((show 322 = k by omega) ▸ zn322) else ((show 323 = k by omega) ▸ zn323))) else (if h325 : k < 325 then ((show 324 = k by omega) ▸ zn324) else (if h326 : k < 326 then ((show 325 = k by omega) ▸ zn325) else ((show 326 = k by omega) ▸ zn326))))) else (if h333 : k < 333 then (if h330 : k < 330 then (if h328 : k < 328 then ((show 327 = k by omega) ▸ zn327) else (if h329 : k < 329 then ((show 328 = k by omega) ▸ zn328) else ((show 329 = k by omega) ▸ zn329))) else (if h331 : k < 331 then ((show 330 = k by omega) ▸ zn330) else (if h332 : k < 332 then ((show 331 = k by omega) ▸ zn331) else ((show 332 = k by omega) ▸ zn332)))) else (if h336 : k < 336 then (if h334 : k < 334 then ((show 333 = k by omega) ▸ zn333) else (if h335 : k < 335 then ((show 334 = k by omega) ▸ zn334) else ((show 335 = k by omega) ▸ zn335))) else (if h337 : k < 337 then ((show 336 = k by omega) ▸ zn336) else (if h338 : k < 338 then ((show 337 = k by omega) ▸ zn337) else ((show 338 = k by omega) ▸ zn338))))))) else (if h363 : k < 363 then (if h351 : k < 351 then (if h345 : k < 345 then (if h342 : k < 342 then (if h340 : k < 340 then ((show 339 = k by omega) ▸ zn339) else (if h341 : k < 341 then ((show 340 = k by omega) ▸ zn340) else ((show 341 = k by omega) ▸ zn341))) else (if h343 : k < 343 then ((show 342 = k by omega) ▸ zn342) else (if h344 : k < 344 then ((show 343 = k by omega) ▸ zn343) else ((show 344 = k by omega) ▸ zn344)))) else (if h348 : k < 348 then (if h346 : k < 346 then ((show 345 = k by omega) ▸ zn345) else (if h347 : k < 347 then ((show 346 = k by omega) ▸ zn346) else ((show 347 = k by omega) ▸ zn347))) else (if h349 : k < 349 then ((show 348 = k by omega) ▸ zn348) else (if h350 : k < 350 then ((show 349 = k by omega) ▸ zn349) else ((show 350 = k by omega) ▸ zn350))))) else (if h357 : k < 357 then (if h354 : k < 354 then (if h352 : k < 352 then ((show 351 = k by omega) ▸ zn351) else (if h353 : k < 353 then ((show 352 = k by omega) ▸ zn352) else ((show 353 = k by omega) ▸ zn353))) else (if h355 : k < 355 then ((show 354 = k by omega) ▸ zn354) else (if h356 : k < 356 then ((show 355 = k by omega) ▸ zn355) else ((show 356 = k by omega) ▸ zn356)))) else (if h360 : k < 360 then (if h358 : k < 358 then ((show 357 = k by omega) ▸ zn357) else (if h359 : k < 359 then ((show 358 = k by omega) ▸ zn358) else ((show 359 = k by omega) ▸ zn359))) else (if h361 : k < 361 then ((show 360 = k by omega) ▸ zn360) else (if h362 : k < 362 then ((show 361 = k by omega) ▸ zn361) else ((show 362 = k by omega) ▸ zn362)))))) else (if h375 : k < 375 then (if h369 : k < 369 then (if h366 : k < 366 then (if h364 : k < 364 then ((show 363 = k by omega) ▸ zn363) else (if h365 : k < 365 then ((show 364 = k by omega) ▸ zn364) else ((show 365 = k by omega) ▸ zn365))) else (if h367 : k < 367 then ((show 366 = k by omega) ▸ zn366) else (if h368 : k < 368 then ((show 367 = k by omega) ▸ zn367) else ((show 368 = k by omega) ▸ zn368)))) else (if h372 : k < 372 then (if h370 : k < 370 then ((show 369 = k by omega) ▸ zn369) else (if h371 : k < 371 then ((show 370 = k by omega) ▸ zn370) else ((show 371 = k by omega) ▸ zn371))) else (if h373 : k < 373 then ((show 372 = k by omega) ▸ zn372) else (if h374 : k < 374 then ((show 373 = k by omega) ▸ zn373) else ((show 374 = k by omega) ▸ zn374))))) else (if h381 : k < 381 then (if h378 : k < 378 then (if h376 : k < 376 then ((show 375 = k by omega) ▸ zn375) else (if h377 : k < 377 then ((show 376 = k by omega) ▸ zn376) else ((show 377 = k by omega) ▸ zn377))) else (if h379 : k < 379 then ((show 378 = k by omega) ▸ zn378) else (if h380 : k < 380 then ((show 379 = k by omega) ▸ zn379) else ((show 380 = k by omega) ▸ zn380)))) else (if h384 : k < 384 then (if h382 : k < 382 then ((show 381 = k by omega) ▸ zn381) else (if h383 : k < 383 then ((show 382 = k by omega) ▸ zn382) else ((show 383 = k by omega) ▸ zn383))) else (if h386 : k < 386 then (if h385 : k < 385 then ((show 384 = k by omega) ▸ zn384) else ((show 385 = k by omega) ▸ zn385)) else (if h387 : k < 387 then ((show 386 = k by omega) ▸ zn386) else ((show 387 = k by omega) ▸ zn387)))))))))
/-- the word of a call: linked, or linked by the nest -/
def zmlw (o i y kd : Nat) : Cond := cond (Nat.blt kd 9) (Cond.methodLink (zcn o) i (zyn y)) (Cond.methodLinkNest (zcn o) i (zyn y) "CirclePacker")
def zlf (q : Nat × Nat × Nat × Nat) : Prop := zmlw q.1 q.2.1 q.2.2.1 q.2.2.2 ∈ lw_tbl
set_option maxRecDepth 100000 in
theorem zl0 : zlf (0, 17, 51, 12) := List.mem_of_getElem? (i := 390) rfl
set_option maxRecDepth 100000 in
theorem zl1 : zlf (0, 22, 1, 0) := List.mem_of_getElem? (i := 589) rfl
set_option maxRecDepth 100000 in
theorem zl2 : zlf (0, 26, 53, 0) := List.mem_of_getElem? (i := 593) rfl
set_option maxRecDepth 100000 in
theorem zl3 : zlf (1, 19, 62, 0) := List.mem_of_getElem? (i := 1151) rfl
set_option maxRecDepth 100000 in
theorem zl4 : zlf (1, 24, 33, 0) := List.mem_of_getElem? (i := 709) rfl
set_option maxRecDepth 100000 in
theorem zl5 : zlf (1, 30, 63, 0) := List.mem_of_getElem? (i := 1152) rfl
set_option maxRecDepth 100000 in
theorem zl6 : zlf (1, 34, 57, 0) := List.mem_of_getElem? (i := 687) rfl
set_option maxRecDepth 100000 in
theorem zl7 : zlf (1, 38, 10, 0) := List.mem_of_getElem? (i := 1163) rfl
set_option maxRecDepth 100000 in
theorem zl8 : zlf (1, 42, 8, 0) := List.mem_of_getElem? (i := 1173) rfl
set_option maxRecDepth 100000 in
theorem zl9 : zlf (1, 50, 9, 0) := List.mem_of_getElem? (i := 705) rfl
set_option maxRecDepth 100000 in
theorem zl10 : zlf (1, 54, 58, 0) := List.mem_of_getElem? (i := 662) rfl
set_option maxRecDepth 100000 in
theorem zl11 : zlf (1, 58, 11, 0) := List.mem_of_getElem? (i := 1167) rfl
set_option maxRecDepth 100000 in
theorem zl12 : zlf (1, 64, 195, 11) := List.mem_of_getElem? (i := 1172) rfl
set_option maxRecDepth 100000 in
theorem zl13 : zlf (1, 68, 196, 11) := List.mem_of_getElem? (i := 686) rfl
set_option maxRecDepth 100000 in
theorem zl14 : zlf (1, 72, 59, 0) := List.mem_of_getElem? (i := 678) rfl
set_option maxRecDepth 100000 in
theorem zl15 : zlf (1, 75, 60, 0) := List.mem_of_getElem? (i := 682) rfl
set_option maxRecDepth 100000 in
theorem zl16 : zlf (1, 81, 14, 0) := List.mem_of_getElem? (i := 658) rfl
set_option maxRecDepth 100000 in
theorem zl17 : zlf (1, 85, 35, 0) := List.mem_of_getElem? (i := 666) rfl
set_option maxRecDepth 100000 in
theorem zl18 : zlf (1, 88, 13, 0) := List.mem_of_getElem? (i := 674) rfl
set_option maxRecDepth 100000 in
theorem zl19 : zlf (1, 100, 55, 0) := List.mem_of_getElem? (i := 734) rfl
set_option maxRecDepth 100000 in
theorem zl20 : zlf (2, 42, 22, 0) := List.mem_of_getElem? (i := 218) rfl
set_option maxRecDepth 100000 in
theorem zl21 : zlf (2, 51, 348, 1) := List.mem_of_getElem? (i := 222) rfl
set_option maxRecDepth 100000 in
theorem zl22 : zlf (2, 63, 26, 0) := List.mem_of_getElem? (i := 986) rfl
set_option maxRecDepth 100000 in
theorem zl23 : zlf (2, 67, 27, 1) := List.mem_of_getElem? (i := 488) rfl
set_option maxRecDepth 100000 in
theorem zl24 : zlf (2, 71, 34, 0) := List.mem_of_getElem? (i := 670) rfl
set_option maxRecDepth 100000 in
theorem zl25 : zlf (2, 75, 36, 0) := List.mem_of_getElem? (i := 1301) rfl
set_option maxRecDepth 100000 in
theorem zl26 : zlf (2, 79, 37, 0) := List.mem_of_getElem? (i := 1302) rfl
set_option maxRecDepth 100000 in
theorem zl27 : zlf (2, 82, 41, 0) := List.mem_of_getElem? (i := 1004) rfl
set_option maxRecDepth 100000 in
theorem zl28 : zlf (2, 85, 42, 0) := List.mem_of_getElem? (i := 1008) rfl
set_option maxRecDepth 100000 in
theorem zl29 : zlf (2, 88, 43, 0) := List.mem_of_getElem? (i := 1013) rfl
set_option maxRecDepth 100000 in
theorem zl30 : zlf (2, 91, 44, 0) := List.mem_of_getElem? (i := 1018) rfl
set_option maxRecDepth 100000 in
theorem zl31 : zlf (2, 94, 35, 0) := List.mem_of_getElem? (i := 1012) rfl
set_option maxRecDepth 100000 in
theorem zl32 : zlf (2, 98, 33, 0) := List.mem_of_getElem? (i := 1017) rfl
set_option maxRecDepth 100000 in
theorem zl33 : zlf (3, 11, 21, 2) := List.mem_of_getElem? (i := 277) rfl
set_option maxRecDepth 100000 in
theorem zl34 : zlf (3, 22, 22, 0) := List.mem_of_getElem? (i := 895) rfl
set_option maxRecDepth 100000 in
theorem zl35 : zlf (3, 33, 108, 0) := List.mem_of_getElem? (i := 896) rfl
set_option maxRecDepth 100000 in
theorem zl36 : zlf (3, 41, 47, 0) := List.mem_of_getElem? (i := 933) rfl
set_option maxRecDepth 100000 in
theorem zl37 : zlf (3, 45, 111, 0) := List.mem_of_getElem? (i := 996) rfl
set_option maxRecDepth 100000 in
theorem zl38 : zlf (3, 49, 40, 0) := List.mem_of_getElem? (i := 1000) rfl
set_option maxRecDepth 100000 in
theorem zl39 : zlf (3, 52, 110, 0) := List.mem_of_getElem? (i := 943) rfl
set_option maxRecDepth 100000 in
theorem zl40 : zlf (3, 64, 48, 0) := List.mem_of_getElem? (i := 939) rfl
set_option maxRecDepth 100000 in
theorem zl41 : zlf (3, 70, 49, 0) := List.mem_of_getElem? (i := 972) rfl
set_option maxRecDepth 100000 in
theorem zl42 : zlf (3, 76, 50, 0) := List.mem_of_getElem? (i := 992) rfl
set_option maxRecDepth 100000 in
theorem zl43 : zlf (3, 82, 109, 0) := List.mem_of_getElem? (i := 947) rfl
set_option maxRecDepth 100000 in
theorem zl44 : zlf (3, 85, 113, 0) := List.mem_of_getElem? (i := 948) rfl
set_option maxRecDepth 100000 in
theorem zl45 : zlf (3, 99, 112, 0) := List.mem_of_getElem? (i := 960) rfl
set_option maxRecDepth 100000 in
theorem zl46 : zlf (3, 106, 24, 0) := List.mem_of_getElem? (i := 966) rfl
set_option maxRecDepth 100000 in
theorem zl47 : zlf (3, 113, 114, 0) := List.mem_of_getElem? (i := 976) rfl
set_option maxRecDepth 100000 in
theorem zl48 : zlf (3, 116, 28, 0) := List.mem_of_getElem? (i := 980) rfl
set_option maxRecDepth 100000 in
theorem zl49 : zlf (3, 120, 34, 0) := List.mem_of_getElem? (i := 981) rfl
set_option maxRecDepth 100000 in
theorem zl50 : zlf (3, 124, 25, 0) := List.mem_of_getElem? (i := 982) rfl
set_option maxRecDepth 100000 in
theorem zl51 : zlf (4, 28, 32, 0) := List.mem_of_getElem? (i := 1027) rfl
set_option maxRecDepth 100000 in
theorem zl52 : zlf (4, 34, 62, 0) := List.mem_of_getElem? (i := 1031) rfl
set_option maxRecDepth 100000 in
theorem zl53 : zlf (4, 47, 54, 1) := List.mem_of_getElem? (i := 632) rfl
set_option maxRecDepth 100000 in
theorem zl54 : zlf (4, 51, 55, 0) := List.mem_of_getElem? (i := 499) rfl
set_option maxRecDepth 100000 in
theorem zl55 : zlf (4, 54, 64, 1) := List.mem_of_getElem? (i := 1156) rfl
set_option maxRecDepth 100000 in
theorem zl56 : zlf (4, 71, 66, 1) := List.mem_of_getElem? (i := 1507) rfl
set_option maxRecDepth 100000 in
theorem zl57 : zlf (5, 19, 71, 0) := List.mem_of_getElem? (i := 748) rfl
set_option maxRecDepth 100000 in
theorem zl58 : zlf (6, 48, 108, 0) := List.mem_of_getElem? (i := 1050) rfl
set_option maxRecDepth 100000 in
theorem zl59 : zlf (6, 56, 76, 0) := List.mem_of_getElem? (i := 1051) rfl
set_option maxRecDepth 100000 in
theorem zl60 : zlf (6, 60, 79, 0) := List.mem_of_getElem? (i := 1055) rfl
set_option maxRecDepth 100000 in
theorem zl61 : zlf (6, 67, 77, 1) := List.mem_of_getElem? (i := 1067) rfl
set_option maxRecDepth 100000 in
theorem zl62 : zlf (6, 71, 110, 0) := List.mem_of_getElem? (i := 1084) rfl
set_option maxRecDepth 100000 in
theorem zl63 : zlf (6, 78, 78, 0) := List.mem_of_getElem? (i := 1085) rfl
set_option maxRecDepth 100000 in
theorem zl64 : zlf (6, 81, 80, 0) := List.mem_of_getElem? (i := 1090) rfl
set_option maxRecDepth 100000 in
theorem zl65 : zlf (6, 84, 111, 0) := List.mem_of_getElem? (i := 1066) rfl
set_option maxRecDepth 100000 in
theorem zl66 : zlf (6, 105, 109, 0) := List.mem_of_getElem? (i := 1065) rfl
set_option maxRecDepth 100000 in
theorem zl67 : zlf (6, 111, 112, 0) := List.mem_of_getElem? (i := 1089) rfl
set_option maxRecDepth 100000 in
theorem zl68 : zlf (6, 114, 81, 0) := List.mem_of_getElem? (i := 1061) rfl
set_option maxRecDepth 100000 in
theorem zl69 : zlf (6, 121, 114, 0) := List.mem_of_getElem? (i := 1094) rfl
set_option maxRecDepth 100000 in
theorem zl70 : zlf (6, 128, 28, 0) := List.mem_of_getElem? (i := 1095) rfl
set_option maxRecDepth 100000 in
theorem zl71 : zlf (6, 134, 120, 5) := List.mem_of_getElem? (i := 1096) rfl
set_option maxRecDepth 100000 in
theorem zl72 : zlf (6, 137, 83, 0) := List.mem_of_getElem? (i := 1105) rfl
set_option maxRecDepth 100000 in
theorem zl73 : zlf (7, 21, 195, 11) := List.mem_of_getElem? (i := 547) rfl
set_option maxRecDepth 100000 in
theorem zl74 : zlf (7, 29, 196, 11) := List.mem_of_getElem? (i := 552) rfl
set_option maxRecDepth 100000 in
theorem zl75 : zlf (7, 35, 55, 0) := List.mem_of_getElem? (i := 525) rfl
set_option maxRecDepth 100000 in
theorem zl76 : zlf (7, 41, 90, 0) := List.mem_of_getElem? (i := 526) rfl
set_option maxRecDepth 100000 in
theorem zl77 : zlf (7, 45, 36, 0) := List.mem_of_getElem? (i := 530) rfl
set_option maxRecDepth 100000 in
theorem zl78 : zlf (7, 50, 39, 0) := List.mem_of_getElem? (i := 531) rfl
set_option maxRecDepth 100000 in
theorem zl79 : zlf (7, 53, 37, 0) := List.mem_of_getElem? (i := 535) rfl
set_option maxRecDepth 100000 in
theorem zl80 : zlf (7, 57, 91, 0) := List.mem_of_getElem? (i := 536) rfl
set_option maxRecDepth 100000 in
theorem zl81 : zlf (7, 60, 88, 1) := List.mem_of_getElem? (i := 543) rfl
set_option maxRecDepth 100000 in
theorem zl82 : zlf (7, 69, 30, 0) := List.mem_of_getElem? (i := 519) rfl
set_option maxRecDepth 100000 in
theorem zl83 : zlf (7, 76, 92, 0) := List.mem_of_getElem? (i := 515) rfl
set_option maxRecDepth 100000 in
theorem zl84 : zlf (7, 84, 31, 0) := List.mem_of_getElem? (i := 569) rfl
set_option maxRecDepth 100000 in
theorem zl85 : zlf (7, 88, 93, 0) := List.mem_of_getElem? (i := 570) rfl
set_option maxRecDepth 100000 in
theorem zl86 : zlf (7, 94, 95, 0) := List.mem_of_getElem? (i := 615) rfl
set_option maxRecDepth 100000 in
theorem zl87 : zlf (7, 106, 96, 0) := List.mem_of_getElem? (i := 611) rfl
set_option maxRecDepth 100000 in
theorem zl88 : zlf (7, 109, 56, 0) := List.mem_of_getElem? (i := 628) rfl
set_option maxRecDepth 100000 in
theorem zl89 : zlf (7, 113, 97, 0) := List.mem_of_getElem? (i := 1142) rfl
set_option maxRecDepth 100000 in
theorem zl90 : zlf (7, 117, 94, 0) := List.mem_of_getElem? (i := 1182) rfl
set_option maxRecDepth 100000 in
theorem zl91 : zlf (7, 121, 100, 0) := List.mem_of_getElem? (i := 1421) rfl
set_option maxRecDepth 100000 in
theorem zl92 : zlf (7, 125, 101, 0) := List.mem_of_getElem? (i := 1422) rfl
set_option maxRecDepth 100000 in
theorem zl93 : zlf (7, 128, 102, 0) := List.mem_of_getElem? (i := 1434) rfl
set_option maxRecDepth 100000 in
theorem zl94 : zlf (9, 34, 109, 0) := List.mem_of_getElem? (i := 900) rfl
set_option maxRecDepth 100000 in
theorem zl95 : zlf (9, 37, 115, 0) := List.mem_of_getElem? (i := 904) rfl
set_option maxRecDepth 100000 in
theorem zl96 : zlf (9, 44, 106, 0) := List.mem_of_getElem? (i := 908) rfl
set_option maxRecDepth 100000 in
theorem zl97 : zlf (9, 52, 118, 1) := List.mem_of_getElem? (i := 912) rfl
set_option maxRecDepth 100000 in
theorem zl98 : zlf (9, 56, 116, 0) := List.mem_of_getElem? (i := 915) rfl
set_option maxRecDepth 100000 in
theorem zl99 : zlf (9, 59, 119, 1) := List.mem_of_getElem? (i := 926) rfl
set_option maxRecDepth 100000 in
theorem zl100 : zlf (9, 62, 117, 0) := List.mem_of_getElem? (i := 929) rfl
set_option maxRecDepth 100000 in
theorem zl101 : zlf (9, 65, 110, 0) := List.mem_of_getElem? (i := 953) rfl
set_option maxRecDepth 100000 in
theorem zl102 : zlf (9, 84, 28, 0) := List.mem_of_getElem? (i := 954) rfl
set_option maxRecDepth 100000 in
theorem zl103 : zlf (9, 93, 121, 1) := List.mem_of_getElem? (i := 919) rfl
set_option maxRecDepth 100000 in
theorem zl104 : zlf (11, 9, 104, 12) := List.mem_of_getElem? (i := 152) rfl
set_option maxRecDepth 100000 in
theorem zl105 : zlf (11, 18, 107, 2) := List.mem_of_getElem? (i := 168) rfl
set_option maxRecDepth 100000 in
theorem zl106 : zlf (11, 27, 21, 2) := List.mem_of_getElem? (i := 214) rfl
set_option maxRecDepth 100000 in
theorem zl107 : zlf (11, 34, 45, 2) := List.mem_of_getElem? (i := 272) rfl
set_option maxRecDepth 100000 in
theorem zl108 : zlf (11, 43, 74, 2) := List.mem_of_getElem? (i := 295) rfl
set_option maxRecDepth 100000 in
theorem zl109 : zlf (11, 50, 51, 12) := List.mem_of_getElem? (i := 332) rfl
set_option maxRecDepth 100000 in
theorem zl110 : zlf (11, 57, 87, 2) := List.mem_of_getElem? (i := 358) rfl
set_option maxRecDepth 100000 in
theorem zl111 : zlf (11, 66, 6, 2) := List.mem_of_getElem? (i := 371) rfl
set_option maxRecDepth 100000 in
theorem zl112 : zlf (11, 73, 0, 2) := List.mem_of_getElem? (i := 384) rfl
set_option maxRecDepth 100000 in
theorem zl113 : zlf (11, 86, 69, 12) := List.mem_of_getElem? (i := 404) rfl
set_option maxRecDepth 100000 in
theorem zl114 : zlf (11, 106, 105, 0) := List.mem_of_getElem? (i := 856) rfl
set_option maxRecDepth 100000 in
theorem zl115 : zlf (11, 115, 46, 0) := List.mem_of_getElem? (i := 891) rfl
set_option maxRecDepth 100000 in
theorem zl116 : zlf (11, 124, 23, 0) := List.mem_of_getElem? (i := 775) rfl
set_option maxRecDepth 100000 in
theorem zl117 : zlf (11, 128, 52, 0) := List.mem_of_getElem? (i := 1023) rfl
set_option maxRecDepth 100000 in
theorem zl118 : zlf (11, 131, 5, 0) := List.mem_of_getElem? (i := 1035) rfl
set_option maxRecDepth 100000 in
theorem zl119 : zlf (11, 137, 75, 0) := List.mem_of_getElem? (i := 1046) rfl
set_option maxRecDepth 100000 in
theorem zl120 : zlf (11, 142, 2, 0) := List.mem_of_getElem? (i := 585) rfl
set_option maxRecDepth 100000 in
theorem zl121 : zlf (11, 146, 82, 0) := List.mem_of_getElem? (i := 1101) rfl
set_option maxRecDepth 100000 in
theorem zl122 : zlf (11, 150, 192, 0) := List.mem_of_getElem? (i := 1109) rfl
set_option maxRecDepth 100000 in
theorem zl123 : zlf (11, 154, 3, 0) := List.mem_of_getElem? (i := 600) rfl
set_option maxRecDepth 100000 in
theorem zl124 : zlf (11, 169, 185, 0) := List.mem_of_getElem? (i := 1190) rfl
set_option maxRecDepth 100000 in
theorem zl125 : zlf (11, 173, 186, 0) := List.mem_of_getElem? (i := 1194) rfl
set_option maxRecDepth 100000 in
theorem zl126 : zlf (11, 176, 187, 0) := List.mem_of_getElem? (i := 1199) rfl
set_option maxRecDepth 100000 in
theorem zl127 : zlf (11, 181, 179, 0) := List.mem_of_getElem? (i := 1212) rfl
set_option maxRecDepth 100000 in
theorem zl128 : zlf (11, 184, 39, 0) := List.mem_of_getElem? (i := 1198) rfl
set_option maxRecDepth 100000 in
theorem zl129 : zlf (11, 187, 30, 0) := List.mem_of_getElem? (i := 1239) rfl
set_option maxRecDepth 100000 in
theorem zl130 : zlf (11, 190, 36, 0) := List.mem_of_getElem? (i := 484) rfl
set_option maxRecDepth 100000 in
theorem zl131 : zlf (11, 193, 37, 0) := List.mem_of_getElem? (i := 491) rfl
set_option maxRecDepth 100000 in
theorem zl132 : zlf (11, 197, 180, 0) := List.mem_of_getElem? (i := 1261) rfl
set_option maxRecDepth 100000 in
theorem zl133 : zlf (11, 200, 181, 1) := List.mem_of_getElem? (i := 1266) rfl
set_option maxRecDepth 100000 in
theorem zl134 : zlf (11, 203, 33, 0) := List.mem_of_getElem? (i := 1270) rfl
set_option maxRecDepth 100000 in
theorem zl135 : zlf (11, 206, 34, 0) := List.mem_of_getElem? (i := 1278) rfl
set_option maxRecDepth 100000 in
theorem zl136 : zlf (11, 209, 189, 0) := List.mem_of_getElem? (i := 475) rfl
set_option maxRecDepth 100000 in
theorem zl137 : zlf (11, 213, 191, 0) := List.mem_of_getElem? (i := 471) rfl
set_option maxRecDepth 100000 in
theorem zl138 : zlf (11, 216, 188, 0) := List.mem_of_getElem? (i := 1293) rfl
set_option maxRecDepth 100000 in
theorem zl139 : zlf (11, 219, 38, 0) := List.mem_of_getElem? (i := 1297) rfl
set_option maxRecDepth 100000 in
theorem zl140 : zlf (11, 222, 57, 0) := List.mem_of_getElem? (i := 495) rfl
set_option maxRecDepth 100000 in
theorem zl141 : zlf (11, 226, 55, 0) := List.mem_of_getElem? (i := 641) rfl
set_option maxRecDepth 100000 in
theorem zl142 : zlf (11, 229, 88, 1) := List.mem_of_getElem? (i := 1331) rfl
set_option maxRecDepth 100000 in
theorem zl143 : zlf (11, 233, 89, 0) := List.mem_of_getElem? (i := 576) rfl
set_option maxRecDepth 100000 in
theorem zl144 : zlf (11, 237, 31, 0) := List.mem_of_getElem? (i := 507) rfl
set_option maxRecDepth 100000 in
theorem zl145 : zlf (11, 242, 93, 0) := List.mem_of_getElem? (i := 511) rfl
set_option maxRecDepth 100000 in
theorem zl146 : zlf (11, 253, 94, 0) := List.mem_of_getElem? (i := 565) rfl
set_option maxRecDepth 100000 in
theorem zl147 : zlf (11, 262, 56, 0) := List.mem_of_getElem? (i := 1137) rfl
set_option maxRecDepth 100000 in
theorem zl148 : zlf (11, 266, 95, 0) := List.mem_of_getElem? (i := 639) rfl
set_option maxRecDepth 100000 in
theorem zl149 : zlf (11, 271, 96, 0) := List.mem_of_getElem? (i := 640) rfl
set_option maxRecDepth 100000 in
theorem zl150 : zlf (11, 274, 97, 0) := List.mem_of_getElem? (i := 607) rfl
set_option maxRecDepth 100000 in
theorem zl151 : zlf (11, 279, 182, 1) := List.mem_of_getElem? (i := 1386) rfl
set_option maxRecDepth 100000 in
theorem zl152 : zlf (11, 282, 100, 0) := List.mem_of_getElem? (i := 1390) rfl
set_option maxRecDepth 100000 in
theorem zl153 : zlf (11, 285, 101, 0) := List.mem_of_getElem? (i := 1401) rfl
set_option maxRecDepth 100000 in
theorem zl154 : zlf (11, 288, 183, 1) := List.mem_of_getElem? (i := 1412) rfl
set_option maxRecDepth 100000 in
theorem zl155 : zlf (11, 291, 102, 0) := List.mem_of_getElem? (i := 1417) rfl
set_option maxRecDepth 100000 in
theorem zl156 : zlf (11, 295, 103, 0) := List.mem_of_getElem? (i := 1430) rfl
set_option maxRecDepth 100000 in
theorem zl157 : zlf (11, 299, 7, 0) := List.mem_of_getElem? (i := 1147) rfl
set_option maxRecDepth 100000 in
theorem zl158 : zlf (11, 305, 58, 0) := List.mem_of_getElem? (i := 729) rfl
set_option maxRecDepth 100000 in
theorem zl159 : zlf (11, 308, 184, 0) := List.mem_of_getElem? (i := 1456) rfl
set_option maxRecDepth 100000 in
theorem zl160 : zlf (11, 311, 59, 0) := List.mem_of_getElem? (i := 760) rfl
set_option maxRecDepth 100000 in
theorem zl161 : zlf (11, 314, 60, 0) := List.mem_of_getElem? (i := 761) rfl
set_option maxRecDepth 100000 in
theorem zl162 : zlf (11, 317, 61, 0) := List.mem_of_getElem? (i := 646) rfl
set_option maxRecDepth 100000 in
theorem zl163 : zlf (11, 320, 13, 0) := List.mem_of_getElem? (i := 691) rfl
set_option maxRecDepth 100000 in
theorem zl164 : zlf (11, 323, 15, 0) := List.mem_of_getElem? (i := 654) rfl
set_option maxRecDepth 100000 in
theorem zl165 : zlf (11, 330, 16, 0) := List.mem_of_getElem? (i := 1482) rfl
set_option maxRecDepth 100000 in
theorem zl166 : zlf (11, 333, 12, 0) := List.mem_of_getElem? (i := 701) rfl
set_option maxRecDepth 100000 in
theorem zl167 : zlf (11, 338, 17, 0) := List.mem_of_getElem? (i := 713) rfl
set_option maxRecDepth 100000 in
theorem zl168 : zlf (11, 344, 65, 0) := List.mem_of_getElem? (i := 1503) rfl
set_option maxRecDepth 100000 in
theorem zl169 : zlf (11, 349, 67, 0) := List.mem_of_getElem? (i := 1513) rfl
set_option maxRecDepth 100000 in
theorem zl170 : zlf (11, 352, 68, 0) := List.mem_of_getElem? (i := 721) rfl
set_option maxRecDepth 100000 in
theorem zl171 : zlf (11, 359, 18, 0) := List.mem_of_getElem? (i := 1526) rfl
set_option maxRecDepth 100000 in
theorem zl172 : zlf (11, 363, 19, 0) := List.mem_of_getElem? (i := 730) rfl
set_option maxRecDepth 100000 in
theorem zl173 : zlf (11, 366, 35, 0) := List.mem_of_getElem? (i := 1541) rfl
set_option maxRecDepth 100000 in
theorem zl174 : zlf (11, 371, 20, 0) := List.mem_of_getElem? (i := 1543) rfl
set_option maxRecDepth 100000 in
theorem zl175 : zlf (11, 376, 29, 0) := List.mem_of_getElem? (i := 740) rfl
set_option maxRecDepth 100000 in
theorem zl176 : zlf (11, 379, 72, 0) := List.mem_of_getElem? (i := 744) rfl
set_option maxRecDepth 100000 in
theorem zl177 : zlf (11, 383, 71, 0) := List.mem_of_getElem? (i := 752) rfl
set_option maxRecDepth 100000 in
theorem zl178 : zlf (11, 386, 73, 0) := List.mem_of_getElem? (i := 753) rfl
set_option maxRecDepth 100000 in
theorem zl179 : zlf (11, 394, 70, 0) := List.mem_of_getElem? (i := 1555) rfl
set_option maxRecDepth 100000 in
theorem zl180 : zlf (11, 400, 4, 0) := List.mem_of_getElem? (i := 766) rfl
set_option maxRecDepth 100000 in
theorem zl181 : zlf (11, 403, 53, 0) := List.mem_of_getElem? (i := 780) rfl
set_option maxRecDepth 100000 in
theorem zl182 : zlf (11, 422, 190, 0) := List.mem_of_getElem? (i := 480) rfl
set_option maxRecDepth 100000 in
theorem zl183 : zlf (11, 426, 85, 0) := List.mem_of_getElem? (i := 1113) rfl
set_option maxRecDepth 100000 in
theorem zl184 : zlf (11, 429, 86, 0) := List.mem_of_getElem? (i := 1117) rfl
set_option maxRecDepth 100000 in
theorem zl185 : zlf (11, 438, 84, 0) := List.mem_of_getElem? (i := 1123) rfl
set_option maxRecDepth 100000 in
theorem zl186 : zlf (11, 447, 193, 0) := List.mem_of_getElem? (i := 1133) rfl
set_option maxRecDepth 100000 in
theorem zl187 : zlf (11, 450, 98, 0) := List.mem_of_getElem? (i := 1138) rfl
set_option maxRecDepth 100000 in
theorem zl188 : zlf (11, 453, 194, 0) := List.mem_of_getElem? (i := 1143) rfl
set_option maxRecDepth 100000 in
theorem zl189 : zlf (11, 458, 99, 0) := List.mem_of_getElem? (i := 1178) rfl
set_option maxRecDepth 100000 in
theorem zl190 : zlf (12, 84, 220, 0) := List.mem_of_getElem? (i := 1573) rfl
set_option maxRecDepth 100000 in
theorem zl191 : zlf (12, 90, 200, 1) := List.mem_of_getElem? (i := 1728) rfl
set_option maxRecDepth 100000 in
theorem zl192 : zlf (12, 97, 202, 0) := List.mem_of_getElem? (i := 1724) rfl
set_option maxRecDepth 100000 in
theorem zl193 : zlf (12, 101, 204, 0) := List.mem_of_getElem? (i := 1731) rfl
set_option maxRecDepth 100000 in
theorem zl194 : zlf (12, 105, 199, 1) := List.mem_of_getElem? (i := 1739) rfl
set_option maxRecDepth 100000 in
theorem zl195 : zlf (12, 115, 206, 0) := List.mem_of_getElem? (i := 1754) rfl
set_option maxRecDepth 100000 in
theorem zl196 : zlf (12, 132, 207, 1) := List.mem_of_getElem? (i := 1758) rfl
set_option maxRecDepth 100000 in
theorem zl197 : zlf (12, 136, 208, 1) := List.mem_of_getElem? (i := 1761) rfl
set_option maxRecDepth 100000 in
theorem zl198 : zlf (12, 142, 212, 0) := List.mem_of_getElem? (i := 1773) rfl
set_option maxRecDepth 100000 in
theorem zl199 : zlf (12, 146, 209, 0) := List.mem_of_getElem? (i := 1750) rfl
set_option maxRecDepth 100000 in
theorem zl200 : zlf (12, 149, 211, 0) := List.mem_of_getElem? (i := 1764) rfl
set_option maxRecDepth 100000 in
theorem zl201 : zlf (12, 153, 214, 0) := List.mem_of_getElem? (i := 1829) rfl
set_option maxRecDepth 100000 in
theorem zl202 : zlf (12, 156, 210, 0) := List.mem_of_getElem? (i := 1781) rfl
set_option maxRecDepth 100000 in
theorem zl203 : zlf (12, 186, 219, 0) := List.mem_of_getElem? (i := 1785) rfl
set_option maxRecDepth 100000 in
theorem zl204 : zlf (12, 189, 222, 0) := List.mem_of_getElem? (i := 1800) rfl
set_option maxRecDepth 100000 in
theorem zl205 : zlf (12, 193, 213, 0) := List.mem_of_getElem? (i := 1804) rfl
set_option maxRecDepth 100000 in
theorem zl206 : zlf (12, 197, 218, 0) := List.mem_of_getElem? (i := 1809) rfl
set_option maxRecDepth 100000 in
theorem zl207 : zlf (12, 201, 225, 0) := List.mem_of_getElem? (i := 1817) rfl
set_option maxRecDepth 100000 in
theorem zl208 : zlf (12, 204, 224, 0) := List.mem_of_getElem? (i := 1821) rfl
set_option maxRecDepth 100000 in
theorem zl209 : zlf (12, 208, 223, 0) := List.mem_of_getElem? (i := 1777) rfl
set_option maxRecDepth 100000 in
theorem zl210 : zlf (12, 211, 226, 0) := List.mem_of_getElem? (i := 1813) rfl
set_option maxRecDepth 100000 in
theorem zl211 : zlf (12, 221, 215, 0) := List.mem_of_getElem? (i := 1825) rfl
set_option maxRecDepth 100000 in
theorem zl212 : zlf (12, 224, 228, 0) := List.mem_of_getElem? (i := 1845) rfl
set_option maxRecDepth 100000 in
theorem zl213 : zlf (12, 228, 230, 0) := List.mem_of_getElem? (i := 1841) rfl
set_option maxRecDepth 100000 in
theorem zl214 : zlf (12, 232, 229, 0) := List.mem_of_getElem? (i := 1849) rfl
set_option maxRecDepth 100000 in
theorem zl215 : zlf (12, 235, 232, 0) := List.mem_of_getElem? (i := 1837) rfl
set_option maxRecDepth 100000 in
theorem zl216 : zlf (12, 238, 231, 0) := List.mem_of_getElem? (i := 1853) rfl
set_option maxRecDepth 100000 in
theorem zl217 : zlf (12, 241, 216, 0) := List.mem_of_getElem? (i := 1746) rfl
set_option maxRecDepth 100000 in
theorem zl218 : zlf (12, 247, 227, 0) := List.mem_of_getElem? (i := 1768) rfl
set_option maxRecDepth 100000 in
theorem zl219 : zlf (12, 250, 233, 0) := List.mem_of_getElem? (i := 1833) rfl
set_option maxRecDepth 100000 in
theorem zl220 : zlf (12, 253, 217, 0) := List.mem_of_getElem? (i := 1857) rfl
set_option maxRecDepth 100000 in
theorem zl221 : zlf (12, 256, 221, 0) := List.mem_of_getElem? (i := 1861) rfl
set_option maxRecDepth 100000 in
theorem zl222 : zlf (12, 265, 239, 0) := List.mem_of_getElem? (i := 1878) rfl
set_option maxRecDepth 100000 in
theorem zl223 : zlf (12, 268, 240, 0) := List.mem_of_getElem? (i := 1882) rfl
set_option maxRecDepth 100000 in
theorem zl224 : zlf (12, 271, 237, 0) := List.mem_of_getElem? (i := 1890) rfl
set_option maxRecDepth 100000 in
theorem zl225 : zlf (12, 274, 238, 0) := List.mem_of_getElem? (i := 1910) rfl
set_option maxRecDepth 100000 in
theorem zl226 : zlf (12, 279, 246, 0) := List.mem_of_getElem? (i := 1915) rfl
set_option maxRecDepth 100000 in
theorem zl227 : zlf (12, 282, 249, 0) := List.mem_of_getElem? (i := 1927) rfl
set_option maxRecDepth 100000 in
theorem zl228 : zlf (12, 285, 252, 0) := List.mem_of_getElem? (i := 1943) rfl
set_option maxRecDepth 100000 in
theorem zl229 : zlf (12, 288, 253, 0) := List.mem_of_getElem? (i := 1939) rfl
set_option maxRecDepth 100000 in
theorem zl230 : zlf (12, 299, 257, 1) := List.mem_of_getElem? (i := 1973) rfl
set_option maxRecDepth 100000 in
theorem zl231 : zlf (12, 305, 260, 0) := List.mem_of_getElem? (i := 1964) rfl
set_option maxRecDepth 100000 in
theorem zl232 : zlf (12, 309, 258, 1) := List.mem_of_getElem? (i := 1968) rfl
set_option maxRecDepth 100000 in
theorem zl233 : zlf (12, 313, 262, 1) := List.mem_of_getElem? (i := 1990) rfl
set_option maxRecDepth 100000 in
theorem zl234 : zlf (12, 316, 263, 0) := List.mem_of_getElem? (i := 1986) rfl
set_option maxRecDepth 100000 in
theorem zl235 : zlf (12, 320, 264, 0) := List.mem_of_getElem? (i := 1982) rfl
set_option maxRecDepth 100000 in
theorem zl236 : zlf (12, 328, 266, 0) := List.mem_of_getElem? (i := 2001) rfl
set_option maxRecDepth 100000 in
theorem zl237 : zlf (12, 331, 267, 0) := List.mem_of_getElem? (i := 1997) rfl
set_option maxRecDepth 100000 in
theorem zl238 : zlf (12, 334, 201, 1) := List.mem_of_getElem? (i := 2011) rfl
set_option maxRecDepth 100000 in
theorem zl239 : zlf (12, 337, 270, 0) := List.mem_of_getElem? (i := 2018) rfl
set_option maxRecDepth 100000 in
theorem zl240 : zlf (12, 343, 274, 0) := List.mem_of_getElem? (i := 2040) rfl
set_option maxRecDepth 100000 in
theorem zl241 : zlf (12, 349, 273, 0) := List.mem_of_getElem? (i := 2036) rfl
set_option maxRecDepth 100000 in
theorem zl242 : zlf (12, 353, 277, 0) := List.mem_of_getElem? (i := 2048) rfl
set_option maxRecDepth 100000 in
theorem zl243 : zlf (12, 356, 278, 0) := List.mem_of_getElem? (i := 2052) rfl
set_option maxRecDepth 100000 in
theorem zl244 : zlf (12, 359, 281, 0) := List.mem_of_getElem? (i := 2065) rfl
set_option maxRecDepth 100000 in
theorem zl245 : zlf (12, 366, 285, 0) := List.mem_of_getElem? (i := 2082) rfl
set_option maxRecDepth 100000 in
theorem zl246 : zlf (12, 370, 286, 0) := List.mem_of_getElem? (i := 2087) rfl
set_option maxRecDepth 100000 in
theorem zl247 : zlf (12, 373, 287, 0) := List.mem_of_getElem? (i := 2095) rfl
set_option maxRecDepth 100000 in
theorem zl248 : zlf (12, 376, 290, 0) := List.mem_of_getElem? (i := 2103) rfl
set_option maxRecDepth 100000 in
theorem zl249 : zlf (12, 379, 292, 0) := List.mem_of_getElem? (i := 2111) rfl
set_option maxRecDepth 100000 in
theorem zl250 : zlf (12, 382, 296, 1) := List.mem_of_getElem? (i := 2127) rfl
set_option maxRecDepth 100000 in
theorem zl251 : zlf (12, 392, 295, 0) := List.mem_of_getElem? (i := 2123) rfl
set_option maxRecDepth 100000 in
theorem zl252 : zlf (12, 395, 294, 0) := List.mem_of_getElem? (i := 2142) rfl
set_option maxRecDepth 100000 in
theorem zl253 : zlf (12, 398, 300, 0) := List.mem_of_getElem? (i := 2119) rfl
set_option maxRecDepth 100000 in
theorem zl254 : zlf (12, 401, 297, 0) := List.mem_of_getElem? (i := 2134) rfl
set_option maxRecDepth 100000 in
theorem zl255 : zlf (12, 404, 298, 0) := List.mem_of_getElem? (i := 2138) rfl
set_option maxRecDepth 100000 in
theorem zl256 : zlf (12, 411, 301, 0) := List.mem_of_getElem? (i := 2151) rfl
set_option maxRecDepth 100000 in
theorem zl257 : zlf (12, 414, 303, 0) := List.mem_of_getElem? (i := 2160) rfl
set_option maxRecDepth 100000 in
theorem zl258 : zlf (12, 419, 305, 0) := List.mem_of_getElem? (i := 2169) rfl
set_option maxRecDepth 100000 in
theorem zl259 : zlf (12, 422, 307, 0) := List.mem_of_getElem? (i := 2177) rfl
set_option maxRecDepth 100000 in
theorem zl260 : zlf (12, 425, 311, 0) := List.mem_of_getElem? (i := 2193) rfl
set_option maxRecDepth 100000 in
theorem zl261 : zlf (12, 428, 315, 0) := List.mem_of_getElem? (i := 2209) rfl
set_option maxRecDepth 100000 in
theorem zl262 : zlf (12, 437, 317, 0) := List.mem_of_getElem? (i := 2217) rfl
set_option maxRecDepth 100000 in
theorem zl263 : zlf (12, 440, 321, 0) := List.mem_of_getElem? (i := 2233) rfl
set_option maxRecDepth 100000 in
theorem zl264 : zlf (12, 443, 322, 0) := List.mem_of_getElem? (i := 2237) rfl
set_option maxRecDepth 100000 in
theorem zl265 : zlf (12, 449, 326, 0) := List.mem_of_getElem? (i := 2253) rfl
set_option maxRecDepth 100000 in
theorem zl266 : zlf (12, 458, 327, 0) := List.mem_of_getElem? (i := 2257) rfl
set_option maxRecDepth 100000 in
theorem zl267 : zlf (12, 462, 325, 0) := List.mem_of_getElem? (i := 2262) rfl
set_option maxRecDepth 100000 in
theorem zl268 : zlf (12, 467, 330, 0) := List.mem_of_getElem? (i := 2279) rfl
set_option maxRecDepth 100000 in
theorem zl269 : zlf (12, 470, 328, 0) := List.mem_of_getElem? (i := 2249) rfl
set_option maxRecDepth 100000 in
theorem zl270 : zlf (12, 473, 329, 0) := List.mem_of_getElem? (i := 2267) rfl
set_option maxRecDepth 100000 in
theorem zl271 : zlf (12, 476, 333, 0) := List.mem_of_getElem? (i := 2271) rfl
set_option maxRecDepth 100000 in
theorem zl272 : zlf (12, 479, 331, 0) := List.mem_of_getElem? (i := 2275) rfl
set_option maxRecDepth 100000 in
theorem zl273 : zlf (12, 487, 334, 0) := List.mem_of_getElem? (i := 2292) rfl
set_option maxRecDepth 100000 in
theorem zl274 : zlf (12, 490, 335, 0) := List.mem_of_getElem? (i := 2287) rfl
set_option maxRecDepth 100000 in
theorem zl275 : zlf (12, 494, 336, 0) := List.mem_of_getElem? (i := 2296) rfl
set_option maxRecDepth 100000 in
theorem zl276 : zlf (16, 7, 123, 0) := List.mem_of_getElem? (i := 785) rfl
set_option maxRecDepth 100000 in
theorem zl277 : zlf (16, 15, 124, 0) := List.mem_of_getElem? (i := 864) rfl
set_option maxRecDepth 100000 in
theorem zl278 : zlf (16, 21, 125, 0) := List.mem_of_getElem? (i := 887) rfl
set_option maxRecDepth 100000 in
theorem zl279 : zlf (16, 25, 126, 0) := List.mem_of_getElem? (i := 1042) rfl
set_option maxRecDepth 100000 in
theorem zl280 : zlf (16, 28, 129, 0) := List.mem_of_getElem? (i := 1186) rfl
set_option maxRecDepth 100000 in
theorem zl281 : zlf (16, 31, 130, 0) := List.mem_of_getElem? (i := 1208) rfl
set_option maxRecDepth 100000 in
theorem zl282 : zlf (16, 36, 131, 0) := List.mem_of_getElem? (i := 1235) rfl
set_option maxRecDepth 100000 in
theorem zl283 : zlf (16, 39, 132, 0) := List.mem_of_getElem? (i := 1243) rfl
set_option maxRecDepth 100000 in
theorem zl284 : zlf (16, 42, 133, 0) := List.mem_of_getElem? (i := 1250) rfl
set_option maxRecDepth 100000 in
theorem zl285 : zlf (16, 46, 134, 0) := List.mem_of_getElem? (i := 1257) rfl
set_option maxRecDepth 100000 in
theorem zl286 : zlf (16, 49, 135, 0) := List.mem_of_getElem? (i := 1274) rfl
set_option maxRecDepth 100000 in
theorem zl287 : zlf (16, 52, 136, 0) := List.mem_of_getElem? (i := 1282) rfl
set_option maxRecDepth 100000 in
theorem zl288 : zlf (16, 55, 138, 0) := List.mem_of_getElem? (i := 1289) rfl
set_option maxRecDepth 100000 in
theorem zl289 : zlf (16, 58, 139, 0) := List.mem_of_getElem? (i := 1306) rfl
set_option maxRecDepth 100000 in
theorem zl290 : zlf (16, 62, 140, 0) := List.mem_of_getElem? (i := 1313) rfl
set_option maxRecDepth 100000 in
theorem zl291 : zlf (16, 66, 141, 0) := List.mem_of_getElem? (i := 1320) rfl
set_option maxRecDepth 100000 in
theorem zl292 : zlf (16, 69, 142, 0) := List.mem_of_getElem? (i := 1327) rfl
set_option maxRecDepth 100000 in
theorem zl293 : zlf (16, 72, 143, 0) := List.mem_of_getElem? (i := 1335) rfl
set_option maxRecDepth 100000 in
theorem zl294 : zlf (16, 75, 144, 0) := List.mem_of_getElem? (i := 1342) rfl
set_option maxRecDepth 100000 in
theorem zl295 : zlf (16, 78, 148, 0) := List.mem_of_getElem? (i := 1350) rfl
set_option maxRecDepth 100000 in
theorem zl296 : zlf (16, 81, 149, 0) := List.mem_of_getElem? (i := 1359) rfl
set_option maxRecDepth 100000 in
theorem zl297 : zlf (16, 84, 150, 0) := List.mem_of_getElem? (i := 1367) rfl
set_option maxRecDepth 100000 in
theorem zl298 : zlf (16, 87, 152, 0) := List.mem_of_getElem? (i := 1374) rfl
set_option maxRecDepth 100000 in
theorem zl299 : zlf (16, 90, 154, 0) := List.mem_of_getElem? (i := 1382) rfl
set_option maxRecDepth 100000 in
theorem zl300 : zlf (16, 93, 155, 0) := List.mem_of_getElem? (i := 1397) rfl
set_option maxRecDepth 100000 in
theorem zl301 : zlf (16, 96, 156, 0) := List.mem_of_getElem? (i := 1408) rfl
set_option maxRecDepth 100000 in
theorem zl302 : zlf (16, 100, 157, 0) := List.mem_of_getElem? (i := 1426) rfl
set_option maxRecDepth 100000 in
theorem zl303 : zlf (16, 103, 158, 0) := List.mem_of_getElem? (i := 1438) rfl
set_option maxRecDepth 100000 in
theorem zl304 : zlf (16, 106, 159, 0) := List.mem_of_getElem? (i := 1445) rfl
set_option maxRecDepth 100000 in
theorem zl305 : zlf (16, 110, 160, 0) := List.mem_of_getElem? (i := 1452) rfl
set_option maxRecDepth 100000 in
theorem zl306 : zlf (16, 113, 161, 0) := List.mem_of_getElem? (i := 1464) rfl
set_option maxRecDepth 100000 in
theorem zl307 : zlf (16, 116, 163, 0) := List.mem_of_getElem? (i := 1471) rfl
set_option maxRecDepth 100000 in
theorem zl308 : zlf (16, 119, 166, 0) := List.mem_of_getElem? (i := 1478) rfl
set_option maxRecDepth 100000 in
theorem zl309 : zlf (16, 122, 167, 0) := List.mem_of_getElem? (i := 1489) rfl
set_option maxRecDepth 100000 in
theorem zl310 : zlf (16, 125, 169, 0) := List.mem_of_getElem? (i := 1497) rfl
set_option maxRecDepth 100000 in
theorem zl311 : zlf (16, 128, 171, 0) := List.mem_of_getElem? (i := 1520) rfl
set_option maxRecDepth 100000 in
theorem zl312 : zlf (16, 131, 173, 0) := List.mem_of_getElem? (i := 1537) rfl
set_option maxRecDepth 100000 in
theorem zl313 : zlf (16, 135, 175, 0) := List.mem_of_getElem? (i := 1550) rfl
set_option maxRecDepth 100000 in
theorem zl314 : zlf (16, 138, 178, 0) := List.mem_of_getElem? (i := 1562) rfl
set_option maxRecDepth 100000 in
theorem zl315 : zlf (16, 141, 122, 2) := List.mem_of_getElem? (i := 144) rfl
set_option maxRecDepth 100000 in
theorem zl316 : zlf (16, 144, 197, 2) := List.mem_of_getElem? (i := 1569) rfl
set_option maxRecDepth 100000 in
theorem zl317 : zlf (16, 145, 349, 1) := List.mem_of_getElem? (i := 781) rfl
set_option maxRecDepth 100000 in
theorem zl318 : zlf (16, 150, 203, 0) := List.mem_of_getElem? (i := 1720) rfl
set_option maxRecDepth 100000 in
theorem zl319 : zlf (16, 151, 198, 0) := List.mem_of_getElem? (i := 1716) rfl
set_option maxRecDepth 100000 in
theorem zl320 : zlf (16, 154, 350, 1) := List.mem_of_getElem? (i := 860) rfl
set_option maxRecDepth 100000 in
theorem zl321 : zlf (16, 157, 205, 0) := List.mem_of_getElem? (i := 1735) rfl
set_option maxRecDepth 100000 in
theorem zl322 : zlf (16, 158, 351, 1) := List.mem_of_getElem? (i := 884) rfl
set_option maxRecDepth 100000 in
theorem zl323 : zlf (16, 161, 234, 0) := List.mem_of_getElem? (i := 1742) rfl
set_option maxRecDepth 100000 in
theorem zl324 : zlf (16, 162, 352, 1) := List.mem_of_getElem? (i := 1039) rfl
set_option maxRecDepth 100000 in
theorem zl325 : zlf (16, 164, 332, 0) := List.mem_of_getElem? (i := 2245) rfl
set_option maxRecDepth 100000 in
theorem zl326 : zlf (16, 165, 127, 0) := List.mem_of_getElem? (i := 459) rfl
set_option maxRecDepth 100000 in
theorem zl327 : zlf (16, 168, 235, 0) := List.mem_of_getElem? (i := 1865) rfl
set_option maxRecDepth 100000 in
theorem zl328 : zlf (16, 169, 128, 0) := List.mem_of_getElem? (i := 463) rfl
set_option maxRecDepth 100000 in
theorem zl329 : zlf (16, 172, 236, 0) := List.mem_of_getElem? (i := 1869) rfl
set_option maxRecDepth 100000 in
theorem zl330 : zlf (16, 173, 353, 1) := List.mem_of_getElem? (i := 1183) rfl
set_option maxRecDepth 100000 in
theorem zl331 : zlf (16, 175, 241, 0) := List.mem_of_getElem? (i := 1873) rfl
set_option maxRecDepth 100000 in
theorem zl332 : zlf (16, 176, 354, 1) := List.mem_of_getElem? (i := 1204) rfl
set_option maxRecDepth 100000 in
theorem zl333 : zlf (16, 178, 242, 0) := List.mem_of_getElem? (i := 1886) rfl
set_option maxRecDepth 100000 in
theorem zl334 : zlf (16, 179, 355, 1) := List.mem_of_getElem? (i := 1232) rfl
set_option maxRecDepth 100000 in
theorem zl335 : zlf (16, 181, 243, 0) := List.mem_of_getElem? (i := 1894) rfl
set_option maxRecDepth 100000 in
theorem zl336 : zlf (16, 182, 356, 1) := List.mem_of_getElem? (i := 1240) rfl
set_option maxRecDepth 100000 in
theorem zl337 : zlf (16, 184, 244, 0) := List.mem_of_getElem? (i := 1898) rfl
set_option maxRecDepth 100000 in
theorem zl338 : zlf (16, 185, 357, 1) := List.mem_of_getElem? (i := 1247) rfl
set_option maxRecDepth 100000 in
theorem zl339 : zlf (16, 188, 245, 0) := List.mem_of_getElem? (i := 1902) rfl
set_option maxRecDepth 100000 in
theorem zl340 : zlf (16, 189, 358, 1) := List.mem_of_getElem? (i := 1254) rfl
set_option maxRecDepth 100000 in
theorem zl341 : zlf (16, 191, 247, 0) := List.mem_of_getElem? (i := 1906) rfl
set_option maxRecDepth 100000 in
theorem zl342 : zlf (16, 192, 359, 1) := List.mem_of_getElem? (i := 1271) rfl
set_option maxRecDepth 100000 in
theorem zl343 : zlf (16, 194, 248, 0) := List.mem_of_getElem? (i := 1919) rfl
set_option maxRecDepth 100000 in
theorem zl344 : zlf (16, 195, 360, 1) := List.mem_of_getElem? (i := 1279) rfl
set_option maxRecDepth 100000 in
theorem zl345 : zlf (16, 197, 250, 0) := List.mem_of_getElem? (i := 1923) rfl
set_option maxRecDepth 100000 in
theorem zl346 : zlf (16, 198, 137, 0) := List.mem_of_getElem? (i := 467) rfl
set_option maxRecDepth 100000 in
theorem zl347 : zlf (16, 201, 251, 0) := List.mem_of_getElem? (i := 1931) rfl
set_option maxRecDepth 100000 in
theorem zl348 : zlf (16, 202, 361, 1) := List.mem_of_getElem? (i := 1286) rfl
set_option maxRecDepth 100000 in
theorem zl349 : zlf (16, 204, 254, 0) := List.mem_of_getElem? (i := 1935) rfl
set_option maxRecDepth 100000 in
theorem zl350 : zlf (16, 205, 362, 1) := List.mem_of_getElem? (i := 1303) rfl
set_option maxRecDepth 100000 in
theorem zl351 : zlf (16, 207, 255, 0) := List.mem_of_getElem? (i := 1947) rfl
set_option maxRecDepth 100000 in
theorem zl352 : zlf (16, 208, 363, 1) := List.mem_of_getElem? (i := 1310) rfl
set_option maxRecDepth 100000 in
theorem zl353 : zlf (16, 210, 256, 0) := List.mem_of_getElem? (i := 1951) rfl
set_option maxRecDepth 100000 in
theorem zl354 : zlf (16, 211, 364, 1) := List.mem_of_getElem? (i := 1317) rfl
set_option maxRecDepth 100000 in
theorem zl355 : zlf (16, 213, 259, 0) := List.mem_of_getElem? (i := 1956) rfl
set_option maxRecDepth 100000 in
theorem zl356 : zlf (16, 214, 365, 1) := List.mem_of_getElem? (i := 1324) rfl
set_option maxRecDepth 100000 in
theorem zl357 : zlf (16, 216, 261, 0) := List.mem_of_getElem? (i := 1960) rfl
set_option maxRecDepth 100000 in
theorem zl358 : zlf (16, 217, 366, 1) := List.mem_of_getElem? (i := 1332) rfl
set_option maxRecDepth 100000 in
theorem zl359 : zlf (16, 219, 265, 0) := List.mem_of_getElem? (i := 1978) rfl
set_option maxRecDepth 100000 in
theorem zl360 : zlf (16, 220, 367, 1) := List.mem_of_getElem? (i := 1339) rfl
set_option maxRecDepth 100000 in
theorem zl361 : zlf (16, 222, 268, 0) := List.mem_of_getElem? (i := 1993) rfl
set_option maxRecDepth 100000 in
theorem zl362 : zlf (16, 223, 145, 0) := List.mem_of_getElem? (i := 503) rfl
set_option maxRecDepth 100000 in
theorem zl363 : zlf (16, 226, 269, 0) := List.mem_of_getElem? (i := 2007) rfl
set_option maxRecDepth 100000 in
theorem zl364 : zlf (16, 227, 146, 0) := List.mem_of_getElem? (i := 561) rfl
set_option maxRecDepth 100000 in
theorem zl365 : zlf (16, 231, 271, 0) := List.mem_of_getElem? (i := 2014) rfl
set_option maxRecDepth 100000 in
theorem zl366 : zlf (16, 232, 147, 0) := List.mem_of_getElem? (i := 572) rfl
set_option maxRecDepth 100000 in
theorem zl367 : zlf (16, 235, 272, 0) := List.mem_of_getElem? (i := 2022) rfl
set_option maxRecDepth 100000 in
theorem zl368 : zlf (16, 236, 368, 1) := List.mem_of_getElem? (i := 1347) rfl
set_option maxRecDepth 100000 in
theorem zl369 : zlf (16, 238, 276, 0) := List.mem_of_getElem? (i := 2031) rfl
set_option maxRecDepth 100000 in
theorem zl370 : zlf (16, 239, 369, 1) := List.mem_of_getElem? (i := 1356) rfl
set_option maxRecDepth 100000 in
theorem zl371 : zlf (16, 241, 279, 0) := List.mem_of_getElem? (i := 2044) rfl
set_option maxRecDepth 100000 in
theorem zl372 : zlf (16, 242, 370, 1) := List.mem_of_getElem? (i := 1364) rfl
set_option maxRecDepth 100000 in
theorem zl373 : zlf (16, 244, 280, 0) := List.mem_of_getElem? (i := 2057) rfl
set_option maxRecDepth 100000 in
theorem zl374 : zlf (16, 245, 151, 0) := List.mem_of_getElem? (i := 581) rfl
set_option maxRecDepth 100000 in
theorem zl375 : zlf (16, 248, 282, 0) := List.mem_of_getElem? (i := 2061) rfl
set_option maxRecDepth 100000 in
theorem zl376 : zlf (16, 249, 371, 1) := List.mem_of_getElem? (i := 1371) rfl
set_option maxRecDepth 100000 in
theorem zl377 : zlf (16, 251, 283, 0) := List.mem_of_getElem? (i := 2069) rfl
set_option maxRecDepth 100000 in
theorem zl378 : zlf (16, 252, 153, 0) := List.mem_of_getElem? (i := 635) rfl
set_option maxRecDepth 100000 in
theorem zl379 : zlf (16, 256, 284, 0) := List.mem_of_getElem? (i := 2074) rfl
set_option maxRecDepth 100000 in
theorem zl380 : zlf (16, 257, 372, 1) := List.mem_of_getElem? (i := 1379) rfl
set_option maxRecDepth 100000 in
theorem zl381 : zlf (16, 259, 288, 0) := List.mem_of_getElem? (i := 2078) rfl
set_option maxRecDepth 100000 in
theorem zl382 : zlf (16, 260, 373, 1) := List.mem_of_getElem? (i := 1394) rfl
set_option maxRecDepth 100000 in
theorem zl383 : zlf (16, 262, 289, 0) := List.mem_of_getElem? (i := 2091) rfl
set_option maxRecDepth 100000 in
theorem zl384 : zlf (16, 263, 374, 1) := List.mem_of_getElem? (i := 1405) rfl
set_option maxRecDepth 100000 in
theorem zl385 : zlf (16, 266, 291, 0) := List.mem_of_getElem? (i := 2099) rfl
set_option maxRecDepth 100000 in
theorem zl386 : zlf (16, 267, 375, 1) := List.mem_of_getElem? (i := 1423) rfl
set_option maxRecDepth 100000 in
theorem zl387 : zlf (16, 269, 293, 0) := List.mem_of_getElem? (i := 2107) rfl
set_option maxRecDepth 100000 in
theorem zl388 : zlf (16, 270, 376, 1) := List.mem_of_getElem? (i := 1435) rfl
set_option maxRecDepth 100000 in
theorem zl389 : zlf (16, 272, 299, 0) := List.mem_of_getElem? (i := 2115) rfl
set_option maxRecDepth 100000 in
theorem zl390 : zlf (16, 273, 377, 1) := List.mem_of_getElem? (i := 1442) rfl
set_option maxRecDepth 100000 in
theorem zl391 : zlf (16, 275, 310, 0) := List.mem_of_getElem? (i := 2185) rfl
set_option maxRecDepth 100000 in
theorem zl392 : zlf (16, 276, 378, 1) := List.mem_of_getElem? (i := 1449) rfl
set_option maxRecDepth 100000 in
theorem zl393 : zlf (16, 278, 312, 0) := List.mem_of_getElem? (i := 2189) rfl
set_option maxRecDepth 100000 in
theorem zl394 : zlf (16, 279, 379, 1) := List.mem_of_getElem? (i := 1461) rfl
set_option maxRecDepth 100000 in
theorem zl395 : zlf (16, 281, 313, 0) := List.mem_of_getElem? (i := 2197) rfl
set_option maxRecDepth 100000 in
theorem zl396 : zlf (16, 282, 162, 0) := List.mem_of_getElem? (i := 642) rfl
set_option maxRecDepth 100000 in
theorem zl397 : zlf (16, 285, 314, 0) := List.mem_of_getElem? (i := 2201) rfl
set_option maxRecDepth 100000 in
theorem zl398 : zlf (16, 286, 380, 1) := List.mem_of_getElem? (i := 1468) rfl
set_option maxRecDepth 100000 in
theorem zl399 : zlf (16, 288, 316, 0) := List.mem_of_getElem? (i := 2205) rfl
set_option maxRecDepth 100000 in
theorem zl400 : zlf (16, 289, 164, 0) := List.mem_of_getElem? (i := 650) rfl
set_option maxRecDepth 100000 in
theorem zl401 : zlf (16, 292, 318, 0) := List.mem_of_getElem? (i := 2213) rfl
set_option maxRecDepth 100000 in
theorem zl402 : zlf (16, 293, 165, 0) := List.mem_of_getElem? (i := 693) rfl
set_option maxRecDepth 100000 in
theorem zl403 : zlf (16, 296, 319, 0) := List.mem_of_getElem? (i := 2221) rfl
set_option maxRecDepth 100000 in
theorem zl404 : zlf (16, 297, 381, 1) := List.mem_of_getElem? (i := 1475) rfl
set_option maxRecDepth 100000 in
theorem zl405 : zlf (16, 299, 320, 0) := List.mem_of_getElem? (i := 2225) rfl
set_option maxRecDepth 100000 in
theorem zl406 : zlf (16, 300, 382, 1) := List.mem_of_getElem? (i := 1486) rfl
set_option maxRecDepth 100000 in
theorem zl407 : zlf (16, 302, 323, 0) := List.mem_of_getElem? (i := 2229) rfl
set_option maxRecDepth 100000 in
theorem zl408 : zlf (16, 303, 168, 0) := List.mem_of_getElem? (i := 697) rfl
set_option maxRecDepth 100000 in
theorem zl409 : zlf (16, 306, 324, 0) := List.mem_of_getElem? (i := 2241) rfl
set_option maxRecDepth 100000 in
theorem zl410 : zlf (16, 307, 383, 1) := List.mem_of_getElem? (i := 1494) rfl
set_option maxRecDepth 100000 in
theorem zl411 : zlf (16, 309, 302, 0) := List.mem_of_getElem? (i := 2146) rfl
set_option maxRecDepth 100000 in
theorem zl412 : zlf (16, 310, 170, 0) := List.mem_of_getElem? (i := 717) rfl
set_option maxRecDepth 100000 in
theorem zl413 : zlf (16, 313, 304, 0) := List.mem_of_getElem? (i := 2156) rfl
set_option maxRecDepth 100000 in
theorem zl414 : zlf (16, 314, 384, 1) := List.mem_of_getElem? (i := 1517) rfl
set_option maxRecDepth 100000 in
theorem zl415 : zlf (16, 316, 306, 0) := List.mem_of_getElem? (i := 2164) rfl
set_option maxRecDepth 100000 in
theorem zl416 : zlf (16, 317, 172, 0) := List.mem_of_getElem? (i := 725) rfl
set_option maxRecDepth 100000 in
theorem zl417 : zlf (16, 320, 308, 0) := List.mem_of_getElem? (i := 2173) rfl
set_option maxRecDepth 100000 in
theorem zl418 : zlf (16, 321, 385, 1) := List.mem_of_getElem? (i := 1534) rfl
set_option maxRecDepth 100000 in
theorem zl419 : zlf (16, 323, 309, 0) := List.mem_of_getElem? (i := 2181) rfl
set_option maxRecDepth 100000 in
theorem zl420 : zlf (16, 324, 174, 0) := List.mem_of_getElem? (i := 736) rfl
set_option maxRecDepth 100000 in
theorem zl421 : zlf (16, 327, 337, 0) := List.mem_of_getElem? (i := 2283) rfl
set_option maxRecDepth 100000 in
theorem zl422 : zlf (16, 328, 386, 1) := List.mem_of_getElem? (i := 1547) rfl
set_option maxRecDepth 100000 in
theorem zl423 : zlf (16, 330, 338, 0) := List.mem_of_getElem? (i := 2300) rfl
set_option maxRecDepth 100000 in
theorem zl424 : zlf (16, 331, 176, 0) := List.mem_of_getElem? (i := 762) rfl
set_option maxRecDepth 100000 in
theorem zl425 : zlf (16, 334, 275, 0) := List.mem_of_getElem? (i := 2027) rfl
set_option maxRecDepth 100000 in
theorem zl426 : zlf (16, 335, 177, 0) := List.mem_of_getElem? (i := 771) rfl
set_option maxRecDepth 100000 in
theorem zl427 : zlf (16, 338, 339, 0) := List.mem_of_getElem? (i := 2304) rfl
set_option maxRecDepth 100000 in
theorem zl428 : zlf (16, 339, 387, 1) := List.mem_of_getElem? (i := 1559) rfl
set_option maxRecDepth 100000 in
theorem zl429 : zlf (16, 341, 340, 0) := List.mem_of_getElem? (i := 2308) rfl
def zLL0 : List (Nat × Nat × Nat × Nat) := [(0, 17, 51, 12), (0, 22, 1, 0), (0, 26, 53, 0), (1, 19, 62, 0), (1, 24, 33, 0), (1, 30, 63, 0), (1, 34, 57, 0), (1, 38, 10, 0), (1, 42, 8, 0), (1, 50, 9, 0), (1, 54, 58, 0), (1, 58, 11, 0), (1, 64, 195, 11), (1, 68, 196, 11), (1, 72, 59, 0), (1, 75, 60, 0)]
theorem zLR0 : ∀ q ∈ zLL0, zlf q := List.forall_mem_cons.mpr ⟨zl0, List.forall_mem_cons.mpr ⟨zl1, List.forall_mem_cons.mpr ⟨zl2, List.forall_mem_cons.mpr ⟨zl3, List.forall_mem_cons.mpr ⟨zl4, List.forall_mem_cons.mpr ⟨zl5, List.forall_mem_cons.mpr ⟨zl6, List.forall_mem_cons.mpr ⟨zl7, List.forall_mem_cons.mpr ⟨zl8, List.forall_mem_cons.mpr ⟨zl9, List.forall_mem_cons.mpr ⟨zl10, List.forall_mem_cons.mpr ⟨zl11, List.forall_mem_cons.mpr ⟨zl12, List.forall_mem_cons.mpr ⟨zl13, List.forall_mem_cons.mpr ⟨zl14, List.forall_mem_cons.mpr ⟨zl15, fun _ h => absurd h List.not_mem_nil⟩⟩⟩⟩⟩⟩⟩⟩⟩⟩⟩⟩⟩⟩⟩⟩
def zLL1 : List (Nat × Nat × Nat × Nat) := [(1, 81, 14, 0), (1, 85, 35, 0), (1, 88, 13, 0), (1, 100, 55, 0), (2, 42, 22, 0), (2, 51, 348, 1), (2, 63, 26, 0), (2, 67, 27, 1), (2, 71, 34, 0), (2, 75, 36, 0), (2, 79, 37, 0), (2, 82, 41, 0), (2, 85, 42, 0), (2, 88, 43, 0), (2, 91, 44, 0), (2, 94, 35, 0)]
theorem zLR1 : ∀ q ∈ zLL1, zlf q := List.forall_mem_cons.mpr ⟨zl16, List.forall_mem_cons.mpr ⟨zl17, List.forall_mem_cons.mpr ⟨zl18, List.forall_mem_cons.mpr ⟨zl19, List.forall_mem_cons.mpr ⟨zl20, List.forall_mem_cons.mpr ⟨zl21, List.forall_mem_cons.mpr ⟨zl22, List.forall_mem_cons.mpr ⟨zl23, List.forall_mem_cons.mpr ⟨zl24, List.forall_mem_cons.mpr ⟨zl25, List.forall_mem_cons.mpr ⟨zl26, List.forall_mem_cons.mpr ⟨zl27, List.forall_mem_cons.mpr ⟨zl28, List.forall_mem_cons.mpr ⟨zl29, List.forall_mem_cons.mpr ⟨zl30, List.forall_mem_cons.mpr ⟨zl31, fun _ h => absurd h List.not_mem_nil⟩⟩⟩⟩⟩⟩⟩⟩⟩⟩⟩⟩⟩⟩⟩⟩
def zLL2 : List (Nat × Nat × Nat × Nat) := [(2, 98, 33, 0), (3, 11, 21, 2), (3, 22, 22, 0), (3, 33, 108, 0), (3, 41, 47, 0), (3, 45, 111, 0), (3, 49, 40, 0), (3, 52, 110, 0), (3, 64, 48, 0), (3, 70, 49, 0), (3, 76, 50, 0), (3, 82, 109, 0), (3, 85, 113, 0), (3, 99, 112, 0), (3, 106, 24, 0), (3, 113, 114, 0)]
theorem zLR2 : ∀ q ∈ zLL2, zlf q := List.forall_mem_cons.mpr ⟨zl32, List.forall_mem_cons.mpr ⟨zl33, List.forall_mem_cons.mpr ⟨zl34, List.forall_mem_cons.mpr ⟨zl35, List.forall_mem_cons.mpr ⟨zl36, List.forall_mem_cons.mpr ⟨zl37, List.forall_mem_cons.mpr ⟨zl38, List.forall_mem_cons.mpr ⟨zl39, List.forall_mem_cons.mpr ⟨zl40, List.forall_mem_cons.mpr ⟨zl41, List.forall_mem_cons.mpr ⟨zl42, List.forall_mem_cons.mpr ⟨zl43, List.forall_mem_cons.mpr ⟨zl44, List.forall_mem_cons.mpr ⟨zl45, List.forall_mem_cons.mpr ⟨zl46, List.forall_mem_cons.mpr ⟨zl47, fun _ h => absurd h List.not_mem_nil⟩⟩⟩⟩⟩⟩⟩⟩⟩⟩⟩⟩⟩⟩⟩⟩
def zLL3 : List (Nat × Nat × Nat × Nat) := [(3, 116, 28, 0), (3, 120, 34, 0), (3, 124, 25, 0), (4, 28, 32, 0), (4, 34, 62, 0), (4, 47, 54, 1), (4, 51, 55, 0), (4, 54, 64, 1), (4, 71, 66, 1), (5, 19, 71, 0), (6, 48, 108, 0), (6, 56, 76, 0), (6, 60, 79, 0), (6, 67, 77, 1), (6, 71, 110, 0), (6, 78, 78, 0)]
theorem zLR3 : ∀ q ∈ zLL3, zlf q := List.forall_mem_cons.mpr ⟨zl48, List.forall_mem_cons.mpr ⟨zl49, List.forall_mem_cons.mpr ⟨zl50, List.forall_mem_cons.mpr ⟨zl51, List.forall_mem_cons.mpr ⟨zl52, List.forall_mem_cons.mpr ⟨zl53, List.forall_mem_cons.mpr ⟨zl54, List.forall_mem_cons.mpr ⟨zl55, List.forall_mem_cons.mpr ⟨zl56, List.forall_mem_cons.mpr ⟨zl57, List.forall_mem_cons.mpr ⟨zl58, List.forall_mem_cons.mpr ⟨zl59, List.forall_mem_cons.mpr ⟨zl60, List.forall_mem_cons.mpr ⟨zl61, List.forall_mem_cons.mpr ⟨zl62, List.forall_mem_cons.mpr ⟨zl63, fun _ h => absurd h List.not_mem_nil⟩⟩⟩⟩⟩⟩⟩⟩⟩⟩⟩⟩⟩⟩⟩⟩
def zLL4 : List (Nat × Nat × Nat × Nat) := [(6, 81, 80, 0), (6, 84, 111, 0), (6, 105, 109, 0), (6, 111, 112, 0), (6, 114, 81, 0), (6, 121, 114, 0), (6, 128, 28, 0), (6, 134, 120, 5), (6, 137, 83, 0), (7, 21, 195, 11), (7, 29, 196, 11), (7, 35, 55, 0), (7, 41, 90, 0), (7, 45, 36, 0), (7, 50, 39, 0), (7, 53, 37, 0)]
theorem zLR4 : ∀ q ∈ zLL4, zlf q := List.forall_mem_cons.mpr ⟨zl64, List.forall_mem_cons.mpr ⟨zl65, List.forall_mem_cons.mpr ⟨zl66, List.forall_mem_cons.mpr ⟨zl67, List.forall_mem_cons.mpr ⟨zl68, List.forall_mem_cons.mpr ⟨zl69, List.forall_mem_cons.mpr ⟨zl70, List.forall_mem_cons.mpr ⟨zl71, List.forall_mem_cons.mpr ⟨zl72, List.forall_mem_cons.mpr ⟨zl73, List.forall_mem_cons.mpr ⟨zl74, List.forall_mem_cons.mpr ⟨zl75, List.forall_mem_cons.mpr ⟨zl76, List.forall_mem_cons.mpr ⟨zl77, List.forall_mem_cons.mpr ⟨zl78, List.forall_mem_cons.mpr ⟨zl79, fun _ h => absurd h List.not_mem_nil⟩⟩⟩⟩⟩⟩⟩⟩⟩⟩⟩⟩⟩⟩⟩⟩
def zLL5 : List (Nat × Nat × Nat × Nat) := [(7, 57, 91, 0), (7, 60, 88, 1), (7, 69, 30, 0), (7, 76, 92, 0), (7, 84, 31, 0), (7, 88, 93, 0), (7, 94, 95, 0), (7, 106, 96, 0), (7, 109, 56, 0), (7, 113, 97, 0), (7, 117, 94, 0), (7, 121, 100, 0), (7, 125, 101, 0), (7, 128, 102, 0), (9, 34, 109, 0), (9, 37, 115, 0)]
theorem zLR5 : ∀ q ∈ zLL5, zlf q := List.forall_mem_cons.mpr ⟨zl80, List.forall_mem_cons.mpr ⟨zl81, List.forall_mem_cons.mpr ⟨zl82, List.forall_mem_cons.mpr ⟨zl83, List.forall_mem_cons.mpr ⟨zl84, List.forall_mem_cons.mpr ⟨zl85, List.forall_mem_cons.mpr ⟨zl86, List.forall_mem_cons.mpr ⟨zl87, List.forall_mem_cons.mpr ⟨zl88, List.forall_mem_cons.mpr ⟨zl89, List.forall_mem_cons.mpr ⟨zl90, List.forall_mem_cons.mpr ⟨zl91, List.forall_mem_cons.mpr ⟨zl92, List.forall_mem_cons.mpr ⟨zl93, List.forall_mem_cons.mpr ⟨zl94, List.forall_mem_cons.mpr ⟨zl95, fun _ h => absurd h List.not_mem_nil⟩⟩⟩⟩⟩⟩⟩⟩⟩⟩⟩⟩⟩⟩⟩⟩
def zLL6 : List (Nat × Nat × Nat × Nat) := [(9, 44, 106, 0), (9, 52, 118, 1), (9, 56, 116, 0), (9, 59, 119, 1), (9, 62, 117, 0), (9, 65, 110, 0), (9, 84, 28, 0), (9, 93, 121, 1), (11, 9, 104, 12), (11, 18, 107, 2), (11, 27, 21, 2), (11, 34, 45, 2), (11, 43, 74, 2), (11, 50, 51, 12), (11, 57, 87, 2), (11, 66, 6, 2)]
theorem zLR6 : ∀ q ∈ zLL6, zlf q := List.forall_mem_cons.mpr ⟨zl96, List.forall_mem_cons.mpr ⟨zl97, List.forall_mem_cons.mpr ⟨zl98, List.forall_mem_cons.mpr ⟨zl99, List.forall_mem_cons.mpr ⟨zl100, List.forall_mem_cons.mpr ⟨zl101, List.forall_mem_cons.mpr ⟨zl102, List.forall_mem_cons.mpr ⟨zl103, List.forall_mem_cons.mpr ⟨zl104, List.forall_mem_cons.mpr ⟨zl105, List.forall_mem_cons.mpr ⟨zl106, List.forall_mem_cons.mpr ⟨zl107, List.forall_mem_cons.mpr ⟨zl108, List.forall_mem_cons.mpr ⟨zl109, List.forall_mem_cons.mpr ⟨zl110, List.forall_mem_cons.mpr ⟨zl111, fun _ h => absurd h List.not_mem_nil⟩⟩⟩⟩⟩⟩⟩⟩⟩⟩⟩⟩⟩⟩⟩⟩
def zLL7 : List (Nat × Nat × Nat × Nat) := [(11, 73, 0, 2), (11, 86, 69, 12), (11, 106, 105, 0), (11, 115, 46, 0), (11, 124, 23, 0), (11, 128, 52, 0), (11, 131, 5, 0), (11, 137, 75, 0), (11, 142, 2, 0), (11, 146, 82, 0), (11, 150, 192, 0), (11, 154, 3, 0), (11, 169, 185, 0), (11, 173, 186, 0), (11, 176, 187, 0), (11, 181, 179, 0)]
theorem zLR7 : ∀ q ∈ zLL7, zlf q := List.forall_mem_cons.mpr ⟨zl112, List.forall_mem_cons.mpr ⟨zl113, List.forall_mem_cons.mpr ⟨zl114, List.forall_mem_cons.mpr ⟨zl115, List.forall_mem_cons.mpr ⟨zl116, List.forall_mem_cons.mpr ⟨zl117, List.forall_mem_cons.mpr ⟨zl118, List.forall_mem_cons.mpr ⟨zl119, List.forall_mem_cons.mpr ⟨zl120, List.forall_mem_cons.mpr ⟨zl121, List.forall_mem_cons.mpr ⟨zl122, List.forall_mem_cons.mpr ⟨zl123, List.forall_mem_cons.mpr ⟨zl124, List.forall_mem_cons.mpr ⟨zl125, List.forall_mem_cons.mpr ⟨zl126, List.forall_mem_cons.mpr ⟨zl127, fun _ h => absurd h List.not_mem_nil⟩⟩⟩⟩⟩⟩⟩⟩⟩⟩⟩⟩⟩⟩⟩⟩
def zLL8 : List (Nat × Nat × Nat × Nat) := [(11, 184, 39, 0), (11, 187, 30, 0), (11, 190, 36, 0), (11, 193, 37, 0), (11, 197, 180, 0), (11, 200, 181, 1), (11, 203, 33, 0), (11, 206, 34, 0), (11, 209, 189, 0), (11, 213, 191, 0), (11, 216, 188, 0), (11, 219, 38, 0), (11, 222, 57, 0), (11, 226, 55, 0), (11, 229, 88, 1), (11, 233, 89, 0)]
theorem zLR8 : ∀ q ∈ zLL8, zlf q := List.forall_mem_cons.mpr ⟨zl128, List.forall_mem_cons.mpr ⟨zl129, List.forall_mem_cons.mpr ⟨zl130, List.forall_mem_cons.mpr ⟨zl131, List.forall_mem_cons.mpr ⟨zl132, List.forall_mem_cons.mpr ⟨zl133, List.forall_mem_cons.mpr ⟨zl134, List.forall_mem_cons.mpr ⟨zl135, List.forall_mem_cons.mpr ⟨zl136, List.forall_mem_cons.mpr ⟨zl137, List.forall_mem_cons.mpr ⟨zl138, List.forall_mem_cons.mpr ⟨zl139, List.forall_mem_cons.mpr ⟨zl140, List.forall_mem_cons.mpr ⟨zl141, List.forall_mem_cons.mpr ⟨zl142, List.forall_mem_cons.mpr ⟨zl143, fun _ h => absurd h List.not_mem_nil⟩⟩⟩⟩⟩⟩⟩⟩⟩⟩⟩⟩⟩⟩⟩⟩
def zLL9 : List (Nat × Nat × Nat × Nat) := [(11, 237, 31, 0), (11, 242, 93, 0), (11, 253, 94, 0), (11, 262, 56, 0), (11, 266, 95, 0), (11, 271, 96, 0), (11, 274, 97, 0), (11, 279, 182, 1), (11, 282, 100, 0), (11, 285, 101, 0), (11, 288, 183, 1), (11, 291, 102, 0), (11, 295, 103, 0), (11, 299, 7, 0), (11, 305, 58, 0), (11, 308, 184, 0)]
theorem zLR9 : ∀ q ∈ zLL9, zlf q := List.forall_mem_cons.mpr ⟨zl144, List.forall_mem_cons.mpr ⟨zl145, List.forall_mem_cons.mpr ⟨zl146, List.forall_mem_cons.mpr ⟨zl147, List.forall_mem_cons.mpr ⟨zl148, List.forall_mem_cons.mpr ⟨zl149, List.forall_mem_cons.mpr ⟨zl150, List.forall_mem_cons.mpr ⟨zl151, List.forall_mem_cons.mpr ⟨zl152, List.forall_mem_cons.mpr ⟨zl153, List.forall_mem_cons.mpr ⟨zl154, List.forall_mem_cons.mpr ⟨zl155, List.forall_mem_cons.mpr ⟨zl156, List.forall_mem_cons.mpr ⟨zl157, List.forall_mem_cons.mpr ⟨zl158, List.forall_mem_cons.mpr ⟨zl159, fun _ h => absurd h List.not_mem_nil⟩⟩⟩⟩⟩⟩⟩⟩⟩⟩⟩⟩⟩⟩⟩⟩
def zLL10 : List (Nat × Nat × Nat × Nat) := [(11, 311, 59, 0), (11, 314, 60, 0), (11, 317, 61, 0), (11, 320, 13, 0), (11, 323, 15, 0), (11, 330, 16, 0), (11, 333, 12, 0), (11, 338, 17, 0), (11, 344, 65, 0), (11, 349, 67, 0), (11, 352, 68, 0), (11, 359, 18, 0), (11, 363, 19, 0), (11, 366, 35, 0), (11, 371, 20, 0), (11, 376, 29, 0)]
theorem zLR10 : ∀ q ∈ zLL10, zlf q := List.forall_mem_cons.mpr ⟨zl160, List.forall_mem_cons.mpr ⟨zl161, List.forall_mem_cons.mpr ⟨zl162, List.forall_mem_cons.mpr ⟨zl163, List.forall_mem_cons.mpr ⟨zl164, List.forall_mem_cons.mpr ⟨zl165, List.forall_mem_cons.mpr ⟨zl166, List.forall_mem_cons.mpr ⟨zl167, List.forall_mem_cons.mpr ⟨zl168, List.forall_mem_cons.mpr ⟨zl169, List.forall_mem_cons.mpr ⟨zl170, List.forall_mem_cons.mpr ⟨zl171, List.forall_mem_cons.mpr ⟨zl172, List.forall_mem_cons.mpr ⟨zl173, List.forall_mem_cons.mpr ⟨zl174, List.forall_mem_cons.mpr ⟨zl175, fun _ h => absurd h List.not_mem_nil⟩⟩⟩⟩⟩⟩⟩⟩⟩⟩⟩⟩⟩⟩⟩⟩
def zLL11 : List (Nat × Nat × Nat × Nat) := [(11, 379, 72, 0), (11, 383, 71, 0), (11, 386, 73, 0), (11, 394, 70, 0), (11, 400, 4, 0), (11, 403, 53, 0), (11, 422, 190, 0), (11, 426, 85, 0), (11, 429, 86, 0), (11, 438, 84, 0), (11, 447, 193, 0), (11, 450, 98, 0), (11, 453, 194, 0), (11, 458, 99, 0), (12, 84, 220, 0), (12, 90, 200, 1)]
theorem zLR11 : ∀ q ∈ zLL11, zlf q := List.forall_mem_cons.mpr ⟨zl176, List.forall_mem_cons.mpr ⟨zl177, List.forall_mem_cons.mpr ⟨zl178, List.forall_mem_cons.mpr ⟨zl179, List.forall_mem_cons.mpr ⟨zl180, List.forall_mem_cons.mpr ⟨zl181, List.forall_mem_cons.mpr ⟨zl182, List.forall_mem_cons.mpr ⟨zl183, List.forall_mem_cons.mpr ⟨zl184, List.forall_mem_cons.mpr ⟨zl185, List.forall_mem_cons.mpr ⟨zl186, List.forall_mem_cons.mpr ⟨zl187, List.forall_mem_cons.mpr ⟨zl188, List.forall_mem_cons.mpr ⟨zl189, List.forall_mem_cons.mpr ⟨zl190, List.forall_mem_cons.mpr ⟨zl191, fun _ h => absurd h List.not_mem_nil⟩⟩⟩⟩⟩⟩⟩⟩⟩⟩⟩⟩⟩⟩⟩⟩
def zLL12 : List (Nat × Nat × Nat × Nat) := [(12, 97, 202, 0), (12, 101, 204, 0), (12, 105, 199, 1), (12, 115, 206, 0), (12, 132, 207, 1), (12, 136, 208, 1), (12, 142, 212, 0), (12, 146, 209, 0), (12, 149, 211, 0), (12, 153, 214, 0), (12, 156, 210, 0), (12, 186, 219, 0), (12, 189, 222, 0), (12, 193, 213, 0), (12, 197, 218, 0), (12, 201, 225, 0)]
theorem zLR12 : ∀ q ∈ zLL12, zlf q := List.forall_mem_cons.mpr ⟨zl192, List.forall_mem_cons.mpr ⟨zl193, List.forall_mem_cons.mpr ⟨zl194, List.forall_mem_cons.mpr ⟨zl195, List.forall_mem_cons.mpr ⟨zl196, List.forall_mem_cons.mpr ⟨zl197, List.forall_mem_cons.mpr ⟨zl198, List.forall_mem_cons.mpr ⟨zl199, List.forall_mem_cons.mpr ⟨zl200, List.forall_mem_cons.mpr ⟨zl201, List.forall_mem_cons.mpr ⟨zl202, List.forall_mem_cons.mpr ⟨zl203, List.forall_mem_cons.mpr ⟨zl204, List.forall_mem_cons.mpr ⟨zl205, List.forall_mem_cons.mpr ⟨zl206, List.forall_mem_cons.mpr ⟨zl207, fun _ h => absurd h List.not_mem_nil⟩⟩⟩⟩⟩⟩⟩⟩⟩⟩⟩⟩⟩⟩⟩⟩
def zLL13 : List (Nat × Nat × Nat × Nat) := [(12, 204, 224, 0), (12, 208, 223, 0), (12, 211, 226, 0), (12, 221, 215, 0), (12, 224, 228, 0), (12, 228, 230, 0), (12, 232, 229, 0), (12, 235, 232, 0), (12, 238, 231, 0), (12, 241, 216, 0), (12, 247, 227, 0), (12, 250, 233, 0), (12, 253, 217, 0), (12, 256, 221, 0), (12, 265, 239, 0), (12, 268, 240, 0)]
theorem zLR13 : ∀ q ∈ zLL13, zlf q := List.forall_mem_cons.mpr ⟨zl208, List.forall_mem_cons.mpr ⟨zl209, List.forall_mem_cons.mpr ⟨zl210, List.forall_mem_cons.mpr ⟨zl211, List.forall_mem_cons.mpr ⟨zl212, List.forall_mem_cons.mpr ⟨zl213, List.forall_mem_cons.mpr ⟨zl214, List.forall_mem_cons.mpr ⟨zl215, List.forall_mem_cons.mpr ⟨zl216, List.forall_mem_cons.mpr ⟨zl217, List.forall_mem_cons.mpr ⟨zl218, List.forall_mem_cons.mpr ⟨zl219, List.forall_mem_cons.mpr ⟨zl220, List.forall_mem_cons.mpr ⟨zl221, List.forall_mem_cons.mpr ⟨zl222, List.forall_mem_cons.mpr ⟨zl223, fun _ h => absurd h List.not_mem_nil⟩⟩⟩⟩⟩⟩⟩⟩⟩⟩⟩⟩⟩⟩⟩⟩
def zLL14 : List (Nat × Nat × Nat × Nat) := [(12, 271, 237, 0), (12, 274, 238, 0), (12, 279, 246, 0), (12, 282, 249, 0), (12, 285, 252, 0), (12, 288, 253, 0), (12, 299, 257, 1), (12, 305, 260, 0), (12, 309, 258, 1), (12, 313, 262, 1), (12, 316, 263, 0), (12, 320, 264, 0), (12, 328, 266, 0), (12, 331, 267, 0), (12, 334, 201, 1), (12, 337, 270, 0)]
theorem zLR14 : ∀ q ∈ zLL14, zlf q := List.forall_mem_cons.mpr ⟨zl224, List.forall_mem_cons.mpr ⟨zl225, List.forall_mem_cons.mpr ⟨zl226, List.forall_mem_cons.mpr ⟨zl227, List.forall_mem_cons.mpr ⟨zl228, List.forall_mem_cons.mpr ⟨zl229, List.forall_mem_cons.mpr ⟨zl230, List.forall_mem_cons.mpr ⟨zl231, List.forall_mem_cons.mpr ⟨zl232, List.forall_mem_cons.mpr ⟨zl233, List.forall_mem_cons.mpr ⟨zl234, List.forall_mem_cons.mpr ⟨zl235, List.forall_mem_cons.mpr ⟨zl236, List.forall_mem_cons.mpr ⟨zl237, List.forall_mem_cons.mpr ⟨zl238, List.forall_mem_cons.mpr ⟨zl239, fun _ h => absurd h List.not_mem_nil⟩⟩⟩⟩⟩⟩⟩⟩⟩⟩⟩⟩⟩⟩⟩⟩
def zLL15 : List (Nat × Nat × Nat × Nat) := [(12, 343, 274, 0), (12, 349, 273, 0), (12, 353, 277, 0), (12, 356, 278, 0), (12, 359, 281, 0), (12, 366, 285, 0), (12, 370, 286, 0), (12, 373, 287, 0), (12, 376, 290, 0), (12, 379, 292, 0), (12, 382, 296, 1), (12, 392, 295, 0), (12, 395, 294, 0), (12, 398, 300, 0), (12, 401, 297, 0), (12, 404, 298, 0)]
theorem zLR15 : ∀ q ∈ zLL15, zlf q := List.forall_mem_cons.mpr ⟨zl240, List.forall_mem_cons.mpr ⟨zl241, List.forall_mem_cons.mpr ⟨zl242, List.forall_mem_cons.mpr ⟨zl243, List.forall_mem_cons.mpr ⟨zl244, List.forall_mem_cons.mpr ⟨zl245, List.forall_mem_cons.mpr ⟨zl246, List.forall_mem_cons.mpr ⟨zl247, List.forall_mem_cons.mpr ⟨zl248, List.forall_mem_cons.mpr ⟨zl249, List.forall_mem_cons.mpr ⟨zl250, List.forall_mem_cons.mpr ⟨zl251, List.forall_mem_cons.mpr ⟨zl252, List.forall_mem_cons.mpr ⟨zl253, List.forall_mem_cons.mpr ⟨zl254, List.forall_mem_cons.mpr ⟨zl255, fun _ h => absurd h List.not_mem_nil⟩⟩⟩⟩⟩⟩⟩⟩⟩⟩⟩⟩⟩⟩⟩⟩
def zLL16 : List (Nat × Nat × Nat × Nat) := [(12, 411, 301, 0), (12, 414, 303, 0), (12, 419, 305, 0), (12, 422, 307, 0), (12, 425, 311, 0), (12, 428, 315, 0), (12, 437, 317, 0), (12, 440, 321, 0), (12, 443, 322, 0), (12, 449, 326, 0), (12, 458, 327, 0), (12, 462, 325, 0), (12, 467, 330, 0), (12, 470, 328, 0), (12, 473, 329, 0), (12, 476, 333, 0)]
theorem zLR16 : ∀ q ∈ zLL16, zlf q := List.forall_mem_cons.mpr ⟨zl256, List.forall_mem_cons.mpr ⟨zl257, List.forall_mem_cons.mpr ⟨zl258, List.forall_mem_cons.mpr ⟨zl259, List.forall_mem_cons.mpr ⟨zl260, List.forall_mem_cons.mpr ⟨zl261, List.forall_mem_cons.mpr ⟨zl262, List.forall_mem_cons.mpr ⟨zl263, List.forall_mem_cons.mpr ⟨zl264, List.forall_mem_cons.mpr ⟨zl265, List.forall_mem_cons.mpr ⟨zl266, List.forall_mem_cons.mpr ⟨zl267, List.forall_mem_cons.mpr ⟨zl268, List.forall_mem_cons.mpr ⟨zl269, List.forall_mem_cons.mpr ⟨zl270, List.forall_mem_cons.mpr ⟨zl271, fun _ h => absurd h List.not_mem_nil⟩⟩⟩⟩⟩⟩⟩⟩⟩⟩⟩⟩⟩⟩⟩⟩
def zLL17 : List (Nat × Nat × Nat × Nat) := [(12, 479, 331, 0), (12, 487, 334, 0), (12, 490, 335, 0), (12, 494, 336, 0), (16, 7, 123, 0), (16, 15, 124, 0), (16, 21, 125, 0), (16, 25, 126, 0), (16, 28, 129, 0), (16, 31, 130, 0), (16, 36, 131, 0), (16, 39, 132, 0), (16, 42, 133, 0), (16, 46, 134, 0), (16, 49, 135, 0), (16, 52, 136, 0)]
theorem zLR17 : ∀ q ∈ zLL17, zlf q := List.forall_mem_cons.mpr ⟨zl272, List.forall_mem_cons.mpr ⟨zl273, List.forall_mem_cons.mpr ⟨zl274, List.forall_mem_cons.mpr ⟨zl275, List.forall_mem_cons.mpr ⟨zl276, List.forall_mem_cons.mpr ⟨zl277, List.forall_mem_cons.mpr ⟨zl278, List.forall_mem_cons.mpr ⟨zl279, List.forall_mem_cons.mpr ⟨zl280, List.forall_mem_cons.mpr ⟨zl281, List.forall_mem_cons.mpr ⟨zl282, List.forall_mem_cons.mpr ⟨zl283, List.forall_mem_cons.mpr ⟨zl284, List.forall_mem_cons.mpr ⟨zl285, List.forall_mem_cons.mpr ⟨zl286, List.forall_mem_cons.mpr ⟨zl287, fun _ h => absurd h List.not_mem_nil⟩⟩⟩⟩⟩⟩⟩⟩⟩⟩⟩⟩⟩⟩⟩⟩
def zLL18 : List (Nat × Nat × Nat × Nat) := [(16, 55, 138, 0), (16, 58, 139, 0), (16, 62, 140, 0), (16, 66, 141, 0), (16, 69, 142, 0), (16, 72, 143, 0), (16, 75, 144, 0), (16, 78, 148, 0), (16, 81, 149, 0), (16, 84, 150, 0), (16, 87, 152, 0), (16, 90, 154, 0), (16, 93, 155, 0), (16, 96, 156, 0), (16, 100, 157, 0), (16, 103, 158, 0)]
theorem zLR18 : ∀ q ∈ zLL18, zlf q := List.forall_mem_cons.mpr ⟨zl288, List.forall_mem_cons.mpr ⟨zl289, List.forall_mem_cons.mpr ⟨zl290, List.forall_mem_cons.mpr ⟨zl291, List.forall_mem_cons.mpr ⟨zl292, List.forall_mem_cons.mpr ⟨zl293, List.forall_mem_cons.mpr ⟨zl294, List.forall_mem_cons.mpr ⟨zl295, List.forall_mem_cons.mpr ⟨zl296, List.forall_mem_cons.mpr ⟨zl297, List.forall_mem_cons.mpr ⟨zl298, List.forall_mem_cons.mpr ⟨zl299, List.forall_mem_cons.mpr ⟨zl300, List.forall_mem_cons.mpr ⟨zl301, List.forall_mem_cons.mpr ⟨zl302, List.forall_mem_cons.mpr ⟨zl303, fun _ h => absurd h List.not_mem_nil⟩⟩⟩⟩⟩⟩⟩⟩⟩⟩⟩⟩⟩⟩⟩⟩
def zLL19 : List (Nat × Nat × Nat × Nat) := [(16, 106, 159, 0), (16, 110, 160, 0), (16, 113, 161, 0), (16, 116, 163, 0), (16, 119, 166, 0), (16, 122, 167, 0), (16, 125, 169, 0), (16, 128, 171, 0), (16, 131, 173, 0), (16, 135, 175, 0), (16, 138, 178, 0), (16, 141, 122, 2), (16, 144, 197, 2), (16, 145, 349, 1), (16, 150, 203, 0), (16, 151, 198, 0)]
theorem zLR19 : ∀ q ∈ zLL19, zlf q := List.forall_mem_cons.mpr ⟨zl304, List.forall_mem_cons.mpr ⟨zl305, List.forall_mem_cons.mpr ⟨zl306, List.forall_mem_cons.mpr ⟨zl307, List.forall_mem_cons.mpr ⟨zl308, List.forall_mem_cons.mpr ⟨zl309, List.forall_mem_cons.mpr ⟨zl310, List.forall_mem_cons.mpr ⟨zl311, List.forall_mem_cons.mpr ⟨zl312, List.forall_mem_cons.mpr ⟨zl313, List.forall_mem_cons.mpr ⟨zl314, List.forall_mem_cons.mpr ⟨zl315, List.forall_mem_cons.mpr ⟨zl316, List.forall_mem_cons.mpr ⟨zl317, List.forall_mem_cons.mpr ⟨zl318, List.forall_mem_cons.mpr ⟨zl319, fun _ h => absurd h List.not_mem_nil⟩⟩⟩⟩⟩⟩⟩⟩⟩⟩⟩⟩⟩⟩⟩⟩
def zLL20 : List (Nat × Nat × Nat × Nat) := [(16, 154, 350, 1), (16, 157, 205, 0), (16, 158, 351, 1), (16, 161, 234, 0), (16, 162, 352, 1), (16, 164, 332, 0), (16, 165, 127, 0), (16, 168, 235, 0), (16, 169, 128, 0), (16, 172, 236, 0), (16, 173, 353, 1), (16, 175, 241, 0), (16, 176, 354, 1), (16, 178, 242, 0), (16, 179, 355, 1), (16, 181, 243, 0)]
theorem zLR20 : ∀ q ∈ zLL20, zlf q := List.forall_mem_cons.mpr ⟨zl320, List.forall_mem_cons.mpr ⟨zl321, List.forall_mem_cons.mpr ⟨zl322, List.forall_mem_cons.mpr ⟨zl323, List.forall_mem_cons.mpr ⟨zl324, List.forall_mem_cons.mpr ⟨zl325, List.forall_mem_cons.mpr ⟨zl326, List.forall_mem_cons.mpr ⟨zl327, List.forall_mem_cons.mpr ⟨zl328, List.forall_mem_cons.mpr ⟨zl329, List.forall_mem_cons.mpr ⟨zl330, List.forall_mem_cons.mpr ⟨zl331, List.forall_mem_cons.mpr ⟨zl332, List.forall_mem_cons.mpr ⟨zl333, List.forall_mem_cons.mpr ⟨zl334, List.forall_mem_cons.mpr ⟨zl335, fun _ h => absurd h List.not_mem_nil⟩⟩⟩⟩⟩⟩⟩⟩⟩⟩⟩⟩⟩⟩⟩⟩
def zLL21 : List (Nat × Nat × Nat × Nat) := [(16, 182, 356, 1), (16, 184, 244, 0), (16, 185, 357, 1), (16, 188, 245, 0), (16, 189, 358, 1), (16, 191, 247, 0), (16, 192, 359, 1), (16, 194, 248, 0), (16, 195, 360, 1), (16, 197, 250, 0), (16, 198, 137, 0), (16, 201, 251, 0), (16, 202, 361, 1), (16, 204, 254, 0), (16, 205, 362, 1), (16, 207, 255, 0)]
theorem zLR21 : ∀ q ∈ zLL21, zlf q := List.forall_mem_cons.mpr ⟨zl336, List.forall_mem_cons.mpr ⟨zl337, List.forall_mem_cons.mpr ⟨zl338, List.forall_mem_cons.mpr ⟨zl339, List.forall_mem_cons.mpr ⟨zl340, List.forall_mem_cons.mpr ⟨zl341, List.forall_mem_cons.mpr ⟨zl342, List.forall_mem_cons.mpr ⟨zl343, List.forall_mem_cons.mpr ⟨zl344, List.forall_mem_cons.mpr ⟨zl345, List.forall_mem_cons.mpr ⟨zl346, List.forall_mem_cons.mpr ⟨zl347, List.forall_mem_cons.mpr ⟨zl348, List.forall_mem_cons.mpr ⟨zl349, List.forall_mem_cons.mpr ⟨zl350, List.forall_mem_cons.mpr ⟨zl351, fun _ h => absurd h List.not_mem_nil⟩⟩⟩⟩⟩⟩⟩⟩⟩⟩⟩⟩⟩⟩⟩⟩
def zLL22 : List (Nat × Nat × Nat × Nat) := [(16, 208, 363, 1), (16, 210, 256, 0), (16, 211, 364, 1), (16, 213, 259, 0), (16, 214, 365, 1), (16, 216, 261, 0), (16, 217, 366, 1), (16, 219, 265, 0), (16, 220, 367, 1), (16, 222, 268, 0), (16, 223, 145, 0), (16, 226, 269, 0), (16, 227, 146, 0), (16, 231, 271, 0), (16, 232, 147, 0), (16, 235, 272, 0)]
theorem zLR22 : ∀ q ∈ zLL22, zlf q := List.forall_mem_cons.mpr ⟨zl352, List.forall_mem_cons.mpr ⟨zl353, List.forall_mem_cons.mpr ⟨zl354, List.forall_mem_cons.mpr ⟨zl355, List.forall_mem_cons.mpr ⟨zl356, List.forall_mem_cons.mpr ⟨zl357, List.forall_mem_cons.mpr ⟨zl358, List.forall_mem_cons.mpr ⟨zl359, List.forall_mem_cons.mpr ⟨zl360, List.forall_mem_cons.mpr ⟨zl361, List.forall_mem_cons.mpr ⟨zl362, List.forall_mem_cons.mpr ⟨zl363, List.forall_mem_cons.mpr ⟨zl364, List.forall_mem_cons.mpr ⟨zl365, List.forall_mem_cons.mpr ⟨zl366, List.forall_mem_cons.mpr ⟨zl367, fun _ h => absurd h List.not_mem_nil⟩⟩⟩⟩⟩⟩⟩⟩⟩⟩⟩⟩⟩⟩⟩⟩
def zLL23 : List (Nat × Nat × Nat × Nat) := [(16, 236, 368, 1), (16, 238, 276, 0), (16, 239, 369, 1), (16, 241, 279, 0), (16, 242, 370, 1), (16, 244, 280, 0), (16, 245, 151, 0), (16, 248, 282, 0), (16, 249, 371, 1), (16, 251, 283, 0), (16, 252, 153, 0), (16, 256, 284, 0), (16, 257, 372, 1), (16, 259, 288, 0), (16, 260, 373, 1), (16, 262, 289, 0)]
theorem zLR23 : ∀ q ∈ zLL23, zlf q := List.forall_mem_cons.mpr ⟨zl368, List.forall_mem_cons.mpr ⟨zl369, List.forall_mem_cons.mpr ⟨zl370, List.forall_mem_cons.mpr ⟨zl371, List.forall_mem_cons.mpr ⟨zl372, List.forall_mem_cons.mpr ⟨zl373, List.forall_mem_cons.mpr ⟨zl374, List.forall_mem_cons.mpr ⟨zl375, List.forall_mem_cons.mpr ⟨zl376, List.forall_mem_cons.mpr ⟨zl377, List.forall_mem_cons.mpr ⟨zl378, List.forall_mem_cons.mpr ⟨zl379, List.forall_mem_cons.mpr ⟨zl380, List.forall_mem_cons.mpr ⟨zl381, List.forall_mem_cons.mpr ⟨zl382, List.forall_mem_cons.mpr ⟨zl383, fun _ h => absurd h List.not_mem_nil⟩⟩⟩⟩⟩⟩⟩⟩⟩⟩⟩⟩⟩⟩⟩⟩
def zLL24 : List (Nat × Nat × Nat × Nat) := [(16, 263, 374, 1), (16, 266, 291, 0), (16, 267, 375, 1), (16, 269, 293, 0), (16, 270, 376, 1), (16, 272, 299, 0), (16, 273, 377, 1), (16, 275, 310, 0), (16, 276, 378, 1), (16, 278, 312, 0), (16, 279, 379, 1), (16, 281, 313, 0), (16, 282, 162, 0), (16, 285, 314, 0), (16, 286, 380, 1), (16, 288, 316, 0)]
theorem zLR24 : ∀ q ∈ zLL24, zlf q := List.forall_mem_cons.mpr ⟨zl384, List.forall_mem_cons.mpr ⟨zl385, List.forall_mem_cons.mpr ⟨zl386, List.forall_mem_cons.mpr ⟨zl387, List.forall_mem_cons.mpr ⟨zl388, List.forall_mem_cons.mpr ⟨zl389, List.forall_mem_cons.mpr ⟨zl390, List.forall_mem_cons.mpr ⟨zl391, List.forall_mem_cons.mpr ⟨zl392, List.forall_mem_cons.mpr ⟨zl393, List.forall_mem_cons.mpr ⟨zl394, List.forall_mem_cons.mpr ⟨zl395, List.forall_mem_cons.mpr ⟨zl396, List.forall_mem_cons.mpr ⟨zl397, List.forall_mem_cons.mpr ⟨zl398, List.forall_mem_cons.mpr ⟨zl399, fun _ h => absurd h List.not_mem_nil⟩⟩⟩⟩⟩⟩⟩⟩⟩⟩⟩⟩⟩⟩⟩⟩
def zLL25 : List (Nat × Nat × Nat × Nat) := [(16, 289, 164, 0), (16, 292, 318, 0), (16, 293, 165, 0), (16, 296, 319, 0), (16, 297, 381, 1), (16, 299, 320, 0), (16, 300, 382, 1), (16, 302, 323, 0), (16, 303, 168, 0), (16, 306, 324, 0), (16, 307, 383, 1), (16, 309, 302, 0), (16, 310, 170, 0), (16, 313, 304, 0), (16, 314, 384, 1), (16, 316, 306, 0)]
theorem zLR25 : ∀ q ∈ zLL25, zlf q := List.forall_mem_cons.mpr ⟨zl400, List.forall_mem_cons.mpr ⟨zl401, List.forall_mem_cons.mpr ⟨zl402, List.forall_mem_cons.mpr ⟨zl403, List.forall_mem_cons.mpr ⟨zl404, List.forall_mem_cons.mpr ⟨zl405, List.forall_mem_cons.mpr ⟨zl406, List.forall_mem_cons.mpr ⟨zl407, List.forall_mem_cons.mpr ⟨zl408, List.forall_mem_cons.mpr ⟨zl409, List.forall_mem_cons.mpr ⟨zl410, List.forall_mem_cons.mpr ⟨zl411, List.forall_mem_cons.mpr ⟨zl412, List.forall_mem_cons.mpr ⟨zl413, List.forall_mem_cons.mpr ⟨zl414, List.forall_mem_cons.mpr ⟨zl415, fun _ h => absurd h List.not_mem_nil⟩⟩⟩⟩⟩⟩⟩⟩⟩⟩⟩⟩⟩⟩⟩⟩
def zLL26 : List (Nat × Nat × Nat × Nat) := [(16, 317, 172, 0), (16, 320, 308, 0), (16, 321, 385, 1), (16, 323, 309, 0), (16, 324, 174, 0), (16, 327, 337, 0), (16, 328, 386, 1), (16, 330, 338, 0), (16, 331, 176, 0), (16, 334, 275, 0), (16, 335, 177, 0), (16, 338, 339, 0), (16, 339, 387, 1), (16, 341, 340, 0)]
theorem zLR26 : ∀ q ∈ zLL26, zlf q := List.forall_mem_cons.mpr ⟨zl416, List.forall_mem_cons.mpr ⟨zl417, List.forall_mem_cons.mpr ⟨zl418, List.forall_mem_cons.mpr ⟨zl419, List.forall_mem_cons.mpr ⟨zl420, List.forall_mem_cons.mpr ⟨zl421, List.forall_mem_cons.mpr ⟨zl422, List.forall_mem_cons.mpr ⟨zl423, List.forall_mem_cons.mpr ⟨zl424, List.forall_mem_cons.mpr ⟨zl425, List.forall_mem_cons.mpr ⟨zl426, List.forall_mem_cons.mpr ⟨zl427, List.forall_mem_cons.mpr ⟨zl428, List.forall_mem_cons.mpr ⟨zl429, fun _ h => absurd h List.not_mem_nil⟩⟩⟩⟩⟩⟩⟩⟩⟩⟩⟩⟩⟩⟩
def zLL : List (Nat × Nat × Nat × Nat) := zLL0 ++ (zLL1 ++ (zLL2 ++ (zLL3 ++ (zLL4 ++ (zLL5 ++ (zLL6 ++ (zLL7 ++ (zLL8 ++ (zLL9 ++ (zLL10 ++ (zLL11 ++ (zLL12 ++ (zLL13 ++ (zLL14 ++ (zLL15 ++ (zLL16 ++ (zLL17 ++ (zLL18 ++ (zLL19 ++ (zLL20 ++ (zLL21 ++ (zLL22 ++ (zLL23 ++ (zLL24 ++ (zLL25 ++ (zLL26))))))))))))))))))))))))))
theorem zLR : ∀ q ∈ zLL, zlf q := List.forall_mem_append.mpr ⟨zLR0, List.forall_mem_append.mpr ⟨zLR1, List.forall_mem_append.mpr ⟨zLR2, List.forall_mem_append.mpr ⟨zLR3, List.forall_mem_append.mpr ⟨zLR4, List.forall_mem_append.mpr ⟨zLR5, List.forall_mem_append.mpr ⟨zLR6, List.forall_mem_append.mpr ⟨zLR7, List.forall_mem_append.mpr ⟨zLR8, List.forall_mem_append.mpr ⟨zLR9, List.forall_mem_append.mpr ⟨zLR10, List.forall_mem_append.mpr ⟨zLR11, List.forall_mem_append.mpr ⟨zLR12, List.forall_mem_append.mpr ⟨zLR13, List.forall_mem_append.mpr ⟨zLR14, List.forall_mem_append.mpr ⟨zLR15, List.forall_mem_append.mpr ⟨zLR16, List.forall_mem_append.mpr ⟨zLR17, List.forall_mem_append.mpr ⟨zLR18, List.forall_mem_append.mpr ⟨zLR19, List.forall_mem_append.mpr ⟨zLR20, List.forall_mem_append.mpr ⟨zLR21, List.forall_mem_append.mpr ⟨zLR22, List.forall_mem_append.mpr ⟨zLR23, List.forall_mem_append.mpr ⟨zLR24, List.forall_mem_append.mpr ⟨zLR25, zLR26⟩⟩⟩⟩⟩⟩⟩⟩⟩⟩⟩⟩⟩⟩⟩⟩⟩⟩⟩⟩⟩⟩⟩⟩⟩⟩
