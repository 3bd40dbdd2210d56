/-! ===== the law: its loop (written by wip/whole/gen_c.py) ===== -/
theorem zlast {K : zK} {i : Int} {v : zW} {d : Nat} (h : zwp 388 23 [(2, 2002), (2, 0), (2, 93), (2, 116), (0, z32 (i + 6)), (9, 0), (9, 0), (9, 0)] [] v 238 d K) : zwp 388 2933 [(2, 2002), (2, 0), (2, 93), (2, 116), (0, i), (9, 0), (9, 0), (9, 0)] [] v 238 d K := by
  refine (show (zwp 388 23 [(2, 2002), (2, 0), (2, 93), (2, 116), (0, z32 (i + 6)), (9, 0), (9, 0), (9, 0)] [] v 238 d K) → _ from fun h => show zwp 388 2933 [(2, 2002), (2, 0), (2, 93), (2, 116), (0, i), (9, 0), (9, 0), (9, 0)] [] v 238 d K from zgo_imp zT392_ok (cut := fun pc => Nat.beq pc 23) 400 (show zwp 388 23 [(2, 2002), (2, 0), (2, 93), (2, 116), (0, z32 (i + 6)), (9, 0), (9, 0), (9, 0)] [] v 238 d K from h)) ?_
  exact h
set_option maxHeartbeats 16000000 in
set_option maxRecDepth 100000 in
theorem zhead {K : zK} {i : Int} {w : zW} {c : Nat} (h : (if z32 ((w 2003 0) - 6) < i then K (0, some (0, 1)) w 238 else zif False (0 ≤ i ∧ i < w 2003 0) (if (Int32.ofInt (w 2002 i.toNat) &&& Int32.ofInt 63).toInt = 0 then zwp 388 280 [(2, 2002), (2, 0), (2, 93), (2, 116), (0, i), (9, 0), (9, 0), (9, 0)] [] w 238 c K else if (Int32.ofInt (w 2002 i.toNat) &&& Int32.ofInt 63).toInt = 1 then zwp 388 384 [(2, 2002), (2, 0), (2, 93), (2, 116), (0, i), (9, 0), (9, 0), (9, 0)] [] w 238 c K else if (Int32.ofInt (w 2002 i.toNat) &&& Int32.ofInt 63).toInt = 2 then zwp 388 440 [(2, 2002), (2, 0), (2, 93), (2, 116), (0, i), (9, 0), (9, 0), (9, 0)] [] w 238 c K else if (Int32.ofInt (w 2002 i.toNat) &&& Int32.ofInt 63).toInt = 3 then zwp 388 484 [(2, 2002), (2, 0), (2, 93), (2, 116), (0, i), (9, 0), (9, 0), (9, 0)] [] w 238 c K else if (Int32.ofInt (w 2002 i.toNat) &&& Int32.ofInt 63).toInt = 4 then zwp 388 528 [(2, 2002), (2, 0), (2, 93), (2, 116), (0, i), (9, 0), (9, 0), (9, 0)] [] w 238 c K else if (Int32.ofInt (w 2002 i.toNat) &&& Int32.ofInt 63).toInt = 5 then zwp 388 541 [(2, 2002), (2, 0), (2, 93), (2, 116), (0, i), (9, 0), (9, 0), (9, 0)] [] w 238 c K else if (Int32.ofInt (w 2002 i.toNat) &&& Int32.ofInt 63).toInt = 6 then zwp 388 554 [(2, 2002), (2, 0), (2, 93), (2, 116), (0, i), (9, 0), (9, 0), (9, 0)] [] w 238 c K else if (Int32.ofInt (w 2002 i.toNat) &&& Int32.ofInt 63).toInt = 7 then zwp 388 610 [(2, 2002), (2, 0), (2, 93), (2, 116), (0, i), (9, 0), (9, 0), (9, 0)] [] w 238 c K else if (Int32.ofInt (w 2002 i.toNat) &&& Int32.ofInt 63).toInt = 8 then zwp 388 666 [(2, 2002), (2, 0), (2, 93), (2, 116), (0, i), (9, 0), (9, 0), (9, 0)] [] w 238 c K else if (Int32.ofInt (w 2002 i.toNat) &&& Int32.ofInt 63).toInt = 9 then zwp 388 722 [(2, 2002), (2, 0), (2, 93), (2, 116), (0, i), (9, 0), (9, 0), (9, 0)] [] w 238 c K else if (Int32.ofInt (w 2002 i.toNat) &&& Int32.ofInt 63).toInt = 10 then zwp 388 778 [(2, 2002), (2, 0), (2, 93), (2, 116), (0, i), (9, 0), (9, 0), (9, 0)] [] w 238 c K else if (Int32.ofInt (w 2002 i.toNat) &&& Int32.ofInt 63).toInt = 11 then zwp 388 846 [(2, 2002), (2, 0), (2, 93), (2, 116), (0, i), (9, 0), (9, 0), (9, 0)] [] w 238 c K else if (Int32.ofInt (w 2002 i.toNat) &&& Int32.ofInt 63).toInt = 12 then zwp 388 914 [(2, 2002), (2, 0), (2, 93), (2, 116), (0, i), (9, 0), (9, 0), (9, 0)] [] w 238 c K else if (Int32.ofInt (w 2002 i.toNat) &&& Int32.ofInt 63).toInt = 13 then zwp 388 982 [(2, 2002), (2, 0), (2, 93), (2, 116), (0, i), (9, 0), (9, 0), (9, 0)] [] w 238 c K else if (Int32.ofInt (w 2002 i.toNat) &&& Int32.ofInt 63).toInt = 14 then zwp 388 1050 [(2, 2002), (2, 0), (2, 93), (2, 116), (0, i), (9, 0), (9, 0), (9, 0)] [] w 238 c K else if (Int32.ofInt (w 2002 i.toNat) &&& Int32.ofInt 63).toInt = 15 then zwp 388 1063 [(2, 2002), (2, 0), (2, 93), (2, 116), (0, i), (9, 0), (9, 0), (9, 0)] [] w 238 c K else if (Int32.ofInt (w 2002 i.toNat) &&& Int32.ofInt 63).toInt = 16 then zwp 388 1131 [(2, 2002), (2, 0), (2, 93), (2, 116), (0, i), (9, 0), (9, 0), (9, 0)] [] w 238 c K else if (Int32.ofInt (w 2002 i.toNat) &&& Int32.ofInt 63).toInt = 17 then zwp 388 1186 [(2, 2002), (2, 0), (2, 93), (2, 116), (0, i), (9, 0), (9, 0), (9, 0)] [] w 238 c K else if (Int32.ofInt (w 2002 i.toNat) &&& Int32.ofInt 63).toInt = 18 then zwp 388 1253 [(2, 2002), (2, 0), (2, 93), (2, 116), (0, i), (9, 0), (9, 0), (9, 0)] [] w 238 c K else if (Int32.ofInt (w 2002 i.toNat) &&& Int32.ofInt 63).toInt = 19 then zwp 388 1309 [(2, 2002), (2, 0), (2, 93), (2, 116), (0, i), (9, 0), (9, 0), (9, 0)] [] w 238 c K else if (Int32.ofInt (w 2002 i.toNat) &&& Int32.ofInt 63).toInt = 20 then zwp 388 1376 [(2, 2002), (2, 0), (2, 93), (2, 116), (0, i), (9, 0), (9, 0), (9, 0)] [] w 238 c K else if (Int32.ofInt (w 2002 i.toNat) &&& Int32.ofInt 63).toInt = 21 then zwp 388 1431 [(2, 2002), (2, 0), (2, 93), (2, 116), (0, i), (9, 0), (9, 0), (9, 0)] [] w 238 c K else if (Int32.ofInt (w 2002 i.toNat) &&& Int32.ofInt 63).toInt = 22 then zwp 388 1486 [(2, 2002), (2, 0), (2, 93), (2, 116), (0, i), (9, 0), (9, 0), (9, 0)] [] w 238 c K else if (Int32.ofInt (w 2002 i.toNat) &&& Int32.ofInt 63).toInt = 23 then zwp 388 1499 [(2, 2002), (2, 0), (2, 93), (2, 116), (0, i), (9, 0), (9, 0), (9, 0)] [] w 238 c K else if (Int32.ofInt (w 2002 i.toNat) &&& Int32.ofInt 63).toInt = 24 then zwp 388 1513 [(2, 2002), (2, 0), (2, 93), (2, 116), (0, i), (9, 0), (9, 0), (9, 0)] [] w 238 c K else if (Int32.ofInt (w 2002 i.toNat) &&& Int32.ofInt 63).toInt = 25 then zwp 388 1527 [(2, 2002), (2, 0), (2, 93), (2, 116), (0, i), (9, 0), (9, 0), (9, 0)] [] w 238 c K else if (Int32.ofInt (w 2002 i.toNat) &&& Int32.ofInt 63).toInt = 26 then zwp 388 1595 [(2, 2002), (2, 0), (2, 93), (2, 116), (0, i), (9, 0), (9, 0), (9, 0)] [] w 238 c K else if (Int32.ofInt (w 2002 i.toNat) &&& Int32.ofInt 63).toInt = 27 then zwp 388 1651 [(2, 2002), (2, 0), (2, 93), (2, 116), (0, i), (9, 0), (9, 0), (9, 0)] [] w 238 c K else if (Int32.ofInt (w 2002 i.toNat) &&& Int32.ofInt 63).toInt = 28 then zwp 388 1707 [(2, 2002), (2, 0), (2, 93), (2, 116), (0, i), (9, 0), (9, 0), (9, 0)] [] w 238 c K else if (Int32.ofInt (w 2002 i.toNat) &&& Int32.ofInt 63).toInt = 29 then zwp 388 1720 [(2, 2002), (2, 0), (2, 93), (2, 116), (0, i), (9, 0), (9, 0), (9, 0)] [] w 238 c K else if (Int32.ofInt (w 2002 i.toNat) &&& Int32.ofInt 63).toInt = 30 then zwp 388 1776 [(2, 2002), (2, 0), (2, 93), (2, 116), (0, i), (9, 0), (9, 0), (9, 0)] [] w 238 c K else if (Int32.ofInt (w 2002 i.toNat) &&& Int32.ofInt 63).toInt = 31 then zwp 388 1789 [(2, 2002), (2, 0), (2, 93), (2, 116), (0, i), (9, 0), (9, 0), (9, 0)] [] w 238 c K else if (Int32.ofInt (w 2002 i.toNat) &&& Int32.ofInt 63).toInt = 32 then zwp 388 1856 [(2, 2002), (2, 0), (2, 93), (2, 116), (0, i), (9, 0), (9, 0), (9, 0)] [] w 238 c K else if (Int32.ofInt (w 2002 i.toNat) &&& Int32.ofInt 63).toInt = 33 then zwp 388 1923 [(2, 2002), (2, 0), (2, 93), (2, 116), (0, i), (9, 0), (9, 0), (9, 0)] [] w 238 c K else if (Int32.ofInt (w 2002 i.toNat) &&& Int32.ofInt 63).toInt = 34 then zwp 388 2010 [(2, 2002), (2, 0), (2, 93), (2, 116), (0, i), (9, 0), (9, 0), (9, 0)] [] w 238 c K else if (Int32.ofInt (w 2002 i.toNat) &&& Int32.ofInt 63).toInt = 35 then zwp 388 2066 [(2, 2002), (2, 0), (2, 93), (2, 116), (0, i), (9, 0), (9, 0), (9, 0)] [] w 238 c K else if (Int32.ofInt (w 2002 i.toNat) &&& Int32.ofInt 63).toInt = 36 then zwp 388 2122 [(2, 2002), (2, 0), (2, 93), (2, 116), (0, i), (9, 0), (9, 0), (9, 0)] [] w 238 c K else if (Int32.ofInt (w 2002 i.toNat) &&& Int32.ofInt 63).toInt = 37 then zwp 388 2185 [(2, 2002), (2, 0), (2, 93), (2, 116), (0, i), (9, 0), (9, 0), (9, 0)] [] w 238 c K else if (Int32.ofInt (w 2002 i.toNat) &&& Int32.ofInt 63).toInt = 38 then zwp 388 2241 [(2, 2002), (2, 0), (2, 93), (2, 116), (0, i), (9, 0), (9, 0), (9, 0)] [] w 238 c K else if (Int32.ofInt (w 2002 i.toNat) &&& Int32.ofInt 63).toInt = 39 then zwp 388 2297 [(2, 2002), (2, 0), (2, 93), (2, 116), (0, i), (9, 0), (9, 0), (9, 0)] [] w 238 c K else if (Int32.ofInt (w 2002 i.toNat) &&& Int32.ofInt 63).toInt = 40 then zwp 388 2322 [(2, 2002), (2, 0), (2, 93), (2, 116), (0, i), (9, 0), (9, 0), (9, 0)] [] w 238 c K else if (Int32.ofInt (w 2002 i.toNat) &&& Int32.ofInt 63).toInt = 41 then zwp 388 2390 [(2, 2002), (2, 0), (2, 93), (2, 116), (0, i), (9, 0), (9, 0), (9, 0)] [] w 238 c K else if (Int32.ofInt (w 2002 i.toNat) &&& Int32.ofInt 63).toInt = 42 then zwp 388 2403 [(2, 2002), (2, 0), (2, 93), (2, 116), (0, i), (9, 0), (9, 0), (9, 0)] [] w 238 c K else if (Int32.ofInt (w 2002 i.toNat) &&& Int32.ofInt 63).toInt = 43 then zwp 388 2416 [(2, 2002), (2, 0), (2, 93), (2, 116), (0, i), (9, 0), (9, 0), (9, 0)] [] w 238 c K else if (Int32.ofInt (w 2002 i.toNat) &&& Int32.ofInt 63).toInt = 44 then zwp 388 2472 [(2, 2002), (2, 0), (2, 93), (2, 116), (0, i), (9, 0), (9, 0), (9, 0)] [] w 238 c K else if (Int32.ofInt (w 2002 i.toNat) &&& Int32.ofInt 63).toInt = 45 then zwp 388 2527 [(2, 2002), (2, 0), (2, 93), (2, 116), (0, i), (9, 0), (9, 0), (9, 0)] [] w 238 c K else if (Int32.ofInt (w 2002 i.toNat) &&& Int32.ofInt 63).toInt = 46 then zwp 388 2540 [(2, 2002), (2, 0), (2, 93), (2, 116), (0, i), (9, 0), (9, 0), (9, 0)] [] w 238 c K else if (Int32.ofInt (w 2002 i.toNat) &&& Int32.ofInt 63).toInt = 47 then zwp 388 2608 [(2, 2002), (2, 0), (2, 93), (2, 116), (0, i), (9, 0), (9, 0), (9, 0)] [] w 238 c K else if (Int32.ofInt (w 2002 i.toNat) &&& Int32.ofInt 63).toInt = 48 then zwp 388 2621 [(2, 2002), (2, 0), (2, 93), (2, 116), (0, i), (9, 0), (9, 0), (9, 0)] [] w 238 c K else if (Int32.ofInt (w 2002 i.toNat) &&& Int32.ofInt 63).toInt = 49 then zwp 388 2677 [(2, 2002), (2, 0), (2, 93), (2, 116), (0, i), (9, 0), (9, 0), (9, 0)] [] w 238 c K else if (Int32.ofInt (w 2002 i.toNat) &&& Int32.ofInt 63).toInt = 50 then zwp 388 2714 [(2, 2002), (2, 0), (2, 93), (2, 116), (0, i), (9, 0), (9, 0), (9, 0)] [] w 238 c K else if (Int32.ofInt (w 2002 i.toNat) &&& Int32.ofInt 63).toInt = 51 then zwp 388 2794 [(2, 2002), (2, 0), (2, 93), (2, 116), (0, i), (9, 0), (9, 0), (9, 0)] [] w 238 c K else if (Int32.ofInt (w 2002 i.toNat) &&& Int32.ofInt 63).toInt = 52 then zwp 388 2807 [(2, 2002), (2, 0), (2, 93), (2, 116), (0, i), (9, 0), (9, 0), (9, 0)] [] w 238 c K else if (Int32.ofInt (w 2002 i.toNat) &&& Int32.ofInt 63).toInt = 53 then zwp 388 2863 [(2, 2002), (2, 0), (2, 93), (2, 116), (0, i), (9, 0), (9, 0), (9, 0)] [] w 238 c K else if (Int32.ofInt (w 2002 i.toNat) &&& Int32.ofInt 63).toInt = 54 then zwp 388 2876 [(2, 2002), (2, 0), (2, 93), (2, 116), (0, i), (9, 0), (9, 0), (9, 0)] [] w 238 c K else if (Int32.ofInt (w 2002 i.toNat) &&& Int32.ofInt 63).toInt = 55 then zwp 388 2889 [(2, 2002), (2, 0), (2, 93), (2, 116), (0, i), (9, 0), (9, 0), (9, 0)] [] w 238 c K else zwp 388 2933 [(2, 2002), (2, 0), (2, 93), (2, 116), (0, i), (9, 0), (9, 0), (9, 0)] [] w 238 c K))) : zwp 388 23 [(2, 2002), (2, 0), (2, 93), (2, 116), (0, i), (9, 0), (9, 0), (9, 0)] [] w 238 c K := by
  refine (show (if z32 ((w 2003 0) - 6) < i then K (0, some (0, 1)) w 238 else zif False (0 ≤ i ∧ i < w 2003 0) (if (Int32.ofInt (w 2002 i.toNat) &&& Int32.ofInt 63).toInt = 0 then zwp 388 280 [(2, 2002), (2, 0), (2, 93), (2, 116), (0, i), (9, 0), (9, 0), (9, 0)] [] w 238 c K else if (Int32.ofInt (w 2002 i.toNat) &&& Int32.ofInt 63).toInt = 1 then zwp 388 384 [(2, 2002), (2, 0), (2, 93), (2, 116), (0, i), (9, 0), (9, 0), (9, 0)] [] w 238 c K else if (Int32.ofInt (w 2002 i.toNat) &&& Int32.ofInt 63).toInt = 2 then zwp 388 440 [(2, 2002), (2, 0), (2, 93), (2, 116), (0, i), (9, 0), (9, 0), (9, 0)] [] w 238 c K else if (Int32.ofInt (w 2002 i.toNat) &&& Int32.ofInt 63).toInt = 3 then zwp 388 484 [(2, 2002), (2, 0), (2, 93), (2, 116), (0, i), (9, 0), (9, 0), (9, 0)] [] w 238 c K else if (Int32.ofInt (w 2002 i.toNat) &&& Int32.ofInt 63).toInt = 4 then zwp 388 528 [(2, 2002), (2, 0), (2, 93), (2, 116), (0, i), (9, 0), (9, 0), (9, 0)] [] w 238 c K else if (Int32.ofInt (w 2002 i.toNat) &&& Int32.ofInt 63).toInt = 5 then zwp 388 541 [(2, 2002), (2, 0), (2, 93), (2, 116), (0, i), (9, 0), (9, 0), (9, 0)] [] w 238 c K else if (Int32.ofInt (w 2002 i.toNat) &&& Int32.ofInt 63).toInt = 6 then zwp 388 554 [(2, 2002), (2, 0), (2, 93), (2, 116), (0, i), (9, 0), (9, 0), (9, 0)] [] w 238 c K else if (Int32.ofInt (w 2002 i.toNat) &&& Int32.ofInt 63).toInt = 7 then zwp 388 610 [(2, 2002), (2, 0), (2, 93), (2, 116), (0, i), (9, 0), (9, 0), (9, 0)] [] w 238 c K else if (Int32.ofInt (w 2002 i.toNat) &&& Int32.ofInt 63).toInt = 8 then zwp 388 666 [(2, 2002), (2, 0), (2, 93), (2, 116), (0, i), (9, 0), (9, 0), (9, 0)] [] w 238 c K else if (Int32.ofInt (w 2002 i.toNat) &&& Int32.ofInt 63).toInt = 9 then zwp 388 722 [(2, 2002), (2, 0), (2, 93), (2, 116), (0, i), (9, 0), (9, 0), (9, 0)] [] w 238 c K else if (Int32.ofInt (w 2002 i.toNat) &&& Int32.ofInt 63).toInt = 10 then zwp 388 778 [(2, 2002), (2, 0), (2, 93), (2, 116), (0, i), (9, 0), (9, 0), (9, 0)] [] w 238 c K else if (Int32.ofInt (w 2002 i.toNat) &&& Int32.ofInt 63).toInt = 11 then zwp 388 846 [(2, 2002), (2, 0), (2, 93), (2, 116), (0, i), (9, 0), (9, 0), (9, 0)] [] w 238 c K else if (Int32.ofInt (w 2002 i.toNat) &&& Int32.ofInt 63).toInt = 12 then zwp 388 914 [(2, 2002), (2, 0), (2, 93), (2, 116), (0, i), (9, 0), (9, 0), (9, 0)] [] w 238 c K else if (Int32.ofInt (w 2002 i.toNat) &&& Int32.ofInt 63).toInt = 13 then zwp 388 982 [(2, 2002), (2, 0), (2, 93), (2, 116), (0, i), (9, 0), (9, 0), (9, 0)] [] w 238 c K else if (Int32.ofInt (w 2002 i.toNat) &&& Int32.ofInt 63).toInt = 14 then zwp 388 1050 [(2, 2002), (2, 0), (2, 93), (2, 116), (0, i), (9, 0), (9, 0), (9, 0)] [] w 238 c K else if (Int32.ofInt (w 2002 i.toNat) &&& Int32.ofInt 63).toInt = 15 then zwp 388 1063 [(2, 2002), (2, 0), (2, 93), (2, 116), (0, i), (9, 0), (9, 0), (9, 0)] [] w 238 c K else if (Int32.ofInt (w 2002 i.toNat) &&& Int32.ofInt 63).toInt = 16 then zwp 388 1131 [(2, 2002), (2, 0), (2, 93), (2, 116), (0, i), (9, 0), (9, 0), (9, 0)] [] w 238 c K else if (Int32.ofInt (w 2002 i.toNat) &&& Int32.ofInt 63).toInt = 17 then zwp 388 1186 [(2, 2002), (2, 0), (2, 93), (2, 116), (0, i), (9, 0), (9, 0), (9, 0)] [] w 238 c K else if (Int32.ofInt (w 2002 i.toNat) &&& Int32.ofInt 63).toInt = 18 then zwp 388 1253 [(2, 2002), (2, 0), (2, 93), (2, 116), (0, i), (9, 0), (9, 0), (9, 0)] [] w 238 c K else if (Int32.ofInt (w 2002 i.toNat) &&& Int32.ofInt 63).toInt = 19 then zwp 388 1309 [(2, 2002), (2, 0), (2, 93), (2, 116), (0, i), (9, 0), (9, 0), (9, 0)] [] w 238 c K else if (Int32.ofInt (w 2002 i.toNat) &&& Int32.ofInt 63).toInt = 20 then zwp 388 1376 [(2, 2002), (2, 0), (2, 93), (2, 116), (0, i), (9, 0), (9, 0), (9, 0)] [] w 238 c K else if (Int32.ofInt (w 2002 i.toNat) &&& Int32.ofInt 63).toInt = 21 then zwp 388 1431 [(2, 2002), (2, 0), (2, 93), (2, 116), (0, i), (9, 0), (9, 0), (9, 0)] [] w 238 c K else if (Int32.ofInt (w 2002 i.toNat) &&& Int32.ofInt 63).toInt = 22 then zwp 388 1486 [(2, 2002), (2, 0), (2, 93), (2, 116), (0, i), (9, 0), (9, 0), (9, 0)] [] w 238 c K else if (Int32.ofInt (w 2002 i.toNat) &&& Int32.ofInt 63).toInt = 23 then zwp 388 1499 [(2, 2002), (2, 0), (2, 93), (2, 116), (0, i), (9, 0), (9, 0), (9, 0)] [] w 238 c K else if (Int32.ofInt (w 2002 i.toNat) &&& Int32.ofInt 63).toInt = 24 then zwp 388 1513 [(2, 2002), (2, 0), (2, 93), (2, 116), (0, i), (9, 0), (9, 0), (9, 0)] [] w 238 c K else if (Int32.ofInt (w 2002 i.toNat) &&& Int32.ofInt 63).toInt = 25 then zwp 388 1527 [(2, 2002), (2, 0), (2, 93), (2, 116), (0, i), (9, 0), (9, 0), (9, 0)] [] w 238 c K else if (Int32.ofInt (w 2002 i.toNat) &&& Int32.ofInt 63).toInt = 26 then zwp 388 1595 [(2, 2002), (2, 0), (2, 93), (2, 116), (0, i), (9, 0), (9, 0), (9, 0)] [] w 238 c K else if (Int32.ofInt (w 2002 i.toNat) &&& Int32.ofInt 63).toInt = 27 then zwp 388 1651 [(2, 2002), (2, 0), (2, 93), (2, 116), (0, i), (9, 0), (9, 0), (9, 0)] [] w 238 c K else if (Int32.ofInt (w 2002 i.toNat) &&& Int32.ofInt 63).toInt = 28 then zwp 388 1707 [(2, 2002), (2, 0), (2, 93), (2, 116), (0, i), (9, 0), (9, 0), (9, 0)] [] w 238 c K else if (Int32.ofInt (w 2002 i.toNat) &&& Int32.ofInt 63).toInt = 29 then zwp 388 1720 [(2, 2002), (2, 0), (2, 93), (2, 116), (0, i), (9, 0), (9, 0), (9, 0)] [] w 238 c K else if (Int32.ofInt (w 2002 i.toNat) &&& Int32.ofInt 63).toInt = 30 then zwp 388 1776 [(2, 2002), (2, 0), (2, 93), (2, 116), (0, i), (9, 0), (9, 0), (9, 0)] [] w 238 c K else if (Int32.ofInt (w 2002 i.toNat) &&& Int32.ofInt 63).toInt = 31 then zwp 388 1789 [(2, 2002), (2, 0), (2, 93), (2, 116), (0, i), (9, 0), (9, 0), (9, 0)] [] w 238 c K else if (Int32.ofInt (w 2002 i.toNat) &&& Int32.ofInt 63).toInt = 32 then zwp 388 1856 [(2, 2002), (2, 0), (2, 93), (2, 116), (0, i), (9, 0), (9, 0), (9, 0)] [] w 238 c K else if (Int32.ofInt (w 2002 i.toNat) &&& Int32.ofInt 63).toInt = 33 then zwp 388 1923 [(2, 2002), (2, 0), (2, 93), (2, 116), (0, i), (9, 0), (9, 0), (9, 0)] [] w 238 c K else if (Int32.ofInt (w 2002 i.toNat) &&& Int32.ofInt 63).toInt = 34 then zwp 388 2010 [(2, 2002), (2, 0), (2, 93), (2, 116), (0, i), (9, 0), (9, 0), (9, 0)] [] w 238 c K else if (Int32.ofInt (w 2002 i.toNat) &&& Int32.ofInt 63).toInt = 35 then zwp 388 2066 [(2, 2002), (2, 0), (2, 93), (2, 116), (0, i), (9, 0), (9, 0), (9, 0)] [] w 238 c K else if (Int32.ofInt (w 2002 i.toNat) &&& Int32.ofInt 63).toInt = 36 then zwp 388 2122 [(2, 2002), (2, 0), (2, 93), (2, 116), (0, i), (9, 0), (9, 0), (9, 0)] [] w 238 c K else if (Int32.ofInt (w 2002 i.toNat) &&& Int32.ofInt 63).toInt = 37 then zwp 388 2185 [(2, 2002), (2, 0), (2, 93), (2, 116), (0, i), (9, 0), (9, 0), (9, 0)] [] w 238 c K else if (Int32.ofInt (w 2002 i.toNat) &&& Int32.ofInt 63).toInt = 38 then zwp 388 2241 [(2, 2002), (2, 0), (2, 93), (2, 116), (0, i), (9, 0), (9, 0), (9, 0)] [] w 238 c K else if (Int32.ofInt (w 2002 i.toNat) &&& Int32.ofInt 63).toInt = 39 then zwp 388 2297 [(2, 2002), (2, 0), (2, 93), (2, 116), (0, i), (9, 0), (9, 0), (9, 0)] [] w 238 c K else if (Int32.ofInt (w 2002 i.toNat) &&& Int32.ofInt 63).toInt = 40 then zwp 388 2322 [(2, 2002), (2, 0), (2, 93), (2, 116), (0, i), (9, 0), (9, 0), (9, 0)] [] w 238 c K else if (Int32.ofInt (w 2002 i.toNat) &&& Int32.ofInt 63).toInt = 41 then zwp 388 2390 [(2, 2002), (2, 0), (2, 93), (2, 116), (0, i), (9, 0), (9, 0), (9, 0)] [] w 238 c K else if (Int32.ofInt (w 2002 i.toNat) &&& Int32.ofInt 63).toInt = 42 then zwp 388 2403 [(2, 2002), (2, 0), (2, 93), (2, 116), (0, i), (9, 0), (9, 0), (9, 0)] [] w 238 c K else if (Int32.ofInt (w 2002 i.toNat) &&& Int32.ofInt 63).toInt = 43 then zwp 388 2416 [(2, 2002), (2, 0), (2, 93), (2, 116), (0, i), (9, 0), (9, 0), (9, 0)] [] w 238 c K else if (Int32.ofInt (w 2002 i.toNat) &&& Int32.ofInt 63).toInt = 44 then zwp 388 2472 [(2, 2002), (2, 0), (2, 93), (2, 116), (0, i), (9, 0), (9, 0), (9, 0)] [] w 238 c K else if (Int32.ofInt (w 2002 i.toNat) &&& Int32.ofInt 63).toInt = 45 then zwp 388 2527 [(2, 2002), (2, 0), (2, 93), (2, 116), (0, i), (9, 0), (9, 0), (9, 0)] [] w 238 c K else if (Int32.ofInt (w 2002 i.toNat) &&& Int32.ofInt 63).toInt = 46 then zwp 388 2540 [(2, 2002), (2, 0), (2, 93), (2, 116), (0, i), (9, 0), (9, 0), (9, 0)] [] w 238 c K else if (Int32.ofInt (w 2002 i.toNat) &&& Int32.ofInt 63).toInt = 47 then zwp 388 2608 [(2, 2002), (2, 0), (2, 93), (2, 116), (0, i), (9, 0), (9, 0), (9, 0)] [] w 238 c K else if (Int32.ofInt (w 2002 i.toNat) &&& Int32.ofInt 63).toInt = 48 then zwp 388 2621 [(2, 2002), (2, 0), (2, 93), (2, 116), (0, i), (9, 0), (9, 0), (9, 0)] [] w 238 c K else if (Int32.ofInt (w 2002 i.toNat) &&& Int32.ofInt 63).toInt = 49 then zwp 388 2677 [(2, 2002), (2, 0), (2, 93), (2, 116), (0, i), (9, 0), (9, 0), (9, 0)] [] w 238 c K else if (Int32.ofInt (w 2002 i.toNat) &&& Int32.ofInt 63).toInt = 50 then zwp 388 2714 [(2, 2002), (2, 0), (2, 93), (2, 116), (0, i), (9, 0), (9, 0), (9, 0)] [] w 238 c K else if (Int32.ofInt (w 2002 i.toNat) &&& Int32.ofInt 63).toInt = 51 then zwp 388 2794 [(2, 2002), (2, 0), (2, 93), (2, 116), (0, i), (9, 0), (9, 0), (9, 0)] [] w 238 c K else if (Int32.ofInt (w 2002 i.toNat) &&& Int32.ofInt 63).toInt = 52 then zwp 388 2807 [(2, 2002), (2, 0), (2, 93), (2, 116), (0, i), (9, 0), (9, 0), (9, 0)] [] w 238 c K else if (Int32.ofInt (w 2002 i.toNat) &&& Int32.ofInt 63).toInt = 53 then zwp 388 2863 [(2, 2002), (2, 0), (2, 93), (2, 116), (0, i), (9, 0), (9, 0), (9, 0)] [] w 238 c K else if (Int32.ofInt (w 2002 i.toNat) &&& Int32.ofInt 63).toInt = 54 then zwp 388 2876 [(2, 2002), (2, 0), (2, 93), (2, 116), (0, i), (9, 0), (9, 0), (9, 0)] [] w 238 c K else if (Int32.ofInt (w 2002 i.toNat) &&& Int32.ofInt 63).toInt = 55 then zwp 388 2889 [(2, 2002), (2, 0), (2, 93), (2, 116), (0, i), (9, 0), (9, 0), (9, 0)] [] w 238 c K else zwp 388 2933 [(2, 2002), (2, 0), (2, 93), (2, 116), (0, i), (9, 0), (9, 0), (9, 0)] [] w 238 c K)) → _ from fun h => show zwp 388 23 [(2, 2002), (2, 0), (2, 93), (2, 116), (0, i), (9, 0), (9, 0), (9, 0)] [] w 238 c K from zgo_imp zT392_ok (cut := fun pc => Nat.beq pc 280 || Nat.beq pc 384 || Nat.beq pc 440 || Nat.beq pc 484 || Nat.beq pc 528 || Nat.beq pc 541 || Nat.beq pc 554 || Nat.beq pc 610 || Nat.beq pc 666 || Nat.beq pc 722 || Nat.beq pc 778 || Nat.beq pc 846 || Nat.beq pc 914 || Nat.beq pc 982 || Nat.beq pc 1050 || Nat.beq pc 1063 || Nat.beq pc 1131 || Nat.beq pc 1186 || Nat.beq pc 1253 || Nat.beq pc 1309 || Nat.beq pc 1376 || Nat.beq pc 1431 || Nat.beq pc 1486 || Nat.beq pc 1499 || Nat.beq pc 1513 || Nat.beq pc 1527 || Nat.beq pc 1595 || Nat.beq pc 1651 || Nat.beq pc 1707 || Nat.beq pc 1720 || Nat.beq pc 1776 || Nat.beq pc 1789 || Nat.beq pc 1856 || Nat.beq pc 1923 || Nat.beq pc 2010 || Nat.beq pc 2066 || Nat.beq pc 2122 || Nat.beq pc 2185 || Nat.beq pc 2241 || Nat.beq pc 2297 || Nat.beq pc 2322 || Nat.beq pc 2390 || Nat.beq pc 2403 || Nat.beq pc 2416 || Nat.beq pc 2472 || Nat.beq pc 2527 || Nat.beq pc 2540 || Nat.beq pc 2608 || Nat.beq pc 2621 || Nat.beq pc 2677 || Nat.beq pc 2714 || Nat.beq pc 2794 || Nat.beq pc 2807 || Nat.beq pc 2863 || Nat.beq pc 2876 || Nat.beq pc 2889 || Nat.beq pc 2933) 400 (show if z32 ((w 2003 0) - 6) < i then K (0, some (0, 1)) w 238 else zif False (0 ≤ i ∧ i < w 2003 0) (if (Int32.ofInt (w 2002 i.toNat) &&& Int32.ofInt 63).toInt = 0 then zwp 388 280 [(2, 2002), (2, 0), (2, 93), (2, 116), (0, i), (9, 0), (9, 0), (9, 0)] [] w 238 c K else if (Int32.ofInt (w 2002 i.toNat) &&& Int32.ofInt 63).toInt = 1 then zwp 388 384 [(2, 2002), (2, 0), (2, 93), (2, 116), (0, i), (9, 0), (9, 0), (9, 0)] [] w 238 c K else if (Int32.ofInt (w 2002 i.toNat) &&& Int32.ofInt 63).toInt = 2 then zwp 388 440 [(2, 2002), (2, 0), (2, 93), (2, 116), (0, i), (9, 0), (9, 0), (9, 0)] [] w 238 c K else if (Int32.ofInt (w 2002 i.toNat) &&& Int32.ofInt 63).toInt = 3 then zwp 388 484 [(2, 2002), (2, 0), (2, 93), (2, 116), (0, i), (9, 0), (9, 0), (9, 0)] [] w 238 c K else if (Int32.ofInt (w 2002 i.toNat) &&& Int32.ofInt 63).toInt = 4 then zwp 388 528 [(2, 2002), (2, 0), (2, 93), (2, 116), (0, i), (9, 0), (9, 0), (9, 0)] [] w 238 c K else if (Int32.ofInt (w 2002 i.toNat) &&& Int32.ofInt 63).toInt = 5 then zwp 388 541 [(2, 2002), (2, 0), (2, 93), (2, 116), (0, i), (9, 0), (9, 0), (9, 0)] [] w 238 c K else if (Int32.ofInt (w 2002 i.toNat) &&& Int32.ofInt 63).toInt = 6 then zwp 388 554 [(2, 2002), (2, 0), (2, 93), (2, 116), (0, i), (9, 0), (9, 0), (9, 0)] [] w 238 c K else if (Int32.ofInt (w 2002 i.toNat) &&& Int32.ofInt 63).toInt = 7 then zwp 388 610 [(2, 2002), (2, 0), (2, 93), (2, 116), (0, i), (9, 0), (9, 0), (9, 0)] [] w 238 c K else if (Int32.ofInt (w 2002 i.toNat) &&& Int32.ofInt 63).toInt = 8 then zwp 388 666 [(2, 2002), (2, 0), (2, 93), (2, 116), (0, i), (9, 0), (9, 0), (9, 0)] [] w 238 c K else if (Int32.ofInt (w 2002 i.toNat) &&& Int32.ofInt 63).toInt = 9 then zwp 388 722 [(2, 2002), (2, 0), (2, 93), (2, 116), (0, i), (9, 0), (9, 0), (9, 0)] [] w 238 c K else if (Int32.ofInt (w 2002 i.toNat) &&& Int32.ofInt 63).toInt = 10 then zwp 388 778 [(2, 2002), (2, 0), (2, 93), (2, 116), (0, i), (9, 0), (9, 0), (9, 0)] [] w 238 c K else if (Int32.ofInt (w 2002 i.toNat) &&& Int32.ofInt 63).toInt = 11 then zwp 388 846 [(2, 2002), (2, 0), (2, 93), (2, 116), (0, i), (9, 0), (9, 0), (9, 0)] [] w 238 c K else if (Int32.ofInt (w 2002 i.toNat) &&& Int32.ofInt 63).toInt = 12 then zwp 388 914 [(2, 2002), (2, 0), (2, 93), (2, 116), (0, i), (9, 0), (9, 0), (9, 0)] [] w 238 c K else if (Int32.ofInt (w 2002 i.toNat) &&& Int32.ofInt 63).toInt = 13 then zwp 388 982 [(2, 2002), (2, 0), (2, 93), (2, 116), (0, i), (9, 0), (9, 0), (9, 0)] [] w 238 c K else if (Int32.ofInt (w 2002 i.toNat) &&& Int32.ofInt 63).toInt = 14 then zwp 388 1050 [(2, 2002), (2, 0), (2, 93), (2, 116), (0, i), (9, 0), (9, 0), (9, 0)] [] w 238 c K else if (Int32.ofInt (w 2002 i.toNat) &&& Int32.ofInt 63).toInt = 15 then zwp 388 1063 [(2, 2002), (2, 0), (2, 93), (2, 116), (0, i), (9, 0), (9, 0), (9, 0)] [] w 238 c K else if (Int32.ofInt (w 2002 i.toNat) &&& Int32.ofInt 63).toInt = 16 then zwp 388 1131 [(2, 2002), (2, 0), (2, 93), (2, 116), (0, i), (9, 0), (9, 0), (9, 0)] [] w 238 c K else if (Int32.ofInt (w 2002 i.toNat) &&& Int32.ofInt 63).toInt = 17 then zwp 388 1186 [(2, 2002), (2, 0), (2, 93), (2, 116), (0, i), (9, 0), (9, 0), (9, 0)] [] w 238 c K else if (Int32.ofInt (w 2002 i.toNat) &&& Int32.ofInt 63).toInt = 18 then zwp 388 1253 [(2, 2002), (2, 0), (2, 93), (2, 116), (0, i), (9, 0), (9, 0), (9, 0)] [] w 238 c K else if (Int32.ofInt (w 2002 i.toNat) &&& Int32.ofInt 63).toInt = 19 then zwp 388 1309 [(2, 2002), (2, 0), (2, 93), (2, 116), (0, i), (9, 0), (9, 0), (9, 0)] [] w 238 c K else if (Int32.ofInt (w 2002 i.toNat) &&& Int32.ofInt 63).toInt = 20 then zwp 388 1376 [(2, 2002), (2, 0), (2, 93), (2, 116), (0, i), (9, 0), (9, 0), (9, 0)] [] w 238 c K else if (Int32.ofInt (w 2002 i.toNat) &&& Int32.ofInt 63).toInt = 21 then zwp 388 1431 [(2, 2002), (2, 0), (2, 93), (2, 116), (0, i), (9, 0), (9, 0), (9, 0)] [] w 238 c K else if (Int32.ofInt (w 2002 i.toNat) &&& Int32.ofInt 63).toInt = 22 then zwp 388 1486 [(2, 2002), (2, 0), (2, 93), (2, 116), (0, i), (9, 0), (9, 0), (9, 0)] [] w 238 c K else if (Int32.ofInt (w 2002 i.toNat) &&& Int32.ofInt 63).toInt = 23 then zwp 388 1499 [(2, 2002), (2, 0), (2, 93), (2, 116), (0, i), (9, 0), (9, 0), (9, 0)] [] w 238 c K else if (Int32.ofInt (w 2002 i.toNat) &&& Int32.ofInt 63).toInt = 24 then zwp 388 1513 [(2, 2002), (2, 0), (2, 93), (2, 116), (0, i), (9, 0), (9, 0), (9, 0)] [] w 238 c K else if (Int32.ofInt (w 2002 i.toNat) &&& Int32.ofInt 63).toInt = 25 then zwp 388 1527 [(2, 2002), (2, 0), (2, 93), (2, 116), (0, i), (9, 0), (9, 0), (9, 0)] [] w 238 c K else if (Int32.ofInt (w 2002 i.toNat) &&& Int32.ofInt 63).toInt = 26 then zwp 388 1595 [(2, 2002), (2, 0), (2, 93), (2, 116), (0, i), (9, 0), (9, 0), (9, 0)] [] w 238 c K else if (Int32.ofInt (w 2002 i.toNat) &&& Int32.ofInt 63).toInt = 27 then zwp 388 1651 [(2, 2002), (2, 0), (2, 93), (2, 116), (0, i), (9, 0), (9, 0), (9, 0)] [] w 238 c K else if (Int32.ofInt (w 2002 i.toNat) &&& Int32.ofInt 63).toInt = 28 then zwp 388 1707 [(2, 2002), (2, 0), (2, 93), (2, 116), (0, i), (9, 0), (9, 0), (9, 0)] [] w 238 c K else if (Int32.ofInt (w 2002 i.toNat) &&& Int32.ofInt 63).toInt = 29 then zwp 388 1720 [(2, 2002), (2, 0), (2, 93), (2, 116), (0, i), (9, 0), (9, 0), (9, 0)] [] w 238 c K else if (Int32.ofInt (w 2002 i.toNat) &&& Int32.ofInt 63).toInt = 30 then zwp 388 1776 [(2, 2002), (2, 0), (2, 93), (2, 116), (0, i), (9, 0), (9, 0), (9, 0)] [] w 238 c K else if (Int32.ofInt (w 2002 i.toNat) &&& Int32.ofInt 63).toInt = 31 then zwp 388 1789 [(2, 2002), (2, 0), (2, 93), (2, 116), (0, i), (9, 0), (9, 0), (9, 0)] [] w 238 c K else if (Int32.ofInt (w 2002 i.toNat) &&& Int32.ofInt 63).toInt = 32 then zwp 388 1856 [(2, 2002), (2, 0), (2, 93), (2, 116), (0, i), (9, 0), (9, 0), (9, 0)] [] w 238 c K else if (Int32.ofInt (w 2002 i.toNat) &&& Int32.ofInt 63).toInt = 33 then zwp 388 1923 [(2, 2002), (2, 0), (2, 93), (2, 116), (0, i), (9, 0), (9, 0), (9, 0)] [] w 238 c K else if (Int32.ofInt (w 2002 i.toNat) &&& Int32.ofInt 63).toInt = 34 then zwp 388 2010 [(2, 2002), (2, 0), (2, 93), (2, 116), (0, i), (9, 0), (9, 0), (9, 0)] [] w 238 c K else if (Int32.ofInt (w 2002 i.toNat) &&& Int32.ofInt 63).toInt = 35 then zwp 388 2066 [(2, 2002), (2, 0), (2, 93), (2, 116), (0, i), (9, 0), (9, 0), (9, 0)] [] w 238 c K else if (Int32.ofInt (w 2002 i.toNat) &&& Int32.ofInt 63).toInt = 36 then zwp 388 2122 [(2, 2002), (2, 0), (2, 93), (2, 116), (0, i), (9, 0), (9, 0), (9, 0)] [] w 238 c K else if (Int32.ofInt (w 2002 i.toNat) &&& Int32.ofInt 63).toInt = 37 then zwp 388 2185 [(2, 2002), (2, 0), (2, 93), (2, 116), (0, i), (9, 0), (9, 0), (9, 0)] [] w 238 c K else if (Int32.ofInt (w 2002 i.toNat) &&& Int32.ofInt 63).toInt = 38 then zwp 388 2241 [(2, 2002), (2, 0), (2, 93), (2, 116), (0, i), (9, 0), (9, 0), (9, 0)] [] w 238 c K else if (Int32.ofInt (w 2002 i.toNat) &&& Int32.ofInt 63).toInt = 39 then zwp 388 2297 [(2, 2002), (2, 0), (2, 93), (2, 116), (0, i), (9, 0), (9, 0), (9, 0)] [] w 238 c K else if (Int32.ofInt (w 2002 i.toNat) &&& Int32.ofInt 63).toInt = 40 then zwp 388 2322 [(2, 2002), (2, 0), (2, 93), (2, 116), (0, i), (9, 0), (9, 0), (9, 0)] [] w 238 c K else if (Int32.ofInt (w 2002 i.toNat) &&& Int32.ofInt 63).toInt = 41 then zwp 388 2390 [(2, 2002), (2, 0), (2, 93), (2, 116), (0, i), (9, 0), (9, 0), (9, 0)] [] w 238 c K else if (Int32.ofInt (w 2002 i.toNat) &&& Int32.ofInt 63).toInt = 42 then zwp 388 2403 [(2, 2002), (2, 0), (2, 93), (2, 116), (0, i), (9, 0), (9, 0), (9, 0)] [] w 238 c K else if (Int32.ofInt (w 2002 i.toNat) &&& Int32.ofInt 63).toInt = 43 then zwp 388 2416 [(2, 2002), (2, 0), (2, 93), (2, 116), (0, i), (9, 0), (9, 0), (9, 0)] [] w 238 c K else if (Int32.ofInt (w 2002 i.toNat) &&& Int32.ofInt 63).toInt = 44 then zwp 388 2472 [(2, 2002), (2, 0), (2, 93), (2, 116), (0, i), (9, 0), (9, 0), (9, 0)] [] w 238 c K else if (Int32.ofInt (w 2002 i.toNat) &&& Int32.ofInt 63).toInt = 45 then zwp 388 2527 [(2, 2002), (2, 0), (2, 93), (2, 116), (0, i), (9, 0), (9, 0), (9, 0)] [] w 238 c K else if (Int32.ofInt (w 2002 i.toNat) &&& Int32.ofInt 63).toInt = 46 then zwp 388 2540 [(2, 2002), (2, 0), (2, 93), (2, 116), (0, i), (9, 0), (9, 0), (9, 0)] [] w 238 c K else if (Int32.ofInt (w 2002 i.toNat) &&& Int32.ofInt 63).toInt = 47 then zwp 388 2608 [(2, 2002), (2, 0), (2, 93), (2, 116), (0, i), (9, 0), (9, 0), (9, 0)] [] w 238 c K else if (Int32.ofInt (w 2002 i.toNat) &&& Int32.ofInt 63).toInt = 48 then zwp 388 2621 [(2, 2002), (2, 0), (2, 93), (2, 116), (0, i), (9, 0), (9, 0), (9, 0)] [] w 238 c K else if (Int32.ofInt (w 2002 i.toNat) &&& Int32.ofInt 63).toInt = 49 then zwp 388 2677 [(2, 2002), (2, 0), (2, 93), (2, 116), (0, i), (9, 0), (9, 0), (9, 0)] [] w 238 c K else if (Int32.ofInt (w 2002 i.toNat) &&& Int32.ofInt 63).toInt = 50 then zwp 388 2714 [(2, 2002), (2, 0), (2, 93), (2, 116), (0, i), (9, 0), (9, 0), (9, 0)] [] w 238 c K else if (Int32.ofInt (w 2002 i.toNat) &&& Int32.ofInt 63).toInt = 51 then zwp 388 2794 [(2, 2002), (2, 0), (2, 93), (2, 116), (0, i), (9, 0), (9, 0), (9, 0)] [] w 238 c K else if (Int32.ofInt (w 2002 i.toNat) &&& Int32.ofInt 63).toInt = 52 then zwp 388 2807 [(2, 2002), (2, 0), (2, 93), (2, 116), (0, i), (9, 0), (9, 0), (9, 0)] [] w 238 c K else if (Int32.ofInt (w 2002 i.toNat) &&& Int32.ofInt 63).toInt = 53 then zwp 388 2863 [(2, 2002), (2, 0), (2, 93), (2, 116), (0, i), (9, 0), (9, 0), (9, 0)] [] w 238 c K else if (Int32.ofInt (w 2002 i.toNat) &&& Int32.ofInt 63).toInt = 54 then zwp 388 2876 [(2, 2002), (2, 0), (2, 93), (2, 116), (0, i), (9, 0), (9, 0), (9, 0)] [] w 238 c K else if (Int32.ofInt (w 2002 i.toNat) &&& Int32.ofInt 63).toInt = 55 then zwp 388 2889 [(2, 2002), (2, 0), (2, 93), (2, 116), (0, i), (9, 0), (9, 0), (9, 0)] [] w 238 c K else zwp 388 2933 [(2, 2002), (2, 0), (2, 93), (2, 116), (0, i), (9, 0), (9, 0), (9, 0)] [] w 238 c K) from h)) ?_
  exact h
set_option maxHeartbeats 16000000 in
theorem zloop {K : zK} (hK : ∀ v, K (0, some (0, 1)) v 238) : ∀ (n : Nat) (i : Int) (w : zW) (c : Nat), zJv w → 0 ≤ i ∧ i ≤ 4000 → 0 ≤ w 2003 0 ∧ w 2003 0 ≤ 3072 → w 2003 0 - i < 6 * n + 6 → (∀ j, zr32 (w 2002 j)) → 5 * n ≤ c → zwp 388 23 [(2, 2002), (2, 0), (2, 93), (2, 116), (0, i), (9, 0), (9, 0), (9, 0)] [] w 238 c K := by
  intro n
  induction n with
  | zero =>
    intro i w c J h0 h1 h2 hS hc
    have e : z32 (w 2003 0 - 6) = w 2003 0 - 6 := z32_id ⟨by omega, by omega⟩
    exact zhead (ziT (by omega) (hK w))
  | succ n ih =>
    intro i w c J h0 h1 h2 hS hc
    have e : z32 (w 2003 0 - 6) = w 2003 0 - 6 := z32_id ⟨by omega, by omega⟩
    by_cases g : z32 (w 2003 0 - 6) < i
    · exact zhead (ziT g (hK w))
    obtain ⟨c', hc'⟩ : ∃ c', c = c' + 5 := ⟨c - 5, by omega⟩
    subst hc'
    have hL : 0 ≤ i ∧ i + 6 ≤ w 2003 0 ∧ w 2003 0 ≤ 3072 := ⟨h0.1, by omega, h1.2⟩
    have next : ∀ (v : zW) (d : Nat), zJv v → v 2002 = w 2002 → v 2003 = w 2003 → c' ≤ d → zwp 388 2933 [(2, 2002), (2, 0), (2, 93), (2, 116), (0, i), (9, 0), (9, 0), (9, 0)] [] v 238 d K := fun v d Jv e1 e2 hd => by
      refine zlast ?_
      rw [z32_id (x := i + 6) ⟨by omega, by omega⟩]
      exact ih (i + 6) v d Jv (by omega) (by rw [e2]; exact h1) (by rw [e2]; omega) (by rw [e1]; exact hS) (by omega)
    refine zhead (ziF g (zifI (by omega) ?_))
    generalize (Int32.ofInt (w 2002 i.toNat) &&& Int32.ofInt 63).toInt = X
    by_cases q0 : X = 0
    · exact ziT q0 (zlw0 J hL hS next)
    refine ziF q0 ?_
    by_cases q1 : X = 1
    · exact ziT q1 (zlw1 J hL hS next)
    refine ziF q1 ?_
    by_cases q2 : X = 2
    · exact ziT q2 (zlw2 J hL hS next)
    refine ziF q2 ?_
    by_cases q3 : X = 3
    · exact ziT q3 (zlw3 J hL hS next)
    refine ziF q3 ?_
    by_cases q4 : X = 4
    · exact ziT q4 (zlw4 J hL hS next)
    refine ziF q4 ?_
    by_cases q5 : X = 5
    · exact ziT q5 (zlw5 J hL hS next)
    refine ziF q5 ?_
    by_cases q6 : X = 6
    · exact ziT q6 (zlw6 J hL hS next)
    refine ziF q6 ?_
    by_cases q7 : X = 7
    · exact ziT q7 (zlw7 J hL hS next)
    refine ziF q7 ?_
    by_cases q8 : X = 8
    · exact ziT q8 (zlw8 J hL hS next)
    refine ziF q8 ?_
    by_cases q9 : X = 9
    · exact ziT q9 (zlw9 J hL hS next)
    refine ziF q9 ?_
    by_cases q10 : X = 10
    · exact ziT q10 (zlw10 J hL hS next)
    refine ziF q10 ?_
    by_cases q11 : X = 11
    · exact ziT q11 (zlw11 J hL hS next)
    refine ziF q11 ?_
    by_cases q12 : X = 12
    · exact ziT q12 (zlw12 J hL hS next)
    refine ziF q12 ?_
    by_cases q13 : X = 13
    · exact ziT q13 (zlw13 J hL hS next)
    refine ziF q13 ?_
    by_cases q14 : X = 14
    · exact ziT q14 (zlw14 J hL hS next)
    refine ziF q14 ?_
    by_cases q15 : X = 15
    · exact ziT q15 (zlw15 J hL hS next)
    refine ziF q15 ?_
    by_cases q16 : X = 16
    · exact ziT q16 (zlw16 J hL hS next)
    refine ziF q16 ?_
    by_cases q17 : X = 17
    · exact ziT q17 (zlw17 J hL hS next)
    refine ziF q17 ?_
    by_cases q18 : X = 18
    · exact ziT q18 (zlw18 J hL hS next)
    refine ziF q18 ?_
    by_cases q19 : X = 19
    · exact ziT q19 (zlw19 J hL hS next)
    refine ziF q19 ?_
    by_cases q20 : X = 20
    · exact ziT q20 (zlw20 J hL hS next)
    refine ziF q20 ?_
    by_cases q21 : X = 21
    · exact ziT q21 (zlw21 J hL hS next)
    refine ziF q21 ?_
    by_cases q22 : X = 22
    · exact ziT q22 (zlw22 J hL hS next)
    refine ziF q22 ?_
    by_cases q23 : X = 23
    · exact ziT q23 (zlw23 J hL hS next)
    refine ziF q23 ?_
    by_cases q24 : X = 24
    · exact ziT q24 (zlw24 J hL hS next)
    refine ziF q24 ?_
    by_cases q25 : X = 25
    · exact ziT q25 (zlw25 J hL hS next)
    refine ziF q25 ?_
    by_cases q26 : X = 26
    · exact ziT q26 (zlw26 J hL hS next)
    refine ziF q26 ?_
    by_cases q27 : X = 27
    · exact ziT q27 (zlw27 J hL hS next)
    refine ziF q27 ?_
    by_cases q28 : X = 28
    · exact ziT q28 (zlw28 J hL hS next)
    refine ziF q28 ?_
    by_cases q29 : X = 29
    · exact ziT q29 (zlw29 J hL hS next)
    refine ziF q29 ?_
    by_cases q30 : X = 30
    · exact ziT q30 (zlw30 J hL hS next)
    refine ziF q30 ?_
    by_cases q31 : X = 31
    · exact ziT q31 (zlw31 J hL hS next)
    refine ziF q31 ?_
    by_cases q32 : X = 32
    · exact ziT q32 (zlw32 J hL hS next)
    refine ziF q32 ?_
    by_cases q33 : X = 33
    · exact ziT q33 (zlw33 J hL hS next)
    refine ziF q33 ?_
    by_cases q34 : X = 34
    · exact ziT q34 (zlw34 J hL hS next)
    refine ziF q34 ?_
    by_cases q35 : X = 35
    · exact ziT q35 (zlw35 J hL hS next)
    refine ziF q35 ?_
    by_cases q36 : X = 36
    · exact ziT q36 (zlw36 J hL hS next)
    refine ziF q36 ?_
    by_cases q37 : X = 37
    · exact ziT q37 (zlw37 J hL hS next)
    refine ziF q37 ?_
    by_cases q38 : X = 38
    · exact ziT q38 (zlw38 J hL hS next)
    refine ziF q38 ?_
    by_cases q39 : X = 39
    · exact ziT q39 (zlw39 J hL hS next)
    refine ziF q39 ?_
    by_cases q40 : X = 40
    · exact ziT q40 (zlw40 J hL hS next)
    refine ziF q40 ?_
    by_cases q41 : X = 41
    · exact ziT q41 (zlw41 J hL hS next)
    refine ziF q41 ?_
    by_cases q42 : X = 42
    · exact ziT q42 (zlw42 J hL hS next)
    refine ziF q42 ?_
    by_cases q43 : X = 43
    · exact ziT q43 (zlw43 J hL hS next)
    refine ziF q43 ?_
    by_cases q44 : X = 44
    · exact ziT q44 (zlw44 J hL hS next)
    refine ziF q44 ?_
    by_cases q45 : X = 45
    · exact ziT q45 (zlw45 J hL hS next)
    refine ziF q45 ?_
    by_cases q46 : X = 46
    · exact ziT q46 (zlw46 J hL hS next)
    refine ziF q46 ?_
    by_cases q47 : X = 47
    · exact ziT q47 (zlw47 J hL hS next)
    refine ziF q47 ?_
    by_cases q48 : X = 48
    · exact ziT q48 (zlw48 J hL hS next)
    refine ziF q48 ?_
    by_cases q49 : X = 49
    · exact ziT q49 (zlw49 J hL hS next)
    refine ziF q49 ?_
    by_cases q50 : X = 50
    · exact ziT q50 (zlw50 J hL hS next)
    refine ziF q50 ?_
    by_cases q51 : X = 51
    · exact ziT q51 (zlw51 J hL hS next)
    refine ziF q51 ?_
    by_cases q52 : X = 52
    · exact ziT q52 (zlw52 J hL hS next)
    refine ziF q52 ?_
    by_cases q53 : X = 53
    · exact ziT q53 (zlw53 J hL hS next)
    refine ziF q53 ?_
    by_cases q54 : X = 54
    · exact ziT q54 (zlw54 J hL hS next)
    refine ziF q54 ?_
    by_cases q55 : X = 55
    · exact ziT q55 (zlw55 J hL hS next)
    refine ziF q55 ?_
    exact next w (c' + 5) J rfl rfl (by omega)
