/-! ===== the class reads a part of a script (written by wip/whole/gen_c.py) ===== -/
/-- the counts of the script agree: entries, commands, open repeats -/
def zSK (w : zW) : Prop := (0 ≤ w 23 6 ∧ 0 ≤ w 23 8 ∧ w 23 8 ≤ 2) ∧ w 23 6 + w 23 8 ≤ 2 * w 23 7 ∧ w 23 7 ≤ 30
def zkN (w : zW) : zW := zupd w 23 7 (w 23 7 + 1)
noncomputable def zkB (w : zW) : Int × zW := if (zkR (zkN w)).1 = 0 then (0, (zkR (zkN w)).2) else zps (zkR (zkN w)).2 59
noncomputable def zkO (w : zW) : Int × zW := if zcmd (w 3 4) then (if w 3 4 = 1013 ∧ 2 ≤ w 23 8 then (0, zfl w 3) else if 30 ≤ w 23 7 then (0, zfl w 5) else if w 3 4 = 1013 then zoR (zkN w) else zkB w) else (0, zfl w 1)
noncomputable def zkP (w : zW) : Int × zW := if w 3 1 = 41 ∧ 0 < w 23 8 then zcR w else zkO w
theorem zkR_k (w : zW) : ((zkR w).2 23 6 = w 23 6 ∨ (zkR w).2 23 6 = w 23 6 + 1) ∧ (zkR w).2 23 7 = w 23 7 ∧ (zkR w).2 23 8 = w 23 8 := by
  unfold zkR
  repeat' split
  all_goals first | exact ⟨Or.inl rfl, rfl, rfl⟩ | exact ⟨Or.inr rfl, rfl, rfl⟩
theorem zkR_PT {w : zW} (t0 : zPT w) (v0 : 1007 ≤ w 3 4 ∧ w 3 4 < 1013) : zPT (zkR w).2 := by
  have k0 : w 3 1 ≠ -1 := by have := t0.wd (by omega); omega
  have t1 := t0.ad k0
  have t2 : zad w 3 4 = 1001 → zPT (zad (zad w)) := fun q => t1.ad (by have := t1.wd (by omega); omega)
  unfold zkR
  repeat' split
  all_goals first | exact t1 | exact t2 (by assumption) | exact t1.pn (x := zwf 2 (w 3 4 - 1000).toNat) (y := zwf 3 (w 3 4 - 1000).toNat) | exact (t2 (by assumption)).pn (x := zwf 2 (w 3 4 - 1000).toNat) (y := zwf 3 (w 3 4 - 1000).toNat)
theorem zkB_01 (w : zW) : (zkB w).1 = 0 ∨ (zkB w).1 = 1 := by
  unfold zkB
  split
  · exact Or.inl rfl
  · exact zps_01 _ _
theorem zkO_01 (w : zW) : (zkO w).1 = 0 ∨ (zkO w).1 = 1 := by
  unfold zkO
  repeat' split
  all_goals first | exact Or.inl rfl | exact zoR_01 _ | exact zkB_01 _
theorem zkP_01 (w : zW) : (zkP w).1 = 0 ∨ (zkP w).1 = 1 := by
  unfold zkP
  split
  · exact zcR_01 w
  · exact zkO_01 w
/-- after a part the token and the counts are still in order -/
theorem zoR_n {w : zW} (t : zPT w) (k : w 3 1 ≠ -1) : zPT (zoR w).2 ∧ ((zoR w).2 23 6 = w 23 6 ∨ (zoR w).2 23 6 = w 23 6 + 1) ∧ (zoR w).2 23 7 = w 23 7 ∧ (zoR w).2 23 8 = w 23 8 + 1 := by
  have t1 : zPT (zoV w) := zPT.ad (w := zupd (zupd w 28 (w 23 8).toNat (w 23 6)) 23 8 (w 23 8 + 1)) t k
  unfold zoR
  split
  · exact ⟨t1.pn (x := 1) (y := 10), Or.inl rfl, rfl, rfl⟩
  · exact ⟨zPT.ps (w := zae (zpn (zoV w) 1 10).2 1013 (-1) (zoV w 3 6)) (t1.pn (x := 1) (y := 10)) (by decide), Or.inr rfl, rfl, rfl⟩
theorem zcR_n {w : zW} (t : zPT w) (k : w 3 1 ≠ -1) : zPT (zcR w).2 ∧ (zcR w).2 23 6 = w 23 6 + 1 ∧ (zcR w).2 23 7 = w 23 7 ∧ (zcR w).2 23 8 = w 23 8 - 1 := by
  have t1 : zPT (zcV w) := zPT.ad (w := zae (zupd w 23 8 (w 23 8 - 1)) 1014 (-1) (w 28 (w 23 8 - 1).toNat)) t k
  exact ⟨t1.ps (by decide), rfl, rfl, rfl⟩
theorem zkB_n {w : zW} (t : zPT w) (v0 : 1007 ≤ w 3 4 ∧ w 3 4 < 1013) : zPT (zkB w).2 ∧ ((zkB w).2 23 6 = w 23 6 ∨ (zkB w).2 23 6 = w 23 6 + 1) ∧ (zkB w).2 23 7 = w 23 7 + 1 ∧ (zkB w).2 23 8 = w 23 8 := by
  have t1 : zPT (zkR (zkN w)).2 := zkR_PT (w := zkN w) t v0
  have e := zkR_k (zkN w)
  unfold zkB
  split
  · exact ⟨t1, e.1, e.2.1, e.2.2⟩
  · exact ⟨t1.ps (by decide), e.1, e.2.1, e.2.2⟩
theorem zkP_n {w : zW} (t : zPT w) (s : zSK w) : zPT (zkP w).2 ∧ zSK (zkP w).2 := by
  have f := t.lin (n := w 1 1) rfl
  unfold zSK at s
  unfold zkP
  by_cases g : w 3 1 = 41 ∧ 0 < w 23 8
  · rw [if_pos g]
    have r := zcR_n t (by omega)
    refine ⟨r.1, ?_⟩
    unfold zSK
    rw [r.2.1, r.2.2.1, r.2.2.2]
    omega
  · rw [if_neg g]
    unfold zkO
    by_cases g1 : zcmd (w 3 4)
    · rw [if_pos g1]
      by_cases g2 : w 3 4 = 1013 ∧ 2 ≤ w 23 8
      · rw [if_pos g2]; exact ⟨t, s⟩
      · rw [if_neg g2]
        by_cases g3 : 30 ≤ w 23 7
        · rw [if_pos g3]; exact ⟨t, s⟩
        · rw [if_neg g3]
          by_cases g4 : w 3 4 = 1013
          · rw [if_pos g4]
            have r := zoR_n (w := zkN w) t (by show w 3 1 ≠ -1; omega)
            refine ⟨r.1, ?_⟩
            have e7 : (zoR (zkN w)).2 23 7 = w 23 7 + 1 := r.2.2.1
            have e8 : (zoR (zkN w)).2 23 8 = w 23 8 + 1 := r.2.2.2
            have e6 : (zoR (zkN w)).2 23 6 = w 23 6 ∨ (zoR (zkN w)).2 23 6 = w 23 6 + 1 := r.2.1
            unfold zSK
            rw [e7, e8]
            omega
          · rw [if_neg g4]
            have r := zkB_n t (by omega)
            refine ⟨r.1, ?_⟩
            unfold zSK
            rw [r.2.2.1, r.2.2.2]
            have e6 := r.2.1
            omega
    · rw [if_neg g1]; exact ⟨t, s⟩
set_option maxRecDepth 100000 in
theorem zk76_B24 {w : zW} {K : zK}  (t0 : zPT w) (s0 : zSK w) (hn : 0 ≤ w 4 0 ∧ w 4 0 ≤ 12) (h : K (0, some (0, (zkO w).1)) (zkO w).2 238) : zwp 76 24 [(2, 23), (2, 4)] [] w 238 0 K := by
  revert h
  intro h
  refine (show (zif False (0 ≤ w 3 4) (((1000 : Int) ≤ (w 3 4) ∧ (w 3 4) < (1015 : Int)) ∧ (if ((if zcmd (w 3 4) then 1 else 0) : Int) = 0 then K (0, some (0, 0)) (zupd (zupd w 3 7 1) 3 8 (w 3 2)) 238 else zif False (0 ≤ w 3 4) (zif False (1000 ≤ w 3 4 ∧ w 3 4 < 1015) (if w 3 4 = 1013 then if w 23 8 < 2 then if w 23 7 < 30 then zif False (0 ≤ w 3 4) (zif False (1000 ≤ w 3 4 ∧ w 3 4 < 1015) (if w 3 4 = 1013 then (zPT (zupd w 23 7 (z32 ((w 23 7) + 1))) ∧ (w 3 1) ≠ (-1 : Int) ∧ (0 ≤ (w 23 6) ∧ (w 23 6) < 60) ∧ 0 ≤ (w 23 8) ∧ (w 23 8) < 2) ∧ (zif False (0 ≤ (zoR (zupd w 23 7 (z32 ((w 23 7) + 1)))).1 ∧ (zoR (zupd w 23 7 (z32 ((w 23 7) + 1)))).1 < 2) (K (0, some (0, (zoR (zupd w 23 7 (z32 ((w 23 7) + 1)))).1)) ((zoR (zupd w 23 7 (z32 ((w 23 7) + 1)))).2) 238)) else (zPT (zupd w 23 7 (z32 ((w 23 7) + 1))) ∧ (1007 ≤ (w 3 4) ∧ (w 3 4) < 1013) ∧ (0 ≤ (w 4 0) ∧ (w 4 0) ≤ 12) ∧ 0 ≤ (w 23 6) ∧ (w 23 6) < 60) ∧ (if (zkR (zupd w 23 7 (z32 ((w 23 7) + 1)))).1 = 0 then K (0, some (0, 0)) ((zkR (zupd w 23 7 (z32 ((w 23 7) + 1)))).2) 238 else (zPT ((zkR (zupd w 23 7 (z32 ((w 23 7) + 1)))).2) ∧ (59 : Int) ≠ (-1 : Int)) ∧ (if (zps ((zkR (zupd w 23 7 (z32 ((w 23 7) + 1)))).2) (59 : Int)).1 = 0 then K (0, some (0, 0)) ((zps ((zkR (zupd w 23 7 (z32 ((w 23 7) + 1)))).2) (59 : Int)).2) 238 else K (0, some (0, 1)) ((zps ((zkR (zupd w 23 7 (z32 ((w 23 7) + 1)))).2) (59 : Int)).2) 238)))) else K (0, some (0, 0)) (zupd (zupd w 3 7 5) 3 8 (w 3 2)) 238 else K (0, some (0, 0)) (zupd (zupd w 3 7 3) 3 8 (w 3 2)) 238 else if w 23 7 < 30 then zif False (0 ≤ w 3 4) (zif False (1000 ≤ w 3 4 ∧ w 3 4 < 1015) (if w 3 4 = 1013 then (zPT (zupd w 23 7 (z32 ((w 23 7) + 1))) ∧ (w 3 1) ≠ (-1 : Int) ∧ (0 ≤ (w 23 6) ∧ (w 23 6) < 60) ∧ 0 ≤ (w 23 8) ∧ (w 23 8) < 2) ∧ (zif False (0 ≤ (zoR (zupd w 23 7 (z32 ((w 23 7) + 1)))).1 ∧ (zoR (zupd w 23 7 (z32 ((w 23 7) + 1)))).1 < 2) (K (0, some (0, (zoR (zupd w 23 7 (z32 ((w 23 7) + 1)))).1)) ((zoR (zupd w 23 7 (z32 ((w 23 7) + 1)))).2) 238)) else (zPT (zupd w 23 7 (z32 ((w 23 7) + 1))) ∧ (1007 ≤ (w 3 4) ∧ (w 3 4) < 1013) ∧ (0 ≤ (w 4 0) ∧ (w 4 0) ≤ 12) ∧ 0 ≤ (w 23 6) ∧ (w 23 6) < 60) ∧ (if (zkR (zupd w 23 7 (z32 ((w 23 7) + 1)))).1 = 0 then K (0, some (0, 0)) ((zkR (zupd w 23 7 (z32 ((w 23 7) + 1)))).2) 238 else (zPT ((zkR (zupd w 23 7 (z32 ((w 23 7) + 1)))).2) ∧ (59 : Int) ≠ (-1 : Int)) ∧ (if (zps ((zkR (zupd w 23 7 (z32 ((w 23 7) + 1)))).2) (59 : Int)).1 = 0 then K (0, some (0, 0)) ((zps ((zkR (zupd w 23 7 (z32 ((w 23 7) + 1)))).2) (59 : Int)).2) 238 else K (0, some (0, 1)) ((zps ((zkR (zupd w 23 7 (z32 ((w 23 7) + 1)))).2) (59 : Int)).2) 238)))) else K (0, some (0, 0)) (zupd (zupd w 3 7 5) 3 8 (w 3 2)) 238))))) → _ from fun h => show zwp 76 24 [(2, 23), (2, 4)] [] w 238 0 K from zgo_imp zT223_ok (cut := fun pc => Nat.beq pc 20 || Nat.beq pc 23 || Nat.beq pc 34 || Nat.beq pc 45 || Nat.beq pc 64 || Nat.beq pc 75 || Nat.beq pc 93 || Nat.beq pc 108 || Nat.beq pc 121 || Nat.beq pc 129 || Nat.beq pc 141) 400 (show zif False (0 ≤ w 3 4) (((1000 : Int) ≤ (w 3 4) ∧ (w 3 4) < (1015 : Int)) ∧ (zwp 76 34 [(2, 23), (2, 4)] [(0, ((if zcmd (w 3 4) then 1 else 0) : Int))] w 238 0 K)) from zmZ (fun h => zmA (fun h => (fun h => show zwp 76 34 [(2, 23), (2, 4)] [(0, ((if zcmd (w 3 4) then 1 else 0) : Int))] w 238 0 K from zgo_imp zT223_ok (cut := fun pc => Nat.beq pc 20 || Nat.beq pc 23 || Nat.beq pc 34 || Nat.beq pc 45 || Nat.beq pc 64 || Nat.beq pc 75 || Nat.beq pc 93 || Nat.beq pc 108 || Nat.beq pc 121 || Nat.beq pc 129 || Nat.beq pc 141) 400 (show if ((if zcmd (w 3 4) then 1 else 0) : Int) = 0 then zwp 76 45 [(2, 23), (2, 4)] [(0, 0)] (zupd (zupd w 3 7 1) 3 8 (w 3 2)) 238 0 K else zif False (0 ≤ w 3 4) (zif False (1000 ≤ w 3 4 ∧ w 3 4 < 1015) (if w 3 4 = 1013 then zwp 76 64 [(2, 23), (2, 4)] [(0, 2), (0, w 23 8)] w 238 0 K else if w 23 7 < 30 then zwp 76 108 [(2, 23), (2, 4)] [(2, 3)] (zupd w 23 7 (z32 ((w 23 7) + 1))) 238 0 K else zwp 76 93 [(2, 23), (2, 4)] [(0, 0)] (zupd (zupd w 3 7 5) 3 8 (w 3 2)) 238 0 K)) from zmI (fun h => (fun h => show zwp 76 45 [(2, 23), (2, 4)] [(0, 0)] (zupd (zupd w 3 7 1) 3 8 (w 3 2)) 238 0 K from zgo_imp zT223_ok (cut := fun pc => Nat.beq pc 20 || Nat.beq pc 23 || Nat.beq pc 34 || Nat.beq pc 45 || Nat.beq pc 64 || Nat.beq pc 75 || Nat.beq pc 93 || Nat.beq pc 108 || Nat.beq pc 121 || Nat.beq pc 129 || Nat.beq pc 141) 400 (show K (0, some (0, 0)) (zupd (zupd w 3 7 1) 3 8 (w 3 2)) 238 from h)) h) (fun h => zmZ (fun h => zmZ (fun h => zmI (fun h => (fun h => show zwp 76 64 [(2, 23), (2, 4)] [(0, 2), (0, w 23 8)] w 238 0 K from zgo_imp zT223_ok (cut := fun pc => Nat.beq pc 20 || Nat.beq pc 23 || Nat.beq pc 34 || Nat.beq pc 45 || Nat.beq pc 64 || Nat.beq pc 75 || Nat.beq pc 93 || Nat.beq pc 108 || Nat.beq pc 121 || Nat.beq pc 129 || Nat.beq pc 141) 400 (show if w 23 8 < 2 then if w 23 7 < 30 then zwp 76 108 [(2, 23), (2, 4)] [(2, 3)] (zupd w 23 7 (z32 ((w 23 7) + 1))) 238 0 K else zwp 76 93 [(2, 23), (2, 4)] [(0, 0)] (zupd (zupd w 3 7 5) 3 8 (w 3 2)) 238 0 K else zwp 76 75 [(2, 23), (2, 4)] [(0, 0)] (zupd (zupd w 3 7 3) 3 8 (w 3 2)) 238 0 K from zmI (fun h => zmI (fun h => (fun h => show zwp 76 108 [(2, 23), (2, 4)] [(2, 3)] (zupd w 23 7 (z32 ((w 23 7) + 1))) 238 0 K from zgo_imp zT223_ok (cut := fun pc => Nat.beq pc 20 || Nat.beq pc 23 || Nat.beq pc 34 || Nat.beq pc 45 || Nat.beq pc 64 || Nat.beq pc 75 || Nat.beq pc 93 || Nat.beq pc 108 || Nat.beq pc 121 || Nat.beq pc 129 || Nat.beq pc 141) 400 (show zif False (0 ≤ w 3 4) (zif False (1000 ≤ w 3 4 ∧ w 3 4 < 1015) (if w 3 4 = 1013 then (zPT (zupd w 23 7 (z32 ((w 23 7) + 1))) ∧ (w 3 1) ≠ (-1 : Int) ∧ (0 ≤ (w 23 6) ∧ (w 23 6) < 60) ∧ 0 ≤ (w 23 8) ∧ (w 23 8) < 2) ∧ (zwp 76 121 [(2, 23), (2, 4)] [(0, (zoR (zupd w 23 7 (z32 ((w 23 7) + 1)))).1)] ((zoR (zupd w 23 7 (z32 ((w 23 7) + 1)))).2) 238 0 K) else (zPT (zupd w 23 7 (z32 ((w 23 7) + 1))) ∧ (1007 ≤ (w 3 4) ∧ (w 3 4) < 1013) ∧ (0 ≤ (w 4 0) ∧ (w 4 0) ≤ 12) ∧ 0 ≤ (w 23 6) ∧ (w 23 6) < 60) ∧ (zwp 76 129 [(2, 23), (2, 4)] [(0, (zkR (zupd w 23 7 (z32 ((w 23 7) + 1)))).1)] ((zkR (zupd w 23 7 (z32 ((w 23 7) + 1)))).2) 238 0 K))) from zmZ (fun h => zmZ (fun h => zmI (fun h => zmA (fun h => (fun h => show zwp 76 121 [(2, 23), (2, 4)] [(0, (zoR (zupd w 23 7 (z32 ((w 23 7) + 1)))).1)] ((zoR (zupd w 23 7 (z32 ((w 23 7) + 1)))).2) 238 0 K from zgo_imp zT223_ok (cut := fun pc => Nat.beq pc 20 || Nat.beq pc 23 || Nat.beq pc 34 || Nat.beq pc 45 || Nat.beq pc 64 || Nat.beq pc 75 || Nat.beq pc 93 || Nat.beq pc 108 || Nat.beq pc 121 || Nat.beq pc 129 || Nat.beq pc 141) 400 (show zif False (0 ≤ (zoR (zupd w 23 7 (z32 ((w 23 7) + 1)))).1 ∧ (zoR (zupd w 23 7 (z32 ((w 23 7) + 1)))).1 < 2) (K (0, some (0, (zoR (zupd w 23 7 (z32 ((w 23 7) + 1)))).1)) ((zoR (zupd w 23 7 (z32 ((w 23 7) + 1)))).2) 238) from h)) h) h) (fun h => zmA (fun h => (fun h => show zwp 76 129 [(2, 23), (2, 4)] [(0, (zkR (zupd w 23 7 (z32 ((w 23 7) + 1)))).1)] ((zkR (zupd w 23 7 (z32 ((w 23 7) + 1)))).2) 238 0 K from zgo_imp zT223_ok (cut := fun pc => Nat.beq pc 20 || Nat.beq pc 23 || Nat.beq pc 34 || Nat.beq pc 45 || Nat.beq pc 64 || Nat.beq pc 75 || Nat.beq pc 93 || Nat.beq pc 108 || Nat.beq pc 121 || Nat.beq pc 129 || Nat.beq pc 141) 400 (show if (zkR (zupd w 23 7 (z32 ((w 23 7) + 1)))).1 = 0 then K (0, some (0, 0)) ((zkR (zupd w 23 7 (z32 ((w 23 7) + 1)))).2) 238 else (zPT ((zkR (zupd w 23 7 (z32 ((w 23 7) + 1)))).2) ∧ (59 : Int) ≠ (-1 : Int)) ∧ (zwp 76 141 [(2, 23), (2, 4)] [(0, (zps ((zkR (zupd w 23 7 (z32 ((w 23 7) + 1)))).2) (59 : Int)).1)] ((zps ((zkR (zupd w 23 7 (z32 ((w 23 7) + 1)))).2) (59 : Int)).2) 238 0 K) from zmI (fun h => h) (fun h => zmA (fun h => (fun h => show zwp 76 141 [(2, 23), (2, 4)] [(0, (zps ((zkR (zupd w 23 7 (z32 ((w 23 7) + 1)))).2) (59 : Int)).1)] ((zps ((zkR (zupd w 23 7 (z32 ((w 23 7) + 1)))).2) (59 : Int)).2) 238 0 K from zgo_imp zT223_ok (cut := fun pc => Nat.beq pc 20 || Nat.beq pc 23 || Nat.beq pc 34 || Nat.beq pc 45 || Nat.beq pc 64 || Nat.beq pc 75 || Nat.beq pc 93 || Nat.beq pc 108 || Nat.beq pc 121 || Nat.beq pc 129 || Nat.beq pc 141) 400 (show if (zps ((zkR (zupd w 23 7 (z32 ((w 23 7) + 1)))).2) (59 : Int)).1 = 0 then K (0, some (0, 0)) ((zps ((zkR (zupd w 23 7 (z32 ((w 23 7) + 1)))).2) (59 : Int)).2) 238 else K (0, some (0, 1)) ((zps ((zkR (zupd w 23 7 (z32 ((w 23 7) + 1)))).2) (59 : Int)).2) 238 from h)) h) h) h)) h) h) h) h) h)) h) (fun h => (fun h => show zwp 76 93 [(2, 23), (2, 4)] [(0, 0)] (zupd (zupd w 3 7 5) 3 8 (w 3 2)) 238 0 K from zgo_imp zT223_ok (cut := fun pc => Nat.beq pc 20 || Nat.beq pc 23 || Nat.beq pc 34 || Nat.beq pc 45 || Nat.beq pc 64 || Nat.beq pc 75 || Nat.beq pc 93 || Nat.beq pc 108 || Nat.beq pc 121 || Nat.beq pc 129 || Nat.beq pc 141) 400 (show K (0, some (0, 0)) (zupd (zupd w 3 7 5) 3 8 (w 3 2)) 238 from h)) h) h) (fun h => (fun h => show zwp 76 75 [(2, 23), (2, 4)] [(0, 0)] (zupd (zupd w 3 7 3) 3 8 (w 3 2)) 238 0 K from zgo_imp zT223_ok (cut := fun pc => Nat.beq pc 20 || Nat.beq pc 23 || Nat.beq pc 34 || Nat.beq pc 45 || Nat.beq pc 64 || Nat.beq pc 75 || Nat.beq pc 93 || Nat.beq pc 108 || Nat.beq pc 121 || Nat.beq pc 129 || Nat.beq pc 141) 400 (show K (0, some (0, 0)) (zupd (zupd w 3 7 3) 3 8 (w 3 2)) 238 from h)) h) h)) h) (fun h => zmI (fun h => (fun h => show zwp 76 108 [(2, 23), (2, 4)] [(2, 3)] (zupd w 23 7 (z32 ((w 23 7) + 1))) 238 0 K from zgo_imp zT223_ok (cut := fun pc => Nat.beq pc 20 || Nat.beq pc 23 || Nat.beq pc 34 || Nat.beq pc 45 || Nat.beq pc 64 || Nat.beq pc 75 || Nat.beq pc 93 || Nat.beq pc 108 || Nat.beq pc 121 || Nat.beq pc 129 || Nat.beq pc 141) 400 (show zif False (0 ≤ w 3 4) (zif False (1000 ≤ w 3 4 ∧ w 3 4 < 1015) (if w 3 4 = 1013 then (zPT (zupd w 23 7 (z32 ((w 23 7) + 1))) ∧ (w 3 1) ≠ (-1 : Int) ∧ (0 ≤ (w 23 6) ∧ (w 23 6) < 60) ∧ 0 ≤ (w 23 8) ∧ (w 23 8) < 2) ∧ (zwp 76 121 [(2, 23), (2, 4)] [(0, (zoR (zupd w 23 7 (z32 ((w 23 7) + 1)))).1)] ((zoR (zupd w 23 7 (z32 ((w 23 7) + 1)))).2) 238 0 K) else (zPT (zupd w 23 7 (z32 ((w 23 7) + 1))) ∧ (1007 ≤ (w 3 4) ∧ (w 3 4) < 1013) ∧ (0 ≤ (w 4 0) ∧ (w 4 0) ≤ 12) ∧ 0 ≤ (w 23 6) ∧ (w 23 6) < 60) ∧ (zwp 76 129 [(2, 23), (2, 4)] [(0, (zkR (zupd w 23 7 (z32 ((w 23 7) + 1)))).1)] ((zkR (zupd w 23 7 (z32 ((w 23 7) + 1)))).2) 238 0 K))) from zmZ (fun h => zmZ (fun h => zmI (fun h => zmA (fun h => (fun h => show zwp 76 121 [(2, 23), (2, 4)] [(0, (zoR (zupd w 23 7 (z32 ((w 23 7) + 1)))).1)] ((zoR (zupd w 23 7 (z32 ((w 23 7) + 1)))).2) 238 0 K from zgo_imp zT223_ok (cut := fun pc => Nat.beq pc 20 || Nat.beq pc 23 || Nat.beq pc 34 || Nat.beq pc 45 || Nat.beq pc 64 || Nat.beq pc 75 || Nat.beq pc 93 || Nat.beq pc 108 || Nat.beq pc 121 || Nat.beq pc 129 || Nat.beq pc 141) 400 (show zif False (0 ≤ (zoR (zupd w 23 7 (z32 ((w 23 7) + 1)))).1 ∧ (zoR (zupd w 23 7 (z32 ((w 23 7) + 1)))).1 < 2) (K (0, some (0, (zoR (zupd w 23 7 (z32 ((w 23 7) + 1)))).1)) ((zoR (zupd w 23 7 (z32 ((w 23 7) + 1)))).2) 238) from h)) h) h) (fun h => zmA (fun h => (fun h => show zwp 76 129 [(2, 23), (2, 4)] [(0, (zkR (zupd w 23 7 (z32 ((w 23 7) + 1)))).1)] ((zkR (zupd w 23 7 (z32 ((w 23 7) + 1)))).2) 238 0 K from zgo_imp zT223_ok (cut := fun pc => Nat.beq pc 20 || Nat.beq pc 23 || Nat.beq pc 34 || Nat.beq pc 45 || Nat.beq pc 64 || Nat.beq pc 75 || Nat.beq pc 93 || Nat.beq pc 108 || Nat.beq pc 121 || Nat.beq pc 129 || Nat.beq pc 141) 400 (show if (zkR (zupd w 23 7 (z32 ((w 23 7) + 1)))).1 = 0 then K (0, some (0, 0)) ((zkR (zupd w 23 7 (z32 ((w 23 7) + 1)))).2) 238 else (zPT ((zkR (zupd w 23 7 (z32 ((w 23 7) + 1)))).2) ∧ (59 : Int) ≠ (-1 : Int)) ∧ (zwp 76 141 [(2, 23), (2, 4)] [(0, (zps ((zkR (zupd w 23 7 (z32 ((w 23 7) + 1)))).2) (59 : Int)).1)] ((zps ((zkR (zupd w 23 7 (z32 ((w 23 7) + 1)))).2) (59 : Int)).2) 238 0 K) from zmI (fun h => h) (fun h => zmA (fun h => (fun h => show zwp 76 141 [(2, 23), (2, 4)] [(0, (zps ((zkR (zupd w 23 7 (z32 ((w 23 7) + 1)))).2) (59 : Int)).1)] ((zps ((zkR (zupd w 23 7 (z32 ((w 23 7) + 1)))).2) (59 : Int)).2) 238 0 K from zgo_imp zT223_ok (cut := fun pc => Nat.beq pc 20 || Nat.beq pc 23 || Nat.beq pc 34 || Nat.beq pc 45 || Nat.beq pc 64 || Nat.beq pc 75 || Nat.beq pc 93 || Nat.beq pc 108 || Nat.beq pc 121 || Nat.beq pc 129 || Nat.beq pc 141) 400 (show if (zps ((zkR (zupd w 23 7 (z32 ((w 23 7) + 1)))).2) (59 : Int)).1 = 0 then K (0, some (0, 0)) ((zps ((zkR (zupd w 23 7 (z32 ((w 23 7) + 1)))).2) (59 : Int)).2) 238 else K (0, some (0, 1)) ((zps ((zkR (zupd w 23 7 (z32 ((w 23 7) + 1)))).2) (59 : Int)).2) 238 from h)) h) h) h)) h) h) h) h) h)) h) (fun h => (fun h => show zwp 76 93 [(2, 23), (2, 4)] [(0, 0)] (zupd (zupd w 3 7 5) 3 8 (w 3 2)) 238 0 K from zgo_imp zT223_ok (cut := fun pc => Nat.beq pc 20 || Nat.beq pc 23 || Nat.beq pc 34 || Nat.beq pc 45 || Nat.beq pc 64 || Nat.beq pc 75 || Nat.beq pc 93 || Nat.beq pc 108 || Nat.beq pc 121 || Nat.beq pc 129 || Nat.beq pc 141) 400 (show K (0, some (0, 0)) (zupd (zupd w 3 7 5) 3 8 (w 3 2)) 238 from h)) h) h) h) h) h) h)) h) h) h)) ?_
  have f0 := t0.lin (n := w 1 1) rfl
  have s1 := s0
  unfold zSK at s1
  have r0 := zoR_01 (zkN w)
  unfold zkO at h
  refine zifI (by omega) ⟨by omega, ?_⟩
  by_cases g1 : zcmd (w 3 4)
  · rw [if_pos g1] at h
    refine ziF (by rw [if_pos g1]; decide) (zifI (by omega) (zifI (by omega) ?_))
    have hc : (30 : Int) ≤ w 23 7 ∨ z32 (w 23 7 + 1) = w 23 7 + 1 := by
      by_cases q : 30 ≤ w 23 7
      · exact Or.inl q
      · exact Or.inr (z32_id ⟨by omega, by omega⟩)
    by_cases g4 : w 3 4 = 1013
    · refine ziT g4 ?_
      by_cases g2 : w 23 8 < 2
      · rw [if_neg (show ¬ (w 3 4 = 1013 ∧ 2 ≤ w 23 8) by omega)] at h
        refine ziT g2 ?_
        by_cases g3 : 30 ≤ w 23 7
        · rw [if_pos g3] at h; exact ziF (by omega) h
        · rw [if_neg g3, if_pos g4] at h
          rw [hc.resolve_left g3]
          refine ziT (by omega) (zifI (by omega) (zifI (by omega) (ziT g4 ⟨⟨t0, by omega, by omega, by omega, by omega⟩, zifI ?_ h⟩)))
          show 0 ≤ (zoR (zkN w)).1 ∧ (zoR (zkN w)).1 < 2
          omega
      · rw [if_pos (show (w 3 4 = 1013 ∧ 2 ≤ w 23 8) by omega)] at h
        exact ziF g2 h
    · refine ziF g4 ?_
      rw [if_neg (show ¬ (w 3 4 = 1013 ∧ 2 ≤ w 23 8) by omega)] at h
      by_cases g3 : 30 ≤ w 23 7
      · rw [if_pos g3] at h; exact ziF (by omega) h
      · rw [if_neg g3, if_neg g4] at h
        rw [hc.resolve_left g3]
        refine ziT (by omega) (zifI (by omega) (zifI (by omega) (ziF g4 ⟨⟨t0, by omega, by omega, by omega, by omega⟩, ?_⟩)))
        unfold zkB at h
        have t1 : zPT (zkR (zkN w)).2 := zkR_PT (w := zkN w) t0 (by show 1007 ≤ w 3 4 ∧ w 3 4 < 1013; omega)
        by_cases g5 : (zkR (zkN w)).1 = 0
        · rw [if_pos g5] at h; exact ziT g5 h
        · rw [if_neg g5] at h
          refine ziF g5 ⟨⟨t1, by decide⟩, ?_⟩
          cases zps_01 (zkR (zkN w)).2 59 with
          | inl q => rw [q] at h; exact ziT q h
          | inr q => rw [q] at h; exact ziF (fun q2 => absurd (q.symm.trans q2) (by decide)) h
  · rw [if_neg g1] at h
    exact ziT (if_neg g1) h
/-! $Script.readPart -/
set_option maxRecDepth 100000 in
theorem zk76_23 (w : zW) (K : zK) (h : (zPT w ∧ zSK w ∧ 0 ≤ w 4 0 ∧ w 4 0 ≤ 12) ∧ (K (0, some (0, (zkP w).1)) ((zkP w).2) 238)) : zcall 76 [(2, 23), (2, 4)] w 238 K := by
  obtain ⟨hg, h⟩ := h
  refine (show (if w 3 1 = 41 then if 0 < w 23 8 then (zPT w ∧ w 3 1 ≠ (-1 : Int) ∧ (0 ≤ w 23 6 ∧ w 23 6 < 60) ∧ 1 ≤ w 23 8 ∧ w 23 8 ≤ 2) ∧ (zif False (0 ≤ (zcR w).1 ∧ (zcR w).1 < 2) (K (0, some (0, (zcR w).1)) ((zcR w).2) 238)) else zwp 76 24 [(2, 23), (2, 4)] [] w 238 0 K else zwp 76 24 [(2, 23), (2, 4)] [] w 238 0 K) → _ from fun h => show zwp 76 0 [(2, 23), (2, 4)] [] w 238 0 K from zgo_imp zT223_ok (cut := fun pc => Nat.beq pc 20 || Nat.beq pc 23 || Nat.beq pc 24 || Nat.beq pc 34 || Nat.beq pc 45 || Nat.beq pc 64 || Nat.beq pc 75 || Nat.beq pc 93 || Nat.beq pc 108 || Nat.beq pc 121 || Nat.beq pc 129 || Nat.beq pc 141) 400 (show if w 3 1 = 41 then if 0 < w 23 8 then zwp 76 20 [(2, 23), (2, 4)] [(2, 23)] w 238 0 K else zwp 76 24 [(2, 23), (2, 4)] [] w 238 0 K else zwp 76 24 [(2, 23), (2, 4)] [] w 238 0 K from zmI (fun h => zmI (fun h => (fun h => show zwp 76 20 [(2, 23), (2, 4)] [(2, 23)] w 238 0 K from zgo_imp zT223_ok (cut := fun pc => Nat.beq pc 20 || Nat.beq pc 23 || Nat.beq pc 24 || Nat.beq pc 34 || Nat.beq pc 45 || Nat.beq pc 64 || Nat.beq pc 75 || Nat.beq pc 93 || Nat.beq pc 108 || Nat.beq pc 121 || Nat.beq pc 129 || Nat.beq pc 141) 400 (show (zPT w ∧ w 3 1 ≠ (-1 : Int) ∧ (0 ≤ w 23 6 ∧ w 23 6 < 60) ∧ 1 ≤ w 23 8 ∧ w 23 8 ≤ 2) ∧ (zwp 76 23 [(2, 23), (2, 4)] [(0, (zcR w).1)] ((zcR w).2) 238 0 K) from zmA (fun h => (fun h => show zwp 76 23 [(2, 23), (2, 4)] [(0, (zcR w).1)] ((zcR w).2) 238 0 K from zgo_imp zT223_ok (cut := fun pc => Nat.beq pc 20 || Nat.beq pc 23 || Nat.beq pc 24 || Nat.beq pc 34 || Nat.beq pc 45 || Nat.beq pc 64 || Nat.beq pc 75 || Nat.beq pc 93 || Nat.beq pc 108 || Nat.beq pc 121 || Nat.beq pc 129 || Nat.beq pc 141) 400 (show zif False (0 ≤ (zcR w).1 ∧ (zcR w).1 < 2) (K (0, some (0, (zcR w).1)) ((zcR w).2) 238) from h)) h) h)) h) (fun h => h) h) (fun h => h) h)) ?_
  obtain ⟨t0, s0, hn⟩ := hg
  have s1 := s0
  unfold zSK at s1
  have r0 := zcR_01 w
  unfold zkP at h
  by_cases g : w 3 1 = 41
  · refine ziT g ?_
    by_cases g2 : 0 < w 23 8
    · rw [if_pos ⟨g, g2⟩] at h
      exact ziT g2 ⟨⟨t0, by omega, by omega, by omega, by omega⟩, zifI (by omega) h⟩
    · rw [if_neg fun q => g2 q.2] at h
      exact ziF g2 (zk76_B24 t0 s0 hn h)
  · rw [if_neg fun q => g q.1] at h
    exact ziF g (zk76_B24 t0 s0 hn h)
noncomputable def zb76 (l0 : List zV) (w : zW) (K : zK) : Prop := cond (zpe (zar l0 0) 23) (cond (zpe (zar l0 1) 4) ((zPT w ∧ zSK w ∧ 0 ≤ w 4 0 ∧ w 4 0 ≤ 12) ∧ (K (0, some (0, (zkP w).1)) ((zkP w).2) 238)) False) (False)
noncomputable def zT224 : zSum := zsm1 76 [2, 2] zb76 zT223
theorem zT224_ok : zSok zT224 := zsm1_ok zT223_ok fun l0 w K h => by
  unfold zb76 at h
  cases q0 : zpe (zar l0 0) 23 with
  | true =>
    rw [q0, cond_true] at h
    have e : zar l0 0 = 23 := zpe_e q0
    show zcall 76 [(2, zar l0 0), (2, zar l0 1)] w 238 K
    rw [e]
    have hl0 : zar l0 1 = 4 := zlit h
    have h := zlit2 h
    rw [hl0]
    exact zk76_23  w K h
  | false =>
  rw [q0, cond_false] at h
  exact h.elim
