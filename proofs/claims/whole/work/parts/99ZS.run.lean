/-! ===== the law: a script run (written by wip/whole/gen_c.py) ===== -/
theorem zNt_f4 {w v : zW} (e : ∀ p, (4 ≤ p ∧ p ≤ 12) ∨ (95 ≤ p ∧ p ≤ 101 ∧ p ≠ 98) → v p = w p) (h : zNt w) : zNt v :=
  zNet_tr (q := 4) (o := 0) (q' := 4) (o' := 0) h (by rw [e 4 (by decide)]) (by rw [e 4 (by decide)]) (fun k _ => by rw [e (4 + 1) (by decide)]) (fun k _ => by rw [e (4 + 2) (by decide)]) (fun k _ => by rw [e (4 + 4) (by decide)]) (fun k _ => by rw [e (4 + 5) (by decide)]) (fun k _ => by rw [e (4 + 6) (by decide)]) (fun k _ => by rw [e (4 + 7) (by decide)]) (fun k _ => by rw [e (4 + 8) (by decide)])
    (by rw [e 95 (by decide)]) (by rw [e 96 (by decide)]) (fun c _ _ => by rw [e 97 (by decide)]) (fun c _ _ => by rw [e 101 (by decide)]) (fun c _ _ => by rw [e 99 (by decide)]) (fun c _ _ => by rw [e 100 (by decide)])
theorem zRl_f4 {a b a' b' : zW} (ea : ∀ p, (4 ≤ p ∧ p ≤ 12) ∨ (29 ≤ p ∧ p < 35) ∨ (95 ≤ p ∧ p ≤ 101) → a' p = a p) (eb : ∀ p, (4 ≤ p ∧ p ≤ 12) ∨ (95 ≤ p ∧ p ≤ 105) → b' p = b p) (h : zRl a b) : zRl a' b' := by
  obtain ⟨⟨⟨n1, n2, n3⟩, h2, h3, h4, h5⟩, d, ⟨g1, g2, g3⟩, g4⟩ := h
  have z : zml b' = zml b := zml_fr (eb 102 (by decide)) (eb 103 (by decide))
  have na : zNt a' := zNt_f4 (fun p hp => ea p (by omega)) n1
  refine ⟨⟨⟨na, fun p hp => by rw [eb p (by omega), ea p (by omega)]; exact n2 p hp, fun c c0 c1 => ?_⟩, ?_⟩, zQd_fr d (eb 102 (by decide)) (eb 103 (by decide)), ⟨na, zRd_fr (ea 95 (by decide)) (ea 30 (by decide)) g2, ?_⟩, zNt_f4 (fun p hp => eb p (by omega)) g4⟩
  · rw [ea 95 (by decide)] at c1
    rw [ea 30 (by decide), eb 98 (by decide)]
    exact n3 c c0 c1
  · rw [z, ea 29 (by decide), ea 31 (by decide), ea 32 (by decide), ea 33 (by decide), ea 34 (by decide), eb 102 (by decide), eb 103 (by decide), eb 104 (by decide), eb 105 (by decide)]
    exact ⟨h2, h3, h4, h5⟩
  · unfold zPC at g3 ⊢
    rw [ea 29 (by decide), ea 31 (by decide), ea 32 (by decide), ea 33 (by decide), ea 34 (by decide), ea 95 (by decide)]
    exact g3
theorem zSq_f3 {a b a' b' : zW} (ea : ∀ p, p = 4 ∨ p = 5 ∨ p = 23 ∨ p = 24 ∨ p = 25 ∨ p = 26 ∨ p = 28 → a' p = a p) (k : ∀ j, j = 39 ∨ j = 40 ∨ j = 41 → b' 93 j = b 93 j) (eb : ∀ p, p = 95 ∨ p = 101 ∨ p = 109 ∨ p = 110 ∨ p = 111 → b' p = b p) (h : zSq a b) : zSq a' b' := by
  unfold zSq at h ⊢
  rw [ea 4 (by decide), ea 5 (by decide), ea 23 (by decide), ea 24 (by decide), ea 25 (by decide), ea 26 (by decide), ea 28 (by decide), k 39 (by decide), k 40 (by decide), k 41 (by decide), eb 95 (by decide), eb 101 (by decide), eb 109 (by decide), eb 110 (by decide), eb 111 (by decide)]
  exact h
theorem zcopy_cg {X Y : zW} {S : Nat → Prop} {x q n : Nat} (hx : S x) (e : ∀ p, S p → X p = Y p) : ∀ p, S p → zcopy X x q n p = zcopy Y x q n p := fun p hp => by
  funext i
  unfold zcopy
  rw [e x hx, e p hp]
theorem zupd_cg {X Y : zW} {S : Nat → Prop} {q j : Nat} {x : Int} (e : ∀ p, S p → X p = Y p) : ∀ p, S p → zupd X q j x p = zupd Y q j x p := fun p hp => by
  funext i
  unfold zupd
  rw [e p hp]
theorem zpcp_cg {X Y : zW} (q : Nat) (e : ∀ p, 29 ≤ p ∧ p < 75 → X p = Y p) : ∀ p, 29 ≤ p ∧ p < 75 → zpcp X 29 q p = zpcp Y 29 q p := by
  have c1 := zcopy_cg (S := fun p => 29 ≤ p ∧ p < 75) (x := 29 + 1) (q := q + 1) (n := 12) (by decide) e
  have c2 := zcopy_cg (S := fun p => 29 ≤ p ∧ p < 75) (x := 29 + 2) (q := q + 2) (n := 12) (by decide) c1
  have c3 := zcopy_cg (S := fun p => 29 ≤ p ∧ p < 75) (x := 29 + 3) (q := q + 3) (n := 12) (by decide) c2
  have c4 := zcopy_cg (S := fun p => 29 ≤ p ∧ p < 75) (x := 29 + 4) (q := q + 4) (n := 12) (by decide) c3
  have c5 := zcopy_cg (S := fun p => 29 ≤ p ∧ p < 75) (x := 29 + 5) (q := q + 5) (n := 12) (by decide) c4
  intro p hp
  unfold zpcp
  rw [e 29 (by decide)]
  exact zupd_cg c5 p hp
theorem zkpc_cg {X Y : zW} (e : ∀ p, 37 ≤ p → p < 75 → X p = Y p) {p : Nat} (h1 : 37 ≤ p) (h2 : p < 75) : zkpc X p = zkpc Y p := by
  funext k
  unfold zkpc zupd
  simp only [e 37 (by decide) (by decide), e p h1 h2]
theorem zpk_fr {v w : zW} (e : ∀ p, p = 98 ∨ (102 ≤ p ∧ p ≤ 105) → v p = w p) (k : Nat) : zpk v k = zpk w k := by
  unfold zpk
  rw [e 98 (by decide), e 102 (by decide), e 103 (by decide), e 104 (by decide), e 105 (by decide)]
/-- the class may run what it has read -/
theorem zRunP {w : zW} (J : zJv w) (g : (zkL 800 (zsc0 w)).1 ≠ 0) : zrsP (zkL 800 (zsc0 w)).2 := by
  have hn := J.1.n
  obtain ⟨r30, pC, r98, pM, hH⟩ := J.i
  obtain ⟨se, os⟩ := zJscr J.2.2.1 ⟨hn.1, ⟨hn.2.1, hn.2.2.1⟩, fun c c0 c1 => (J.1.deg c0 c1).2.2.2⟩
  have o : (zkL 800 (zsc0 w)).1 = 1 ∧ zSL 800 (zms0 w) 93 8 = 0 ∧ zSL 800 (zms0 w) 93 41 = 0 ∧ zSq (zkL 800 (zsc0 w)).2 (zSL 800 (zms0 w)) ∧ zSK (zkL 800 (zsc0 w)).2 := by
    rcases os with o | o
    · exact o
    · exact (g o.1).elim
  obtain ⟨o1, o8, o41, q, sk⟩ := o
  have k8 := q.1.2.2
  unfold zSK at sk
  have e : ∀ p, p ≠ 3 → (p < 23 ∨ 28 < p) → (zkL 800 (zsc0 w)).2 p = w p := fun p h1 h2 => zSc_ne h1 h2
  refine ⟨by rw [e 37 (by decide) (by decide)]; exact hH, q.sg (by omega) (by omega) (by rw [e 95 (by decide) (by decide), zSL_ne (by decide), zms0_ne (by decide)]), zNt_f4 (fun p hp => e p (by omega) (by omega)) J.1, zRd_fr (e 95 (by decide) (by decide)) (e 30 (by decide) (by decide)) r30, ?_⟩
  unfold zPC at pC ⊢
  rw [e 29 (by decide) (by decide), e 31 (by decide) (by decide), e 32 (by decide) (by decide), e 33 (by decide) (by decide), e 34 (by decide) (by decide), e 95 (by decide) (by decide)]
  exact pC
/-- what is left behind a run keeps the invariant -/
theorem zRunJ {w V : zW} (J : zJv w) (hc : ∀ p, p < 29 ∨ (75 ≤ p ∧ p < 93) → p ≠ 1 → p ≠ 3 → ¬ (13 ≤ p ∧ p ≤ 28) → V p = w p) (hm : ∀ p, (94 < p ∧ p < 98) ∨ (98 < p ∧ p < 102) ∨ p = 115 → V p = w p) (hk : ∀ k, k = 24 ∨ k = 44 ∨ k = 45 → V 93 k = w 93 k)
    (hi : zHi2 V w) (PJ : zPJ V) (HJ : zHJ V) (t1 : V 1 1 = 0) (t2 : V 93 2 = 0) (e1 : V 3 7 = V 93 10) (e2 : V 3 8 = V 93 11) : zJv V := by
  obtain ⟨j1, j2, j3, j4, j5, j6, j7⟩ := J
  refine ⟨zNt_f4 (fun p hp => ?_) j1, PJ, zTt_0 t1 t2, ⟨e1, e2⟩, HJ, zSJ_fr (fun p p0 p1 => hc p (by omega) (by omega) (by omega) (by omega)) (fun p p0 p1 p2 => hm p (by omega)) hi.1 hi.2 (hc 0 (by decide) (by decide) (by decide) (by decide)) (hk 24 (by decide)) j6,
    zRJ_fr (hc 90 (by decide) (by decide) (by decide) (by decide)) (hc 91 (by decide) (by decide) (by decide) (by decide)) (hm 115 (by decide)) (hk 44 (by decide)) (hk 45 (by decide)) j7⟩
  rcases hp with q | q
  · exact hc p (by omega) (by omega) (by omega) (by omega)
  · exact hm p (by omega)
/-- the text has an error -/
theorem zRunB {w W : zW} (J : zJv w) (g : (zkL 800 (zsc0 w)).1 = 0) (hW : W = zupd (zkL 800 (zsc0 w)).2 1 1 0) :
    ((0 ≤ W 93 2 ∧ W 93 2 ≤ 800) ∧ (0 ≤ W 95 0 ∧ W 95 0 ≤ 12) ∧ zSe 800 (zms0 W) ∧ 0 ≤ zSL 800 (zms0 W) 93 8 ∧ zmGp (zmSv W)) ∧ zmGw (zmSv W) 93 0 = 1 ∧ zJv (zmGw (zmSv W)) ∧ ∀ p, 2000 ≤ p → zmGw (zmSv W) p = w p := by
  have hn := J.1.n
  have fr : ∀ p, p ≠ 1 → p ≠ 3 → (p < 23 ∨ 28 < p) → W p = w p := fun p h1 h2 h3 => by rw [hW, zune h1, zSc_ne h2 h3]
  have T : zTt w W := zTt_ff J.2.2.1 rfl rfl (by rw [fr 93 (by decide) (by decide) (by decide)]) (fr 94 (by decide) (by decide) (by decide))
  have tt := J.2.2.1
  have tt1 := tt.1
  have tt2 := tt.2.1
  obtain ⟨se, os⟩ := zJscr T ⟨by rw [fr 95 (by decide) (by decide) (by decide)]; exact hn.1, by rw [fr 95 (by decide) (by decide) (by decide)]; exact ⟨hn.2.1, hn.2.2.1⟩, fun c c0 c1 => by rw [fr 95 (by decide) (by decide) (by decide)] at c1; rw [fr 101 (by decide) (by decide) (by decide)]; exact (J.1.deg c0 c1).2.2.2⟩
  have o : zEr (zkL 800 (zsc0 w)).2 (zmSv W) := by
    rcases os with o | o
    · rw [g] at o; exact absurd o.1 (by decide)
    · exact o.2
  obtain ⟨o1, o2, o3⟩ := o
  have b8 : 0 ≤ zSL 800 (zms0 W) 93 8 := by
    by_cases q : zSL 800 (zms0 W) 93 8 = 0 ∧ 0 < zSL 800 (zms0 W) 93 41
    · omega
    · have e : zmSv W = zSL 800 (zms0 W) := if_neg q
      rw [← e]; omega
  have W1 : W 1 1 = 0 := by rw [hW]; rfl
  have W3 : W 3 = (zkL 800 (zsc0 w)).2 3 := by rw [hW, zune (by decide)]
  have v0 : ∀ p, p ≠ 93 ∧ p ≠ 109 ∧ p ≠ 110 ∧ p ≠ 111 → zmSv W p = W p := fun p h => zmSv_ne h
  have vk : ∀ j, 13 ≤ j ∧ j ≠ 39 ∧ j ≠ 40 ∧ j ≠ 41 → zmSv W 93 j = W 93 j := fun j h => zmSv_k h
  have v2 : zmSv W 93 2 = 0 := zmSv_2
  have e : zmGw (zmSv W) = zme1 (zmSv W) := by unfold zmGw; exact if_neg (by omega)
  refine ⟨⟨by rw [fr 93 (by decide) (by decide) (by decide)]; omega, by rw [fr 95 (by decide) (by decide) (by decide)]; exact ⟨hn.2.1, hn.2.2.1⟩, se, b8, fun z => absurd z (by omega)⟩, ?_⟩
  rw [e]
  generalize zmSv W = v at *
  have V0 : ∀ p, p ≠ 93 ∧ p ≠ 109 ∧ p ≠ 110 ∧ p ≠ 111 → zme1 v p = W p := fun p h => by
    unfold zme1
    rw [zune h.1, zune h.1, zune h.1]
    exact v0 p h
  have Vk : ∀ j, j ≠ 0 → j ≠ 10 → j ≠ 11 → zme1 v 93 j = v 93 j := fun j h0 h1 h2 => by
    unfold zme1
    rw [zuk h0, zuk h2, zuk h1]
  have V10 : zme1 v 93 10 = v 93 8 ∧ zme1 v 93 11 = v 93 9 := ⟨rfl, rfl⟩
  have Vw : ∀ p, p ≠ 93 ∧ p ≠ 109 ∧ p ≠ 110 ∧ p ≠ 111 → p ≠ 1 → p ≠ 3 → (p < 23 ∨ 28 < p) → zme1 v p = w p := fun p h h1 h2 h3 => (V0 p h).trans (fr p h1 h2 h3)
  refine ⟨rfl, zJv_bad J (fun p h1 h2 h3 h4 => Vw p (by omega) h2 h3 (by omega)) ⟨fun k hk => ?_, fun p k hp _ => ?_, fun p k hp _ => ?_, fun k _ => ?_, fun k _ => ?_, Vw 108 (by decide) (by decide) (by decide) (by decide), Vw 115 (by decide) (by decide) (by decide) (by decide)⟩ ?_ ?_ ?_ ?_, fun p hp => Vw p (by omega) (by omega) (by omega) (by omega)⟩
  · rw [Vk k (by omega) (by omega) (by omega), vk k (by omega), fr 93 (by decide) (by decide) (by decide)]
  · rw [Vw p (by omega) (by omega) (by omega) (by omega)]
  · rw [Vw p (by omega) (by omega) (by omega) (by omega)]
  · rw [Vw 99 (by decide) (by decide) (by decide) (by decide)]
  · rw [Vw 100 (by decide) (by decide) (by decide) (by decide)]
  · rw [V0 1 (by decide)]; exact W1
  · rw [Vk 2 (by decide) (by decide) (by decide)]; exact v2
  · rw [V0 3 (by decide), W3, V10.1]; exact o2
  · rw [V0 3 (by decide), W3, V10.2]; exact o3
/-- the two runs go side by side -/
theorem zRunS {w b : zW} (J : zJv w) (P : zrsP (zkL 800 (zsc0 w)).2) (q : zSq (zkL 800 (zsc0 w)).2 b) (o41 : b 93 41 = 0) (sk : zSK (zkL 800 (zsc0 w)).2) (hb : ∀ p, (4 ≤ p ∧ p ≤ 12) ∨ (95 ≤ p ∧ p ≤ 105) → b p = w p) :
    zmFE (zly (zme0 b) 114 (0 : Int).toNat) ∧ (zmG b).1 = (zrs w).1 ∧ zRl (zrs w).2 (zmG b).2 ∧ (∀ p, p ≠ 98 ∧ (p < 102 ∨ 105 < p) → p ≠ 112 → p ≠ 113 → (zmG b).2 p = zly (zme0 b) 114 (0 : Int).toNat p) ∧ zHi2 (zmG b).2 (zly (zme0 b) 114 (0 : Int).toNat) := by
  have B0 : ∀ p, p ≠ 93 → p ≠ 114 → zly (zme0 b) 114 (0 : Int).toNat p = b p := fun p h h2 => by
    unfold zly
    rw [zfill_no h2]
    unfold zme0
    rw [zune h, zune h, zune h]
  have Bk : ∀ j, j ≠ 0 → j ≠ 10 → j ≠ 11 → zly (zme0 b) 114 (0 : Int).toNat 93 j = b 93 j := fun j h0 h1 h2 => by
    unfold zly
    rw [zfill_no (by decide)]
    unfold zme0
    rw [zuk h0, zuk h2, zuk h1]
  have hG : zmG b = zmF2 (zly (zme0 b) 114 (0 : Int).toNat) := rfl
  rw [hG]
  generalize zly (zme0 b) 114 (0 : Int).toNat = B at B0 Bk ⊢
  have a0 : ∀ p, p < 37 ∨ 75 ≤ p → p ≠ 1 → zrs1 w p = (zkL 800 (zsc0 w)).2 p := fun p h1 h2 => zrs1_ne P h1 h2
  have k8 := q.1.2.2
  unfold zSK at sk
  have q1 : zSq (zrs1 w) B := zSq_f3 (fun p hp => a0 p (by omega) (by omega)) (fun j hj => Bk j (by omega) (by omega) (by omega)) (fun p hp => B0 p (by omega) (by omega)) q
  have r1 : zRl (zrs1 w) B := zRl_f4 (fun p hp => (a0 p (by omega) (by omega)).trans (zSc_ne (by omega) (by omega))) (fun p hp => (B0 p (by omega) (by omega)).trans (hb p hp)) J.rl
  have h8 : zrs1 w 23 8 = 0 := by rw [a0 23 (by decide) (by decide)]; omega
  have h6 : zrs1 w 23 6 ≤ 60 := by rw [a0 23 (by decide) (by decide)]; omega
  have h60 : 0 ≤ zrs1 w 23 6 := by rw [a0 23 (by decide) (by decide)]; omega
  have wf := q1.wf h8 h6
  have hn : zrs1 w 23 6 = ((zrs1 w 23 6).toNat : Nat) := by omega
  generalize (zrs1 w 23 6).toNat = n at wf hn
  have L0 : zLvs (zrs1 w 24) (zrs1 w 27) 0 := fun j j0 j1 => absurd (show j < 0 from j1) (by omega)
  have R0 : zRw (zrs1 w 24) (zrs1 w 27) B 0 0 := ⟨rfl, fun j j0 j1 => absurd (show j < 0 from j1) (by omega)⟩
  obtain ⟨p, hp, p0, p1⟩ := zPo_ex wf (Nat.zero_le n) L0
  obtain ⟨t, k', b', q', ht, em, eE, hi, hk', hL, hR, fx⟩ := zsr n 6000 0 p 0 0 1 (zrs1 w) B q1 h8 ⟨hn, by omega⟩ (Nat.zero_le n) L0 R0 hp p0 (by omega) (by decide) (by decide)
  have Z0 : zcf 6000 ((0 : Nat) : Int) (zrs1 w) = zcf 6000 0 (zrs1 w) := rfl
  rw [Z0] at hi hL hR
  have c7 : ∀ p, p ≠ 27 → (zcf 6000 0 (zrs1 w)).2 p = zrs1 w p := fun p h => zcf_ne h _ _ _
  have q2 : zSq (zcf 6000 0 (zrs1 w)).2 b' := zSq_fr c7 fx q1
  have r2 : zRl (zcf 6000 0 (zrs1 w)).2 b' := zRl_f _ _ _ _ c7 fx r1
  obtain ⟨T, hT, hE, e1, e2⟩ := zJrun2 n 20 k' (zcf 6000 0 (zrs1 w)).1 q' 0 (zcf 6000 0 (zrs1 w)).2 b' q2 (by rw [c7 23 (by decide)]; exact h8) (by rw [c7 23 (by decide)]; exact ⟨hn, by omega⟩) hk' (by rw [c7 24 (by decide)]; exact hL) (by rw [c7 24 (by decide)]; exact hR) r2 (by decide) (by rw [c7 24 (by decide)]; exact hi)
  have E2 : zmrE (T + t) 0 0 0 1 B := eE T hE
  have F := zmF2_of (w := B) (T := T + t) (by omega) E2
  have em : zmr (T + t) 0 0 0 1 B = zmr T 0 q' k' 1 b' := em T
  have N := fun p h h2 h3 => zmr_ne (p := p) h h2 h3 (T + t) 0 0 0 1 B
  have H := zmr_h2 (T + t) 0 0 0 1 B E2
  rw [F.1]
  exact ⟨F.2, by rw [em]; exact e1, by rw [em]; exact e2, N, H⟩
set_option maxHeartbeats 8000000 in
/-- a script is run -/
theorem zRunG {w W : zW} (J : zJv w) (g : (zkL 800 (zsc0 w)).1 ≠ 0) (hW : W = zupd (zrsW w) 116 0 (zrs w).1) :
    ((0 ≤ W 93 2 ∧ W 93 2 ≤ 800) ∧ (0 ≤ W 95 0 ∧ W 95 0 ≤ 12) ∧ zSe 800 (zms0 W) ∧ 0 ≤ zSL 800 (zms0 W) 93 8 ∧ zmGp (zmSv W)) ∧ (zmGw (zmSv W) 93 0 = 0 ∧ zmGw (zmSv W) 116 0 = zmGv (zmSv W)) ∧ zJv (zmGw (zmSv W)) ∧ ∀ p, 2000 ≤ p → zmGw (zmSv W) p = w p := by
  have P := zRunP J g
  have hn := J.1.n
  have tt := J.2.2.1
  have tt1 := tt.1
  have tt2 := tt.2.1
  have hu := J.2.2.2.2.1.1
  have hA : ∀ p, p < 29 ∨ 35 ≤ p → p ≠ 27 → (zrs w).2 p = zrs1 w p := fun p h h7 => by
    unfold zrs
    rw [zrq_ne h h7, zcf_ne h7]
  have hZ : ∀ p, p ≠ 37 → zrsW w p = (zrs w).2 p := fun p h => by
    unfold zrsW
    split
    · exact zkpc_ne h
    · rfl
  have hs1 : ∀ p, p < 37 ∨ 75 ≤ p → p ≠ 1 → p ≠ 3 → (p < 23 ∨ 28 < p) → zrs1 w p = w p := fun p h h1 h2 h3 => (zrs1_ne P h h1).trans (zSc_ne h2 h3)
  have Wz : ∀ p, p ≠ 116 → W p = zrsW w p := fun p h => by rw [hW, zune h]
  have fr : ∀ p, p < 29 ∨ 75 ≤ p → p ≠ 1 → p ≠ 3 → (p < 23 ∨ 28 < p) → p ≠ 116 → W p = w p := fun p h h1 h2 h3 h4 => by
    rw [Wz p h4, hZ p (by omega), hA p (by omega) (by omega), hs1 p (by omega) h1 h2 h3]
  have W116 : W 116 0 = (zrs w).1 := by rw [hW]; rfl
  have a3 : (zkL 800 (zsc0 w)).2 3 7 = 0 ∧ (zkL 800 (zsc0 w)).2 3 8 = -1 := by
    have k := zkL_ok 800 (zsc0 w) g
    rw [k.1, k.2]
    exact ⟨rfl, rfl⟩
  have W3 : W 3 = (zkL 800 (zsc0 w)).2 3 := by rw [Wz 3 (by decide), hZ 3 (by decide), hA 3 (by decide) (by decide), zrs1_ne P (by decide) (by decide)]
  have W1 : W 1 1 = 0 := by
    rw [Wz 1 (by decide), hZ 1 (by decide), hA 1 (by decide) (by decide)]
    have h37 := P.1.1
    unfold zrs1
    rw [zpcp_ne (by omega)]
    rfl
  have T : zTt w W := zTt_ff J.2.2.1 rfl rfl (by rw [fr 93 (by decide) (by decide) (by decide) (by decide) (by decide)]) (fr 94 (by decide) (by decide) (by decide) (by decide) (by decide))
  have w95 := fr 95 (by decide) (by decide) (by decide) (by decide) (by decide)
  obtain ⟨se, os⟩ := zJscr T ⟨by rw [w95]; exact hn.1, by rw [w95]; exact ⟨hn.2.1, hn.2.2.1⟩, fun c c0 c1 => by rw [w95] at c1; rw [fr 101 (by decide) (by decide) (by decide) (by decide) (by decide)]; exact (J.1.deg c0 c1).2.2.2⟩
  have o : zSL 800 (zms0 W) 93 8 = 0 ∧ zSL 800 (zms0 W) 93 41 = 0 ∧ zSq (zkL 800 (zsc0 w)).2 (zSL 800 (zms0 W)) ∧ zSK (zkL 800 (zsc0 w)).2 := by
    rcases os with o | o
    · exact o.2
    · exact (g o.1).elim
  obtain ⟨o8, o41, q, sk⟩ := o
  have sv : zmSv W = zSL 800 (zms0 W) := if_neg (by omega)
  have b9 : zSL 800 (zms0 W) 93 9 = -1 := (zK9_SL 800 _ o8).2.trans rfl
  have b0 : ∀ p, p ≠ 93 ∧ p ≠ 109 ∧ p ≠ 110 ∧ p ≠ 111 → zSL 800 (zms0 W) p = W p := fun p h => (zSL_ne h 800 _).trans (zms0_ne h.1)
  have bk : ∀ j, 13 ≤ j ∧ j ≠ 39 ∧ j ≠ 40 ∧ j ≠ 41 → zSL 800 (zms0 W) 93 j = W 93 j := fun j h => (zSL_k3 (Or.inr h) 800 _).trans (zms0_k h)
  have b2 : zSL 800 (zms0 W) 93 2 = 0 := (zSL_k3 (Or.inl rfl) 800 _).trans rfl
  rw [sv]
  generalize zSL 800 (zms0 W) = b at *
  have bw : ∀ p, p < 29 ∨ 75 ≤ p → p ≠ 1 → p ≠ 3 → (p < 23 ∨ 28 < p) → p ≠ 116 → p ≠ 93 ∧ p ≠ 109 ∧ p ≠ 110 ∧ p ≠ 111 → b p = w p := fun p h h1 h2 h3 h4 h5 => (b0 p h5).trans (fr p h h1 h2 h3 h4)
  obtain ⟨s1, s2, s3, s4, s5⟩ := zRunS J P q o41 sk (fun p hp => bw p (by omega) (by omega) (by omega) (by omega) (by omega) (by omega))
  have D0 : 0 ≤ (zrs w).1 := zrq_d 20 _ 0 _
  have B0 : ∀ p, p ≠ 93 → p ≠ 114 → zly (zme0 b) 114 (0 : Int).toNat p = b p := fun p h h2 => by
    unfold zly
    rw [zfill_no h2]
    unfold zme0
    rw [zune h, zune h, zune h]
  have Bk : ∀ j, j ≠ 0 → j ≠ 10 → j ≠ 11 → zly (zme0 b) 114 (0 : Int).toNat 93 j = b 93 j := fun j h0 h1 h2 => by
    unfold zly
    rw [zfill_no (by decide)]
    unfold zme0
    rw [zuk h0, zuk h2, zuk h1]
  have Bx : zly (zme0 b) 114 (0 : Int).toNat 93 0 = 0 ∧ zly (zme0 b) 114 (0 : Int).toNat 93 10 = b 93 8 ∧ zly (zme0 b) 114 (0 : Int).toNat 93 11 = b 93 9 := by
    unfold zly
    rw [zfill_no (by decide)]
    exact ⟨rfl, rfl, rfl⟩
  have B114 : ∀ j : Nat, j < 49 → zly (zme0 b) 114 (0 : Int).toNat 114 j = zpk w j := fun j hj => by
    unfold zly
    rw [zfill_at]
    show (if (0 : Int).toNat ≤ j ∧ j < (0 : Int).toNat + 49 then zpk (zme0 b) (j - (0 : Int).toNat) else zme0 b 114 j) = zpk w j
    rw [if_pos (by omega), show j - (0 : Int).toNat = j by omega]
    refine zpk_fr (fun p hp => ?_) j
    unfold zme0
    rw [zune (by omega), zune (by omega), zune (by omega)]
    exact bw p (by omega) (by omega) (by omega) (by omega) (by omega) (by omega)
  have ev : zmGv b = (zmG b).1 := if_pos o8
  have ew : zmGw b = if (zmG b).1 = 0 then (zmG b).2 else zpst (zkpm (zmG b).2) 49 := if_pos o8
  have e37 : (zkL 800 (zsc0 w)).2 37 = w 37 := zSc_ne (by decide) (by decide)
  have G93 : ∀ k, 13 ≤ k ∧ k ≠ 39 ∧ k ≠ 40 ∧ k ≠ 41 → (zmG b).2 93 k = w 93 k := fun k h => by
    rw [s4 93 (by decide) (by decide) (by decide), Bk k (by omega) (by omega) (by omega), bk k h, fr 93 (by decide) (by decide) (by decide) (by decide) (by decide)]
  have w31 := G93 31 (by decide)
  have gw : ∀ p, p < 29 ∨ 75 ≤ p → p ≠ 1 → p ≠ 3 → (p < 23 ∨ 28 < p) → (p < 93 ∨ 93 < p ∧ p < 98 ∨ 98 < p ∧ p < 102 ∨ 105 < p ∧ p < 109 ∨ p = 115 ∨ 116 < p) → (zmG b).2 p = w p := fun p h h1 h2 h3 h4 => (s4 p (by omega) (by omega) (by omega)).trans ((B0 p (by omega) (by omega)).trans (bw p h h1 h2 h3 (by omega) (by omega)))
  have gW : ∀ p, p < 93 → (zmG b).2 p = W p := fun p h => (s4 p (by omega) (by omega) (by omega)).trans ((B0 p (by omega) (by omega)).trans (b0 p (by omega)))
  have hG2 : zHi2 (zmG b).2 w := s5.tr (zHi2.ne fun p hp => (B0 p (by omega) (by omega)).trans (bw p (by omega) (by omega) (by omega) (by omega) (by omega) (by omega)))
  have g116 : (zmG b).2 116 0 = (zrs w).1 := by rw [s4 116 (by decide) (by decide) (by decide), B0 116 (by decide) (by decide), b0 116 (by decide), W116]
  have g930 : (zmG b).2 93 0 = 0 := by rw [s4 93 (by decide) (by decide) (by decide)]; exact Bx.1
  have g10 : (zmG b).2 93 10 = 0 ∧ (zmG b).2 93 11 = -1 := by rw [s4 93 (by decide) (by decide) (by decide), Bx.2.1, Bx.2.2]; exact ⟨o8, b9⟩
  have g2 : (zmG b).2 93 2 = 0 := by rw [s4 93 (by decide) (by decide) (by decide), Bk 2 (by decide) (by decide) (by decide)]; exact b2
  have g3 : (zmG b).2 3 7 = 0 ∧ (zmG b).2 3 8 = -1 := by rw [gW 3 (by decide), W3]; exact a3
  have g1 : (zmG b).2 1 1 = 0 := by rw [gW 1 (by decide)]; exact W1
  have g108 : (zmG b).2 108 = w 108 := gw 108 (by decide) (by decide) (by decide) (by decide) (by decide)
  have g95 : (zmG b).2 95 = w 95 := gw 95 (by decide) (by decide) (by decide) (by decide) (by decide)
  have gA : ∀ p, p = 29 ∨ p = 30 ∨ p = 31 ∨ p = 32 ∨ p = 33 ∨ p = 34 ∨ p = 95 → (zmG b).2 p = (zrs w).2 p := fun p hp => by
    by_cases q : p = 95
    · rw [q, g95, hA 95 (by decide) (by decide), hs1 95 (by decide) (by decide) (by decide) (by decide)]
    · exact (gW p (by omega)).trans ((Wz p (by omega)).trans (hZ p (by omega)))
  have g114 : ∀ j : Nat, j < 49 → (zmG b).2 114 j = zpk w j := fun j hj => by rw [s4 114 (by decide) (by decide) (by decide)]; exact B114 j hj
  refine ⟨⟨by rw [fr 93 (by decide) (by decide) (by decide) (by decide) (by decide)]; omega, by rw [w95]; exact ⟨hn.2.1, hn.2.2.1⟩, se, by omega, fun _ => ⟨s1, fun _ => ⟨by rw [w31]; omega, ?_⟩⟩⟩, ?_⟩
  · rw [zkpm_31, w31]
    split <;> omega
  rw [ev, ew, s2]
  clear s1 s4 s5 B0 Bk Bx B114 bw b0 bk b2 b9 o8 o41 q sk se ev ew sv T
  generalize (zmG b).2 = G at *
  by_cases d0 : (zrs w).1 = 0
  · rw [if_pos d0]
    have ew0 : zrsW w = (zrs w).2 := by unfold zrsW; exact if_neg (by omega)
    refine ⟨⟨g930, g116⟩, zRunJ J (fun p h1 h2 h3 h4 => gw p (by omega) h2 h3 (by omega) (by omega)) (fun p hp => gw p (by omega) (by omega) (by omega) (by omega) (by omega)) (fun k hk => G93 k (by omega)) hG2 (s3.pj gA (fun p hp => rfl)) ?_ g1 g2 (by rw [g3.1, g10.1]) (by rw [g3.2, g10.2]), fun p hp => gw p (by omega) (by omega) (by omega) (by omega) (by omega)⟩
    have V37 : G 37 = w 37 := by rw [gW 37 (by decide), Wz 37 (by decide), ew0, hA 37 (by decide) (by decide), zrs1_37 P, e37]
    obtain ⟨y1, y2⟩ := J.2.2.2.2.1
    unfold zHJ
    rw [V37, w31]
    refine ⟨y1, fun i i0 i1 => zPH_old (by omega) (by rw [g95]) (fun q q0 q1 => ?_) (fun k _ => by rw [g108]) (y2 i i0 i1)⟩
    have rs : ((w 37 1 - w 93 31 + i + 6) % 6).toNat ≠ (w 37 1).toNat := by omega
    have rl : ((w 37 1 - w 93 31 + i + 6) % 6).toNat < 6 := by omega
    generalize ((w 37 1 - w 93 31 + i + 6) % 6).toNat = r at q0 q1 rs rl
    rw [gW q (by omega), Wz q (by omega), ew0, hA q (by omega) (by omega)]
    unfold zrs1
    rw [e37, zpcp_ne (by omega), zune (by omega), zSc_ne (by omega) (by omega)]
  · rw [if_neg d0]
    have ew1 : zrsW w = zkpc (zrs w).2 := by unfold zrsW; exact if_pos (by omega)
    have V0 : ∀ p, p ≠ 93 → p ≠ 108 → zpst (zkpm G) 49 p = G p := fun p h1 h2 => by
      unfold zpst
      rw [zfill_no h2, zkpm_ne h1 h2]
    have Vk : ∀ k, k ≠ 31 → zpst (zkpm G) 49 93 k = G 93 k := fun k h => by
      unfold zpst
      rw [zfill_no (by decide), zkpm_93 h]
    have V31 : zpst (zkpm G) 49 93 31 = if w 93 31 = 5 then 5 else w 93 31 + 1 := by
      unfold zpst
      rw [zfill_no (by decide), zkpm_31, w31]
    have N : zkpm G 93 31 = if w 93 31 = 5 then 5 else w 93 31 + 1 := by rw [zkpm_31, w31]
    have V108 : ∀ k : Nat, k < 245 → zpst (zkpm G) 49 108 k = zkpr w k := fun k hk => by
      unfold zpst
      rw [zfill_at]
      show (if 49 * (zkpm G 93 31 - 1) ≤ (k : Int) ∧ (k : Int) < 49 * (zkpm G 93 31 - 1) + 49 then zkpm G 114 ((k : Int) - 49 * (zkpm G 93 31 - 1)).toNat else zkpm G 108 k) = zkpr w k
      rw [zkpm_ne (w := G) (a := 114) (by decide) (by decide), zkpm_108]
      by_cases h5 : w 93 31 = 5
      · rw [if_pos h5] at N
        rw [N]
        by_cases r : 196 ≤ k ∧ k < 245
        · rw [if_pos (by omega), g114 _ (by omega)]
          unfold zkpr
          rw [if_pos h5, if_pos r, show ((k : Int) - 49 * (5 - 1)).toNat = k - 196 by omega]
        · rw [if_neg (by omega)]
          unfold zkpr
          rw [w31, if_pos h5, if_pos h5, if_neg r, if_neg r, g108]
      · rw [if_neg h5] at N
        rw [N]
        by_cases r : 49 * (w 93 31).toNat ≤ k ∧ k < 49 * (w 93 31).toNat + 49
        · rw [if_pos (by omega), g114 _ (by omega)]
          unfold zkpr
          rw [if_neg h5, if_pos r, show ((k : Int) - 49 * (w 93 31 + 1 - 1)).toNat = k - 49 * (w 93 31).toNat by omega]
        · rw [if_neg (by omega)]
          unfold zkpr
          rw [w31, if_neg h5, if_neg h5, if_neg r, if_neg r, g108]
    have ec : ∀ p, 37 ≤ p → p < 75 → zpst (zkpm G) 49 p = zkC w p := fun p p0 p1 => by
      rw [V0 p (by omega) (by omega), gW p (by omega), Wz p (by omega), ew1]
      refine zkpc_cg (fun p p0 p1 => ?_) p0 p1
      rw [hA p (by omega) (by omega)]
      unfold zrs1
      rw [e37]
      exact zpcp_cg _ (fun p hp => by rw [zune (by omega), zSc_ne (by omega) (by omega)]) p ⟨by omega, p1⟩
    have hG3 : zHi2 (zpst (zkpm G) 49) w := (zHi2.ne fun p hp => V0 p (by omega) (by omega)).tr hG2
    generalize zpst (zkpm G) 49 = V at *
    exact ⟨⟨by rw [Vk 0 (by decide)]; exact g930, by rw [V0 116 (by decide) (by decide)]; exact g116⟩, zRunJ J (fun p h1 h2 h3 h4 => (V0 p (by omega) (by omega)).trans (gw p (by omega) h2 h3 (by omega) (by omega))) (fun p hp => (V0 p (by omega) (by omega)).trans (gw p (by omega) (by omega) (by omega) (by omega) (by omega))) (fun k hk => (Vk k (by omega)).trans (G93 k (by omega))) hG3
      (s3.pj (fun p hp => (V0 p (by omega) (by omega)).trans (gA p hp)) (fun p hp => V0 p (by omega) (by omega)))
      (zHJ_kp J.2.2.2.2.1 J.2.1 (by omega) (by rw [V0 95 (by decide) (by decide), g95]) ec V31 V108) (by rw [V0 1 (by decide) (by decide)]; exact g1) (by rw [Vk 2 (by decide)]; exact g2) (by rw [V0 3 (by decide) (by decide), Vk 10 (by decide), g3.1, g10.1]) (by rw [V0 3 (by decide) (by decide), Vk 11 (by decide), g3.2, g10.2]),
      fun p hp => (V0 p (by omega) (by omega)).trans (gw p (by omega) (by omega) (by omega) (by omega) (by omega))⟩
