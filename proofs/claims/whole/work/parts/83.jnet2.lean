/-! ===== class and model read the same net: the whole (written by wip/whole/gen_c.py) ===== -/
/-- the class's text (a) and the model's (b) -/
def zTt (a b : zW) : Prop := a 1 1 = b 93 2 ∧ (0 ≤ a 1 1 ∧ a 1 1 ≤ 800) ∧ ∀ i : Int, 0 ≤ i → i < a 1 1 → a 2 i.toNat % 256 = b 94 i.toNat
theorem zTt_T {a b : zW} (h : zTt a b) (i : Int) : zTy (a 2) (a 1 1) i = zTx (b 94) (b 93 2) i := by
  unfold zTy zTx
  rw [← h.1]
  by_cases g : 0 ≤ i ∧ i < a 1 1
  · rw [if_pos g, if_pos g]; exact h.2.2 i g.1 g.2
  · rw [if_neg g, if_neg g]
theorem zJ0 {a b : zW} (h : zTt a b) : zSy (zcl0 a) (zmo0 b) ∧ zDr (zcl0 a) (zmo0 b) := by
  have s : zSy (zad (zupd (zupd (zupd (zupd (zupd (zsf (zupd (zupd (zupd a 14 0 0) 14 1 0) 14 2 1000) (-1)) 13 2 0) 13 3 0) 3 7 0) 3 8 (-1)) 3 3 0)) (zmgo (zupd (zupd (zupd (zupd (zupd b 93 3 (b 93 2)) 93 2 0) 93 4 0) 93 8 0) 93 9 (-1))) := zSy_ad (a := (zupd (zupd (zupd (zupd (zupd (zsf (zupd (zupd (zupd a 14 0 0) 14 1 0) 14 2 1000) (-1)) 13 2 0) 13 3 0) 3 7 0) 3 8 (-1)) 3 3 0)) (b := (zupd (zupd (zupd (zupd (zupd b 93 3 (b 93 2)) 93 2 0) 93 4 0) 93 8 0) 93 9 (-1))) ⟨h.2.1.1, h.2.1.2, h.1⟩ (fun i => zTt_T h i) rfl ⟨(by decide : (0 : Int) ≤ 0), h.2.1.1⟩
  refine ⟨s.tb rfl rfl rfl rfl rfl rfl rfl, ⟨⟨rfl, rfl, (by decide : (0 : Int) ≤ 0), (by decide : (0 : Int) ≤ 12), (by decide : (0 : Int) ≤ 0), (by decide : (0 : Int) ≤ 20)⟩, fun c c0 c1 => ?_, fun k k0 k1 => ?_, fun f i f0 f1 => ?_, fun x y x0 x1 y0 y1 => Or.inl ⟨?_, ?_⟩⟩, ⟨rfl, (by decide : (1 : Int) ≤ 1000), (by decide : (1000 : Int) ≤ 100000)⟩, ⟨rfl, Or.inl rfl⟩, rfl⟩
  · have c1 : c < 0 := c1
    omega
  · have k1 : k < 3 * 0 := k1
    omega
  · have f1 : f < 0 := f1
    omega
  · show (if (12 * x + y).toNat < 144 then (-1 : Int) else _) = -1
    exact if_pos (by omega)
  · show zclf _ 144 _ (144 + 12 * x + y).toNat = -1
    unfold zclf
    exact if_pos (by omega)
theorem zJR {a b : zW} (h : zTt a b) : zRp 800 (zcl0 a) ∧ zMe 800 (zmo0 b) ∧ zOut (zRL 800 (zcl0 a)) (zML 800 (zmo0 b)) ∧ ((zRL 800 (zcl0 a)).1 = 1 → (zRL 800 (zcl0 a)).2 3 1 = -1) := by
  obtain ⟨s, d⟩ := zJ0 h
  refine zJL 800 _ _ s d rfl ?_ (by decide : (0 : Int) ≤ 0) (by decide : (0 : Int) + ((800 : Nat) : Int) ≤ 800)
  have e : zcl0 a 1 1 = a 1 1 := rfl
  have m := (zad_mo (zupd (zupd (zupd (zupd (zupd (zsf (zupd (zupd (zupd a 14 0 0) 14 1 0) 14 2 1000) (-1)) 13 2 0) 13 3 0) 3 7 0) 3 8 (-1)) 3 3 0)).1
  have m : 0 ≤ zcl0 a 3 2 := m
  have := h.2.1.2
  rw [e]
  omega
/-- the class's contract needs this -/
theorem zJR_c {a b : zW} (h : zTt a b) : ((0 ≤ a 1 1 ∧ a 1 1 ≤ 800) ∧ zRp 800 (zcl0 a)) ∧ ((zRL 800 (zcl0 a)).1 ≠ 0 → zCT (zRL 800 (zcl0 a)).2) := by
  obtain ⟨r1, r2, r3, r4⟩ := zJR h
  refine ⟨⟨h.2.1, r1⟩, fun q => ?_⟩
  rcases r3 with o | o
  · exact (zDn_T o.2.2.2.1).2.2
  · exact (q o.1).elim
theorem zfw_1 (b : zW) : zfw b 1 = zg1 b := funext fun x => funext fun y => zfw1 b x y
theorem zJR_m {a b : zW} (h : zTt a b) : (0 ≤ b 93 2 ∧ b 93 2 ≤ 800) ∧ zMe 800 (zmo0 b) ∧ (zML 800 (zmo0 b) 93 8 = 0 → (zAr (zML 800 (zmo0 b)) 1 ∧ zTab (zfw (zML 800 (zmo0 b)) 1) (zML 800 (zmo0 b) 95 1)) ∧ zML 800 (zmo0 b) 93 6 ≠ 4) := by
  obtain ⟨r1, r2, r3, r4⟩ := zJR h
  refine ⟨by rw [← h.1]; exact h.2.1, r2, fun q => ?_⟩
  rcases r3 with o | o
  · have t := zDn_T o.2.2.2.1
    have k6 := o.2.2.1.kd.1.mp (r4 o.1)
    have hn := o.2.2.2.1.1
    rw [zfw_1]
    exact ⟨⟨⟨by decide, hn.2.2.1, hn.2.2.2.1⟩, t.2.1⟩, by rw [k6]; decide⟩
  · have := o.2.1
    omega
theorem zAll_m {A E : zW} (d : zDr A E) : zAll A ↔ zAlm E := by
  have t := zDn_T d.1
  have hn := d.1.1
  have e : zFi (fun c => zLn (zTC A) (A 14 0) c ≠ zNb (zTC A) (A 14 0) c) (A 14 0).toNat 0 = zFi (fun c => zLn (zfw E 1) (E 95 1) c ≠ zNb (zfw E 1) (E 95 1) c) (E 95 1).toNat 0 := by
    rw [hn.1, zfw_1]
    refine zFi_congr _ 0 fun c c0 c1 => ?_
    have hc : 0 ≤ c ∧ c < 12 := ⟨c0, by omega⟩
    have tA := t.2.2.2.2.2
    rw [hn.1] at tA
    rw [(zTq_ln t.1 tA hc).1, zTq_nb t.1 hn.2.2.2.1 hc]
  unfold zAll zAlm
  rw [e]
theorem zar12_g {B : Nat → Int} {f t c : Int} {k : Nat} (hk : (k : Int) = 12 * t + c) (c0 : 0 ≤ c) (c1 : c < 12) : zar1 B 12 f t 12 k = B (12 * f + c).toNat := by
  unfold zar1
  rw [if_pos (by omega), show (k : Int) - 12 * t + 12 * f = 12 * f + c by omega]
theorem zar60_g {B : Nat → Int} {f t c : Int} {k : Nat} (hk : (k : Int) = 60 * t + c) (c0 : 0 ≤ c) (c1 : c < 60) : zar1 B 60 f t 60 k = B (60 * f + c).toNat := by
  unfold zar1
  rw [if_pos (by omega), show (k : Int) - 60 * t + 60 * f = 60 * f + c by omega]
theorem zar144_g {B : Nat → Int} {f t c : Int} {k : Nat} (hk : (k : Int) = 144 * t + c) (c0 : 0 ≤ c) (c1 : c < 144) : zar1 B 144 f t 144 k = B (144 * f + c).toNat := by
  unfold zar1
  rw [if_pos (by omega), show (k : Int) - 144 * t + 144 * f = 144 * f + c by omega]
set_option maxRecDepth 100000 in
theorem zNet_fin {A E v V : zW} (d : zDr A E) (hv : zRows A v) (all : zAll A) (hc : ∀ p, p < 93 → V p = zrdN v p) (hm : ∀ p, 93 ≤ p → V p = zmrd E p) :
    zNt V ∧ (∀ c, 0 ≤ c → c < V 95 0 → V 30 c.toNat = V 98 c.toNat ∧ 1 ≤ V 30 c.toNat ∧ V 30 c.toNat ≤ 1000000) := by
  have t := zDn_T d.1
  obtain ⟨⟨⟨h1, h2, h3, h4, h5, h6⟩, hc0, hk0, hf0, hs0⟩, d1, d2, d3⟩ := d
  have vA : ∀ p : Nat, p ≠ 20 → p ≠ 21 → p ≠ 22 → v p = A p := hv.1
  have v14 := vA 14 (by decide) (by decide) (by decide)
  have V4 : V 4 0 = A 14 0 := by rw [hc 4 (by decide)]; show v 14 0 = A 14 0; rw [v14]
  have V41 : V 4 1 = A 14 1 := by rw [hc 4 (by decide)]; show v 14 1 = A 14 1; rw [v14]
  have V95 : V 95 0 = E 95 1 := by rw [hm 95 (by decide)]; rfl
  have V96 : V 96 0 = E 96 1 := by rw [hm 96 (by decide)]; rfl
  have cls : ∀ (p q : Nat) (n : Nat), (∀ k, k < n → zrdN v p k = v q k) → p < 93 → q ≠ 20 → q ≠ 21 → q ≠ 22 → ∀ k, k < n → V p k = A q k := fun p q n g p93 q0 q1 q2 k hk => by rw [hc p p93, g k hk, vA q q0 q1 q2]
  have V5 := cls 5 15 12 (fun k hk => if_pos hk) (by decide) (by decide) (by decide) (by decide)
  have V6 := cls 6 16 12 (fun k hk => if_pos hk) (by decide) (by decide) (by decide) (by decide)
  have V7 := cls 7 17 12 (fun k hk => if_pos hk) (by decide) (by decide) (by decide) (by decide)
  have V8 := cls 8 18 60 (fun k hk => if_pos hk) (by decide) (by decide) (by decide) (by decide)
  have V9 := cls 9 19 144 (fun k hk => if_pos hk) (by decide) (by decide) (by decide) (by decide)
  have V10 : ∀ k, k < 144 → V 10 k = v 20 k := fun k hk => by rw [hc 10 (by decide)]; exact if_pos hk
  have V11 : ∀ k, k < 12 → V 11 k = v 21 k := fun k hk => by rw [hc 11 (by decide)]; exact if_pos hk
  have V12 : ∀ k, k < 12 → V 12 k = v 22 k := fun k hk => by rw [hc 12 (by decide)]; exact if_pos hk
  have V97 : ∀ c : Int, 0 ≤ c → c < 12 → V 97 c.toNat = E 97 (12 + c).toNat := fun c c0 c1 => by
    rw [hm 97 (by decide)]
    exact zar12_g (B := E 97) (f := 1) (t := 0) (by omega) c0 c1
  have V101 : ∀ c : Int, 0 ≤ c → c < 12 → V 101 c.toNat = E 101 (12 + c).toNat := fun c c0 c1 => by
    rw [hm 101 (by decide)]
    exact zar12_g (B := E 101) (f := 1) (t := 0) (by omega) c0 c1
  have V98 : ∀ c : Int, 0 ≤ c → c < 12 → V 98 c.toNat = zrdf E 12 (12 + c).toNat := fun c c0 c1 => by
    rw [hm 98 (by decide)]
    exact zar12_g (B := zrdf E 12) (f := 1) (t := 0) (by omega) c0 c1
  have V99 : ∀ k : Int, 0 ≤ k → k < 60 → V 99 k.toNat = zcr1 E k := fun k k0 k1 => by
    rw [hm 99 (by decide)]
    exact zar60_g (B := E 99) (f := 1) (t := 0) (by omega) k0 k1
  have V100 : ∀ x y : Int, 0 ≤ x → x < 12 → 0 ≤ y → y < 12 → zfw V 0 x y = zg1 E x y := fun x y x0 x1 y0 y1 => by
    rw [zfw0, hm 100 (by decide)]
    refine (zar144_g (B := E 100) (f := 1) (t := 0) (c := 12 * x + y) (by omega) (by omega) (by omega)).trans ?_
    unfold zg1
    rw [show 144 * (1 : Int) + (12 * x + y) = 144 + 12 * x + y by omega]
  have co : ∀ k : Int, 0 ≤ k → k < 60 → zco V 0 k = zcr1 E k := fun k k0 k1 => by rw [zco0]; exact V99 k k0 k1
  have te : zTeq (zTC A) (zfw V 0) := fun x y x0 x1 y0 y1 => (t.1 x y x0 x1 y0 y1).trans (V100 x y x0 x1 y0 y1).symm
  have tA : zTab (zTC A) (E 95 1) := by
    have := t.2.2.2.2.2
    rw [h1] at this
    exact this
  refine ⟨⟨⟨⟨by rw [V4, V95, h1], by rw [V41, V96, h2], by rw [V95]; exact h3, by rw [V95]; exact h4, by rw [V96]; exact h5, by rw [V96]; exact h6⟩, fun c c0 c1 => ?_, fun k k0 k1 => ?_, fun f i f0 f1 i0 i1 => ?_, fun x y x0 x1 y0 y1 => ?_⟩, fun c c0 c1 => ?_⟩, fun c c0 c1 => ?_⟩
  · rw [V95] at c1
    have q := hc0 c c0 c1
    rw [show 12 * ((0 : Nat) : Int) + c = c by omega, V101 c c0 (by omega), V97 c c0 (by omega)]
    show znm (V 5 c.toNat) _ ∧ V 6 c.toNat = _ ∧ _
    rw [V5 c.toNat (by omega), V6 c.toNat (by omega)]
    exact ⟨q.1, q.2.1, q.2.2.2.1⟩
  · rw [V96] at k1
    have q := hk0 k k0 k1
    show V 8 k.toNat = _ ∧ _
    rw [co k k0 (by omega), V8 k.toNat (by omega), V95]
    exact q
  · rw [V96] at f1
    have q := hf0 f i f0 f1 i0 i1
    have k1 := hk0 (3 * f + i) (by omega) (by omega)
    have k2 := hk0 (3 * f + (i + 1) % 3) (by omega) (by omega)
    rw [co (3 * f + i) (by omega) (by omega), co (3 * f + (i + 1) % 3) (by omega) (by omega), co (3 * f + (i + 2) % 3) (by omega) (by omega), V100 _ _ k1.2.1 (by omega) k2.2.1 (by omega)]
    show V 9 _ = f ∧ _
    rw [V9 _ (by omega)]
    exact q
  · rw [V100 x y x0 x1 y0 y1]
    show (V 9 (12 * x + y).toNat = -1 ∧ _) ∨ _
    rw [V9 _ (by omega)]
    rcases hs0 x y x0 x1 y0 y1 with q | ⟨f, i, f0, f1, i0, i1, e1, e2⟩
    · exact Or.inl q
    · exact Or.inr ⟨f, i, f0, by rw [V96]; exact f1, i0, i1, by rw [co _ (by omega) (by omega)]; exact e1, by rw [co _ (by omega) (by omega)]; exact e2⟩
  · rw [V95] at c1
    have hc12 : 0 ≤ c ∧ c < 12 := ⟨c0, by omega⟩
    have rf := hv.2 all c c0 (by omega)
    rw [h1] at rf
    have al : zLn (zTC A) (E 95 1) c = zNb (zTC A) (E 95 1) c := by
      have a2 : zFi (fun c => zLn (zTC A) (A 14 0) c ≠ zNb (zTC A) (A 14 0) c) (A 14 0).toNat 0 = -1 := all
      rw [h1] at a2
      have := (zFi_none (by decide)).mp a2 c c0 (by omega)
      exact Classical.byContradiction this
    have ln := zTq_ln te tA hc12
    have nb := zTq_nb te h4 hc12
    have kd := zTq_kd te h4 hc12
    have tV := zTq_tab te tA
    rw [V95]
    refine ⟨⟨?_, ?_, fun i i0 i1 => ?_⟩, zLn_rw tV ⟨c0, c1⟩ (by rw [← ln.1, ← nb]; exact al)⟩
    · show V 11 c.toNat = _
      rw [V11 _ (by omega), rf.1, al, nb]
    · show V 12 c.toNat = _
      rw [V12 _ (by omega), rf.2.1, zRg_kd tA hc12, kd]
    · show V 10 (12 * c + i).toNat = _
      rw [← nb, ← al] at i1
      have l12 := zLn_rg tA hc12
      rw [V10 _ (by omega), rf.2.2 i i0 i1, ln.2 i i0 i1]
  · rw [V95] at c1
    have q := hc0 c c0 c1
    have e30 : V 30 c.toNat = if 0 < v 17 c.toNat then v 17 c.toNat else v 14 2 := by
      rw [hc 30 (by decide)]
      show (if (c.toNat : Int) < 12 then (if 0 < zcpN v 7 c.toNat then zcpN v 7 c.toNat else zcpN v 4 2) else _) = _
      rw [if_pos (by omega)]
      have e7 : zcpN v 7 c.toNat = v 17 c.toNat := if_pos (by omega)
      rw [e7]; rfl
    have e17 : v 17 c.toNat = E 98 (12 + c).toNat := by rw [vA 17 (by decide) (by decide) (by decide)]; exact q.2.2.1
    have e142 : v 14 2 = E 93 26 := by rw [v14]; exact d1.1
    have e98 : V 98 c.toNat = if E 98 (12 + c).toNat = 0 ∨ 0 < E 97 (12 + c).toNat then E 93 26 else E 98 (12 + c).toNat := by
      rw [V98 c c0 (by omega)]
      exact if_pos (by omega)
    rw [e30, e17, e142, e98]
    rcases q.2.2.2.2 with z | z
    · rw [if_pos (by omega), if_neg (by omega)]
      omega
    · rw [if_neg (by omega), if_pos (by omega)]
      omega
