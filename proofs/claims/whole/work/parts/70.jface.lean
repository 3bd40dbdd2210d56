/-! ===== class and model read the same statements: faces (written by wip/whole/gen_c.py) ===== -/
theorem zfw1 (b : zW) (x y : Int) : zfw b 1 x y = zg1 b x y := by
  unfold zfw zg1
  rw [show 144 * ((1 : Nat) : Int) + 12 * x + y = 144 + 12 * x + y by omega]
theorem zgg_b {w : zW} (h : w 93 8 ≠ 0) : zgg w = w := by rw [zgg_e, if_neg h]
theorem zchw_b {w : zW} (h : w 93 8 ≠ 0) : zchw w = w := by rw [zchw_e, if_neg h]
theorem zw3_b {w : zW} {c : Prop} (h : w 93 8 ≠ 0) : zw3 w c = w := zw3_n fun q => h q.1
theorem zmF_b4 {b E : zW} (h : zF_4 b = E) (e : E 93 8 ≠ 0) : zmF b = E := by
  unfold zmF
  rw [if_neg (by rw [h]; exact e)]
  exact h
theorem zmF_b3 {b E : zW} (h : zchw (zF_3 b) = E) (e : E 93 8 ≠ 0) : zmF b = E := by
  refine zmF_b4 ?_ e
  unfold zF_4
  rw [h]
  exact zw3_b e
theorem zmF_b2w {b E : zW} (h : zw3 (zchw (zF_2 b)) (zch (zF_1 b) = zch (zF_2 b) ∨ zfw b 1 (zch (zF_1 b)) (zch (zF_2 b)) ≠ -1) = E) (e : E 93 8 ≠ 0) : zmF b = E := by
  refine zmF_b3 ?_ e
  unfold zF_3
  rw [h, zgg_b e, zchw_b e]
theorem zmF_b2 {b E : zW} (h : zchw (zF_2 b) = E) (e : E 93 8 ≠ 0) : zmF b = E := by
  refine zmF_b2w ?_ e
  rw [h]
  exact zw3_b e
theorem zmF_b1 {b E : zW} (h : zchw (zF_1 b) = E) (e : E 93 8 ≠ 0) : zmF b = E := by
  refine zmF_b2 ?_ e
  unfold zF_2
  rw [h, zgg_b e, zchw_b e]
theorem zmF_b0 {b E : zW} (h : zF_0 b = E) (e : E 93 8 ≠ 0) : zmF b = E := by
  refine zmF_b1 ?_ e
  unfold zF_1
  rw [h, zgg_b e, zchw_b e]
abbrev zFc (a A : zW) : Int := zFi (fun c => a 15 c.toNat = A 3 5) (a 14 0).toNat 0
theorem zJn {a b A B : zW} (d : zDn a b) (s : zSy A B) (g : B 93 8 = 0) (eB : B 101 = b 101 ∧ B 95 = b 95) :
    (A 3 4 = 1001 ∧ A 3 1 = 1 ∧ B 93 6 = 1 ∧ 0 ≤ zFc a A ∧ zFc a A < b 95 1 ∧ zchw B = B ∧ zch B = zFc a A) ∨ (A 3 4 = 1001 ∧ zFc a A = -1 ∧ zchw B = zwr B 4 ∧ B 93 6 = 1) ∨ (A 3 4 ≠ 1001 ∧ zchw B = zwr B 1) := by
  have hn := d.1
  by_cases c : A 3 4 = 1001
  · have nw := s.wm c
    have ef : zFc a A = zFi (fun c => b 101 (12 + c).toNat = B 93 12) (b 95 1).toNat 0 := d.nm nw.2.2
    have rg := zFi_rg (p := fun c => b 101 (12 + c).toNat = B 93 12) (b 95 1).toNat 0 (by omega)
    have ez : zch B = if zFc a A = -1 then b 95 1 else zFc a A := by
      unfold zch znd
      rw [eB.1, eB.2, ← ef]
    have n0 := s.wn.mp c
    by_cases c3 : zFc a A = -1
    · rw [if_pos c3] at ez
      refine Or.inr (Or.inl ⟨c, c3, ?_, nw.1⟩)
      rw [zchw_e, if_pos g, if_neg n0, if_pos (by rw [ez, eB.2])]
    · rw [if_neg c3] at ez
      refine Or.inl ⟨c, nw.2.1, nw.1, by omega, by omega, ?_, ez⟩
      rw [zchw_e, if_pos g, if_neg n0, if_neg (by rw [ez, eB.2]; omega)]
  · refine Or.inr (Or.inr ⟨c, ?_⟩)
    rw [zchw_e, if_pos g, if_pos (Classical.byContradiction fun q => c (s.wn.mpr q))]
theorem zDr.fr {a a' b b' : zW} (h : zDr a b) (e13 : a' 13 = a 13) (e14 : a' 14 = a 14) (e15 : a' 15 = a 15) (e16 : a' 16 = a 16) (e17 : a' 17 = a 17) (e18 : a' 18 = a 18) (e19 : a' 19 = a 19) (e95 : b' 95 = b 95) (e96 : b' 96 = b 96) (e97 : b' 97 = b 97) (e98 : b' 98 = b 98) (e99 : b' 99 = b 99) (e100 : b' 100 = b 100) (e101 : b' 101 = b 101) (f25 : b' 93 25 = b 93 25) (f26 : b' 93 26 = b 93 26) (f27 : b' 93 27 = b 93 27) : zDr a' b' := by
  unfold zDr zDn zcr1 zg1 at h ⊢
  rw [e13, e14, e15, e16, e17, e18, e19, e95, e96, e97, e98, e99, e100, e101, f25, f26, f27]
  exact h
theorem zDr.ad {a b : zW} (h : zDr a b) : zDr (zad a) b := h.fr rfl rfl rfl rfl rfl rfl rfl rfl rfl rfl rfl rfl rfl rfl rfl rfl rfl
theorem zDr.go {a b : zW} (h : zDr a b) : zDr (zad a) (zmgo b) := h.fr rfl rfl rfl rfl rfl rfl rfl rfl rfl rfl rfl rfl rfl rfl rfl rfl rfl
theorem zJF_ok {A B : zW} (d : zDr A B) (s : zSy A (zmgo B)) (g : B 93 8 = 0) (c1 : A 14 1 < 20) {x y z : Int} (hx : 0 ≤ x ∧ x < B 95 1) (hy : 0 ≤ y ∧ y < B 95 1) (hz : 0 ≤ z ∧ z < B 95 1) (xy : x ≠ y) (yz : y ≠ z) (zx : z ≠ x)
    (n1 : A 19 (12 * x + y).toNat = -1) (n2 : A 19 (12 * y + z).toNat = -1) (n3 : A 19 (12 * z + x).toNat = -1) : zOut (1, zafc A x y z) (zmAf B (B 96 1) x y z) := by
  obtain ⟨d0, d1, d2, d3⟩ := d
  have hn := d0.1
  have hf : A 14 1 = B 96 1 := hn.2.1
  left
  refine ⟨rfl, g, (s.ta rfl rfl rfl rfl rfl rfl rfl rfl).tb rfl rfl rfl rfl rfl rfl rfl, zDn_f (x := x) (y := y) (z := z) d0 (by omega) hx hy hz xy yz zx n1 n2 n3 rfl rfl rfl rfl rfl rfl rfl rfl rfl rfl (fun k k0 k1 => ?_) (fun k k0 k1 => ?_) (fun u v u0 u1 v0 v1 => ?_) (fun u v u0 u1 v0 v1 => ?_), d1, d2, d3⟩
  · show (if k.toNat = (3 * A 14 1 + 2).toNat then z else if k.toNat = (3 * A 14 1 + 1).toNat then y else if k.toNat = (3 * A 14 1).toNat then x else A 18 k.toNat) = _
    rw [hf]
    by_cases g0 : k = 3 * B 96 1
    · rw [if_pos g0, if_neg (by omega), if_neg (by omega), if_pos (by omega)]
    · rw [if_neg g0]
      by_cases g1 : k = 3 * B 96 1 + 1
      · rw [if_pos g1, if_neg (by omega), if_pos (by omega)]
      · rw [if_neg g1]
        by_cases g2 : k = 3 * B 96 1 + 2
        · rw [if_pos g2, if_pos (by omega)]
        · rw [if_neg g2, if_neg (by omega), if_neg (by omega), if_neg (by omega)]
  · show (if (60 + k).toNat = (60 + 3 * B 96 1 + 2).toNat then z else if (60 + k).toNat = (60 + 3 * B 96 1 + 1).toNat then y else if (60 + k).toNat = (60 + 3 * B 96 1).toNat then x else B 99 (60 + k).toNat) = _
    by_cases g0 : k = 3 * B 96 1
    · rw [if_pos g0, if_neg (by omega), if_neg (by omega), if_pos (by omega)]
    · rw [if_neg g0]
      by_cases g1 : k = 3 * B 96 1 + 1
      · rw [if_pos g1, if_neg (by omega), if_pos (by omega)]
      · rw [if_neg g1]
        by_cases g2 : k = 3 * B 96 1 + 2
        · rw [if_pos g2, if_pos (by omega)]
        · rw [if_neg g2, if_neg (by omega), if_neg (by omega), if_neg (by omega)]
          rfl
  · show (if (12 * u + v).toNat = (12 * z + x).toNat then A 14 1 else if (12 * u + v).toNat = (12 * y + z).toNat then A 14 1 else if (12 * u + v).toNat = (12 * x + y).toNat then A 14 1 else A 19 (12 * u + v).toNat) = _
    rw [hf]
    by_cases m1 : u = x ∧ v = y
    · rw [if_pos m1, if_neg (by omega), if_neg (by omega), if_pos (by omega)]
    · rw [if_neg m1]
      by_cases m2 : u = y ∧ v = z
      · rw [if_pos m2, if_neg (by omega), if_pos (by omega)]
      · rw [if_neg m2]
        by_cases m3 : u = z ∧ v = x
        · rw [if_pos m3, if_pos (by omega)]
        · rw [if_neg m3, if_neg (by omega), if_neg (by omega), if_neg (by omega)]
  · show (if (144 + 12 * u + v).toNat = (144 + 12 * z + x).toNat then y else if (144 + 12 * u + v).toNat = (144 + 12 * y + z).toNat then x else if (144 + 12 * u + v).toNat = (144 + 12 * x + y).toNat then z else B 100 (144 + 12 * u + v).toNat) = _
    by_cases m1 : u = x ∧ v = y
    · rw [if_pos m1, if_neg (by omega), if_neg (by omega), if_pos (by omega)]
    · rw [if_neg m1]
      by_cases m2 : u = y ∧ v = z
      · rw [if_pos m2, if_neg (by omega), if_pos (by omega)]
      · rw [if_neg m2]
        by_cases m3 : u = z ∧ v = x
        · rw [if_pos m3, if_pos (by omega)]
        · rw [if_neg m3, if_neg (by omega), if_neg (by omega), if_neg (by omega)]
          rfl
theorem zJF {a b : zW} (h : zSy a b) (d : zDr a b) (g : b 93 8 = 0) (k : a 3 1 ≠ -1) (w6 : b 93 6 = 1) : zOut (zrF a) (zmF b) := by
  obtain ⟨d0, d1, d2, d3⟩ := d
  have hn := d0.1
  have s1 := h.ad k
  have er : ∀ {A B : zW} {k : Int}, zSy A B → 0 < k → (B 93 6 = 4 → k = 1) → zmF b = zwr B k → zOut (0, zfl A k) (zmF b) := fun {A B k} s hk hs e => by
    rw [e]; exact Or.inr ⟨rfl, zEr_fl s hk hs⟩
  unfold zrF
  by_cases c1 : a 14 1 < 20
  · rw [if_pos c1]
    have f0 : zF_0 b = b := by rw [zF_0_e, if_neg (by omega)]
    have f1 : zF_1 b = zmgo b := by unfold zF_1; rw [f0, zgg_e, if_pos g]
    rcases zJn d0 s1 g ⟨rfl, rfl⟩ with ⟨c2, kk1, w1, r1, r1', e1, z1⟩ | ⟨c2, c3, e1, w1⟩ | ⟨c2, e1⟩
    · rw [if_pos c2, if_neg (show ¬ zFc a (zad a) = -1 by omega)]
      have s2 := s1.ad (by rw [kk1]; decide)
      have f2 : zF_2 b = zmgo (zmgo b) := by unfold zF_2; rw [f1, e1, zgg_e, if_pos (show zmgo b 93 8 = 0 from g)]
      rcases zJn d0 s2 g ⟨rfl, rfl⟩ with ⟨c4, kk2, w2, r2, r2', e2, z2⟩ | ⟨c4, c5, e2, w2⟩ | ⟨c4, e2⟩
      · rw [if_pos c4, if_neg (show ¬ zFc a (zad (zad a)) = -1 by omega)]
        have sd : a 19 (12 * zFc a (zad a) + zFc a (zad (zad a))).toNat = -1 ↔ zfw b 1 (zFc a (zad a)) (zFc a (zad (zad a))) = -1 := by rw [zfw1]; exact d0.side r1 (by omega) r2 (by omega)
        by_cases c6 : zFc a (zad (zad a)) = zFc a (zad a)
        · rw [if_pos c6]
          refine er s2 (by decide) (fun q => by omega) (zmF_b2w ?_ (zwr_8 (by decide)))
          rw [f1, f2, e2, z1, z2]
          exact zw3_y g (Or.inl c6.symm)
        · rw [if_neg c6]
          by_cases c7 : a 19 (12 * zFc a (zad a) + zFc a (zad (zad a))).toNat = -1
          · rw [if_pos c7]
            have f3 : zF_3 b = zmgo (zmgo (zmgo b)) := by
              unfold zF_3
              rw [f1, f2, e2, z1, z2, zw3_n fun q => q.2.elim (fun q => c6 q.symm) fun q => q (sd.mp c7), zgg_e, if_pos (show zmgo (zmgo b) 93 8 = 0 from g)]
            have s3 := s2.ad (by rw [kk2]; decide)
            rcases zJn d0 s3 g ⟨rfl, rfl⟩ with ⟨c8, kk3, w3, r3, r3', e3, z3⟩ | ⟨c8, c9, e3, w3⟩ | ⟨c8, e3⟩
            · rw [if_pos c8, if_neg (show ¬ zFc a (zad (zad (zad a))) = -1 by omega)]
              have sd2 : a 19 (12 * zFc a (zad (zad a)) + zFc a (zad (zad (zad a)))).toNat = -1 ↔ zfw b 1 (zFc a (zad (zad a))) (zFc a (zad (zad (zad a)))) = -1 := by rw [zfw1]; exact d0.side r2 (by omega) r3 (by omega)
              have sd3 : a 19 (12 * zFc a (zad (zad (zad a))) + zFc a (zad a)).toNat = -1 ↔ zfw b 1 (zFc a (zad (zad (zad a)))) (zFc a (zad a)) = -1 := by rw [zfw1]; exact d0.side r3 (by omega) r1 (by omega)
              have bad : (zFc a (zad a) = zFc a (zad (zad (zad a))) ∨ zFc a (zad (zad a)) = zFc a (zad (zad (zad a))) ∨ zfw b 1 (zFc a (zad (zad a))) (zFc a (zad (zad (zad a)))) ≠ -1 ∨ zfw b 1 (zFc a (zad (zad (zad a)))) (zFc a (zad a)) ≠ -1) → zmF b = zwr (zmgo (zmgo (zmgo b))) 3 := fun q => by
                refine zmF_b4 ?_ (zwr_8 (by decide))
                unfold zF_4
                rw [f1, f2, f3, e3, z1, z2, z3]
                exact zw3_y g q
              by_cases ca : zFc a (zad (zad (zad a))) = zFc a (zad a)
              · rw [if_pos ca]
                exact er s3 (by decide) (fun q => by omega) (bad (Or.inl ca.symm))
              · rw [if_neg ca]
                by_cases cb : zFc a (zad (zad (zad a))) = zFc a (zad (zad a))
                · rw [if_pos cb]
                  exact er s3 (by decide) (fun q => by omega) (bad (Or.inr (Or.inl cb.symm)))
                · rw [if_neg cb]
                  by_cases cc : a 19 (12 * zFc a (zad (zad a)) + zFc a (zad (zad (zad a)))).toNat = -1
                  · rw [if_pos cc]
                    by_cases cd : a 19 (12 * zFc a (zad (zad (zad a))) + zFc a (zad a)).toNat = -1
                    · rw [if_pos cd]
                      have f4 : zF_4 b = zmgo (zmgo (zmgo b)) := by
                        unfold zF_4
                        rw [f1, f2, f3, e3, z1, z2, z3]
                        exact zw3_n fun q => q.2.elim (fun q => ca q.symm) fun q => q.elim (fun q => cb q.symm) fun q => q.elim (fun q => q (sd2.mp cc)) fun q => q (sd3.mp cd)
                      have em : zmF b = zmAf (zmgo (zmgo (zmgo b))) (b 96 1) (zFc a (zad a)) (zFc a (zad (zad a))) (zFc a (zad (zad (zad a)))) := by
                        unfold zmF
                        rw [f4, if_pos (show zmgo (zmgo (zmgo b)) 93 8 = 0 from g), f1, f2, f3, z1, z2, z3]
                      rw [em]
                      have s4 := s3.ad (by rw [kk3]; decide)
                      exact zJF_ok (A := zad (zad (zad (zad a)))) (B := zmgo (zmgo (zmgo b))) ((zDr.go (zDr.go (zDr.go ⟨d0, d1, d2, d3⟩))).ad) s4 g c1 ⟨r1, r1'⟩ ⟨r2, r2'⟩ ⟨r3, r3'⟩ (fun q => c6 q.symm) (fun q => cb q.symm) ca c7 cc cd
                    · rw [if_neg cd]
                      exact er s3 (by decide) (fun q => by omega) (bad (Or.inr (Or.inr (Or.inr fun q => cd (sd3.mpr q)))))
                  · rw [if_neg cc]
                    exact er s3 (by decide) (fun q => by omega) (bad (Or.inr (Or.inr (Or.inl fun q => cc (sd2.mpr q)))))
            · rw [if_pos c8, if_pos c9]
              exact er s3 (by decide) (fun q => by omega) (zmF_b3 (by rw [f3, e3]) (zwr_8 (by decide)))
            · rw [if_neg c8]
              exact er s3 (by decide) (fun _ => rfl) (zmF_b3 (by rw [f3, e3]) (zwr_8 (by decide)))
          · rw [if_neg c7]
            refine er s2 (by decide) (fun q => by omega) (zmF_b2w ?_ (zwr_8 (by decide)))
            rw [f1, f2, e2, z1, z2]
            exact zw3_y g (Or.inr fun q => c7 (sd.mpr q))
      · rw [if_pos c4, if_pos c5]
        exact er s2 (by decide) (fun q => by omega) (zmF_b2 (by rw [f2, e2]) (zwr_8 (by decide)))
      · rw [if_neg c4]
        exact er s2 (by decide) (fun _ => rfl) (zmF_b2 (by rw [f2, e2]) (zwr_8 (by decide)))
    · rw [if_pos c2, if_pos c3]
      exact er s1 (by decide) (fun q => by omega) (zmF_b1 (by rw [f1, e1]) (zwr_8 (by decide)))
    · rw [if_neg c2]
      exact er s1 (by decide) (fun _ => rfl) (zmF_b1 (by rw [f1, e1]) (zwr_8 (by decide)))
  · rw [if_neg c1]
    refine er h (by decide) (fun q => by omega) (zmF_b0 ?_ (zwr_8 (by decide)))
    rw [zF_0_e, if_pos (by omega)]
