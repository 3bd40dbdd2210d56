/-! ===== sums of angles (written by wip/whole/gen_c.py) ===== -/
/-- the sum of a circle: over all who are followed around it -/
noncomputable def zHs (T : Int → Int → Int) (n c : Int) (F : Int → Int → Int) : Int := zSm (fun a => if T c a = -1 then 0 else F a (T c a)) n.toNat 0
noncomputable def zHf (r : Int → Int) (own ch a b : Int) : Int := zan own (max 1 (r a + ch)) (max 1 (r b + ch))
noncomputable def zH (T : Int → Int → Int) (n : Int) (r : Int → Int) (c own ch : Int) : Int := zHs T n c (zHf r own ch)
theorem zHs_row {T : Int → Int → Int} {n c : Int} (F : Int → Int → Int) (hT : zTab T n) (c0 : 0 ≤ c) (c1 : c < n) (h : zRw1 T n c) :
    zSm (fun i => F (zrw T n c i) (zrw T n c (if i + 1 < zNb T n c then i + 1 else 0))) (if zKd T n c = 0 then zNb T n c else zNb T n c - 1).toNat 0 = zHs T n c F := by
  obtain ⟨t0, t1, _⟩ := hT
  obtain ⟨r0, r1, r2, r3, r4⟩ := h
  obtain ⟨g0, g1⟩ := zNb_rg T c t0
  have hp := zSm_perm n.toNat (zNb T n c).toNat (zrw T n c) (fun a => if T c a = -1 then 0 else F a (T c a)) (fun i i0 i1 => by have := r1 i i0 (by omega); omega) (fun i j i0 ij j1 => r3 i j i0 ij (by omega)) (fun a a0 a1 ha => by
    have hne : T c a ≠ -1 := fun e => ha (by show (if T c a = -1 then 0 else F a (T c a)) = 0; rw [if_pos e])
    obtain ⟨i, i0, i1, e⟩ := r4 a a0 (by omega) fun q => hne q.1
    exact ⟨i, i0, by omega, e⟩)
  unfold zHs
  rw [← hp]
  have hst : ∀ i, 0 ≤ i → i + 1 < zNb T n c → F (zrw T n c i) (zrw T n c (if i + 1 < zNb T n c then i + 1 else 0)) = (fun a => if T c a = -1 then 0 else F a (T c a)) (zrw T n c i) := fun i i0 i1 => by
    show _ = if T c (zrw T n c i) = -1 then 0 else F (zrw T n c i) (T c (zrw T n c i))
    rw [if_pos i1, ← zrw_succ T n c i i0, if_neg (by have := r1 (i + 1) (by omega) i1; omega)]
  by_cases hk : zKd T n c = 0
  · rw [if_pos hk]
    refine zSm_congr _ 0 fun i i0 i1 => ?_
    by_cases hi : i + 1 < zNb T n c
    · exact hst i i0 hi
    · show _ = if T c (zrw T n c i) = -1 then 0 else F (zrw T n c i) (T c (zrw T n c i))
      have e := r2 (by omega)
      rw [if_pos hk] at e
      have e2 : zrw T n c 0 = zFs T n c := rfl
      have hi2 : i + 1 = zNb T n c := by omega
      rw [if_neg hi, ← zrw_succ T n c i i0, hi2, e, e2, if_neg (by have := r1 0 (by omega) (by omega); rw [e2] at this; omega)]
  · rw [if_neg hk]
    by_cases hz : zNb T n c = 0
    · rw [hz]; rfl
    · have em : (zNb T n c).toNat = (zNb T n c - 1).toNat + 1 := by omega
      rw [em, zSm_last]
      have e := r2 (by omega)
      rw [if_neg hk] at e
      have : (if T c (zrw T n c (0 + ((zNb T n c - 1).toNat : Int))) = -1 then 0 else F (zrw T n c (0 + ((zNb T n c - 1).toNat : Int))) (T c (zrw T n c (0 + ((zNb T n c - 1).toNat : Int))))) = 0 := by
        refine if_pos ?_
        rw [← zrw_succ T n c _ (by omega), show 0 + ((zNb T n c - 1).toNat : Int) + 1 = zNb T n c by omega]
        exact e
      rw [this, Int.add_zero]
      exact zSm_congr _ 0 fun i i0 i1 => hst i i0 (by omega)
theorem zHs_faces {q o : Nat} {w : zW} (F : Int → Int → Int) (h : zNet q o w) {c : Int} (c0 : 0 ≤ c) (c1 : c < 12) :
    zSm (fun k => if zco w o k = c then F (zco w o (3 * (k / 3) + (k % 3 + 1) % 3)) (zco w o (3 * (k / 3) + (k % 3 + 2) % 3)) else 0) (3 * w 96 o).toNat 0 = zHs (zfw w o) (w 95 o) c F := by
  obtain ⟨⟨_, _, n0, n1, f0, f1⟩, _, hk, hf, hs⟩ := h
  have hp := zSm_permP (w 95 o).toNat (fun k => zco w o k = c) (3 * w 96 o).toNat (fun k => zco w o (3 * (k / 3) + (k % 3 + 1) % 3)) (fun a => if zfw w o c a = -1 then 0 else F a (zfw w o c a))
    (fun k k0 k1 _ => by
      have := hk (3 * (k / 3) + (k % 3 + 1) % 3) (by omega) (by omega)
      show 0 ≤ zco w o (3 * (k / 3) + (k % 3 + 1) % 3) ∧ zco w o (3 * (k / 3) + (k % 3 + 1) % 3) < _
      omega)
    (fun i j i0 ij j1 ei ej he => by
      have he : zco w o (3 * (i / 3) + (i % 3 + 1) % 3) = zco w o (3 * (j / 3) + (j % 3 + 1) % 3) := he
      have gi := hf (i / 3) (i % 3) (by omega) (by omega) (by omega) (by omega)
      have gj := hf (j / 3) (j % 3) (by omega) (by omega) (by omega) (by omega)
      have ei : zco w o (3 * (i / 3) + i % 3) = c := by rw [show 3 * (i / 3) + i % 3 = i by omega]; exact ei
      have ej : zco w o (3 * (j / 3) + j % 3) = c := by rw [show 3 * (j / 3) + j % 3 = j by omega]; exact ej
      rw [ei, he] at gi
      rw [ej] at gj
      have e : i / 3 = j / 3 := gi.1.symm.trans gj.1
      rw [e] at ei
      have d0 := (hf (j / 3) 0 (by omega) (by omega) (by omega) (by omega)).2.2
      have d1 := (hf (j / 3) 1 (by omega) (by omega) (by omega) (by omega)).2.2
      have d2 := (hf (j / 3) 2 (by omega) (by omega) (by omega) (by omega)).2.2
      rw [show (0 + 1) % 3 = (1 : Int) by rfl] at d0
      rw [show (1 + 1) % 3 = (2 : Int) by rfl] at d1
      rw [show (2 + 1) % 3 = (0 : Int) by rfl] at d2
      rcases (show i % 3 = 0 ∨ i % 3 = 1 ∨ i % 3 = 2 by omega) with a | a | a <;> rcases (show j % 3 = 0 ∨ j % 3 = 1 ∨ j % 3 = 2 by omega) with b | b | b <;> rw [a] at ei <;> rw [b] at ej <;> first | omega | exact d0 (ei.trans ej.symm) | exact d0 (ej.trans ei.symm) | exact d1 (ei.trans ej.symm) | exact d1 (ej.trans ei.symm) | exact d2 (ei.trans ej.symm) | exact d2 (ej.trans ei.symm))
    (fun a a0 a1 ha => by
      have hne : zfw w o c a ≠ -1 := fun e => ha (by show (if zfw w o c a = -1 then 0 else F a (zfw w o c a)) = 0; rw [if_pos e])
      rcases hs c a c0 c1 a0 (by omega) with ⟨_, q2⟩ | ⟨f, i, f0, f1, i0, i1, e1, e2⟩
      · exact (hne q2).elim
      · refine ⟨3 * f + i, by omega, by omega, e1.symm, ?_⟩
        show zco w o (3 * ((3 * f + i) / 3) + ((3 * f + i) % 3 + 1) % 3) = a
        rw [show (3 * f + i) / 3 = f by omega, show (3 * f + i) % 3 = i by omega]
        exact e2.symm)
  unfold zHs
  rw [← hp]
  refine zSm_congr _ 0 fun k k0 k1 => ?_
  by_cases e : zco w o k = c
  · rw [if_pos e, if_pos e]
    have g := hf (k / 3) (k % 3) (by omega) (by omega) (by omega) (by omega)
    rw [show 3 * (k / 3) + k % 3 = k by omega, e] at g
    show _ = if zfw w o c (zco w o (3 * (k / 3) + (k % 3 + 1) % 3)) = -1 then 0 else F (zco w o (3 * (k / 3) + (k % 3 + 1) % 3)) (zfw w o c (zco w o (3 * (k / 3) + (k % 3 + 1) % 3)))
    rw [g.2.1, if_neg (by have := hk (3 * (k / 3) + (k % 3 + 2) % 3) (by omega) (by omega); omega)]
  · rw [if_neg e, if_neg e]
/-- all radii of circles are in their range -/
def zRd (q : Nat) (w : zW) : Prop := ∀ c, 0 ≤ c → c < w 95 0 → 1 ≤ w q c.toNat ∧ w q c.toNat ≤ 1000000
theorem zH_rg {T : Int → Int → Int} {n : Int} {r : Int → Int} {c own ch : Int} (hT : zTab T n) (c0 : 0 ≤ c) (c1 : c < 12) (hr : ∀ a, 0 ≤ a → a < n → 1 ≤ r a ∧ r a ≤ 1000000) (ho : 1 ≤ own ∧ own ≤ 2000000) (hc : -1000 ≤ ch ∧ ch ≤ 1000) : 0 ≤ zH T n r c own ch ∧ zH T n r c own ch ≤ 1536000000000 := by
  obtain ⟨t0, t1, t2⟩ := hT
  have := zSm_rg (f := fun a => if T c a = -1 then 0 else zHf r own ch a (T c a)) (lo := 0) (hi := 128000000000) n.toNat 0 fun a a0 a1 => by
    show 0 ≤ (if T c a = -1 then 0 else zHf r own ch a (T c a)) ∧ (if T c a = -1 then 0 else zHf r own ch a (T c a)) ≤ _
    by_cases e : T c a = -1
    · rw [if_pos e]; omega
    · rw [if_neg e]
      rcases t2 c a c0 c1 a0 (by omega) with q | q
      · exact (e q).elim
      · have h1 := hr a a0 (by omega)
        have h2 := hr (T c a) q.2.2.1 q.2.2.2.1
        exact zan_rg ho (by omega) (by omega)
  unfold zH zHs
  omega
theorem zH_congr {T : Int → Int → Int} {n : Int} {r r' : Int → Int} {c own ch : Int} (hT : zTab T n) (c0 : 0 ≤ c) (c1 : c < 12) (hr : ∀ a, 0 ≤ a → a < n → r a = r' a) : zH T n r c own ch = zH T n r' c own ch := by
  obtain ⟨t0, t1, t2⟩ := hT
  refine zSm_congr _ 0 fun a a0 a1 => ?_
  by_cases e : T c a = -1
  · rw [if_pos e, if_pos e]
  · rw [if_neg e, if_neg e]
    rcases t2 c a c0 c1 a0 (by omega) with q | q
    · exact (e q).elim
    · unfold zHf
      rw [hr a a0 (by omega), hr (T c a) q.2.2.1 q.2.2.2.1]
theorem zNt.tab {w : zW} (h : zNt w) : zTab (zF0 w) (w 95 0) := h.1.tab
/-! $Solver.changed -/
set_option maxRecDepth 100000 in
theorem zk91_35 (x d : Int) (w : zW) (K : zK) (h : ((0 ≤ x ∧ x < 12) ∧ -2000 ≤ d ∧ d ≤ 2000 ∧ 0 ≤ w 30 x.toNat ∧ w 30 x.toNat ≤ 2000000) ∧ (K (0, some (0, max 1 (w 30 x.toNat + d))) (w) 238)) : zcall 91 [(2, 35), (0, x), (0, d)] w 238 K := by
  obtain ⟨hg, h⟩ := h
  refine (show (zif False (0 ≤ x ∧ x < 12) (K (0, some (0, max 1 (z32 ((w 30 x.toNat) + d)))) w 238)) → _ from fun h => show zwp 91 0 [(2, 35), (0, x), (0, d)] [] w 238 0 K from zgo_imp zT27_ok (cut := fun pc => Nat.beq pc 9) 400 (show zif False (0 ≤ x ∧ x < 12) (zwp 91 9 [(2, 35), (0, x), (0, d)] [(0, w 30 x.toNat), (0, 1)] w 238 0 K) from zmZ (fun h => (fun h => show zwp 91 9 [(2, 35), (0, x), (0, d)] [(0, w 30 x.toNat), (0, 1)] w 238 0 K from zgo_imp zT27_ok (cut := fun pc => Nat.beq pc 9) 400 (show K (0, some (0, max 1 (z32 ((w 30 x.toNat) + d)))) w 238 from h)) h) h)) ?_
  refine zifI (by omega) ?_
  rw [z32_id (x := w 30 x.toNat + d) ⟨by omega, by omega⟩]
  exact h
noncomputable def zb91 (l0 : List zV) (w : zW) (K : zK) : Prop := cond (zpe (zar l0 0) 35) (zA l0 1 fun x => zA l0 2 fun d => ((0 ≤ x ∧ x < 12) ∧ -2000 ≤ d ∧ d ≤ 2000 ∧ 0 ≤ w 30 x.toNat ∧ w 30 x.toNat ≤ 2000000) ∧ (K (0, some (0, max 1 (w 30 x.toNat + d))) (w) 238)) (False)
noncomputable def zT28 : zSum := zsm1 91 [2, 0, 0] zb91 zT27
theorem zT28_ok : zSok zT28 := zsm1_ok zT27_ok fun l0 w K h => by
  unfold zb91 at h
  cases q0 : zpe (zar l0 0) 35 with
  | true =>
    rw [q0, cond_true] at h
    have e : zar l0 0 = 35 := zpe_e q0
    show zcall 91 [(2, zar l0 0), (0, zar l0 1), (0, zar l0 2)] w 238 K
    rw [e]
    exact zk91_35 (zar l0 1) (zar l0 2) w K (zA_e (zA_e h))
  | false =>
  rw [q0, cond_false] at h
  exact h.elim
set_option maxRecDepth 100000 in
theorem zk90_L38 {w : zW} {K : zK} (hr : zRd 30 w) (c r ch b l : Int) (hc : 0 ≤ c ∧ c < w 95 0) (hn : w 95 0 ≤ 12) (ho : 1 ≤ r ∧ r ≤ 1001000) (hd : -1000 ≤ ch ∧ ch ≤ 1000) (hl0 : l = w 11 c.toNat) (hl1 : l ≤ 12) (hb : b ≤ l) (hrw : ∀ i, 0 ≤ i → i < l → 0 ≤ w 10 (12 * c + i).toNat ∧ w 10 (12 * c + i).toNat < w 95 0)  : ∀ (m : Nat) (i s : Int) (d7 d9 d10 : zV), (0 ≤ i) → (i + m = b) → (0 ≤ s) → (s ≤ i * 128000000000) → (K (0, some (1, s + zSm (fun i => zan r (max 1 (w 30 (w 10 (12 * c + i).toNat).toNat + ch)) (max 1 (w 30 (w 10 (12 * c + (if i + 1 < l then i + 1 else 0)).toNat).toNat + ch))) m i)) w 238) → zwp 90 38 [(2, 35), (0, c), (0, r), (0, ch), (0, l), (0, b), (1, s), d7, (0, i), d9, d10] [] w 238 0 K := by
  
  intro m
  induction m with
  | zero =>
    intro i s d7 d9 d10 h1 h2 h3 h4 h
    refine (show (if i < b then zif False ((0 ≤ c ∧ c < 12) ∧ 0 ≤ i ∧ i < w 11 c.toNat ∧ i < 12) (if z32 (i + 1) < l then zif False ((0 ≤ c ∧ c < 12) ∧ 0 ≤ (z32 (i + 1)) ∧ (z32 (i + 1)) < w 11 c.toNat ∧ (z32 (i + 1)) < 12) (((0 ≤ (w 10 (12 * c + i).toNat) ∧ (w 10 (12 * c + i).toNat) < 12) ∧ -2000 ≤ ch ∧ ch ≤ 2000 ∧ 0 ≤ w 30 (w 10 (12 * c + i).toNat).toNat ∧ w 30 (w 10 (12 * c + i).toNat).toNat ≤ 2000000) ∧ (((0 ≤ (w 10 (12 * c + (z32 (i + 1))).toNat) ∧ (w 10 (12 * c + (z32 (i + 1))).toNat) < 12) ∧ -2000 ≤ ch ∧ ch ≤ 2000 ∧ 0 ≤ w 30 (w 10 (12 * c + (z32 (i + 1))).toNat).toNat ∧ w 30 (w 10 (12 * c + (z32 (i + 1))).toNat).toNat ≤ 2000000) ∧ (zif False ((1 ≤ r ∧ r ≤ 2000000) ∧ (1 ≤ (max 1 (w 30 (w 10 (12 * c + i).toNat).toNat + ch)) ∧ (max 1 (w 30 (w 10 (12 * c + i).toNat).toNat + ch)) ≤ 2000000) ∧ (1 ≤ (max 1 (w 30 (w 10 (12 * c + (z32 (i + 1))).toNat).toNat + ch)) ∧ (max 1 (w 30 (w 10 (12 * c + (z32 (i + 1))).toNat).toNat + ch)) ≤ 2000000)) (zwp 90 38 [(2, 35), (0, c), (0, r), (0, ch), (0, l), (0, b), (1, z64 (s + (zan r (max 1 (w 30 (w 10 (12 * c + i).toNat).toNat + ch)) (max 1 (w 30 (w 10 (12 * c + (z32 (i + 1))).toNat).toNat + ch))))), (9, 0), (0, z32 (i + 1)), (0, w 10 (12 * c + i).toNat), (0, w 10 (12 * c + (z32 (i + 1))).toNat)] [] w 238 0 K)))) else zif False ((0 ≤ c ∧ c < 12) ∧ 0 ≤ (0 : Int) ∧ (0 : Int) < w 11 c.toNat ∧ (0 : Int) < 12) (((0 ≤ (w 10 (12 * c + i).toNat) ∧ (w 10 (12 * c + i).toNat) < 12) ∧ -2000 ≤ ch ∧ ch ≤ 2000 ∧ 0 ≤ w 30 (w 10 (12 * c + i).toNat).toNat ∧ w 30 (w 10 (12 * c + i).toNat).toNat ≤ 2000000) ∧ (((0 ≤ (w 10 (12 * c + (0 : Int)).toNat) ∧ (w 10 (12 * c + (0 : Int)).toNat) < 12) ∧ -2000 ≤ ch ∧ ch ≤ 2000 ∧ 0 ≤ w 30 (w 10 (12 * c + (0 : Int)).toNat).toNat ∧ w 30 (w 10 (12 * c + (0 : Int)).toNat).toNat ≤ 2000000) ∧ (zif False ((1 ≤ r ∧ r ≤ 2000000) ∧ (1 ≤ (max 1 (w 30 (w 10 (12 * c + i).toNat).toNat + ch)) ∧ (max 1 (w 30 (w 10 (12 * c + i).toNat).toNat + ch)) ≤ 2000000) ∧ (1 ≤ (max 1 (w 30 (w 10 (12 * c + (0 : Int)).toNat).toNat + ch)) ∧ (max 1 (w 30 (w 10 (12 * c + (0 : Int)).toNat).toNat + ch)) ≤ 2000000)) (zwp 90 38 [(2, 35), (0, c), (0, r), (0, ch), (0, l), (0, b), (1, z64 (s + (zan r (max 1 (w 30 (w 10 (12 * c + i).toNat).toNat + ch)) (max 1 (w 30 (w 10 (12 * c + (0 : Int)).toNat).toNat + ch))))), (9, 0), (0, z32 (i + 1)), (0, w 10 (12 * c + i).toNat), (0, w 10 (12 * c + (0 : Int)).toNat)] [] w 238 0 K))))) else K (0, some (1, s)) w 238) → _ from fun h => show zwp 90 38 [(2, 35), (0, c), (0, r), (0, ch), (0, l), (0, b), (1, s), d7, (0, i), d9, d10] [] w 238 0 K from zgo_imp zT28_ok (cut := fun pc => Nat.beq pc 8 || Nat.beq pc 18 || Nat.beq pc 35 || Nat.beq pc 38 || Nat.beq pc 52 || Nat.beq pc 55 || Nat.beq pc 71 || Nat.beq pc 82 || Nat.beq pc 95 || Nat.beq pc 103 || Nat.beq pc 107) 400 (show if i < b then zwp 90 52 [(2, 35), (0, c), (0, r), (0, ch), (0, l), (0, b), (1, s), (9, 0), (0, i), (9, 0), (9, 0)] [(0, i), (0, c), (2, 4)] w 238 0 K else K (0, some (1, s)) w 238 from zmI (fun h => (fun h => show zwp 90 52 [(2, 35), (0, c), (0, r), (0, ch), (0, l), (0, b), (1, s), (9, 0), (0, i), (9, 0), (9, 0)] [(0, i), (0, c), (2, 4)] w 238 0 K from zgo_imp zT28_ok (cut := fun pc => Nat.beq pc 8 || Nat.beq pc 18 || Nat.beq pc 35 || Nat.beq pc 38 || Nat.beq pc 52 || Nat.beq pc 55 || Nat.beq pc 71 || Nat.beq pc 82 || Nat.beq pc 95 || Nat.beq pc 103 || Nat.beq pc 107) 400 (show zif False ((0 ≤ c ∧ c < 12) ∧ 0 ≤ i ∧ i < w 11 c.toNat ∧ i < 12) (zwp 90 55 [(2, 35), (0, c), (0, r), (0, ch), (0, l), (0, b), (1, s), (9, 0), (0, i), (9, 0), (9, 0)] [(0, w 10 (12 * c + i).toNat)] w 238 0 K) from zmZ (fun h => (fun h => show zwp 90 55 [(2, 35), (0, c), (0, r), (0, ch), (0, l), (0, b), (1, s), (9, 0), (0, i), (9, 0), (9, 0)] [(0, w 10 (12 * c + i).toNat)] w 238 0 K from zgo_imp zT28_ok (cut := fun pc => Nat.beq pc 8 || Nat.beq pc 18 || Nat.beq pc 35 || Nat.beq pc 38 || Nat.beq pc 52 || Nat.beq pc 55 || Nat.beq pc 71 || Nat.beq pc 82 || Nat.beq pc 95 || Nat.beq pc 103 || Nat.beq pc 107) 400 (show if z32 (i + 1) < l then zwp 90 71 [(2, 35), (0, c), (0, r), (0, ch), (0, l), (0, b), (1, s), (9, 0), (0, i), (0, w 10 (12 * c + i).toNat), (9, 0)] [(0, c), (2, 4)] w 238 0 K else zif False ((0 ≤ c ∧ c < 12) ∧ 0 ≤ (0 : Int) ∧ (0 : Int) < w 11 c.toNat ∧ (0 : Int) < 12) (zwp 90 82 [(2, 35), (0, c), (0, r), (0, ch), (0, l), (0, b), (1, s), (9, 0), (0, i), (0, w 10 (12 * c + i).toNat), (9, 0)] [(0, w 10 (12 * c + (0 : Int)).toNat)] w 238 0 K) from zmI (fun h => (fun h => show zwp 90 71 [(2, 35), (0, c), (0, r), (0, ch), (0, l), (0, b), (1, s), (9, 0), (0, i), (0, w 10 (12 * c + i).toNat), (9, 0)] [(0, c), (2, 4)] w 238 0 K from zgo_imp zT28_ok (cut := fun pc => Nat.beq pc 8 || Nat.beq pc 18 || Nat.beq pc 35 || Nat.beq pc 38 || Nat.beq pc 52 || Nat.beq pc 55 || Nat.beq pc 71 || Nat.beq pc 82 || Nat.beq pc 95 || Nat.beq pc 103 || Nat.beq pc 107) 400 (show zif False ((0 ≤ c ∧ c < 12) ∧ 0 ≤ (z32 (i + 1)) ∧ (z32 (i + 1)) < w 11 c.toNat ∧ (z32 (i + 1)) < 12) (zwp 90 82 [(2, 35), (0, c), (0, r), (0, ch), (0, l), (0, b), (1, s), (9, 0), (0, i), (0, w 10 (12 * c + i).toNat), (9, 0)] [(0, w 10 (12 * c + (z32 (i + 1))).toNat)] w 238 0 K) from zmZ (fun h => (fun h => show zwp 90 82 [(2, 35), (0, c), (0, r), (0, ch), (0, l), (0, b), (1, s), (9, 0), (0, i), (0, w 10 (12 * c + i).toNat), (9, 0)] [(0, w 10 (12 * c + (z32 (i + 1))).toNat)] w 238 0 K from zgo_imp zT28_ok (cut := fun pc => Nat.beq pc 8 || Nat.beq pc 18 || Nat.beq pc 35 || Nat.beq pc 38 || Nat.beq pc 52 || Nat.beq pc 55 || Nat.beq pc 71 || Nat.beq pc 82 || Nat.beq pc 95 || Nat.beq pc 103 || Nat.beq pc 107) 400 (show ((0 ≤ (w 10 (12 * c + i).toNat) ∧ (w 10 (12 * c + i).toNat) < 12) ∧ -2000 ≤ ch ∧ ch ≤ 2000 ∧ 0 ≤ w 30 (w 10 (12 * c + i).toNat).toNat ∧ w 30 (w 10 (12 * c + i).toNat).toNat ≤ 2000000) ∧ (zwp 90 95 [(2, 35), (0, c), (0, r), (0, ch), (0, l), (0, b), (1, s), (9, 0), (0, i), (0, w 10 (12 * c + i).toNat), (0, w 10 (12 * c + (z32 (i + 1))).toNat)] [(0, max 1 (w 30 (w 10 (12 * c + i).toNat).toNat + ch)), (1, r), (1, s)] w 238 0 K) from zmA (fun h => (fun h => show zwp 90 95 [(2, 35), (0, c), (0, r), (0, ch), (0, l), (0, b), (1, s), (9, 0), (0, i), (0, w 10 (12 * c + i).toNat), (0, w 10 (12 * c + (z32 (i + 1))).toNat)] [(0, max 1 (w 30 (w 10 (12 * c + i).toNat).toNat + ch)), (1, r), (1, s)] w 238 0 K from zgo_imp zT28_ok (cut := fun pc => Nat.beq pc 8 || Nat.beq pc 18 || Nat.beq pc 35 || Nat.beq pc 38 || Nat.beq pc 52 || Nat.beq pc 55 || Nat.beq pc 71 || Nat.beq pc 82 || Nat.beq pc 95 || Nat.beq pc 103 || Nat.beq pc 107) 400 (show ((0 ≤ (w 10 (12 * c + (z32 (i + 1))).toNat) ∧ (w 10 (12 * c + (z32 (i + 1))).toNat) < 12) ∧ -2000 ≤ ch ∧ ch ≤ 2000 ∧ 0 ≤ w 30 (w 10 (12 * c + (z32 (i + 1))).toNat).toNat ∧ w 30 (w 10 (12 * c + (z32 (i + 1))).toNat).toNat ≤ 2000000) ∧ (zwp 90 103 [(2, 35), (0, c), (0, r), (0, ch), (0, l), (0, b), (1, s), (9, 0), (0, i), (0, w 10 (12 * c + i).toNat), (0, w 10 (12 * c + (z32 (i + 1))).toNat)] [(0, max 1 (w 30 (w 10 (12 * c + (z32 (i + 1))).toNat).toNat + ch)), (1, max 1 (w 30 (w 10 (12 * c + i).toNat).toNat + ch)), (1, r), (1, s)] w 238 0 K) from zmA (fun h => (fun h => show zwp 90 103 [(2, 35), (0, c), (0, r), (0, ch), (0, l), (0, b), (1, s), (9, 0), (0, i), (0, w 10 (12 * c + i).toNat), (0, w 10 (12 * c + (z32 (i + 1))).toNat)] [(0, max 1 (w 30 (w 10 (12 * c + (z32 (i + 1))).toNat).toNat + ch)), (1, max 1 (w 30 (w 10 (12 * c + i).toNat).toNat + ch)), (1, r), (1, s)] w 238 0 K from zgo_imp zT28_ok (cut := fun pc => Nat.beq pc 8 || Nat.beq pc 18 || Nat.beq pc 35 || Nat.beq pc 38 || Nat.beq pc 52 || Nat.beq pc 55 || Nat.beq pc 71 || Nat.beq pc 82 || Nat.beq pc 95 || Nat.beq pc 103 || Nat.beq pc 107) 400 (show zif False ((1 ≤ r ∧ r ≤ 2000000) ∧ (1 ≤ (max 1 (w 30 (w 10 (12 * c + i).toNat).toNat + ch)) ∧ (max 1 (w 30 (w 10 (12 * c + i).toNat).toNat + ch)) ≤ 2000000) ∧ (1 ≤ (max 1 (w 30 (w 10 (12 * c + (z32 (i + 1))).toNat).toNat + ch)) ∧ (max 1 (w 30 (w 10 (12 * c + (z32 (i + 1))).toNat).toNat + ch)) ≤ 2000000)) (zwp 90 107 [(2, 35), (0, c), (0, r), (0, ch), (0, l), (0, b), (1, s), (9, 0), (0, i), (0, w 10 (12 * c + i).toNat), (0, w 10 (12 * c + (z32 (i + 1))).toNat)] [(1, zan r (max 1 (w 30 (w 10 (12 * c + i).toNat).toNat + ch)) (max 1 (w 30 (w 10 (12 * c + (z32 (i + 1))).toNat).toNat + ch))), (1, s)] w 238 0 K) from zmZ (fun h => (fun h => show zwp 90 107 [(2, 35), (0, c), (0, r), (0, ch), (0, l), (0, b), (1, s), (9, 0), (0, i), (0, w 10 (12 * c + i).toNat), (0, w 10 (12 * c + (z32 (i + 1))).toNat)] [(1, zan r (max 1 (w 30 (w 10 (12 * c + i).toNat).toNat + ch)) (max 1 (w 30 (w 10 (12 * c + (z32 (i + 1))).toNat).toNat + ch))), (1, s)] w 238 0 K from zgo_imp zT28_ok (cut := fun pc => Nat.beq pc 8 || Nat.beq pc 18 || Nat.beq pc 35 || Nat.beq pc 38 || Nat.beq pc 52 || Nat.beq pc 55 || Nat.beq pc 71 || Nat.beq pc 82 || Nat.beq pc 95 || Nat.beq pc 103 || Nat.beq pc 107) 400 (show zwp 90 38 [(2, 35), (0, c), (0, r), (0, ch), (0, l), (0, b), (1, z64 (s + (zan r (max 1 (w 30 (w 10 (12 * c + i).toNat).toNat + ch)) (max 1 (w 30 (w 10 (12 * c + (z32 (i + 1))).toNat).toNat + ch))))), (9, 0), (0, z32 (i + 1)), (0, w 10 (12 * c + i).toNat), (0, w 10 (12 * c + (z32 (i + 1))).toNat)] [] w 238 0 K from h)) h) h)) h) h)) h) h)) h) h)) h) (fun h => zmZ (fun h => (fun h => show zwp 90 82 [(2, 35), (0, c), (0, r), (0, ch), (0, l), (0, b), (1, s), (9, 0), (0, i), (0, w 10 (12 * c + i).toNat), (9, 0)] [(0, w 10 (12 * c + (0 : Int)).toNat)] w 238 0 K from zgo_imp zT28_ok (cut := fun pc => Nat.beq pc 8 || Nat.beq pc 18 || Nat.beq pc 35 || Nat.beq pc 38 || Nat.beq pc 52 || Nat.beq pc 55 || Nat.beq pc 71 || Nat.beq pc 82 || Nat.beq pc 95 || Nat.beq pc 103 || Nat.beq pc 107) 400 (show ((0 ≤ (w 10 (12 * c + i).toNat) ∧ (w 10 (12 * c + i).toNat) < 12) ∧ -2000 ≤ ch ∧ ch ≤ 2000 ∧ 0 ≤ w 30 (w 10 (12 * c + i).toNat).toNat ∧ w 30 (w 10 (12 * c + i).toNat).toNat ≤ 2000000) ∧ (zwp 90 95 [(2, 35), (0, c), (0, r), (0, ch), (0, l), (0, b), (1, s), (9, 0), (0, i), (0, w 10 (12 * c + i).toNat), (0, w 10 (12 * c + (0 : Int)).toNat)] [(0, max 1 (w 30 (w 10 (12 * c + i).toNat).toNat + ch)), (1, r), (1, s)] w 238 0 K) from zmA (fun h => (fun h => show zwp 90 95 [(2, 35), (0, c), (0, r), (0, ch), (0, l), (0, b), (1, s), (9, 0), (0, i), (0, w 10 (12 * c + i).toNat), (0, w 10 (12 * c + (0 : Int)).toNat)] [(0, max 1 (w 30 (w 10 (12 * c + i).toNat).toNat + ch)), (1, r), (1, s)] w 238 0 K from zgo_imp zT28_ok (cut := fun pc => Nat.beq pc 8 || Nat.beq pc 18 || Nat.beq pc 35 || Nat.beq pc 38 || Nat.beq pc 52 || Nat.beq pc 55 || Nat.beq pc 71 || Nat.beq pc 82 || Nat.beq pc 95 || Nat.beq pc 103 || Nat.beq pc 107) 400 (show ((0 ≤ (w 10 (12 * c + (0 : Int)).toNat) ∧ (w 10 (12 * c + (0 : Int)).toNat) < 12) ∧ -2000 ≤ ch ∧ ch ≤ 2000 ∧ 0 ≤ w 30 (w 10 (12 * c + (0 : Int)).toNat).toNat ∧ w 30 (w 10 (12 * c + (0 : Int)).toNat).toNat ≤ 2000000) ∧ (zwp 90 103 [(2, 35), (0, c), (0, r), (0, ch), (0, l), (0, b), (1, s), (9, 0), (0, i), (0, w 10 (12 * c + i).toNat), (0, w 10 (12 * c + (0 : Int)).toNat)] [(0, max 1 (w 30 (w 10 (12 * c + (0 : Int)).toNat).toNat + ch)), (1, max 1 (w 30 (w 10 (12 * c + i).toNat).toNat + ch)), (1, r), (1, s)] w 238 0 K) from zmA (fun h => (fun h => show zwp 90 103 [(2, 35), (0, c), (0, r), (0, ch), (0, l), (0, b), (1, s), (9, 0), (0, i), (0, w 10 (12 * c + i).toNat), (0, w 10 (12 * c + (0 : Int)).toNat)] [(0, max 1 (w 30 (w 10 (12 * c + (0 : Int)).toNat).toNat + ch)), (1, max 1 (w 30 (w 10 (12 * c + i).toNat).toNat + ch)), (1, r), (1, s)] w 238 0 K from zgo_imp zT28_ok (cut := fun pc => Nat.beq pc 8 || Nat.beq pc 18 || Nat.beq pc 35 || Nat.beq pc 38 || Nat.beq pc 52 || Nat.beq pc 55 || Nat.beq pc 71 || Nat.beq pc 82 || Nat.beq pc 95 || Nat.beq pc 103 || Nat.beq pc 107) 400 (show zif False ((1 ≤ r ∧ r ≤ 2000000) ∧ (1 ≤ (max 1 (w 30 (w 10 (12 * c + i).toNat).toNat + ch)) ∧ (max 1 (w 30 (w 10 (12 * c + i).toNat).toNat + ch)) ≤ 2000000) ∧ (1 ≤ (max 1 (w 30 (w 10 (12 * c + (0 : Int)).toNat).toNat + ch)) ∧ (max 1 (w 30 (w 10 (12 * c + (0 : Int)).toNat).toNat + ch)) ≤ 2000000)) (zwp 90 107 [(2, 35), (0, c), (0, r), (0, ch), (0, l), (0, b), (1, s), (9, 0), (0, i), (0, w 10 (12 * c + i).toNat), (0, w 10 (12 * c + (0 : Int)).toNat)] [(1, zan r (max 1 (w 30 (w 10 (12 * c + i).toNat).toNat + ch)) (max 1 (w 30 (w 10 (12 * c + (0 : Int)).toNat).toNat + ch))), (1, s)] w 238 0 K) from zmZ (fun h => (fun h => show zwp 90 107 [(2, 35), (0, c), (0, r), (0, ch), (0, l), (0, b), (1, s), (9, 0), (0, i), (0, w 10 (12 * c + i).toNat), (0, w 10 (12 * c + (0 : Int)).toNat)] [(1, zan r (max 1 (w 30 (w 10 (12 * c + i).toNat).toNat + ch)) (max 1 (w 30 (w 10 (12 * c + (0 : Int)).toNat).toNat + ch))), (1, s)] w 238 0 K from zgo_imp zT28_ok (cut := fun pc => Nat.beq pc 8 || Nat.beq pc 18 || Nat.beq pc 35 || Nat.beq pc 38 || Nat.beq pc 52 || Nat.beq pc 55 || Nat.beq pc 71 || Nat.beq pc 82 || Nat.beq pc 95 || Nat.beq pc 103 || Nat.beq pc 107) 400 (show zwp 90 38 [(2, 35), (0, c), (0, r), (0, ch), (0, l), (0, b), (1, z64 (s + (zan r (max 1 (w 30 (w 10 (12 * c + i).toNat).toNat + ch)) (max 1 (w 30 (w 10 (12 * c + (0 : Int)).toNat).toNat + ch))))), (9, 0), (0, z32 (i + 1)), (0, w 10 (12 * c + i).toNat), (0, w 10 (12 * c + (0 : Int)).toNat)] [] w 238 0 K from h)) h) h)) h) h)) h) h)) h) h) h)) h) h)) h) (fun h => h) h)) ?_
    refine ziF (by omega) ?_
    exact zKe h (by show s + 0 = s; omega)
  | succ m ih =>
    intro i s d7 d9 d10 h1 h2 h3 h4 h
    refine (show (if i < b then zif False ((0 ≤ c ∧ c < 12) ∧ 0 ≤ i ∧ i < w 11 c.toNat ∧ i < 12) (if z32 (i + 1) < l then zif False ((0 ≤ c ∧ c < 12) ∧ 0 ≤ (z32 (i + 1)) ∧ (z32 (i + 1)) < w 11 c.toNat ∧ (z32 (i + 1)) < 12) (((0 ≤ (w 10 (12 * c + i).toNat) ∧ (w 10 (12 * c + i).toNat) < 12) ∧ -2000 ≤ ch ∧ ch ≤ 2000 ∧ 0 ≤ w 30 (w 10 (12 * c + i).toNat).toNat ∧ w 30 (w 10 (12 * c + i).toNat).toNat ≤ 2000000) ∧ (((0 ≤ (w 10 (12 * c + (z32 (i + 1))).toNat) ∧ (w 10 (12 * c + (z32 (i + 1))).toNat) < 12) ∧ -2000 ≤ ch ∧ ch ≤ 2000 ∧ 0 ≤ w 30 (w 10 (12 * c + (z32 (i + 1))).toNat).toNat ∧ w 30 (w 10 (12 * c + (z32 (i + 1))).toNat).toNat ≤ 2000000) ∧ (zif False ((1 ≤ r ∧ r ≤ 2000000) ∧ (1 ≤ (max 1 (w 30 (w 10 (12 * c + i).toNat).toNat + ch)) ∧ (max 1 (w 30 (w 10 (12 * c + i).toNat).toNat + ch)) ≤ 2000000) ∧ (1 ≤ (max 1 (w 30 (w 10 (12 * c + (z32 (i + 1))).toNat).toNat + ch)) ∧ (max 1 (w 30 (w 10 (12 * c + (z32 (i + 1))).toNat).toNat + ch)) ≤ 2000000)) (zwp 90 38 [(2, 35), (0, c), (0, r), (0, ch), (0, l), (0, b), (1, z64 (s + (zan r (max 1 (w 30 (w 10 (12 * c + i).toNat).toNat + ch)) (max 1 (w 30 (w 10 (12 * c + (z32 (i + 1))).toNat).toNat + ch))))), (9, 0), (0, z32 (i + 1)), (0, w 10 (12 * c + i).toNat), (0, w 10 (12 * c + (z32 (i + 1))).toNat)] [] w 238 0 K)))) else zif False ((0 ≤ c ∧ c < 12) ∧ 0 ≤ (0 : Int) ∧ (0 : Int) < w 11 c.toNat ∧ (0 : Int) < 12) (((0 ≤ (w 10 (12 * c + i).toNat) ∧ (w 10 (12 * c + i).toNat) < 12) ∧ -2000 ≤ ch ∧ ch ≤ 2000 ∧ 0 ≤ w 30 (w 10 (12 * c + i).toNat).toNat ∧ w 30 (w 10 (12 * c + i).toNat).toNat ≤ 2000000) ∧ (((0 ≤ (w 10 (12 * c + (0 : Int)).toNat) ∧ (w 10 (12 * c + (0 : Int)).toNat) < 12) ∧ -2000 ≤ ch ∧ ch ≤ 2000 ∧ 0 ≤ w 30 (w 10 (12 * c + (0 : Int)).toNat).toNat ∧ w 30 (w 10 (12 * c + (0 : Int)).toNat).toNat ≤ 2000000) ∧ (zif False ((1 ≤ r ∧ r ≤ 2000000) ∧ (1 ≤ (max 1 (w 30 (w 10 (12 * c + i).toNat).toNat + ch)) ∧ (max 1 (w 30 (w 10 (12 * c + i).toNat).toNat + ch)) ≤ 2000000) ∧ (1 ≤ (max 1 (w 30 (w 10 (12 * c + (0 : Int)).toNat).toNat + ch)) ∧ (max 1 (w 30 (w 10 (12 * c + (0 : Int)).toNat).toNat + ch)) ≤ 2000000)) (zwp 90 38 [(2, 35), (0, c), (0, r), (0, ch), (0, l), (0, b), (1, z64 (s + (zan r (max 1 (w 30 (w 10 (12 * c + i).toNat).toNat + ch)) (max 1 (w 30 (w 10 (12 * c + (0 : Int)).toNat).toNat + ch))))), (9, 0), (0, z32 (i + 1)), (0, w 10 (12 * c + i).toNat), (0, w 10 (12 * c + (0 : Int)).toNat)] [] w 238 0 K))))) else K (0, some (1, s)) w 238) → _ from fun h => show zwp 90 38 [(2, 35), (0, c), (0, r), (0, ch), (0, l), (0, b), (1, s), d7, (0, i), d9, d10] [] w 238 0 K from zgo_imp zT28_ok (cut := fun pc => Nat.beq pc 8 || Nat.beq pc 18 || Nat.beq pc 35 || Nat.beq pc 38 || Nat.beq pc 52 || Nat.beq pc 55 || Nat.beq pc 71 || Nat.beq pc 82 || Nat.beq pc 95 || Nat.beq pc 103 || Nat.beq pc 107) 400 (show if i < b then zwp 90 52 [(2, 35), (0, c), (0, r), (0, ch), (0, l), (0, b), (1, s), (9, 0), (0, i), (9, 0), (9, 0)] [(0, i), (0, c), (2, 4)] w 238 0 K else K (0, some (1, s)) w 238 from zmI (fun h => (fun h => show zwp 90 52 [(2, 35), (0, c), (0, r), (0, ch), (0, l), (0, b), (1, s), (9, 0), (0, i), (9, 0), (9, 0)] [(0, i), (0, c), (2, 4)] w 238 0 K from zgo_imp zT28_ok (cut := fun pc => Nat.beq pc 8 || Nat.beq pc 18 || Nat.beq pc 35 || Nat.beq pc 38 || Nat.beq pc 52 || Nat.beq pc 55 || Nat.beq pc 71 || Nat.beq pc 82 || Nat.beq pc 95 || Nat.beq pc 103 || Nat.beq pc 107) 400 (show zif False ((0 ≤ c ∧ c < 12) ∧ 0 ≤ i ∧ i < w 11 c.toNat ∧ i < 12) (zwp 90 55 [(2, 35), (0, c), (0, r), (0, ch), (0, l), (0, b), (1, s), (9, 0), (0, i), (9, 0), (9, 0)] [(0, w 10 (12 * c + i).toNat)] w 238 0 K) from zmZ (fun h => (fun h => show zwp 90 55 [(2, 35), (0, c), (0, r), (0, ch), (0, l), (0, b), (1, s), (9, 0), (0, i), (9, 0), (9, 0)] [(0, w 10 (12 * c + i).toNat)] w 238 0 K from zgo_imp zT28_ok (cut := fun pc => Nat.beq pc 8 || Nat.beq pc 18 || Nat.beq pc 35 || Nat.beq pc 38 || Nat.beq pc 52 || Nat.beq pc 55 || Nat.beq pc 71 || Nat.beq pc 82 || Nat.beq pc 95 || Nat.beq pc 103 || Nat.beq pc 107) 400 (show if z32 (i + 1) < l then zwp 90 71 [(2, 35), (0, c), (0, r), (0, ch), (0, l), (0, b), (1, s), (9, 0), (0, i), (0, w 10 (12 * c + i).toNat), (9, 0)] [(0, c), (2, 4)] w 238 0 K else zif False ((0 ≤ c ∧ c < 12) ∧ 0 ≤ (0 : Int) ∧ (0 : Int) < w 11 c.toNat ∧ (0 : Int) < 12) (zwp 90 82 [(2, 35), (0, c), (0, r), (0, ch), (0, l), (0, b), (1, s), (9, 0), (0, i), (0, w 10 (12 * c + i).toNat), (9, 0)] [(0, w 10 (12 * c + (0 : Int)).toNat)] w 238 0 K) from zmI (fun h => (fun h => show zwp 90 71 [(2, 35), (0, c), (0, r), (0, ch), (0, l), (0, b), (1, s), (9, 0), (0, i), (0, w 10 (12 * c + i).toNat), (9, 0)] [(0, c), (2, 4)] w 238 0 K from zgo_imp zT28_ok (cut := fun pc => Nat.beq pc 8 || Nat.beq pc 18 || Nat.beq pc 35 || Nat.beq pc 38 || Nat.beq pc 52 || Nat.beq pc 55 || Nat.beq pc 71 || Nat.beq pc 82 || Nat.beq pc 95 || Nat.beq pc 103 || Nat.beq pc 107) 400 (show zif False ((0 ≤ c ∧ c < 12) ∧ 0 ≤ (z32 (i + 1)) ∧ (z32 (i + 1)) < w 11 c.toNat ∧ (z32 (i + 1)) < 12) (zwp 90 82 [(2, 35), (0, c), (0, r), (0, ch), (0, l), (0, b), (1, s), (9, 0), (0, i), (0, w 10 (12 * c + i).toNat), (9, 0)] [(0, w 10 (12 * c + (z32 (i + 1))).toNat)] w 238 0 K) from zmZ (fun h => (fun h => show zwp 90 82 [(2, 35), (0, c), (0, r), (0, ch), (0, l), (0, b), (1, s), (9, 0), (0, i), (0, w 10 (12 * c + i).toNat), (9, 0)] [(0, w 10 (12 * c + (z32 (i + 1))).toNat)] w 238 0 K from zgo_imp zT28_ok (cut := fun pc => Nat.beq pc 8 || Nat.beq pc 18 || Nat.beq pc 35 || Nat.beq pc 38 || Nat.beq pc 52 || Nat.beq pc 55 || Nat.beq pc 71 || Nat.beq pc 82 || Nat.beq pc 95 || Nat.beq pc 103 || Nat.beq pc 107) 400 (show ((0 ≤ (w 10 (12 * c + i).toNat) ∧ (w 10 (12 * c + i).toNat) < 12) ∧ -2000 ≤ ch ∧ ch ≤ 2000 ∧ 0 ≤ w 30 (w 10 (12 * c + i).toNat).toNat ∧ w 30 (w 10 (12 * c + i).toNat).toNat ≤ 2000000) ∧ (zwp 90 95 [(2, 35), (0, c), (0, r), (0, ch), (0, l), (0, b), (1, s), (9, 0), (0, i), (0, w 10 (12 * c + i).toNat), (0, w 10 (12 * c + (z32 (i + 1))).toNat)] [(0, max 1 (w 30 (w 10 (12 * c + i).toNat).toNat + ch)), (1, r), (1, s)] w 238 0 K) from zmA (fun h => (fun h => show zwp 90 95 [(2, 35), (0, c), (0, r), (0, ch), (0, l), (0, b), (1, s), (9, 0), (0, i), (0, w 10 (12 * c + i).toNat), (0, w 10 (12 * c + (z32 (i + 1))).toNat)] [(0, max 1 (w 30 (w 10 (12 * c + i).toNat).toNat + ch)), (1, r), (1, s)] w 238 0 K from zgo_imp zT28_ok (cut := fun pc => Nat.beq pc 8 || Nat.beq pc 18 || Nat.beq pc 35 || Nat.beq pc 38 || Nat.beq pc 52 || Nat.beq pc 55 || Nat.beq pc 71 || Nat.beq pc 82 || Nat.beq pc 95 || Nat.beq pc 103 || Nat.beq pc 107) 400 (show ((0 ≤ (w 10 (12 * c + (z32 (i + 1))).toNat) ∧ (w 10 (12 * c + (z32 (i + 1))).toNat) < 12) ∧ -2000 ≤ ch ∧ ch ≤ 2000 ∧ 0 ≤ w 30 (w 10 (12 * c + (z32 (i + 1))).toNat).toNat ∧ w 30 (w 10 (12 * c + (z32 (i + 1))).toNat).toNat ≤ 2000000) ∧ (zwp 90 103 [(2, 35), (0, c), (0, r), (0, ch), (0, l), (0, b), (1, s), (9, 0), (0, i), (0, w 10 (12 * c + i).toNat), (0, w 10 (12 * c + (z32 (i + 1))).toNat)] [(0, max 1 (w 30 (w 10 (12 * c + (z32 (i + 1))).toNat).toNat + ch)), (1, max 1 (w 30 (w 10 (12 * c + i).toNat).toNat + ch)), (1, r), (1, s)] w 238 0 K) from zmA (fun h => (fun h => show zwp 90 103 [(2, 35), (0, c), (0, r), (0, ch), (0, l), (0, b), (1, s), (9, 0), (0, i), (0, w 10 (12 * c + i).toNat), (0, w 10 (12 * c + (z32 (i + 1))).toNat)] [(0, max 1 (w 30 (w 10 (12 * c + (z32 (i + 1))).toNat).toNat + ch)), (1, max 1 (w 30 (w 10 (12 * c + i).toNat).toNat + ch)), (1, r), (1, s)] w 238 0 K from zgo_imp zT28_ok (cut := fun pc => Nat.beq pc 8 || Nat.beq pc 18 || Nat.beq pc 35 || Nat.beq pc 38 || Nat.beq pc 52 || Nat.beq pc 55 || Nat.beq pc 71 || Nat.beq pc 82 || Nat.beq pc 95 || Nat.beq pc 103 || Nat.beq pc 107) 400 (show zif False ((1 ≤ r ∧ r ≤ 2000000) ∧ (1 ≤ (max 1 (w 30 (w 10 (12 * c + i).toNat).toNat + ch)) ∧ (max 1 (w 30 (w 10 (12 * c + i).toNat).toNat + ch)) ≤ 2000000) ∧ (1 ≤ (max 1 (w 30 (w 10 (12 * c + (z32 (i + 1))).toNat).toNat + ch)) ∧ (max 1 (w 30 (w 10 (12 * c + (z32 (i + 1))).toNat).toNat + ch)) ≤ 2000000)) (zwp 90 107 [(2, 35), (0, c), (0, r), (0, ch), (0, l), (0, b), (1, s), (9, 0), (0, i), (0, w 10 (12 * c + i).toNat), (0, w 10 (12 * c + (z32 (i + 1))).toNat)] [(1, zan r (max 1 (w 30 (w 10 (12 * c + i).toNat).toNat + ch)) (max 1 (w 30 (w 10 (12 * c + (z32 (i + 1))).toNat).toNat + ch))), (1, s)] w 238 0 K) from zmZ (fun h => (fun h => show zwp 90 107 [(2, 35), (0, c), (0, r), (0, ch), (0, l), (0, b), (1, s), (9, 0), (0, i), (0, w 10 (12 * c + i).toNat), (0, w 10 (12 * c + (z32 (i + 1))).toNat)] [(1, zan r (max 1 (w 30 (w 10 (12 * c + i).toNat).toNat + ch)) (max 1 (w 30 (w 10 (12 * c + (z32 (i + 1))).toNat).toNat + ch))), (1, s)] w 238 0 K from zgo_imp zT28_ok (cut := fun pc => Nat.beq pc 8 || Nat.beq pc 18 || Nat.beq pc 35 || Nat.beq pc 38 || Nat.beq pc 52 || Nat.beq pc 55 || Nat.beq pc 71 || Nat.beq pc 82 || Nat.beq pc 95 || Nat.beq pc 103 || Nat.beq pc 107) 400 (show zwp 90 38 [(2, 35), (0, c), (0, r), (0, ch), (0, l), (0, b), (1, z64 (s + (zan r (max 1 (w 30 (w 10 (12 * c + i).toNat).toNat + ch)) (max 1 (w 30 (w 10 (12 * c + (z32 (i + 1))).toNat).toNat + ch))))), (9, 0), (0, z32 (i + 1)), (0, w 10 (12 * c + i).toNat), (0, w 10 (12 * c + (z32 (i + 1))).toNat)] [] w 238 0 K from h)) h) h)) h) h)) h) h)) h) h)) h) (fun h => zmZ (fun h => (fun h => show zwp 90 82 [(2, 35), (0, c), (0, r), (0, ch), (0, l), (0, b), (1, s), (9, 0), (0, i), (0, w 10 (12 * c + i).toNat), (9, 0)] [(0, w 10 (12 * c + (0 : Int)).toNat)] w 238 0 K from zgo_imp zT28_ok (cut := fun pc => Nat.beq pc 8 || Nat.beq pc 18 || Nat.beq pc 35 || Nat.beq pc 38 || Nat.beq pc 52 || Nat.beq pc 55 || Nat.beq pc 71 || Nat.beq pc 82 || Nat.beq pc 95 || Nat.beq pc 103 || Nat.beq pc 107) 400 (show ((0 ≤ (w 10 (12 * c + i).toNat) ∧ (w 10 (12 * c + i).toNat) < 12) ∧ -2000 ≤ ch ∧ ch ≤ 2000 ∧ 0 ≤ w 30 (w 10 (12 * c + i).toNat).toNat ∧ w 30 (w 10 (12 * c + i).toNat).toNat ≤ 2000000) ∧ (zwp 90 95 [(2, 35), (0, c), (0, r), (0, ch), (0, l), (0, b), (1, s), (9, 0), (0, i), (0, w 10 (12 * c + i).toNat), (0, w 10 (12 * c + (0 : Int)).toNat)] [(0, max 1 (w 30 (w 10 (12 * c + i).toNat).toNat + ch)), (1, r), (1, s)] w 238 0 K) from zmA (fun h => (fun h => show zwp 90 95 [(2, 35), (0, c), (0, r), (0, ch), (0, l), (0, b), (1, s), (9, 0), (0, i), (0, w 10 (12 * c + i).toNat), (0, w 10 (12 * c + (0 : Int)).toNat)] [(0, max 1 (w 30 (w 10 (12 * c + i).toNat).toNat + ch)), (1, r), (1, s)] w 238 0 K from zgo_imp zT28_ok (cut := fun pc => Nat.beq pc 8 || Nat.beq pc 18 || Nat.beq pc 35 || Nat.beq pc 38 || Nat.beq pc 52 || Nat.beq pc 55 || Nat.beq pc 71 || Nat.beq pc 82 || Nat.beq pc 95 || Nat.beq pc 103 || Nat.beq pc 107) 400 (show ((0 ≤ (w 10 (12 * c + (0 : Int)).toNat) ∧ (w 10 (12 * c + (0 : Int)).toNat) < 12) ∧ -2000 ≤ ch ∧ ch ≤ 2000 ∧ 0 ≤ w 30 (w 10 (12 * c + (0 : Int)).toNat).toNat ∧ w 30 (w 10 (12 * c + (0 : Int)).toNat).toNat ≤ 2000000) ∧ (zwp 90 103 [(2, 35), (0, c), (0, r), (0, ch), (0, l), (0, b), (1, s), (9, 0), (0, i), (0, w 10 (12 * c + i).toNat), (0, w 10 (12 * c + (0 : Int)).toNat)] [(0, max 1 (w 30 (w 10 (12 * c + (0 : Int)).toNat).toNat + ch)), (1, max 1 (w 30 (w 10 (12 * c + i).toNat).toNat + ch)), (1, r), (1, s)] w 238 0 K) from zmA (fun h => (fun h => show zwp 90 103 [(2, 35), (0, c), (0, r), (0, ch), (0, l), (0, b), (1, s), (9, 0), (0, i), (0, w 10 (12 * c + i).toNat), (0, w 10 (12 * c + (0 : Int)).toNat)] [(0, max 1 (w 30 (w 10 (12 * c + (0 : Int)).toNat).toNat + ch)), (1, max 1 (w 30 (w 10 (12 * c + i).toNat).toNat + ch)), (1, r), (1, s)] w 238 0 K from zgo_imp zT28_ok (cut := fun pc => Nat.beq pc 8 || Nat.beq pc 18 || Nat.beq pc 35 || Nat.beq pc 38 || Nat.beq pc 52 || Nat.beq pc 55 || Nat.beq pc 71 || Nat.beq pc 82 || Nat.beq pc 95 || Nat.beq pc 103 || Nat.beq pc 107) 400 (show zif False ((1 ≤ r ∧ r ≤ 2000000) ∧ (1 ≤ (max 1 (w 30 (w 10 (12 * c + i).toNat).toNat + ch)) ∧ (max 1 (w 30 (w 10 (12 * c + i).toNat).toNat + ch)) ≤ 2000000) ∧ (1 ≤ (max 1 (w 30 (w 10 (12 * c + (0 : Int)).toNat).toNat + ch)) ∧ (max 1 (w 30 (w 10 (12 * c + (0 : Int)).toNat).toNat + ch)) ≤ 2000000)) (zwp 90 107 [(2, 35), (0, c), (0, r), (0, ch), (0, l), (0, b), (1, s), (9, 0), (0, i), (0, w 10 (12 * c + i).toNat), (0, w 10 (12 * c + (0 : Int)).toNat)] [(1, zan r (max 1 (w 30 (w 10 (12 * c + i).toNat).toNat + ch)) (max 1 (w 30 (w 10 (12 * c + (0 : Int)).toNat).toNat + ch))), (1, s)] w 238 0 K) from zmZ (fun h => (fun h => show zwp 90 107 [(2, 35), (0, c), (0, r), (0, ch), (0, l), (0, b), (1, s), (9, 0), (0, i), (0, w 10 (12 * c + i).toNat), (0, w 10 (12 * c + (0 : Int)).toNat)] [(1, zan r (max 1 (w 30 (w 10 (12 * c + i).toNat).toNat + ch)) (max 1 (w 30 (w 10 (12 * c + (0 : Int)).toNat).toNat + ch))), (1, s)] w 238 0 K from zgo_imp zT28_ok (cut := fun pc => Nat.beq pc 8 || Nat.beq pc 18 || Nat.beq pc 35 || Nat.beq pc 38 || Nat.beq pc 52 || Nat.beq pc 55 || Nat.beq pc 71 || Nat.beq pc 82 || Nat.beq pc 95 || Nat.beq pc 103 || Nat.beq pc 107) 400 (show zwp 90 38 [(2, 35), (0, c), (0, r), (0, ch), (0, l), (0, b), (1, z64 (s + (zan r (max 1 (w 30 (w 10 (12 * c + i).toNat).toNat + ch)) (max 1 (w 30 (w 10 (12 * c + (0 : Int)).toNat).toNat + ch))))), (9, 0), (0, z32 (i + 1)), (0, w 10 (12 * c + i).toNat), (0, w 10 (12 * c + (0 : Int)).toNat)] [] w 238 0 K from h)) h) h)) h) h)) h) h)) h) h) h)) h) h)) h) (fun h => h) h)) ?_
    refine ziT (by omega) ?_
    have e : z32 (i + 1) = i + 1 := z32_id ⟨by omega, by omega⟩
    simp only [e]
    have hb0 := hrw i h1 (by omega)
    have hr0 := hr _ hb0.1 hb0.2
    refine zifI (by omega) ?_
    by_cases hl : i + 1 < l
    · refine ziT hl ?_
      have hb1 := hrw (i + 1) (by omega) (by omega)
      have hr1 := hr _ hb1.1 hb1.2
      refine zifI (by omega) ?_
      refine ⟨by omega, by omega, zifI (by omega) ?_⟩
      have hz := zan_rg (a := r) (b := max 1 (w 30 (w 10 (12 * c + i).toNat).toNat + ch)) (c := max 1 (w 30 (w 10 (12 * c + (i + 1)).toNat).toNat + ch)) (by omega) (by omega) (by omega)
      rw [z64_id ⟨by omega, by omega⟩]
      refine ih _ _ _ _ _ (by omega) (by omega) (by omega) (by omega) (zKe h ?_)
      show s + (zan r (max 1 (w 30 (w 10 (12 * c + i).toNat).toNat + ch)) (max 1 (w 30 (w 10 (12 * c + (if i + 1 < l then i + 1 else 0)).toNat).toNat + ch)) + _) = _
      rw [if_pos hl]; omega
    · refine ziF hl ?_
      have hb1 := hrw 0 (by omega) (by omega)
      have hr1 := hr _ hb1.1 hb1.2
      refine zifI (by omega) ?_
      refine ⟨by omega, by omega, zifI (by omega) ?_⟩
      have hz := zan_rg (a := r) (b := max 1 (w 30 (w 10 (12 * c + i).toNat).toNat + ch)) (c := max 1 (w 30 (w 10 (12 * c + (0)).toNat).toNat + ch)) (by omega) (by omega) (by omega)
      rw [z64_id ⟨by omega, by omega⟩]
      refine ih _ _ _ _ _ (by omega) (by omega) (by omega) (by omega) (zKe h ?_)
      show s + (zan r (max 1 (w 30 (w 10 (12 * c + i).toNat).toNat + ch)) (max 1 (w 30 (w 10 (12 * c + (if i + 1 < l then i + 1 else 0)).toNat).toNat + ch)) + _) = _
      rw [if_neg hl]; omega
/-! $Solver.sumWith -/
set_option maxRecDepth 100000 in
theorem zk90_35 (c r ch : Int) (w : zW) (K : zK) (h : (zNt w ∧ zRd 30 w ∧ (0 ≤ c ∧ c < w 95 0) ∧ (1 ≤ r ∧ r ≤ 1001000) ∧ -1000 ≤ ch ∧ ch ≤ 1000) ∧ (K (0, some (1, zH (zF0 w) (w 95 0) (fun a => w 30 a.toNat) c r ch)) (w) 238)) : zcall 90 [(2, 35), (0, c), (0, r), (0, ch), (9, 0), (9, 0), (9, 0), (9, 0), (9, 0), (9, 0), (9, 0)] w 238 K := by
  obtain ⟨hg, h⟩ := h
  refine (show (zif False (0 ≤ c ∧ c < 12) (zif False (0 ≤ c ∧ c < 12) (if ((if w 11 c.toNat = 0 then 2 else if w 12 c.toNat = 0 then 1 else 0) : Int) = 0 then zwp 90 38 [(2, 35), (0, c), (0, r), (0, ch), (0, w 11 c.toNat), (0, w 11 c.toNat), (1, 0), (9, 0), (0, 0), (9, 0), (9, 0)] [] w 238 0 K else zwp 90 38 [(2, 35), (0, c), (0, r), (0, ch), (0, w 11 c.toNat), (0, z32 ((w 11 c.toNat) - 1)), (1, 0), (9, 0), (0, 0), (9, 0), (9, 0)] [] w 238 0 K))) → _ from fun h => show zwp 90 0 [(2, 35), (0, c), (0, r), (0, ch), (9, 0), (9, 0), (9, 0), (9, 0), (9, 0), (9, 0), (9, 0)] [] w 238 0 K from zgo_imp zT28_ok (cut := fun pc => Nat.beq pc 8 || Nat.beq pc 18 || Nat.beq pc 35 || Nat.beq pc 38 || Nat.beq pc 52 || Nat.beq pc 55 || Nat.beq pc 71 || Nat.beq pc 82 || Nat.beq pc 95 || Nat.beq pc 103 || Nat.beq pc 107) 400 (show zif False (0 ≤ c ∧ c < 12) (zwp 90 8 [(2, 35), (0, c), (0, r), (0, ch), (9, 0), (9, 0), (9, 0), (9, 0), (9, 0), (9, 0), (9, 0)] [(0, w 11 c.toNat)] w 238 0 K) from zmZ (fun h => (fun h => show zwp 90 8 [(2, 35), (0, c), (0, r), (0, ch), (9, 0), (9, 0), (9, 0), (9, 0), (9, 0), (9, 0), (9, 0)] [(0, w 11 c.toNat)] w 238 0 K from zgo_imp zT28_ok (cut := fun pc => Nat.beq pc 8 || Nat.beq pc 18 || Nat.beq pc 35 || Nat.beq pc 38 || Nat.beq pc 52 || Nat.beq pc 55 || Nat.beq pc 71 || Nat.beq pc 82 || Nat.beq pc 95 || Nat.beq pc 103 || Nat.beq pc 107) 400 (show zif False (0 ≤ c ∧ c < 12) (zwp 90 18 [(2, 35), (0, c), (0, r), (0, ch), (0, w 11 c.toNat), (9, 0), (9, 0), (9, 0), (9, 0), (9, 0), (9, 0)] [(0, ((if w 11 c.toNat = 0 then 2 else if w 12 c.toNat = 0 then 1 else 0) : Int))] w 238 0 K) from zmZ (fun h => (fun h => show zwp 90 18 [(2, 35), (0, c), (0, r), (0, ch), (0, w 11 c.toNat), (9, 0), (9, 0), (9, 0), (9, 0), (9, 0), (9, 0)] [(0, ((if w 11 c.toNat = 0 then 2 else if w 12 c.toNat = 0 then 1 else 0) : Int))] w 238 0 K from zgo_imp zT28_ok (cut := fun pc => Nat.beq pc 8 || Nat.beq pc 18 || Nat.beq pc 35 || Nat.beq pc 38 || Nat.beq pc 52 || Nat.beq pc 55 || Nat.beq pc 71 || Nat.beq pc 82 || Nat.beq pc 95 || Nat.beq pc 103 || Nat.beq pc 107) 400 (show if ((if w 11 c.toNat = 0 then 2 else if w 12 c.toNat = 0 then 1 else 0) : Int) = 0 then zwp 90 35 [(2, 35), (0, c), (0, r), (0, ch), (0, w 11 c.toNat), (0, w 11 c.toNat), (1, 0), (9, 0), (9, 0), (9, 0), (9, 0)] [] w 238 0 K else zwp 90 35 [(2, 35), (0, c), (0, r), (0, ch), (0, w 11 c.toNat), (0, z32 ((w 11 c.toNat) - 1)), (1, 0), (9, 0), (9, 0), (9, 0), (9, 0)] [] w 238 0 K from zmI (fun h => (fun h => show zwp 90 35 [(2, 35), (0, c), (0, r), (0, ch), (0, w 11 c.toNat), (0, w 11 c.toNat), (1, 0), (9, 0), (9, 0), (9, 0), (9, 0)] [] w 238 0 K from zgo_imp zT28_ok (cut := fun pc => Nat.beq pc 8 || Nat.beq pc 18 || Nat.beq pc 35 || Nat.beq pc 38 || Nat.beq pc 52 || Nat.beq pc 55 || Nat.beq pc 71 || Nat.beq pc 82 || Nat.beq pc 95 || Nat.beq pc 103 || Nat.beq pc 107) 400 (show zwp 90 38 [(2, 35), (0, c), (0, r), (0, ch), (0, w 11 c.toNat), (0, w 11 c.toNat), (1, 0), (9, 0), (0, 0), (9, 0), (9, 0)] [] w 238 0 K from h)) h) (fun h => (fun h => show zwp 90 35 [(2, 35), (0, c), (0, r), (0, ch), (0, w 11 c.toNat), (0, z32 ((w 11 c.toNat) - 1)), (1, 0), (9, 0), (9, 0), (9, 0), (9, 0)] [] w 238 0 K from zgo_imp zT28_ok (cut := fun pc => Nat.beq pc 8 || Nat.beq pc 18 || Nat.beq pc 35 || Nat.beq pc 38 || Nat.beq pc 52 || Nat.beq pc 55 || Nat.beq pc 71 || Nat.beq pc 82 || Nat.beq pc 95 || Nat.beq pc 103 || Nat.beq pc 107) 400 (show zwp 90 38 [(2, 35), (0, c), (0, r), (0, ch), (0, w 11 c.toNat), (0, z32 ((w 11 c.toNat) - 1)), (1, 0), (9, 0), (0, 0), (9, 0), (9, 0)] [] w 238 0 K from h)) h) h)) h) h)) h) h)) ?_
  obtain ⟨hN, hr, hc, ho, hd⟩ := hg
  obtain ⟨n1, n2, n3, _⟩ := hN.n
  have hk := hN.kd hc.1 hc.2
  obtain ⟨q1, q2, q3, q4⟩ := hN.row hc.1 hc.2
  have hs := zHs_row (zHf (fun a => w 30 a.toNat) r ch) hN.tab hc.1 hc.2 q4
  obtain ⟨g0, g1⟩ := zNb_rg (zF0 w) c n2
  have hrw : ∀ i, 0 ≤ i → i < w 11 c.toNat → 0 ≤ w 10 (12 * c + i).toNat ∧ w 10 (12 * c + i).toNat < w 95 0 := fun i i0 i1 => by
    rw [q3 i i0 (by omega)]
    have := q4.2.1 i i0 (by omega)
    omega
  have hfin : ∀ b : Int, b = (if zKd (zF0 w) (w 95 0) c = 0 then zNb (zF0 w) (w 95 0) c else zNb (zF0 w) (w 95 0) c - 1) → zSm (fun i => zan r (max 1 (w 30 (w 10 (12 * c + i).toNat).toNat + ch)) (max 1 (w 30 (w 10 (12 * c + (if i + 1 < w 11 c.toNat then i + 1 else 0)).toNat).toNat + ch))) b.toNat 0 = zH (zF0 w) (w 95 0) (fun a => w 30 a.toNat) c r ch := fun b eb => by
    subst eb
    unfold zH
    rw [← hs]
    refine zSm_congr _ 0 fun i i0 i1 => ?_
    have i2 : i < zNb (zF0 w) (w 95 0) c := by
      by_cases hz : zKd (zF0 w) (w 95 0) c = 0
      · rw [if_pos hz] at i1; omega
      · rw [if_neg hz] at i1; omega
    show _ = zan r (max 1 (w 30 (zrw (zF0 w) (w 95 0) c i).toNat + ch)) (max 1 (w 30 (zrw (zF0 w) (w 95 0) c (if i + 1 < zNb (zF0 w) (w 95 0) c then i + 1 else 0)).toNat + ch))
    rw [q3 i i0 i2, q1]
    by_cases hj : i + 1 < zNb (zF0 w) (w 95 0) c
    · rw [if_pos hj, q3 (i + 1) (by omega) hj]
    · rw [if_neg hj, q3 0 (by omega) (by omega)]
  refine zifI (by omega) (zifI (by omega) ?_)
  by_cases hz : zKd (zF0 w) (w 95 0) c = 0
  · refine ziT (by rw [hk]; exact hz) ?_
    have := hfin (w 11 c.toNat) (by rw [if_pos hz]; exact q1)
    exact zk90_L38 hr c r ch _ (w 11 c.toNat) hc n3 ho hd rfl (by omega) (by omega) hrw (w 11 c.toNat).toNat 0 0 _ _ _ (by omega) (by omega) (by omega) (by omega) (zKe h (by rw [this]; omega))
  · refine ziF (by rw [hk]; exact hz) ?_
    have := hfin (w 11 c.toNat - 1) (by rw [if_neg hz, q1])
    rw [z32_id (x := w 11 c.toNat - 1) ⟨by omega, by omega⟩]
    by_cases hzz : w 11 c.toNat = 0
    · rw [hzz] at this ⊢
      refine zgo_imp zT28_ok (cut := fun pc => Nat.beq pc 38) 400 ?_
      show K (0, some (1, 0)) w 238
      exact zKe h (by rw [← this]; rfl)
    · exact zk90_L38 hr c r ch _ (w 11 c.toNat) hc n3 ho hd rfl (by omega) (by omega) hrw (w 11 c.toNat - 1).toNat 0 0 _ _ _ (by omega) (by omega) (by omega) (by omega) (zKe h (by rw [this]; omega))
noncomputable def zb90 (l0 : List zV) (w : zW) (K : zK) : Prop := cond (zpe (zar l0 0) 35) (zA l0 1 fun c => zA l0 2 fun r => zA l0 3 fun ch => (zNt w ∧ zRd 30 w ∧ (0 ≤ c ∧ c < w 95 0) ∧ (1 ≤ r ∧ r ≤ 1001000) ∧ -1000 ≤ ch ∧ ch ≤ 1000) ∧ (K (0, some (1, zH (zF0 w) (w 95 0) (fun a => w 30 a.toNat) c r ch)) (w) 238)) (False)
noncomputable def zT29 : zSum := zsm1 90 [2, 0, 0, 0, 9, 9, 9, 9, 9, 9, 9] zb90 zT28
theorem zT29_ok : zSok zT29 := zsm1_ok zT28_ok fun l0 w K h => by
  unfold zb90 at h
  cases q0 : zpe (zar l0 0) 35 with
  | true =>
    rw [q0, cond_true] at h
    have e : zar l0 0 = 35 := zpe_e q0
    show zcall 90 [(2, zar l0 0), (0, zar l0 1), (0, zar l0 2), (0, zar l0 3), (9, 0), (9, 0), (9, 0), (9, 0), (9, 0), (9, 0), (9, 0)] w 238 K
    rw [e]
    exact zk90_35 (zar l0 1) (zar l0 2) (zar l0 3) w K (zA_e (zA_e (zA_e h)))
  | false =>
  rw [q0, cond_false] at h
  exact h.elim
