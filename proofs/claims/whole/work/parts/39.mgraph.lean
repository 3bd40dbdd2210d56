/-! ===== the model: neighbors, rows, borders (written by wip/whole/gen_c.py) ===== -/
def zAr (w : zW) (n : Int) : Prop := (0 ≤ n ∧ n < 3) ∧ 0 ≤ w 95 n.toNat ∧ w 95 n.toNat ≤ 12
theorem zNt.ar {w : zW} (h : zNt w) : zAr w 0 := by
  have := h.n
  exact ⟨by omega, this.2.1, this.2.2.1⟩
theorem zM_nt {w : zW} {j : Nat} {x : Int} (h : zNt w) : zNt (zupd w 93 j x) := zNt_fr (fun p hp => zune (by omega)) h
theorem zM_f0 {w : zW} {j : Nat} {x : Int} : zF0 (zupd w 93 j x) = zF0 w := zF0_fr (zune (by decide))
theorem zM_rd {w : zW} {j q : Nat} {x : Int} (hq : q ≠ 93) (h : zRd q w) : zRd q (zupd w 93 j x) := by
  unfold zRd
  rw [zune (by decide), zune hq]; exact h
noncomputable def zT47 : zSum := zin1 199 400 zT46
theorem zT47_ok : zSok zT47 := zin1_ok zT46_ok
noncomputable def zT48 : zSum := zin1 200 400 zT47
theorem zT48_ok : zSok zT48 := zin1_ok zT47_ok
noncomputable def zT49 : zSum := zin1 201 400 zT48
theorem zT49_ok : zSok zT49 := zin1_ok zT48_ok
noncomputable def zT50 : zSum := zin1 202 400 zT49
theorem zT50_ok : zSok zT50 := zin1_ok zT49_ok
noncomputable def zT51 : zSum := zin1 237 400 zT50
theorem zT51_ok : zSok zT51 := zin1_ok zT50_ok
noncomputable def zT52 : zSum := zin1 238 400 zT51
theorem zT52_ok : zSok zT52 := zin1_ok zT51_ok
noncomputable def zT53 : zSum := zin1 239 400 zT52
theorem zT53_ok : zSok zT53 := zin1_ok zT52_ok
noncomputable def zT54 : zSum := zin1 198 400 zT53
theorem zT54_ok : zSok zT54 := zin1_ok zT53_ok
/-! Model.next -/
set_option maxRecDepth 100000 in
theorem zk228_93 (n c a : Int) (w : zW) (K : zK) (h : ((0 ≤ n ∧ n < 3) ∧ (0 ≤ c ∧ c < 12) ∧ (0 ≤ a ∧ a < 12)) ∧ (K (0, some (0, zfw w n.toNat c a)) (w) 238)) : zcall 228 [(2, 93), (0, n), (0, c), (0, a)] w 238 K := by
  obtain ⟨hg, h⟩ := h
  refine (show (zif False (0 ≤ z32 ((z32 ((z32 (144 * n)) + (z32 (12 * c)))) + a) ∧ z32 ((z32 ((z32 (144 * n)) + (z32 (12 * c)))) + a) < 432) (K (0, some (0, w 100 (z32 ((z32 ((z32 (144 * n)) + (z32 (12 * c)))) + a)).toNat)) w 238)) → _ from fun h => show zwp 228 0 [(2, 93), (0, n), (0, c), (0, a)] [] w 238 0 K from zgo_imp zT54_ok (cut := fun pc => Nat.beq pc 14) 400 (show zwp 228 14 [(2, 93), (0, n), (0, c), (0, a)] [(0, z32 ((z32 (144 * n)) + (z32 (12 * c)))), (2, 100)] w 238 0 K from (fun h => show zwp 228 14 [(2, 93), (0, n), (0, c), (0, a)] [(0, z32 ((z32 (144 * n)) + (z32 (12 * c)))), (2, 100)] w 238 0 K from zgo_imp zT54_ok (cut := fun pc => Nat.beq pc 14) 400 (show zif False (0 ≤ z32 ((z32 ((z32 (144 * n)) + (z32 (12 * c)))) + a) ∧ z32 ((z32 ((z32 (144 * n)) + (z32 (12 * c)))) + a) < 432) (K (0, some (0, w 100 (z32 ((z32 ((z32 (144 * n)) + (z32 (12 * c)))) + a)).toNat)) w 238) from h)) h)) ?_
  rw [z32_id (x := 144 * n) ⟨by omega, by omega⟩, z32_id (x := 12 * c) ⟨by omega, by omega⟩, z32_id (x := 144 * n + 12 * c) ⟨by omega, by omega⟩, z32_id (x := 144 * n + 12 * c + a) ⟨by omega, by omega⟩]
  refine zifI (by omega) (zKe h ?_)
  unfold zfw; rw [show ((n.toNat : Nat) : Int) = n by omega]
noncomputable def zb228 (l0 : List zV) (w : zW) (K : zK) : Prop := cond (zpe (zar l0 0) 93) (zA l0 1 fun n => zA l0 2 fun c => zA l0 3 fun a => ((0 ≤ n ∧ n < 3) ∧ (0 ≤ c ∧ c < 12) ∧ (0 ≤ a ∧ a < 12)) ∧ (K (0, some (0, zfw w n.toNat c a)) (w) 238)) (False)
noncomputable def zT55 : zSum := zsm1 228 [2, 0, 0, 0] zb228 zT54
theorem zT55_ok : zSok zT55 := zsm1_ok zT54_ok fun l0 w K h => by
  unfold zb228 at h
  cases q0 : zpe (zar l0 0) 93 with
  | true =>
    rw [q0, cond_true] at h
    have e : zar l0 0 = 93 := zpe_e q0
    show zcall 228 [(2, zar l0 0), (0, zar l0 1), (0, zar l0 2), (0, zar l0 3)] w 238 K
    rw [e]
    exact zk228_93 (zar l0 1) (zar l0 2) (zar l0 3) w K (zA_e (zA_e (zA_e h)))
  | false =>
  rw [q0, cond_false] at h
  exact h.elim
set_option maxRecDepth 100000 in
theorem zk229_L3 {w : zW} {K : zK} (n c b : Int) (hA : zAr w n) (hc : 0 ≤ c ∧ c < 12)  : ∀ (m : Nat) (a : Int), (0 ≤ a) → (a + m = w 95 n.toNat) → (K (0, some (0, zFi (fun a => zfw w n.toNat c a = b) m a)) w 238) → zwp 229 3 [(2, 93), (0, n), (0, c), (0, b), (0, a)] [] w 238 0 K := by
  
  intro m
  induction m with
  | zero =>
    intro a  h1 h2 h
    refine (show (zif False (0 ≤ n ∧ n < 3) (if a < w 95 n.toNat then ((0 ≤ n ∧ n < 3) ∧ (0 ≤ c ∧ c < 12) ∧ (0 ≤ a ∧ a < 12)) ∧ (if zfw w n.toNat c a = b then K (0, some (0, a)) w 238 else zwp 229 3 [(2, 93), (0, n), (0, c), (0, b), (0, z32 (a + 1))] [] w 238 0 K) else K (0, some (0, (-1))) w 238)) → _ from fun h => show zwp 229 3 [(2, 93), (0, n), (0, c), (0, b), (0, a)] [] w 238 0 K from zgo_imp zT55_ok (cut := fun pc => Nat.beq pc 3 || Nat.beq pc 15 || Nat.beq pc 22) 400 (show zif False (0 ≤ n ∧ n < 3) (if a < w 95 n.toNat then zwp 229 15 [(2, 93), (0, n), (0, c), (0, b), (0, a)] [(2, 93)] w 238 0 K else K (0, some (0, (-1))) w 238) from zmZ (fun h => zmI (fun h => (fun h => show zwp 229 15 [(2, 93), (0, n), (0, c), (0, b), (0, a)] [(2, 93)] w 238 0 K from zgo_imp zT55_ok (cut := fun pc => Nat.beq pc 3 || Nat.beq pc 15 || Nat.beq pc 22) 400 (show ((0 ≤ n ∧ n < 3) ∧ (0 ≤ c ∧ c < 12) ∧ (0 ≤ a ∧ a < 12)) ∧ (zwp 229 22 [(2, 93), (0, n), (0, c), (0, b), (0, a)] [(0, zfw w n.toNat c a)] w 238 0 K) from zmA (fun h => (fun h => show zwp 229 22 [(2, 93), (0, n), (0, c), (0, b), (0, a)] [(0, zfw w n.toNat c a)] w 238 0 K from zgo_imp zT55_ok (cut := fun pc => Nat.beq pc 3 || Nat.beq pc 15 || Nat.beq pc 22) 400 (show if zfw w n.toNat c a = b then K (0, some (0, a)) w 238 else zwp 229 3 [(2, 93), (0, n), (0, c), (0, b), (0, z32 (a + 1))] [] w 238 0 K from h)) h) h)) h) (fun h => h) h) h)) ?_
    refine zifI hA.1 (ziF (by omega) ?_)
    exact h
  | succ m ih =>
    intro a  h1 h2 h
    refine (show (zif False (0 ≤ n ∧ n < 3) (if a < w 95 n.toNat then ((0 ≤ n ∧ n < 3) ∧ (0 ≤ c ∧ c < 12) ∧ (0 ≤ a ∧ a < 12)) ∧ (if zfw w n.toNat c a = b then K (0, some (0, a)) w 238 else zwp 229 3 [(2, 93), (0, n), (0, c), (0, b), (0, z32 (a + 1))] [] w 238 0 K) else K (0, some (0, (-1))) w 238)) → _ from fun h => show zwp 229 3 [(2, 93), (0, n), (0, c), (0, b), (0, a)] [] w 238 0 K from zgo_imp zT55_ok (cut := fun pc => Nat.beq pc 3 || Nat.beq pc 15 || Nat.beq pc 22) 400 (show zif False (0 ≤ n ∧ n < 3) (if a < w 95 n.toNat then zwp 229 15 [(2, 93), (0, n), (0, c), (0, b), (0, a)] [(2, 93)] w 238 0 K else K (0, some (0, (-1))) w 238) from zmZ (fun h => zmI (fun h => (fun h => show zwp 229 15 [(2, 93), (0, n), (0, c), (0, b), (0, a)] [(2, 93)] w 238 0 K from zgo_imp zT55_ok (cut := fun pc => Nat.beq pc 3 || Nat.beq pc 15 || Nat.beq pc 22) 400 (show ((0 ≤ n ∧ n < 3) ∧ (0 ≤ c ∧ c < 12) ∧ (0 ≤ a ∧ a < 12)) ∧ (zwp 229 22 [(2, 93), (0, n), (0, c), (0, b), (0, a)] [(0, zfw w n.toNat c a)] w 238 0 K) from zmA (fun h => (fun h => show zwp 229 22 [(2, 93), (0, n), (0, c), (0, b), (0, a)] [(0, zfw w n.toNat c a)] w 238 0 K from zgo_imp zT55_ok (cut := fun pc => Nat.beq pc 3 || Nat.beq pc 15 || Nat.beq pc 22) 400 (show if zfw w n.toNat c a = b then K (0, some (0, a)) w 238 else zwp 229 3 [(2, 93), (0, n), (0, c), (0, b), (0, z32 (a + 1))] [] w 238 0 K from h)) h) h)) h) (fun h => h) h) h)) ?_
    have hA2 := hA.2
    refine zifI hA.1 (ziT (by omega) ⟨⟨hA.1, hc, by omega, by omega⟩, ?_⟩)
    have e : zFi (fun a => zfw w n.toNat c a = b) (m + 1) a = if zfw w n.toNat c a = b then a else zFi (fun a => zfw w n.toNat c a = b) m (a + 1) := rfl
    rw [z32_id (x := a + 1) ⟨by omega, by omega⟩]
    by_cases q : zfw w n.toNat c a = b
    · rw [e.trans (if_pos q)] at h; exact ziT q h
    · rw [e.trans (if_neg q)] at h; exact ziF q (ih _ (by omega) (by omega) h)
/-! Model.ahead -/
set_option maxRecDepth 100000 in
theorem zk229_93 (n c b : Int) (w : zW) (K : zK) (h : (zAr w n ∧ 0 ≤ c ∧ c < 12) ∧ (K (0, some (0, zAh (zfw w n.toNat) (w 95 n.toNat) c b)) (w) 238)) : zcall 229 [(2, 93), (0, n), (0, c), (0, b), (9, 0)] w 238 K := by
  obtain ⟨hg, h⟩ := h
  refine (show (zwp 229 3 [(2, 93), (0, n), (0, c), (0, b), (0, 0)] [] w 238 0 K) → _ from fun h => show zwp 229 0 [(2, 93), (0, n), (0, c), (0, b), (9, 0)] [] w 238 0 K from zgo_imp zT55_ok (cut := fun pc => Nat.beq pc 3 || Nat.beq pc 15 || Nat.beq pc 22) 400 (show zwp 229 3 [(2, 93), (0, n), (0, c), (0, b), (0, 0)] [] w 238 0 K from h)) ?_
  exact zk229_L3 n c b hg.1 hg.2 (w 95 n.toNat).toNat 0 (by omega) (by have := hg.1.2; omega) h
noncomputable def zb229 (l0 : List zV) (w : zW) (K : zK) : Prop := cond (zpe (zar l0 0) 93) (zA l0 1 fun n => zA l0 2 fun c => zA l0 3 fun b => (zAr w n ∧ 0 ≤ c ∧ c < 12) ∧ (K (0, some (0, zAh (zfw w n.toNat) (w 95 n.toNat) c b)) (w) 238)) (False)
noncomputable def zT56 : zSum := zsm1 229 [2, 0, 0, 0, 9] zb229 zT55
theorem zT56_ok : zSok zT56 := zsm1_ok zT55_ok fun l0 w K h => by
  unfold zb229 at h
  cases q0 : zpe (zar l0 0) 93 with
  | true =>
    rw [q0, cond_true] at h
    have e : zar l0 0 = 93 := zpe_e q0
    show zcall 229 [(2, zar l0 0), (0, zar l0 1), (0, zar l0 2), (0, zar l0 3), (9, 0)] w 238 K
    rw [e]
    exact zk229_93 (zar l0 1) (zar l0 2) (zar l0 3) w K (zA_e (zA_e (zA_e h)))
  | false =>
  rw [q0, cond_false] at h
  exact h.elim
/-! Model.isNeighbor -/
set_option maxRecDepth 100000 in
theorem zk230_93 (n c a : Int) (w : zW) (K : zK) (h : ((0 ≤ n ∧ n < 3) ∧ (0 ≤ c ∧ c < 12) ∧ (0 ≤ a ∧ a < 12)) ∧ (K (0, some (0, (if zap (zfw w n.toNat) c a then 0 else 1))) (w) 238)) : zcall 230 [(2, 93), (0, n), (0, c), (0, a)] w 238 K := by
  obtain ⟨hg, h⟩ := h
  refine (show (((0 ≤ n ∧ n < 3) ∧ (0 ≤ c ∧ c < 12) ∧ (0 ≤ a ∧ a < 12)) ∧ (if zfw w n.toNat c a = (-1) then ((0 ≤ n ∧ n < 3) ∧ (0 ≤ a ∧ a < 12) ∧ (0 ≤ c ∧ c < 12)) ∧ (if zfw w n.toNat a c = (-1) then K (0, some (0, 0)) w 238 else K (0, some (0, 1)) w 238) else K (0, some (0, 1)) w 238)) → _ from fun h => show zwp 230 0 [(2, 93), (0, n), (0, c), (0, a)] [] w 238 0 K from zgo_imp zT56_ok (cut := fun pc => Nat.beq pc 7 || Nat.beq pc 18) 400 (show ((0 ≤ n ∧ n < 3) ∧ (0 ≤ c ∧ c < 12) ∧ (0 ≤ a ∧ a < 12)) ∧ (zwp 230 7 [(2, 93), (0, n), (0, c), (0, a)] [(0, zfw w n.toNat c a)] w 238 0 K) from zmA (fun h => (fun h => show zwp 230 7 [(2, 93), (0, n), (0, c), (0, a)] [(0, zfw w n.toNat c a)] w 238 0 K from zgo_imp zT56_ok (cut := fun pc => Nat.beq pc 7 || Nat.beq pc 18) 400 (show if zfw w n.toNat c a = (-1) then ((0 ≤ n ∧ n < 3) ∧ (0 ≤ a ∧ a < 12) ∧ (0 ≤ c ∧ c < 12)) ∧ (zwp 230 18 [(2, 93), (0, n), (0, c), (0, a)] [(0, zfw w n.toNat a c)] w 238 0 K) else K (0, some (0, 1)) w 238 from zmI (fun h => zmA (fun h => (fun h => show zwp 230 18 [(2, 93), (0, n), (0, c), (0, a)] [(0, zfw w n.toNat a c)] w 238 0 K from zgo_imp zT56_ok (cut := fun pc => Nat.beq pc 7 || Nat.beq pc 18) 400 (show if zfw w n.toNat a c = (-1) then K (0, some (0, 0)) w 238 else K (0, some (0, 1)) w 238 from h)) h) h) (fun h => h) h)) h) h)) ?_
  obtain ⟨g1, g2, g3⟩ := hg
  refine ⟨⟨g1, g2, g3⟩, ?_⟩
  by_cases q1 : zfw w n.toNat c a = -1
  · refine ziT q1 ⟨⟨g1, g3, g2⟩, ?_⟩
    by_cases q2 : zfw w n.toNat a c = -1
    · exact ziT q2 (zKe h (if_pos ⟨q1, q2⟩))
    · exact ziF q2 (zKe h (if_neg fun q => q2 q.2))
  · exact ziF q1 (zKe h (if_neg fun q => q1 q.1))
noncomputable def zb230 (l0 : List zV) (w : zW) (K : zK) : Prop := cond (zpe (zar l0 0) 93) (zA l0 1 fun n => zA l0 2 fun c => zA l0 3 fun a => ((0 ≤ n ∧ n < 3) ∧ (0 ≤ c ∧ c < 12) ∧ (0 ≤ a ∧ a < 12)) ∧ (K (0, some (0, (if zap (zfw w n.toNat) c a then 0 else 1))) (w) 238)) (False)
noncomputable def zT57 : zSum := zsm1 230 [2, 0, 0, 0] zb230 zT56
theorem zT57_ok : zSok zT57 := zsm1_ok zT56_ok fun l0 w K h => by
  unfold zb230 at h
  cases q0 : zpe (zar l0 0) 93 with
  | true =>
    rw [q0, cond_true] at h
    have e : zar l0 0 = 93 := zpe_e q0
    show zcall 230 [(2, zar l0 0), (0, zar l0 1), (0, zar l0 2), (0, zar l0 3)] w 238 K
    rw [e]
    exact zk230_93 (zar l0 1) (zar l0 2) (zar l0 3) w K (zA_e (zA_e (zA_e h)))
  | false =>
  rw [q0, cond_false] at h
  exact h.elim
set_option maxRecDepth 100000 in
theorem zk231_L5 {w : zW} {K : zK} (n c : Int) (hA : zAr w n) (hc : 0 ≤ c ∧ c < 12)  : ∀ (m : Nat) (a k : Int), (0 ≤ a) → (a + m = w 95 n.toNat) → (0 ≤ k ∧ k ≤ a) → (K (0, some (0, k + zSm (fun a => if zap (zfw w n.toNat) c a then 0 else 1) m a)) w 238) → zwp 231 5 [(2, 93), (0, n), (0, c), (0, k), (0, a)] [] w 238 0 K := by
  
  intro m
  induction m with
  | zero =>
    intro a k  h1 h2 h3 h
    refine (show (zif False (0 ≤ n ∧ n < 3) (if a < w 95 n.toNat then ((0 ≤ n ∧ n < 3) ∧ (0 ≤ c ∧ c < 12) ∧ (0 ≤ a ∧ a < 12)) ∧ (if ((if zap (zfw w n.toNat) c a then 0 else 1) : Int) = 0 then zwp 231 5 [(2, 93), (0, n), (0, c), (0, z32 (k + 0)), (0, z32 (a + 1))] [] w 238 0 K else zwp 231 5 [(2, 93), (0, n), (0, c), (0, z32 (k + 1)), (0, z32 (a + 1))] [] w 238 0 K) else K (0, some (0, k)) w 238)) → _ from fun h => show zwp 231 5 [(2, 93), (0, n), (0, c), (0, k), (0, a)] [] w 238 0 K from zgo_imp zT57_ok (cut := fun pc => Nat.beq pc 5 || Nat.beq pc 13 || Nat.beq pc 25 || Nat.beq pc 28) 400 (show zif False (0 ≤ n ∧ n < 3) (zwp 231 13 [(2, 93), (0, n), (0, c), (0, k), (0, a)] [(0, w 95 n.toNat), (0, a)] w 238 0 K) from zmZ (fun h => (fun h => show zwp 231 13 [(2, 93), (0, n), (0, c), (0, k), (0, a)] [(0, w 95 n.toNat), (0, a)] w 238 0 K from zgo_imp zT57_ok (cut := fun pc => Nat.beq pc 5 || Nat.beq pc 13 || Nat.beq pc 25 || Nat.beq pc 28) 400 (show if a < w 95 n.toNat then ((0 ≤ n ∧ n < 3) ∧ (0 ≤ c ∧ c < 12) ∧ (0 ≤ a ∧ a < 12)) ∧ (zwp 231 25 [(2, 93), (0, n), (0, c), (0, k), (0, a)] [(0, ((if zap (zfw w n.toNat) c a then 0 else 1) : Int)), (0, k)] w 238 0 K) else K (0, some (0, k)) w 238 from zmI (fun h => zmA (fun h => (fun h => show zwp 231 25 [(2, 93), (0, n), (0, c), (0, k), (0, a)] [(0, ((if zap (zfw w n.toNat) c a then 0 else 1) : Int)), (0, k)] w 238 0 K from zgo_imp zT57_ok (cut := fun pc => Nat.beq pc 5 || Nat.beq pc 13 || Nat.beq pc 25 || Nat.beq pc 28) 400 (show if ((if zap (zfw w n.toNat) c a then 0 else 1) : Int) = 0 then zwp 231 28 [(2, 93), (0, n), (0, c), (0, k), (0, a)] [(0, 0), (0, k)] w 238 0 K else zwp 231 28 [(2, 93), (0, n), (0, c), (0, k), (0, a)] [(0, 1), (0, k)] w 238 0 K from zmI (fun h => (fun h => show zwp 231 28 [(2, 93), (0, n), (0, c), (0, k), (0, a)] [(0, 0), (0, k)] w 238 0 K from zgo_imp zT57_ok (cut := fun pc => Nat.beq pc 5 || Nat.beq pc 13 || Nat.beq pc 25 || Nat.beq pc 28) 400 (show zwp 231 5 [(2, 93), (0, n), (0, c), (0, z32 (k + 0)), (0, z32 (a + 1))] [] w 238 0 K from h)) h) (fun h => (fun h => show zwp 231 28 [(2, 93), (0, n), (0, c), (0, k), (0, a)] [(0, 1), (0, k)] w 238 0 K from zgo_imp zT57_ok (cut := fun pc => Nat.beq pc 5 || Nat.beq pc 13 || Nat.beq pc 25 || Nat.beq pc 28) 400 (show zwp 231 5 [(2, 93), (0, n), (0, c), (0, z32 (k + 1)), (0, z32 (a + 1))] [] w 238 0 K from h)) h) h)) h) h) (fun h => h) h)) h) h)) ?_
    refine zifI hA.1 (ziF (by omega) ?_)
    exact zKe h (by show k + 0 = k; omega)
  | succ m ih =>
    intro a k  h1 h2 h3 h
    refine (show (zif False (0 ≤ n ∧ n < 3) (if a < w 95 n.toNat then ((0 ≤ n ∧ n < 3) ∧ (0 ≤ c ∧ c < 12) ∧ (0 ≤ a ∧ a < 12)) ∧ (if ((if zap (zfw w n.toNat) c a then 0 else 1) : Int) = 0 then zwp 231 5 [(2, 93), (0, n), (0, c), (0, z32 (k + 0)), (0, z32 (a + 1))] [] w 238 0 K else zwp 231 5 [(2, 93), (0, n), (0, c), (0, z32 (k + 1)), (0, z32 (a + 1))] [] w 238 0 K) else K (0, some (0, k)) w 238)) → _ from fun h => show zwp 231 5 [(2, 93), (0, n), (0, c), (0, k), (0, a)] [] w 238 0 K from zgo_imp zT57_ok (cut := fun pc => Nat.beq pc 5 || Nat.beq pc 13 || Nat.beq pc 25 || Nat.beq pc 28) 400 (show zif False (0 ≤ n ∧ n < 3) (zwp 231 13 [(2, 93), (0, n), (0, c), (0, k), (0, a)] [(0, w 95 n.toNat), (0, a)] w 238 0 K) from zmZ (fun h => (fun h => show zwp 231 13 [(2, 93), (0, n), (0, c), (0, k), (0, a)] [(0, w 95 n.toNat), (0, a)] w 238 0 K from zgo_imp zT57_ok (cut := fun pc => Nat.beq pc 5 || Nat.beq pc 13 || Nat.beq pc 25 || Nat.beq pc 28) 400 (show if a < w 95 n.toNat then ((0 ≤ n ∧ n < 3) ∧ (0 ≤ c ∧ c < 12) ∧ (0 ≤ a ∧ a < 12)) ∧ (zwp 231 25 [(2, 93), (0, n), (0, c), (0, k), (0, a)] [(0, ((if zap (zfw w n.toNat) c a then 0 else 1) : Int)), (0, k)] w 238 0 K) else K (0, some (0, k)) w 238 from zmI (fun h => zmA (fun h => (fun h => show zwp 231 25 [(2, 93), (0, n), (0, c), (0, k), (0, a)] [(0, ((if zap (zfw w n.toNat) c a then 0 else 1) : Int)), (0, k)] w 238 0 K from zgo_imp zT57_ok (cut := fun pc => Nat.beq pc 5 || Nat.beq pc 13 || Nat.beq pc 25 || Nat.beq pc 28) 400 (show if ((if zap (zfw w n.toNat) c a then 0 else 1) : Int) = 0 then zwp 231 28 [(2, 93), (0, n), (0, c), (0, k), (0, a)] [(0, 0), (0, k)] w 238 0 K else zwp 231 28 [(2, 93), (0, n), (0, c), (0, k), (0, a)] [(0, 1), (0, k)] w 238 0 K from zmI (fun h => (fun h => show zwp 231 28 [(2, 93), (0, n), (0, c), (0, k), (0, a)] [(0, 0), (0, k)] w 238 0 K from zgo_imp zT57_ok (cut := fun pc => Nat.beq pc 5 || Nat.beq pc 13 || Nat.beq pc 25 || Nat.beq pc 28) 400 (show zwp 231 5 [(2, 93), (0, n), (0, c), (0, z32 (k + 0)), (0, z32 (a + 1))] [] w 238 0 K from h)) h) (fun h => (fun h => show zwp 231 28 [(2, 93), (0, n), (0, c), (0, k), (0, a)] [(0, 1), (0, k)] w 238 0 K from zgo_imp zT57_ok (cut := fun pc => Nat.beq pc 5 || Nat.beq pc 13 || Nat.beq pc 25 || Nat.beq pc 28) 400 (show zwp 231 5 [(2, 93), (0, n), (0, c), (0, z32 (k + 1)), (0, z32 (a + 1))] [] w 238 0 K from h)) h) h)) h) h) (fun h => h) h)) h) h)) ?_
    have hA2 := hA.2
    refine zifI hA.1 (ziT (by omega) ⟨⟨hA.1, hc, by omega, by omega⟩, ?_⟩)
    rw [z32_id (x := a + 1) ⟨by omega, by omega⟩]
    by_cases q : zap (zfw w n.toNat) c a
    · refine ziT (if_pos q) ?_
      rw [z32_id (x := k + 0) ⟨by omega, by omega⟩]
      refine ih _ _ (by omega) (by omega) (by omega) (zKe h ?_)
      show k + ((if zap (zfw w n.toNat) c a then 0 else 1) + _) = _
      rw [if_pos q]; omega
    · refine ziF (by rw [if_neg q]; decide) ?_
      rw [z32_id (x := k + 1) ⟨by omega, by omega⟩]
      refine ih _ _ (by omega) (by omega) (by omega) (zKe h ?_)
      show k + ((if zap (zfw w n.toNat) c a then 0 else 1) + _) = _
      rw [if_neg q]; omega
/-! Model.neighborsOf -/
set_option maxRecDepth 100000 in
theorem zk231_93 (n c : Int) (w : zW) (K : zK) (h : (zAr w n ∧ 0 ≤ c ∧ c < 12) ∧ (K (0, some (0, zNb (zfw w n.toNat) (w 95 n.toNat) c)) (w) 238)) : zcall 231 [(2, 93), (0, n), (0, c), (9, 0), (9, 0)] w 238 K := by
  obtain ⟨hg, h⟩ := h
  refine (show (zwp 231 5 [(2, 93), (0, n), (0, c), (0, 0), (0, 0)] [] w 238 0 K) → _ from fun h => show zwp 231 0 [(2, 93), (0, n), (0, c), (9, 0), (9, 0)] [] w 238 0 K from zgo_imp zT57_ok (cut := fun pc => Nat.beq pc 5 || Nat.beq pc 13 || Nat.beq pc 25 || Nat.beq pc 28) 400 (show zwp 231 5 [(2, 93), (0, n), (0, c), (0, 0), (0, 0)] [] w 238 0 K from h)) ?_
  exact zk231_L5 n c hg.1 hg.2 (w 95 n.toNat).toNat 0 0 (by omega) (by have := hg.1.2; omega) (by omega) (zKe h (by unfold zNb; omega))
noncomputable def zb231 (l0 : List zV) (w : zW) (K : zK) : Prop := cond (zpe (zar l0 0) 93) (zA l0 1 fun n => zA l0 2 fun c => (zAr w n ∧ 0 ≤ c ∧ c < 12) ∧ (K (0, some (0, zNb (zfw w n.toNat) (w 95 n.toNat) c)) (w) 238)) (False)
noncomputable def zT58 : zSum := zsm1 231 [2, 0, 0, 9, 9] zb231 zT57
theorem zT58_ok : zSok zT58 := zsm1_ok zT57_ok fun l0 w K h => by
  unfold zb231 at h
  cases q0 : zpe (zar l0 0) 93 with
  | true =>
    rw [q0, cond_true] at h
    have e : zar l0 0 = 93 := zpe_e q0
    show zcall 231 [(2, zar l0 0), (0, zar l0 1), (0, zar l0 2), (9, 0), (9, 0)] w 238 K
    rw [e]
    exact zk231_93 (zar l0 1) (zar l0 2) w K (zA_e (zA_e h))
  | false =>
  rw [q0, cond_false] at h
  exact h.elim
set_option maxRecDepth 100000 in
theorem zk232_L44 {w : zW} {K : zK} (n c l : Int) (hA : zAr w n) (hc : 0 ≤ c ∧ c < 12)  : ∀ (m : Nat) (a : Int), (0 ≤ a) → (a + m = w 95 n.toNat) → (K (0, some (0, if zFi (fun a => ¬ zap (zfw w n.toNat) c a ∧ zAh (zfw w n.toNat) (w 95 n.toNat) c a = -1) m a = -1 then l else zFi (fun a => ¬ zap (zfw w n.toNat) c a ∧ zAh (zfw w n.toNat) (w 95 n.toNat) c a = -1) m a)) w 238) → zwp 232 44 [(2, 93), (0, n), (0, c), (0, l), (0, a)] [] w 238 0 K := by
  
  intro m
  induction m with
  | zero =>
    intro a  h1 h2 h
    refine (show (zif False (0 ≤ n ∧ n < 3) (if a < w 95 n.toNat then ((0 ≤ n ∧ n < 3) ∧ (0 ≤ c ∧ c < 12) ∧ (0 ≤ a ∧ a < 12)) ∧ (if ((if zap (zfw w n.toNat) c a then 0 else 1) : Int) = 0 then zwp 232 44 [(2, 93), (0, n), (0, c), (0, l), (0, z32 (a + 1))] [] w 238 0 K else (zAr w n ∧ 0 ≤ c ∧ c < 12) ∧ (if zAh (zfw w n.toNat) (w 95 n.toNat) c a = (-1) then K (0, some (0, a)) w 238 else zwp 232 44 [(2, 93), (0, n), (0, c), (0, l), (0, z32 (a + 1))] [] w 238 0 K)) else K (0, some (0, l)) w 238)) → _ from fun h => show zwp 232 44 [(2, 93), (0, n), (0, c), (0, l), (0, a)] [] w 238 0 K from zgo_imp zT58_ok (cut := fun pc => Nat.beq pc 12 || Nat.beq pc 25 || Nat.beq pc 44 || Nat.beq pc 58 || Nat.beq pc 63 || Nat.beq pc 74) 400 (show zif False (0 ≤ n ∧ n < 3) (if a < w 95 n.toNat then zwp 232 58 [(2, 93), (0, n), (0, c), (0, l), (0, a)] [(0, c), (0, n), (2, 93)] w 238 0 K else K (0, some (0, l)) w 238) from zmZ (fun h => zmI (fun h => (fun h => show zwp 232 58 [(2, 93), (0, n), (0, c), (0, l), (0, a)] [(0, c), (0, n), (2, 93)] w 238 0 K from zgo_imp zT58_ok (cut := fun pc => Nat.beq pc 12 || Nat.beq pc 25 || Nat.beq pc 44 || Nat.beq pc 58 || Nat.beq pc 63 || Nat.beq pc 74) 400 (show ((0 ≤ n ∧ n < 3) ∧ (0 ≤ c ∧ c < 12) ∧ (0 ≤ a ∧ a < 12)) ∧ (zwp 232 63 [(2, 93), (0, n), (0, c), (0, l), (0, a)] [(0, ((if zap (zfw w n.toNat) c a then 0 else 1) : Int))] w 238 0 K) from zmA (fun h => (fun h => show zwp 232 63 [(2, 93), (0, n), (0, c), (0, l), (0, a)] [(0, ((if zap (zfw w n.toNat) c a then 0 else 1) : Int))] w 238 0 K from zgo_imp zT58_ok (cut := fun pc => Nat.beq pc 12 || Nat.beq pc 25 || Nat.beq pc 44 || Nat.beq pc 58 || Nat.beq pc 63 || Nat.beq pc 74) 400 (show if ((if zap (zfw w n.toNat) c a then 0 else 1) : Int) = 0 then zwp 232 44 [(2, 93), (0, n), (0, c), (0, l), (0, z32 (a + 1))] [] w 238 0 K else (zAr w n ∧ 0 ≤ c ∧ c < 12) ∧ (zwp 232 74 [(2, 93), (0, n), (0, c), (0, l), (0, a)] [(0, zAh (zfw w n.toNat) (w 95 n.toNat) c a)] w 238 0 K) from zmI (fun h => h) (fun h => zmA (fun h => (fun h => show zwp 232 74 [(2, 93), (0, n), (0, c), (0, l), (0, a)] [(0, zAh (zfw w n.toNat) (w 95 n.toNat) c a)] w 238 0 K from zgo_imp zT58_ok (cut := fun pc => Nat.beq pc 12 || Nat.beq pc 25 || Nat.beq pc 44 || Nat.beq pc 58 || Nat.beq pc 63 || Nat.beq pc 74) 400 (show if zAh (zfw w n.toNat) (w 95 n.toNat) c a = (-1) then K (0, some (0, a)) w 238 else zwp 232 44 [(2, 93), (0, n), (0, c), (0, l), (0, z32 (a + 1))] [] w 238 0 K from h)) h) h) h)) h) h)) h) (fun h => h) h) h)) ?_
    refine zifI hA.1 (ziF (by omega) ?_)
    exact zKe h (if_pos rfl)
  | succ m ih =>
    intro a  h1 h2 h
    refine (show (zif False (0 ≤ n ∧ n < 3) (if a < w 95 n.toNat then ((0 ≤ n ∧ n < 3) ∧ (0 ≤ c ∧ c < 12) ∧ (0 ≤ a ∧ a < 12)) ∧ (if ((if zap (zfw w n.toNat) c a then 0 else 1) : Int) = 0 then zwp 232 44 [(2, 93), (0, n), (0, c), (0, l), (0, z32 (a + 1))] [] w 238 0 K else (zAr w n ∧ 0 ≤ c ∧ c < 12) ∧ (if zAh (zfw w n.toNat) (w 95 n.toNat) c a = (-1) then K (0, some (0, a)) w 238 else zwp 232 44 [(2, 93), (0, n), (0, c), (0, l), (0, z32 (a + 1))] [] w 238 0 K)) else K (0, some (0, l)) w 238)) → _ from fun h => show zwp 232 44 [(2, 93), (0, n), (0, c), (0, l), (0, a)] [] w 238 0 K from zgo_imp zT58_ok (cut := fun pc => Nat.beq pc 12 || Nat.beq pc 25 || Nat.beq pc 44 || Nat.beq pc 58 || Nat.beq pc 63 || Nat.beq pc 74) 400 (show zif False (0 ≤ n ∧ n < 3) (if a < w 95 n.toNat then zwp 232 58 [(2, 93), (0, n), (0, c), (0, l), (0, a)] [(0, c), (0, n), (2, 93)] w 238 0 K else K (0, some (0, l)) w 238) from zmZ (fun h => zmI (fun h => (fun h => show zwp 232 58 [(2, 93), (0, n), (0, c), (0, l), (0, a)] [(0, c), (0, n), (2, 93)] w 238 0 K from zgo_imp zT58_ok (cut := fun pc => Nat.beq pc 12 || Nat.beq pc 25 || Nat.beq pc 44 || Nat.beq pc 58 || Nat.beq pc 63 || Nat.beq pc 74) 400 (show ((0 ≤ n ∧ n < 3) ∧ (0 ≤ c ∧ c < 12) ∧ (0 ≤ a ∧ a < 12)) ∧ (zwp 232 63 [(2, 93), (0, n), (0, c), (0, l), (0, a)] [(0, ((if zap (zfw w n.toNat) c a then 0 else 1) : Int))] w 238 0 K) from zmA (fun h => (fun h => show zwp 232 63 [(2, 93), (0, n), (0, c), (0, l), (0, a)] [(0, ((if zap (zfw w n.toNat) c a then 0 else 1) : Int))] w 238 0 K from zgo_imp zT58_ok (cut := fun pc => Nat.beq pc 12 || Nat.beq pc 25 || Nat.beq pc 44 || Nat.beq pc 58 || Nat.beq pc 63 || Nat.beq pc 74) 400 (show if ((if zap (zfw w n.toNat) c a then 0 else 1) : Int) = 0 then zwp 232 44 [(2, 93), (0, n), (0, c), (0, l), (0, z32 (a + 1))] [] w 238 0 K else (zAr w n ∧ 0 ≤ c ∧ c < 12) ∧ (zwp 232 74 [(2, 93), (0, n), (0, c), (0, l), (0, a)] [(0, zAh (zfw w n.toNat) (w 95 n.toNat) c a)] w 238 0 K) from zmI (fun h => h) (fun h => zmA (fun h => (fun h => show zwp 232 74 [(2, 93), (0, n), (0, c), (0, l), (0, a)] [(0, zAh (zfw w n.toNat) (w 95 n.toNat) c a)] w 238 0 K from zgo_imp zT58_ok (cut := fun pc => Nat.beq pc 12 || Nat.beq pc 25 || Nat.beq pc 44 || Nat.beq pc 58 || Nat.beq pc 63 || Nat.beq pc 74) 400 (show if zAh (zfw w n.toNat) (w 95 n.toNat) c a = (-1) then K (0, some (0, a)) w 238 else zwp 232 44 [(2, 93), (0, n), (0, c), (0, l), (0, z32 (a + 1))] [] w 238 0 K from h)) h) h) h)) h) h)) h) (fun h => h) h) h)) ?_
    have hA2 := hA.2
    refine zifI hA.1 (ziT (by omega) ⟨⟨hA.1, hc, by omega, by omega⟩, ?_⟩)
    have e : zFi (fun a => ¬ zap (zfw w n.toNat) c a ∧ zAh (zfw w n.toNat) (w 95 n.toNat) c a = -1) (m + 1) a = if ¬ zap (zfw w n.toNat) c a ∧ zAh (zfw w n.toNat) (w 95 n.toNat) c a = -1 then a else zFi (fun a => ¬ zap (zfw w n.toNat) c a ∧ zAh (zfw w n.toNat) (w 95 n.toNat) c a = -1) m (a + 1) := rfl
    rw [z32_id (x := a + 1) ⟨by omega, by omega⟩]
    by_cases q : zap (zfw w n.toNat) c a
    · rw [e.trans (if_neg fun q2 => q2.1 q)] at h
      exact ziT (if_pos q) (ih _ (by omega) (by omega) h)
    · refine ziF (by rw [if_neg q]; decide) ⟨⟨hA, hc⟩, ?_⟩
      by_cases q2 : zAh (zfw w n.toNat) (w 95 n.toNat) c a = -1
      · rw [e.trans (if_pos ⟨q, q2⟩)] at h
        exact ziT q2 (zKe h (if_neg (by omega)))
      · rw [e.trans (if_neg fun q3 => q2 q3.2)] at h
        exact ziF q2 (ih _ (by omega) (by omega) h)
set_option maxRecDepth 100000 in
theorem zk232_L12 {w : zW} {K : zK} (n c : Int) (hA : zAr w n) (hc : 0 ≤ c ∧ c < 12)  : ∀ (m : Nat) (a l : Int), (a + 1 = m) → (a < w 95 n.toNat) → (l = zFi (fun a => ¬ zap (zfw w n.toNat) c a) (w 95 n.toNat - 1 - a).toNat (a + 1)) → (K (0, some (0, zFs (zfw w n.toNat) (w 95 n.toNat) c)) w 238) → zwp 232 12 [(2, 93), (0, n), (0, c), (0, l), (0, a)] [] w 238 0 K := by
  
  intro m
  induction m with
  | zero =>
    intro a l  h1 h2 h3 h
    refine (show (if a < 0 then zwp 232 44 [(2, 93), (0, n), (0, c), (0, l), (0, 0)] [] w 238 0 K else ((0 ≤ n ∧ n < 3) ∧ (0 ≤ c ∧ c < 12) ∧ (0 ≤ a ∧ a < 12)) ∧ (if ((if zap (zfw w n.toNat) c a then 0 else 1) : Int) = 0 then zwp 232 12 [(2, 93), (0, n), (0, c), (0, l), (0, z32 (a + (-1)))] [] w 238 0 K else zwp 232 12 [(2, 93), (0, n), (0, c), (0, a), (0, z32 (a + (-1)))] [] w 238 0 K)) → _ from fun h => show zwp 232 12 [(2, 93), (0, n), (0, c), (0, l), (0, a)] [] w 238 0 K from zgo_imp zT58_ok (cut := fun pc => Nat.beq pc 12 || Nat.beq pc 25 || Nat.beq pc 44 || Nat.beq pc 58 || Nat.beq pc 63 || Nat.beq pc 74) 400 (show if a < 0 then zwp 232 44 [(2, 93), (0, n), (0, c), (0, l), (0, 0)] [] w 238 0 K else ((0 ≤ n ∧ n < 3) ∧ (0 ≤ c ∧ c < 12) ∧ (0 ≤ a ∧ a < 12)) ∧ (zwp 232 25 [(2, 93), (0, n), (0, c), (0, l), (0, a)] [(0, ((if zap (zfw w n.toNat) c a then 0 else 1) : Int))] w 238 0 K) from zmI (fun h => h) (fun h => zmA (fun h => (fun h => show zwp 232 25 [(2, 93), (0, n), (0, c), (0, l), (0, a)] [(0, ((if zap (zfw w n.toNat) c a then 0 else 1) : Int))] w 238 0 K from zgo_imp zT58_ok (cut := fun pc => Nat.beq pc 12 || Nat.beq pc 25 || Nat.beq pc 44 || Nat.beq pc 58 || Nat.beq pc 63 || Nat.beq pc 74) 400 (show if ((if zap (zfw w n.toNat) c a then 0 else 1) : Int) = 0 then zwp 232 12 [(2, 93), (0, n), (0, c), (0, l), (0, z32 (a + (-1)))] [] w 238 0 K else zwp 232 12 [(2, 93), (0, n), (0, c), (0, a), (0, z32 (a + (-1)))] [] w 238 0 K from h)) h) h) h)) ?_
    have hA2 := hA.2
    refine ziT (by omega) ?_
    refine zk232_L44 n c l hA hc (w 95 n.toNat).toNat 0 (by omega) (by omega) (zKe h ?_)
    have ea : a = -1 := by omega
    subst ea
    have h3 : l = zLw (zfw w n.toNat) (w 95 n.toNat) c := by rw [h3]; unfold zLw; rw [show w 95 n.toNat - 1 - -1 = w 95 n.toNat by omega]; rfl
    rw [h3]; rfl
  | succ m ih =>
    intro a l  h1 h2 h3 h
    refine (show (if a < 0 then zwp 232 44 [(2, 93), (0, n), (0, c), (0, l), (0, 0)] [] w 238 0 K else ((0 ≤ n ∧ n < 3) ∧ (0 ≤ c ∧ c < 12) ∧ (0 ≤ a ∧ a < 12)) ∧ (if ((if zap (zfw w n.toNat) c a then 0 else 1) : Int) = 0 then zwp 232 12 [(2, 93), (0, n), (0, c), (0, l), (0, z32 (a + (-1)))] [] w 238 0 K else zwp 232 12 [(2, 93), (0, n), (0, c), (0, a), (0, z32 (a + (-1)))] [] w 238 0 K)) → _ from fun h => show zwp 232 12 [(2, 93), (0, n), (0, c), (0, l), (0, a)] [] w 238 0 K from zgo_imp zT58_ok (cut := fun pc => Nat.beq pc 12 || Nat.beq pc 25 || Nat.beq pc 44 || Nat.beq pc 58 || Nat.beq pc 63 || Nat.beq pc 74) 400 (show if a < 0 then zwp 232 44 [(2, 93), (0, n), (0, c), (0, l), (0, 0)] [] w 238 0 K else ((0 ≤ n ∧ n < 3) ∧ (0 ≤ c ∧ c < 12) ∧ (0 ≤ a ∧ a < 12)) ∧ (zwp 232 25 [(2, 93), (0, n), (0, c), (0, l), (0, a)] [(0, ((if zap (zfw w n.toNat) c a then 0 else 1) : Int))] w 238 0 K) from zmI (fun h => h) (fun h => zmA (fun h => (fun h => show zwp 232 25 [(2, 93), (0, n), (0, c), (0, l), (0, a)] [(0, ((if zap (zfw w n.toNat) c a then 0 else 1) : Int))] w 238 0 K from zgo_imp zT58_ok (cut := fun pc => Nat.beq pc 12 || Nat.beq pc 25 || Nat.beq pc 44 || Nat.beq pc 58 || Nat.beq pc 63 || Nat.beq pc 74) 400 (show if ((if zap (zfw w n.toNat) c a then 0 else 1) : Int) = 0 then zwp 232 12 [(2, 93), (0, n), (0, c), (0, l), (0, z32 (a + (-1)))] [] w 238 0 K else zwp 232 12 [(2, 93), (0, n), (0, c), (0, a), (0, z32 (a + (-1)))] [] w 238 0 K from h)) h) h) h)) ?_
    have hA2 := hA.2
    refine ziF (by omega) ⟨⟨hA.1, hc, by omega, by omega⟩, ?_⟩
    rw [z32_id (x := a + -1) ⟨by omega, by omega⟩]
    have e : zFi (fun a => ¬ zap (zfw w n.toNat) c a) ((w 95 n.toNat - 1 - a).toNat + 1) a = if ¬ zap (zfw w n.toNat) c a then a else zFi (fun a => ¬ zap (zfw w n.toNat) c a) (w 95 n.toNat - 1 - a).toNat (a + 1) := rfl
    have e2 : (w 95 n.toNat - 1 - (a + -1)).toNat = (w 95 n.toNat - 1 - a).toNat + 1 := by omega
    by_cases q : zap (zfw w n.toNat) c a
    · refine ziT (if_pos q) (ih _ _ (by omega) (by omega) ?_ h)
      rw [e2, show a + -1 + 1 = a by omega, e.trans (if_neg fun q2 => q2 q)]
      exact h3
    · refine ziF (by rw [if_neg q]; decide) (ih _ _ (by omega) (by omega) ?_ h)
      rw [e2, show a + -1 + 1 = a by omega, e.trans (if_pos q)]
/-! Model.firstOf -/
set_option maxRecDepth 100000 in
theorem zk232_93 (n c : Int) (w : zW) (K : zK) (h : (zAr w n ∧ 0 ≤ c ∧ c < 12) ∧ (K (0, some (0, zFs (zfw w n.toNat) (w 95 n.toNat) c)) (w) 238)) : zcall 232 [(2, 93), (0, n), (0, c), (9, 0), (9, 0)] w 238 K := by
  obtain ⟨hg, h⟩ := h
  refine (show (zif False (0 ≤ n ∧ n < 3) (zwp 232 12 [(2, 93), (0, n), (0, c), (0, (-1)), (0, z32 ((w 95 n.toNat) - 1))] [] w 238 0 K)) → _ from fun h => show zwp 232 0 [(2, 93), (0, n), (0, c), (9, 0), (9, 0)] [] w 238 0 K from zgo_imp zT58_ok (cut := fun pc => Nat.beq pc 12 || Nat.beq pc 25 || Nat.beq pc 44 || Nat.beq pc 58 || Nat.beq pc 63 || Nat.beq pc 74) 400 (show zif False (0 ≤ n ∧ n < 3) (zwp 232 12 [(2, 93), (0, n), (0, c), (0, (-1)), (0, z32 ((w 95 n.toNat) - 1))] [] w 238 0 K) from h)) ?_
  have hA2 := hg.1.2
  refine zifI hg.1.1 ?_
  rw [z32_id (x := w 95 n.toNat - 1) ⟨by omega, by omega⟩]
  refine zk232_L12 n c hg.1 hg.2 (w 95 n.toNat).toNat _ _ (by omega) (by omega) ?_ h
  rw [show (w 95 n.toNat - 1 - (w 95 n.toNat - 1)).toNat = 0 by omega]; rfl
noncomputable def zb232 (l0 : List zV) (w : zW) (K : zK) : Prop := cond (zpe (zar l0 0) 93) (zA l0 1 fun n => zA l0 2 fun c => (zAr w n ∧ 0 ≤ c ∧ c < 12) ∧ (K (0, some (0, zFs (zfw w n.toNat) (w 95 n.toNat) c)) (w) 238)) (False)
noncomputable def zT59 : zSum := zsm1 232 [2, 0, 0, 9, 9] zb232 zT58
theorem zT59_ok : zSok zT59 := zsm1_ok zT58_ok fun l0 w K h => by
  unfold zb232 at h
  cases q0 : zpe (zar l0 0) 93 with
  | true =>
    rw [q0, cond_true] at h
    have e : zar l0 0 = 93 := zpe_e q0
    show zcall 232 [(2, zar l0 0), (0, zar l0 1), (0, zar l0 2), (9, 0), (9, 0)] w 238 K
    rw [e]
    exact zk232_93 (zar l0 1) (zar l0 2) w K (zA_e (zA_e h))
  | false =>
  rw [q0, cond_false] at h
  exact h.elim
/-! Model.kindOf -/
set_option maxRecDepth 100000 in
theorem zk240_93 (c : Int) (w : zW) (K : zK) (h : (zNt w ∧ 0 ≤ c ∧ c < w 95 0) ∧ (K (0, some (0, zKd (zF0 w) (w 95 0) c)) (w) 238)) : zcall 240 [(2, 93), (0, c)] w 238 K := by
  obtain ⟨hg, h⟩ := h
  refine (show ((zAr w (0 : Int) ∧ 0 ≤ c ∧ c < 12) ∧ (if zNb (zfw w (0 : Int).toNat) (w 95 (0 : Int).toNat) c = 0 then K (0, some (0, 2)) w 238 else (zAr w (0 : Int) ∧ 0 ≤ c ∧ c < 12) ∧ ((zAr w (0 : Int) ∧ 0 ≤ c ∧ c < 12) ∧ (if zAh (zfw w (0 : Int).toNat) (w 95 (0 : Int).toNat) c (zFs (zfw w (0 : Int).toNat) (w 95 (0 : Int).toNat) c) = (-1) then K (0, some (0, 1)) w 238 else K (0, some (0, 0)) w 238)))) → _ from fun h => show zwp 240 0 [(2, 93), (0, c)] [] w 238 0 K from zgo_imp zT59_ok (cut := fun pc => Nat.beq pc 6 || Nat.beq pc 19 || Nat.beq pc 22 || Nat.beq pc 25) 400 (show (zAr w (0 : Int) ∧ 0 ≤ c ∧ c < 12) ∧ (zwp 240 6 [(2, 93), (0, c)] [(0, zNb (zfw w (0 : Int).toNat) (w 95 (0 : Int).toNat) c)] w 238 0 K) from zmA (fun h => (fun h => show zwp 240 6 [(2, 93), (0, c)] [(0, zNb (zfw w (0 : Int).toNat) (w 95 (0 : Int).toNat) c)] w 238 0 K from zgo_imp zT59_ok (cut := fun pc => Nat.beq pc 6 || Nat.beq pc 19 || Nat.beq pc 22 || Nat.beq pc 25) 400 (show if zNb (zfw w (0 : Int).toNat) (w 95 (0 : Int).toNat) c = 0 then K (0, some (0, 2)) w 238 else zwp 240 19 [(2, 93), (0, c)] [(0, c), (0, 0), (2, 93), (0, c), (0, 0), (2, 93)] w 238 0 K from zmI (fun h => h) (fun h => (fun h => show zwp 240 19 [(2, 93), (0, c)] [(0, c), (0, 0), (2, 93), (0, c), (0, 0), (2, 93)] w 238 0 K from zgo_imp zT59_ok (cut := fun pc => Nat.beq pc 6 || Nat.beq pc 19 || Nat.beq pc 22 || Nat.beq pc 25) 400 (show (zAr w (0 : Int) ∧ 0 ≤ c ∧ c < 12) ∧ (zwp 240 22 [(2, 93), (0, c)] [(0, zFs (zfw w (0 : Int).toNat) (w 95 (0 : Int).toNat) c), (0, c), (0, 0), (2, 93)] w 238 0 K) from zmA (fun h => (fun h => show zwp 240 22 [(2, 93), (0, c)] [(0, zFs (zfw w (0 : Int).toNat) (w 95 (0 : Int).toNat) c), (0, c), (0, 0), (2, 93)] w 238 0 K from zgo_imp zT59_ok (cut := fun pc => Nat.beq pc 6 || Nat.beq pc 19 || Nat.beq pc 22 || Nat.beq pc 25) 400 (show (zAr w (0 : Int) ∧ 0 ≤ c ∧ c < 12) ∧ (zwp 240 25 [(2, 93), (0, c)] [(0, zAh (zfw w (0 : Int).toNat) (w 95 (0 : Int).toNat) c (zFs (zfw w (0 : Int).toNat) (w 95 (0 : Int).toNat) c))] w 238 0 K) from zmA (fun h => (fun h => show zwp 240 25 [(2, 93), (0, c)] [(0, zAh (zfw w (0 : Int).toNat) (w 95 (0 : Int).toNat) c (zFs (zfw w (0 : Int).toNat) (w 95 (0 : Int).toNat) c))] w 238 0 K from zgo_imp zT59_ok (cut := fun pc => Nat.beq pc 6 || Nat.beq pc 19 || Nat.beq pc 22 || Nat.beq pc 25) 400 (show if zAh (zfw w (0 : Int).toNat) (w 95 (0 : Int).toNat) c (zFs (zfw w (0 : Int).toNat) (w 95 (0 : Int).toNat) c) = (-1) then K (0, some (0, 1)) w 238 else K (0, some (0, 0)) w 238 from h)) h) h)) h) h)) h) h)) h) h)) ?_
  obtain ⟨hN, hc⟩ := hg
  have hn := hN.n
  have hA := hN.ar
  refine ⟨⟨hA, by omega, by omega⟩, ?_⟩
  by_cases q : zNb (zF0 w) (w 95 0) c = 0
  · exact ziT q (zKe h (by unfold zKd; rw [if_pos q]))
  · refine ziF q ⟨⟨hA, by omega, by omega⟩, ⟨hA, by omega, by omega⟩, ?_⟩
    by_cases q2 : zAh (zF0 w) (w 95 0) c (zFs (zF0 w) (w 95 0) c) = -1
    · exact ziT q2 (zKe h (by unfold zKd; rw [if_neg q, if_pos q2]))
    · exact ziF q2 (zKe h (by unfold zKd; rw [if_neg q, if_neg q2]))
noncomputable def zb240 (l0 : List zV) (w : zW) (K : zK) : Prop := cond (zpe (zar l0 0) 93) (zA l0 1 fun c => (zNt w ∧ 0 ≤ c ∧ c < w 95 0) ∧ (K (0, some (0, zKd (zF0 w) (w 95 0) c)) (w) 238)) (False)
noncomputable def zT60 : zSum := zsm1 240 [2, 0] zb240 zT59
theorem zT60_ok : zSok zT60 := zsm1_ok zT59_ok fun l0 w K h => by
  unfold zb240 at h
  cases q0 : zpe (zar l0 0) 93 with
  | true =>
    rw [q0, cond_true] at h
    have e : zar l0 0 = 93 := zpe_e q0
    show zcall 240 [(2, zar l0 0), (0, zar l0 1)] w 238 K
    rw [e]
    exact zk240_93 (zar l0 1) w K (zA_e h)
  | false =>
  rw [q0, cond_false] at h
  exact h.elim
set_option maxRecDepth 100000 in
theorem zk252_L7 {w : zW} {K : zK} (hN : zNt w) (c : Int) (hc : 0 ≤ c ∧ c < w 95 0) (hk : zKd (zF0 w) (w 95 0) c = 1)  : ∀ (m : Nat) (i a : Int), (0 ≤ i) → (i + m = zNb (zF0 w) (w 95 0) c - 1) → (a = zrw (zF0 w) (w 95 0) c i) → (K (0, some (0, zLst (zF0 w) (w 95 0) c)) w 238) → zwp 252 7 [(2, 93), (0, c), (0, a)] [] w 238 0 K := by
  
  intro m
  induction m with
  | zero =>
    intro i a  h1 h2 h3 h
    refine (show (((0 ≤ (0 : Int) ∧ (0 : Int) < 3) ∧ (0 ≤ c ∧ c < 12) ∧ (0 ≤ a ∧ a < 12)) ∧ (if zfw w (0 : Int).toNat c a = (-1) then K (0, some (0, a)) w 238 else ((0 ≤ (0 : Int) ∧ (0 : Int) < 3) ∧ (0 ≤ c ∧ c < 12) ∧ (0 ≤ a ∧ a < 12)) ∧ (zwp 252 7 [(2, 93), (0, c), (0, zfw w (0 : Int).toNat c a)] [] w 238 0 K))) → _ from fun h => show zwp 252 7 [(2, 93), (0, c), (0, a)] [] w 238 0 K from zgo_imp zT60_ok (cut := fun pc => Nat.beq pc 6 || Nat.beq pc 7 || Nat.beq pc 14 || Nat.beq pc 25) 400 (show ((0 ≤ (0 : Int) ∧ (0 : Int) < 3) ∧ (0 ≤ c ∧ c < 12) ∧ (0 ≤ a ∧ a < 12)) ∧ (zwp 252 14 [(2, 93), (0, c), (0, a)] [(0, zfw w (0 : Int).toNat c a)] w 238 0 K) from zmA (fun h => (fun h => show zwp 252 14 [(2, 93), (0, c), (0, a)] [(0, zfw w (0 : Int).toNat c a)] w 238 0 K from zgo_imp zT60_ok (cut := fun pc => Nat.beq pc 6 || Nat.beq pc 7 || Nat.beq pc 14 || Nat.beq pc 25) 400 (show if zfw w (0 : Int).toNat c a = (-1) then K (0, some (0, a)) w 238 else ((0 ≤ (0 : Int) ∧ (0 : Int) < 3) ∧ (0 ≤ c ∧ c < 12) ∧ (0 ≤ a ∧ a < 12)) ∧ (zwp 252 25 [(2, 93), (0, c), (0, a)] [(0, zfw w (0 : Int).toNat c a)] w 238 0 K) from zmI (fun h => h) (fun h => zmA (fun h => (fun h => show zwp 252 25 [(2, 93), (0, c), (0, a)] [(0, zfw w (0 : Int).toNat c a)] w 238 0 K from zgo_imp zT60_ok (cut := fun pc => Nat.beq pc 6 || Nat.beq pc 7 || Nat.beq pc 14 || Nat.beq pc 25) 400 (show zwp 252 7 [(2, 93), (0, c), (0, zfw w (0 : Int).toNat c a)] [] w 238 0 K from h)) h) h) h)) h) h)) ?_
    have hn := hN.n
    obtain ⟨r0, r1, r2, _⟩ := hN.rw c hc.1 hc.2
    have hp := (zKd1 hk).1
    have g := r1 i h1 (by omega)
    have e := r2 (by omega)
    rw [if_neg (by omega), show zNb (zF0 w) (w 95 0) c = i + 1 by omega, zrw_succ _ _ _ _ h1, ← h3] at e
    rw [← h3] at g
    refine ⟨⟨by omega, by omega, by omega⟩, ziT e (zKe h ?_)⟩
    unfold zLst
    rw [h3, show zNb (zF0 w) (w 95 0) c - 1 = i by omega]
  | succ m ih =>
    intro i a  h1 h2 h3 h
    refine (show (((0 ≤ (0 : Int) ∧ (0 : Int) < 3) ∧ (0 ≤ c ∧ c < 12) ∧ (0 ≤ a ∧ a < 12)) ∧ (if zfw w (0 : Int).toNat c a = (-1) then K (0, some (0, a)) w 238 else ((0 ≤ (0 : Int) ∧ (0 : Int) < 3) ∧ (0 ≤ c ∧ c < 12) ∧ (0 ≤ a ∧ a < 12)) ∧ (zwp 252 7 [(2, 93), (0, c), (0, zfw w (0 : Int).toNat c a)] [] w 238 0 K))) → _ from fun h => show zwp 252 7 [(2, 93), (0, c), (0, a)] [] w 238 0 K from zgo_imp zT60_ok (cut := fun pc => Nat.beq pc 6 || Nat.beq pc 7 || Nat.beq pc 14 || Nat.beq pc 25) 400 (show ((0 ≤ (0 : Int) ∧ (0 : Int) < 3) ∧ (0 ≤ c ∧ c < 12) ∧ (0 ≤ a ∧ a < 12)) ∧ (zwp 252 14 [(2, 93), (0, c), (0, a)] [(0, zfw w (0 : Int).toNat c a)] w 238 0 K) from zmA (fun h => (fun h => show zwp 252 14 [(2, 93), (0, c), (0, a)] [(0, zfw w (0 : Int).toNat c a)] w 238 0 K from zgo_imp zT60_ok (cut := fun pc => Nat.beq pc 6 || Nat.beq pc 7 || Nat.beq pc 14 || Nat.beq pc 25) 400 (show if zfw w (0 : Int).toNat c a = (-1) then K (0, some (0, a)) w 238 else ((0 ≤ (0 : Int) ∧ (0 : Int) < 3) ∧ (0 ≤ c ∧ c < 12) ∧ (0 ≤ a ∧ a < 12)) ∧ (zwp 252 25 [(2, 93), (0, c), (0, a)] [(0, zfw w (0 : Int).toNat c a)] w 238 0 K) from zmI (fun h => h) (fun h => zmA (fun h => (fun h => show zwp 252 25 [(2, 93), (0, c), (0, a)] [(0, zfw w (0 : Int).toNat c a)] w 238 0 K from zgo_imp zT60_ok (cut := fun pc => Nat.beq pc 6 || Nat.beq pc 7 || Nat.beq pc 14 || Nat.beq pc 25) 400 (show zwp 252 7 [(2, 93), (0, c), (0, zfw w (0 : Int).toNat c a)] [] w 238 0 K from h)) h) h) h)) h) h)) ?_
    have hn := hN.n
    obtain ⟨r0, r1, r2, _⟩ := hN.rw c hc.1 hc.2
    have g := r1 i h1 (by omega)
    have g2 := r1 (i + 1) (by omega) (by omega)
    rw [zrw_succ _ _ _ _ h1, ← h3] at g2
    rw [← h3] at g
    refine ⟨⟨by omega, by omega, by omega⟩, ziF (by show ¬ zF0 w c a = -1; omega) ⟨⟨by omega, by omega, by omega⟩, ?_⟩⟩
    exact ih (i + 1) _ (by omega) (by omega) (by rw [zrw_succ _ _ _ _ h1, ← h3]; rfl) h
/-! Model.lastOf -/
set_option maxRecDepth 100000 in
theorem zk252_93 (c : Int) (w : zW) (K : zK) (h : (zNt w ∧ (0 ≤ c ∧ c < w 95 0) ∧ zKd (zF0 w) (w 95 0) c = 1) ∧ (K (0, some (0, zLst (zF0 w) (w 95 0) c)) (w) 238)) : zcall 252 [(2, 93), (0, c), (9, 0)] w 238 K := by
  obtain ⟨hg, h⟩ := h
  refine (show ((zAr w (0 : Int) ∧ 0 ≤ c ∧ c < 12) ∧ (zwp 252 7 [(2, 93), (0, c), (0, zFs (zfw w (0 : Int).toNat) (w 95 (0 : Int).toNat) c)] [] w 238 0 K)) → _ from fun h => show zwp 252 0 [(2, 93), (0, c), (9, 0)] [] w 238 0 K from zgo_imp zT60_ok (cut := fun pc => Nat.beq pc 6 || Nat.beq pc 7 || Nat.beq pc 14 || Nat.beq pc 25) 400 (show (zAr w (0 : Int) ∧ 0 ≤ c ∧ c < 12) ∧ (zwp 252 6 [(2, 93), (0, c), (9, 0)] [(0, zFs (zfw w (0 : Int).toNat) (w 95 (0 : Int).toNat) c)] w 238 0 K) from zmA (fun h => (fun h => show zwp 252 6 [(2, 93), (0, c), (9, 0)] [(0, zFs (zfw w (0 : Int).toNat) (w 95 (0 : Int).toNat) c)] w 238 0 K from zgo_imp zT60_ok (cut := fun pc => Nat.beq pc 6 || Nat.beq pc 7 || Nat.beq pc 14 || Nat.beq pc 25) 400 (show zwp 252 7 [(2, 93), (0, c), (0, zFs (zfw w (0 : Int).toNat) (w 95 (0 : Int).toNat) c)] [] w 238 0 K from h)) h) h)) ?_
  obtain ⟨hN, hc, hk⟩ := hg
  have hn := hN.n
  have hp := (zKd1 hk).1
  have hp2 := zNb_rg (zF0 w) c hn.2.1
  refine ⟨⟨hN.ar, by omega, by omega⟩, ?_⟩
  exact zk252_L7 hN c hc hk (zNb (zF0 w) (w 95 0) c - 1).toNat 0 _ (by omega) (by omega) rfl h
noncomputable def zb252 (l0 : List zV) (w : zW) (K : zK) : Prop := cond (zpe (zar l0 0) 93) (zA l0 1 fun c => (zNt w ∧ (0 ≤ c ∧ c < w 95 0) ∧ zKd (zF0 w) (w 95 0) c = 1) ∧ (K (0, some (0, zLst (zF0 w) (w 95 0) c)) (w) 238)) (False)
noncomputable def zT61 : zSum := zsm1 252 [2, 0, 9] zb252 zT60
theorem zT61_ok : zSok zT61 := zsm1_ok zT60_ok fun l0 w K h => by
  unfold zb252 at h
  cases q0 : zpe (zar l0 0) 93 with
  | true =>
    rw [q0, cond_true] at h
    have e : zar l0 0 = 93 := zpe_e q0
    show zcall 252 [(2, zar l0 0), (0, zar l0 1), (9, 0)] w 238 K
    rw [e]
    exact zk252_93 (zar l0 1) w K (zA_e h)
  | false =>
  rw [q0, cond_false] at h
  exact h.elim
set_option maxRecDepth 100000 in
theorem zk253_L19 {w : zW} {K : zK} (hN : zNt w) (c : Int) (hc : 0 ≤ c ∧ c < w 95 0) (hk : zKd (zF0 w) (w 95 0) c = 1)  : ∀ (m : Nat) (i a : Int), (0 ≤ i ∧ i ≤ 100) → (i + m ≤ 100) → (a = zIt (zLst (zF0 w) (w 95 0)) i.toNat c) → (zFi (fun j => zIt (zLst (zF0 w) (w 95 0)) j.toNat c = c) m i ≠ -1) → (K (0, some (0, zFi (fun j => zIt (zLst (zF0 w) (w 95 0)) j.toNat c = c) m i)) w 238) → zwp 253 19 [(2, 93), (0, c), (0, i), (0, a)] [] w 238 0 K := by
  
  intro m
  induction m with
  | zero =>
    intro i a  h1 h2 h3 h4 h
    refine (show (if a = c then K (0, some (0, i)) w 238 else (zNt w ∧ (0 ≤ a ∧ a < w 95 0) ∧ zKd (zF0 w) (w 95 0) a = 1) ∧ (zwp 253 19 [(2, 93), (0, c), (0, z32 (i + 1)), (0, zLst (zF0 w) (w 95 0) a)] [] w 238 0 K)) → _ from fun h => show zwp 253 19 [(2, 93), (0, c), (0, i), (0, a)] [] w 238 0 K from zgo_imp zT61_ok (cut := fun pc => Nat.beq pc 5 || Nat.beq pc 18 || Nat.beq pc 19 || Nat.beq pc 32) 400 (show if a = c then K (0, some (0, i)) w 238 else (zNt w ∧ (0 ≤ a ∧ a < w 95 0) ∧ zKd (zF0 w) (w 95 0) a = 1) ∧ (zwp 253 32 [(2, 93), (0, c), (0, z32 (i + 1)), (0, a)] [(0, zLst (zF0 w) (w 95 0) a)] w 238 0 K) from zmI (fun h => h) (fun h => zmA (fun h => (fun h => show zwp 253 32 [(2, 93), (0, c), (0, z32 (i + 1)), (0, a)] [(0, zLst (zF0 w) (w 95 0) a)] w 238 0 K from zgo_imp zT61_ok (cut := fun pc => Nat.beq pc 5 || Nat.beq pc 18 || Nat.beq pc 19 || Nat.beq pc 32) 400 (show zwp 253 19 [(2, 93), (0, c), (0, z32 (i + 1)), (0, zLst (zF0 w) (w 95 0) a)] [] w 238 0 K from h)) h) h) h)) ?_
    exact (h4 rfl).elim
  | succ m ih =>
    intro i a  h1 h2 h3 h4 h
    refine (show (if a = c then K (0, some (0, i)) w 238 else (zNt w ∧ (0 ≤ a ∧ a < w 95 0) ∧ zKd (zF0 w) (w 95 0) a = 1) ∧ (zwp 253 19 [(2, 93), (0, c), (0, z32 (i + 1)), (0, zLst (zF0 w) (w 95 0) a)] [] w 238 0 K)) → _ from fun h => show zwp 253 19 [(2, 93), (0, c), (0, i), (0, a)] [] w 238 0 K from zgo_imp zT61_ok (cut := fun pc => Nat.beq pc 5 || Nat.beq pc 18 || Nat.beq pc 19 || Nat.beq pc 32) 400 (show if a = c then K (0, some (0, i)) w 238 else (zNt w ∧ (0 ≤ a ∧ a < w 95 0) ∧ zKd (zF0 w) (w 95 0) a = 1) ∧ (zwp 253 32 [(2, 93), (0, c), (0, z32 (i + 1)), (0, a)] [(0, zLst (zF0 w) (w 95 0) a)] w 238 0 K) from zmI (fun h => h) (fun h => zmA (fun h => (fun h => show zwp 253 32 [(2, 93), (0, c), (0, z32 (i + 1)), (0, a)] [(0, zLst (zF0 w) (w 95 0) a)] w 238 0 K from zgo_imp zT61_ok (cut := fun pc => Nat.beq pc 5 || Nat.beq pc 18 || Nat.beq pc 19 || Nat.beq pc 32) 400 (show zwp 253 19 [(2, 93), (0, c), (0, z32 (i + 1)), (0, zLst (zF0 w) (w 95 0) a)] [] w 238 0 K from h)) h) h) h)) ?_
    obtain ⟨l0, l1, l2⟩ := zLst_it hN.tab hN.rw hc.1 hc.2 hk i.toNat
    rw [← h3] at l0 l1 l2
    have e : zFi (fun j => zIt (zLst (zF0 w) (w 95 0)) j.toNat c = c) (m + 1) i = if zIt (zLst (zF0 w) (w 95 0)) i.toNat c = c then i else zFi (fun j => zIt (zLst (zF0 w) (w 95 0)) j.toNat c = c) m (i + 1) := rfl
    rw [z32_id (x := i + 1) ⟨by omega, by omega⟩]
    by_cases q : a = c
    · rw [e.trans (if_pos (h3.symm.trans q))] at h
      exact ziT q h
    · rw [e.trans (if_neg (fun q2 => q (h3.trans q2)))] at h h4
      refine ziF q ⟨⟨hN, ⟨l0, l1⟩, l2⟩, ih _ _ (by omega) (by omega) ?_ h4 h⟩
      rw [show (i + 1).toNat = i.toNat + 1 by omega, zIt_succ, ← h3]
/-! Model.borderSize -/
set_option maxRecDepth 100000 in
theorem zk253_93 (c : Int) (w : zW) (K : zK) (h : (zNt w ∧ (0 ≤ c ∧ c < w 95 0)) ∧ (K (0, some (0, zBd (zF0 w) (w 95 0) c)) (w) 238)) : zcall 253 [(2, 93), (0, c), (9, 0), (9, 0)] w 238 K := by
  obtain ⟨hg, h⟩ := h
  refine (show ((zNt w ∧ 0 ≤ c ∧ c < w 95 0) ∧ (if zKd (zF0 w) (w 95 0) c = 1 then (zNt w ∧ (0 ≤ c ∧ c < w 95 0) ∧ zKd (zF0 w) (w 95 0) c = 1) ∧ (zwp 253 19 [(2, 93), (0, c), (0, 1), (0, zLst (zF0 w) (w 95 0) c)] [] w 238 0 K) else K (0, some (0, 0)) w 238)) → _ from fun h => show zwp 253 0 [(2, 93), (0, c), (9, 0), (9, 0)] [] w 238 0 K from zgo_imp zT61_ok (cut := fun pc => Nat.beq pc 5 || Nat.beq pc 18 || Nat.beq pc 19 || Nat.beq pc 32) 400 (show (zNt w ∧ 0 ≤ c ∧ c < w 95 0) ∧ (zwp 253 5 [(2, 93), (0, c), (9, 0), (9, 0)] [(0, zKd (zF0 w) (w 95 0) c)] w 238 0 K) from zmA (fun h => (fun h => show zwp 253 5 [(2, 93), (0, c), (9, 0), (9, 0)] [(0, zKd (zF0 w) (w 95 0) c)] w 238 0 K from zgo_imp zT61_ok (cut := fun pc => Nat.beq pc 5 || Nat.beq pc 18 || Nat.beq pc 19 || Nat.beq pc 32) 400 (show if zKd (zF0 w) (w 95 0) c = 1 then (zNt w ∧ (0 ≤ c ∧ c < w 95 0) ∧ zKd (zF0 w) (w 95 0) c = 1) ∧ (zwp 253 18 [(2, 93), (0, c), (0, 1), (9, 0)] [(0, zLst (zF0 w) (w 95 0) c)] w 238 0 K) else K (0, some (0, 0)) w 238 from zmI (fun h => zmA (fun h => (fun h => show zwp 253 18 [(2, 93), (0, c), (0, 1), (9, 0)] [(0, zLst (zF0 w) (w 95 0) c)] w 238 0 K from zgo_imp zT61_ok (cut := fun pc => Nat.beq pc 5 || Nat.beq pc 18 || Nat.beq pc 19 || Nat.beq pc 32) 400 (show zwp 253 19 [(2, 93), (0, c), (0, 1), (0, zLst (zF0 w) (w 95 0) c)] [] w 238 0 K from h)) h) h) (fun h => h) h)) h) h)) ?_
  obtain ⟨hN, hc⟩ := hg
  refine ⟨⟨hN, hc⟩, ?_⟩
  by_cases hk : zKd (zF0 w) (w 95 0) c = 1
  · have hb := zBd_ok hN.tab hN.rw hc.1 hc.2 hk
    refine ziT hk ⟨⟨hN, hc, hk⟩, ?_⟩
    refine zk253_L19 hN c hc hk 12 1 _ (by omega) (by omega) rfl hb.1 (zKe h ?_)
    unfold zBd; rw [if_pos hk]
  · exact ziF hk (zKe h (by unfold zBd; rw [if_neg hk]))
noncomputable def zb253 (l0 : List zV) (w : zW) (K : zK) : Prop := cond (zpe (zar l0 0) 93) (zA l0 1 fun c => (zNt w ∧ (0 ≤ c ∧ c < w 95 0)) ∧ (K (0, some (0, zBd (zF0 w) (w 95 0) c)) (w) 238)) (False)
noncomputable def zT62 : zSum := zsm1 253 [2, 0, 9, 9] zb253 zT61
theorem zT62_ok : zSok zT62 := zsm1_ok zT61_ok fun l0 w K h => by
  unfold zb253 at h
  cases q0 : zpe (zar l0 0) 93 with
  | true =>
    rw [q0, cond_true] at h
    have e : zar l0 0 = 93 := zpe_e q0
    show zcall 253 [(2, zar l0 0), (0, zar l0 1), (9, 0), (9, 0)] w 238 K
    rw [e]
    exact zk253_93 (zar l0 1) w K (zA_e h)
  | false =>
  rw [q0, cond_false] at h
  exact h.elim
set_option maxRecDepth 100000 in
theorem zk254_L38 {w : zW} {K : zK} (hN : zNt w) (c j : Int) (hc : 0 ≤ c ∧ c < w 95 0) (hk : zKd (zF0 w) (w 95 0) c = 1) (hj : j ≤ 12)  : ∀ (m : Nat) (i a : Int) (d1 : zV), (0 ≤ i) → (i + m = j) → (a = zIt (zLst (zF0 w) (w 95 0)) i.toNat c) → (K (0, some (0, zIt (zLst (zF0 w) (w 95 0)) j.toNat c)) w 238) → zwp 254 38 [(2, 93), d1, (0, j), (0, a), (0, i)] [] w 238 0 K := by
  
  intro m
  induction m with
  | zero =>
    intro i a d1 h1 h2 h3 h
    refine (show (if i < j then (zNt w ∧ (0 ≤ a ∧ a < w 95 0) ∧ zKd (zF0 w) (w 95 0) a = 1) ∧ (zwp 254 38 [(2, 93), (9, 0), (0, j), (0, zLst (zF0 w) (w 95 0) a), (0, z32 (i + 1))] [] w 238 0 K) else K (0, some (0, a)) w 238) → _ from fun h => show zwp 254 38 [(2, 93), d1, (0, j), (0, a), (0, i)] [] w 238 0 K from zgo_imp zT62_ok (cut := fun pc => Nat.beq pc 6 || Nat.beq pc 9 || Nat.beq pc 22 || Nat.beq pc 28 || Nat.beq pc 38 || Nat.beq pc 41 || Nat.beq pc 49) 400 (show zwp 254 41 [(2, 93), (9, 0), (0, j), (0, a), (0, i)] [(0, j), (0, i)] w 238 0 K from (fun h => show zwp 254 41 [(2, 93), (9, 0), (0, j), (0, a), (0, i)] [(0, j), (0, i)] w 238 0 K from zgo_imp zT62_ok (cut := fun pc => Nat.beq pc 6 || Nat.beq pc 9 || Nat.beq pc 22 || Nat.beq pc 28 || Nat.beq pc 38 || Nat.beq pc 41 || Nat.beq pc 49) 400 (show if i < j then (zNt w ∧ (0 ≤ a ∧ a < w 95 0) ∧ zKd (zF0 w) (w 95 0) a = 1) ∧ (zwp 254 49 [(2, 93), (9, 0), (0, j), (0, a), (0, i)] [(0, zLst (zF0 w) (w 95 0) a)] w 238 0 K) else K (0, some (0, a)) w 238 from zmI (fun h => zmA (fun h => (fun h => show zwp 254 49 [(2, 93), (9, 0), (0, j), (0, a), (0, i)] [(0, zLst (zF0 w) (w 95 0) a)] w 238 0 K from zgo_imp zT62_ok (cut := fun pc => Nat.beq pc 6 || Nat.beq pc 9 || Nat.beq pc 22 || Nat.beq pc 28 || Nat.beq pc 38 || Nat.beq pc 41 || Nat.beq pc 49) 400 (show zwp 254 38 [(2, 93), (9, 0), (0, j), (0, zLst (zF0 w) (w 95 0) a), (0, z32 (i + 1))] [] w 238 0 K from h)) h) h) (fun h => h) h)) h)) ?_
    refine ziF (by omega) (zKe h ?_)
    rw [h3, show i = j by omega]
  | succ m ih =>
    intro i a d1 h1 h2 h3 h
    refine (show (if i < j then (zNt w ∧ (0 ≤ a ∧ a < w 95 0) ∧ zKd (zF0 w) (w 95 0) a = 1) ∧ (zwp 254 38 [(2, 93), (9, 0), (0, j), (0, zLst (zF0 w) (w 95 0) a), (0, z32 (i + 1))] [] w 238 0 K) else K (0, some (0, a)) w 238) → _ from fun h => show zwp 254 38 [(2, 93), d1, (0, j), (0, a), (0, i)] [] w 238 0 K from zgo_imp zT62_ok (cut := fun pc => Nat.beq pc 6 || Nat.beq pc 9 || Nat.beq pc 22 || Nat.beq pc 28 || Nat.beq pc 38 || Nat.beq pc 41 || Nat.beq pc 49) 400 (show zwp 254 41 [(2, 93), (9, 0), (0, j), (0, a), (0, i)] [(0, j), (0, i)] w 238 0 K from (fun h => show zwp 254 41 [(2, 93), (9, 0), (0, j), (0, a), (0, i)] [(0, j), (0, i)] w 238 0 K from zgo_imp zT62_ok (cut := fun pc => Nat.beq pc 6 || Nat.beq pc 9 || Nat.beq pc 22 || Nat.beq pc 28 || Nat.beq pc 38 || Nat.beq pc 41 || Nat.beq pc 49) 400 (show if i < j then (zNt w ∧ (0 ≤ a ∧ a < w 95 0) ∧ zKd (zF0 w) (w 95 0) a = 1) ∧ (zwp 254 49 [(2, 93), (9, 0), (0, j), (0, a), (0, i)] [(0, zLst (zF0 w) (w 95 0) a)] w 238 0 K) else K (0, some (0, a)) w 238 from zmI (fun h => zmA (fun h => (fun h => show zwp 254 49 [(2, 93), (9, 0), (0, j), (0, a), (0, i)] [(0, zLst (zF0 w) (w 95 0) a)] w 238 0 K from zgo_imp zT62_ok (cut := fun pc => Nat.beq pc 6 || Nat.beq pc 9 || Nat.beq pc 22 || Nat.beq pc 28 || Nat.beq pc 38 || Nat.beq pc 41 || Nat.beq pc 49) 400 (show zwp 254 38 [(2, 93), (9, 0), (0, j), (0, zLst (zF0 w) (w 95 0) a), (0, z32 (i + 1))] [] w 238 0 K from h)) h) h) (fun h => h) h)) h)) ?_
    obtain ⟨l0, l1, l2⟩ := zLst_it hN.tab hN.rw hc.1 hc.2 hk i.toNat
    rw [← h3] at l0 l1 l2
    rw [z32_id (x := i + 1) ⟨by omega, by omega⟩]
    refine ziT (by omega) ⟨⟨hN, ⟨l0, l1⟩, l2⟩, ih _ _ _ (by omega) (by omega) ?_ h⟩
    rw [show (i + 1).toNat = i.toNat + 1 by omega, zIt_succ, ← h3]
set_option maxRecDepth 100000 in
theorem zk255_L26 {w : zW} {K : zK} (hN : zNt w) (hr : zRd 98 w) (c b : Int) (hc : 0 ≤ c ∧ c < w 95 0) (hk : zKd (zF0 w) (w 95 0) c = 1 ∨ b = 0) (hj : b ≤ 12)  : ∀ (m : Nat) (i a s : Int) (d1 d3 d6 : zV), (0 ≤ b - i) → (i = m) → (a = zIt (zLst (zF0 w) (w 95 0)) (b - i).toNat c) → (0 ≤ s) → (s ≤ (b - i) * 2000000) → (K (0, some (1, s + zSm (fun k => w 98 (zIt (zLst (zF0 w) (w 95 0)) k.toNat c).toNat + w 98 (zIt (zLst (zF0 w) (w 95 0)) (k + 1).toNat c).toNat) m (b - i))) w 238) → zwp 255 26 [(2, 93), d1, (1, s), d3, (0, a), (0, i), d6] [] w 238 0 K := by
  
  intro m
  induction m with
  | zero =>
    intro i a s d1 d3 d6 h1 h2 h3 h4 h5 h
    refine (show (if 0 < i then (zNt w ∧ (0 ≤ a ∧ a < w 95 0) ∧ zKd (zF0 w) (w 95 0) a = 1) ∧ (zif False (0 ≤ a ∧ a < 36) (zif False (0 ≤ zLst (zF0 w) (w 95 0) a ∧ zLst (zF0 w) (w 95 0) a < 36) (zwp 255 26 [(2, 93), (9, 0), (1, z64 (s + (z32 ((w 98 a.toNat) + (w 98 (zLst (zF0 w) (w 95 0) a).toNat))))), (9, 0), (0, zLst (zF0 w) (w 95 0) a), (0, z32 (i + (-1))), (0, zLst (zF0 w) (w 95 0) a)] [] w 238 0 K))) else K (0, some (1, s)) w 238) → _ from fun h => show zwp 255 26 [(2, 93), d1, (1, s), d3, (0, a), (0, i), d6] [] w 238 0 K from zgo_imp zT62_ok (cut := fun pc => Nat.beq pc 6 || Nat.beq pc 9 || Nat.beq pc 21 || Nat.beq pc 24 || Nat.beq pc 26 || Nat.beq pc 37 || Nat.beq pc 53 || Nat.beq pc 68) 400 (show if 0 < i then (zNt w ∧ (0 ≤ a ∧ a < w 95 0) ∧ zKd (zF0 w) (w 95 0) a = 1) ∧ (zwp 255 37 [(2, 93), (9, 0), (1, s), (9, 0), (0, a), (0, i), (9, 0)] [(0, zLst (zF0 w) (w 95 0) a)] w 238 0 K) else zwp 255 68 [(2, 93), (9, 0), (1, s), (9, 0), (0, a), (0, i), (9, 0)] [] w 238 0 K from zmI (fun h => zmA (fun h => (fun h => show zwp 255 37 [(2, 93), (9, 0), (1, s), (9, 0), (0, a), (0, i), (9, 0)] [(0, zLst (zF0 w) (w 95 0) a)] w 238 0 K from zgo_imp zT62_ok (cut := fun pc => Nat.beq pc 6 || Nat.beq pc 9 || Nat.beq pc 21 || Nat.beq pc 24 || Nat.beq pc 26 || Nat.beq pc 37 || Nat.beq pc 53 || Nat.beq pc 68) 400 (show zif False (0 ≤ a ∧ a < 36) (zwp 255 53 [(2, 93), (9, 0), (1, s), (9, 0), (0, a), (0, i), (0, zLst (zF0 w) (w 95 0) a)] [(0, zLst (zF0 w) (w 95 0) a), (2, 98), (0, w 98 a.toNat), (1, s)] w 238 0 K) from zmZ (fun h => (fun h => show zwp 255 53 [(2, 93), (9, 0), (1, s), (9, 0), (0, a), (0, i), (0, zLst (zF0 w) (w 95 0) a)] [(0, zLst (zF0 w) (w 95 0) a), (2, 98), (0, w 98 a.toNat), (1, s)] w 238 0 K from zgo_imp zT62_ok (cut := fun pc => Nat.beq pc 6 || Nat.beq pc 9 || Nat.beq pc 21 || Nat.beq pc 24 || Nat.beq pc 26 || Nat.beq pc 37 || Nat.beq pc 53 || Nat.beq pc 68) 400 (show zif False (0 ≤ zLst (zF0 w) (w 95 0) a ∧ zLst (zF0 w) (w 95 0) a < 36) (zwp 255 26 [(2, 93), (9, 0), (1, z64 (s + (z32 ((w 98 a.toNat) + (w 98 (zLst (zF0 w) (w 95 0) a).toNat))))), (9, 0), (0, zLst (zF0 w) (w 95 0) a), (0, z32 (i + (-1))), (0, zLst (zF0 w) (w 95 0) a)] [] w 238 0 K) from h)) h) h)) h) h) (fun h => (fun h => show zwp 255 68 [(2, 93), (9, 0), (1, s), (9, 0), (0, a), (0, i), (9, 0)] [] w 238 0 K from zgo_imp zT62_ok (cut := fun pc => Nat.beq pc 6 || Nat.beq pc 9 || Nat.beq pc 21 || Nat.beq pc 24 || Nat.beq pc 26 || Nat.beq pc 37 || Nat.beq pc 53 || Nat.beq pc 68) 400 (show K (0, some (1, s)) w 238 from h)) h) h)) ?_
    refine ziF (by omega) (zKe h ?_)
    show s + 0 = s; omega
  | succ m ih =>
    intro i a s d1 d3 d6 h1 h2 h3 h4 h5 h
    refine (show (if 0 < i then (zNt w ∧ (0 ≤ a ∧ a < w 95 0) ∧ zKd (zF0 w) (w 95 0) a = 1) ∧ (zif False (0 ≤ a ∧ a < 36) (zif False (0 ≤ zLst (zF0 w) (w 95 0) a ∧ zLst (zF0 w) (w 95 0) a < 36) (zwp 255 26 [(2, 93), (9, 0), (1, z64 (s + (z32 ((w 98 a.toNat) + (w 98 (zLst (zF0 w) (w 95 0) a).toNat))))), (9, 0), (0, zLst (zF0 w) (w 95 0) a), (0, z32 (i + (-1))), (0, zLst (zF0 w) (w 95 0) a)] [] w 238 0 K))) else K (0, some (1, s)) w 238) → _ from fun h => show zwp 255 26 [(2, 93), d1, (1, s), d3, (0, a), (0, i), d6] [] w 238 0 K from zgo_imp zT62_ok (cut := fun pc => Nat.beq pc 6 || Nat.beq pc 9 || Nat.beq pc 21 || Nat.beq pc 24 || Nat.beq pc 26 || Nat.beq pc 37 || Nat.beq pc 53 || Nat.beq pc 68) 400 (show if 0 < i then (zNt w ∧ (0 ≤ a ∧ a < w 95 0) ∧ zKd (zF0 w) (w 95 0) a = 1) ∧ (zwp 255 37 [(2, 93), (9, 0), (1, s), (9, 0), (0, a), (0, i), (9, 0)] [(0, zLst (zF0 w) (w 95 0) a)] w 238 0 K) else zwp 255 68 [(2, 93), (9, 0), (1, s), (9, 0), (0, a), (0, i), (9, 0)] [] w 238 0 K from zmI (fun h => zmA (fun h => (fun h => show zwp 255 37 [(2, 93), (9, 0), (1, s), (9, 0), (0, a), (0, i), (9, 0)] [(0, zLst (zF0 w) (w 95 0) a)] w 238 0 K from zgo_imp zT62_ok (cut := fun pc => Nat.beq pc 6 || Nat.beq pc 9 || Nat.beq pc 21 || Nat.beq pc 24 || Nat.beq pc 26 || Nat.beq pc 37 || Nat.beq pc 53 || Nat.beq pc 68) 400 (show zif False (0 ≤ a ∧ a < 36) (zwp 255 53 [(2, 93), (9, 0), (1, s), (9, 0), (0, a), (0, i), (0, zLst (zF0 w) (w 95 0) a)] [(0, zLst (zF0 w) (w 95 0) a), (2, 98), (0, w 98 a.toNat), (1, s)] w 238 0 K) from zmZ (fun h => (fun h => show zwp 255 53 [(2, 93), (9, 0), (1, s), (9, 0), (0, a), (0, i), (0, zLst (zF0 w) (w 95 0) a)] [(0, zLst (zF0 w) (w 95 0) a), (2, 98), (0, w 98 a.toNat), (1, s)] w 238 0 K from zgo_imp zT62_ok (cut := fun pc => Nat.beq pc 6 || Nat.beq pc 9 || Nat.beq pc 21 || Nat.beq pc 24 || Nat.beq pc 26 || Nat.beq pc 37 || Nat.beq pc 53 || Nat.beq pc 68) 400 (show zif False (0 ≤ zLst (zF0 w) (w 95 0) a ∧ zLst (zF0 w) (w 95 0) a < 36) (zwp 255 26 [(2, 93), (9, 0), (1, z64 (s + (z32 ((w 98 a.toNat) + (w 98 (zLst (zF0 w) (w 95 0) a).toNat))))), (9, 0), (0, zLst (zF0 w) (w 95 0) a), (0, z32 (i + (-1))), (0, zLst (zF0 w) (w 95 0) a)] [] w 238 0 K) from h)) h) h)) h) h) (fun h => (fun h => show zwp 255 68 [(2, 93), (9, 0), (1, s), (9, 0), (0, a), (0, i), (9, 0)] [] w 238 0 K from zgo_imp zT62_ok (cut := fun pc => Nat.beq pc 6 || Nat.beq pc 9 || Nat.beq pc 21 || Nat.beq pc 24 || Nat.beq pc 26 || Nat.beq pc 37 || Nat.beq pc 53 || Nat.beq pc 68) 400 (show K (0, some (1, s)) w 238 from h)) h) h)) ?_
    have hn := hN.n
    have hk : zKd (zF0 w) (w 95 0) c = 1 := by omega
    obtain ⟨l0, l1, l2⟩ := zLst_it hN.tab hN.rw hc.1 hc.2 hk (b - i).toNat
    rw [← h3] at l0 l1 l2
    obtain ⟨p0, p1, p2, _⟩ := zLst_ok hN.tab hN.rw l0 l1 l2
    have r1 := hr a l0 l1
    have r2 := hr _ p0 p1
    have e1 : zLst (zF0 w) (w 95 0) a = zIt (zLst (zF0 w) (w 95 0)) (b - i + 1).toNat c := by
      rw [show (b - i + 1).toNat = (b - i).toNat + 1 by omega, zIt_succ, ← h3]
    refine ziT (by omega) ⟨⟨hN, ⟨l0, l1⟩, l2⟩, zifI (by omega) (zifI (by omega) ?_)⟩
    rw [z32_id (x := w 98 a.toNat + w 98 (zLst (zF0 w) (w 95 0) a).toNat) ⟨by omega, by omega⟩, z64_id (x := s + (w 98 a.toNat + w 98 (zLst (zF0 w) (w 95 0) a).toNat)) ⟨by omega, by omega⟩, z32_id (x := i + -1) ⟨by omega, by omega⟩]
    refine ih (i + -1) _ _ _ _ _ (by omega) (by omega) (by rw [show b - (i + -1) = b - i + 1 by omega]; exact e1) (by omega) (by omega) (zKe h ?_)
    show s + (w 98 (zIt (zLst (zF0 w) (w 95 0)) (b - i).toNat c).toNat + w 98 (zIt (zLst (zF0 w) (w 95 0)) (b - i + 1).toNat c).toNat + _) = _
    rw [← h3, ← e1, show b - (i + -1) = b - i + 1 by omega]; omega
