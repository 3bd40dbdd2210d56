/-! ===== the class reads: signs, numbers, statements (written by wip/whole/gen_c.py) ===== -/
theorem zII {c : Prop} [Decidable c] {a : Prop} (h : a) : if c then a else a := by split <;> exact h
def zfl (w : zW) (k : Int) : zW := zupd (zupd w 3 7 k) 3 8 (w 3 2)
def zPTf (n k b d : Int) : Prop := (0 ≤ n ∧ n ≤ 800) ∧ 0 ≤ b ∧ (k ≠ -1 → b ≤ n) ∧ (1000 ≤ d ∧ d < 1015) ∧ (d ≠ 1000 → k = 1)
/-- the class's token is in order -/
def zPT (w : zW) : Prop := zPTf (w 1 1) (w 3 1) (w 3 3) (w 3 4)
def zps (w : zW) (x : Int) : Int × zW := (if w 3 1 = x then 1 else 0, zfill w 3 (if w 3 1 = x then zad w 3 else zfl w 1 3))
def zpn (w : zW) (lo hi : Int) : Int × zW := (if w 3 1 = 2 then (if w 3 6 < lo ∨ hi < w 3 6 then 0 else 1) else 0, zfill w 3 (if w 3 1 = 2 then (if w 3 6 < lo ∨ hi < w 3 6 then zfl w 2 3 else zad w 3) else zfl w 1 3))
def zac (w : zW) (x d r : Int) : zW := zupd (zupd (zupd (zupd w 15 (w 14 0).toNat x) 16 (w 14 0).toNat d) 17 (w 14 0).toNat r) 14 0 (w 14 0 + 1)
def zads (w : zW) (a b : Int) : zW := zupd w 19 (12 * a + b).toNat (w 14 1)
def zafc (w : zW) (a b c : Int) : zW := zupd (zads (zads (zads (zupd (zupd (zupd w 18 (3 * w 14 1).toNat a) 18 (3 * w 14 1 + 1).toNat b) 18 (3 * w 14 1 + 2).toNat c) a b) b c) c a) 14 1 (w 14 1 + 1)
theorem zPT_fl {w : zW} {k : Int} (h : zPT w) : zPT (zfl w k) := h
theorem zPT_ad {w : zW} (h1 : 0 ≤ w 1 1 ∧ w 1 1 ≤ 800) (h2 : 0 ≤ w 3 3 ∧ w 3 3 ≤ w 1 1) : zPT (zad w) := by
  have ss := zst_rg (zTy (w 2) (w 1 1)) (p := w 3 3) (n := w 1 1) (by omega)
  show zPTf (w 1 1) (zkdt (zTy (w 2) (w 1 1)) (w 1 1) (zst (zTy (w 2) (w 1 1)) (w 1 1) (w 3 3)) (zTy (w 2) (w 1 1) (zst (zTy (w 2) (w 1 1)) (w 1 1) (w 3 3)))) (zbe (zTy (w 2) (w 1 1)) (w 1 1) (zst (zTy (w 2) (w 1 1)) (w 1 1) (w 3 3)) (zTy (w 2) (w 1 1) (zst (zTy (w 2) (w 1 1)) (w 1 1) (w 3 3)))) (zwo (zTy (w 2) (w 1 1)) (w 1 1) (zst (zTy (w 2) (w 1 1)) (w 1 1) (w 3 3)) (zTy (w 2) (w 1 1) (zst (zTy (w 2) (w 1 1)) (w 1 1) (w 3 3))))
  generalize zst (zTy (w 2) (w 1 1)) (w 1 1) (w 3 3) = s at ss ⊢
  have hin : zTy (w 2) (w 1 1) s ≠ -1 → s < w 1 1 := fun q => (zTy_in q).2
  generalize zTy (w 2) (w 1 1) s = c at hin ⊢
  have le := zle_rg (zTy (w 2) (w 1 1)) (n := w 1 1) (p := s) (by omega)
  have de := zde_rg (zTy (w 2) (w 1 1)) (n := w 1 1) (p := s) (by omega)
  have wr := zWd_rg (zLc (zTy (w 2) (w 1 1)) (w 1 1) s)
  unfold zPTf zkdt zbe zwo
  by_cases q1 : c = -1
  · have q2 : ¬ zlt c := by omega
    have q3 : ¬ zdg c := by omega
    simp only [if_pos q1, if_neg q2, if_neg q3]
    omega
  · have hs := hin q1
    by_cases q2 : zlt c
    · by_cases g : 8 < zle (zTy (w 2) (w 1 1)) (w 1 1) s - s
      · simp only [if_neg q1, if_pos q2, if_pos g]
        omega
      · simp only [if_neg q1, if_pos q2, if_neg g]
        exact ⟨h1, by omega, fun _ => by omega, by omega, fun _ => by first | trivial | rfl⟩
    · by_cases q3 : zdg c
      · simp only [if_neg q1, if_neg q2, if_pos q3]
        omega
      · simp only [if_neg q1, if_neg q2, if_neg q3]
        omega
theorem zPT.lin {w : zW} {n : Int} (h : zPT w) (e : w 1 1 = n) : 0 ≤ w 3 3 ∧ (w 3 1 ≠ -1 → w 3 3 ≤ n) ∧ (1000 ≤ w 3 4 ∧ w 3 4 < 1015) ∧ (w 3 4 ≠ 1000 → w 3 1 = 1) := by
  rw [← e]; exact h.2
theorem zPT.ad {w : zW} (h : zPT w) (g : w 3 1 ≠ -1) : zPT (zad w) := zPT_ad h.1 ⟨h.2.1, h.2.2.1 g⟩
theorem zPT.wd {w : zW} (h : zPT w) (g : w 3 4 ≠ 1000) : w 3 1 = 1 := h.2.2.2.2 g
theorem zPT.pre {w : zW} (h : zPT w) (g : w 3 1 ≠ -1) : (0 ≤ w 1 1 ∧ w 1 1 ≤ 800) ∧ 0 ≤ w 3 3 ∧ w 3 3 ≤ w 1 1 := ⟨h.1, h.2.1, h.2.2.1 g⟩
theorem zad_ne {w : zW} {p : Nat} (h : p ≠ 3) : zad w p = w p := by
  unfold zad zadt zadf
  rw [zune h, zune h, zune h, zune h, zune h, zune h]
theorem zfl_ne {w : zW} {p : Nat} {k : Int} (h : p ≠ 3) : zfl w k p = w p := by
  unfold zfl; rw [zune h, zune h]
theorem zfill_e {w v : zW} {p : Nat} (h : ∀ q, q ≠ p → v q = w q) : zfill w p (v p) = v := by
  funext q j
  unfold zfill
  by_cases e : q = p
  · rw [if_pos e, e]
  · rw [if_neg e, h q e]
theorem zad_fill (w : zW) : zfill w 3 (zad w 3) = zad w := zfill_e fun _ h => zad_ne h
theorem zfl_fill (w : zW) (k : Int) : zfill w 3 (zfl w k 3) = zfl w k := zfill_e fun _ h => zfl_ne h
theorem zps_ne {w : zW} {p : Nat} {x : Int} (h : p ≠ 3) : (zps w x).2 p = w p := zfill_no h
theorem zpn_ne {w : zW} {p : Nat} {x y : Int} (h : p ≠ 3) : (zpn w x y).2 p = w p := zfill_no h
theorem zps_y {w : zW} {x : Int} (h : w 3 1 = x) : zps w x = (1, zad w) := by
  unfold zps; rw [if_pos h, if_pos h, zad_fill]
theorem zps_n {w : zW} {x : Int} (h : w 3 1 ≠ x) : zps w x = (0, zfl w 1) := by
  unfold zps; rw [if_neg h, if_neg h, zfl_fill]
theorem zpn_n {w : zW} {x y : Int} (h : w 3 1 ≠ 2) : zpn w x y = (0, zfl w 1) := by
  unfold zpn; rw [if_neg h, if_neg h, zfl_fill]
theorem zpn_r {w : zW} {x y : Int} (h : w 3 1 = 2) (g : w 3 6 < x ∨ y < w 3 6) : zpn w x y = (0, zfl w 2) := by
  unfold zpn; rw [if_pos h, if_pos h, if_pos g, if_pos g, zfl_fill]
theorem zpn_y {w : zW} {x y : Int} (h : w 3 1 = 2) (g : ¬ (w 3 6 < x ∨ y < w 3 6)) : zpn w x y = (1, zad w) := by
  unfold zpn; rw [if_pos h, if_pos h, if_neg g, if_neg g, zad_fill]
theorem zps_01 (w : zW) (x : Int) : (zps w x).1 = 0 ∨ (zps w x).1 = 1 := by
  by_cases g : w 3 1 = x
  · rw [zps_y g]; exact Or.inr rfl
  · rw [zps_n g]; exact Or.inl rfl
theorem zpn_01 (w : zW) (x y : Int) : (zpn w x y).1 = 0 ∨ (zpn w x y).1 = 1 := by
  by_cases g : w 3 1 = 2
  · by_cases g2 : w 3 6 < x ∨ y < w 3 6
    · rw [zpn_r g g2]; exact Or.inl rfl
    · rw [zpn_y g g2]; exact Or.inr rfl
  · rw [zpn_n g]; exact Or.inl rfl
theorem zPT.ps {w : zW} (h : zPT w) {x : Int} (hx : x ≠ -1) : zPT (zps w x).2 := by
  by_cases g : w 3 1 = x
  · rw [zps_y g]; exact h.ad (by omega)
  · rw [zps_n g]; exact h
theorem zPT.pn {w : zW} (h : zPT w) {x y : Int} : zPT (zpn w x y).2 := by
  by_cases g : w 3 1 = 2
  · by_cases g2 : w 3 6 < x ∨ y < w 3 6
    · rw [zpn_r g g2]; exact h
    · rw [zpn_y g g2]; exact h.ad (by omega)
  · rw [zpn_n g]; exact h
noncomputable def zT172 : zSum := zin1 110 400 zT171
theorem zT172_ok : zSok zT172 := zin1_ok zT171_ok
/-! $Tokens.passSign -/
set_option maxRecDepth 100000 in
theorem zk111_3 (x : Int) (w : zW) (K : zK) (h : (zPT w ∧ x ≠ (-1 : Int)) ∧ (K (0, some (0, (zps w x).1)) ((zps w x).2) 238)) : zcall 111 [(2, 3), (0, x)] w 238 K := by
  obtain ⟨hg, h⟩ := h
  refine (show (if w 3 1 = x then ((0 ≤ w 1 1 ∧ w 1 1 ≤ 800) ∧ 0 ≤ w 3 3 ∧ w 3 3 ≤ w 1 1) ∧ (K (0, some (0, 1)) (zad w) 238) else K (0, some (0, 0)) (zupd (zupd w 3 7 1) 3 8 (w 3 2)) 238) → _ from fun h => show zwp 111 0 [(2, 3), (0, x)] [] w 238 0 K from zgo_imp zT172_ok (cut := fun pc => Nat.beq pc 13 || Nat.beq pc 18) 400 (show if w 3 1 = x then ((0 ≤ w 1 1 ∧ w 1 1 ≤ 800) ∧ 0 ≤ w 3 3 ∧ w 3 3 ≤ w 1 1) ∧ (zwp 111 18 [(2, 3), (0, x)] [] (zad w) 238 0 K) else zwp 111 13 [(2, 3), (0, x)] [(0, 0)] (zupd (zupd w 3 7 1) 3 8 (w 3 2)) 238 0 K from zmI (fun h => zmA (fun h => (fun h => show zwp 111 18 [(2, 3), (0, x)] [] (zad w) 238 0 K from zgo_imp zT172_ok (cut := fun pc => Nat.beq pc 13 || Nat.beq pc 18) 400 (show K (0, some (0, 1)) (zad w) 238 from h)) h) h) (fun h => (fun h => show zwp 111 13 [(2, 3), (0, x)] [(0, 0)] (zupd (zupd w 3 7 1) 3 8 (w 3 2)) 238 0 K from zgo_imp zT172_ok (cut := fun pc => Nat.beq pc 13 || Nat.beq pc 18) 400 (show K (0, some (0, 0)) (zupd (zupd w 3 7 1) 3 8 (w 3 2)) 238 from h)) h) h)) ?_
  by_cases g : w 3 1 = x
  · rw [zps_y g] at h
    exact ziT g ⟨hg.1.pre (by omega), h⟩
  · rw [zps_n g] at h
    exact ziF g h
noncomputable def zb111 (l0 : List zV) (w : zW) (K : zK) : Prop := cond (zpe (zar l0 0) 3) (zA l0 1 fun x => (zPT w ∧ x ≠ (-1 : Int)) ∧ (K (0, some (0, (zps w x).1)) ((zps w x).2) 238)) (False)
noncomputable def zT173 : zSum := zsm1 111 [2, 0] zb111 zT172
theorem zT173_ok : zSok zT173 := zsm1_ok zT172_ok fun l0 w K h => by
  unfold zb111 at h
  cases q0 : zpe (zar l0 0) 3 with
  | true =>
    rw [q0, cond_true] at h
    have e : zar l0 0 = 3 := zpe_e q0
    show zcall 111 [(2, zar l0 0), (0, zar l0 1)] w 238 K
    rw [e]
    exact zk111_3 (zar l0 1) w K (zA_e h)
  | false =>
  rw [q0, cond_false] at h
  exact h.elim
/-! $Tokens.passNumber -/
set_option maxRecDepth 100000 in
theorem zk112_3 (b : Int) (w : zW) (K : zK) (h : (zPT w ∧ (1000 : Int) ≤ b ∧ b < (1015 : Int)) ∧ (K (0, some (0, (zpn w (zwf 2 (b - 1000 : Int).toNat) (zwf 3 (b - 1000 : Int).toNat)).1)) ((zpn w (zwf 2 (b - 1000 : Int).toNat) (zwf 3 (b - 1000 : Int).toNat)).2) 238)) : zcall 112 [(2, 3), (2, b)] w 238 K := by
  obtain ⟨hg, h⟩ := h
  refine (show (if w 3 1 = 2 then zif False (1000 ≤ b ∧ b < 1015) (if w 3 6 < zwf 2 (b - 1000).toNat then K (0, some (0, 0)) (zupd (zupd w 3 7 2) 3 8 (w 3 2)) 238 else zif False (1000 ≤ b ∧ b < 1015) (if zwf 3 (b - 1000).toNat < w 3 6 then K (0, some (0, 0)) (zupd (zupd w 3 7 2) 3 8 (w 3 2)) 238 else ((0 ≤ w 1 1 ∧ w 1 1 ≤ 800) ∧ 0 ≤ w 3 3 ∧ w 3 3 ≤ w 1 1) ∧ (K (0, some (0, 1)) (zad w) 238))) else K (0, some (0, 0)) (zupd (zupd w 3 7 1) 3 8 (w 3 2)) 238) → _ from fun h => show zwp 112 0 [(2, 3), (2, b)] [] w 238 0 K from zgo_imp zT173_ok (cut := fun pc => Nat.beq pc 13 || Nat.beq pc 30 || Nat.beq pc 41 || Nat.beq pc 46) 400 (show if w 3 1 = 2 then zif False (1000 ≤ b ∧ b < 1015) (if w 3 6 < zwf 2 (b - 1000).toNat then zwp 112 41 [(2, 3), (9, 0)] [(0, 0)] (zupd (zupd w 3 7 2) 3 8 (w 3 2)) 238 0 K else zwp 112 30 [(2, 3), (2, b)] [(2, b), (0, w 3 6)] w 238 0 K) else zwp 112 13 [(2, 3), (2, b)] [(0, 0)] (zupd (zupd w 3 7 1) 3 8 (w 3 2)) 238 0 K from zmI (fun h => zmZ (fun h => zmI (fun h => (fun h => show zwp 112 41 [(2, 3), (9, 0)] [(0, 0)] (zupd (zupd w 3 7 2) 3 8 (w 3 2)) 238 0 K from zgo_imp zT173_ok (cut := fun pc => Nat.beq pc 13 || Nat.beq pc 30 || Nat.beq pc 41 || Nat.beq pc 46) 400 (show K (0, some (0, 0)) (zupd (zupd w 3 7 2) 3 8 (w 3 2)) 238 from h)) h) (fun h => (fun h => show zwp 112 30 [(2, 3), (2, b)] [(2, b), (0, w 3 6)] w 238 0 K from zgo_imp zT173_ok (cut := fun pc => Nat.beq pc 13 || Nat.beq pc 30 || Nat.beq pc 41 || Nat.beq pc 46) 400 (show zif False (1000 ≤ b ∧ b < 1015) (if zwf 3 (b - 1000).toNat < w 3 6 then zwp 112 41 [(2, 3), (9, 0)] [(0, 0)] (zupd (zupd w 3 7 2) 3 8 (w 3 2)) 238 0 K else ((0 ≤ w 1 1 ∧ w 1 1 ≤ 800) ∧ 0 ≤ w 3 3 ∧ w 3 3 ≤ w 1 1) ∧ (zwp 112 46 [(2, 3), (2, b)] [] (zad w) 238 0 K)) from zmZ (fun h => zmI (fun h => (fun h => show zwp 112 41 [(2, 3), (9, 0)] [(0, 0)] (zupd (zupd w 3 7 2) 3 8 (w 3 2)) 238 0 K from zgo_imp zT173_ok (cut := fun pc => Nat.beq pc 13 || Nat.beq pc 30 || Nat.beq pc 41 || Nat.beq pc 46) 400 (show K (0, some (0, 0)) (zupd (zupd w 3 7 2) 3 8 (w 3 2)) 238 from h)) h) (fun h => zmA (fun h => (fun h => show zwp 112 46 [(2, 3), (2, b)] [] (zad w) 238 0 K from zgo_imp zT173_ok (cut := fun pc => Nat.beq pc 13 || Nat.beq pc 30 || Nat.beq pc 41 || Nat.beq pc 46) 400 (show K (0, some (0, 1)) (zad w) 238 from h)) h) h) h) h)) h) h) h) (fun h => (fun h => show zwp 112 13 [(2, 3), (2, b)] [(0, 0)] (zupd (zupd w 3 7 1) 3 8 (w 3 2)) 238 0 K from zgo_imp zT173_ok (cut := fun pc => Nat.beq pc 13 || Nat.beq pc 30 || Nat.beq pc 41 || Nat.beq pc 46) 400 (show K (0, some (0, 0)) (zupd (zupd w 3 7 1) 3 8 (w 3 2)) 238 from h)) h) h)) ?_
  by_cases g : w 3 1 = 2
  · refine ziT g (zifI hg.2 ?_)
    by_cases g1 : w 3 6 < zwf 2 (b - 1000).toNat
    · rw [zpn_r g (Or.inl g1)] at h
      exact ziT g1 h
    · refine ziF g1 (zifI hg.2 ?_)
      by_cases g2 : zwf 3 (b - 1000).toNat < w 3 6
      · rw [zpn_r g (Or.inr g2)] at h
        exact ziT g2 h
      · rw [zpn_y g fun q => q.elim g1 g2] at h
        exact ziF g2 ⟨hg.1.pre (by omega), h⟩
  · rw [zpn_n g] at h
    exact ziF g h
noncomputable def zb112 (l0 : List zV) (w : zW) (K : zK) : Prop := cond (zpe (zar l0 0) 3) (zA l0 1 fun b => (zPT w ∧ (1000 : Int) ≤ b ∧ b < (1015 : Int)) ∧ (K (0, some (0, (zpn w (zwf 2 (b - 1000 : Int).toNat) (zwf 3 (b - 1000 : Int).toNat)).1)) ((zpn w (zwf 2 (b - 1000 : Int).toNat) (zwf 3 (b - 1000 : Int).toNat)).2) 238)) (False)
noncomputable def zT174 : zSum := zsm1 112 [2, 2] zb112 zT173
theorem zT174_ok : zSok zT174 := zsm1_ok zT173_ok fun l0 w K h => by
  unfold zb112 at h
  cases q0 : zpe (zar l0 0) 3 with
  | true =>
    rw [q0, cond_true] at h
    have e : zar l0 0 = 3 := zpe_e q0
    show zcall 112 [(2, zar l0 0), (2, zar l0 1)] w 238 K
    rw [e]
    exact zk112_3 (zar l0 1) w K (zA_e h)
  | false =>
  rw [q0, cond_false] at h
  exact h.elim
noncomputable def zT175 : zSum := zin1 113 400 zT174
theorem zT175_ok : zSok zT175 := zin1_ok zT174_ok
noncomputable def zT176 : zSum := zin1 114 400 zT175
theorem zT176_ok : zSok zT176 := zin1_ok zT175_ok
/-! $Net.addCircle -/
set_option maxRecDepth 100000 in
theorem zk24_14 (x d r : Int) (w : zW) (K : zK) (h : (0 ≤ w 14 0 ∧ w 14 0 < 12) ∧ (K (0, none) (zac w x d r) 238)) : zcall 24 [(2, 14), (1, x), (9, 0), (0, d), (0, r)] w 238 K := by
  obtain ⟨hg, h⟩ := h
  refine (show (if w 14 0 < 0 then K (0, none) w 238 else if w 14 0 < 12 then zif False (0 ≤ w 14 0 ∧ w 14 0 < 12) (zif False (0 ≤ w 14 0 ∧ w 14 0 < 12) (zif False (0 ≤ w 14 0 ∧ w 14 0 < 12) (K (0, none) (zupd (zupd (zupd (zupd w 15 (w 14 0).toNat x) 16 (w 14 0).toNat d) 17 (w 14 0).toNat r) 14 0 (z32 ((w 14 0) + 1))) 238))) else K (0, none) w 238) → _ from fun h => show zwp 24 0 [(2, 14), (1, x), (9, 0), (0, d), (0, r)] [] w 238 0 K from zgo_imp zT176_ok (cut := fun pc => Nat.beq pc 20 || Nat.beq pc 35 || Nat.beq pc 49) 400 (show if w 14 0 < 0 then K (0, none) w 238 else if w 14 0 < 12 then zwp 24 20 [(2, 14), (1, x), (9, 0), (0, d), (0, r)] [(2, 15)] w 238 0 K else K (0, none) w 238 from zmI (fun h => h) (fun h => zmI (fun h => (fun h => show zwp 24 20 [(2, 14), (1, x), (9, 0), (0, d), (0, r)] [(2, 15)] w 238 0 K from zgo_imp zT176_ok (cut := fun pc => Nat.beq pc 20 || Nat.beq pc 35 || Nat.beq pc 49) 400 (show zif False (0 ≤ w 14 0 ∧ w 14 0 < 12) (zwp 24 35 [(2, 14), (1, x), (9, 0), (0, d), (0, r)] [(0, d), (0, w 14 0), (2, 16)] (zupd w 15 (w 14 0).toNat x) 238 0 K) from zmZ (fun h => (fun h => show zwp 24 35 [(2, 14), (1, x), (9, 0), (0, d), (0, r)] [(0, d), (0, w 14 0), (2, 16)] (zupd w 15 (w 14 0).toNat x) 238 0 K from zgo_imp zT176_ok (cut := fun pc => Nat.beq pc 20 || Nat.beq pc 35 || Nat.beq pc 49) 400 (show zif False (0 ≤ w 14 0 ∧ w 14 0 < 12) (zif False (0 ≤ w 14 0 ∧ w 14 0 < 12) (zwp 24 49 [(2, 14), (1, x), (9, 0), (0, d), (0, r)] [(2, 14), (2, 14)] (zupd (zupd (zupd w 15 (w 14 0).toNat x) 16 (w 14 0).toNat d) 17 (w 14 0).toNat r) 238 0 K)) from zmZ (fun h => zmZ (fun h => (fun h => show zwp 24 49 [(2, 14), (1, x), (9, 0), (0, d), (0, r)] [(2, 14), (2, 14)] (zupd (zupd (zupd w 15 (w 14 0).toNat x) 16 (w 14 0).toNat d) 17 (w 14 0).toNat r) 238 0 K from zgo_imp zT176_ok (cut := fun pc => Nat.beq pc 20 || Nat.beq pc 35 || Nat.beq pc 49) 400 (show K (0, none) (zupd (zupd (zupd (zupd w 15 (w 14 0).toNat x) 16 (w 14 0).toNat d) 17 (w 14 0).toNat r) 14 0 (z32 ((w 14 0) + 1))) 238 from h)) h) h) h)) h) h)) h) (fun h => h) h) h)) ?_
  rw [z32_id (x := w 14 0 + 1) ⟨by omega, by omega⟩]
  exact ziF (by omega) (ziT (by omega) (zifI (by omega) (zifI (by omega) (zifI (by omega) h))))
noncomputable def zb24 (l0 : List zV) (w : zW) (K : zK) : Prop := cond (zpe (zar l0 0) 14) (zA l0 1 fun x => zA l0 3 fun d => zA l0 4 fun r => (0 ≤ w 14 0 ∧ w 14 0 < 12) ∧ (K (0, none) (zac w x d r) 238)) (False)
noncomputable def zT177 : zSum := zsm1 24 [2, 1, 9, 0, 0] zb24 zT176
theorem zT177_ok : zSok zT177 := zsm1_ok zT176_ok fun l0 w K h => by
  unfold zb24 at h
  cases q0 : zpe (zar l0 0) 14 with
  | true =>
    rw [q0, cond_true] at h
    have e : zar l0 0 = 14 := zpe_e q0
    show zcall 24 [(2, zar l0 0), (1, zar l0 1), (9, 0), (0, zar l0 3), (0, zar l0 4)] w 238 K
    rw [e]
    exact zk24_14 (zar l0 1) (zar l0 3) (zar l0 4) w K (zA_e (zA_e (zA_e h)))
  | false =>
  rw [q0, cond_false] at h
  exact h.elim
/-! $Net.addSide -/
set_option maxRecDepth 100000 in
theorem zk26_14 (a b : Int) (w : zW) (K : zK) (h : ((0 ≤ a ∧ a < 12) ∧ 0 ≤ b ∧ b < 12) ∧ (K (0, none) (zads w a b) 238)) : zcall 26 [(2, 14), (0, a), (0, b)] w 238 K := by
  obtain ⟨hg, h⟩ := h
  refine (show (if a < 0 then K (0, none) w 238 else if a < 12 then if b < 0 then K (0, none) w 238 else if b < 12 then zif False (0 ≤ z32 ((z32 (a * 12)) + b) ∧ z32 ((z32 (a * 12)) + b) < 144) (K (0, none) (zupd w 19 (z32 ((z32 (a * 12)) + b)).toNat (w 14 1)) 238) else K (0, none) w 238 else K (0, none) w 238) → _ from fun h => show zwp 26 0 [(2, 14), (0, a), (0, b)] [] w 238 0 K from zgo_imp zT177_ok (cut := fun pc => Nat.beq pc 4 || Nat.beq pc 11 || Nat.beq pc 25) 400 (show if a < 0 then zwp 26 4 [(2, 14), (0, a), (0, b)] [(0, 0)] w 238 0 K else if a < 12 then zwp 26 4 [(2, 14), (0, a), (0, b)] [(0, 1)] w 238 0 K else zwp 26 4 [(2, 14), (0, a), (0, b)] [(0, 0)] w 238 0 K from zmI (fun h => (fun h => show zwp 26 4 [(2, 14), (0, a), (0, b)] [(0, 0)] w 238 0 K from zgo_imp zT177_ok (cut := fun pc => Nat.beq pc 4 || Nat.beq pc 11 || Nat.beq pc 25) 400 (show K (0, none) w 238 from h)) h) (fun h => zmI (fun h => (fun h => show zwp 26 4 [(2, 14), (0, a), (0, b)] [(0, 1)] w 238 0 K from zgo_imp zT177_ok (cut := fun pc => Nat.beq pc 4 || Nat.beq pc 11 || Nat.beq pc 25) 400 (show if b < 0 then zwp 26 11 [(2, 14), (0, a), (0, b)] [(0, 0)] w 238 0 K else if b < 12 then zwp 26 11 [(2, 14), (0, a), (0, b)] [(0, 1)] w 238 0 K else zwp 26 11 [(2, 14), (0, a), (0, b)] [(0, 0)] w 238 0 K from zmI (fun h => (fun h => show zwp 26 11 [(2, 14), (0, a), (0, b)] [(0, 0)] w 238 0 K from zgo_imp zT177_ok (cut := fun pc => Nat.beq pc 4 || Nat.beq pc 11 || Nat.beq pc 25) 400 (show K (0, none) w 238 from h)) h) (fun h => zmI (fun h => (fun h => show zwp 26 11 [(2, 14), (0, a), (0, b)] [(0, 1)] w 238 0 K from zgo_imp zT177_ok (cut := fun pc => Nat.beq pc 4 || Nat.beq pc 11 || Nat.beq pc 25) 400 (show zwp 26 25 [(2, 14), (0, a), (0, b)] [(2, 14), (0, z32 ((z32 (a * 12)) + b)), (2, 19)] w 238 0 K from (fun h => show zwp 26 25 [(2, 14), (0, a), (0, b)] [(2, 14), (0, z32 ((z32 (a * 12)) + b)), (2, 19)] w 238 0 K from zgo_imp zT177_ok (cut := fun pc => Nat.beq pc 4 || Nat.beq pc 11 || Nat.beq pc 25) 400 (show zif False (0 ≤ z32 ((z32 (a * 12)) + b) ∧ z32 ((z32 (a * 12)) + b) < 144) (K (0, none) (zupd w 19 (z32 ((z32 (a * 12)) + b)).toNat (w 14 1)) 238) from h)) h)) h) (fun h => (fun h => show zwp 26 11 [(2, 14), (0, a), (0, b)] [(0, 0)] w 238 0 K from zgo_imp zT177_ok (cut := fun pc => Nat.beq pc 4 || Nat.beq pc 11 || Nat.beq pc 25) 400 (show K (0, none) w 238 from h)) h) h) h)) h) (fun h => (fun h => show zwp 26 4 [(2, 14), (0, a), (0, b)] [(0, 0)] w 238 0 K from zgo_imp zT177_ok (cut := fun pc => Nat.beq pc 4 || Nat.beq pc 11 || Nat.beq pc 25) 400 (show K (0, none) w 238 from h)) h) h) h)) ?_
  rw [z32_id (x := a * 12) ⟨by omega, by omega⟩, z32_id (x := a * 12 + b) ⟨by omega, by omega⟩, show a * 12 + b = 12 * a + b by omega]
  refine ziF (by omega) (ziT (by omega) (ziF (by omega) (ziT (by omega) (zifI (by omega) h))))
noncomputable def zb26 (l0 : List zV) (w : zW) (K : zK) : Prop := cond (zpe (zar l0 0) 14) (zA l0 1 fun a => zA l0 2 fun b => ((0 ≤ a ∧ a < 12) ∧ 0 ≤ b ∧ b < 12) ∧ (K (0, none) (zads w a b) 238)) (False)
noncomputable def zT178 : zSum := zsm1 26 [2, 0, 0] zb26 zT177
theorem zT178_ok : zSok zT178 := zsm1_ok zT177_ok fun l0 w K h => by
  unfold zb26 at h
  cases q0 : zpe (zar l0 0) 14 with
  | true =>
    rw [q0, cond_true] at h
    have e : zar l0 0 = 14 := zpe_e q0
    show zcall 26 [(2, zar l0 0), (0, zar l0 1), (0, zar l0 2)] w 238 K
    rw [e]
    exact zk26_14 (zar l0 1) (zar l0 2) w K (zA_e (zA_e h))
  | false =>
  rw [q0, cond_false] at h
  exact h.elim
/-! $Net.addFace -/
set_option maxRecDepth 100000 in
theorem zk25_14 (a b c : Int) (w : zW) (K : zK) (h : ((0 ≤ w 14 1 ∧ w 14 1 < 20) ∧ (0 ≤ a ∧ a < 12) ∧ (0 ≤ b ∧ b < 12) ∧ 0 ≤ c ∧ c < 12) ∧ (K (0, none) (zafc w a b c) 238)) : zcall 25 [(2, 14), (0, a), (0, b), (0, c)] w 238 K := by
  obtain ⟨hg, h⟩ := h
  refine (show (if w 14 1 < 0 then K (0, none) w 238 else if w 14 1 < 20 then zif False (0 ≤ z32 ((w 14 1) * 3) ∧ z32 ((w 14 1) * 3) < 60) (zif False (0 ≤ z32 ((z32 ((w 14 1) * 3)) + 1) ∧ z32 ((z32 ((w 14 1) * 3)) + 1) < 60) (zif False (0 ≤ z32 ((z32 ((w 14 1) * 3)) + 2) ∧ z32 ((z32 ((w 14 1) * 3)) + 2) < 60) (((0 ≤ a ∧ a < 12) ∧ 0 ≤ b ∧ b < 12) ∧ (((0 ≤ b ∧ b < 12) ∧ 0 ≤ c ∧ c < 12) ∧ (((0 ≤ c ∧ c < 12) ∧ 0 ≤ a ∧ a < 12) ∧ (K (0, none) (zupd (zads (zads (zads (zupd (zupd (zupd w 18 (z32 ((w 14 1) * 3)).toNat a) 18 (z32 ((z32 ((w 14 1) * 3)) + 1)).toNat b) 18 (z32 ((z32 ((w 14 1) * 3)) + 2)).toNat c) a b) b c) c a) 14 1 (z32 ((w 14 1) + 1))) 238)))))) else K (0, none) w 238) → _ from fun h => show zwp 25 0 [(2, 14), (0, a), (0, b), (0, c)] [] w 238 0 K from zgo_imp zT178_ok (cut := fun pc => Nat.beq pc 20 || Nat.beq pc 33 || Nat.beq pc 46 || Nat.beq pc 57 || Nat.beq pc 62 || Nat.beq pc 68 || Nat.beq pc 74) 400 (show if w 14 1 < 0 then K (0, none) w 238 else if w 14 1 < 20 then zwp 25 20 [(2, 14), (0, a), (0, b), (0, c)] [(2, 18)] w 238 0 K else K (0, none) w 238 from zmI (fun h => h) (fun h => zmI (fun h => (fun h => show zwp 25 20 [(2, 14), (0, a), (0, b), (0, c)] [(2, 18)] w 238 0 K from zgo_imp zT178_ok (cut := fun pc => Nat.beq pc 20 || Nat.beq pc 33 || Nat.beq pc 46 || Nat.beq pc 57 || Nat.beq pc 62 || Nat.beq pc 68 || Nat.beq pc 74) 400 (show zif False (0 ≤ z32 ((w 14 1) * 3) ∧ z32 ((w 14 1) * 3) < 60) (zwp 25 33 [(2, 14), (0, a), (0, b), (0, c)] [(2, 14), (2, 18)] (zupd w 18 (z32 ((w 14 1) * 3)).toNat a) 238 0 K) from zmZ (fun h => (fun h => show zwp 25 33 [(2, 14), (0, a), (0, b), (0, c)] [(2, 14), (2, 18)] (zupd w 18 (z32 ((w 14 1) * 3)).toNat a) 238 0 K from zgo_imp zT178_ok (cut := fun pc => Nat.beq pc 20 || Nat.beq pc 33 || Nat.beq pc 46 || Nat.beq pc 57 || Nat.beq pc 62 || Nat.beq pc 68 || Nat.beq pc 74) 400 (show zif False (0 ≤ z32 ((z32 ((w 14 1) * 3)) + 1) ∧ z32 ((z32 ((w 14 1) * 3)) + 1) < 60) (zwp 25 46 [(2, 14), (0, a), (0, b), (0, c)] [(2, 18)] (zupd (zupd w 18 (z32 ((w 14 1) * 3)).toNat a) 18 (z32 ((z32 ((w 14 1) * 3)) + 1)).toNat b) 238 0 K) from zmZ (fun h => (fun h => show zwp 25 46 [(2, 14), (0, a), (0, b), (0, c)] [(2, 18)] (zupd (zupd w 18 (z32 ((w 14 1) * 3)).toNat a) 18 (z32 ((z32 ((w 14 1) * 3)) + 1)).toNat b) 238 0 K from zgo_imp zT178_ok (cut := fun pc => Nat.beq pc 20 || Nat.beq pc 33 || Nat.beq pc 46 || Nat.beq pc 57 || Nat.beq pc 62 || Nat.beq pc 68 || Nat.beq pc 74) 400 (show zif False (0 ≤ z32 ((z32 ((w 14 1) * 3)) + 2) ∧ z32 ((z32 ((w 14 1) * 3)) + 2) < 60) (zwp 25 57 [(2, 14), (0, a), (0, b), (0, c)] [(2, 14)] (zupd (zupd (zupd w 18 (z32 ((w 14 1) * 3)).toNat a) 18 (z32 ((z32 ((w 14 1) * 3)) + 1)).toNat b) 18 (z32 ((z32 ((w 14 1) * 3)) + 2)).toNat c) 238 0 K) from zmZ (fun h => (fun h => show zwp 25 57 [(2, 14), (0, a), (0, b), (0, c)] [(2, 14)] (zupd (zupd (zupd w 18 (z32 ((w 14 1) * 3)).toNat a) 18 (z32 ((z32 ((w 14 1) * 3)) + 1)).toNat b) 18 (z32 ((z32 ((w 14 1) * 3)) + 2)).toNat c) 238 0 K from zgo_imp zT178_ok (cut := fun pc => Nat.beq pc 20 || Nat.beq pc 33 || Nat.beq pc 46 || Nat.beq pc 57 || Nat.beq pc 62 || Nat.beq pc 68 || Nat.beq pc 74) 400 (show ((0 ≤ a ∧ a < 12) ∧ 0 ≤ b ∧ b < 12) ∧ (zwp 25 62 [(2, 14), (0, a), (0, b), (0, c)] [] (zads (zupd (zupd (zupd w 18 (z32 ((w 14 1) * 3)).toNat a) 18 (z32 ((z32 ((w 14 1) * 3)) + 1)).toNat b) 18 (z32 ((z32 ((w 14 1) * 3)) + 2)).toNat c) a b) 238 0 K) from zmA (fun h => (fun h => show zwp 25 62 [(2, 14), (0, a), (0, b), (0, c)] [] (zads (zupd (zupd (zupd w 18 (z32 ((w 14 1) * 3)).toNat a) 18 (z32 ((z32 ((w 14 1) * 3)) + 1)).toNat b) 18 (z32 ((z32 ((w 14 1) * 3)) + 2)).toNat c) a b) 238 0 K from zgo_imp zT178_ok (cut := fun pc => Nat.beq pc 20 || Nat.beq pc 33 || Nat.beq pc 46 || Nat.beq pc 57 || Nat.beq pc 62 || Nat.beq pc 68 || Nat.beq pc 74) 400 (show ((0 ≤ b ∧ b < 12) ∧ 0 ≤ c ∧ c < 12) ∧ (zwp 25 68 [(2, 14), (0, a), (0, b), (0, c)] [] (zads (zads (zupd (zupd (zupd w 18 (z32 ((w 14 1) * 3)).toNat a) 18 (z32 ((z32 ((w 14 1) * 3)) + 1)).toNat b) 18 (z32 ((z32 ((w 14 1) * 3)) + 2)).toNat c) a b) b c) 238 0 K) from zmA (fun h => (fun h => show zwp 25 68 [(2, 14), (0, a), (0, b), (0, c)] [] (zads (zads (zupd (zupd (zupd w 18 (z32 ((w 14 1) * 3)).toNat a) 18 (z32 ((z32 ((w 14 1) * 3)) + 1)).toNat b) 18 (z32 ((z32 ((w 14 1) * 3)) + 2)).toNat c) a b) b c) 238 0 K from zgo_imp zT178_ok (cut := fun pc => Nat.beq pc 20 || Nat.beq pc 33 || Nat.beq pc 46 || Nat.beq pc 57 || Nat.beq pc 62 || Nat.beq pc 68 || Nat.beq pc 74) 400 (show ((0 ≤ c ∧ c < 12) ∧ 0 ≤ a ∧ a < 12) ∧ (zwp 25 74 [(2, 14), (0, a), (0, b), (0, c)] [] (zads (zads (zads (zupd (zupd (zupd w 18 (z32 ((w 14 1) * 3)).toNat a) 18 (z32 ((z32 ((w 14 1) * 3)) + 1)).toNat b) 18 (z32 ((z32 ((w 14 1) * 3)) + 2)).toNat c) a b) b c) c a) 238 0 K) from zmA (fun h => (fun h => show zwp 25 74 [(2, 14), (0, a), (0, b), (0, c)] [] (zads (zads (zads (zupd (zupd (zupd w 18 (z32 ((w 14 1) * 3)).toNat a) 18 (z32 ((z32 ((w 14 1) * 3)) + 1)).toNat b) 18 (z32 ((z32 ((w 14 1) * 3)) + 2)).toNat c) a b) b c) c a) 238 0 K from zgo_imp zT178_ok (cut := fun pc => Nat.beq pc 20 || Nat.beq pc 33 || Nat.beq pc 46 || Nat.beq pc 57 || Nat.beq pc 62 || Nat.beq pc 68 || Nat.beq pc 74) 400 (show K (0, none) (zupd (zads (zads (zads (zupd (zupd (zupd w 18 (z32 ((w 14 1) * 3)).toNat a) 18 (z32 ((z32 ((w 14 1) * 3)) + 1)).toNat b) 18 (z32 ((z32 ((w 14 1) * 3)) + 2)).toNat c) a b) b c) c a) 14 1 (z32 ((w 14 1) + 1))) 238 from h)) h) h)) h) h)) h) h)) h) h)) h) h)) h) h)) h) (fun h => h) h) h)) ?_
  obtain ⟨hf, ha, hb, hc⟩ := hg
  rw [z32_id (x := w 14 1 * 3) ⟨by omega, by omega⟩, z32_id (x := w 14 1 * 3 + 1) ⟨by omega, by omega⟩, z32_id (x := w 14 1 * 3 + 2) ⟨by omega, by omega⟩, z32_id (x := w 14 1 + 1) ⟨by omega, by omega⟩, show w 14 1 * 3 = 3 * w 14 1 by omega]
  exact ziF (by omega) (ziT (by omega) (zifI (by omega) (zifI (by omega) (zifI (by omega) ⟨⟨ha, hb⟩, ⟨hb, hc⟩, ⟨hc, ha⟩, h⟩))))
noncomputable def zb25 (l0 : List zV) (w : zW) (K : zK) : Prop := cond (zpe (zar l0 0) 14) (zA l0 1 fun a => zA l0 2 fun b => zA l0 3 fun c => ((0 ≤ w 14 1 ∧ w 14 1 < 20) ∧ (0 ≤ a ∧ a < 12) ∧ (0 ≤ b ∧ b < 12) ∧ 0 ≤ c ∧ c < 12) ∧ (K (0, none) (zafc w a b c) 238)) (False)
noncomputable def zT179 : zSum := zsm1 25 [2, 0, 0, 0] zb25 zT178
theorem zT179_ok : zSok zT179 := zsm1_ok zT178_ok fun l0 w K h => by
  unfold zb25 at h
  cases q0 : zpe (zar l0 0) 14 with
  | true =>
    rw [q0, cond_true] at h
    have e : zar l0 0 = 14 := zpe_e q0
    show zcall 25 [(2, zar l0 0), (0, zar l0 1), (0, zar l0 2), (0, zar l0 3)] w 238 K
    rw [e]
    exact zk25_14 (zar l0 1) (zar l0 2) (zar l0 3) w K (zA_e (zA_e (zA_e h)))
  | false =>
  rw [q0, cond_false] at h
  exact h.elim
noncomputable def zrC (w : zW) : Int × zW := if w 14 0 < 12 then if (zad w) 3 4 = 1001 then if zFi (fun c => w 15 c.toNat = ((zad w) 3 5)) ((w 14 0)).toNat 0 = (-1) then if (zad (zad w)) 3 4 = 1003 then if (zpn (zad (zad (zad w))) 1 100000).1 = 0 then (0, ((zpn (zad (zad (zad w))) 1 100000).2)) else (1, (zac ((zpn (zad (zad (zad w))) 1 100000).2) ((zad w) 3 5) (0 : Int) ((zad (zad (zad w))) 3 6))) else if (zad (zad w)) 3 4 = 1004 then if (zpn (zad (zad (zad w))) 1 1800).1 = 0 then (0, ((zpn (zad (zad (zad w))) 1 1800).2)) else (1, (zac ((zpn (zad (zad (zad w))) 1 1800).2) ((zad w) 3 5) ((zad (zad (zad w))) 3 6) (0 : Int))) else (1, (zac (zad (zad w)) ((zad w) 3 5) (360 : Int) (0 : Int))) else (0, (zupd (zupd (zad w) 3 7 3) 3 8 ((zad w) 3 2))) else (0, (zupd (zupd (zad w) 3 7 1) 3 8 ((zad w) 3 2))) else (0, (zupd (zupd w 3 7 5) 3 8 (w 3 2)))
/-! $NetReader.readCircle -/
set_option maxRecDepth 100000 in
theorem zk48_13 (w : zW) (K : zK) (h : (zPT w ∧ w 3 1 ≠ (-1 : Int) ∧ 0 ≤ w 14 0 ∧ w 14 0 ≤ 12) ∧ (K (0, some (0, (zrC w).1)) ((zrC w).2) 238)) : zcall 48 [(2, 13), (9, 0), (9, 0), (9, 0), (9, 0)] w 238 K := by
  obtain ⟨hg, h⟩ := h
  refine (show (if w 14 0 < 12 then ((0 ≤ w 1 1 ∧ w 1 1 ≤ 800) ∧ 0 ≤ w 3 3 ∧ w 3 3 ≤ w 1 1) ∧ (zif False (0 ≤ (zad w) 3 4) (zif False (1000 ≤ (zad w) 3 4 ∧ (zad w) 3 4 < 1015) (if (zad w) 3 4 = 1001 then (0 ≤ (w 14 0) ∧ (w 14 0) ≤ 12) ∧ (if zFi (fun c => w 15 c.toNat = ((zad w) 3 5)) ((w 14 0)).toNat 0 = (-1) then ((0 ≤ (w 1 1) ∧ (w 1 1) ≤ 800) ∧ 0 ≤ ((zad w) 3 3) ∧ ((zad w) 3 3) ≤ (w 1 1)) ∧ (zif False (0 ≤ (zad (zad w)) 3 4) (zif False (1000 ≤ (zad (zad w)) 3 4 ∧ (zad (zad w)) 3 4 < 1015) (if (zad (zad w)) 3 4 = 1003 then ((0 ≤ (w 1 1) ∧ (w 1 1) ≤ 800) ∧ 0 ≤ ((zad (zad w)) 3 3) ∧ ((zad (zad w)) 3 3) ≤ (w 1 1)) ∧ ((zPT (zad (zad (zad w))) ∧ (1000 : Int) ≤ 1003 ∧ 1003 < (1015 : Int)) ∧ (if (zpn (zad (zad (zad w))) 1 100000).1 = 0 then K (0, some (0, 0)) ((zpn (zad (zad (zad w))) 1 100000).2) 238 else (0 ≤ (w 14 0) ∧ (w 14 0) < 12) ∧ (K (0, some (0, 1)) (zac ((zpn (zad (zad (zad w))) 1 100000).2) ((zad w) 3 5) (0 : Int) ((zad (zad (zad w))) 3 6)) 238))) else zif False (0 ≤ (zad (zad w)) 3 4) (zif False (1000 ≤ (zad (zad w)) 3 4 ∧ (zad (zad w)) 3 4 < 1015) (if (zad (zad w)) 3 4 = 1004 then ((0 ≤ (w 1 1) ∧ (w 1 1) ≤ 800) ∧ 0 ≤ ((zad (zad w)) 3 3) ∧ ((zad (zad w)) 3 3) ≤ (w 1 1)) ∧ ((zPT (zad (zad (zad w))) ∧ (1000 : Int) ≤ 1004 ∧ 1004 < (1015 : Int)) ∧ (if (zpn (zad (zad (zad w))) 1 1800).1 = 0 then K (0, some (0, 0)) ((zpn (zad (zad (zad w))) 1 1800).2) 238 else (0 ≤ (w 14 0) ∧ (w 14 0) < 12) ∧ (K (0, some (0, 1)) (zac ((zpn (zad (zad (zad w))) 1 1800).2) ((zad w) 3 5) ((zad (zad (zad w))) 3 6) (0 : Int)) 238))) else (0 ≤ (w 14 0) ∧ (w 14 0) < 12) ∧ (K (0, some (0, 1)) (zac (zad (zad w)) ((zad w) 3 5) (360 : Int) (0 : Int)) 238)))))) else K (0, some (0, 0)) (zupd (zupd (zad w) 3 7 3) 3 8 ((zad w) 3 2)) 238) else K (0, some (0, 0)) (zupd (zupd (zad w) 3 7 1) 3 8 ((zad w) 3 2)) 238))) else K (0, some (0, 0)) (zupd (zupd w 3 7 5) 3 8 (w 3 2)) 238) → _ from fun h => show zwp 48 0 [(2, 13), (9, 0), (9, 0), (9, 0), (9, 0)] [] w 238 0 K from zgo_imp zT179_ok (cut := fun pc => Nat.beq pc 20 || Nat.beq pc 28 || Nat.beq pc 39 || Nat.beq pc 56 || Nat.beq pc 59 || Nat.beq pc 79 || Nat.beq pc 86 || Nat.beq pc 104 || Nat.beq pc 107 || Nat.beq pc 126 || Nat.beq pc 132 || Nat.beq pc 150 || Nat.beq pc 166) 400 (show if w 14 0 < 12 then ((0 ≤ w 1 1 ∧ w 1 1 ≤ 800) ∧ 0 ≤ w 3 3 ∧ w 3 3 ≤ w 1 1) ∧ (zwp 48 28 [(2, 13), (9, 0), (9, 0), (9, 0), (9, 0)] [] (zad w) 238 0 K) else zwp 48 20 [(2, 13), (9, 0), (9, 0), (9, 0), (9, 0)] [(0, 0)] (zupd (zupd w 3 7 5) 3 8 (w 3 2)) 238 0 K from zmI (fun h => zmA (fun h => (fun h => show zwp 48 28 [(2, 13), (9, 0), (9, 0), (9, 0), (9, 0)] [] (zad w) 238 0 K from zgo_imp zT179_ok (cut := fun pc => Nat.beq pc 20 || Nat.beq pc 28 || Nat.beq pc 39 || Nat.beq pc 56 || Nat.beq pc 59 || Nat.beq pc 79 || Nat.beq pc 86 || Nat.beq pc 104 || Nat.beq pc 107 || Nat.beq pc 126 || Nat.beq pc 132 || Nat.beq pc 150 || Nat.beq pc 166) 400 (show zif False (0 ≤ (zad w) 3 4) (zif False (1000 ≤ (zad w) 3 4 ∧ (zad w) 3 4 < 1015) (if (zad w) 3 4 = 1001 then (0 ≤ (w 14 0) ∧ (w 14 0) ≤ 12) ∧ (if zFi (fun c => w 15 c.toNat = ((zad w) 3 5)) ((w 14 0)).toNat 0 = (-1) then zwp 48 39 [(2, 13), (9, 0), (9, 0), (9, 0), (9, 0)] [(0, 1)] (zad w) 238 0 K else zwp 48 39 [(2, 13), (9, 0), (9, 0), (9, 0), (9, 0)] [(0, 0)] (zupd (zupd (zad w) 3 7 3) 3 8 ((zad w) 3 2)) 238 0 K) else zwp 48 39 [(2, 13), (9, 0), (9, 0), (9, 0), (9, 0)] [(0, 0)] (zupd (zupd (zad w) 3 7 1) 3 8 ((zad w) 3 2)) 238 0 K)) from zmZ (fun h => zmZ (fun h => zmI (fun h => zmA (fun h => zmI (fun h => (fun h => show zwp 48 39 [(2, 13), (9, 0), (9, 0), (9, 0), (9, 0)] [(0, 1)] (zad w) 238 0 K from zgo_imp zT179_ok (cut := fun pc => Nat.beq pc 20 || Nat.beq pc 28 || Nat.beq pc 39 || Nat.beq pc 56 || Nat.beq pc 59 || Nat.beq pc 79 || Nat.beq pc 86 || Nat.beq pc 104 || Nat.beq pc 107 || Nat.beq pc 126 || Nat.beq pc 132 || Nat.beq pc 150 || Nat.beq pc 166) 400 (show zwp 48 56 [(2, 13), (1, (zad w) 3 5), (9, 0), (9, 0), (9, 0)] [(2, 3)] (zad w) 238 0 K from (fun h => show zwp 48 56 [(2, 13), (1, (zad w) 3 5), (9, 0), (9, 0), (9, 0)] [(2, 3)] (zad w) 238 0 K from zgo_imp zT179_ok (cut := fun pc => Nat.beq pc 20 || Nat.beq pc 28 || Nat.beq pc 39 || Nat.beq pc 56 || Nat.beq pc 59 || Nat.beq pc 79 || Nat.beq pc 86 || Nat.beq pc 104 || Nat.beq pc 107 || Nat.beq pc 126 || Nat.beq pc 132 || Nat.beq pc 150 || Nat.beq pc 166) 400 (show ((0 ≤ (w 1 1) ∧ (w 1 1) ≤ 800) ∧ 0 ≤ ((zad w) 3 3) ∧ ((zad w) 3 3) ≤ (w 1 1)) ∧ (zwp 48 59 [(2, 13), (1, (zad w) 3 5), (9, 0), (9, 0), (9, 0)] [] (zad (zad w)) 238 0 K) from zmA (fun h => (fun h => show zwp 48 59 [(2, 13), (1, (zad w) 3 5), (9, 0), (9, 0), (9, 0)] [] (zad (zad w)) 238 0 K from zgo_imp zT179_ok (cut := fun pc => Nat.beq pc 20 || Nat.beq pc 28 || Nat.beq pc 39 || Nat.beq pc 56 || Nat.beq pc 59 || Nat.beq pc 79 || Nat.beq pc 86 || Nat.beq pc 104 || Nat.beq pc 107 || Nat.beq pc 126 || Nat.beq pc 132 || Nat.beq pc 150 || Nat.beq pc 166) 400 (show zif False (0 ≤ (zad (zad w)) 3 4) (zif False (1000 ≤ (zad (zad w)) 3 4 ∧ (zad (zad w)) 3 4 < 1015) (if (zad (zad w)) 3 4 = 1003 then zwp 48 79 [(2, 13), (1, (zad w) 3 5), (9, 0), (0, 360), (0, 0)] [] (zad (zad w)) 238 0 K else zif False (0 ≤ (zad (zad w)) 3 4) (zif False (1000 ≤ (zad (zad w)) 3 4 ∧ (zad (zad w)) 3 4 < 1015) (if (zad (zad w)) 3 4 = 1004 then zwp 48 126 [(2, 13), (1, (zad w) 3 5), (9, 0), (0, 360), (0, 0)] [(2, 13)] (zad (zad w)) 238 0 K else (0 ≤ (w 14 0) ∧ (w 14 0) < 12) ∧ (zwp 48 166 [(2, 13), (1, (zad w) 3 5), (9, 0), (0, 360), (0, 0)] [] (zac (zad (zad w)) ((zad w) 3 5) (360 : Int) (0 : Int)) 238 0 K))))) from zmZ (fun h => zmZ (fun h => zmI (fun h => (fun h => show zwp 48 79 [(2, 13), (1, (zad w) 3 5), (9, 0), (0, 360), (0, 0)] [] (zad (zad w)) 238 0 K from zgo_imp zT179_ok (cut := fun pc => Nat.beq pc 20 || Nat.beq pc 28 || Nat.beq pc 39 || Nat.beq pc 56 || Nat.beq pc 59 || Nat.beq pc 79 || Nat.beq pc 86 || Nat.beq pc 104 || Nat.beq pc 107 || Nat.beq pc 126 || Nat.beq pc 132 || Nat.beq pc 150 || Nat.beq pc 166) 400 (show ((0 ≤ (w 1 1) ∧ (w 1 1) ≤ 800) ∧ 0 ≤ ((zad (zad w)) 3 3) ∧ ((zad (zad w)) 3 3) ≤ (w 1 1)) ∧ (zwp 48 86 [(2, 13), (1, (zad w) 3 5), (9, 0), (0, 360), (0, 0)] [] (zad (zad (zad w))) 238 0 K) from zmA (fun h => (fun h => show zwp 48 86 [(2, 13), (1, (zad w) 3 5), (9, 0), (0, 360), (0, 0)] [] (zad (zad (zad w))) 238 0 K from zgo_imp zT179_ok (cut := fun pc => Nat.beq pc 20 || Nat.beq pc 28 || Nat.beq pc 39 || Nat.beq pc 56 || Nat.beq pc 59 || Nat.beq pc 79 || Nat.beq pc 86 || Nat.beq pc 104 || Nat.beq pc 107 || Nat.beq pc 126 || Nat.beq pc 132 || Nat.beq pc 150 || Nat.beq pc 166) 400 (show zwp 48 104 [(2, 13), (1, (zad w) 3 5), (9, 0), (0, 0), (0, (zad (zad (zad w))) 3 6)] [(2, 1003), (2, 3)] (zad (zad (zad w))) 238 0 K from (fun h => show zwp 48 104 [(2, 13), (1, (zad w) 3 5), (9, 0), (0, 0), (0, (zad (zad (zad w))) 3 6)] [(2, 1003), (2, 3)] (zad (zad (zad w))) 238 0 K from zgo_imp zT179_ok (cut := fun pc => Nat.beq pc 20 || Nat.beq pc 28 || Nat.beq pc 39 || Nat.beq pc 56 || Nat.beq pc 59 || Nat.beq pc 79 || Nat.beq pc 86 || Nat.beq pc 104 || Nat.beq pc 107 || Nat.beq pc 126 || Nat.beq pc 132 || Nat.beq pc 150 || Nat.beq pc 166) 400 (show (zPT (zad (zad (zad w))) ∧ (1000 : Int) ≤ 1003 ∧ 1003 < (1015 : Int)) ∧ (zwp 48 107 [(2, 13), (1, (zad w) 3 5), (9, 0), (0, 0), (0, (zad (zad (zad w))) 3 6)] [(0, (zpn (zad (zad (zad w))) 1 100000).1)] ((zpn (zad (zad (zad w))) 1 100000).2) 238 0 K) from zmA (fun h => (fun h => show zwp 48 107 [(2, 13), (1, (zad w) 3 5), (9, 0), (0, 0), (0, (zad (zad (zad w))) 3 6)] [(0, (zpn (zad (zad (zad w))) 1 100000).1)] ((zpn (zad (zad (zad w))) 1 100000).2) 238 0 K from zgo_imp zT179_ok (cut := fun pc => Nat.beq pc 20 || Nat.beq pc 28 || Nat.beq pc 39 || Nat.beq pc 56 || Nat.beq pc 59 || Nat.beq pc 79 || Nat.beq pc 86 || Nat.beq pc 104 || Nat.beq pc 107 || Nat.beq pc 126 || Nat.beq pc 132 || Nat.beq pc 150 || Nat.beq pc 166) 400 (show if (zpn (zad (zad (zad w))) 1 100000).1 = 0 then K (0, some (0, 0)) ((zpn (zad (zad (zad w))) 1 100000).2) 238 else (0 ≤ (w 14 0) ∧ (w 14 0) < 12) ∧ (zwp 48 166 [(2, 13), (1, (zad w) 3 5), (9, 0), (0, 0), (0, (zad (zad (zad w))) 3 6)] [] (zac ((zpn (zad (zad (zad w))) 1 100000).2) ((zad w) 3 5) (0 : Int) ((zad (zad (zad w))) 3 6)) 238 0 K) from zmI (fun h => h) (fun h => zmA (fun h => (fun h => show zwp 48 166 [(2, 13), (1, (zad w) 3 5), (9, 0), (0, 0), (0, (zad (zad (zad w))) 3 6)] [] (zac ((zpn (zad (zad (zad w))) 1 100000).2) ((zad w) 3 5) (0 : Int) ((zad (zad (zad w))) 3 6)) 238 0 K from zgo_imp zT179_ok (cut := fun pc => Nat.beq pc 20 || Nat.beq pc 28 || Nat.beq pc 39 || Nat.beq pc 56 || Nat.beq pc 59 || Nat.beq pc 79 || Nat.beq pc 86 || Nat.beq pc 104 || Nat.beq pc 107 || Nat.beq pc 126 || Nat.beq pc 132 || Nat.beq pc 150 || Nat.beq pc 166) 400 (show K (0, some (0, 1)) (zac ((zpn (zad (zad (zad w))) 1 100000).2) ((zad w) 3 5) (0 : Int) ((zad (zad (zad w))) 3 6)) 238 from h)) h) h) h)) h) h)) h)) h) h)) h) (fun h => zmZ (fun h => zmZ (fun h => zmI (fun h => (fun h => show zwp 48 126 [(2, 13), (1, (zad w) 3 5), (9, 0), (0, 360), (0, 0)] [(2, 13)] (zad (zad w)) 238 0 K from zgo_imp zT179_ok (cut := fun pc => Nat.beq pc 20 || Nat.beq pc 28 || Nat.beq pc 39 || Nat.beq pc 56 || Nat.beq pc 59 || Nat.beq pc 79 || Nat.beq pc 86 || Nat.beq pc 104 || Nat.beq pc 107 || Nat.beq pc 126 || Nat.beq pc 132 || Nat.beq pc 150 || Nat.beq pc 166) 400 (show ((0 ≤ (w 1 1) ∧ (w 1 1) ≤ 800) ∧ 0 ≤ ((zad (zad w)) 3 3) ∧ ((zad (zad w)) 3 3) ≤ (w 1 1)) ∧ (zwp 48 132 [(2, 13), (1, (zad w) 3 5), (9, 0), (0, 360), (0, 0)] [] (zad (zad (zad w))) 238 0 K) from zmA (fun h => (fun h => show zwp 48 132 [(2, 13), (1, (zad w) 3 5), (9, 0), (0, 360), (0, 0)] [] (zad (zad (zad w))) 238 0 K from zgo_imp zT179_ok (cut := fun pc => Nat.beq pc 20 || Nat.beq pc 28 || Nat.beq pc 39 || Nat.beq pc 56 || Nat.beq pc 59 || Nat.beq pc 79 || Nat.beq pc 86 || Nat.beq pc 104 || Nat.beq pc 107 || Nat.beq pc 126 || Nat.beq pc 132 || Nat.beq pc 150 || Nat.beq pc 166) 400 (show (zPT (zad (zad (zad w))) ∧ (1000 : Int) ≤ 1004 ∧ 1004 < (1015 : Int)) ∧ (zwp 48 150 [(2, 13), (1, (zad w) 3 5), (9, 0), (0, (zad (zad (zad w))) 3 6), (0, 0)] [(0, (zpn (zad (zad (zad w))) 1 1800).1)] ((zpn (zad (zad (zad w))) 1 1800).2) 238 0 K) from zmA (fun h => (fun h => show zwp 48 150 [(2, 13), (1, (zad w) 3 5), (9, 0), (0, (zad (zad (zad w))) 3 6), (0, 0)] [(0, (zpn (zad (zad (zad w))) 1 1800).1)] ((zpn (zad (zad (zad w))) 1 1800).2) 238 0 K from zgo_imp zT179_ok (cut := fun pc => Nat.beq pc 20 || Nat.beq pc 28 || Nat.beq pc 39 || Nat.beq pc 56 || Nat.beq pc 59 || Nat.beq pc 79 || Nat.beq pc 86 || Nat.beq pc 104 || Nat.beq pc 107 || Nat.beq pc 126 || Nat.beq pc 132 || Nat.beq pc 150 || Nat.beq pc 166) 400 (show if (zpn (zad (zad (zad w))) 1 1800).1 = 0 then K (0, some (0, 0)) ((zpn (zad (zad (zad w))) 1 1800).2) 238 else (0 ≤ (w 14 0) ∧ (w 14 0) < 12) ∧ (zwp 48 166 [(2, 13), (1, (zad w) 3 5), (9, 0), (0, (zad (zad (zad w))) 3 6), (0, 0)] [] (zac ((zpn (zad (zad (zad w))) 1 1800).2) ((zad w) 3 5) ((zad (zad (zad w))) 3 6) (0 : Int)) 238 0 K) from zmI (fun h => h) (fun h => zmA (fun h => (fun h => show zwp 48 166 [(2, 13), (1, (zad w) 3 5), (9, 0), (0, (zad (zad (zad w))) 3 6), (0, 0)] [] (zac ((zpn (zad (zad (zad w))) 1 1800).2) ((zad w) 3 5) ((zad (zad (zad w))) 3 6) (0 : Int)) 238 0 K from zgo_imp zT179_ok (cut := fun pc => Nat.beq pc 20 || Nat.beq pc 28 || Nat.beq pc 39 || Nat.beq pc 56 || Nat.beq pc 59 || Nat.beq pc 79 || Nat.beq pc 86 || Nat.beq pc 104 || Nat.beq pc 107 || Nat.beq pc 126 || Nat.beq pc 132 || Nat.beq pc 150 || Nat.beq pc 166) 400 (show K (0, some (0, 1)) (zac ((zpn (zad (zad (zad w))) 1 1800).2) ((zad w) 3 5) ((zad (zad (zad w))) 3 6) (0 : Int)) 238 from h)) h) h) h)) h) h)) h) h)) h) (fun h => zmA (fun h => (fun h => show zwp 48 166 [(2, 13), (1, (zad w) 3 5), (9, 0), (0, 360), (0, 0)] [] (zac (zad (zad w)) ((zad w) 3 5) (360 : Int) (0 : Int)) 238 0 K from zgo_imp zT179_ok (cut := fun pc => Nat.beq pc 20 || Nat.beq pc 28 || Nat.beq pc 39 || Nat.beq pc 56 || Nat.beq pc 59 || Nat.beq pc 79 || Nat.beq pc 86 || Nat.beq pc 104 || Nat.beq pc 107 || Nat.beq pc 126 || Nat.beq pc 132 || Nat.beq pc 150 || Nat.beq pc 166) 400 (show K (0, some (0, 1)) (zac (zad (zad w)) ((zad w) 3 5) (360 : Int) (0 : Int)) 238 from h)) h) h) h) h) h) h) h) h)) h) h)) h)) h) (fun h => (fun h => show zwp 48 39 [(2, 13), (9, 0), (9, 0), (9, 0), (9, 0)] [(0, 0)] (zupd (zupd (zad w) 3 7 3) 3 8 ((zad w) 3 2)) 238 0 K from zgo_imp zT179_ok (cut := fun pc => Nat.beq pc 20 || Nat.beq pc 28 || Nat.beq pc 39 || Nat.beq pc 56 || Nat.beq pc 59 || Nat.beq pc 79 || Nat.beq pc 86 || Nat.beq pc 104 || Nat.beq pc 107 || Nat.beq pc 126 || Nat.beq pc 132 || Nat.beq pc 150 || Nat.beq pc 166) 400 (show K (0, some (0, 0)) (zupd (zupd (zad w) 3 7 3) 3 8 ((zad w) 3 2)) 238 from h)) h) h) h) (fun h => (fun h => show zwp 48 39 [(2, 13), (9, 0), (9, 0), (9, 0), (9, 0)] [(0, 0)] (zupd (zupd (zad w) 3 7 1) 3 8 ((zad w) 3 2)) 238 0 K from zgo_imp zT179_ok (cut := fun pc => Nat.beq pc 20 || Nat.beq pc 28 || Nat.beq pc 39 || Nat.beq pc 56 || Nat.beq pc 59 || Nat.beq pc 79 || Nat.beq pc 86 || Nat.beq pc 104 || Nat.beq pc 107 || Nat.beq pc 126 || Nat.beq pc 132 || Nat.beq pc 150 || Nat.beq pc 166) 400 (show K (0, some (0, 0)) (zupd (zupd (zad w) 3 7 1) 3 8 ((zad w) 3 2)) 238 from h)) h) h) h) h)) h) h) (fun h => (fun h => show zwp 48 20 [(2, 13), (9, 0), (9, 0), (9, 0), (9, 0)] [(0, 0)] (zupd (zupd w 3 7 5) 3 8 (w 3 2)) 238 0 K from zgo_imp zT179_ok (cut := fun pc => Nat.beq pc 20 || Nat.beq pc 28 || Nat.beq pc 39 || Nat.beq pc 56 || Nat.beq pc 59 || Nat.beq pc 79 || Nat.beq pc 86 || Nat.beq pc 104 || Nat.beq pc 107 || Nat.beq pc 126 || Nat.beq pc 132 || Nat.beq pc 150 || Nat.beq pc 166) 400 (show K (0, some (0, 0)) (zupd (zupd w 3 7 5) 3 8 (w 3 2)) 238 from h)) h) h)) ?_
  unfold zrC at h
  obtain ⟨t0, k0, hn⟩ := hg
  have hn0 := t0.1
  have t1 := t0.ad k0
  have t2 : zad w 3 1 ≠ -1 → zPT (zad (zad w)) := fun q => t1.ad q
  have t3 : zad w 3 1 ≠ -1 → (zad (zad w)) 3 1 ≠ -1 → zPT (zad (zad (zad w))) := fun q q2 => (t2 q).ad q2
  have f0 := t0.lin (n := w 1 1) rfl
  have f1 : 0 ≤ (zad w) 3 3 ∧ ((zad w) 3 1 ≠ -1 → (zad w) 3 3 ≤ w 1 1) ∧ (1000 ≤ (zad w) 3 4 ∧ (zad w) 3 4 < 1015) ∧ ((zad w) 3 4 ≠ 1000 → (zad w) 3 1 = 1) := t1.lin (n := w 1 1) rfl
  have f2 : zad w 3 1 ≠ -1 → (0 ≤ (zad (zad w)) 3 3 ∧ ((zad (zad w)) 3 1 ≠ -1 → (zad (zad w)) 3 3 ≤ w 1 1) ∧ (1000 ≤ (zad (zad w)) 3 4 ∧ (zad (zad w)) 3 4 < 1015) ∧ ((zad (zad w)) 3 4 ≠ 1000 → (zad (zad w)) 3 1 = 1)) := fun q => (t2 q).lin (n := w 1 1) rfl
  have f3 : zad w 3 1 ≠ -1 → (zad (zad w)) 3 1 ≠ -1 → (0 ≤ (zad (zad (zad w))) 3 3 ∧ ((zad (zad (zad w))) 3 1 ≠ -1 → (zad (zad (zad w))) 3 3 ≤ w 1 1) ∧ (1000 ≤ (zad (zad (zad w))) 3 4 ∧ (zad (zad (zad w))) 3 4 < 1015) ∧ ((zad (zad (zad w))) 3 4 ≠ 1000 → (zad (zad (zad w))) 3 1 = 1)) := fun q q2 => (t3 q q2).lin (n := w 1 1) rfl
  by_cases q0 : w 14 0 < 12
  · rw [if_pos q0] at h
    refine ziT q0 ?_
    refine ⟨by first | omega | exact ⟨t3 (by omega) (by omega), by decide, by decide⟩, ?_⟩
    refine zifI (by first | omega | exact ⟨t3 (by omega) (by omega), by decide, by decide⟩) ?_
    refine zifI (by first | omega | exact ⟨t3 (by omega) (by omega), by decide, by decide⟩) ?_
    by_cases q1 : (zad w) 3 4 = 1001
    · rw [if_pos q1] at h
      refine ziT q1 ?_
      refine ⟨by first | omega | exact ⟨t3 (by omega) (by omega), by decide, by decide⟩, ?_⟩
      by_cases q2 : zFi (fun c => w 15 c.toNat = ((zad w) 3 5)) ((w 14 0)).toNat 0 = (-1)
      · rw [if_pos q2] at h
        refine ziT q2 ?_
        refine ⟨by first | omega | exact ⟨t3 (by omega) (by omega), by decide, by decide⟩, ?_⟩
        refine zifI (by first | omega | exact ⟨t3 (by omega) (by omega), by decide, by decide⟩) ?_
        refine zifI (by first | omega | exact ⟨t3 (by omega) (by omega), by decide, by decide⟩) ?_
        by_cases q3 : (zad (zad w)) 3 4 = 1003
        · rw [if_pos q3] at h
          refine ziT q3 ?_
          refine ⟨by first | omega | exact ⟨t3 (by omega) (by omega), by decide, by decide⟩, ?_⟩
          refine ⟨by first | omega | exact ⟨t3 (by omega) (by omega), by decide, by decide⟩, ?_⟩
          by_cases q4 : (zpn (zad (zad (zad w))) 1 100000).1 = 0
          · rw [if_pos q4] at h
            refine ziT q4 ?_
            exact h
          · rw [if_neg q4] at h
            refine ziF q4 ?_
            refine ⟨by first | omega | exact ⟨t3 (by omega) (by omega), by decide, by decide⟩, ?_⟩
            exact h
        · rw [if_neg q3] at h
          refine ziF q3 ?_
          refine zifI (by first | omega | exact ⟨t3 (by omega) (by omega), by decide, by decide⟩) ?_
          refine zifI (by first | omega | exact ⟨t3 (by omega) (by omega), by decide, by decide⟩) ?_
          by_cases q5 : (zad (zad w)) 3 4 = 1004
          · rw [if_pos q5] at h
            refine ziT q5 ?_
            refine ⟨by first | omega | exact ⟨t3 (by omega) (by omega), by decide, by decide⟩, ?_⟩
            refine ⟨by first | omega | exact ⟨t3 (by omega) (by omega), by decide, by decide⟩, ?_⟩
            by_cases q6 : (zpn (zad (zad (zad w))) 1 1800).1 = 0
            · rw [if_pos q6] at h
              refine ziT q6 ?_
              exact h
            · rw [if_neg q6] at h
              refine ziF q6 ?_
              refine ⟨by first | omega | exact ⟨t3 (by omega) (by omega), by decide, by decide⟩, ?_⟩
              exact h
          · rw [if_neg q5] at h
            refine ziF q5 ?_
            refine ⟨by first | omega | exact ⟨t3 (by omega) (by omega), by decide, by decide⟩, ?_⟩
            exact h
      · rw [if_neg q2] at h
        refine ziF q2 ?_
        exact h
    · rw [if_neg q1] at h
      refine ziF q1 ?_
      exact h
  · rw [if_neg q0] at h
    refine ziF q0 ?_
    exact h
noncomputable def zb48 (l0 : List zV) (w : zW) (K : zK) : Prop := cond (zpe (zar l0 0) 13) ((zPT w ∧ w 3 1 ≠ (-1 : Int) ∧ 0 ≤ w 14 0 ∧ w 14 0 ≤ 12) ∧ (K (0, some (0, (zrC w).1)) ((zrC w).2) 238)) (False)
noncomputable def zT180 : zSum := zsm1 48 [2, 9, 9, 9, 9] zb48 zT179
theorem zT180_ok : zSok zT180 := zsm1_ok zT179_ok fun l0 w K h => by
  unfold zb48 at h
  cases q0 : zpe (zar l0 0) 13 with
  | true =>
    rw [q0, cond_true] at h
    have e : zar l0 0 = 13 := zpe_e q0
    show zcall 48 [(2, zar l0 0), (9, 0), (9, 0), (9, 0), (9, 0)] w 238 K
    rw [e]
    exact zk48_13  w K h
  | false =>
  rw [q0, cond_false] at h
  exact h.elim
theorem zrC_01 (w : zW) : (zrC w).1 = 0 ∨ (zrC w).1 = 1 := by
  unfold zrC
  by_cases q0 : w 14 0 < 12
  · rw [if_pos q0]
    by_cases q1 : (zad w) 3 4 = 1001
    · rw [if_pos q1]
      by_cases q2 : zFi (fun c => w 15 c.toNat = ((zad w) 3 5)) ((w 14 0)).toNat 0 = (-1)
      · rw [if_pos q2]
        by_cases q3 : (zad (zad w)) 3 4 = 1003
        · rw [if_pos q3]
          by_cases q4 : (zpn (zad (zad (zad w))) 1 100000).1 = 0
          · rw [if_pos q4]
            first | exact Or.inl rfl | exact Or.inr rfl | exact zpn_01 _ _ _ | exact zps_01 _ _ | assumption
          · rw [if_neg q4]
            first | exact Or.inl rfl | exact Or.inr rfl | exact zpn_01 _ _ _ | exact zps_01 _ _ | assumption
        · rw [if_neg q3]
          by_cases q5 : (zad (zad w)) 3 4 = 1004
          · rw [if_pos q5]
            by_cases q6 : (zpn (zad (zad (zad w))) 1 1800).1 = 0
            · rw [if_pos q6]
              first | exact Or.inl rfl | exact Or.inr rfl | exact zpn_01 _ _ _ | exact zps_01 _ _ | assumption
            · rw [if_neg q6]
              first | exact Or.inl rfl | exact Or.inr rfl | exact zpn_01 _ _ _ | exact zps_01 _ _ | assumption
          · rw [if_neg q5]
            first | exact Or.inl rfl | exact Or.inr rfl | exact zpn_01 _ _ _ | exact zps_01 _ _ | assumption
      · rw [if_neg q2]
        first | exact Or.inl rfl | exact Or.inr rfl | exact zpn_01 _ _ _ | exact zps_01 _ _ | assumption
    · rw [if_neg q1]
      first | exact Or.inl rfl | exact Or.inr rfl | exact zpn_01 _ _ _ | exact zps_01 _ _ | assumption
  · rw [if_neg q0]
    first | exact Or.inl rfl | exact Or.inr rfl | exact zpn_01 _ _ _ | exact zps_01 _ _ | assumption
noncomputable def zrF (w : zW) : Int × zW := if w 14 1 < 20 then if (zad w) 3 4 = 1001 then if zFi (fun c => w 15 c.toNat = ((zad w) 3 5)) ((w 14 0)).toNat 0 = (-1) then (0, (zupd (zupd (zad w) 3 7 4) 3 8 ((zad w) 3 2))) else if (zad (zad w)) 3 4 = 1001 then if zFi (fun c => w 15 c.toNat = ((zad (zad w)) 3 5)) ((w 14 0)).toNat 0 = (-1) then (0, (zupd (zupd (zad (zad w)) 3 7 4) 3 8 ((zad (zad w)) 3 2))) else if zFi (fun c => w 15 c.toNat = ((zad (zad w)) 3 5)) ((w 14 0)).toNat 0 = zFi (fun c => w 15 c.toNat = ((zad w) 3 5)) ((w 14 0)).toNat 0 then (0, (zupd (zupd (zad (zad w)) 3 7 3) 3 8 ((zad (zad w)) 3 2))) else if w 19 (12 * (zFi (fun c => w 15 c.toNat = ((zad w) 3 5)) ((w 14 0)).toNat 0) + (zFi (fun c => w 15 c.toNat = ((zad (zad w)) 3 5)) ((w 14 0)).toNat 0)).toNat = (-1) then if (zad (zad (zad w))) 3 4 = 1001 then if zFi (fun c => w 15 c.toNat = ((zad (zad (zad w))) 3 5)) ((w 14 0)).toNat 0 = (-1) then (0, (zupd (zupd (zad (zad (zad w))) 3 7 4) 3 8 ((zad (zad (zad w))) 3 2))) else if zFi (fun c => w 15 c.toNat = ((zad (zad (zad w))) 3 5)) ((w 14 0)).toNat 0 = zFi (fun c => w 15 c.toNat = ((zad w) 3 5)) ((w 14 0)).toNat 0 then (0, (zupd (zupd (zad (zad (zad w))) 3 7 3) 3 8 ((zad (zad (zad w))) 3 2))) else if zFi (fun c => w 15 c.toNat = ((zad (zad (zad w))) 3 5)) ((w 14 0)).toNat 0 = zFi (fun c => w 15 c.toNat = ((zad (zad w)) 3 5)) ((w 14 0)).toNat 0 then (0, (zupd (zupd (zad (zad (zad w))) 3 7 3) 3 8 ((zad (zad (zad w))) 3 2))) else if w 19 (12 * (zFi (fun c => w 15 c.toNat = ((zad (zad w)) 3 5)) ((w 14 0)).toNat 0) + (zFi (fun c => w 15 c.toNat = ((zad (zad (zad w))) 3 5)) ((w 14 0)).toNat 0)).toNat = (-1) then if w 19 (12 * (zFi (fun c => w 15 c.toNat = ((zad (zad (zad w))) 3 5)) ((w 14 0)).toNat 0) + (zFi (fun c => w 15 c.toNat = ((zad w) 3 5)) ((w 14 0)).toNat 0)).toNat = (-1) then (1, (zafc (zad (zad (zad (zad w)))) (zFi (fun c => w 15 c.toNat = ((zad w) 3 5)) ((w 14 0)).toNat 0) (zFi (fun c => w 15 c.toNat = ((zad (zad w)) 3 5)) ((w 14 0)).toNat 0) (zFi (fun c => w 15 c.toNat = ((zad (zad (zad w))) 3 5)) ((w 14 0)).toNat 0))) else (0, (zupd (zupd (zad (zad (zad w))) 3 7 3) 3 8 ((zad (zad (zad w))) 3 2))) else (0, (zupd (zupd (zad (zad (zad w))) 3 7 3) 3 8 ((zad (zad (zad w))) 3 2))) else (0, (zupd (zupd (zad (zad (zad w))) 3 7 1) 3 8 ((zad (zad (zad w))) 3 2))) else (0, (zupd (zupd (zad (zad w)) 3 7 3) 3 8 ((zad (zad w)) 3 2))) else (0, (zupd (zupd (zad (zad w)) 3 7 1) 3 8 ((zad (zad w)) 3 2))) else (0, (zupd (zupd (zad w) 3 7 1) 3 8 ((zad w) 3 2))) else (0, (zupd (zupd w 3 7 5) 3 8 (w 3 2)))
/-! $NetReader.readFace -/
set_option maxRecDepth 100000 in
theorem zk49_13 (w : zW) (K : zK) (h : (zPT w ∧ w 3 1 ≠ (-1 : Int) ∧ (0 ≤ w 14 0 ∧ w 14 0 ≤ 12) ∧ 0 ≤ w 14 1 ∧ w 14 1 ≤ 20) ∧ (K (0, some (0, (zrF w).1)) ((zrF w).2) 238)) : zcall 49 [(2, 13), (9, 0), (9, 0), (9, 0)] w 238 K := by
  obtain ⟨hg, h⟩ := h
  refine (show (if w 14 1 < 20 then ((0 ≤ w 1 1 ∧ w 1 1 ≤ 800) ∧ 0 ≤ w 3 3 ∧ w 3 3 ≤ w 1 1) ∧ (zif False (0 ≤ (zad w) 3 4) (zif False (1000 ≤ (zad w) 3 4 ∧ (zad w) 3 4 < 1015) (if (zad w) 3 4 = 1001 then (0 ≤ (w 14 0) ∧ (w 14 0) ≤ 12) ∧ (if zFi (fun c => w 15 c.toNat = ((zad w) 3 5)) ((w 14 0)).toNat 0 = (-1) then K (0, some (0, 0)) (zupd (zupd (zad w) 3 7 4) 3 8 ((zad w) 3 2)) 238 else (0 ≤ (w 14 0) ∧ (w 14 0) ≤ 12) ∧ (((0 ≤ (w 1 1) ∧ (w 1 1) ≤ 800) ∧ 0 ≤ ((zad w) 3 3) ∧ ((zad w) 3 3) ≤ (w 1 1)) ∧ (zif False (0 ≤ (zad (zad w)) 3 4) (zif False (1000 ≤ (zad (zad w)) 3 4 ∧ (zad (zad w)) 3 4 < 1015) (if (zad (zad w)) 3 4 = 1001 then (0 ≤ (w 14 0) ∧ (w 14 0) ≤ 12) ∧ (if zFi (fun c => w 15 c.toNat = ((zad (zad w)) 3 5)) ((w 14 0)).toNat 0 = (-1) then K (0, some (0, 0)) (zupd (zupd (zad (zad w)) 3 7 4) 3 8 ((zad (zad w)) 3 2)) 238 else (0 ≤ (w 14 0) ∧ (w 14 0) ≤ 12) ∧ (if zFi (fun c => w 15 c.toNat = ((zad (zad w)) 3 5)) ((w 14 0)).toNat 0 = zFi (fun c => w 15 c.toNat = ((zad w) 3 5)) ((w 14 0)).toNat 0 then K (0, some (0, 0)) (zupd (zupd (zad (zad w)) 3 7 3) 3 8 ((zad (zad w)) 3 2)) 238 else zif False ((0 ≤ (zFi (fun c => w 15 c.toNat = ((zad w) 3 5)) ((w 14 0)).toNat 0) ∧ (zFi (fun c => w 15 c.toNat = ((zad w) 3 5)) ((w 14 0)).toNat 0) < 12) ∧ (0 ≤ (zFi (fun c => w 15 c.toNat = ((zad (zad w)) 3 5)) ((w 14 0)).toNat 0) ∧ (zFi (fun c => w 15 c.toNat = ((zad (zad w)) 3 5)) ((w 14 0)).toNat 0) < 12)) (if w 19 (12 * (zFi (fun c => w 15 c.toNat = ((zad w) 3 5)) ((w 14 0)).toNat 0) + (zFi (fun c => w 15 c.toNat = ((zad (zad w)) 3 5)) ((w 14 0)).toNat 0)).toNat = (-1) then ((0 ≤ (w 1 1) ∧ (w 1 1) ≤ 800) ∧ 0 ≤ ((zad (zad w)) 3 3) ∧ ((zad (zad w)) 3 3) ≤ (w 1 1)) ∧ (zif False (0 ≤ (zad (zad (zad w))) 3 4) (zif False (1000 ≤ (zad (zad (zad w))) 3 4 ∧ (zad (zad (zad w))) 3 4 < 1015) (if (zad (zad (zad w))) 3 4 = 1001 then (0 ≤ (w 14 0) ∧ (w 14 0) ≤ 12) ∧ (if zFi (fun c => w 15 c.toNat = ((zad (zad (zad w))) 3 5)) ((w 14 0)).toNat 0 = (-1) then K (0, some (0, 0)) (zupd (zupd (zad (zad (zad w))) 3 7 4) 3 8 ((zad (zad (zad w))) 3 2)) 238 else (0 ≤ (w 14 0) ∧ (w 14 0) ≤ 12) ∧ (if zFi (fun c => w 15 c.toNat = ((zad (zad (zad w))) 3 5)) ((w 14 0)).toNat 0 = zFi (fun c => w 15 c.toNat = ((zad w) 3 5)) ((w 14 0)).toNat 0 then K (0, some (0, 0)) (zupd (zupd (zad (zad (zad w))) 3 7 3) 3 8 ((zad (zad (zad w))) 3 2)) 238 else if zFi (fun c => w 15 c.toNat = ((zad (zad (zad w))) 3 5)) ((w 14 0)).toNat 0 = zFi (fun c => w 15 c.toNat = ((zad (zad w)) 3 5)) ((w 14 0)).toNat 0 then K (0, some (0, 0)) (zupd (zupd (zad (zad (zad w))) 3 7 3) 3 8 ((zad (zad (zad w))) 3 2)) 238 else zif False ((0 ≤ (zFi (fun c => w 15 c.toNat = ((zad (zad w)) 3 5)) ((w 14 0)).toNat 0) ∧ (zFi (fun c => w 15 c.toNat = ((zad (zad w)) 3 5)) ((w 14 0)).toNat 0) < 12) ∧ (0 ≤ (zFi (fun c => w 15 c.toNat = ((zad (zad (zad w))) 3 5)) ((w 14 0)).toNat 0) ∧ (zFi (fun c => w 15 c.toNat = ((zad (zad (zad w))) 3 5)) ((w 14 0)).toNat 0) < 12)) (if w 19 (12 * (zFi (fun c => w 15 c.toNat = ((zad (zad w)) 3 5)) ((w 14 0)).toNat 0) + (zFi (fun c => w 15 c.toNat = ((zad (zad (zad w))) 3 5)) ((w 14 0)).toNat 0)).toNat = (-1) then zif False ((0 ≤ (zFi (fun c => w 15 c.toNat = ((zad (zad (zad w))) 3 5)) ((w 14 0)).toNat 0) ∧ (zFi (fun c => w 15 c.toNat = ((zad (zad (zad w))) 3 5)) ((w 14 0)).toNat 0) < 12) ∧ (0 ≤ (zFi (fun c => w 15 c.toNat = ((zad w) 3 5)) ((w 14 0)).toNat 0) ∧ (zFi (fun c => w 15 c.toNat = ((zad w) 3 5)) ((w 14 0)).toNat 0) < 12)) (if w 19 (12 * (zFi (fun c => w 15 c.toNat = ((zad (zad (zad w))) 3 5)) ((w 14 0)).toNat 0) + (zFi (fun c => w 15 c.toNat = ((zad w) 3 5)) ((w 14 0)).toNat 0)).toNat = (-1) then ((0 ≤ (w 1 1) ∧ (w 1 1) ≤ 800) ∧ 0 ≤ ((zad (zad (zad w))) 3 3) ∧ ((zad (zad (zad w))) 3 3) ≤ (w 1 1)) ∧ (((0 ≤ (w 14 1) ∧ (w 14 1) < 20) ∧ (0 ≤ (zFi (fun c => w 15 c.toNat = ((zad w) 3 5)) ((w 14 0)).toNat 0) ∧ (zFi (fun c => w 15 c.toNat = ((zad w) 3 5)) ((w 14 0)).toNat 0) < 12) ∧ (0 ≤ (zFi (fun c => w 15 c.toNat = ((zad (zad w)) 3 5)) ((w 14 0)).toNat 0) ∧ (zFi (fun c => w 15 c.toNat = ((zad (zad w)) 3 5)) ((w 14 0)).toNat 0) < 12) ∧ 0 ≤ (zFi (fun c => w 15 c.toNat = ((zad (zad (zad w))) 3 5)) ((w 14 0)).toNat 0) ∧ (zFi (fun c => w 15 c.toNat = ((zad (zad (zad w))) 3 5)) ((w 14 0)).toNat 0) < 12) ∧ (K (0, some (0, 1)) (zafc (zad (zad (zad (zad w)))) (zFi (fun c => w 15 c.toNat = ((zad w) 3 5)) ((w 14 0)).toNat 0) (zFi (fun c => w 15 c.toNat = ((zad (zad w)) 3 5)) ((w 14 0)).toNat 0) (zFi (fun c => w 15 c.toNat = ((zad (zad (zad w))) 3 5)) ((w 14 0)).toNat 0)) 238)) else K (0, some (0, 0)) (zupd (zupd (zad (zad (zad w))) 3 7 3) 3 8 ((zad (zad (zad w))) 3 2)) 238) else K (0, some (0, 0)) (zupd (zupd (zad (zad (zad w))) 3 7 3) 3 8 ((zad (zad (zad w))) 3 2)) 238))) else K (0, some (0, 0)) (zupd (zupd (zad (zad (zad w))) 3 7 1) 3 8 ((zad (zad (zad w))) 3 2)) 238))) else K (0, some (0, 0)) (zupd (zupd (zad (zad w)) 3 7 3) 3 8 ((zad (zad w)) 3 2)) 238))) else K (0, some (0, 0)) (zupd (zupd (zad (zad w)) 3 7 1) 3 8 ((zad (zad w)) 3 2)) 238))))) else K (0, some (0, 0)) (zupd (zupd (zad w) 3 7 1) 3 8 ((zad w) 3 2)) 238))) else K (0, some (0, 0)) (zupd (zupd w 3 7 5) 3 8 (w 3 2)) 238) → _ from fun h => show zwp 49 0 [(2, 13), (9, 0), (9, 0), (9, 0)] [] w 238 0 K from zgo_imp zT180_ok (cut := fun pc => Nat.beq pc 20 || Nat.beq pc 28 || Nat.beq pc 39 || Nat.beq pc 58 || Nat.beq pc 66 || Nat.beq pc 77 || Nat.beq pc 96 || Nat.beq pc 111 || Nat.beq pc 123 || Nat.beq pc 131 || Nat.beq pc 142 || Nat.beq pc 161 || Nat.beq pc 176 || Nat.beq pc 181 || Nat.beq pc 194 || Nat.beq pc 206 || Nat.beq pc 214 || Nat.beq pc 224) 400 (show if w 14 1 < 20 then ((0 ≤ w 1 1 ∧ w 1 1 ≤ 800) ∧ 0 ≤ w 3 3 ∧ w 3 3 ≤ w 1 1) ∧ (zwp 49 28 [(2, 13), (9, 0), (9, 0), (9, 0)] [] (zad w) 238 0 K) else zwp 49 20 [(2, 13), (9, 0), (9, 0), (9, 0)] [(0, 0)] (zupd (zupd w 3 7 5) 3 8 (w 3 2)) 238 0 K from zmI (fun h => zmA (fun h => (fun h => show zwp 49 28 [(2, 13), (9, 0), (9, 0), (9, 0)] [] (zad w) 238 0 K from zgo_imp zT180_ok (cut := fun pc => Nat.beq pc 20 || Nat.beq pc 28 || Nat.beq pc 39 || Nat.beq pc 58 || Nat.beq pc 66 || Nat.beq pc 77 || Nat.beq pc 96 || Nat.beq pc 111 || Nat.beq pc 123 || Nat.beq pc 131 || Nat.beq pc 142 || Nat.beq pc 161 || Nat.beq pc 176 || Nat.beq pc 181 || Nat.beq pc 194 || Nat.beq pc 206 || Nat.beq pc 214 || Nat.beq pc 224) 400 (show zif False (0 ≤ (zad w) 3 4) (zif False (1000 ≤ (zad w) 3 4 ∧ (zad w) 3 4 < 1015) (if (zad w) 3 4 = 1001 then (0 ≤ (w 14 0) ∧ (w 14 0) ≤ 12) ∧ (if zFi (fun c => w 15 c.toNat = ((zad w) 3 5)) ((w 14 0)).toNat 0 = (-1) then zwp 49 39 [(2, 13), (9, 0), (9, 0), (9, 0)] [(0, 0)] (zupd (zupd (zad w) 3 7 4) 3 8 ((zad w) 3 2)) 238 0 K else zwp 49 39 [(2, 13), (9, 0), (9, 0), (9, 0)] [(0, 1)] (zad w) 238 0 K) else zwp 49 39 [(2, 13), (9, 0), (9, 0), (9, 0)] [(0, 0)] (zupd (zupd (zad w) 3 7 1) 3 8 ((zad w) 3 2)) 238 0 K)) from zmZ (fun h => zmZ (fun h => zmI (fun h => zmA (fun h => zmI (fun h => (fun h => show zwp 49 39 [(2, 13), (9, 0), (9, 0), (9, 0)] [(0, 0)] (zupd (zupd (zad w) 3 7 4) 3 8 ((zad w) 3 2)) 238 0 K from zgo_imp zT180_ok (cut := fun pc => Nat.beq pc 20 || Nat.beq pc 28 || Nat.beq pc 39 || Nat.beq pc 58 || Nat.beq pc 66 || Nat.beq pc 77 || Nat.beq pc 96 || Nat.beq pc 111 || Nat.beq pc 123 || Nat.beq pc 131 || Nat.beq pc 142 || Nat.beq pc 161 || Nat.beq pc 176 || Nat.beq pc 181 || Nat.beq pc 194 || Nat.beq pc 206 || Nat.beq pc 214 || Nat.beq pc 224) 400 (show K (0, some (0, 0)) (zupd (zupd (zad w) 3 7 4) 3 8 ((zad w) 3 2)) 238 from h)) h) (fun h => (fun h => show zwp 49 39 [(2, 13), (9, 0), (9, 0), (9, 0)] [(0, 1)] (zad w) 238 0 K from zgo_imp zT180_ok (cut := fun pc => Nat.beq pc 20 || Nat.beq pc 28 || Nat.beq pc 39 || Nat.beq pc 58 || Nat.beq pc 66 || Nat.beq pc 77 || Nat.beq pc 96 || Nat.beq pc 111 || Nat.beq pc 123 || Nat.beq pc 131 || Nat.beq pc 142 || Nat.beq pc 161 || Nat.beq pc 176 || Nat.beq pc 181 || Nat.beq pc 194 || Nat.beq pc 206 || Nat.beq pc 214 || Nat.beq pc 224) 400 (show (0 ≤ (w 14 0) ∧ (w 14 0) ≤ 12) ∧ (zwp 49 58 [(2, 13), (9, 0), (9, 0), (9, 0)] [(0, zFi (fun c => w 15 c.toNat = ((zad w) 3 5)) ((w 14 0)).toNat 0)] (zad w) 238 0 K) from zmA (fun h => (fun h => show zwp 49 58 [(2, 13), (9, 0), (9, 0), (9, 0)] [(0, zFi (fun c => w 15 c.toNat = ((zad w) 3 5)) ((w 14 0)).toNat 0)] (zad w) 238 0 K from zgo_imp zT180_ok (cut := fun pc => Nat.beq pc 20 || Nat.beq pc 28 || Nat.beq pc 39 || Nat.beq pc 58 || Nat.beq pc 66 || Nat.beq pc 77 || Nat.beq pc 96 || Nat.beq pc 111 || Nat.beq pc 123 || Nat.beq pc 131 || Nat.beq pc 142 || Nat.beq pc 161 || Nat.beq pc 176 || Nat.beq pc 181 || Nat.beq pc 194 || Nat.beq pc 206 || Nat.beq pc 214 || Nat.beq pc 224) 400 (show ((0 ≤ (w 1 1) ∧ (w 1 1) ≤ 800) ∧ 0 ≤ ((zad w) 3 3) ∧ ((zad w) 3 3) ≤ (w 1 1)) ∧ (zwp 49 66 [(2, 13), (0, zFi (fun c => w 15 c.toNat = ((zad w) 3 5)) ((w 14 0)).toNat 0), (9, 0), (9, 0)] [] (zad (zad w)) 238 0 K) from zmA (fun h => (fun h => show zwp 49 66 [(2, 13), (0, zFi (fun c => w 15 c.toNat = ((zad w) 3 5)) ((w 14 0)).toNat 0), (9, 0), (9, 0)] [] (zad (zad w)) 238 0 K from zgo_imp zT180_ok (cut := fun pc => Nat.beq pc 20 || Nat.beq pc 28 || Nat.beq pc 39 || Nat.beq pc 58 || Nat.beq pc 66 || Nat.beq pc 77 || Nat.beq pc 96 || Nat.beq pc 111 || Nat.beq pc 123 || Nat.beq pc 131 || Nat.beq pc 142 || Nat.beq pc 161 || Nat.beq pc 176 || Nat.beq pc 181 || Nat.beq pc 194 || Nat.beq pc 206 || Nat.beq pc 214 || Nat.beq pc 224) 400 (show zif False (0 ≤ (zad (zad w)) 3 4) (zif False (1000 ≤ (zad (zad w)) 3 4 ∧ (zad (zad w)) 3 4 < 1015) (if (zad (zad w)) 3 4 = 1001 then (0 ≤ (w 14 0) ∧ (w 14 0) ≤ 12) ∧ (if zFi (fun c => w 15 c.toNat = ((zad (zad w)) 3 5)) ((w 14 0)).toNat 0 = (-1) then zwp 49 77 [(2, 13), (0, zFi (fun c => w 15 c.toNat = ((zad w) 3 5)) ((w 14 0)).toNat 0), (9, 0), (9, 0)] [(0, 0)] (zupd (zupd (zad (zad w)) 3 7 4) 3 8 ((zad (zad w)) 3 2)) 238 0 K else zwp 49 77 [(2, 13), (0, zFi (fun c => w 15 c.toNat = ((zad w) 3 5)) ((w 14 0)).toNat 0), (9, 0), (9, 0)] [(0, 1)] (zad (zad w)) 238 0 K) else zwp 49 77 [(2, 13), (0, zFi (fun c => w 15 c.toNat = ((zad w) 3 5)) ((w 14 0)).toNat 0), (9, 0), (9, 0)] [(0, 0)] (zupd (zupd (zad (zad w)) 3 7 1) 3 8 ((zad (zad w)) 3 2)) 238 0 K)) from zmZ (fun h => zmZ (fun h => zmI (fun h => zmA (fun h => zmI (fun h => (fun h => show zwp 49 77 [(2, 13), (0, zFi (fun c => w 15 c.toNat = ((zad w) 3 5)) ((w 14 0)).toNat 0), (9, 0), (9, 0)] [(0, 0)] (zupd (zupd (zad (zad w)) 3 7 4) 3 8 ((zad (zad w)) 3 2)) 238 0 K from zgo_imp zT180_ok (cut := fun pc => Nat.beq pc 20 || Nat.beq pc 28 || Nat.beq pc 39 || Nat.beq pc 58 || Nat.beq pc 66 || Nat.beq pc 77 || Nat.beq pc 96 || Nat.beq pc 111 || Nat.beq pc 123 || Nat.beq pc 131 || Nat.beq pc 142 || Nat.beq pc 161 || Nat.beq pc 176 || Nat.beq pc 181 || Nat.beq pc 194 || Nat.beq pc 206 || Nat.beq pc 214 || Nat.beq pc 224) 400 (show K (0, some (0, 0)) (zupd (zupd (zad (zad w)) 3 7 4) 3 8 ((zad (zad w)) 3 2)) 238 from h)) h) (fun h => (fun h => show zwp 49 77 [(2, 13), (0, zFi (fun c => w 15 c.toNat = ((zad w) 3 5)) ((w 14 0)).toNat 0), (9, 0), (9, 0)] [(0, 1)] (zad (zad w)) 238 0 K from zgo_imp zT180_ok (cut := fun pc => Nat.beq pc 20 || Nat.beq pc 28 || Nat.beq pc 39 || Nat.beq pc 58 || Nat.beq pc 66 || Nat.beq pc 77 || Nat.beq pc 96 || Nat.beq pc 111 || Nat.beq pc 123 || Nat.beq pc 131 || Nat.beq pc 142 || Nat.beq pc 161 || Nat.beq pc 176 || Nat.beq pc 181 || Nat.beq pc 194 || Nat.beq pc 206 || Nat.beq pc 214 || Nat.beq pc 224) 400 (show (0 ≤ (w 14 0) ∧ (w 14 0) ≤ 12) ∧ (zwp 49 96 [(2, 13), (0, zFi (fun c => w 15 c.toNat = ((zad w) 3 5)) ((w 14 0)).toNat 0), (9, 0), (9, 0)] [(0, zFi (fun c => w 15 c.toNat = ((zad (zad w)) 3 5)) ((w 14 0)).toNat 0)] (zad (zad w)) 238 0 K) from zmA (fun h => (fun h => show zwp 49 96 [(2, 13), (0, zFi (fun c => w 15 c.toNat = ((zad w) 3 5)) ((w 14 0)).toNat 0), (9, 0), (9, 0)] [(0, zFi (fun c => w 15 c.toNat = ((zad (zad w)) 3 5)) ((w 14 0)).toNat 0)] (zad (zad w)) 238 0 K from zgo_imp zT180_ok (cut := fun pc => Nat.beq pc 20 || Nat.beq pc 28 || Nat.beq pc 39 || Nat.beq pc 58 || Nat.beq pc 66 || Nat.beq pc 77 || Nat.beq pc 96 || Nat.beq pc 111 || Nat.beq pc 123 || Nat.beq pc 131 || Nat.beq pc 142 || Nat.beq pc 161 || Nat.beq pc 176 || Nat.beq pc 181 || Nat.beq pc 194 || Nat.beq pc 206 || Nat.beq pc 214 || Nat.beq pc 224) 400 (show if zFi (fun c => w 15 c.toNat = ((zad (zad w)) 3 5)) ((w 14 0)).toNat 0 = zFi (fun c => w 15 c.toNat = ((zad w) 3 5)) ((w 14 0)).toNat 0 then zwp 49 123 [(2, 13), (9, 0), (9, 0), (9, 0)] [(0, 0)] (zupd (zupd (zad (zad w)) 3 7 3) 3 8 ((zad (zad w)) 3 2)) 238 0 K else zif False ((0 ≤ (zFi (fun c => w 15 c.toNat = ((zad w) 3 5)) ((w 14 0)).toNat 0) ∧ (zFi (fun c => w 15 c.toNat = ((zad w) 3 5)) ((w 14 0)).toNat 0) < 12) ∧ (0 ≤ (zFi (fun c => w 15 c.toNat = ((zad (zad w)) 3 5)) ((w 14 0)).toNat 0) ∧ (zFi (fun c => w 15 c.toNat = ((zad (zad w)) 3 5)) ((w 14 0)).toNat 0) < 12)) (zwp 49 111 [(2, 13), (0, zFi (fun c => w 15 c.toNat = ((zad w) 3 5)) ((w 14 0)).toNat 0), (0, zFi (fun c => w 15 c.toNat = ((zad (zad w)) 3 5)) ((w 14 0)).toNat 0), (9, 0)] [(0, w 19 (12 * (zFi (fun c => w 15 c.toNat = ((zad w) 3 5)) ((w 14 0)).toNat 0) + (zFi (fun c => w 15 c.toNat = ((zad (zad w)) 3 5)) ((w 14 0)).toNat 0)).toNat)] (zad (zad w)) 238 0 K) from zmI (fun h => (fun h => show zwp 49 123 [(2, 13), (9, 0), (9, 0), (9, 0)] [(0, 0)] (zupd (zupd (zad (zad w)) 3 7 3) 3 8 ((zad (zad w)) 3 2)) 238 0 K from zgo_imp zT180_ok (cut := fun pc => Nat.beq pc 20 || Nat.beq pc 28 || Nat.beq pc 39 || Nat.beq pc 58 || Nat.beq pc 66 || Nat.beq pc 77 || Nat.beq pc 96 || Nat.beq pc 111 || Nat.beq pc 123 || Nat.beq pc 131 || Nat.beq pc 142 || Nat.beq pc 161 || Nat.beq pc 176 || Nat.beq pc 181 || Nat.beq pc 194 || Nat.beq pc 206 || Nat.beq pc 214 || Nat.beq pc 224) 400 (show K (0, some (0, 0)) (zupd (zupd (zad (zad w)) 3 7 3) 3 8 ((zad (zad w)) 3 2)) 238 from h)) h) (fun h => zmZ (fun h => (fun h => show zwp 49 111 [(2, 13), (0, zFi (fun c => w 15 c.toNat = ((zad w) 3 5)) ((w 14 0)).toNat 0), (0, zFi (fun c => w 15 c.toNat = ((zad (zad w)) 3 5)) ((w 14 0)).toNat 0), (9, 0)] [(0, w 19 (12 * (zFi (fun c => w 15 c.toNat = ((zad w) 3 5)) ((w 14 0)).toNat 0) + (zFi (fun c => w 15 c.toNat = ((zad (zad w)) 3 5)) ((w 14 0)).toNat 0)).toNat)] (zad (zad w)) 238 0 K from zgo_imp zT180_ok (cut := fun pc => Nat.beq pc 20 || Nat.beq pc 28 || Nat.beq pc 39 || Nat.beq pc 58 || Nat.beq pc 66 || Nat.beq pc 77 || Nat.beq pc 96 || Nat.beq pc 111 || Nat.beq pc 123 || Nat.beq pc 131 || Nat.beq pc 142 || Nat.beq pc 161 || Nat.beq pc 176 || Nat.beq pc 181 || Nat.beq pc 194 || Nat.beq pc 206 || Nat.beq pc 214 || Nat.beq pc 224) 400 (show if w 19 (12 * (zFi (fun c => w 15 c.toNat = ((zad w) 3 5)) ((w 14 0)).toNat 0) + (zFi (fun c => w 15 c.toNat = ((zad (zad w)) 3 5)) ((w 14 0)).toNat 0)).toNat = (-1) then ((0 ≤ (w 1 1) ∧ (w 1 1) ≤ 800) ∧ 0 ≤ ((zad (zad w)) 3 3) ∧ ((zad (zad w)) 3 3) ≤ (w 1 1)) ∧ (zwp 49 131 [(2, 13), (0, zFi (fun c => w 15 c.toNat = ((zad w) 3 5)) ((w 14 0)).toNat 0), (0, zFi (fun c => w 15 c.toNat = ((zad (zad w)) 3 5)) ((w 14 0)).toNat 0), (9, 0)] [] (zad (zad (zad w))) 238 0 K) else zwp 49 123 [(2, 13), (9, 0), (9, 0), (9, 0)] [(0, 0)] (zupd (zupd (zad (zad w)) 3 7 3) 3 8 ((zad (zad w)) 3 2)) 238 0 K from zmI (fun h => zmA (fun h => (fun h => show zwp 49 131 [(2, 13), (0, zFi (fun c => w 15 c.toNat = ((zad w) 3 5)) ((w 14 0)).toNat 0), (0, zFi (fun c => w 15 c.toNat = ((zad (zad w)) 3 5)) ((w 14 0)).toNat 0), (9, 0)] [] (zad (zad (zad w))) 238 0 K from zgo_imp zT180_ok (cut := fun pc => Nat.beq pc 20 || Nat.beq pc 28 || Nat.beq pc 39 || Nat.beq pc 58 || Nat.beq pc 66 || Nat.beq pc 77 || Nat.beq pc 96 || Nat.beq pc 111 || Nat.beq pc 123 || Nat.beq pc 131 || Nat.beq pc 142 || Nat.beq pc 161 || Nat.beq pc 176 || Nat.beq pc 181 || Nat.beq pc 194 || Nat.beq pc 206 || Nat.beq pc 214 || Nat.beq pc 224) 400 (show zif False (0 ≤ (zad (zad (zad w))) 3 4) (zif False (1000 ≤ (zad (zad (zad w))) 3 4 ∧ (zad (zad (zad w))) 3 4 < 1015) (if (zad (zad (zad w))) 3 4 = 1001 then (0 ≤ (w 14 0) ∧ (w 14 0) ≤ 12) ∧ (if zFi (fun c => w 15 c.toNat = ((zad (zad (zad w))) 3 5)) ((w 14 0)).toNat 0 = (-1) then zwp 49 142 [(2, 13), (0, zFi (fun c => w 15 c.toNat = ((zad w) 3 5)) ((w 14 0)).toNat 0), (0, zFi (fun c => w 15 c.toNat = ((zad (zad w)) 3 5)) ((w 14 0)).toNat 0), (9, 0)] [(0, 0)] (zupd (zupd (zad (zad (zad w))) 3 7 4) 3 8 ((zad (zad (zad w))) 3 2)) 238 0 K else zwp 49 142 [(2, 13), (0, zFi (fun c => w 15 c.toNat = ((zad w) 3 5)) ((w 14 0)).toNat 0), (0, zFi (fun c => w 15 c.toNat = ((zad (zad w)) 3 5)) ((w 14 0)).toNat 0), (9, 0)] [(0, 1)] (zad (zad (zad w))) 238 0 K) else zwp 49 142 [(2, 13), (0, zFi (fun c => w 15 c.toNat = ((zad w) 3 5)) ((w 14 0)).toNat 0), (0, zFi (fun c => w 15 c.toNat = ((zad (zad w)) 3 5)) ((w 14 0)).toNat 0), (9, 0)] [(0, 0)] (zupd (zupd (zad (zad (zad w))) 3 7 1) 3 8 ((zad (zad (zad w))) 3 2)) 238 0 K)) from zmZ (fun h => zmZ (fun h => zmI (fun h => zmA (fun h => zmI (fun h => (fun h => show zwp 49 142 [(2, 13), (0, zFi (fun c => w 15 c.toNat = ((zad w) 3 5)) ((w 14 0)).toNat 0), (0, zFi (fun c => w 15 c.toNat = ((zad (zad w)) 3 5)) ((w 14 0)).toNat 0), (9, 0)] [(0, 0)] (zupd (zupd (zad (zad (zad w))) 3 7 4) 3 8 ((zad (zad (zad w))) 3 2)) 238 0 K from zgo_imp zT180_ok (cut := fun pc => Nat.beq pc 20 || Nat.beq pc 28 || Nat.beq pc 39 || Nat.beq pc 58 || Nat.beq pc 66 || Nat.beq pc 77 || Nat.beq pc 96 || Nat.beq pc 111 || Nat.beq pc 123 || Nat.beq pc 131 || Nat.beq pc 142 || Nat.beq pc 161 || Nat.beq pc 176 || Nat.beq pc 181 || Nat.beq pc 194 || Nat.beq pc 206 || Nat.beq pc 214 || Nat.beq pc 224) 400 (show K (0, some (0, 0)) (zupd (zupd (zad (zad (zad w))) 3 7 4) 3 8 ((zad (zad (zad w))) 3 2)) 238 from h)) h) (fun h => (fun h => show zwp 49 142 [(2, 13), (0, zFi (fun c => w 15 c.toNat = ((zad w) 3 5)) ((w 14 0)).toNat 0), (0, zFi (fun c => w 15 c.toNat = ((zad (zad w)) 3 5)) ((w 14 0)).toNat 0), (9, 0)] [(0, 1)] (zad (zad (zad w))) 238 0 K from zgo_imp zT180_ok (cut := fun pc => Nat.beq pc 20 || Nat.beq pc 28 || Nat.beq pc 39 || Nat.beq pc 58 || Nat.beq pc 66 || Nat.beq pc 77 || Nat.beq pc 96 || Nat.beq pc 111 || Nat.beq pc 123 || Nat.beq pc 131 || Nat.beq pc 142 || Nat.beq pc 161 || Nat.beq pc 176 || Nat.beq pc 181 || Nat.beq pc 194 || Nat.beq pc 206 || Nat.beq pc 214 || Nat.beq pc 224) 400 (show (0 ≤ (w 14 0) ∧ (w 14 0) ≤ 12) ∧ (zwp 49 161 [(2, 13), (0, zFi (fun c => w 15 c.toNat = ((zad w) 3 5)) ((w 14 0)).toNat 0), (0, zFi (fun c => w 15 c.toNat = ((zad (zad w)) 3 5)) ((w 14 0)).toNat 0), (9, 0)] [(0, zFi (fun c => w 15 c.toNat = ((zad (zad (zad w))) 3 5)) ((w 14 0)).toNat 0)] (zad (zad (zad w))) 238 0 K) from zmA (fun h => (fun h => show zwp 49 161 [(2, 13), (0, zFi (fun c => w 15 c.toNat = ((zad w) 3 5)) ((w 14 0)).toNat 0), (0, zFi (fun c => w 15 c.toNat = ((zad (zad w)) 3 5)) ((w 14 0)).toNat 0), (9, 0)] [(0, zFi (fun c => w 15 c.toNat = ((zad (zad (zad w))) 3 5)) ((w 14 0)).toNat 0)] (zad (zad (zad w))) 238 0 K from zgo_imp zT180_ok (cut := fun pc => Nat.beq pc 20 || Nat.beq pc 28 || Nat.beq pc 39 || Nat.beq pc 58 || Nat.beq pc 66 || Nat.beq pc 77 || Nat.beq pc 96 || Nat.beq pc 111 || Nat.beq pc 123 || Nat.beq pc 131 || Nat.beq pc 142 || Nat.beq pc 161 || Nat.beq pc 176 || Nat.beq pc 181 || Nat.beq pc 194 || Nat.beq pc 206 || Nat.beq pc 214 || Nat.beq pc 224) 400 (show if zFi (fun c => w 15 c.toNat = ((zad (zad (zad w))) 3 5)) ((w 14 0)).toNat 0 = zFi (fun c => w 15 c.toNat = ((zad w) 3 5)) ((w 14 0)).toNat 0 then zwp 49 206 [(2, 13), (9, 0), (9, 0), (9, 0)] [(0, 0)] (zupd (zupd (zad (zad (zad w))) 3 7 3) 3 8 ((zad (zad (zad w))) 3 2)) 238 0 K else if zFi (fun c => w 15 c.toNat = ((zad (zad (zad w))) 3 5)) ((w 14 0)).toNat 0 = zFi (fun c => w 15 c.toNat = ((zad (zad w)) 3 5)) ((w 14 0)).toNat 0 then zwp 49 206 [(2, 13), (9, 0), (9, 0), (9, 0)] [(0, 0)] (zupd (zupd (zad (zad (zad w))) 3 7 3) 3 8 ((zad (zad (zad w))) 3 2)) 238 0 K else zwp 49 176 [(2, 13), (0, zFi (fun c => w 15 c.toNat = ((zad w) 3 5)) ((w 14 0)).toNat 0), (0, zFi (fun c => w 15 c.toNat = ((zad (zad w)) 3 5)) ((w 14 0)).toNat 0), (0, zFi (fun c => w 15 c.toNat = ((zad (zad (zad w))) 3 5)) ((w 14 0)).toNat 0)] [(2, 14)] (zad (zad (zad w))) 238 0 K from zmI (fun h => (fun h => show zwp 49 206 [(2, 13), (9, 0), (9, 0), (9, 0)] [(0, 0)] (zupd (zupd (zad (zad (zad w))) 3 7 3) 3 8 ((zad (zad (zad w))) 3 2)) 238 0 K from zgo_imp zT180_ok (cut := fun pc => Nat.beq pc 20 || Nat.beq pc 28 || Nat.beq pc 39 || Nat.beq pc 58 || Nat.beq pc 66 || Nat.beq pc 77 || Nat.beq pc 96 || Nat.beq pc 111 || Nat.beq pc 123 || Nat.beq pc 131 || Nat.beq pc 142 || Nat.beq pc 161 || Nat.beq pc 176 || Nat.beq pc 181 || Nat.beq pc 194 || Nat.beq pc 206 || Nat.beq pc 214 || Nat.beq pc 224) 400 (show K (0, some (0, 0)) (zupd (zupd (zad (zad (zad w))) 3 7 3) 3 8 ((zad (zad (zad w))) 3 2)) 238 from h)) h) (fun h => zmI (fun h => (fun h => show zwp 49 206 [(2, 13), (9, 0), (9, 0), (9, 0)] [(0, 0)] (zupd (zupd (zad (zad (zad w))) 3 7 3) 3 8 ((zad (zad (zad w))) 3 2)) 238 0 K from zgo_imp zT180_ok (cut := fun pc => Nat.beq pc 20 || Nat.beq pc 28 || Nat.beq pc 39 || Nat.beq pc 58 || Nat.beq pc 66 || Nat.beq pc 77 || Nat.beq pc 96 || Nat.beq pc 111 || Nat.beq pc 123 || Nat.beq pc 131 || Nat.beq pc 142 || Nat.beq pc 161 || Nat.beq pc 176 || Nat.beq pc 181 || Nat.beq pc 194 || Nat.beq pc 206 || Nat.beq pc 214 || Nat.beq pc 224) 400 (show K (0, some (0, 0)) (zupd (zupd (zad (zad (zad w))) 3 7 3) 3 8 ((zad (zad (zad w))) 3 2)) 238 from h)) h) (fun h => (fun h => show zwp 49 176 [(2, 13), (0, zFi (fun c => w 15 c.toNat = ((zad w) 3 5)) ((w 14 0)).toNat 0), (0, zFi (fun c => w 15 c.toNat = ((zad (zad w)) 3 5)) ((w 14 0)).toNat 0), (0, zFi (fun c => w 15 c.toNat = ((zad (zad (zad w))) 3 5)) ((w 14 0)).toNat 0)] [(2, 14)] (zad (zad (zad w))) 238 0 K from zgo_imp zT180_ok (cut := fun pc => Nat.beq pc 20 || Nat.beq pc 28 || Nat.beq pc 39 || Nat.beq pc 58 || Nat.beq pc 66 || Nat.beq pc 77 || Nat.beq pc 96 || Nat.beq pc 111 || Nat.beq pc 123 || Nat.beq pc 131 || Nat.beq pc 142 || Nat.beq pc 161 || Nat.beq pc 176 || Nat.beq pc 181 || Nat.beq pc 194 || Nat.beq pc 206 || Nat.beq pc 214 || Nat.beq pc 224) 400 (show zif False ((0 ≤ (zFi (fun c => w 15 c.toNat = ((zad (zad w)) 3 5)) ((w 14 0)).toNat 0) ∧ (zFi (fun c => w 15 c.toNat = ((zad (zad w)) 3 5)) ((w 14 0)).toNat 0) < 12) ∧ (0 ≤ (zFi (fun c => w 15 c.toNat = ((zad (zad (zad w))) 3 5)) ((w 14 0)).toNat 0) ∧ (zFi (fun c => w 15 c.toNat = ((zad (zad (zad w))) 3 5)) ((w 14 0)).toNat 0) < 12)) (zwp 49 181 [(2, 13), (0, zFi (fun c => w 15 c.toNat = ((zad w) 3 5)) ((w 14 0)).toNat 0), (0, zFi (fun c => w 15 c.toNat = ((zad (zad w)) 3 5)) ((w 14 0)).toNat 0), (0, zFi (fun c => w 15 c.toNat = ((zad (zad (zad w))) 3 5)) ((w 14 0)).toNat 0)] [(0, w 19 (12 * (zFi (fun c => w 15 c.toNat = ((zad (zad w)) 3 5)) ((w 14 0)).toNat 0) + (zFi (fun c => w 15 c.toNat = ((zad (zad (zad w))) 3 5)) ((w 14 0)).toNat 0)).toNat)] (zad (zad (zad w))) 238 0 K) from zmZ (fun h => (fun h => show zwp 49 181 [(2, 13), (0, zFi (fun c => w 15 c.toNat = ((zad w) 3 5)) ((w 14 0)).toNat 0), (0, zFi (fun c => w 15 c.toNat = ((zad (zad w)) 3 5)) ((w 14 0)).toNat 0), (0, zFi (fun c => w 15 c.toNat = ((zad (zad (zad w))) 3 5)) ((w 14 0)).toNat 0)] [(0, w 19 (12 * (zFi (fun c => w 15 c.toNat = ((zad (zad w)) 3 5)) ((w 14 0)).toNat 0) + (zFi (fun c => w 15 c.toNat = ((zad (zad (zad w))) 3 5)) ((w 14 0)).toNat 0)).toNat)] (zad (zad (zad w))) 238 0 K from zgo_imp zT180_ok (cut := fun pc => Nat.beq pc 20 || Nat.beq pc 28 || Nat.beq pc 39 || Nat.beq pc 58 || Nat.beq pc 66 || Nat.beq pc 77 || Nat.beq pc 96 || Nat.beq pc 111 || Nat.beq pc 123 || Nat.beq pc 131 || Nat.beq pc 142 || Nat.beq pc 161 || Nat.beq pc 176 || Nat.beq pc 181 || Nat.beq pc 194 || Nat.beq pc 206 || Nat.beq pc 214 || Nat.beq pc 224) 400 (show if w 19 (12 * (zFi (fun c => w 15 c.toNat = ((zad (zad w)) 3 5)) ((w 14 0)).toNat 0) + (zFi (fun c => w 15 c.toNat = ((zad (zad (zad w))) 3 5)) ((w 14 0)).toNat 0)).toNat = (-1) then zif False ((0 ≤ (zFi (fun c => w 15 c.toNat = ((zad (zad (zad w))) 3 5)) ((w 14 0)).toNat 0) ∧ (zFi (fun c => w 15 c.toNat = ((zad (zad (zad w))) 3 5)) ((w 14 0)).toNat 0) < 12) ∧ (0 ≤ (zFi (fun c => w 15 c.toNat = ((zad w) 3 5)) ((w 14 0)).toNat 0) ∧ (zFi (fun c => w 15 c.toNat = ((zad w) 3 5)) ((w 14 0)).toNat 0) < 12)) (zwp 49 194 [(2, 13), (0, zFi (fun c => w 15 c.toNat = ((zad w) 3 5)) ((w 14 0)).toNat 0), (0, zFi (fun c => w 15 c.toNat = ((zad (zad w)) 3 5)) ((w 14 0)).toNat 0), (0, zFi (fun c => w 15 c.toNat = ((zad (zad (zad w))) 3 5)) ((w 14 0)).toNat 0)] [(0, w 19 (12 * (zFi (fun c => w 15 c.toNat = ((zad (zad (zad w))) 3 5)) ((w 14 0)).toNat 0) + (zFi (fun c => w 15 c.toNat = ((zad w) 3 5)) ((w 14 0)).toNat 0)).toNat)] (zad (zad (zad w))) 238 0 K) else zwp 49 206 [(2, 13), (9, 0), (9, 0), (9, 0)] [(0, 0)] (zupd (zupd (zad (zad (zad w))) 3 7 3) 3 8 ((zad (zad (zad w))) 3 2)) 238 0 K from zmI (fun h => zmZ (fun h => (fun h => show zwp 49 194 [(2, 13), (0, zFi (fun c => w 15 c.toNat = ((zad w) 3 5)) ((w 14 0)).toNat 0), (0, zFi (fun c => w 15 c.toNat = ((zad (zad w)) 3 5)) ((w 14 0)).toNat 0), (0, zFi (fun c => w 15 c.toNat = ((zad (zad (zad w))) 3 5)) ((w 14 0)).toNat 0)] [(0, w 19 (12 * (zFi (fun c => w 15 c.toNat = ((zad (zad (zad w))) 3 5)) ((w 14 0)).toNat 0) + (zFi (fun c => w 15 c.toNat = ((zad w) 3 5)) ((w 14 0)).toNat 0)).toNat)] (zad (zad (zad w))) 238 0 K from zgo_imp zT180_ok (cut := fun pc => Nat.beq pc 20 || Nat.beq pc 28 || Nat.beq pc 39 || Nat.beq pc 58 || Nat.beq pc 66 || Nat.beq pc 77 || Nat.beq pc 96 || Nat.beq pc 111 || Nat.beq pc 123 || Nat.beq pc 131 || Nat.beq pc 142 || Nat.beq pc 161 || Nat.beq pc 176 || Nat.beq pc 181 || Nat.beq pc 194 || Nat.beq pc 206 || Nat.beq pc 214 || Nat.beq pc 224) 400 (show if w 19 (12 * (zFi (fun c => w 15 c.toNat = ((zad (zad (zad w))) 3 5)) ((w 14 0)).toNat 0) + (zFi (fun c => w 15 c.toNat = ((zad w) 3 5)) ((w 14 0)).toNat 0)).toNat = (-1) then ((0 ≤ (w 1 1) ∧ (w 1 1) ≤ 800) ∧ 0 ≤ ((zad (zad (zad w))) 3 3) ∧ ((zad (zad (zad w))) 3 3) ≤ (w 1 1)) ∧ (zwp 49 214 [(2, 13), (0, zFi (fun c => w 15 c.toNat = ((zad w) 3 5)) ((w 14 0)).toNat 0), (0, zFi (fun c => w 15 c.toNat = ((zad (zad w)) 3 5)) ((w 14 0)).toNat 0), (0, zFi (fun c => w 15 c.toNat = ((zad (zad (zad w))) 3 5)) ((w 14 0)).toNat 0)] [] (zad (zad (zad (zad w)))) 238 0 K) else zwp 49 206 [(2, 13), (9, 0), (9, 0), (9, 0)] [(0, 0)] (zupd (zupd (zad (zad (zad w))) 3 7 3) 3 8 ((zad (zad (zad w))) 3 2)) 238 0 K from zmI (fun h => zmA (fun h => (fun h => show zwp 49 214 [(2, 13), (0, zFi (fun c => w 15 c.toNat = ((zad w) 3 5)) ((w 14 0)).toNat 0), (0, zFi (fun c => w 15 c.toNat = ((zad (zad w)) 3 5)) ((w 14 0)).toNat 0), (0, zFi (fun c => w 15 c.toNat = ((zad (zad (zad w))) 3 5)) ((w 14 0)).toNat 0)] [] (zad (zad (zad (zad w)))) 238 0 K from zgo_imp zT180_ok (cut := fun pc => Nat.beq pc 20 || Nat.beq pc 28 || Nat.beq pc 39 || Nat.beq pc 58 || Nat.beq pc 66 || Nat.beq pc 77 || Nat.beq pc 96 || Nat.beq pc 111 || Nat.beq pc 123 || Nat.beq pc 131 || Nat.beq pc 142 || Nat.beq pc 161 || Nat.beq pc 176 || Nat.beq pc 181 || Nat.beq pc 194 || Nat.beq pc 206 || Nat.beq pc 214 || Nat.beq pc 224) 400 (show ((0 ≤ (w 14 1) ∧ (w 14 1) < 20) ∧ (0 ≤ (zFi (fun c => w 15 c.toNat = ((zad w) 3 5)) ((w 14 0)).toNat 0) ∧ (zFi (fun c => w 15 c.toNat = ((zad w) 3 5)) ((w 14 0)).toNat 0) < 12) ∧ (0 ≤ (zFi (fun c => w 15 c.toNat = ((zad (zad w)) 3 5)) ((w 14 0)).toNat 0) ∧ (zFi (fun c => w 15 c.toNat = ((zad (zad w)) 3 5)) ((w 14 0)).toNat 0) < 12) ∧ 0 ≤ (zFi (fun c => w 15 c.toNat = ((zad (zad (zad w))) 3 5)) ((w 14 0)).toNat 0) ∧ (zFi (fun c => w 15 c.toNat = ((zad (zad (zad w))) 3 5)) ((w 14 0)).toNat 0) < 12) ∧ (zwp 49 224 [(2, 13), (0, zFi (fun c => w 15 c.toNat = ((zad w) 3 5)) ((w 14 0)).toNat 0), (0, zFi (fun c => w 15 c.toNat = ((zad (zad w)) 3 5)) ((w 14 0)).toNat 0), (0, zFi (fun c => w 15 c.toNat = ((zad (zad (zad w))) 3 5)) ((w 14 0)).toNat 0)] [] (zafc (zad (zad (zad (zad w)))) (zFi (fun c => w 15 c.toNat = ((zad w) 3 5)) ((w 14 0)).toNat 0) (zFi (fun c => w 15 c.toNat = ((zad (zad w)) 3 5)) ((w 14 0)).toNat 0) (zFi (fun c => w 15 c.toNat = ((zad (zad (zad w))) 3 5)) ((w 14 0)).toNat 0)) 238 0 K) from zmA (fun h => (fun h => show zwp 49 224 [(2, 13), (0, zFi (fun c => w 15 c.toNat = ((zad w) 3 5)) ((w 14 0)).toNat 0), (0, zFi (fun c => w 15 c.toNat = ((zad (zad w)) 3 5)) ((w 14 0)).toNat 0), (0, zFi (fun c => w 15 c.toNat = ((zad (zad (zad w))) 3 5)) ((w 14 0)).toNat 0)] [] (zafc (zad (zad (zad (zad w)))) (zFi (fun c => w 15 c.toNat = ((zad w) 3 5)) ((w 14 0)).toNat 0) (zFi (fun c => w 15 c.toNat = ((zad (zad w)) 3 5)) ((w 14 0)).toNat 0) (zFi (fun c => w 15 c.toNat = ((zad (zad (zad w))) 3 5)) ((w 14 0)).toNat 0)) 238 0 K from zgo_imp zT180_ok (cut := fun pc => Nat.beq pc 20 || Nat.beq pc 28 || Nat.beq pc 39 || Nat.beq pc 58 || Nat.beq pc 66 || Nat.beq pc 77 || Nat.beq pc 96 || Nat.beq pc 111 || Nat.beq pc 123 || Nat.beq pc 131 || Nat.beq pc 142 || Nat.beq pc 161 || Nat.beq pc 176 || Nat.beq pc 181 || Nat.beq pc 194 || Nat.beq pc 206 || Nat.beq pc 214 || Nat.beq pc 224) 400 (show K (0, some (0, 1)) (zafc (zad (zad (zad (zad w)))) (zFi (fun c => w 15 c.toNat = ((zad w) 3 5)) ((w 14 0)).toNat 0) (zFi (fun c => w 15 c.toNat = ((zad (zad w)) 3 5)) ((w 14 0)).toNat 0) (zFi (fun c => w 15 c.toNat = ((zad (zad (zad w))) 3 5)) ((w 14 0)).toNat 0)) 238 from h)) h) h)) h) h) (fun h => (fun h => show zwp 49 206 [(2, 13), (9, 0), (9, 0), (9, 0)] [(0, 0)] (zupd (zupd (zad (zad (zad w))) 3 7 3) 3 8 ((zad (zad (zad w))) 3 2)) 238 0 K from zgo_imp zT180_ok (cut := fun pc => Nat.beq pc 20 || Nat.beq pc 28 || Nat.beq pc 39 || Nat.beq pc 58 || Nat.beq pc 66 || Nat.beq pc 77 || Nat.beq pc 96 || Nat.beq pc 111 || Nat.beq pc 123 || Nat.beq pc 131 || Nat.beq pc 142 || Nat.beq pc 161 || Nat.beq pc 176 || Nat.beq pc 181 || Nat.beq pc 194 || Nat.beq pc 206 || Nat.beq pc 214 || Nat.beq pc 224) 400 (show K (0, some (0, 0)) (zupd (zupd (zad (zad (zad w))) 3 7 3) 3 8 ((zad (zad (zad w))) 3 2)) 238 from h)) h) h)) h) h) (fun h => (fun h => show zwp 49 206 [(2, 13), (9, 0), (9, 0), (9, 0)] [(0, 0)] (zupd (zupd (zad (zad (zad w))) 3 7 3) 3 8 ((zad (zad (zad w))) 3 2)) 238 0 K from zgo_imp zT180_ok (cut := fun pc => Nat.beq pc 20 || Nat.beq pc 28 || Nat.beq pc 39 || Nat.beq pc 58 || Nat.beq pc 66 || Nat.beq pc 77 || Nat.beq pc 96 || Nat.beq pc 111 || Nat.beq pc 123 || Nat.beq pc 131 || Nat.beq pc 142 || Nat.beq pc 161 || Nat.beq pc 176 || Nat.beq pc 181 || Nat.beq pc 194 || Nat.beq pc 206 || Nat.beq pc 214 || Nat.beq pc 224) 400 (show K (0, some (0, 0)) (zupd (zupd (zad (zad (zad w))) 3 7 3) 3 8 ((zad (zad (zad w))) 3 2)) 238 from h)) h) h)) h) h)) h) h) h)) h) h)) h) h) h) (fun h => (fun h => show zwp 49 142 [(2, 13), (0, zFi (fun c => w 15 c.toNat = ((zad w) 3 5)) ((w 14 0)).toNat 0), (0, zFi (fun c => w 15 c.toNat = ((zad (zad w)) 3 5)) ((w 14 0)).toNat 0), (9, 0)] [(0, 0)] (zupd (zupd (zad (zad (zad w))) 3 7 1) 3 8 ((zad (zad (zad w))) 3 2)) 238 0 K from zgo_imp zT180_ok (cut := fun pc => Nat.beq pc 20 || Nat.beq pc 28 || Nat.beq pc 39 || Nat.beq pc 58 || Nat.beq pc 66 || Nat.beq pc 77 || Nat.beq pc 96 || Nat.beq pc 111 || Nat.beq pc 123 || Nat.beq pc 131 || Nat.beq pc 142 || Nat.beq pc 161 || Nat.beq pc 176 || Nat.beq pc 181 || Nat.beq pc 194 || Nat.beq pc 206 || Nat.beq pc 214 || Nat.beq pc 224) 400 (show K (0, some (0, 0)) (zupd (zupd (zad (zad (zad w))) 3 7 1) 3 8 ((zad (zad (zad w))) 3 2)) 238 from h)) h) h) h) h)) h) h) (fun h => (fun h => show zwp 49 123 [(2, 13), (9, 0), (9, 0), (9, 0)] [(0, 0)] (zupd (zupd (zad (zad w)) 3 7 3) 3 8 ((zad (zad w)) 3 2)) 238 0 K from zgo_imp zT180_ok (cut := fun pc => Nat.beq pc 20 || Nat.beq pc 28 || Nat.beq pc 39 || Nat.beq pc 58 || Nat.beq pc 66 || Nat.beq pc 77 || Nat.beq pc 96 || Nat.beq pc 111 || Nat.beq pc 123 || Nat.beq pc 131 || Nat.beq pc 142 || Nat.beq pc 161 || Nat.beq pc 176 || Nat.beq pc 181 || Nat.beq pc 194 || Nat.beq pc 206 || Nat.beq pc 214 || Nat.beq pc 224) 400 (show K (0, some (0, 0)) (zupd (zupd (zad (zad w)) 3 7 3) 3 8 ((zad (zad w)) 3 2)) 238 from h)) h) h)) h) h) h)) h) h)) h) h) h) (fun h => (fun h => show zwp 49 77 [(2, 13), (0, zFi (fun c => w 15 c.toNat = ((zad w) 3 5)) ((w 14 0)).toNat 0), (9, 0), (9, 0)] [(0, 0)] (zupd (zupd (zad (zad w)) 3 7 1) 3 8 ((zad (zad w)) 3 2)) 238 0 K from zgo_imp zT180_ok (cut := fun pc => Nat.beq pc 20 || Nat.beq pc 28 || Nat.beq pc 39 || Nat.beq pc 58 || Nat.beq pc 66 || Nat.beq pc 77 || Nat.beq pc 96 || Nat.beq pc 111 || Nat.beq pc 123 || Nat.beq pc 131 || Nat.beq pc 142 || Nat.beq pc 161 || Nat.beq pc 176 || Nat.beq pc 181 || Nat.beq pc 194 || Nat.beq pc 206 || Nat.beq pc 214 || Nat.beq pc 224) 400 (show K (0, some (0, 0)) (zupd (zupd (zad (zad w)) 3 7 1) 3 8 ((zad (zad w)) 3 2)) 238 from h)) h) h) h) h)) h) h)) h) h)) h) h) h) (fun h => (fun h => show zwp 49 39 [(2, 13), (9, 0), (9, 0), (9, 0)] [(0, 0)] (zupd (zupd (zad w) 3 7 1) 3 8 ((zad w) 3 2)) 238 0 K from zgo_imp zT180_ok (cut := fun pc => Nat.beq pc 20 || Nat.beq pc 28 || Nat.beq pc 39 || Nat.beq pc 58 || Nat.beq pc 66 || Nat.beq pc 77 || Nat.beq pc 96 || Nat.beq pc 111 || Nat.beq pc 123 || Nat.beq pc 131 || Nat.beq pc 142 || Nat.beq pc 161 || Nat.beq pc 176 || Nat.beq pc 181 || Nat.beq pc 194 || Nat.beq pc 206 || Nat.beq pc 214 || Nat.beq pc 224) 400 (show K (0, some (0, 0)) (zupd (zupd (zad w) 3 7 1) 3 8 ((zad w) 3 2)) 238 from h)) h) h) h) h)) h) h) (fun h => (fun h => show zwp 49 20 [(2, 13), (9, 0), (9, 0), (9, 0)] [(0, 0)] (zupd (zupd w 3 7 5) 3 8 (w 3 2)) 238 0 K from zgo_imp zT180_ok (cut := fun pc => Nat.beq pc 20 || Nat.beq pc 28 || Nat.beq pc 39 || Nat.beq pc 58 || Nat.beq pc 66 || Nat.beq pc 77 || Nat.beq pc 96 || Nat.beq pc 111 || Nat.beq pc 123 || Nat.beq pc 131 || Nat.beq pc 142 || Nat.beq pc 161 || Nat.beq pc 176 || Nat.beq pc 181 || Nat.beq pc 194 || Nat.beq pc 206 || Nat.beq pc 214 || Nat.beq pc 224) 400 (show K (0, some (0, 0)) (zupd (zupd w 3 7 5) 3 8 (w 3 2)) 238 from h)) h) h)) ?_
  unfold zrF at h
  obtain ⟨t0, k0, hn⟩ := hg
  have hn0 := t0.1
  have t1 := t0.ad k0
  have t2 : zad w 3 1 ≠ -1 → zPT (zad (zad w)) := fun q => t1.ad q
  have t3 : zad w 3 1 ≠ -1 → (zad (zad w)) 3 1 ≠ -1 → zPT (zad (zad (zad w))) := fun q q2 => (t2 q).ad q2
  have f0 := t0.lin (n := w 1 1) rfl
  have f1 : 0 ≤ (zad w) 3 3 ∧ ((zad w) 3 1 ≠ -1 → (zad w) 3 3 ≤ w 1 1) ∧ (1000 ≤ (zad w) 3 4 ∧ (zad w) 3 4 < 1015) ∧ ((zad w) 3 4 ≠ 1000 → (zad w) 3 1 = 1) := t1.lin (n := w 1 1) rfl
  have f2 : zad w 3 1 ≠ -1 → (0 ≤ (zad (zad w)) 3 3 ∧ ((zad (zad w)) 3 1 ≠ -1 → (zad (zad w)) 3 3 ≤ w 1 1) ∧ (1000 ≤ (zad (zad w)) 3 4 ∧ (zad (zad w)) 3 4 < 1015) ∧ ((zad (zad w)) 3 4 ≠ 1000 → (zad (zad w)) 3 1 = 1)) := fun q => (t2 q).lin (n := w 1 1) rfl
  have f3 : zad w 3 1 ≠ -1 → (zad (zad w)) 3 1 ≠ -1 → (0 ≤ (zad (zad (zad w))) 3 3 ∧ ((zad (zad (zad w))) 3 1 ≠ -1 → (zad (zad (zad w))) 3 3 ≤ w 1 1) ∧ (1000 ≤ (zad (zad (zad w))) 3 4 ∧ (zad (zad (zad w))) 3 4 < 1015) ∧ ((zad (zad (zad w))) 3 4 ≠ 1000 → (zad (zad (zad w))) 3 1 = 1)) := fun q q2 => (t3 q q2).lin (n := w 1 1) rfl
  have r1 := zFi_rg (p := (fun c => w 15 c.toNat = ((zad w) 3 5))) (w 14 0).toNat 0 (by omega)
  have r2 := zFi_rg (p := (fun c => w 15 c.toNat = ((zad (zad w)) 3 5))) (w 14 0).toNat 0 (by omega)
  have r3 := zFi_rg (p := (fun c => w 15 c.toNat = ((zad (zad (zad w))) 3 5))) (w 14 0).toNat 0 (by omega)
  by_cases q0 : w 14 1 < 20
  · rw [if_pos q0] at h
    refine ziT q0 ?_
    refine ⟨by omega, ?_⟩
    refine zifI (by omega) ?_
    refine zifI (by omega) ?_
    by_cases q1 : (zad w) 3 4 = 1001
    · rw [if_pos q1] at h
      refine ziT q1 ?_
      refine ⟨by omega, ?_⟩
      by_cases q2 : zFi (fun c => w 15 c.toNat = ((zad w) 3 5)) ((w 14 0)).toNat 0 = (-1)
      · rw [if_pos q2] at h
        refine ziT q2 ?_
        exact h
      · rw [if_neg q2] at h
        refine ziF q2 ?_
        refine ⟨by omega, ?_⟩
        refine ⟨by omega, ?_⟩
        refine zifI (by omega) ?_
        refine zifI (by omega) ?_
        by_cases q3 : (zad (zad w)) 3 4 = 1001
        · rw [if_pos q3] at h
          refine ziT q3 ?_
          refine ⟨by omega, ?_⟩
          by_cases q4 : zFi (fun c => w 15 c.toNat = ((zad (zad w)) 3 5)) ((w 14 0)).toNat 0 = (-1)
          · rw [if_pos q4] at h
            refine ziT q4 ?_
            exact h
          · rw [if_neg q4] at h
            refine ziF q4 ?_
            refine ⟨by omega, ?_⟩
            by_cases q5 : zFi (fun c => w 15 c.toNat = ((zad (zad w)) 3 5)) ((w 14 0)).toNat 0 = zFi (fun c => w 15 c.toNat = ((zad w) 3 5)) ((w 14 0)).toNat 0
            · rw [if_pos q5] at h
              refine ziT q5 ?_
              exact h
            · rw [if_neg q5] at h
              refine ziF q5 ?_
              refine zifI (by omega) ?_
              by_cases q6 : w 19 (12 * (zFi (fun c => w 15 c.toNat = ((zad w) 3 5)) ((w 14 0)).toNat 0) + (zFi (fun c => w 15 c.toNat = ((zad (zad w)) 3 5)) ((w 14 0)).toNat 0)).toNat = (-1)
              · rw [if_pos q6] at h
                refine ziT q6 ?_
                refine ⟨by omega, ?_⟩
                refine zifI (by omega) ?_
                refine zifI (by omega) ?_
                by_cases q7 : (zad (zad (zad w))) 3 4 = 1001
                · rw [if_pos q7] at h
                  refine ziT q7 ?_
                  refine ⟨by omega, ?_⟩
                  by_cases q8 : zFi (fun c => w 15 c.toNat = ((zad (zad (zad w))) 3 5)) ((w 14 0)).toNat 0 = (-1)
                  · rw [if_pos q8] at h
                    refine ziT q8 ?_
                    exact h
                  · rw [if_neg q8] at h
                    refine ziF q8 ?_
                    refine ⟨by omega, ?_⟩
                    by_cases q9 : zFi (fun c => w 15 c.toNat = ((zad (zad (zad w))) 3 5)) ((w 14 0)).toNat 0 = zFi (fun c => w 15 c.toNat = ((zad w) 3 5)) ((w 14 0)).toNat 0
                    · rw [if_pos q9] at h
                      refine ziT q9 ?_
                      exact h
                    · rw [if_neg q9] at h
                      refine ziF q9 ?_
                      by_cases q10 : zFi (fun c => w 15 c.toNat = ((zad (zad (zad w))) 3 5)) ((w 14 0)).toNat 0 = zFi (fun c => w 15 c.toNat = ((zad (zad w)) 3 5)) ((w 14 0)).toNat 0
                      · rw [if_pos q10] at h
                        refine ziT q10 ?_
                        exact h
                      · rw [if_neg q10] at h
                        refine ziF q10 ?_
                        refine zifI (by omega) ?_
                        by_cases q11 : w 19 (12 * (zFi (fun c => w 15 c.toNat = ((zad (zad w)) 3 5)) ((w 14 0)).toNat 0) + (zFi (fun c => w 15 c.toNat = ((zad (zad (zad w))) 3 5)) ((w 14 0)).toNat 0)).toNat = (-1)
                        · rw [if_pos q11] at h
                          refine ziT q11 ?_
                          refine zifI (by omega) ?_
                          by_cases q12 : w 19 (12 * (zFi (fun c => w 15 c.toNat = ((zad (zad (zad w))) 3 5)) ((w 14 0)).toNat 0) + (zFi (fun c => w 15 c.toNat = ((zad w) 3 5)) ((w 14 0)).toNat 0)).toNat = (-1)
                          · rw [if_pos q12] at h
                            refine ziT q12 ?_
                            refine ⟨by omega, ?_⟩
                            refine ⟨by omega, ?_⟩
                            exact h
                          · rw [if_neg q12] at h
                            refine ziF q12 ?_
                            exact h
                        · rw [if_neg q11] at h
                          refine ziF q11 ?_
                          exact h
                · rw [if_neg q7] at h
                  refine ziF q7 ?_
                  exact h
              · rw [if_neg q6] at h
                refine ziF q6 ?_
                exact h
        · rw [if_neg q3] at h
          refine ziF q3 ?_
          exact h
    · rw [if_neg q1] at h
      refine ziF q1 ?_
      exact h
  · rw [if_neg q0] at h
    refine ziF q0 ?_
    exact h
noncomputable def zb49 (l0 : List zV) (w : zW) (K : zK) : Prop := cond (zpe (zar l0 0) 13) ((zPT w ∧ w 3 1 ≠ (-1 : Int) ∧ (0 ≤ w 14 0 ∧ w 14 0 ≤ 12) ∧ 0 ≤ w 14 1 ∧ w 14 1 ≤ 20) ∧ (K (0, some (0, (zrF w).1)) ((zrF w).2) 238)) (False)
noncomputable def zT181 : zSum := zsm1 49 [2, 9, 9, 9] zb49 zT180
theorem zT181_ok : zSok zT181 := zsm1_ok zT180_ok fun l0 w K h => by
  unfold zb49 at h
  cases q0 : zpe (zar l0 0) 13 with
  | true =>
    rw [q0, cond_true] at h
    have e : zar l0 0 = 13 := zpe_e q0
    show zcall 49 [(2, zar l0 0), (9, 0), (9, 0), (9, 0)] w 238 K
    rw [e]
    exact zk49_13  w K h
  | false =>
  rw [q0, cond_false] at h
  exact h.elim
theorem zrF_01 (w : zW) : (zrF w).1 = 0 ∨ (zrF w).1 = 1 := by
  unfold zrF
  by_cases q0 : w 14 1 < 20
  · rw [if_pos q0]
    by_cases q1 : (zad w) 3 4 = 1001
    · rw [if_pos q1]
      by_cases q2 : zFi (fun c => w 15 c.toNat = ((zad w) 3 5)) ((w 14 0)).toNat 0 = (-1)
      · rw [if_pos q2]
        first | exact Or.inl rfl | exact Or.inr rfl | exact zpn_01 _ _ _ | exact zps_01 _ _ | assumption
      · rw [if_neg q2]
        by_cases q3 : (zad (zad w)) 3 4 = 1001
        · rw [if_pos q3]
          by_cases q4 : zFi (fun c => w 15 c.toNat = ((zad (zad w)) 3 5)) ((w 14 0)).toNat 0 = (-1)
          · rw [if_pos q4]
            first | exact Or.inl rfl | exact Or.inr rfl | exact zpn_01 _ _ _ | exact zps_01 _ _ | assumption
          · rw [if_neg q4]
            by_cases q5 : zFi (fun c => w 15 c.toNat = ((zad (zad w)) 3 5)) ((w 14 0)).toNat 0 = zFi (fun c => w 15 c.toNat = ((zad w) 3 5)) ((w 14 0)).toNat 0
            · rw [if_pos q5]
              first | exact Or.inl rfl | exact Or.inr rfl | exact zpn_01 _ _ _ | exact zps_01 _ _ | assumption
            · rw [if_neg q5]
              by_cases q6 : w 19 (12 * (zFi (fun c => w 15 c.toNat = ((zad w) 3 5)) ((w 14 0)).toNat 0) + (zFi (fun c => w 15 c.toNat = ((zad (zad w)) 3 5)) ((w 14 0)).toNat 0)).toNat = (-1)
              · rw [if_pos q6]
                by_cases q7 : (zad (zad (zad w))) 3 4 = 1001
                · rw [if_pos q7]
                  by_cases q8 : zFi (fun c => w 15 c.toNat = ((zad (zad (zad w))) 3 5)) ((w 14 0)).toNat 0 = (-1)
                  · rw [if_pos q8]
                    first | exact Or.inl rfl | exact Or.inr rfl | exact zpn_01 _ _ _ | exact zps_01 _ _ | assumption
                  · rw [if_neg q8]
                    by_cases q9 : zFi (fun c => w 15 c.toNat = ((zad (zad (zad w))) 3 5)) ((w 14 0)).toNat 0 = zFi (fun c => w 15 c.toNat = ((zad w) 3 5)) ((w 14 0)).toNat 0
                    · rw [if_pos q9]
                      first | exact Or.inl rfl | exact Or.inr rfl | exact zpn_01 _ _ _ | exact zps_01 _ _ | assumption
                    · rw [if_neg q9]
                      by_cases q10 : zFi (fun c => w 15 c.toNat = ((zad (zad (zad w))) 3 5)) ((w 14 0)).toNat 0 = zFi (fun c => w 15 c.toNat = ((zad (zad w)) 3 5)) ((w 14 0)).toNat 0
                      · rw [if_pos q10]
                        first | exact Or.inl rfl | exact Or.inr rfl | exact zpn_01 _ _ _ | exact zps_01 _ _ | assumption
                      · rw [if_neg q10]
                        by_cases q11 : w 19 (12 * (zFi (fun c => w 15 c.toNat = ((zad (zad w)) 3 5)) ((w 14 0)).toNat 0) + (zFi (fun c => w 15 c.toNat = ((zad (zad (zad w))) 3 5)) ((w 14 0)).toNat 0)).toNat = (-1)
                        · rw [if_pos q11]
                          by_cases q12 : w 19 (12 * (zFi (fun c => w 15 c.toNat = ((zad (zad (zad w))) 3 5)) ((w 14 0)).toNat 0) + (zFi (fun c => w 15 c.toNat = ((zad w) 3 5)) ((w 14 0)).toNat 0)).toNat = (-1)
                          · rw [if_pos q12]
                            first | exact Or.inl rfl | exact Or.inr rfl | exact zpn_01 _ _ _ | exact zps_01 _ _ | assumption
                          · rw [if_neg q12]
                            first | exact Or.inl rfl | exact Or.inr rfl | exact zpn_01 _ _ _ | exact zps_01 _ _ | assumption
                        · rw [if_neg q11]
                          first | exact Or.inl rfl | exact Or.inr rfl | exact zpn_01 _ _ _ | exact zps_01 _ _ | assumption
                · rw [if_neg q7]
                  first | exact Or.inl rfl | exact Or.inr rfl | exact zpn_01 _ _ _ | exact zps_01 _ _ | assumption
              · rw [if_neg q6]
                first | exact Or.inl rfl | exact Or.inr rfl | exact zpn_01 _ _ _ | exact zps_01 _ _ | assumption
        · rw [if_neg q3]
          first | exact Or.inl rfl | exact Or.inr rfl | exact zpn_01 _ _ _ | exact zps_01 _ _ | assumption
    · rw [if_neg q1]
      first | exact Or.inl rfl | exact Or.inr rfl | exact zpn_01 _ _ _ | exact zps_01 _ _ | assumption
  · rw [if_neg q0]
    first | exact Or.inl rfl | exact Or.inr rfl | exact zpn_01 _ _ _ | exact zps_01 _ _ | assumption
/-- behind "scale", the first word passed -/
def zrS1 (w : zW) : zW := zupd (zad (zupd w 13 3 1)) 14 2 (zad (zupd w 13 3 1) 3 6)
noncomputable def zrS (w : zW) : Int × zW := if w 13 3 = 0 then ((zpn (zupd (zad (zupd w 13 3 1)) 14 2 ((zad (zupd w 13 3 1)) 3 6)) 1 100000).1, ((zpn (zupd (zad (zupd w 13 3 1)) 14 2 ((zad (zupd w 13 3 1)) 3 6)) 1 100000).2)) else (0, (zupd (zupd w 3 7 3) 3 8 (w 3 2)))
/-! $NetReader.readScale -/
set_option maxRecDepth 100000 in
theorem zk50_13 (w : zW) (K : zK) (h : (zPT w ∧ w 3 1 ≠ (-1 : Int)) ∧ (K (0, some (0, (zrS w).1)) ((zrS w).2) 238)) : zcall 50 [(2, 13)] w 238 K := by
  obtain ⟨hg, h⟩ := h
  refine (show (if w 13 3 = 0 then ((0 ≤ (w 1 1) ∧ (w 1 1) ≤ 800) ∧ 0 ≤ (w 3 3) ∧ (w 3 3) ≤ (w 1 1)) ∧ ((zPT (zupd (zad (zupd w 13 3 1)) 14 2 ((zad (zupd w 13 3 1)) 3 6)) ∧ (1000 : Int) ≤ 1006 ∧ 1006 < (1015 : Int)) ∧ (zif False (0 ≤ (zpn (zupd (zad (zupd w 13 3 1)) 14 2 ((zad (zupd w 13 3 1)) 3 6)) 1 100000).1 ∧ (zpn (zupd (zad (zupd w 13 3 1)) 14 2 ((zad (zupd w 13 3 1)) 3 6)) 1 100000).1 < 2) (K (0, some (0, (zpn (zupd (zad (zupd w 13 3 1)) 14 2 ((zad (zupd w 13 3 1)) 3 6)) 1 100000).1)) ((zpn (zupd (zad (zupd w 13 3 1)) 14 2 ((zad (zupd w 13 3 1)) 3 6)) 1 100000).2) 238))) else K (0, some (0, 0)) (zupd (zupd w 3 7 3) 3 8 (w 3 2)) 238) → _ from fun h => show zwp 50 0 [(2, 13)] [] w 238 0 K from zgo_imp zT181_ok (cut := fun pc => Nat.beq pc 15 || Nat.beq pc 28 || Nat.beq pc 49 || Nat.beq pc 52) 400 (show if w 13 3 = 0 then ((0 ≤ (w 1 1) ∧ (w 1 1) ≤ 800) ∧ 0 ≤ (w 3 3) ∧ (w 3 3) ≤ (w 1 1)) ∧ (zwp 50 28 [(2, 13)] [] (zad (zupd w 13 3 1)) 238 0 K) else zwp 50 15 [(2, 13)] [(0, 0)] (zupd (zupd w 3 7 3) 3 8 (w 3 2)) 238 0 K from zmI (fun h => zmA (fun h => (fun h => show zwp 50 28 [(2, 13)] [] (zad (zupd w 13 3 1)) 238 0 K from zgo_imp zT181_ok (cut := fun pc => Nat.beq pc 15 || Nat.beq pc 28 || Nat.beq pc 49 || Nat.beq pc 52) 400 (show zwp 50 49 [(2, 13)] [(2, 1006), (2, 3)] (zupd (zad (zupd w 13 3 1)) 14 2 ((zad (zupd w 13 3 1)) 3 6)) 238 0 K from (fun h => show zwp 50 49 [(2, 13)] [(2, 1006), (2, 3)] (zupd (zad (zupd w 13 3 1)) 14 2 ((zad (zupd w 13 3 1)) 3 6)) 238 0 K from zgo_imp zT181_ok (cut := fun pc => Nat.beq pc 15 || Nat.beq pc 28 || Nat.beq pc 49 || Nat.beq pc 52) 400 (show (zPT (zupd (zad (zupd w 13 3 1)) 14 2 ((zad (zupd w 13 3 1)) 3 6)) ∧ (1000 : Int) ≤ 1006 ∧ 1006 < (1015 : Int)) ∧ (zwp 50 52 [(2, 13)] [(0, (zpn (zupd (zad (zupd w 13 3 1)) 14 2 ((zad (zupd w 13 3 1)) 3 6)) 1 100000).1)] ((zpn (zupd (zad (zupd w 13 3 1)) 14 2 ((zad (zupd w 13 3 1)) 3 6)) 1 100000).2) 238 0 K) from zmA (fun h => (fun h => show zwp 50 52 [(2, 13)] [(0, (zpn (zupd (zad (zupd w 13 3 1)) 14 2 ((zad (zupd w 13 3 1)) 3 6)) 1 100000).1)] ((zpn (zupd (zad (zupd w 13 3 1)) 14 2 ((zad (zupd w 13 3 1)) 3 6)) 1 100000).2) 238 0 K from zgo_imp zT181_ok (cut := fun pc => Nat.beq pc 15 || Nat.beq pc 28 || Nat.beq pc 49 || Nat.beq pc 52) 400 (show zif False (0 ≤ (zpn (zupd (zad (zupd w 13 3 1)) 14 2 ((zad (zupd w 13 3 1)) 3 6)) 1 100000).1 ∧ (zpn (zupd (zad (zupd w 13 3 1)) 14 2 ((zad (zupd w 13 3 1)) 3 6)) 1 100000).1 < 2) (K (0, some (0, (zpn (zupd (zad (zupd w 13 3 1)) 14 2 ((zad (zupd w 13 3 1)) 3 6)) 1 100000).1)) ((zpn (zupd (zad (zupd w 13 3 1)) 14 2 ((zad (zupd w 13 3 1)) 3 6)) 1 100000).2) 238) from h)) h) h)) h)) h) h) (fun h => (fun h => show zwp 50 15 [(2, 13)] [(0, 0)] (zupd (zupd w 3 7 3) 3 8 (w 3 2)) 238 0 K from zgo_imp zT181_ok (cut := fun pc => Nat.beq pc 15 || Nat.beq pc 28 || Nat.beq pc 49 || Nat.beq pc 52) 400 (show K (0, some (0, 0)) (zupd (zupd w 3 7 3) 3 8 (w 3 2)) 238 from h)) h) h)) ?_
  unfold zrS at h
  obtain ⟨t0, k0⟩ := hg
  have f0 := t0.lin (n := w 1 1) rfl
  have hn0 := t0.1
  have t1 : zPT (zad (zupd w 13 3 1)) := zPT.ad (w := zupd w 13 3 1) t0 k0
  have z01 := zpn_01 (zupd (zad (zupd w 13 3 1)) 14 2 (zad (zupd w 13 3 1) 3 6)) 1 100000
  by_cases q0 : w 13 3 = 0
  · rw [if_pos q0] at h
    refine ziT q0 ?_
    refine ⟨by first | omega | exact ⟨t1, by decide, by decide⟩, ?_⟩
    refine ⟨by first | omega | exact ⟨t1, by decide, by decide⟩, ?_⟩
    refine zifI (by first | omega | exact ⟨t1, by decide, by decide⟩) ?_
    exact h
  · rw [if_neg q0] at h
    refine ziF q0 ?_
    exact h
noncomputable def zb50 (l0 : List zV) (w : zW) (K : zK) : Prop := cond (zpe (zar l0 0) 13) ((zPT w ∧ w 3 1 ≠ (-1 : Int)) ∧ (K (0, some (0, (zrS w).1)) ((zrS w).2) 238)) (False)
noncomputable def zT182 : zSum := zsm1 50 [2] zb50 zT181
theorem zT182_ok : zSok zT182 := zsm1_ok zT181_ok fun l0 w K h => by
  unfold zb50 at h
  cases q0 : zpe (zar l0 0) 13 with
  | true =>
    rw [q0, cond_true] at h
    have e : zar l0 0 = 13 := zpe_e q0
    show zcall 50 [(2, zar l0 0)] w 238 K
    rw [e]
    exact zk50_13  w K h
  | false =>
  rw [q0, cond_false] at h
  exact h.elim
theorem zrS_01 (w : zW) : (zrS w).1 = 0 ∨ (zrS w).1 = 1 := by
  unfold zrS
  by_cases q0 : w 13 3 = 0
  · rw [if_pos q0]
    first | exact Or.inl rfl | exact Or.inr rfl | exact zpn_01 _ _ _ | exact zps_01 _ _ | assumption
  · rw [if_neg q0]
    first | exact Or.inl rfl | exact Or.inr rfl | exact zpn_01 _ _ _ | exact zps_01 _ _ | assumption
noncomputable def zrT (w : zW) : Int × zW := if w 3 4 = 1002 then ((zrC w).1, ((zrC w).2)) else if w 3 4 = 1005 then ((zrF w).1, ((zrF w).2)) else if w 3 4 = 1006 then ((zrS w).1, ((zrS w).2)) else (0, (zupd (zupd w 3 7 1) 3 8 (w 3 2)))
/-! $NetReader.readStatement -/
set_option maxRecDepth 100000 in
theorem zk47_13 (w : zW) (K : zK) (h : (zPT w ∧ (0 ≤ w 14 0 ∧ w 14 0 ≤ 12) ∧ 0 ≤ w 14 1 ∧ w 14 1 ≤ 20) ∧ (K (0, some (0, (zrT w).1)) ((zrT w).2) 238)) : zcall 47 [(2, 13)] w 238 K := by
  obtain ⟨hg, h⟩ := h
  refine (show (zif False (0 ≤ w 3 4) (zif False (1000 ≤ w 3 4 ∧ w 3 4 < 1015) (if w 3 4 = 1002 then (zPT w ∧ w 3 1 ≠ (-1 : Int) ∧ 0 ≤ w 14 0 ∧ w 14 0 ≤ 12) ∧ (zif False (0 ≤ (zrC w).1 ∧ (zrC w).1 < 2) (K (0, some (0, (zrC w).1)) ((zrC w).2) 238)) else zif False (0 ≤ w 3 4) (zif False (1000 ≤ w 3 4 ∧ w 3 4 < 1015) (if w 3 4 = 1005 then (zPT w ∧ w 3 1 ≠ (-1 : Int) ∧ (0 ≤ w 14 0 ∧ w 14 0 ≤ 12) ∧ 0 ≤ w 14 1 ∧ w 14 1 ≤ 20) ∧ (zif False (0 ≤ (zrF w).1 ∧ (zrF w).1 < 2) (K (0, some (0, (zrF w).1)) ((zrF w).2) 238)) else zif False (0 ≤ w 3 4) (zif False (1000 ≤ w 3 4 ∧ w 3 4 < 1015) (if w 3 4 = 1006 then (zPT w ∧ w 3 1 ≠ (-1 : Int)) ∧ (zif False (0 ≤ (zrS w).1 ∧ (zrS w).1 < 2) (K (0, some (0, (zrS w).1)) ((zrS w).2) 238)) else K (0, some (0, 0)) (zupd (zupd w 3 7 1) 3 8 (w 3 2)) 238))))))) → _ from fun h => show zwp 47 0 [(2, 13)] [] w 238 0 K from zgo_imp zT182_ok (cut := fun pc => Nat.beq pc 17 || Nat.beq pc 35 || Nat.beq pc 53 || Nat.beq pc 62) 400 (show zif False (0 ≤ w 3 4) (zif False (1000 ≤ w 3 4 ∧ w 3 4 < 1015) (if w 3 4 = 1002 then (zPT w ∧ w 3 1 ≠ (-1 : Int) ∧ 0 ≤ w 14 0 ∧ w 14 0 ≤ 12) ∧ (zwp 47 17 [(2, 13)] [(0, (zrC w).1)] ((zrC w).2) 238 0 K) else zif False (0 ≤ w 3 4) (zif False (1000 ≤ w 3 4 ∧ w 3 4 < 1015) (if w 3 4 = 1005 then (zPT w ∧ w 3 1 ≠ (-1 : Int) ∧ (0 ≤ w 14 0 ∧ w 14 0 ≤ 12) ∧ 0 ≤ w 14 1 ∧ w 14 1 ≤ 20) ∧ (zwp 47 35 [(2, 13)] [(0, (zrF w).1)] ((zrF w).2) 238 0 K) else zif False (0 ≤ w 3 4) (zif False (1000 ≤ w 3 4 ∧ w 3 4 < 1015) (if w 3 4 = 1006 then (zPT w ∧ w 3 1 ≠ (-1 : Int)) ∧ (zwp 47 53 [(2, 13)] [(0, (zrS w).1)] ((zrS w).2) 238 0 K) else zwp 47 62 [(2, 13)] [(0, 0)] (zupd (zupd w 3 7 1) 3 8 (w 3 2)) 238 0 K)))))) from zmZ (fun h => zmZ (fun h => zmI (fun h => zmA (fun h => (fun h => show zwp 47 17 [(2, 13)] [(0, (zrC w).1)] ((zrC w).2) 238 0 K from zgo_imp zT182_ok (cut := fun pc => Nat.beq pc 17 || Nat.beq pc 35 || Nat.beq pc 53 || Nat.beq pc 62) 400 (show zif False (0 ≤ (zrC w).1 ∧ (zrC w).1 < 2) (K (0, some (0, (zrC w).1)) ((zrC w).2) 238) from h)) h) h) (fun h => zmZ (fun h => zmZ (fun h => zmI (fun h => zmA (fun h => (fun h => show zwp 47 35 [(2, 13)] [(0, (zrF w).1)] ((zrF w).2) 238 0 K from zgo_imp zT182_ok (cut := fun pc => Nat.beq pc 17 || Nat.beq pc 35 || Nat.beq pc 53 || Nat.beq pc 62) 400 (show zif False (0 ≤ (zrF w).1 ∧ (zrF w).1 < 2) (K (0, some (0, (zrF w).1)) ((zrF w).2) 238) from h)) h) h) (fun h => zmZ (fun h => zmZ (fun h => zmI (fun h => zmA (fun h => (fun h => show zwp 47 53 [(2, 13)] [(0, (zrS w).1)] ((zrS w).2) 238 0 K from zgo_imp zT182_ok (cut := fun pc => Nat.beq pc 17 || Nat.beq pc 35 || Nat.beq pc 53 || Nat.beq pc 62) 400 (show zif False (0 ≤ (zrS w).1 ∧ (zrS w).1 < 2) (K (0, some (0, (zrS w).1)) ((zrS w).2) 238) from h)) h) h) (fun h => (fun h => show zwp 47 62 [(2, 13)] [(0, 0)] (zupd (zupd w 3 7 1) 3 8 (w 3 2)) 238 0 K from zgo_imp zT182_ok (cut := fun pc => Nat.beq pc 17 || Nat.beq pc 35 || Nat.beq pc 53 || Nat.beq pc 62) 400 (show K (0, some (0, 0)) (zupd (zupd w 3 7 1) 3 8 (w 3 2)) 238 from h)) h) h) h) h) h) h) h) h) h) h)) ?_
  unfold zrT at h
  obtain ⟨t0, hn⟩ := hg
  have f0 := t0.lin (n := w 1 1) rfl
  have z1 := zrC_01 w
  have z2 := zrF_01 w
  have z3 := zrS_01 w
  refine zifI (by first | omega | exact ⟨t0, by omega⟩) ?_
  refine zifI (by first | omega | exact ⟨t0, by omega⟩) ?_
  by_cases q0 : w 3 4 = 1002
  · rw [if_pos q0] at h
    refine ziT q0 ?_
    refine ⟨by first | omega | exact ⟨t0, by omega⟩, ?_⟩
    refine zifI (by first | omega | exact ⟨t0, by omega⟩) ?_
    exact h
  · rw [if_neg q0] at h
    refine ziF q0 ?_
    refine zifI (by first | omega | exact ⟨t0, by omega⟩) ?_
    refine zifI (by first | omega | exact ⟨t0, by omega⟩) ?_
    by_cases q1 : w 3 4 = 1005
    · rw [if_pos q1] at h
      refine ziT q1 ?_
      refine ⟨by first | omega | exact ⟨t0, by omega⟩, ?_⟩
      refine zifI (by first | omega | exact ⟨t0, by omega⟩) ?_
      exact h
    · rw [if_neg q1] at h
      refine ziF q1 ?_
      refine zifI (by first | omega | exact ⟨t0, by omega⟩) ?_
      refine zifI (by first | omega | exact ⟨t0, by omega⟩) ?_
      by_cases q2 : w 3 4 = 1006
      · rw [if_pos q2] at h
        refine ziT q2 ?_
        refine ⟨by first | omega | exact ⟨t0, by omega⟩, ?_⟩
        refine zifI (by first | omega | exact ⟨t0, by omega⟩) ?_
        exact h
      · rw [if_neg q2] at h
        refine ziF q2 ?_
        exact h
noncomputable def zb47 (l0 : List zV) (w : zW) (K : zK) : Prop := cond (zpe (zar l0 0) 13) ((zPT w ∧ (0 ≤ w 14 0 ∧ w 14 0 ≤ 12) ∧ 0 ≤ w 14 1 ∧ w 14 1 ≤ 20) ∧ (K (0, some (0, (zrT w).1)) ((zrT w).2) 238)) (False)
noncomputable def zT183 : zSum := zsm1 47 [2] zb47 zT182
theorem zT183_ok : zSok zT183 := zsm1_ok zT182_ok fun l0 w K h => by
  unfold zb47 at h
  cases q0 : zpe (zar l0 0) 13 with
  | true =>
    rw [q0, cond_true] at h
    have e : zar l0 0 = 13 := zpe_e q0
    show zcall 47 [(2, zar l0 0)] w 238 K
    rw [e]
    exact zk47_13  w K h
  | false =>
  rw [q0, cond_false] at h
  exact h.elim
theorem zrT_01 (w : zW) : (zrT w).1 = 0 ∨ (zrT w).1 = 1 := by
  have z1 := zrC_01 w
  have z2 := zrF_01 w
  have z3 := zrS_01 w
  unfold zrT
  by_cases q0 : w 3 4 = 1002
  · rw [if_pos q0]
    first | exact Or.inl rfl | exact Or.inr rfl | exact zpn_01 _ _ _ | exact zps_01 _ _ | assumption
  · rw [if_neg q0]
    by_cases q1 : w 3 4 = 1005
    · rw [if_pos q1]
      first | exact Or.inl rfl | exact Or.inr rfl | exact zpn_01 _ _ _ | exact zps_01 _ _ | assumption
    · rw [if_neg q1]
      by_cases q2 : w 3 4 = 1006
      · rw [if_pos q2]
        first | exact Or.inl rfl | exact Or.inr rfl | exact zpn_01 _ _ _ | exact zps_01 _ _ | assumption
      · rw [if_neg q2]
        first | exact Or.inl rfl | exact Or.inr rfl | exact zpn_01 _ _ _ | exact zps_01 _ _ | assumption
