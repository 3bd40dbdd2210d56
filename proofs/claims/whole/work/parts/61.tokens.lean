/-! ===== tokens: words, numbers, the next one (written by wip/whole/gen_c.py) ===== -/
def zs8 (a b : Int) : Int := (Int64.ofInt ((Int64.ofInt a <<< ((Int32.ofInt 8).toInt64 &&& 63)).toInt) ||| Int64.ofInt b).toInt
def zs5 (a b : Int) : Int := (Int64.ofInt ((Int64.ofInt a <<< ((Int32.ofInt 5).toInt64 &&& 63)).toInt) ||| Int64.ofInt (z32 ((z32 (b - 97)) + 1))).toInt
def zsd (a b : Int) : Int := z32 ((z32 ((z32 (10 * a)) + b)) - 48)
/-- the letters and the number of a token: the class's, the model's -/
def zLc (T : Int → Int) (n s : Int) : Int := zrf (fun j => zlt (T j)) (fun a j => zs8 a (T j)) (n - s).toNat s 0
def zNc (T : Int → Int) (n s a : Int) : Int := zrf (fun j => zdg (T j)) (fun a j => zsd a (T j)) (n - s).toNat s a
def zLm' (T : Int → Int) (n s : Int) : Int := zrf (fun j => zlt (T j)) (fun a j => if j - s < 8 then zs5 a (T j) else a) (n - s).toNat s 0
def zNm' (T : Int → Int) (n s : Int) : Int := zrf (fun j => zdg (T j)) (fun a j => if j - s < 6 then zsd a (T j) else a) (n - s).toNat s 0
/-- the tokens' state behind a word, a number: the class's -/
def zqW (w : zW) (s e L : Int) : zW := if 8 < e - s then zupd (zupd (zupd w 3 5 L) 3 3 e) 3 1 0 else zupd (zupd (zupd (zupd w 3 5 L) 3 3 e) 3 1 1) 3 4 (1000 + zWd L)
def zqN (w : zW) (s e V : Int) : zW := zupd (zupd (zupd w 3 6 V) 3 3 e) 3 1 (if 6 < e - s then 0 else 2)
def zad1 (w : zW) (s c : Int) : zW :=
  if c = -1 then zupd (zupd (zupd (zupd w 3 2 s) 3 3 (s + 1)) 3 4 1000) 3 1 (-1)
  else if zlt c then zqW (zupd (zupd (zupd w 3 2 s) 3 3 (s + 1)) 3 4 1000) s (zle (zTy (w 2) (w 1 1)) (w 1 1) s) (zLc (zTy (w 2) (w 1 1)) (w 1 1) s)
  else if zdg c then zqN (zupd (zupd (zupd w 3 2 s) 3 3 (s + 1)) 3 4 1000) s (zde (zTy (w 2) (w 1 1)) (w 1 1) s) (zNc (zTy (w 2) (w 1 1)) (w 1 1) s 0)
  else zupd (zupd (zupd (zupd w 3 2 s) 3 3 (s + 1)) 3 4 1000) 3 1 (if zsg c then c else 0)
/-- the kind, the end, the word of the token that begins at s with the sign c -/
def zkdt (T : Int → Int) (n s c : Int) : Int := if c = -1 then -1 else if zlt c then (if 8 < zle T n s - s then 0 else 1) else if zdg c then (if 6 < zde T n s - s then 0 else 2) else if zsg c then c else 0
def zbe (T : Int → Int) (n s c : Int) : Int := if zlt c then zle T n s else if zdg c then zde T n s else s + 1
def zwo (T : Int → Int) (n s c : Int) : Int := if zlt c then (if 8 < zle T n s - s then 1000 else 1000 + zWd (zLc T n s)) else 1000
def zadf (w : zW) (T : Int → Int) (n s c : Int) : zW := zupd (zupd (zupd (zupd (zupd (zupd w 3 1 (zkdt T n s c)) 3 2 s) 3 3 (zbe T n s c)) 3 4 (zwo T n s c)) 3 5 (if zlt c then zLc T n s else w 3 5)) 3 6 (if zdg c then zNc T n s 0 else w 3 6)
def zadt (w : zW) (T : Int → Int) (n : Int) : zW := zadf w T n (zst T n (w 3 3)) (T (zst T n (w 3 3)))
def zad (w : zW) : zW := zadt w (zTy (w 2) (w 1 1)) (w 1 1)
theorem zadf_e (w : zW) (s c : Int) : zad1 w s c = zadf w (zTy (w 2) (w 1 1)) (w 1 1) s c := by
  unfold zad1 zadf zkdt zbe zwo
  by_cases q1 : c = -1
  · have q2 : ¬ zlt c := by omega
    have q3 : ¬ zdg c := by omega
    simp only [if_pos q1, if_neg q2, if_neg q3]
    funext q j
    by_cases e : q = 3
    · subst e
      rcases j with _ | _ | _ | _ | _ | _ | _ | j
      all_goals first | rfl | simp [zupd]
    · simp [zupd, e]
  · by_cases q2 : zlt c
    · have q3 : ¬ zdg c := by omega
      unfold zqW
      by_cases g : 8 < zle (zTy (w 2) (w 1 1)) (w 1 1) s - s
      · simp only [if_neg q1, if_pos q2, if_neg q3, if_pos g]
        funext q j
        by_cases e : q = 3
        · subst e
          rcases j with _ | _ | _ | _ | _ | _ | _ | j
          all_goals first | rfl | simp [zupd]
        · simp [zupd, e]
      · simp only [if_neg q1, if_pos q2, if_neg q3, if_neg g]
        funext q j
        by_cases e : q = 3
        · subst e
          rcases j with _ | _ | _ | _ | _ | _ | _ | j
          all_goals first | rfl | simp [zupd]
        · simp [zupd, e]
    · by_cases q3 : zdg c
      · unfold zqN
        simp only [if_neg q1, if_neg q2, if_pos q3]
        funext q j
        by_cases e : q = 3
        · subst e
          rcases j with _ | _ | _ | _ | _ | _ | _ | j
          all_goals first | rfl | simp [zupd]
        · simp [zupd, e]
      · simp only [if_neg q1, if_neg q2, if_neg q3]
        funext q j
        by_cases e : q = 3
        · subst e
          rcases j with _ | _ | _ | _ | _ | _ | _ | j
          all_goals first | rfl | simp [zupd]
        · simp [zupd, e]
/-- the model's -/
def zgW (w : zW) (s e L : Int) : zW := zupd (zupd (zupd w 93 12 L) 93 6 (if 8 < e - s then 4 else 1)) 93 4 e
def zgN (w : zW) (s e V : Int) : zW := zupd (zupd (zupd w 93 7 V) 93 6 (if 6 < e - s then 4 else 2)) 93 4 e
def zmgo1 (w : zW) (s c : Int) : zW :=
  if c < 0 then zupd (zupd (zupd (zupd (zupd w 93 4 s) 93 5 s) 93 12 0) 93 7 0) 93 6 0
  else if zlt c then zgW (zupd (zupd (zupd w 93 4 s) 93 5 s) 93 7 0) s (zle (zTx (w 94) (w 93 3)) (w 93 3) s) (zLm' (zTx (w 94) (w 93 3)) (w 93 3) s)
  else if zdg c then zgN (zupd (zupd (zupd w 93 4 s) 93 5 s) 93 12 0) s (zde (zTx (w 94) (w 93 3)) (w 93 3) s) (zNm' (zTx (w 94) (w 93 3)) (w 93 3) s)
  else zupd (zupd (zupd (zupd (zupd (zupd (zupd w 93 4 s) 93 5 s) 93 12 0) 93 7 0) 93 6 (if zsg c then 3 else 4)) 93 7 c) 93 4 (s + 1)
def zso (T : Int → Int) (n s c : Int) : Int := if c < 0 then 0 else if zlt c then (if 8 < zle T n s - s then 4 else 1) else if zdg c then (if 6 < zde T n s - s then 4 else 2) else if zsg c then 3 else 4
def zmgf (w : zW) (T : Int → Int) (n s c : Int) : zW := zupd (zupd (zupd (zupd (zupd w 93 4 (if c < 0 then s else zbe T n s c)) 93 5 s) 93 6 (zso T n s c)) 93 7 (if c < 0 then 0 else if zlt c then 0 else if zdg c then zNm' T n s else c)) 93 12 (if zlt c then zLm' T n s else 0)
def zmgt (w : zW) (T : Int → Int) (n : Int) : zW := zmgf w T n (zst T n (w 93 4)) (T (zst T n (w 93 4)))
def zmgo (w : zW) : zW := zmgt w (zTx (w 94) (w 93 3)) (w 93 3)
theorem zmgf_e (w : zW) (s c : Int) : zmgo1 w s c = zmgf w (zTx (w 94) (w 93 3)) (w 93 3) s c := by
  unfold zmgo1 zmgf zbe zso
  by_cases q1 : c < 0
  · have q2 : ¬ zlt c := by omega
    have q3 : ¬ zdg c := by omega
    simp only [if_pos q1, if_neg q2]
    funext q j
    by_cases e : q = 93
    · subst e
      rcases j with _ | _ | _ | _ | _ | _ | _ | _ | _ | _ | _ | _ | _ | j
      all_goals first | rfl | simp [zupd]
    · simp [zupd, e]
  · by_cases q2 : zlt c
    · unfold zgW
      simp only [if_neg q1, if_pos q2]
      funext q j
      by_cases e : q = 93
      · subst e
        rcases j with _ | _ | _ | _ | _ | _ | _ | _ | _ | _ | _ | _ | _ | j
        all_goals first | rfl | simp [zupd]
      · simp [zupd, e]
    · by_cases q3 : zdg c
      · unfold zgN
        simp only [if_neg q1, if_neg q2, if_pos q3]
        funext q j
        by_cases e : q = 93
        · subst e
          rcases j with _ | _ | _ | _ | _ | _ | _ | _ | _ | _ | _ | _ | _ | j
          all_goals first | rfl | simp [zupd]
        · simp [zupd, e]
      · simp only [if_neg q1, if_neg q2, if_neg q3]
        funext q j
        by_cases e : q = 93
        · subst e
          rcases j with _ | _ | _ | _ | _ | _ | _ | _ | _ | _ | _ | _ | _ | j
          all_goals first | rfl | simp [zupd]
        · simp [zupd, e]
set_option maxRecDepth 100000 in
theorem zk115_L2 {w : zW} {K : zK} (hn : 0 ≤ w 1 1 ∧ w 1 1 ≤ 800)  : ∀ (m : Nat) (i : Int) (d1 d3 : zV), (0 ≤ i) → (i + m = w 1 1) → (K (0, some (0, zrn (fun j => zbl (zTy (w 2) (w 1 1) j)) m i)) w 238) → zwp 115 2 [(2, 3), d1, (0, i), d3] [] w 238 0 K := by
  
  intro m
  induction m with
  | zero =>
    intro i d1 d3 h1 h2 h
    refine (show (if i < w 1 1 then (0 ≤ w 1 1 ∧ w 1 1 ≤ 800) ∧ (if zTy (w 2) (w 1 1) i = 32 then zwp 115 2 [(2, 3), (9, 0), (0, z32 (i + 1)), (9, 0)] [] w 238 0 K else if zTy (w 2) (w 1 1) i = 10 then zwp 115 2 [(2, 3), (9, 0), (0, z32 (i + 1)), (9, 0)] [] w 238 0 K else K (0, some (0, i)) w 238) else K (0, some (0, w 1 1)) w 238) → _ from fun h => show zwp 115 2 [(2, 3), d1, (0, i), d3] [] w 238 0 K from zgo_imp zT166_ok (cut := fun pc => Nat.beq pc 2 || Nat.beq pc 17 || Nat.beq pc 21 || Nat.beq pc 36) 400 (show if i < w 1 1 then zwp 115 17 [(2, 3), (9, 0), (0, i), (9, 0)] [(2, 1)] w 238 0 K else K (0, some (0, w 1 1)) w 238 from zmI (fun h => (fun h => show zwp 115 17 [(2, 3), (9, 0), (0, i), (9, 0)] [(2, 1)] w 238 0 K from zgo_imp zT166_ok (cut := fun pc => Nat.beq pc 2 || Nat.beq pc 17 || Nat.beq pc 21 || Nat.beq pc 36) 400 (show (0 ≤ w 1 1 ∧ w 1 1 ≤ 800) ∧ (zwp 115 21 [(2, 3), (9, 0), (0, i), (9, 0)] [(0, zTy (w 2) (w 1 1) i)] w 238 0 K) from zmA (fun h => (fun h => show zwp 115 21 [(2, 3), (9, 0), (0, i), (9, 0)] [(0, zTy (w 2) (w 1 1) i)] w 238 0 K from zgo_imp zT166_ok (cut := fun pc => Nat.beq pc 2 || Nat.beq pc 17 || Nat.beq pc 21 || Nat.beq pc 36) 400 (show if zTy (w 2) (w 1 1) i = 32 then zwp 115 36 [(2, 3), (9, 0), (0, i), (0, zTy (w 2) (w 1 1) i)] [] w 238 0 K else if zTy (w 2) (w 1 1) i = 10 then zwp 115 36 [(2, 3), (9, 0), (0, i), (0, zTy (w 2) (w 1 1) i)] [] w 238 0 K else K (0, some (0, i)) w 238 from zmI (fun h => (fun h => show zwp 115 36 [(2, 3), (9, 0), (0, i), (0, zTy (w 2) (w 1 1) i)] [] w 238 0 K from zgo_imp zT166_ok (cut := fun pc => Nat.beq pc 2 || Nat.beq pc 17 || Nat.beq pc 21 || Nat.beq pc 36) 400 (show zwp 115 2 [(2, 3), (9, 0), (0, z32 (i + 1)), (9, 0)] [] w 238 0 K from h)) h) (fun h => zmI (fun h => (fun h => show zwp 115 36 [(2, 3), (9, 0), (0, i), (0, zTy (w 2) (w 1 1) i)] [] w 238 0 K from zgo_imp zT166_ok (cut := fun pc => Nat.beq pc 2 || Nat.beq pc 17 || Nat.beq pc 21 || Nat.beq pc 36) 400 (show zwp 115 2 [(2, 3), (9, 0), (0, z32 (i + 1)), (9, 0)] [] w 238 0 K from h)) h) (fun h => h) h) h)) h) h)) h) (fun h => h) h)) ?_
    exact ziF (by omega) (zKe h (by show i = w 1 1; omega))
  | succ m ih =>
    intro i d1 d3 h1 h2 h
    refine (show (if i < w 1 1 then (0 ≤ w 1 1 ∧ w 1 1 ≤ 800) ∧ (if zTy (w 2) (w 1 1) i = 32 then zwp 115 2 [(2, 3), (9, 0), (0, z32 (i + 1)), (9, 0)] [] w 238 0 K else if zTy (w 2) (w 1 1) i = 10 then zwp 115 2 [(2, 3), (9, 0), (0, z32 (i + 1)), (9, 0)] [] w 238 0 K else K (0, some (0, i)) w 238) else K (0, some (0, w 1 1)) w 238) → _ from fun h => show zwp 115 2 [(2, 3), d1, (0, i), d3] [] w 238 0 K from zgo_imp zT166_ok (cut := fun pc => Nat.beq pc 2 || Nat.beq pc 17 || Nat.beq pc 21 || Nat.beq pc 36) 400 (show if i < w 1 1 then zwp 115 17 [(2, 3), (9, 0), (0, i), (9, 0)] [(2, 1)] w 238 0 K else K (0, some (0, w 1 1)) w 238 from zmI (fun h => (fun h => show zwp 115 17 [(2, 3), (9, 0), (0, i), (9, 0)] [(2, 1)] w 238 0 K from zgo_imp zT166_ok (cut := fun pc => Nat.beq pc 2 || Nat.beq pc 17 || Nat.beq pc 21 || Nat.beq pc 36) 400 (show (0 ≤ w 1 1 ∧ w 1 1 ≤ 800) ∧ (zwp 115 21 [(2, 3), (9, 0), (0, i), (9, 0)] [(0, zTy (w 2) (w 1 1) i)] w 238 0 K) from zmA (fun h => (fun h => show zwp 115 21 [(2, 3), (9, 0), (0, i), (9, 0)] [(0, zTy (w 2) (w 1 1) i)] w 238 0 K from zgo_imp zT166_ok (cut := fun pc => Nat.beq pc 2 || Nat.beq pc 17 || Nat.beq pc 21 || Nat.beq pc 36) 400 (show if zTy (w 2) (w 1 1) i = 32 then zwp 115 36 [(2, 3), (9, 0), (0, i), (0, zTy (w 2) (w 1 1) i)] [] w 238 0 K else if zTy (w 2) (w 1 1) i = 10 then zwp 115 36 [(2, 3), (9, 0), (0, i), (0, zTy (w 2) (w 1 1) i)] [] w 238 0 K else K (0, some (0, i)) w 238 from zmI (fun h => (fun h => show zwp 115 36 [(2, 3), (9, 0), (0, i), (0, zTy (w 2) (w 1 1) i)] [] w 238 0 K from zgo_imp zT166_ok (cut := fun pc => Nat.beq pc 2 || Nat.beq pc 17 || Nat.beq pc 21 || Nat.beq pc 36) 400 (show zwp 115 2 [(2, 3), (9, 0), (0, z32 (i + 1)), (9, 0)] [] w 238 0 K from h)) h) (fun h => zmI (fun h => (fun h => show zwp 115 36 [(2, 3), (9, 0), (0, i), (0, zTy (w 2) (w 1 1) i)] [] w 238 0 K from zgo_imp zT166_ok (cut := fun pc => Nat.beq pc 2 || Nat.beq pc 17 || Nat.beq pc 21 || Nat.beq pc 36) 400 (show zwp 115 2 [(2, 3), (9, 0), (0, z32 (i + 1)), (9, 0)] [] w 238 0 K from h)) h) (fun h => h) h) h)) h) h)) h) (fun h => h) h)) ?_
    rw [z32_id (x := i + 1) ⟨by omega, by omega⟩]
    have e : zrn (fun j => zbl (zTy (w 2) (w 1 1) j)) (m + 1) i = if zbl (zTy (w 2) (w 1 1) i) then zrn (fun j => zbl (zTy (w 2) (w 1 1) j)) m (i + 1) else i := rfl
    refine ziT (by omega) ⟨hn, ?_⟩
    by_cases g : zTy (w 2) (w 1 1) i = 32
    · rw [e, if_pos (Or.inl g)] at h
      exact ziT g (ih _ _ _ (by omega) (by omega) h)
    · refine ziF g ?_
      by_cases g2 : zTy (w 2) (w 1 1) i = 10
      · rw [e, if_pos (Or.inr g2)] at h
        exact ziT g2 (ih _ _ _ (by omega) (by omega) h)
      · rw [e, if_neg fun q => q.elim g g2] at h
        exact ziF g2 h
/-! $Tokens.behindBlanks -/
set_option maxRecDepth 100000 in
theorem zk115_3 (p : Int) (w : zW) (K : zK) (h : ((0 ≤ w 1 1 ∧ w 1 1 ≤ 800) ∧ 0 ≤ p ∧ p ≤ w 1 1) ∧ (K (0, some (0, zst (zTy (w 2) (w 1 1)) (w 1 1) p)) (w) 238)) : zcall 115 [(2, 3), (0, p), (9, 0), (9, 0)] w 238 K := by
  obtain ⟨hg, h⟩ := h
  refine (show (zwp 115 2 [(2, 3), (0, p), (0, p), (9, 0)] [] w 238 0 K) → _ from fun h => show zwp 115 0 [(2, 3), (0, p), (9, 0), (9, 0)] [] w 238 0 K from zgo_imp zT166_ok (cut := fun pc => Nat.beq pc 2 || Nat.beq pc 17 || Nat.beq pc 21 || Nat.beq pc 36) 400 (show zwp 115 2 [(2, 3), (0, p), (0, p), (9, 0)] [] w 238 0 K from h)) ?_
  exact zk115_L2 hg.1 (w 1 1 - p).toNat p _ _ (by omega) (by omega) h
noncomputable def zb115 (l0 : List zV) (w : zW) (K : zK) : Prop := cond (zpe (zar l0 0) 3) (zA l0 1 fun p => ((0 ≤ w 1 1 ∧ w 1 1 ≤ 800) ∧ 0 ≤ p ∧ p ≤ w 1 1) ∧ (K (0, some (0, zst (zTy (w 2) (w 1 1)) (w 1 1) p)) (w) 238)) (False)
noncomputable def zT167 : zSum := zsm1 115 [2, 0, 9, 9] zb115 zT166
theorem zT167_ok : zSok zT167 := zsm1_ok zT166_ok fun l0 w K h => by
  unfold zb115 at h
  cases q0 : zpe (zar l0 0) 3 with
  | true =>
    rw [q0, cond_true] at h
    have e : zar l0 0 = 3 := zpe_e q0
    show zcall 115 [(2, zar l0 0), (0, zar l0 1), (9, 0), (9, 0)] w 238 K
    rw [e]
    exact zk115_3 (zar l0 1) w K (zA_e h)
  | false =>
  rw [q0, cond_false] at h
  exact h.elim
set_option maxRecDepth 100000 in
theorem zk116_L10 {w : zW} {K : zK} (hn : 0 ≤ w 1 1 ∧ w 1 1 ≤ 800) (hs : 0 ≤ w 3 2 ∧ w 3 2 ≤ w 1 1)  : ∀ (m : Nat) (i a : Int), (w 3 2 ≤ i) → (i + m = w 1 1) → (K (0, none) (zqW w (w 3 2) (zrn (fun j => zlt (zTy (w 2) (w 1 1) j)) m i) (zrf (fun j => zlt (zTy (w 2) (w 1 1) j)) (fun a j => zs8 a (zTy (w 2) (w 1 1) j)) m i a)) 238) → zwp 116 10 [(2, 3), (0, i)] [] (zupd w 3 5 a) 238 0 K := by
  
  intro m
  induction m with
  | zero =>
    intro i a  h1 h2 h
    refine (show (if i < w 1 1 then (0 ≤ (w 1 1) ∧ (w 1 1) ≤ 800) ∧ (if ((if zlt (zTy (w 2) ((w 1 1)) i) then 1 else 0) : Int) = 0 then if 8 < z32 (i - (w 3 2)) then K (0, none) (zupd (zupd (zupd w 3 5 a) 3 3 i) 3 1 0) 238 else zif False (1000 ≤ 1000 + zWd a ∧ 1000 + zWd a < 1015) (K (0, none) (zupd (zupd (zupd (zupd w 3 5 a) 3 3 i) 3 1 1) 3 4 (1000 + zWd a)) 238) else (0 ≤ (w 1 1) ∧ (w 1 1) ≤ 800) ∧ (zwp 116 10 [(2, 3), (0, z32 (i + 1))] [] (zupd (zupd w 3 5 a) 3 5 ((Int64.ofInt ((Int64.ofInt a <<< ((Int32.ofInt 8).toInt64 &&& 63)).toInt) ||| Int64.ofInt (zTy (w 2) ((w 1 1)) i)).toInt)) 238 0 K)) else if 8 < z32 (i - (w 3 2)) then K (0, none) (zupd (zupd (zupd w 3 5 a) 3 3 i) 3 1 0) 238 else zif False (1000 ≤ 1000 + zWd a ∧ 1000 + zWd a < 1015) (K (0, none) (zupd (zupd (zupd (zupd w 3 5 a) 3 3 i) 3 1 1) 3 4 (1000 + zWd a)) 238)) → _ from fun h => show zwp 116 10 [(2, 3), (0, i)] [] (zupd w 3 5 a) 238 0 K from zgo_imp zT167_ok (cut := fun pc => Nat.beq pc 10 || Nat.beq pc 15 || Nat.beq pc 29 || Nat.beq pc 32 || Nat.beq pc 48 || Nat.beq pc 51 || Nat.beq pc 68 || Nat.beq pc 86 || Nat.beq pc 102) 400 (show zwp 116 15 [(2, 3), (0, i)] [(2, 1), (0, i)] (zupd w 3 5 a) 238 0 K from (fun h => show zwp 116 15 [(2, 3), (0, i)] [(2, 1), (0, i)] (zupd w 3 5 a) 238 0 K from zgo_imp zT167_ok (cut := fun pc => Nat.beq pc 10 || Nat.beq pc 15 || Nat.beq pc 29 || Nat.beq pc 32 || Nat.beq pc 48 || Nat.beq pc 51 || Nat.beq pc 68 || Nat.beq pc 86 || Nat.beq pc 102) 400 (show if i < w 1 1 then (0 ≤ (w 1 1) ∧ (w 1 1) ≤ 800) ∧ (zwp 116 29 [(2, 3), (0, i)] [(0, zTy (w 2) ((w 1 1)) i)] (zupd w 3 5 a) 238 0 K) else zwp 116 68 [(2, 3), (0, i)] [(2, 3)] (zupd (zupd w 3 5 a) 3 3 i) 238 0 K from zmI (fun h => zmA (fun h => (fun h => show zwp 116 29 [(2, 3), (0, i)] [(0, zTy (w 2) ((w 1 1)) i)] (zupd w 3 5 a) 238 0 K from zgo_imp zT167_ok (cut := fun pc => Nat.beq pc 10 || Nat.beq pc 15 || Nat.beq pc 29 || Nat.beq pc 32 || Nat.beq pc 48 || Nat.beq pc 51 || Nat.beq pc 68 || Nat.beq pc 86 || Nat.beq pc 102) 400 (show zwp 116 32 [(2, 3), (0, i)] [(0, ((if zlt (zTy (w 2) ((w 1 1)) i) then 1 else 0) : Int))] (zupd w 3 5 a) 238 0 K from (fun h => show zwp 116 32 [(2, 3), (0, i)] [(0, ((if zlt (zTy (w 2) ((w 1 1)) i) then 1 else 0) : Int))] (zupd w 3 5 a) 238 0 K from zgo_imp zT167_ok (cut := fun pc => Nat.beq pc 10 || Nat.beq pc 15 || Nat.beq pc 29 || Nat.beq pc 32 || Nat.beq pc 48 || Nat.beq pc 51 || Nat.beq pc 68 || Nat.beq pc 86 || Nat.beq pc 102) 400 (show if ((if zlt (zTy (w 2) ((w 1 1)) i) then 1 else 0) : Int) = 0 then zwp 116 68 [(2, 3), (0, i)] [(2, 3)] (zupd (zupd w 3 5 a) 3 3 i) 238 0 K else zwp 116 48 [(2, 3), (0, i)] [(0, i), (2, 1), (1, (Int64.ofInt a <<< ((Int32.ofInt 8).toInt64 &&& 63)).toInt), (2, 3)] (zupd w 3 5 a) 238 0 K from zmI (fun h => (fun h => show zwp 116 68 [(2, 3), (0, i)] [(2, 3)] (zupd (zupd w 3 5 a) 3 3 i) 238 0 K from zgo_imp zT167_ok (cut := fun pc => Nat.beq pc 10 || Nat.beq pc 15 || Nat.beq pc 29 || Nat.beq pc 32 || Nat.beq pc 48 || Nat.beq pc 51 || Nat.beq pc 68 || Nat.beq pc 86 || Nat.beq pc 102) 400 (show if 8 < z32 (i - (w 3 2)) then zwp 116 86 [(2, 3), (0, i)] [] (zupd (zupd (zupd w 3 5 a) 3 3 i) 3 1 0) 238 0 K else zwp 116 102 [(2, 3), (0, i)] [(2, 1000 + zWd a), (2, 3)] (zupd (zupd (zupd w 3 5 a) 3 3 i) 3 1 1) 238 0 K from zmI (fun h => (fun h => show zwp 116 86 [(2, 3), (0, i)] [] (zupd (zupd (zupd w 3 5 a) 3 3 i) 3 1 0) 238 0 K from zgo_imp zT167_ok (cut := fun pc => Nat.beq pc 10 || Nat.beq pc 15 || Nat.beq pc 29 || Nat.beq pc 32 || Nat.beq pc 48 || Nat.beq pc 51 || Nat.beq pc 68 || Nat.beq pc 86 || Nat.beq pc 102) 400 (show K (0, none) (zupd (zupd (zupd w 3 5 a) 3 3 i) 3 1 0) 238 from h)) h) (fun h => (fun h => show zwp 116 102 [(2, 3), (0, i)] [(2, 1000 + zWd a), (2, 3)] (zupd (zupd (zupd w 3 5 a) 3 3 i) 3 1 1) 238 0 K from zgo_imp zT167_ok (cut := fun pc => Nat.beq pc 10 || Nat.beq pc 15 || Nat.beq pc 29 || Nat.beq pc 32 || Nat.beq pc 48 || Nat.beq pc 51 || Nat.beq pc 68 || Nat.beq pc 86 || Nat.beq pc 102) 400 (show zif False (1000 ≤ 1000 + zWd a ∧ 1000 + zWd a < 1015) (K (0, none) (zupd (zupd (zupd (zupd w 3 5 a) 3 3 i) 3 1 1) 3 4 (1000 + zWd a)) 238) from h)) h) h)) h) (fun h => (fun h => show zwp 116 48 [(2, 3), (0, i)] [(0, i), (2, 1), (1, (Int64.ofInt a <<< ((Int32.ofInt 8).toInt64 &&& 63)).toInt), (2, 3)] (zupd w 3 5 a) 238 0 K from zgo_imp zT167_ok (cut := fun pc => Nat.beq pc 10 || Nat.beq pc 15 || Nat.beq pc 29 || Nat.beq pc 32 || Nat.beq pc 48 || Nat.beq pc 51 || Nat.beq pc 68 || Nat.beq pc 86 || Nat.beq pc 102) 400 (show (0 ≤ (w 1 1) ∧ (w 1 1) ≤ 800) ∧ (zwp 116 51 [(2, 3), (0, i)] [(0, zTy (w 2) ((w 1 1)) i), (1, (Int64.ofInt a <<< ((Int32.ofInt 8).toInt64 &&& 63)).toInt), (2, 3)] (zupd w 3 5 a) 238 0 K) from zmA (fun h => (fun h => show zwp 116 51 [(2, 3), (0, i)] [(0, zTy (w 2) ((w 1 1)) i), (1, (Int64.ofInt a <<< ((Int32.ofInt 8).toInt64 &&& 63)).toInt), (2, 3)] (zupd w 3 5 a) 238 0 K from zgo_imp zT167_ok (cut := fun pc => Nat.beq pc 10 || Nat.beq pc 15 || Nat.beq pc 29 || Nat.beq pc 32 || Nat.beq pc 48 || Nat.beq pc 51 || Nat.beq pc 68 || Nat.beq pc 86 || Nat.beq pc 102) 400 (show zwp 116 10 [(2, 3), (0, z32 (i + 1))] [] (zupd (zupd w 3 5 a) 3 5 ((Int64.ofInt ((Int64.ofInt a <<< ((Int32.ofInt 8).toInt64 &&& 63)).toInt) ||| Int64.ofInt (zTy (w 2) ((w 1 1)) i)).toInt)) 238 0 K from h)) h) h)) h) h)) h)) h) h) (fun h => (fun h => show zwp 116 68 [(2, 3), (0, i)] [(2, 3)] (zupd (zupd w 3 5 a) 3 3 i) 238 0 K from zgo_imp zT167_ok (cut := fun pc => Nat.beq pc 10 || Nat.beq pc 15 || Nat.beq pc 29 || Nat.beq pc 32 || Nat.beq pc 48 || Nat.beq pc 51 || Nat.beq pc 68 || Nat.beq pc 86 || Nat.beq pc 102) 400 (show if 8 < z32 (i - (w 3 2)) then zwp 116 86 [(2, 3), (0, i)] [] (zupd (zupd (zupd w 3 5 a) 3 3 i) 3 1 0) 238 0 K else zwp 116 102 [(2, 3), (0, i)] [(2, 1000 + zWd a), (2, 3)] (zupd (zupd (zupd w 3 5 a) 3 3 i) 3 1 1) 238 0 K from zmI (fun h => (fun h => show zwp 116 86 [(2, 3), (0, i)] [] (zupd (zupd (zupd w 3 5 a) 3 3 i) 3 1 0) 238 0 K from zgo_imp zT167_ok (cut := fun pc => Nat.beq pc 10 || Nat.beq pc 15 || Nat.beq pc 29 || Nat.beq pc 32 || Nat.beq pc 48 || Nat.beq pc 51 || Nat.beq pc 68 || Nat.beq pc 86 || Nat.beq pc 102) 400 (show K (0, none) (zupd (zupd (zupd w 3 5 a) 3 3 i) 3 1 0) 238 from h)) h) (fun h => (fun h => show zwp 116 102 [(2, 3), (0, i)] [(2, 1000 + zWd a), (2, 3)] (zupd (zupd (zupd w 3 5 a) 3 3 i) 3 1 1) 238 0 K from zgo_imp zT167_ok (cut := fun pc => Nat.beq pc 10 || Nat.beq pc 15 || Nat.beq pc 29 || Nat.beq pc 32 || Nat.beq pc 48 || Nat.beq pc 51 || Nat.beq pc 68 || Nat.beq pc 86 || Nat.beq pc 102) 400 (show zif False (1000 ≤ 1000 + zWd a ∧ 1000 + zWd a < 1015) (K (0, none) (zupd (zupd (zupd (zupd w 3 5 a) 3 3 i) 3 1 1) 3 4 (1000 + zWd a)) 238) from h)) h) h)) h) h)) h)) ?_
    have h : K (0, none) (zqW w (w 3 2) i a) 238 := h
    rw [z32_id (x := i - w 3 2) ⟨by omega, by omega⟩]
    have wr := zWd_rg a
    refine ziF (by omega) ?_
    by_cases g : 8 < i - w 3 2
    · rw [show zqW w (w 3 2) i a = zupd (zupd (zupd w 3 5 a) 3 3 i) 3 1 0 from if_pos g] at h
      exact ziT g h
    · rw [show zqW w (w 3 2) i a = zupd (zupd (zupd (zupd w 3 5 a) 3 3 i) 3 1 1) 3 4 (1000 + zWd a) from if_neg g] at h
      exact ziF g (zifI (by omega) h)
  | succ m ih =>
    intro i a  h1 h2 h
    refine (show (if i < w 1 1 then (0 ≤ (w 1 1) ∧ (w 1 1) ≤ 800) ∧ (if ((if zlt (zTy (w 2) ((w 1 1)) i) then 1 else 0) : Int) = 0 then if 8 < z32 (i - (w 3 2)) then K (0, none) (zupd (zupd (zupd w 3 5 a) 3 3 i) 3 1 0) 238 else zif False (1000 ≤ 1000 + zWd a ∧ 1000 + zWd a < 1015) (K (0, none) (zupd (zupd (zupd (zupd w 3 5 a) 3 3 i) 3 1 1) 3 4 (1000 + zWd a)) 238) else (0 ≤ (w 1 1) ∧ (w 1 1) ≤ 800) ∧ (zwp 116 10 [(2, 3), (0, z32 (i + 1))] [] (zupd (zupd w 3 5 a) 3 5 ((Int64.ofInt ((Int64.ofInt a <<< ((Int32.ofInt 8).toInt64 &&& 63)).toInt) ||| Int64.ofInt (zTy (w 2) ((w 1 1)) i)).toInt)) 238 0 K)) else if 8 < z32 (i - (w 3 2)) then K (0, none) (zupd (zupd (zupd w 3 5 a) 3 3 i) 3 1 0) 238 else zif False (1000 ≤ 1000 + zWd a ∧ 1000 + zWd a < 1015) (K (0, none) (zupd (zupd (zupd (zupd w 3 5 a) 3 3 i) 3 1 1) 3 4 (1000 + zWd a)) 238)) → _ from fun h => show zwp 116 10 [(2, 3), (0, i)] [] (zupd w 3 5 a) 238 0 K from zgo_imp zT167_ok (cut := fun pc => Nat.beq pc 10 || Nat.beq pc 15 || Nat.beq pc 29 || Nat.beq pc 32 || Nat.beq pc 48 || Nat.beq pc 51 || Nat.beq pc 68 || Nat.beq pc 86 || Nat.beq pc 102) 400 (show zwp 116 15 [(2, 3), (0, i)] [(2, 1), (0, i)] (zupd w 3 5 a) 238 0 K from (fun h => show zwp 116 15 [(2, 3), (0, i)] [(2, 1), (0, i)] (zupd w 3 5 a) 238 0 K from zgo_imp zT167_ok (cut := fun pc => Nat.beq pc 10 || Nat.beq pc 15 || Nat.beq pc 29 || Nat.beq pc 32 || Nat.beq pc 48 || Nat.beq pc 51 || Nat.beq pc 68 || Nat.beq pc 86 || Nat.beq pc 102) 400 (show if i < w 1 1 then (0 ≤ (w 1 1) ∧ (w 1 1) ≤ 800) ∧ (zwp 116 29 [(2, 3), (0, i)] [(0, zTy (w 2) ((w 1 1)) i)] (zupd w 3 5 a) 238 0 K) else zwp 116 68 [(2, 3), (0, i)] [(2, 3)] (zupd (zupd w 3 5 a) 3 3 i) 238 0 K from zmI (fun h => zmA (fun h => (fun h => show zwp 116 29 [(2, 3), (0, i)] [(0, zTy (w 2) ((w 1 1)) i)] (zupd w 3 5 a) 238 0 K from zgo_imp zT167_ok (cut := fun pc => Nat.beq pc 10 || Nat.beq pc 15 || Nat.beq pc 29 || Nat.beq pc 32 || Nat.beq pc 48 || Nat.beq pc 51 || Nat.beq pc 68 || Nat.beq pc 86 || Nat.beq pc 102) 400 (show zwp 116 32 [(2, 3), (0, i)] [(0, ((if zlt (zTy (w 2) ((w 1 1)) i) then 1 else 0) : Int))] (zupd w 3 5 a) 238 0 K from (fun h => show zwp 116 32 [(2, 3), (0, i)] [(0, ((if zlt (zTy (w 2) ((w 1 1)) i) then 1 else 0) : Int))] (zupd w 3 5 a) 238 0 K from zgo_imp zT167_ok (cut := fun pc => Nat.beq pc 10 || Nat.beq pc 15 || Nat.beq pc 29 || Nat.beq pc 32 || Nat.beq pc 48 || Nat.beq pc 51 || Nat.beq pc 68 || Nat.beq pc 86 || Nat.beq pc 102) 400 (show if ((if zlt (zTy (w 2) ((w 1 1)) i) then 1 else 0) : Int) = 0 then zwp 116 68 [(2, 3), (0, i)] [(2, 3)] (zupd (zupd w 3 5 a) 3 3 i) 238 0 K else zwp 116 48 [(2, 3), (0, i)] [(0, i), (2, 1), (1, (Int64.ofInt a <<< ((Int32.ofInt 8).toInt64 &&& 63)).toInt), (2, 3)] (zupd w 3 5 a) 238 0 K from zmI (fun h => (fun h => show zwp 116 68 [(2, 3), (0, i)] [(2, 3)] (zupd (zupd w 3 5 a) 3 3 i) 238 0 K from zgo_imp zT167_ok (cut := fun pc => Nat.beq pc 10 || Nat.beq pc 15 || Nat.beq pc 29 || Nat.beq pc 32 || Nat.beq pc 48 || Nat.beq pc 51 || Nat.beq pc 68 || Nat.beq pc 86 || Nat.beq pc 102) 400 (show if 8 < z32 (i - (w 3 2)) then zwp 116 86 [(2, 3), (0, i)] [] (zupd (zupd (zupd w 3 5 a) 3 3 i) 3 1 0) 238 0 K else zwp 116 102 [(2, 3), (0, i)] [(2, 1000 + zWd a), (2, 3)] (zupd (zupd (zupd w 3 5 a) 3 3 i) 3 1 1) 238 0 K from zmI (fun h => (fun h => show zwp 116 86 [(2, 3), (0, i)] [] (zupd (zupd (zupd w 3 5 a) 3 3 i) 3 1 0) 238 0 K from zgo_imp zT167_ok (cut := fun pc => Nat.beq pc 10 || Nat.beq pc 15 || Nat.beq pc 29 || Nat.beq pc 32 || Nat.beq pc 48 || Nat.beq pc 51 || Nat.beq pc 68 || Nat.beq pc 86 || Nat.beq pc 102) 400 (show K (0, none) (zupd (zupd (zupd w 3 5 a) 3 3 i) 3 1 0) 238 from h)) h) (fun h => (fun h => show zwp 116 102 [(2, 3), (0, i)] [(2, 1000 + zWd a), (2, 3)] (zupd (zupd (zupd w 3 5 a) 3 3 i) 3 1 1) 238 0 K from zgo_imp zT167_ok (cut := fun pc => Nat.beq pc 10 || Nat.beq pc 15 || Nat.beq pc 29 || Nat.beq pc 32 || Nat.beq pc 48 || Nat.beq pc 51 || Nat.beq pc 68 || Nat.beq pc 86 || Nat.beq pc 102) 400 (show zif False (1000 ≤ 1000 + zWd a ∧ 1000 + zWd a < 1015) (K (0, none) (zupd (zupd (zupd (zupd w 3 5 a) 3 3 i) 3 1 1) 3 4 (1000 + zWd a)) 238) from h)) h) h)) h) (fun h => (fun h => show zwp 116 48 [(2, 3), (0, i)] [(0, i), (2, 1), (1, (Int64.ofInt a <<< ((Int32.ofInt 8).toInt64 &&& 63)).toInt), (2, 3)] (zupd w 3 5 a) 238 0 K from zgo_imp zT167_ok (cut := fun pc => Nat.beq pc 10 || Nat.beq pc 15 || Nat.beq pc 29 || Nat.beq pc 32 || Nat.beq pc 48 || Nat.beq pc 51 || Nat.beq pc 68 || Nat.beq pc 86 || Nat.beq pc 102) 400 (show (0 ≤ (w 1 1) ∧ (w 1 1) ≤ 800) ∧ (zwp 116 51 [(2, 3), (0, i)] [(0, zTy (w 2) ((w 1 1)) i), (1, (Int64.ofInt a <<< ((Int32.ofInt 8).toInt64 &&& 63)).toInt), (2, 3)] (zupd w 3 5 a) 238 0 K) from zmA (fun h => (fun h => show zwp 116 51 [(2, 3), (0, i)] [(0, zTy (w 2) ((w 1 1)) i), (1, (Int64.ofInt a <<< ((Int32.ofInt 8).toInt64 &&& 63)).toInt), (2, 3)] (zupd w 3 5 a) 238 0 K from zgo_imp zT167_ok (cut := fun pc => Nat.beq pc 10 || Nat.beq pc 15 || Nat.beq pc 29 || Nat.beq pc 32 || Nat.beq pc 48 || Nat.beq pc 51 || Nat.beq pc 68 || Nat.beq pc 86 || Nat.beq pc 102) 400 (show zwp 116 10 [(2, 3), (0, z32 (i + 1))] [] (zupd (zupd w 3 5 a) 3 5 ((Int64.ofInt ((Int64.ofInt a <<< ((Int32.ofInt 8).toInt64 &&& 63)).toInt) ||| Int64.ofInt (zTy (w 2) ((w 1 1)) i)).toInt)) 238 0 K from h)) h) h)) h) h)) h)) h) h) (fun h => (fun h => show zwp 116 68 [(2, 3), (0, i)] [(2, 3)] (zupd (zupd w 3 5 a) 3 3 i) 238 0 K from zgo_imp zT167_ok (cut := fun pc => Nat.beq pc 10 || Nat.beq pc 15 || Nat.beq pc 29 || Nat.beq pc 32 || Nat.beq pc 48 || Nat.beq pc 51 || Nat.beq pc 68 || Nat.beq pc 86 || Nat.beq pc 102) 400 (show if 8 < z32 (i - (w 3 2)) then zwp 116 86 [(2, 3), (0, i)] [] (zupd (zupd (zupd w 3 5 a) 3 3 i) 3 1 0) 238 0 K else zwp 116 102 [(2, 3), (0, i)] [(2, 1000 + zWd a), (2, 3)] (zupd (zupd (zupd w 3 5 a) 3 3 i) 3 1 1) 238 0 K from zmI (fun h => (fun h => show zwp 116 86 [(2, 3), (0, i)] [] (zupd (zupd (zupd w 3 5 a) 3 3 i) 3 1 0) 238 0 K from zgo_imp zT167_ok (cut := fun pc => Nat.beq pc 10 || Nat.beq pc 15 || Nat.beq pc 29 || Nat.beq pc 32 || Nat.beq pc 48 || Nat.beq pc 51 || Nat.beq pc 68 || Nat.beq pc 86 || Nat.beq pc 102) 400 (show K (0, none) (zupd (zupd (zupd w 3 5 a) 3 3 i) 3 1 0) 238 from h)) h) (fun h => (fun h => show zwp 116 102 [(2, 3), (0, i)] [(2, 1000 + zWd a), (2, 3)] (zupd (zupd (zupd w 3 5 a) 3 3 i) 3 1 1) 238 0 K from zgo_imp zT167_ok (cut := fun pc => Nat.beq pc 10 || Nat.beq pc 15 || Nat.beq pc 29 || Nat.beq pc 32 || Nat.beq pc 48 || Nat.beq pc 51 || Nat.beq pc 68 || Nat.beq pc 86 || Nat.beq pc 102) 400 (show zif False (1000 ≤ 1000 + zWd a ∧ 1000 + zWd a < 1015) (K (0, none) (zupd (zupd (zupd (zupd w 3 5 a) 3 3 i) 3 1 1) 3 4 (1000 + zWd a)) 238) from h)) h) h)) h) h)) h)) ?_
    rw [z32_id (x := i + 1) ⟨by omega, by omega⟩, z32_id (x := i - w 3 2) ⟨by omega, by omega⟩]
    have e : zrn (fun j => zlt (zTy (w 2) (w 1 1) j)) (m + 1) i = if zlt (zTy (w 2) (w 1 1) i) then zrn (fun j => zlt (zTy (w 2) (w 1 1) j)) m (i + 1) else i := rfl
    have e2 : zrf (fun j => zlt (zTy (w 2) (w 1 1) j)) (fun a j => zs8 a (zTy (w 2) (w 1 1) j)) (m + 1) i a = if zlt (zTy (w 2) (w 1 1) i) then zrf (fun j => zlt (zTy (w 2) (w 1 1) j)) (fun a j => zs8 a (zTy (w 2) (w 1 1) j)) m (i + 1) (zs8 a (zTy (w 2) (w 1 1) i)) else a := rfl
    have wr := zWd_rg a
    refine ziT (by omega) ⟨hn, ?_⟩
    by_cases g : zlt (zTy (w 2) (w 1 1) i)
    · rw [e, e2, if_pos g, if_pos g] at h
      refine ziF (by rw [if_pos g]; decide) ⟨hn, ?_⟩
      rw [zupd_2]
      exact ih (i + 1) (zs8 a (zTy (w 2) (w 1 1) i)) (by omega) (by omega) h
    · rw [e, e2, if_neg g, if_neg g] at h
      refine ziT (if_neg g) ?_
      by_cases g : 8 < i - w 3 2
      · rw [show zqW w (w 3 2) i a = zupd (zupd (zupd w 3 5 a) 3 3 i) 3 1 0 from if_pos g] at h
        exact ziT g h
      · rw [show zqW w (w 3 2) i a = zupd (zupd (zupd (zupd w 3 5 a) 3 3 i) 3 1 1) 3 4 (1000 + zWd a) from if_neg g] at h
        exact ziF g (zifI (by omega) h)
/-! $Tokens.takeWord -/
set_option maxRecDepth 100000 in
theorem zk116_3 (w : zW) (K : zK) (h : ((0 ≤ w 1 1 ∧ w 1 1 ≤ 800) ∧ 0 ≤ w 3 2 ∧ w 3 2 ≤ w 1 1) ∧ (K (0, none) (zqW w (w 3 2) (zle (zTy (w 2) (w 1 1)) (w 1 1) (w 3 2)) (zLc (zTy (w 2) (w 1 1)) (w 1 1) (w 3 2))) 238)) : zcall 116 [(2, 3), (9, 0)] w 238 K := by
  obtain ⟨hg, h⟩ := h
  refine (show (zwp 116 10 [(2, 3), (0, w 3 2)] [] (zupd w 3 5 0) 238 0 K) → _ from fun h => show zwp 116 0 [(2, 3), (9, 0)] [] w 238 0 K from zgo_imp zT167_ok (cut := fun pc => Nat.beq pc 10 || Nat.beq pc 15 || Nat.beq pc 29 || Nat.beq pc 32 || Nat.beq pc 48 || Nat.beq pc 51 || Nat.beq pc 68 || Nat.beq pc 86 || Nat.beq pc 102) 400 (show zwp 116 10 [(2, 3), (0, w 3 2)] [] (zupd w 3 5 0) 238 0 K from h)) ?_
  exact zk116_L10 hg.1 hg.2 (w 1 1 - w 3 2).toNat (w 3 2) 0 (by omega) (by omega) h
noncomputable def zb116 (l0 : List zV) (w : zW) (K : zK) : Prop := cond (zpe (zar l0 0) 3) (((0 ≤ w 1 1 ∧ w 1 1 ≤ 800) ∧ 0 ≤ w 3 2 ∧ w 3 2 ≤ w 1 1) ∧ (K (0, none) (zqW w (w 3 2) (zle (zTy (w 2) (w 1 1)) (w 1 1) (w 3 2)) (zLc (zTy (w 2) (w 1 1)) (w 1 1) (w 3 2))) 238)) (False)
noncomputable def zT168 : zSum := zsm1 116 [2, 9] zb116 zT167
theorem zT168_ok : zSok zT168 := zsm1_ok zT167_ok fun l0 w K h => by
  unfold zb116 at h
  cases q0 : zpe (zar l0 0) 3 with
  | true =>
    rw [q0, cond_true] at h
    have e : zar l0 0 = 3 := zpe_e q0
    show zcall 116 [(2, zar l0 0), (9, 0)] w 238 K
    rw [e]
    exact zk116_3  w K h
  | false =>
  rw [q0, cond_false] at h
  exact h.elim
set_option maxRecDepth 100000 in
theorem zk117_L10 {w : zW} {K : zK} (hn : 0 ≤ w 1 1 ∧ w 1 1 ≤ 800) (hs : 0 ≤ w 3 2 ∧ w 3 2 ≤ w 1 1)  : ∀ (m : Nat) (i a : Int), (w 3 2 ≤ i) → (i + m = w 1 1) → (K (0, none) (zqN w (w 3 2) (zrn (fun j => zdg (zTy (w 2) (w 1 1) j)) m i) (zrf (fun j => zdg (zTy (w 2) (w 1 1) j)) (fun a j => zsd a (zTy (w 2) (w 1 1) j)) m i a)) 238) → zwp 117 10 [(2, 3), (0, i)] [] (zupd w 3 6 a) 238 0 K := by
  
  intro m
  induction m with
  | zero =>
    intro i a  h1 h2 h
    refine (show (if i < w 1 1 then (0 ≤ (w 1 1) ∧ (w 1 1) ≤ 800) ∧ (if ((if zdg (zTy (w 2) ((w 1 1)) i) then 1 else 0) : Int) = 0 then if 6 < z32 (i - (w 3 2)) then K (0, none) (zupd (zupd (zupd w 3 6 a) 3 3 i) 3 1 0) 238 else K (0, none) (zupd (zupd (zupd w 3 6 a) 3 3 i) 3 1 2) 238 else (0 ≤ (w 1 1) ∧ (w 1 1) ≤ 800) ∧ (zwp 117 10 [(2, 3), (0, z32 (i + 1))] [] (zupd (zupd w 3 6 a) 3 6 (z32 ((z32 ((z32 (10 * a)) + (zTy (w 2) ((w 1 1)) i))) - 48))) 238 0 K)) else if 6 < z32 (i - (w 3 2)) then K (0, none) (zupd (zupd (zupd w 3 6 a) 3 3 i) 3 1 0) 238 else K (0, none) (zupd (zupd (zupd w 3 6 a) 3 3 i) 3 1 2) 238) → _ from fun h => show zwp 117 10 [(2, 3), (0, i)] [] (zupd w 3 6 a) 238 0 K from zgo_imp zT168_ok (cut := fun pc => Nat.beq pc 10 || Nat.beq pc 15 || Nat.beq pc 29 || Nat.beq pc 32 || Nat.beq pc 48 || Nat.beq pc 51 || Nat.beq pc 69 || Nat.beq pc 85) 400 (show zwp 117 15 [(2, 3), (0, i)] [(2, 1), (0, i)] (zupd w 3 6 a) 238 0 K from (fun h => show zwp 117 15 [(2, 3), (0, i)] [(2, 1), (0, i)] (zupd w 3 6 a) 238 0 K from zgo_imp zT168_ok (cut := fun pc => Nat.beq pc 10 || Nat.beq pc 15 || Nat.beq pc 29 || Nat.beq pc 32 || Nat.beq pc 48 || Nat.beq pc 51 || Nat.beq pc 69 || Nat.beq pc 85) 400 (show if i < w 1 1 then (0 ≤ (w 1 1) ∧ (w 1 1) ≤ 800) ∧ (zwp 117 29 [(2, 3), (0, i)] [(0, zTy (w 2) ((w 1 1)) i)] (zupd w 3 6 a) 238 0 K) else zwp 117 69 [(2, 3), (0, i)] [] (zupd (zupd w 3 6 a) 3 3 i) 238 0 K from zmI (fun h => zmA (fun h => (fun h => show zwp 117 29 [(2, 3), (0, i)] [(0, zTy (w 2) ((w 1 1)) i)] (zupd w 3 6 a) 238 0 K from zgo_imp zT168_ok (cut := fun pc => Nat.beq pc 10 || Nat.beq pc 15 || Nat.beq pc 29 || Nat.beq pc 32 || Nat.beq pc 48 || Nat.beq pc 51 || Nat.beq pc 69 || Nat.beq pc 85) 400 (show zwp 117 32 [(2, 3), (0, i)] [(0, ((if zdg (zTy (w 2) ((w 1 1)) i) then 1 else 0) : Int))] (zupd w 3 6 a) 238 0 K from (fun h => show zwp 117 32 [(2, 3), (0, i)] [(0, ((if zdg (zTy (w 2) ((w 1 1)) i) then 1 else 0) : Int))] (zupd w 3 6 a) 238 0 K from zgo_imp zT168_ok (cut := fun pc => Nat.beq pc 10 || Nat.beq pc 15 || Nat.beq pc 29 || Nat.beq pc 32 || Nat.beq pc 48 || Nat.beq pc 51 || Nat.beq pc 69 || Nat.beq pc 85) 400 (show if ((if zdg (zTy (w 2) ((w 1 1)) i) then 1 else 0) : Int) = 0 then zwp 117 69 [(2, 3), (0, i)] [] (zupd (zupd w 3 6 a) 3 3 i) 238 0 K else zwp 117 48 [(2, 3), (0, i)] [(0, i), (2, 1), (0, z32 (10 * a)), (2, 3)] (zupd w 3 6 a) 238 0 K from zmI (fun h => (fun h => show zwp 117 69 [(2, 3), (0, i)] [] (zupd (zupd w 3 6 a) 3 3 i) 238 0 K from zgo_imp zT168_ok (cut := fun pc => Nat.beq pc 10 || Nat.beq pc 15 || Nat.beq pc 29 || Nat.beq pc 32 || Nat.beq pc 48 || Nat.beq pc 51 || Nat.beq pc 69 || Nat.beq pc 85) 400 (show if 6 < z32 (i - (w 3 2)) then zwp 117 85 [(2, 3), (0, i)] [(0, 0), (2, 3)] (zupd (zupd w 3 6 a) 3 3 i) 238 0 K else K (0, none) (zupd (zupd (zupd w 3 6 a) 3 3 i) 3 1 2) 238 from zmI (fun h => (fun h => show zwp 117 85 [(2, 3), (0, i)] [(0, 0), (2, 3)] (zupd (zupd w 3 6 a) 3 3 i) 238 0 K from zgo_imp zT168_ok (cut := fun pc => Nat.beq pc 10 || Nat.beq pc 15 || Nat.beq pc 29 || Nat.beq pc 32 || Nat.beq pc 48 || Nat.beq pc 51 || Nat.beq pc 69 || Nat.beq pc 85) 400 (show K (0, none) (zupd (zupd (zupd w 3 6 a) 3 3 i) 3 1 0) 238 from h)) h) (fun h => h) h)) h) (fun h => (fun h => show zwp 117 48 [(2, 3), (0, i)] [(0, i), (2, 1), (0, z32 (10 * a)), (2, 3)] (zupd w 3 6 a) 238 0 K from zgo_imp zT168_ok (cut := fun pc => Nat.beq pc 10 || Nat.beq pc 15 || Nat.beq pc 29 || Nat.beq pc 32 || Nat.beq pc 48 || Nat.beq pc 51 || Nat.beq pc 69 || Nat.beq pc 85) 400 (show (0 ≤ (w 1 1) ∧ (w 1 1) ≤ 800) ∧ (zwp 117 51 [(2, 3), (0, i)] [(0, zTy (w 2) ((w 1 1)) i), (0, z32 (10 * a)), (2, 3)] (zupd w 3 6 a) 238 0 K) from zmA (fun h => (fun h => show zwp 117 51 [(2, 3), (0, i)] [(0, zTy (w 2) ((w 1 1)) i), (0, z32 (10 * a)), (2, 3)] (zupd w 3 6 a) 238 0 K from zgo_imp zT168_ok (cut := fun pc => Nat.beq pc 10 || Nat.beq pc 15 || Nat.beq pc 29 || Nat.beq pc 32 || Nat.beq pc 48 || Nat.beq pc 51 || Nat.beq pc 69 || Nat.beq pc 85) 400 (show zwp 117 10 [(2, 3), (0, z32 (i + 1))] [] (zupd (zupd w 3 6 a) 3 6 (z32 ((z32 ((z32 (10 * a)) + (zTy (w 2) ((w 1 1)) i))) - 48))) 238 0 K from h)) h) h)) h) h)) h)) h) h) (fun h => (fun h => show zwp 117 69 [(2, 3), (0, i)] [] (zupd (zupd w 3 6 a) 3 3 i) 238 0 K from zgo_imp zT168_ok (cut := fun pc => Nat.beq pc 10 || Nat.beq pc 15 || Nat.beq pc 29 || Nat.beq pc 32 || Nat.beq pc 48 || Nat.beq pc 51 || Nat.beq pc 69 || Nat.beq pc 85) 400 (show if 6 < z32 (i - (w 3 2)) then zwp 117 85 [(2, 3), (0, i)] [(0, 0), (2, 3)] (zupd (zupd w 3 6 a) 3 3 i) 238 0 K else K (0, none) (zupd (zupd (zupd w 3 6 a) 3 3 i) 3 1 2) 238 from zmI (fun h => (fun h => show zwp 117 85 [(2, 3), (0, i)] [(0, 0), (2, 3)] (zupd (zupd w 3 6 a) 3 3 i) 238 0 K from zgo_imp zT168_ok (cut := fun pc => Nat.beq pc 10 || Nat.beq pc 15 || Nat.beq pc 29 || Nat.beq pc 32 || Nat.beq pc 48 || Nat.beq pc 51 || Nat.beq pc 69 || Nat.beq pc 85) 400 (show K (0, none) (zupd (zupd (zupd w 3 6 a) 3 3 i) 3 1 0) 238 from h)) h) (fun h => h) h)) h) h)) h)) ?_
    rw [z32_id (x := i - w 3 2) ⟨by omega, by omega⟩]
    refine ziF (by omega) ?_
    have h : K (0, none) (zupd (zupd (zupd w 3 6 a) 3 3 i) 3 1 (if 6 < i - w 3 2 then 0 else 2)) 238 := h
    by_cases g6 : 6 < i - w 3 2
    · rw [if_pos g6] at h
      exact ziT g6 h
    · rw [if_neg g6] at h
      exact ziF g6 h
  | succ m ih =>
    intro i a  h1 h2 h
    refine (show (if i < w 1 1 then (0 ≤ (w 1 1) ∧ (w 1 1) ≤ 800) ∧ (if ((if zdg (zTy (w 2) ((w 1 1)) i) then 1 else 0) : Int) = 0 then if 6 < z32 (i - (w 3 2)) then K (0, none) (zupd (zupd (zupd w 3 6 a) 3 3 i) 3 1 0) 238 else K (0, none) (zupd (zupd (zupd w 3 6 a) 3 3 i) 3 1 2) 238 else (0 ≤ (w 1 1) ∧ (w 1 1) ≤ 800) ∧ (zwp 117 10 [(2, 3), (0, z32 (i + 1))] [] (zupd (zupd w 3 6 a) 3 6 (z32 ((z32 ((z32 (10 * a)) + (zTy (w 2) ((w 1 1)) i))) - 48))) 238 0 K)) else if 6 < z32 (i - (w 3 2)) then K (0, none) (zupd (zupd (zupd w 3 6 a) 3 3 i) 3 1 0) 238 else K (0, none) (zupd (zupd (zupd w 3 6 a) 3 3 i) 3 1 2) 238) → _ from fun h => show zwp 117 10 [(2, 3), (0, i)] [] (zupd w 3 6 a) 238 0 K from zgo_imp zT168_ok (cut := fun pc => Nat.beq pc 10 || Nat.beq pc 15 || Nat.beq pc 29 || Nat.beq pc 32 || Nat.beq pc 48 || Nat.beq pc 51 || Nat.beq pc 69 || Nat.beq pc 85) 400 (show zwp 117 15 [(2, 3), (0, i)] [(2, 1), (0, i)] (zupd w 3 6 a) 238 0 K from (fun h => show zwp 117 15 [(2, 3), (0, i)] [(2, 1), (0, i)] (zupd w 3 6 a) 238 0 K from zgo_imp zT168_ok (cut := fun pc => Nat.beq pc 10 || Nat.beq pc 15 || Nat.beq pc 29 || Nat.beq pc 32 || Nat.beq pc 48 || Nat.beq pc 51 || Nat.beq pc 69 || Nat.beq pc 85) 400 (show if i < w 1 1 then (0 ≤ (w 1 1) ∧ (w 1 1) ≤ 800) ∧ (zwp 117 29 [(2, 3), (0, i)] [(0, zTy (w 2) ((w 1 1)) i)] (zupd w 3 6 a) 238 0 K) else zwp 117 69 [(2, 3), (0, i)] [] (zupd (zupd w 3 6 a) 3 3 i) 238 0 K from zmI (fun h => zmA (fun h => (fun h => show zwp 117 29 [(2, 3), (0, i)] [(0, zTy (w 2) ((w 1 1)) i)] (zupd w 3 6 a) 238 0 K from zgo_imp zT168_ok (cut := fun pc => Nat.beq pc 10 || Nat.beq pc 15 || Nat.beq pc 29 || Nat.beq pc 32 || Nat.beq pc 48 || Nat.beq pc 51 || Nat.beq pc 69 || Nat.beq pc 85) 400 (show zwp 117 32 [(2, 3), (0, i)] [(0, ((if zdg (zTy (w 2) ((w 1 1)) i) then 1 else 0) : Int))] (zupd w 3 6 a) 238 0 K from (fun h => show zwp 117 32 [(2, 3), (0, i)] [(0, ((if zdg (zTy (w 2) ((w 1 1)) i) then 1 else 0) : Int))] (zupd w 3 6 a) 238 0 K from zgo_imp zT168_ok (cut := fun pc => Nat.beq pc 10 || Nat.beq pc 15 || Nat.beq pc 29 || Nat.beq pc 32 || Nat.beq pc 48 || Nat.beq pc 51 || Nat.beq pc 69 || Nat.beq pc 85) 400 (show if ((if zdg (zTy (w 2) ((w 1 1)) i) then 1 else 0) : Int) = 0 then zwp 117 69 [(2, 3), (0, i)] [] (zupd (zupd w 3 6 a) 3 3 i) 238 0 K else zwp 117 48 [(2, 3), (0, i)] [(0, i), (2, 1), (0, z32 (10 * a)), (2, 3)] (zupd w 3 6 a) 238 0 K from zmI (fun h => (fun h => show zwp 117 69 [(2, 3), (0, i)] [] (zupd (zupd w 3 6 a) 3 3 i) 238 0 K from zgo_imp zT168_ok (cut := fun pc => Nat.beq pc 10 || Nat.beq pc 15 || Nat.beq pc 29 || Nat.beq pc 32 || Nat.beq pc 48 || Nat.beq pc 51 || Nat.beq pc 69 || Nat.beq pc 85) 400 (show if 6 < z32 (i - (w 3 2)) then zwp 117 85 [(2, 3), (0, i)] [(0, 0), (2, 3)] (zupd (zupd w 3 6 a) 3 3 i) 238 0 K else K (0, none) (zupd (zupd (zupd w 3 6 a) 3 3 i) 3 1 2) 238 from zmI (fun h => (fun h => show zwp 117 85 [(2, 3), (0, i)] [(0, 0), (2, 3)] (zupd (zupd w 3 6 a) 3 3 i) 238 0 K from zgo_imp zT168_ok (cut := fun pc => Nat.beq pc 10 || Nat.beq pc 15 || Nat.beq pc 29 || Nat.beq pc 32 || Nat.beq pc 48 || Nat.beq pc 51 || Nat.beq pc 69 || Nat.beq pc 85) 400 (show K (0, none) (zupd (zupd (zupd w 3 6 a) 3 3 i) 3 1 0) 238 from h)) h) (fun h => h) h)) h) (fun h => (fun h => show zwp 117 48 [(2, 3), (0, i)] [(0, i), (2, 1), (0, z32 (10 * a)), (2, 3)] (zupd w 3 6 a) 238 0 K from zgo_imp zT168_ok (cut := fun pc => Nat.beq pc 10 || Nat.beq pc 15 || Nat.beq pc 29 || Nat.beq pc 32 || Nat.beq pc 48 || Nat.beq pc 51 || Nat.beq pc 69 || Nat.beq pc 85) 400 (show (0 ≤ (w 1 1) ∧ (w 1 1) ≤ 800) ∧ (zwp 117 51 [(2, 3), (0, i)] [(0, zTy (w 2) ((w 1 1)) i), (0, z32 (10 * a)), (2, 3)] (zupd w 3 6 a) 238 0 K) from zmA (fun h => (fun h => show zwp 117 51 [(2, 3), (0, i)] [(0, zTy (w 2) ((w 1 1)) i), (0, z32 (10 * a)), (2, 3)] (zupd w 3 6 a) 238 0 K from zgo_imp zT168_ok (cut := fun pc => Nat.beq pc 10 || Nat.beq pc 15 || Nat.beq pc 29 || Nat.beq pc 32 || Nat.beq pc 48 || Nat.beq pc 51 || Nat.beq pc 69 || Nat.beq pc 85) 400 (show zwp 117 10 [(2, 3), (0, z32 (i + 1))] [] (zupd (zupd w 3 6 a) 3 6 (z32 ((z32 ((z32 (10 * a)) + (zTy (w 2) ((w 1 1)) i))) - 48))) 238 0 K from h)) h) h)) h) h)) h)) h) h) (fun h => (fun h => show zwp 117 69 [(2, 3), (0, i)] [] (zupd (zupd w 3 6 a) 3 3 i) 238 0 K from zgo_imp zT168_ok (cut := fun pc => Nat.beq pc 10 || Nat.beq pc 15 || Nat.beq pc 29 || Nat.beq pc 32 || Nat.beq pc 48 || Nat.beq pc 51 || Nat.beq pc 69 || Nat.beq pc 85) 400 (show if 6 < z32 (i - (w 3 2)) then zwp 117 85 [(2, 3), (0, i)] [(0, 0), (2, 3)] (zupd (zupd w 3 6 a) 3 3 i) 238 0 K else K (0, none) (zupd (zupd (zupd w 3 6 a) 3 3 i) 3 1 2) 238 from zmI (fun h => (fun h => show zwp 117 85 [(2, 3), (0, i)] [(0, 0), (2, 3)] (zupd (zupd w 3 6 a) 3 3 i) 238 0 K from zgo_imp zT168_ok (cut := fun pc => Nat.beq pc 10 || Nat.beq pc 15 || Nat.beq pc 29 || Nat.beq pc 32 || Nat.beq pc 48 || Nat.beq pc 51 || Nat.beq pc 69 || Nat.beq pc 85) 400 (show K (0, none) (zupd (zupd (zupd w 3 6 a) 3 3 i) 3 1 0) 238 from h)) h) (fun h => h) h)) h) h)) h)) ?_
    rw [z32_id (x := i + 1) ⟨by omega, by omega⟩, z32_id (x := i - w 3 2) ⟨by omega, by omega⟩]
    have e : zrn (fun j => zdg (zTy (w 2) (w 1 1) j)) (m + 1) i = if zdg (zTy (w 2) (w 1 1) i) then zrn (fun j => zdg (zTy (w 2) (w 1 1) j)) m (i + 1) else i := rfl
    have e2 : zrf (fun j => zdg (zTy (w 2) (w 1 1) j)) (fun a j => zsd a (zTy (w 2) (w 1 1) j)) (m + 1) i a = if zdg (zTy (w 2) (w 1 1) i) then zrf (fun j => zdg (zTy (w 2) (w 1 1) j)) (fun a j => zsd a (zTy (w 2) (w 1 1) j)) m (i + 1) (zsd a (zTy (w 2) (w 1 1) i)) else a := rfl
    refine ziT (by omega) ⟨hn, ?_⟩
    by_cases g : zdg (zTy (w 2) (w 1 1) i)
    · rw [e, e2, if_pos g, if_pos g] at h
      refine ziF (by rw [if_pos g]; decide) ⟨hn, ?_⟩
      rw [zupd_2]
      exact ih (i + 1) (zsd a (zTy (w 2) (w 1 1) i)) (by omega) (by omega) h
    · rw [e, e2, if_neg g, if_neg g] at h
      refine ziT (if_neg g) ?_
      have h : K (0, none) (zupd (zupd (zupd w 3 6 a) 3 3 i) 3 1 (if 6 < i - w 3 2 then 0 else 2)) 238 := h
      by_cases g6 : 6 < i - w 3 2
      · rw [if_pos g6] at h
        exact ziT g6 h
      · rw [if_neg g6] at h
        exact ziF g6 h
/-! $Tokens.takeNumber -/
set_option maxRecDepth 100000 in
theorem zk117_3 (w : zW) (K : zK) (h : ((0 ≤ w 1 1 ∧ w 1 1 ≤ 800) ∧ 0 ≤ w 3 2 ∧ w 3 2 ≤ w 1 1) ∧ (K (0, none) (zqN w (w 3 2) (zde (zTy (w 2) (w 1 1)) (w 1 1) (w 3 2)) (zNc (zTy (w 2) (w 1 1)) (w 1 1) (w 3 2) 0)) 238)) : zcall 117 [(2, 3), (9, 0)] w 238 K := by
  obtain ⟨hg, h⟩ := h
  refine (show (zwp 117 10 [(2, 3), (0, w 3 2)] [] (zupd w 3 6 0) 238 0 K) → _ from fun h => show zwp 117 0 [(2, 3), (9, 0)] [] w 238 0 K from zgo_imp zT168_ok (cut := fun pc => Nat.beq pc 10 || Nat.beq pc 15 || Nat.beq pc 29 || Nat.beq pc 32 || Nat.beq pc 48 || Nat.beq pc 51 || Nat.beq pc 69 || Nat.beq pc 85) 400 (show zwp 117 10 [(2, 3), (0, w 3 2)] [] (zupd w 3 6 0) 238 0 K from h)) ?_
  exact zk117_L10 hg.1 hg.2 (w 1 1 - w 3 2).toNat (w 3 2) 0 (by omega) (by omega) h
noncomputable def zb117 (l0 : List zV) (w : zW) (K : zK) : Prop := cond (zpe (zar l0 0) 3) (((0 ≤ w 1 1 ∧ w 1 1 ≤ 800) ∧ 0 ≤ w 3 2 ∧ w 3 2 ≤ w 1 1) ∧ (K (0, none) (zqN w (w 3 2) (zde (zTy (w 2) (w 1 1)) (w 1 1) (w 3 2)) (zNc (zTy (w 2) (w 1 1)) (w 1 1) (w 3 2) 0)) 238)) (False)
noncomputable def zT169 : zSum := zsm1 117 [2, 9] zb117 zT168
theorem zT169_ok : zSok zT169 := zsm1_ok zT168_ok fun l0 w K h => by
  unfold zb117 at h
  cases q0 : zpe (zar l0 0) 3 with
  | true =>
    rw [q0, cond_true] at h
    have e : zar l0 0 = 3 := zpe_e q0
    show zcall 117 [(2, zar l0 0), (9, 0)] w 238 K
    rw [e]
    exact zk117_3  w K h
  | false =>
  rw [q0, cond_false] at h
  exact h.elim
/-! $Tokens.advance -/
set_option maxRecDepth 100000 in
theorem zk109_3 (w : zW) (K : zK) (h : ((0 ≤ w 1 1 ∧ w 1 1 ≤ 800) ∧ 0 ≤ w 3 3 ∧ w 3 3 ≤ w 1 1) ∧ (K (0, none) (zad w) 238)) : zcall 109 [(2, 3), (9, 0)] w 238 K := by
  obtain ⟨hg, h⟩ := h
  refine (show (((0 ≤ w 1 1 ∧ w 1 1 ≤ 800) ∧ 0 ≤ (w 3 3) ∧ (w 3 3) ≤ w 1 1) ∧ ((0 ≤ (w 1 1) ∧ (w 1 1) ≤ 800) ∧ (if zTy (w 2) ((w 1 1)) (zst (zTy (w 2) (w 1 1)) (w 1 1) (w 3 3)) = (-1) then K (0, none) (zupd (zupd (zupd (zupd w 3 2 (zst (zTy (w 2) (w 1 1)) (w 1 1) (w 3 3))) 3 3 (z32 ((zst (zTy (w 2) (w 1 1)) (w 1 1) (w 3 3)) + 1))) 3 4 1000) 3 1 (-1)) 238 else if ((if zlt (zTy (w 2) ((w 1 1)) (zst (zTy (w 2) (w 1 1)) (w 1 1) (w 3 3))) then 1 else 0) : Int) = 0 then if ((if zdg (zTy (w 2) ((w 1 1)) (zst (zTy (w 2) (w 1 1)) (w 1 1) (w 3 3))) then 1 else 0) : Int) = 0 then if zTy (w 2) ((w 1 1)) (zst (zTy (w 2) (w 1 1)) (w 1 1) (w 3 3)) = 59 then K (0, none) (zupd (zupd (zupd (zupd w 3 2 (zst (zTy (w 2) (w 1 1)) (w 1 1) (w 3 3))) 3 3 (z32 ((zst (zTy (w 2) (w 1 1)) (w 1 1) (w 3 3)) + 1))) 3 4 1000) 3 1 (zTy (w 2) ((w 1 1)) (zst (zTy (w 2) (w 1 1)) (w 1 1) (w 3 3)))) 238 else if zTy (w 2) ((w 1 1)) (zst (zTy (w 2) (w 1 1)) (w 1 1) (w 3 3)) = 40 then K (0, none) (zupd (zupd (zupd (zupd w 3 2 (zst (zTy (w 2) (w 1 1)) (w 1 1) (w 3 3))) 3 3 (z32 ((zst (zTy (w 2) (w 1 1)) (w 1 1) (w 3 3)) + 1))) 3 4 1000) 3 1 (zTy (w 2) ((w 1 1)) (zst (zTy (w 2) (w 1 1)) (w 1 1) (w 3 3)))) 238 else if zTy (w 2) ((w 1 1)) (zst (zTy (w 2) (w 1 1)) (w 1 1) (w 3 3)) = 41 then K (0, none) (zupd (zupd (zupd (zupd w 3 2 (zst (zTy (w 2) (w 1 1)) (w 1 1) (w 3 3))) 3 3 (z32 ((zst (zTy (w 2) (w 1 1)) (w 1 1) (w 3 3)) + 1))) 3 4 1000) 3 1 (zTy (w 2) ((w 1 1)) (zst (zTy (w 2) (w 1 1)) (w 1 1) (w 3 3)))) 238 else K (0, none) (zupd (zupd (zupd (zupd w 3 2 (zst (zTy (w 2) (w 1 1)) (w 1 1) (w 3 3))) 3 3 (z32 ((zst (zTy (w 2) (w 1 1)) (w 1 1) (w 3 3)) + 1))) 3 4 1000) 3 1 0) 238 else ((0 ≤ (w 1 1) ∧ (w 1 1) ≤ 800) ∧ 0 ≤ (zst (zTy (w 2) (w 1 1)) (w 1 1) (w 3 3)) ∧ (zst (zTy (w 2) (w 1 1)) (w 1 1) (w 3 3)) ≤ (w 1 1)) ∧ (K (0, none) (zqN (zupd (zupd (zupd w 3 2 (zst (zTy (w 2) (w 1 1)) (w 1 1) (w 3 3))) 3 3 (z32 ((zst (zTy (w 2) (w 1 1)) (w 1 1) (w 3 3)) + 1))) 3 4 1000) ((zst (zTy (w 2) (w 1 1)) (w 1 1) (w 3 3))) (zde (zTy (w 2) ((w 1 1))) ((w 1 1)) ((zst (zTy (w 2) (w 1 1)) (w 1 1) (w 3 3)))) (zNc (zTy (w 2) ((w 1 1))) ((w 1 1)) ((zst (zTy (w 2) (w 1 1)) (w 1 1) (w 3 3))) 0)) 238) else ((0 ≤ (w 1 1) ∧ (w 1 1) ≤ 800) ∧ 0 ≤ (zst (zTy (w 2) (w 1 1)) (w 1 1) (w 3 3)) ∧ (zst (zTy (w 2) (w 1 1)) (w 1 1) (w 3 3)) ≤ (w 1 1)) ∧ (K (0, none) (zqW (zupd (zupd (zupd w 3 2 (zst (zTy (w 2) (w 1 1)) (w 1 1) (w 3 3))) 3 3 (z32 ((zst (zTy (w 2) (w 1 1)) (w 1 1) (w 3 3)) + 1))) 3 4 1000) ((zst (zTy (w 2) (w 1 1)) (w 1 1) (w 3 3))) (zle (zTy (w 2) ((w 1 1))) ((w 1 1)) ((zst (zTy (w 2) (w 1 1)) (w 1 1) (w 3 3)))) (zLc (zTy (w 2) ((w 1 1))) ((w 1 1)) ((zst (zTy (w 2) (w 1 1)) (w 1 1) (w 3 3))))) 238)))) → _ from fun h => show zwp 109 0 [(2, 3), (9, 0)] [] w 238 0 K from zgo_imp zT169_ok (cut := fun pc => Nat.beq pc 9 || Nat.beq pc 26 || Nat.beq pc 40 || Nat.beq pc 55 || Nat.beq pc 58 || Nat.beq pc 65 || Nat.beq pc 72 || Nat.beq pc 79 || Nat.beq pc 96) 400 (show ((0 ≤ w 1 1 ∧ w 1 1 ≤ 800) ∧ 0 ≤ (w 3 3) ∧ (w 3 3) ≤ w 1 1) ∧ (zwp 109 9 [(2, 3), (9, 0)] [(0, zst (zTy (w 2) (w 1 1)) (w 1 1) (w 3 3)), (2, 3)] w 238 0 K) from zmA (fun h => (fun h => show zwp 109 9 [(2, 3), (9, 0)] [(0, zst (zTy (w 2) (w 1 1)) (w 1 1) (w 3 3)), (2, 3)] w 238 0 K from zgo_imp zT169_ok (cut := fun pc => Nat.beq pc 9 || Nat.beq pc 26 || Nat.beq pc 40 || Nat.beq pc 55 || Nat.beq pc 58 || Nat.beq pc 65 || Nat.beq pc 72 || Nat.beq pc 79 || Nat.beq pc 96) 400 (show zwp 109 26 [(2, 3), (9, 0)] [(2, 1000), (2, 3)] (zupd (zupd w 3 2 (zst (zTy (w 2) (w 1 1)) (w 1 1) (w 3 3))) 3 3 (z32 ((zst (zTy (w 2) (w 1 1)) (w 1 1) (w 3 3)) + 1))) 238 0 K from (fun h => show zwp 109 26 [(2, 3), (9, 0)] [(2, 1000), (2, 3)] (zupd (zupd w 3 2 (zst (zTy (w 2) (w 1 1)) (w 1 1) (w 3 3))) 3 3 (z32 ((zst (zTy (w 2) (w 1 1)) (w 1 1) (w 3 3)) + 1))) 238 0 K from zgo_imp zT169_ok (cut := fun pc => Nat.beq pc 9 || Nat.beq pc 26 || Nat.beq pc 40 || Nat.beq pc 55 || Nat.beq pc 58 || Nat.beq pc 65 || Nat.beq pc 72 || Nat.beq pc 79 || Nat.beq pc 96) 400 (show (0 ≤ (w 1 1) ∧ (w 1 1) ≤ 800) ∧ (zwp 109 40 [(2, 3), (9, 0)] [(0, zTy (w 2) ((w 1 1)) (zst (zTy (w 2) (w 1 1)) (w 1 1) (w 3 3)))] (zupd (zupd (zupd w 3 2 (zst (zTy (w 2) (w 1 1)) (w 1 1) (w 3 3))) 3 3 (z32 ((zst (zTy (w 2) (w 1 1)) (w 1 1) (w 3 3)) + 1))) 3 4 1000) 238 0 K) from zmA (fun h => (fun h => show zwp 109 40 [(2, 3), (9, 0)] [(0, zTy (w 2) ((w 1 1)) (zst (zTy (w 2) (w 1 1)) (w 1 1) (w 3 3)))] (zupd (zupd (zupd w 3 2 (zst (zTy (w 2) (w 1 1)) (w 1 1) (w 3 3))) 3 3 (z32 ((zst (zTy (w 2) (w 1 1)) (w 1 1) (w 3 3)) + 1))) 3 4 1000) 238 0 K from zgo_imp zT169_ok (cut := fun pc => Nat.beq pc 9 || Nat.beq pc 26 || Nat.beq pc 40 || Nat.beq pc 55 || Nat.beq pc 58 || Nat.beq pc 65 || Nat.beq pc 72 || Nat.beq pc 79 || Nat.beq pc 96) 400 (show if zTy (w 2) ((w 1 1)) (zst (zTy (w 2) (w 1 1)) (w 1 1) (w 3 3)) = (-1) then K (0, none) (zupd (zupd (zupd (zupd w 3 2 (zst (zTy (w 2) (w 1 1)) (w 1 1) (w 3 3))) 3 3 (z32 ((zst (zTy (w 2) (w 1 1)) (w 1 1) (w 3 3)) + 1))) 3 4 1000) 3 1 (-1)) 238 else zwp 109 55 [(2, 3), (0, zTy (w 2) ((w 1 1)) (zst (zTy (w 2) (w 1 1)) (w 1 1) (w 3 3)))] [(0, zTy (w 2) ((w 1 1)) (zst (zTy (w 2) (w 1 1)) (w 1 1) (w 3 3)))] (zupd (zupd (zupd w 3 2 (zst (zTy (w 2) (w 1 1)) (w 1 1) (w 3 3))) 3 3 (z32 ((zst (zTy (w 2) (w 1 1)) (w 1 1) (w 3 3)) + 1))) 3 4 1000) 238 0 K from zmI (fun h => h) (fun h => (fun h => show zwp 109 55 [(2, 3), (0, zTy (w 2) ((w 1 1)) (zst (zTy (w 2) (w 1 1)) (w 1 1) (w 3 3)))] [(0, zTy (w 2) ((w 1 1)) (zst (zTy (w 2) (w 1 1)) (w 1 1) (w 3 3)))] (zupd (zupd (zupd w 3 2 (zst (zTy (w 2) (w 1 1)) (w 1 1) (w 3 3))) 3 3 (z32 ((zst (zTy (w 2) (w 1 1)) (w 1 1) (w 3 3)) + 1))) 3 4 1000) 238 0 K from zgo_imp zT169_ok (cut := fun pc => Nat.beq pc 9 || Nat.beq pc 26 || Nat.beq pc 40 || Nat.beq pc 55 || Nat.beq pc 58 || Nat.beq pc 65 || Nat.beq pc 72 || Nat.beq pc 79 || Nat.beq pc 96) 400 (show zwp 109 58 [(2, 3), (0, zTy (w 2) ((w 1 1)) (zst (zTy (w 2) (w 1 1)) (w 1 1) (w 3 3)))] [(0, ((if zlt (zTy (w 2) ((w 1 1)) (zst (zTy (w 2) (w 1 1)) (w 1 1) (w 3 3))) then 1 else 0) : Int))] (zupd (zupd (zupd w 3 2 (zst (zTy (w 2) (w 1 1)) (w 1 1) (w 3 3))) 3 3 (z32 ((zst (zTy (w 2) (w 1 1)) (w 1 1) (w 3 3)) + 1))) 3 4 1000) 238 0 K from (fun h => show zwp 109 58 [(2, 3), (0, zTy (w 2) ((w 1 1)) (zst (zTy (w 2) (w 1 1)) (w 1 1) (w 3 3)))] [(0, ((if zlt (zTy (w 2) ((w 1 1)) (zst (zTy (w 2) (w 1 1)) (w 1 1) (w 3 3))) then 1 else 0) : Int))] (zupd (zupd (zupd w 3 2 (zst (zTy (w 2) (w 1 1)) (w 1 1) (w 3 3))) 3 3 (z32 ((zst (zTy (w 2) (w 1 1)) (w 1 1) (w 3 3)) + 1))) 3 4 1000) 238 0 K from zgo_imp zT169_ok (cut := fun pc => Nat.beq pc 9 || Nat.beq pc 26 || Nat.beq pc 40 || Nat.beq pc 55 || Nat.beq pc 58 || Nat.beq pc 65 || Nat.beq pc 72 || Nat.beq pc 79 || Nat.beq pc 96) 400 (show if ((if zlt (zTy (w 2) ((w 1 1)) (zst (zTy (w 2) (w 1 1)) (w 1 1) (w 3 3))) then 1 else 0) : Int) = 0 then zwp 109 72 [(2, 3), (0, zTy (w 2) ((w 1 1)) (zst (zTy (w 2) (w 1 1)) (w 1 1) (w 3 3)))] [(0, ((if zdg (zTy (w 2) ((w 1 1)) (zst (zTy (w 2) (w 1 1)) (w 1 1) (w 3 3))) then 1 else 0) : Int))] (zupd (zupd (zupd w 3 2 (zst (zTy (w 2) (w 1 1)) (w 1 1) (w 3 3))) 3 3 (z32 ((zst (zTy (w 2) (w 1 1)) (w 1 1) (w 3 3)) + 1))) 3 4 1000) 238 0 K else ((0 ≤ (w 1 1) ∧ (w 1 1) ≤ 800) ∧ 0 ≤ (zst (zTy (w 2) (w 1 1)) (w 1 1) (w 3 3)) ∧ (zst (zTy (w 2) (w 1 1)) (w 1 1) (w 3 3)) ≤ (w 1 1)) ∧ (zwp 109 65 [(2, 3), (0, zTy (w 2) ((w 1 1)) (zst (zTy (w 2) (w 1 1)) (w 1 1) (w 3 3)))] [] (zqW (zupd (zupd (zupd w 3 2 (zst (zTy (w 2) (w 1 1)) (w 1 1) (w 3 3))) 3 3 (z32 ((zst (zTy (w 2) (w 1 1)) (w 1 1) (w 3 3)) + 1))) 3 4 1000) ((zst (zTy (w 2) (w 1 1)) (w 1 1) (w 3 3))) (zle (zTy (w 2) ((w 1 1))) ((w 1 1)) ((zst (zTy (w 2) (w 1 1)) (w 1 1) (w 3 3)))) (zLc (zTy (w 2) ((w 1 1))) ((w 1 1)) ((zst (zTy (w 2) (w 1 1)) (w 1 1) (w 3 3))))) 238 0 K) from zmI (fun h => (fun h => show zwp 109 72 [(2, 3), (0, zTy (w 2) ((w 1 1)) (zst (zTy (w 2) (w 1 1)) (w 1 1) (w 3 3)))] [(0, ((if zdg (zTy (w 2) ((w 1 1)) (zst (zTy (w 2) (w 1 1)) (w 1 1) (w 3 3))) then 1 else 0) : Int))] (zupd (zupd (zupd w 3 2 (zst (zTy (w 2) (w 1 1)) (w 1 1) (w 3 3))) 3 3 (z32 ((zst (zTy (w 2) (w 1 1)) (w 1 1) (w 3 3)) + 1))) 3 4 1000) 238 0 K from zgo_imp zT169_ok (cut := fun pc => Nat.beq pc 9 || Nat.beq pc 26 || Nat.beq pc 40 || Nat.beq pc 55 || Nat.beq pc 58 || Nat.beq pc 65 || Nat.beq pc 72 || Nat.beq pc 79 || Nat.beq pc 96) 400 (show if ((if zdg (zTy (w 2) ((w 1 1)) (zst (zTy (w 2) (w 1 1)) (w 1 1) (w 3 3))) then 1 else 0) : Int) = 0 then if zTy (w 2) ((w 1 1)) (zst (zTy (w 2) (w 1 1)) (w 1 1) (w 3 3)) = 59 then K (0, none) (zupd (zupd (zupd (zupd w 3 2 (zst (zTy (w 2) (w 1 1)) (w 1 1) (w 3 3))) 3 3 (z32 ((zst (zTy (w 2) (w 1 1)) (w 1 1) (w 3 3)) + 1))) 3 4 1000) 3 1 (zTy (w 2) ((w 1 1)) (zst (zTy (w 2) (w 1 1)) (w 1 1) (w 3 3)))) 238 else if zTy (w 2) ((w 1 1)) (zst (zTy (w 2) (w 1 1)) (w 1 1) (w 3 3)) = 40 then K (0, none) (zupd (zupd (zupd (zupd w 3 2 (zst (zTy (w 2) (w 1 1)) (w 1 1) (w 3 3))) 3 3 (z32 ((zst (zTy (w 2) (w 1 1)) (w 1 1) (w 3 3)) + 1))) 3 4 1000) 3 1 (zTy (w 2) ((w 1 1)) (zst (zTy (w 2) (w 1 1)) (w 1 1) (w 3 3)))) 238 else zwp 109 96 [(2, 3), (0, zTy (w 2) ((w 1 1)) (zst (zTy (w 2) (w 1 1)) (w 1 1) (w 3 3)))] [(0, zTy (w 2) ((w 1 1)) (zst (zTy (w 2) (w 1 1)) (w 1 1) (w 3 3))), (2, 3)] (zupd (zupd (zupd w 3 2 (zst (zTy (w 2) (w 1 1)) (w 1 1) (w 3 3))) 3 3 (z32 ((zst (zTy (w 2) (w 1 1)) (w 1 1) (w 3 3)) + 1))) 3 4 1000) 238 0 K else ((0 ≤ (w 1 1) ∧ (w 1 1) ≤ 800) ∧ 0 ≤ (zst (zTy (w 2) (w 1 1)) (w 1 1) (w 3 3)) ∧ (zst (zTy (w 2) (w 1 1)) (w 1 1) (w 3 3)) ≤ (w 1 1)) ∧ (zwp 109 79 [(2, 3), (0, zTy (w 2) ((w 1 1)) (zst (zTy (w 2) (w 1 1)) (w 1 1) (w 3 3)))] [] (zqN (zupd (zupd (zupd w 3 2 (zst (zTy (w 2) (w 1 1)) (w 1 1) (w 3 3))) 3 3 (z32 ((zst (zTy (w 2) (w 1 1)) (w 1 1) (w 3 3)) + 1))) 3 4 1000) ((zst (zTy (w 2) (w 1 1)) (w 1 1) (w 3 3))) (zde (zTy (w 2) ((w 1 1))) ((w 1 1)) ((zst (zTy (w 2) (w 1 1)) (w 1 1) (w 3 3)))) (zNc (zTy (w 2) ((w 1 1))) ((w 1 1)) ((zst (zTy (w 2) (w 1 1)) (w 1 1) (w 3 3))) 0)) 238 0 K) from zmI (fun h => zmI (fun h => h) (fun h => zmI (fun h => h) (fun h => (fun h => show zwp 109 96 [(2, 3), (0, zTy (w 2) ((w 1 1)) (zst (zTy (w 2) (w 1 1)) (w 1 1) (w 3 3)))] [(0, zTy (w 2) ((w 1 1)) (zst (zTy (w 2) (w 1 1)) (w 1 1) (w 3 3))), (2, 3)] (zupd (zupd (zupd w 3 2 (zst (zTy (w 2) (w 1 1)) (w 1 1) (w 3 3))) 3 3 (z32 ((zst (zTy (w 2) (w 1 1)) (w 1 1) (w 3 3)) + 1))) 3 4 1000) 238 0 K from zgo_imp zT169_ok (cut := fun pc => Nat.beq pc 9 || Nat.beq pc 26 || Nat.beq pc 40 || Nat.beq pc 55 || Nat.beq pc 58 || Nat.beq pc 65 || Nat.beq pc 72 || Nat.beq pc 79 || Nat.beq pc 96) 400 (show if zTy (w 2) ((w 1 1)) (zst (zTy (w 2) (w 1 1)) (w 1 1) (w 3 3)) = 41 then K (0, none) (zupd (zupd (zupd (zupd w 3 2 (zst (zTy (w 2) (w 1 1)) (w 1 1) (w 3 3))) 3 3 (z32 ((zst (zTy (w 2) (w 1 1)) (w 1 1) (w 3 3)) + 1))) 3 4 1000) 3 1 (zTy (w 2) ((w 1 1)) (zst (zTy (w 2) (w 1 1)) (w 1 1) (w 3 3)))) 238 else K (0, none) (zupd (zupd (zupd (zupd w 3 2 (zst (zTy (w 2) (w 1 1)) (w 1 1) (w 3 3))) 3 3 (z32 ((zst (zTy (w 2) (w 1 1)) (w 1 1) (w 3 3)) + 1))) 3 4 1000) 3 1 0) 238 from h)) h) h) h) (fun h => zmA (fun h => (fun h => show zwp 109 79 [(2, 3), (0, zTy (w 2) ((w 1 1)) (zst (zTy (w 2) (w 1 1)) (w 1 1) (w 3 3)))] [] (zqN (zupd (zupd (zupd w 3 2 (zst (zTy (w 2) (w 1 1)) (w 1 1) (w 3 3))) 3 3 (z32 ((zst (zTy (w 2) (w 1 1)) (w 1 1) (w 3 3)) + 1))) 3 4 1000) ((zst (zTy (w 2) (w 1 1)) (w 1 1) (w 3 3))) (zde (zTy (w 2) ((w 1 1))) ((w 1 1)) ((zst (zTy (w 2) (w 1 1)) (w 1 1) (w 3 3)))) (zNc (zTy (w 2) ((w 1 1))) ((w 1 1)) ((zst (zTy (w 2) (w 1 1)) (w 1 1) (w 3 3))) 0)) 238 0 K from zgo_imp zT169_ok (cut := fun pc => Nat.beq pc 9 || Nat.beq pc 26 || Nat.beq pc 40 || Nat.beq pc 55 || Nat.beq pc 58 || Nat.beq pc 65 || Nat.beq pc 72 || Nat.beq pc 79 || Nat.beq pc 96) 400 (show K (0, none) (zqN (zupd (zupd (zupd w 3 2 (zst (zTy (w 2) (w 1 1)) (w 1 1) (w 3 3))) 3 3 (z32 ((zst (zTy (w 2) (w 1 1)) (w 1 1) (w 3 3)) + 1))) 3 4 1000) ((zst (zTy (w 2) (w 1 1)) (w 1 1) (w 3 3))) (zde (zTy (w 2) ((w 1 1))) ((w 1 1)) ((zst (zTy (w 2) (w 1 1)) (w 1 1) (w 3 3)))) (zNc (zTy (w 2) ((w 1 1))) ((w 1 1)) ((zst (zTy (w 2) (w 1 1)) (w 1 1) (w 3 3))) 0)) 238 from h)) h) h) h)) h) (fun h => zmA (fun h => (fun h => show zwp 109 65 [(2, 3), (0, zTy (w 2) ((w 1 1)) (zst (zTy (w 2) (w 1 1)) (w 1 1) (w 3 3)))] [] (zqW (zupd (zupd (zupd w 3 2 (zst (zTy (w 2) (w 1 1)) (w 1 1) (w 3 3))) 3 3 (z32 ((zst (zTy (w 2) (w 1 1)) (w 1 1) (w 3 3)) + 1))) 3 4 1000) ((zst (zTy (w 2) (w 1 1)) (w 1 1) (w 3 3))) (zle (zTy (w 2) ((w 1 1))) ((w 1 1)) ((zst (zTy (w 2) (w 1 1)) (w 1 1) (w 3 3)))) (zLc (zTy (w 2) ((w 1 1))) ((w 1 1)) ((zst (zTy (w 2) (w 1 1)) (w 1 1) (w 3 3))))) 238 0 K from zgo_imp zT169_ok (cut := fun pc => Nat.beq pc 9 || Nat.beq pc 26 || Nat.beq pc 40 || Nat.beq pc 55 || Nat.beq pc 58 || Nat.beq pc 65 || Nat.beq pc 72 || Nat.beq pc 79 || Nat.beq pc 96) 400 (show K (0, none) (zqW (zupd (zupd (zupd w 3 2 (zst (zTy (w 2) (w 1 1)) (w 1 1) (w 3 3))) 3 3 (z32 ((zst (zTy (w 2) (w 1 1)) (w 1 1) (w 3 3)) + 1))) 3 4 1000) ((zst (zTy (w 2) (w 1 1)) (w 1 1) (w 3 3))) (zle (zTy (w 2) ((w 1 1))) ((w 1 1)) ((zst (zTy (w 2) (w 1 1)) (w 1 1) (w 3 3)))) (zLc (zTy (w 2) ((w 1 1))) ((w 1 1)) ((zst (zTy (w 2) (w 1 1)) (w 1 1) (w 3 3))))) 238 from h)) h) h) h)) h)) h) h)) h) h)) h)) h) h)) ?_
  have ss := zst_rg (zTy (w 2) (w 1 1)) (p := w 3 3) (n := w 1 1) (by omega)
  refine ⟨hg, hg.1, ?_⟩
  unfold zad zadt at h
  rw [← zadf_e] at h
  generalize zst (zTy (w 2) (w 1 1)) (w 1 1) (w 3 3) = s at h ss ⊢
  rw [z32_id (x := s + 1) ⟨by omega, by omega⟩]
  generalize zTy (w 2) (w 1 1) s = c at h ⊢
  by_cases q1 : c = -1
  · rw [show zad1 w s c = _ from if_pos q1] at h
    exact ziT q1 h
  · refine ziF q1 ?_
    by_cases q2 : zlt c
    · rw [show zad1 w s c = _ from (if_neg q1).trans (if_pos q2)] at h
      exact ziF (by rw [if_pos q2]; decide) ⟨⟨hg.1, by omega, by omega⟩, h⟩
    · refine ziT (if_neg q2) ?_
      by_cases q3 : zdg c
      · rw [show zad1 w s c = _ from (if_neg q1).trans ((if_neg q2).trans (if_pos q3))] at h
        exact ziF (by rw [if_pos q3]; decide) ⟨⟨hg.1, by omega, by omega⟩, h⟩
      · refine ziT (if_neg q3) ?_
        rw [show zad1 w s c = _ from (if_neg q1).trans ((if_neg q2).trans (if_neg q3))] at h
        by_cases g1 : c = 59
        · rw [if_pos (Or.inl g1)] at h; exact ziT g1 h
        · refine ziF g1 ?_
          by_cases g2 : c = 40
          · rw [if_pos (Or.inr (Or.inl g2))] at h; exact ziT g2 h
          · refine ziF g2 ?_
            by_cases g3 : c = 41
            · rw [if_pos (Or.inr (Or.inr g3))] at h; exact ziT g3 h
            · rw [if_neg (by omega)] at h; exact ziF g3 h
noncomputable def zb109 (l0 : List zV) (w : zW) (K : zK) : Prop := cond (zpe (zar l0 0) 3) (((0 ≤ w 1 1 ∧ w 1 1 ≤ 800) ∧ 0 ≤ w 3 3 ∧ w 3 3 ≤ w 1 1) ∧ (K (0, none) (zad w) 238)) (False)
noncomputable def zT170 : zSum := zsm1 109 [2, 9] zb109 zT169
theorem zT170_ok : zSok zT170 := zsm1_ok zT169_ok fun l0 w K h => by
  unfold zb109 at h
  cases q0 : zpe (zar l0 0) 3 with
  | true =>
    rw [q0, cond_true] at h
    have e : zar l0 0 = 3 := zpe_e q0
    show zcall 109 [(2, zar l0 0), (9, 0)] w 238 K
    rw [e]
    exact zk109_3  w K h
  | false =>
  rw [q0, cond_false] at h
  exact h.elim
