/-! ===== texts: feed, truncate, bytes (written by wip/whole/gen_c.py) ===== -/
set_option maxRecDepth 100000 in
theorem zk105_L3 {K : zK} (x : Int)  : ∀ (m : Nat) (s : Int) (w : zW), (s + 8 = 8 * m) → (m ≤ 4) → (0 ≤ w 1 1 ∧ w 1 1 + m ≤ 800) → (K (0, none) (zapn x m w) 238) → zwp 105 3 [(2, 1), (0, x), (0, s)] [] w 238 0 K := by
  
  intro m
  induction m with
  | zero =>
    intro s w  h1 h2 h3 h
    refine (show (if s < 0 then K (0, none) w 238 else if w 1 1 < 0 then zwp 105 3 [(2, 1), (0, x), (0, z32 (s + (-8)))] [] w 238 0 K else if w 1 1 < 800 then zif False (0 ≤ w 1 1 ∧ w 1 1 < 800) (zwp 105 3 [(2, 1), (0, x), (0, z32 (s + (-8)))] [] (zupd (zupd w 2 (w 1 1).toNat (z8 (z8 ((Int32.ofInt x >>> (Int32.ofInt s &&& 31)).toInt)))) 1 1 (z32 ((w 1 1) + 1))) 238 0 K) else zwp 105 3 [(2, 1), (0, x), (0, z32 (s + (-8)))] [] w 238 0 K) → _ from fun h => show zwp 105 3 [(2, 1), (0, x), (0, s)] [] w 238 0 K from zgo_imp zT157_ok (cut := fun pc => Nat.beq pc 3 || Nat.beq pc 18 || Nat.beq pc 35 || Nat.beq pc 46) 400 (show if s < 0 then K (0, none) w 238 else if w 1 1 < 0 then zwp 105 3 [(2, 1), (0, x), (0, z32 (s + (-8)))] [] w 238 0 K else zwp 105 18 [(2, 1), (0, x), (0, s)] [(0, w 1 1)] w 238 0 K from zmI (fun h => h) (fun h => zmI (fun h => h) (fun h => (fun h => show zwp 105 18 [(2, 1), (0, x), (0, s)] [(0, w 1 1)] w 238 0 K from zgo_imp zT157_ok (cut := fun pc => Nat.beq pc 3 || Nat.beq pc 18 || Nat.beq pc 35 || Nat.beq pc 46) 400 (show if w 1 1 < 800 then zwp 105 35 [(2, 1), (0, x), (0, s)] [(0, x), (0, w 1 1), (2, 2)] w 238 0 K else zwp 105 3 [(2, 1), (0, x), (0, z32 (s + (-8)))] [] w 238 0 K from zmI (fun h => (fun h => show zwp 105 35 [(2, 1), (0, x), (0, s)] [(0, x), (0, w 1 1), (2, 2)] w 238 0 K from zgo_imp zT157_ok (cut := fun pc => Nat.beq pc 3 || Nat.beq pc 18 || Nat.beq pc 35 || Nat.beq pc 46) 400 (show zif False (0 ≤ w 1 1 ∧ w 1 1 < 800) (zwp 105 46 [(2, 1), (0, x), (0, s)] [(0, z32 ((w 1 1) + 1)), (2, 1)] (zupd w 2 (w 1 1).toNat (z8 (z8 ((Int32.ofInt x >>> (Int32.ofInt s &&& 31)).toInt)))) 238 0 K) from zmZ (fun h => (fun h => show zwp 105 46 [(2, 1), (0, x), (0, s)] [(0, z32 ((w 1 1) + 1)), (2, 1)] (zupd w 2 (w 1 1).toNat (z8 (z8 ((Int32.ofInt x >>> (Int32.ofInt s &&& 31)).toInt)))) 238 0 K from zgo_imp zT157_ok (cut := fun pc => Nat.beq pc 3 || Nat.beq pc 18 || Nat.beq pc 35 || Nat.beq pc 46) 400 (show zwp 105 3 [(2, 1), (0, x), (0, z32 (s + (-8)))] [] (zupd (zupd w 2 (w 1 1).toNat (z8 (z8 ((Int32.ofInt x >>> (Int32.ofInt s &&& 31)).toInt)))) 1 1 (z32 ((w 1 1) + 1))) 238 0 K from h)) h) h)) h) (fun h => h) h)) h) h) h)) ?_
    exact ziT (by omega) h
  | succ m ih =>
    intro s w  h1 h2 h3 h
    refine (show (if s < 0 then K (0, none) w 238 else if w 1 1 < 0 then zwp 105 3 [(2, 1), (0, x), (0, z32 (s + (-8)))] [] w 238 0 K else if w 1 1 < 800 then zif False (0 ≤ w 1 1 ∧ w 1 1 < 800) (zwp 105 3 [(2, 1), (0, x), (0, z32 (s + (-8)))] [] (zupd (zupd w 2 (w 1 1).toNat (z8 (z8 ((Int32.ofInt x >>> (Int32.ofInt s &&& 31)).toInt)))) 1 1 (z32 ((w 1 1) + 1))) 238 0 K) else zwp 105 3 [(2, 1), (0, x), (0, z32 (s + (-8)))] [] w 238 0 K) → _ from fun h => show zwp 105 3 [(2, 1), (0, x), (0, s)] [] w 238 0 K from zgo_imp zT157_ok (cut := fun pc => Nat.beq pc 3 || Nat.beq pc 18 || Nat.beq pc 35 || Nat.beq pc 46) 400 (show if s < 0 then K (0, none) w 238 else if w 1 1 < 0 then zwp 105 3 [(2, 1), (0, x), (0, z32 (s + (-8)))] [] w 238 0 K else zwp 105 18 [(2, 1), (0, x), (0, s)] [(0, w 1 1)] w 238 0 K from zmI (fun h => h) (fun h => zmI (fun h => h) (fun h => (fun h => show zwp 105 18 [(2, 1), (0, x), (0, s)] [(0, w 1 1)] w 238 0 K from zgo_imp zT157_ok (cut := fun pc => Nat.beq pc 3 || Nat.beq pc 18 || Nat.beq pc 35 || Nat.beq pc 46) 400 (show if w 1 1 < 800 then zwp 105 35 [(2, 1), (0, x), (0, s)] [(0, x), (0, w 1 1), (2, 2)] w 238 0 K else zwp 105 3 [(2, 1), (0, x), (0, z32 (s + (-8)))] [] w 238 0 K from zmI (fun h => (fun h => show zwp 105 35 [(2, 1), (0, x), (0, s)] [(0, x), (0, w 1 1), (2, 2)] w 238 0 K from zgo_imp zT157_ok (cut := fun pc => Nat.beq pc 3 || Nat.beq pc 18 || Nat.beq pc 35 || Nat.beq pc 46) 400 (show zif False (0 ≤ w 1 1 ∧ w 1 1 < 800) (zwp 105 46 [(2, 1), (0, x), (0, s)] [(0, z32 ((w 1 1) + 1)), (2, 1)] (zupd w 2 (w 1 1).toNat (z8 (z8 ((Int32.ofInt x >>> (Int32.ofInt s &&& 31)).toInt)))) 238 0 K) from zmZ (fun h => (fun h => show zwp 105 46 [(2, 1), (0, x), (0, s)] [(0, z32 ((w 1 1) + 1)), (2, 1)] (zupd w 2 (w 1 1).toNat (z8 (z8 ((Int32.ofInt x >>> (Int32.ofInt s &&& 31)).toInt)))) 238 0 K from zgo_imp zT157_ok (cut := fun pc => Nat.beq pc 3 || Nat.beq pc 18 || Nat.beq pc 35 || Nat.beq pc 46) 400 (show zwp 105 3 [(2, 1), (0, x), (0, z32 (s + (-8)))] [] (zupd (zupd w 2 (w 1 1).toNat (z8 (z8 ((Int32.ofInt x >>> (Int32.ofInt s &&& 31)).toInt)))) 1 1 (z32 ((w 1 1) + 1))) 238 0 K from h)) h) h)) h) (fun h => h) h)) h) h) h)) ?_
    have es : s = 8 * m := by omega
    have h : K (0, none) (zapn x m (zap1 w (zbc x s))) 238 := by rw [es]; exact h
    rw [z32_id (x := s + -8) ⟨by omega, by omega⟩, z32_id (x := w 1 1 + 1) ⟨by omega, by omega⟩]
    refine ziF (by omega) (ziF (by omega) (ziT (by omega) (zifI (by omega) ?_)))
    exact ih (s + -8) (zap1 w (zbc x s)) (by omega) (by omega) (by show 0 ≤ w 1 1 + 1 ∧ w 1 1 + 1 + m ≤ 800; omega) h
/-! $Text.append -/
set_option maxRecDepth 100000 in
theorem zk105_1 (x : Int) (w : zW) (K : zK) (h : (0 ≤ w 1 1 ∧ w 1 1 + 4 ≤ 800) ∧ (K (0, none) (zapn x 4 w) 238)) : zcall 105 [(2, 1), (0, x), (9, 0)] w 238 K := by
  obtain ⟨hg, h⟩ := h
  refine (show (zwp 105 3 [(2, 1), (0, x), (0, 24)] [] w 238 0 K) → _ from fun h => show zwp 105 0 [(2, 1), (0, x), (9, 0)] [] w 238 0 K from zgo_imp zT157_ok (cut := fun pc => Nat.beq pc 3 || Nat.beq pc 18 || Nat.beq pc 35 || Nat.beq pc 46) 400 (show zwp 105 3 [(2, 1), (0, x), (0, 24)] [] w 238 0 K from h)) ?_
  exact zk105_L3 x 4 24 w (by omega) (by omega) (by omega) h
noncomputable def zb105 (l0 : List zV) (w : zW) (K : zK) : Prop := cond (zpe (zar l0 0) 1) (zA l0 1 fun x => (0 ≤ w 1 1 ∧ w 1 1 + 4 ≤ 800) ∧ (K (0, none) (zapn x 4 w) 238)) (False)
noncomputable def zT158 : zSum := zsm1 105 [2, 0, 9] zb105 zT157
theorem zT158_ok : zSok zT158 := zsm1_ok zT157_ok fun l0 w K h => by
  unfold zb105 at h
  cases q0 : zpe (zar l0 0) 1 with
  | true =>
    rw [q0, cond_true] at h
    have e : zar l0 0 = 1 := zpe_e q0
    show zcall 105 [(2, zar l0 0), (0, zar l0 1), (9, 0)] w 238 K
    rw [e]
    exact zk105_1 (zar l0 1) w K (zA_e h)
  | false =>
  rw [q0, cond_false] at h
  exact h.elim
set_option maxRecDepth 100000 in
theorem zk204_L3 {K : zK} (x : Int)  : ∀ (m : Nat) (s : Int) (w : zW), (s + 8 = 8 * m) → (m ≤ 4) → (0 ≤ w 93 2 ∧ w 93 2 + m ≤ 800) → (K (0, none) (zfon x m w) 238) → zwp 204 3 [(2, 93), (0, x), (0, s)] [] w 238 0 K := by
  
  intro m
  induction m with
  | zero =>
    intro s w  h1 h2 h3 h
    refine (show (if s < 0 then K (0, none) w 238 else zif False (0 ≤ w 93 2 ∧ w 93 2 < 800) (zwp 204 3 [(2, 93), (0, x), (0, z32 (s + (-8)))] [] (zupd (zupd w 94 (w 93 2).toNat ((Int32.ofInt ((Int32.ofInt x >>> (Int32.ofInt s &&& 31)).toInt) &&& Int32.ofInt 255).toInt)) 93 2 (z32 ((w 93 2) + 1))) 238 0 K)) → _ from fun h => show zwp 204 3 [(2, 93), (0, x), (0, s)] [] w 238 0 K from zgo_imp zT158_ok (cut := fun pc => Nat.beq pc 3 || Nat.beq pc 16 || Nat.beq pc 29) 400 (show if s < 0 then K (0, none) w 238 else zwp 204 16 [(2, 93), (0, x), (0, s)] [(0, x), (0, w 93 2), (2, 94)] w 238 0 K from zmI (fun h => h) (fun h => (fun h => show zwp 204 16 [(2, 93), (0, x), (0, s)] [(0, x), (0, w 93 2), (2, 94)] w 238 0 K from zgo_imp zT158_ok (cut := fun pc => Nat.beq pc 3 || Nat.beq pc 16 || Nat.beq pc 29) 400 (show zif False (0 ≤ w 93 2 ∧ w 93 2 < 800) (zwp 204 29 [(2, 93), (0, x), (0, s)] [(0, 1), (0, w 93 2), (2, 93)] (zupd w 94 (w 93 2).toNat ((Int32.ofInt ((Int32.ofInt x >>> (Int32.ofInt s &&& 31)).toInt) &&& Int32.ofInt 255).toInt)) 238 0 K) from zmZ (fun h => (fun h => show zwp 204 29 [(2, 93), (0, x), (0, s)] [(0, 1), (0, w 93 2), (2, 93)] (zupd w 94 (w 93 2).toNat ((Int32.ofInt ((Int32.ofInt x >>> (Int32.ofInt s &&& 31)).toInt) &&& Int32.ofInt 255).toInt)) 238 0 K from zgo_imp zT158_ok (cut := fun pc => Nat.beq pc 3 || Nat.beq pc 16 || Nat.beq pc 29) 400 (show zwp 204 3 [(2, 93), (0, x), (0, z32 (s + (-8)))] [] (zupd (zupd w 94 (w 93 2).toNat ((Int32.ofInt ((Int32.ofInt x >>> (Int32.ofInt s &&& 31)).toInt) &&& Int32.ofInt 255).toInt)) 93 2 (z32 ((w 93 2) + 1))) 238 0 K from h)) h) h)) h) h)) ?_
    exact ziT (by omega) h
  | succ m ih =>
    intro s w  h1 h2 h3 h
    refine (show (if s < 0 then K (0, none) w 238 else zif False (0 ≤ w 93 2 ∧ w 93 2 < 800) (zwp 204 3 [(2, 93), (0, x), (0, z32 (s + (-8)))] [] (zupd (zupd w 94 (w 93 2).toNat ((Int32.ofInt ((Int32.ofInt x >>> (Int32.ofInt s &&& 31)).toInt) &&& Int32.ofInt 255).toInt)) 93 2 (z32 ((w 93 2) + 1))) 238 0 K)) → _ from fun h => show zwp 204 3 [(2, 93), (0, x), (0, s)] [] w 238 0 K from zgo_imp zT158_ok (cut := fun pc => Nat.beq pc 3 || Nat.beq pc 16 || Nat.beq pc 29) 400 (show if s < 0 then K (0, none) w 238 else zwp 204 16 [(2, 93), (0, x), (0, s)] [(0, x), (0, w 93 2), (2, 94)] w 238 0 K from zmI (fun h => h) (fun h => (fun h => show zwp 204 16 [(2, 93), (0, x), (0, s)] [(0, x), (0, w 93 2), (2, 94)] w 238 0 K from zgo_imp zT158_ok (cut := fun pc => Nat.beq pc 3 || Nat.beq pc 16 || Nat.beq pc 29) 400 (show zif False (0 ≤ w 93 2 ∧ w 93 2 < 800) (zwp 204 29 [(2, 93), (0, x), (0, s)] [(0, 1), (0, w 93 2), (2, 93)] (zupd w 94 (w 93 2).toNat ((Int32.ofInt ((Int32.ofInt x >>> (Int32.ofInt s &&& 31)).toInt) &&& Int32.ofInt 255).toInt)) 238 0 K) from zmZ (fun h => (fun h => show zwp 204 29 [(2, 93), (0, x), (0, s)] [(0, 1), (0, w 93 2), (2, 93)] (zupd w 94 (w 93 2).toNat ((Int32.ofInt ((Int32.ofInt x >>> (Int32.ofInt s &&& 31)).toInt) &&& Int32.ofInt 255).toInt)) 238 0 K from zgo_imp zT158_ok (cut := fun pc => Nat.beq pc 3 || Nat.beq pc 16 || Nat.beq pc 29) 400 (show zwp 204 3 [(2, 93), (0, x), (0, z32 (s + (-8)))] [] (zupd (zupd w 94 (w 93 2).toNat ((Int32.ofInt ((Int32.ofInt x >>> (Int32.ofInt s &&& 31)).toInt) &&& Int32.ofInt 255).toInt)) 93 2 (z32 ((w 93 2) + 1))) 238 0 K from h)) h) h)) h) h)) ?_
    have es : s = 8 * m := by omega
    have h : K (0, none) (zfon x m (zfo1 w (zbm x s))) 238 := by rw [es]; exact h
    rw [z32_id (x := s + -8) ⟨by omega, by omega⟩, z32_id (x := w 93 2 + 1) ⟨by omega, by omega⟩]
    refine ziF (by omega) (zifI (by omega) ?_)
    exact ih (s + -8) (zfo1 w (zbm x s)) (by omega) (by omega) (by show 0 ≤ w 93 2 + 1 ∧ w 93 2 + 1 + m ≤ 800; omega) h
/-! Model.four -/
set_option maxRecDepth 100000 in
theorem zk204_93 (x : Int) (w : zW) (K : zK) (h : (0 ≤ w 93 2 ∧ w 93 2 + 4 ≤ 800) ∧ (K (0, none) (zfon x 4 w) 238)) : zcall 204 [(2, 93), (0, x), (9, 0)] w 238 K := by
  obtain ⟨hg, h⟩ := h
  refine (show (zwp 204 3 [(2, 93), (0, x), (0, 24)] [] w 238 0 K) → _ from fun h => show zwp 204 0 [(2, 93), (0, x), (9, 0)] [] w 238 0 K from zgo_imp zT158_ok (cut := fun pc => Nat.beq pc 3 || Nat.beq pc 16 || Nat.beq pc 29) 400 (show zwp 204 3 [(2, 93), (0, x), (0, 24)] [] w 238 0 K from h)) ?_
  exact zk204_L3 x 4 24 w (by omega) (by omega) (by omega) h
noncomputable def zb204 (l0 : List zV) (w : zW) (K : zK) : Prop := cond (zpe (zar l0 0) 93) (zA l0 1 fun x => (0 ≤ w 93 2 ∧ w 93 2 + 4 ≤ 800) ∧ (K (0, none) (zfon x 4 w) 238)) (False)
noncomputable def zT159 : zSum := zsm1 204 [2, 0, 9] zb204 zT158
theorem zT159_ok : zSok zT159 := zsm1_ok zT158_ok fun l0 w K h => by
  unfold zb204 at h
  cases q0 : zpe (zar l0 0) 93 with
  | true =>
    rw [q0, cond_true] at h
    have e : zar l0 0 = 93 := zpe_e q0
    show zcall 204 [(2, zar l0 0), (0, zar l0 1), (9, 0)] w 238 K
    rw [e]
    exact zk204_93 (zar l0 1) w K (zA_e h)
  | false =>
  rw [q0, cond_false] at h
  exact h.elim
/-! $Tokens.isLetter -/
set_option maxRecDepth 100000 in
theorem zk118 (x : Int) (w : zW) (K : zK) (h : K (0, some (0, (if zlt x then 1 else 0))) (w) 238) : zcall 118 [(0, x)] w 238 K := by
  refine (show (if x < 97 then K (0, some (0, 0)) w 238 else if 122 < x then K (0, some (0, 0)) w 238 else K (0, some (0, 1)) w 238) → _ from fun h => show zwp 118 0 [(0, x)] [] w 238 0 K from zgo_imp zT159_ok (cut := fun pc => Nat.beq pc 17) 400 (show if x < 97 then zwp 118 17 [(9, 0)] [(0, 0)] w 238 0 K else if 122 < x then zwp 118 17 [(9, 0)] [(0, 0)] w 238 0 K else zwp 118 17 [(0, x)] [(0, 1)] w 238 0 K from zmI (fun h => (fun h => show zwp 118 17 [(9, 0)] [(0, 0)] w 238 0 K from zgo_imp zT159_ok (cut := fun pc => Nat.beq pc 17) 400 (show K (0, some (0, 0)) w 238 from h)) h) (fun h => zmI (fun h => (fun h => show zwp 118 17 [(9, 0)] [(0, 0)] w 238 0 K from zgo_imp zT159_ok (cut := fun pc => Nat.beq pc 17) 400 (show K (0, some (0, 0)) w 238 from h)) h) (fun h => (fun h => show zwp 118 17 [(0, x)] [(0, 1)] w 238 0 K from zgo_imp zT159_ok (cut := fun pc => Nat.beq pc 17) 400 (show K (0, some (0, 1)) w 238 from h)) h) h) h)) ?_
  by_cases q : x < 97
  · rw [if_neg (by omega)] at h; exact ziT q h
  · refine ziF q ?_
    by_cases q2 : 122 < x
    · rw [if_neg (by omega)] at h; exact ziT q2 h
    · rw [if_pos (by omega)] at h; exact ziF q2 h
noncomputable def zb118 (l0 : List zV) (w : zW) (K : zK) : Prop := zA l0 0 fun x => K (0, some (0, (if zlt x then 1 else 0))) (w) 238
noncomputable def zT160 : zSum := zsm1 118 [0] zb118 zT159
theorem zT160_ok : zSok zT160 := zsm1_ok zT159_ok fun l0 w K h => zk118 (zar l0 0) w K (zA_e h)
/-! $Tokens.isDigit -/
set_option maxRecDepth 100000 in
theorem zk119 (x : Int) (w : zW) (K : zK) (h : K (0, some (0, (if zdg x then 1 else 0))) (w) 238) : zcall 119 [(0, x)] w 238 K := by
  refine (show (if x < 48 then K (0, some (0, 0)) w 238 else if 57 < x then K (0, some (0, 0)) w 238 else K (0, some (0, 1)) w 238) → _ from fun h => show zwp 119 0 [(0, x)] [] w 238 0 K from zgo_imp zT160_ok (cut := fun pc => Nat.beq pc 17) 400 (show if x < 48 then zwp 119 17 [(9, 0)] [(0, 0)] w 238 0 K else if 57 < x then zwp 119 17 [(9, 0)] [(0, 0)] w 238 0 K else zwp 119 17 [(0, x)] [(0, 1)] w 238 0 K from zmI (fun h => (fun h => show zwp 119 17 [(9, 0)] [(0, 0)] w 238 0 K from zgo_imp zT160_ok (cut := fun pc => Nat.beq pc 17) 400 (show K (0, some (0, 0)) w 238 from h)) h) (fun h => zmI (fun h => (fun h => show zwp 119 17 [(9, 0)] [(0, 0)] w 238 0 K from zgo_imp zT160_ok (cut := fun pc => Nat.beq pc 17) 400 (show K (0, some (0, 0)) w 238 from h)) h) (fun h => (fun h => show zwp 119 17 [(0, x)] [(0, 1)] w 238 0 K from zgo_imp zT160_ok (cut := fun pc => Nat.beq pc 17) 400 (show K (0, some (0, 1)) w 238 from h)) h) h) h)) ?_
  by_cases q : x < 48
  · rw [if_neg (by omega)] at h; exact ziT q h
  · refine ziF q ?_
    by_cases q2 : 57 < x
    · rw [if_neg (by omega)] at h; exact ziT q2 h
    · rw [if_pos (by omega)] at h; exact ziF q2 h
noncomputable def zb119 (l0 : List zV) (w : zW) (K : zK) : Prop := zA l0 0 fun x => K (0, some (0, (if zdg x then 1 else 0))) (w) 238
noncomputable def zT161 : zSum := zsm1 119 [0] zb119 zT160
theorem zT161_ok : zSok zT161 := zsm1_ok zT160_ok fun l0 w K h => zk119 (zar l0 0) w K (zA_e h)
/-! Model.isLetter -/
set_option maxRecDepth 100000 in
theorem zk207 (x : Int) (w : zW) (K : zK) (h : K (0, some (0, (if zlt x then 1 else 0))) (w) 238) : zcall 207 [(0, x)] w 238 K := by
  refine (show (if x < 97 then K (0, some (0, 0)) w 238 else if 122 < x then K (0, some (0, 0)) w 238 else K (0, some (0, 1)) w 238) → _ from fun h => show zwp 207 0 [(0, x)] [] w 238 0 K from zgo_imp zT161_ok (cut := fun pc => Nat.beq pc 17) 400 (show if x < 97 then zwp 207 17 [(9, 0)] [(0, 0)] w 238 0 K else if 122 < x then zwp 207 17 [(9, 0)] [(0, 0)] w 238 0 K else zwp 207 17 [(0, x)] [(0, 1)] w 238 0 K from zmI (fun h => (fun h => show zwp 207 17 [(9, 0)] [(0, 0)] w 238 0 K from zgo_imp zT161_ok (cut := fun pc => Nat.beq pc 17) 400 (show K (0, some (0, 0)) w 238 from h)) h) (fun h => zmI (fun h => (fun h => show zwp 207 17 [(9, 0)] [(0, 0)] w 238 0 K from zgo_imp zT161_ok (cut := fun pc => Nat.beq pc 17) 400 (show K (0, some (0, 0)) w 238 from h)) h) (fun h => (fun h => show zwp 207 17 [(0, x)] [(0, 1)] w 238 0 K from zgo_imp zT161_ok (cut := fun pc => Nat.beq pc 17) 400 (show K (0, some (0, 1)) w 238 from h)) h) h) h)) ?_
  by_cases q : x < 97
  · rw [if_neg (by omega)] at h; exact ziT q h
  · refine ziF q ?_
    by_cases q2 : 122 < x
    · rw [if_neg (by omega)] at h; exact ziT q2 h
    · rw [if_pos (by omega)] at h; exact ziF q2 h
noncomputable def zb207 (l0 : List zV) (w : zW) (K : zK) : Prop := zA l0 0 fun x => K (0, some (0, (if zlt x then 1 else 0))) (w) 238
noncomputable def zT162 : zSum := zsm1 207 [0] zb207 zT161
theorem zT162_ok : zSok zT162 := zsm1_ok zT161_ok fun l0 w K h => zk207 (zar l0 0) w K (zA_e h)
/-! Model.isDigit -/
set_option maxRecDepth 100000 in
theorem zk208 (x : Int) (w : zW) (K : zK) (h : K (0, some (0, (if zdg x then 1 else 0))) (w) 238) : zcall 208 [(0, x)] w 238 K := by
  refine (show (if x < 48 then K (0, some (0, 0)) w 238 else if 57 < x then K (0, some (0, 0)) w 238 else K (0, some (0, 1)) w 238) → _ from fun h => show zwp 208 0 [(0, x)] [] w 238 0 K from zgo_imp zT162_ok (cut := fun pc => Nat.beq pc 17) 400 (show if x < 48 then zwp 208 17 [(9, 0)] [(0, 0)] w 238 0 K else if 57 < x then zwp 208 17 [(9, 0)] [(0, 0)] w 238 0 K else zwp 208 17 [(0, x)] [(0, 1)] w 238 0 K from zmI (fun h => (fun h => show zwp 208 17 [(9, 0)] [(0, 0)] w 238 0 K from zgo_imp zT162_ok (cut := fun pc => Nat.beq pc 17) 400 (show K (0, some (0, 0)) w 238 from h)) h) (fun h => zmI (fun h => (fun h => show zwp 208 17 [(9, 0)] [(0, 0)] w 238 0 K from zgo_imp zT162_ok (cut := fun pc => Nat.beq pc 17) 400 (show K (0, some (0, 0)) w 238 from h)) h) (fun h => (fun h => show zwp 208 17 [(0, x)] [(0, 1)] w 238 0 K from zgo_imp zT162_ok (cut := fun pc => Nat.beq pc 17) 400 (show K (0, some (0, 1)) w 238 from h)) h) h) h)) ?_
  by_cases q : x < 48
  · rw [if_neg (by omega)] at h; exact ziT q h
  · refine ziF q ?_
    by_cases q2 : 57 < x
    · rw [if_neg (by omega)] at h; exact ziT q2 h
    · rw [if_pos (by omega)] at h; exact ziF q2 h
noncomputable def zb208 (l0 : List zV) (w : zW) (K : zK) : Prop := zA l0 0 fun x => K (0, some (0, (if zdg x then 1 else 0))) (w) 238
noncomputable def zT163 : zSum := zsm1 208 [0] zb208 zT162
theorem zT163_ok : zSok zT163 := zsm1_ok zT162_ok fun l0 w K h => zk208 (zar l0 0) w K (zA_e h)
/-! $Text.byteAt -/
set_option maxRecDepth 100000 in
theorem zk106_1 (i : Int) (w : zW) (K : zK) (h : (0 ≤ w 1 1 ∧ w 1 1 ≤ 800) ∧ (K (0, some (0, zTy (w 2) (w 1 1) i)) (w) 238)) : zcall 106 [(2, 1), (0, i)] w 238 K := by
  obtain ⟨hg, h⟩ := h
  refine (show (if i < 0 then K (0, some (0, (-1))) w 238 else if i < w 1 1 then if i < 800 then zif False (0 ≤ i ∧ i < 800) (K (0, some (0, (Int32.ofInt (w 2 i.toNat) &&& Int32.ofInt 255).toInt)) w 238) else K (0, some (0, (-1))) w 238 else K (0, some (0, (-1))) w 238) → _ from fun h => show zwp 106 0 [(2, 1), (0, i)] [] w 238 0 K from zgo_imp zT163_ok (cut := fun pc => Nat.beq pc 17 || Nat.beq pc 34) 400 (show if i < 0 then zwp 106 34 [(2, 1), (0, i)] [] w 238 0 K else if i < w 1 1 then zwp 106 17 [(2, 1), (0, i)] [(2, 2), (0, i)] w 238 0 K else zwp 106 34 [(2, 1), (0, i)] [] w 238 0 K from zmI (fun h => (fun h => show zwp 106 34 [(2, 1), (0, i)] [] w 238 0 K from zgo_imp zT163_ok (cut := fun pc => Nat.beq pc 17 || Nat.beq pc 34) 400 (show K (0, some (0, (-1))) w 238 from h)) h) (fun h => zmI (fun h => (fun h => show zwp 106 17 [(2, 1), (0, i)] [(2, 2), (0, i)] w 238 0 K from zgo_imp zT163_ok (cut := fun pc => Nat.beq pc 17 || Nat.beq pc 34) 400 (show if i < 800 then zif False (0 ≤ i ∧ i < 800) (K (0, some (0, (Int32.ofInt (w 2 i.toNat) &&& Int32.ofInt 255).toInt)) w 238) else zwp 106 34 [(2, 1), (0, i)] [] w 238 0 K from zmI (fun h => h) (fun h => (fun h => show zwp 106 34 [(2, 1), (0, i)] [] w 238 0 K from zgo_imp zT163_ok (cut := fun pc => Nat.beq pc 17 || Nat.beq pc 34) 400 (show K (0, some (0, (-1))) w 238 from h)) h) h)) h) (fun h => (fun h => show zwp 106 34 [(2, 1), (0, i)] [] w 238 0 K from zgo_imp zT163_ok (cut := fun pc => Nat.beq pc 17 || Nat.beq pc 34) 400 (show K (0, some (0, (-1))) w 238 from h)) h) h) h)) ?_
  by_cases q : i < 0
  · rw [show zTy (w 2) (w 1 1) i = -1 from if_neg (by omega)] at h
    exact ziT q h
  · refine ziF q ?_
    by_cases q2 : i < w 1 1
    · rw [show zTy (w 2) (w 1 1) i = w 2 i.toNat % 256 from if_pos (by omega)] at h
      refine ziT q2 (ziT (by omega) (zifI (by omega) ?_))
      rw [zand255]
      exact h
    · rw [show zTy (w 2) (w 1 1) i = -1 from if_neg (by omega)] at h
      exact ziF q2 h
noncomputable def zb106 (l0 : List zV) (w : zW) (K : zK) : Prop := cond (zpe (zar l0 0) 1) (zA l0 1 fun i => (0 ≤ w 1 1 ∧ w 1 1 ≤ 800) ∧ (K (0, some (0, zTy (w 2) (w 1 1) i)) (w) 238)) (False)
noncomputable def zT164 : zSum := zsm1 106 [2, 0] zb106 zT163
theorem zT164_ok : zSok zT164 := zsm1_ok zT163_ok fun l0 w K h => by
  unfold zb106 at h
  cases q0 : zpe (zar l0 0) 1 with
  | true =>
    rw [q0, cond_true] at h
    have e : zar l0 0 = 1 := zpe_e q0
    show zcall 106 [(2, zar l0 0), (0, zar l0 1)] w 238 K
    rw [e]
    exact zk106_1 (zar l0 1) w K (zA_e h)
  | false =>
  rw [q0, cond_false] at h
  exact h.elim
/-! Model.here -/
set_option maxRecDepth 100000 in
theorem zk206_93 (i : Int) (w : zW) (K : zK) (h : ((0 ≤ w 93 3 ∧ w 93 3 ≤ 800) ∧ (0 ≤ w 93 4 ∧ w 93 4 ≤ 1000) ∧ 0 ≤ i ∧ i ≤ 1000) ∧ (K (0, some (0, zTx (w 94) (w 93 3) (w 93 4 + i))) (w) 238)) : zcall 206 [(2, 93), (0, i)] w 238 K := by
  obtain ⟨hg, h⟩ := h
  refine (show (if z32 ((w 93 4) + i) < w 93 3 then zif False (0 ≤ z32 ((w 93 4) + i) ∧ z32 ((w 93 4) + i) < 800) (K (0, some (0, w 94 (z32 ((w 93 4) + i)).toNat)) w 238) else K (0, some (0, (-1))) w 238) → _ from fun h => show zwp 206 0 [(2, 93), (0, i)] [] w 238 0 K from zgo_imp zT164_ok (cut := fun pc => Nat.beq pc 17) 400 (show if z32 ((w 93 4) + i) < w 93 3 then zwp 206 17 [(2, 93), (0, i)] [(2, 94)] w 238 0 K else K (0, some (0, (-1))) w 238 from zmI (fun h => (fun h => show zwp 206 17 [(2, 93), (0, i)] [(2, 94)] w 238 0 K from zgo_imp zT164_ok (cut := fun pc => Nat.beq pc 17) 400 (show zif False (0 ≤ z32 ((w 93 4) + i) ∧ z32 ((w 93 4) + i) < 800) (K (0, some (0, w 94 (z32 ((w 93 4) + i)).toNat)) w 238) from h)) h) (fun h => h) h)) ?_
  rw [z32_id (x := w 93 4 + i) ⟨by omega, by omega⟩]
  by_cases q2 : w 93 4 + i < w 93 3
  · rw [show zTx (w 94) (w 93 3) (w 93 4 + i) = w 94 (w 93 4 + i).toNat from if_pos (by omega)] at h
    exact ziT q2 (zifI (by omega) h)
  · rw [show zTx (w 94) (w 93 3) (w 93 4 + i) = -1 from if_neg (by omega)] at h
    exact ziF q2 h
noncomputable def zb206 (l0 : List zV) (w : zW) (K : zK) : Prop := cond (zpe (zar l0 0) 93) (zA l0 1 fun i => ((0 ≤ w 93 3 ∧ w 93 3 ≤ 800) ∧ (0 ≤ w 93 4 ∧ w 93 4 ≤ 1000) ∧ 0 ≤ i ∧ i ≤ 1000) ∧ (K (0, some (0, zTx (w 94) (w 93 3) (w 93 4 + i))) (w) 238)) (False)
noncomputable def zT165 : zSum := zsm1 206 [2, 0] zb206 zT164
theorem zT165_ok : zSok zT165 := zsm1_ok zT164_ok fun l0 w K h => by
  unfold zb206 at h
  cases q0 : zpe (zar l0 0) 93 with
  | true =>
    rw [q0, cond_true] at h
    have e : zar l0 0 = 93 := zpe_e q0
    show zcall 206 [(2, zar l0 0), (0, zar l0 1)] w 238 K
    rw [e]
    exact zk206_93 (zar l0 1) w K (zA_e h)
  | false =>
  rw [q0, cond_false] at h
  exact h.elim
/-- the constant of Word with these letters -/
def zWd (x : Int) : Int := if 0 = x then 0 else if 109304541834341 = x then 2 else if 125762622027123 = x then 3 else if 418464099429 = x then 4 else if 1717658469 = x then 5 else if 495588568165 = x then 6 else if 495790618213 = x then 7 else if 495924372848 = x then 8 else if 7562612 = x then 9 else if 7102841 = x then 10 else if 1953854062 = x then 11 else if 1667329133 = x then 12 else if 125780002955636 = x then 13 else 1
theorem zWd_rg (x : Int) : 0 ≤ zWd x ∧ zWd x < 15 := by
  unfold zWd
  repeat' split
  all_goals omega
/-! $Word.withLetters -/
set_option maxRecDepth 100000 in
theorem zk121 (x : Int) (w : zW) (K : zK) (h : K (0, some (2, 1000 + zWd x)) (w) 238) : zcall 121 [(1, x), (9, 0), (9, 0), (9, 0), (9, 0), (9, 0)] w 238 K := by
  refine (show (if 0 = x then K (0, some (2, 1000 + 0)) w 238 else if 0 = x then K (0, some (2, 1000 + 1)) w 238 else if 109304541834341 = x then K (0, some (2, 1000 + 2)) w 238 else if 125762622027123 = x then K (0, some (2, 1000 + 3)) w 238 else if 418464099429 = x then K (0, some (2, 1000 + 4)) w 238 else if 1717658469 = x then K (0, some (2, 1000 + 5)) w 238 else if 495588568165 = x then K (0, some (2, 1000 + 6)) w 238 else if 495790618213 = x then K (0, some (2, 1000 + 7)) w 238 else if 495924372848 = x then K (0, some (2, 1000 + 8)) w 238 else if 7562612 = x then K (0, some (2, 1000 + 9)) w 238 else if 7102841 = x then K (0, some (2, 1000 + 10)) w 238 else if 1953854062 = x then K (0, some (2, 1000 + 11)) w 238 else if 1667329133 = x then K (0, some (2, 1000 + 12)) w 238 else if 125780002955636 = x then K (0, some (2, 1000 + 13)) w 238 else if 0 = x then K (0, some (2, 1000 + 14)) w 238 else K (0, some (2, 1001)) w 238) → _ from fun h => show zwp 121 0 [(1, x), (9, 0), (9, 0), (9, 0), (9, 0), (9, 0)] [] w 238 0 K from zgo_imp zT165_ok (cut := fun pc => Nat.beq pc 13 || Nat.beq pc 32) 400 (show zwp 121 13 [(1, x), (9, 0), (2, 2000), (0, 15), (0, 0), (9, 0)] [(0, 15), (0, 0)] w 238 0 K from (fun h => show zwp 121 13 [(1, x), (9, 0), (2, 2000), (0, 15), (0, 0), (9, 0)] [(0, 15), (0, 0)] w 238 0 K from zgo_imp zT165_ok (cut := fun pc => Nat.beq pc 13 || Nat.beq pc 32) 400 (show if 0 = x then zwp 121 32 [(1, x), (9, 0), (2, 2000), (0, 15), (0, 0), (2, 1000 + 0)] [] w 238 0 K else zwp 121 13 [(1, x), (9, 0), (2, 2000), (0, 15), (0, 1), (9, 0)] [(0, 15), (0, 1)] w 238 0 K from zmI (fun h => (fun h => show zwp 121 32 [(1, x), (9, 0), (2, 2000), (0, 15), (0, 0), (2, 1000 + 0)] [] w 238 0 K from zgo_imp zT165_ok (cut := fun pc => Nat.beq pc 13 || Nat.beq pc 32) 400 (show K (0, some (2, 1000 + 0)) w 238 from h)) h) (fun h => (fun h => show zwp 121 13 [(1, x), (9, 0), (2, 2000), (0, 15), (0, 1), (9, 0)] [(0, 15), (0, 1)] w 238 0 K from zgo_imp zT165_ok (cut := fun pc => Nat.beq pc 13 || Nat.beq pc 32) 400 (show if 0 = x then zwp 121 32 [(1, x), (9, 0), (2, 2000), (0, 15), (0, 1), (2, 1000 + 1)] [] w 238 0 K else zwp 121 13 [(1, x), (9, 0), (2, 2000), (0, 15), (0, 2), (9, 0)] [(0, 15), (0, 2)] w 238 0 K from zmI (fun h => (fun h => show zwp 121 32 [(1, x), (9, 0), (2, 2000), (0, 15), (0, 1), (2, 1000 + 1)] [] w 238 0 K from zgo_imp zT165_ok (cut := fun pc => Nat.beq pc 13 || Nat.beq pc 32) 400 (show K (0, some (2, 1000 + 1)) w 238 from h)) h) (fun h => (fun h => show zwp 121 13 [(1, x), (9, 0), (2, 2000), (0, 15), (0, 2), (9, 0)] [(0, 15), (0, 2)] w 238 0 K from zgo_imp zT165_ok (cut := fun pc => Nat.beq pc 13 || Nat.beq pc 32) 400 (show if 109304541834341 = x then zwp 121 32 [(1, x), (9, 0), (2, 2000), (0, 15), (0, 2), (2, 1000 + 2)] [] w 238 0 K else zwp 121 13 [(1, x), (9, 0), (2, 2000), (0, 15), (0, 3), (9, 0)] [(0, 15), (0, 3)] w 238 0 K from zmI (fun h => (fun h => show zwp 121 32 [(1, x), (9, 0), (2, 2000), (0, 15), (0, 2), (2, 1000 + 2)] [] w 238 0 K from zgo_imp zT165_ok (cut := fun pc => Nat.beq pc 13 || Nat.beq pc 32) 400 (show K (0, some (2, 1000 + 2)) w 238 from h)) h) (fun h => (fun h => show zwp 121 13 [(1, x), (9, 0), (2, 2000), (0, 15), (0, 3), (9, 0)] [(0, 15), (0, 3)] w 238 0 K from zgo_imp zT165_ok (cut := fun pc => Nat.beq pc 13 || Nat.beq pc 32) 400 (show if 125762622027123 = x then zwp 121 32 [(1, x), (9, 0), (2, 2000), (0, 15), (0, 3), (2, 1000 + 3)] [] w 238 0 K else zwp 121 13 [(1, x), (9, 0), (2, 2000), (0, 15), (0, 4), (9, 0)] [(0, 15), (0, 4)] w 238 0 K from zmI (fun h => (fun h => show zwp 121 32 [(1, x), (9, 0), (2, 2000), (0, 15), (0, 3), (2, 1000 + 3)] [] w 238 0 K from zgo_imp zT165_ok (cut := fun pc => Nat.beq pc 13 || Nat.beq pc 32) 400 (show K (0, some (2, 1000 + 3)) w 238 from h)) h) (fun h => (fun h => show zwp 121 13 [(1, x), (9, 0), (2, 2000), (0, 15), (0, 4), (9, 0)] [(0, 15), (0, 4)] w 238 0 K from zgo_imp zT165_ok (cut := fun pc => Nat.beq pc 13 || Nat.beq pc 32) 400 (show if 418464099429 = x then zwp 121 32 [(1, x), (9, 0), (2, 2000), (0, 15), (0, 4), (2, 1000 + 4)] [] w 238 0 K else zwp 121 13 [(1, x), (9, 0), (2, 2000), (0, 15), (0, 5), (9, 0)] [(0, 15), (0, 5)] w 238 0 K from zmI (fun h => (fun h => show zwp 121 32 [(1, x), (9, 0), (2, 2000), (0, 15), (0, 4), (2, 1000 + 4)] [] w 238 0 K from zgo_imp zT165_ok (cut := fun pc => Nat.beq pc 13 || Nat.beq pc 32) 400 (show K (0, some (2, 1000 + 4)) w 238 from h)) h) (fun h => (fun h => show zwp 121 13 [(1, x), (9, 0), (2, 2000), (0, 15), (0, 5), (9, 0)] [(0, 15), (0, 5)] w 238 0 K from zgo_imp zT165_ok (cut := fun pc => Nat.beq pc 13 || Nat.beq pc 32) 400 (show if 1717658469 = x then zwp 121 32 [(1, x), (9, 0), (2, 2000), (0, 15), (0, 5), (2, 1000 + 5)] [] w 238 0 K else zwp 121 13 [(1, x), (9, 0), (2, 2000), (0, 15), (0, 6), (9, 0)] [(0, 15), (0, 6)] w 238 0 K from zmI (fun h => (fun h => show zwp 121 32 [(1, x), (9, 0), (2, 2000), (0, 15), (0, 5), (2, 1000 + 5)] [] w 238 0 K from zgo_imp zT165_ok (cut := fun pc => Nat.beq pc 13 || Nat.beq pc 32) 400 (show K (0, some (2, 1000 + 5)) w 238 from h)) h) (fun h => (fun h => show zwp 121 13 [(1, x), (9, 0), (2, 2000), (0, 15), (0, 6), (9, 0)] [(0, 15), (0, 6)] w 238 0 K from zgo_imp zT165_ok (cut := fun pc => Nat.beq pc 13 || Nat.beq pc 32) 400 (show if 495588568165 = x then zwp 121 32 [(1, x), (9, 0), (2, 2000), (0, 15), (0, 6), (2, 1000 + 6)] [] w 238 0 K else zwp 121 13 [(1, x), (9, 0), (2, 2000), (0, 15), (0, 7), (9, 0)] [(0, 15), (0, 7)] w 238 0 K from zmI (fun h => (fun h => show zwp 121 32 [(1, x), (9, 0), (2, 2000), (0, 15), (0, 6), (2, 1000 + 6)] [] w 238 0 K from zgo_imp zT165_ok (cut := fun pc => Nat.beq pc 13 || Nat.beq pc 32) 400 (show K (0, some (2, 1000 + 6)) w 238 from h)) h) (fun h => (fun h => show zwp 121 13 [(1, x), (9, 0), (2, 2000), (0, 15), (0, 7), (9, 0)] [(0, 15), (0, 7)] w 238 0 K from zgo_imp zT165_ok (cut := fun pc => Nat.beq pc 13 || Nat.beq pc 32) 400 (show if 495790618213 = x then zwp 121 32 [(1, x), (9, 0), (2, 2000), (0, 15), (0, 7), (2, 1000 + 7)] [] w 238 0 K else zwp 121 13 [(1, x), (9, 0), (2, 2000), (0, 15), (0, 8), (9, 0)] [(0, 15), (0, 8)] w 238 0 K from zmI (fun h => (fun h => show zwp 121 32 [(1, x), (9, 0), (2, 2000), (0, 15), (0, 7), (2, 1000 + 7)] [] w 238 0 K from zgo_imp zT165_ok (cut := fun pc => Nat.beq pc 13 || Nat.beq pc 32) 400 (show K (0, some (2, 1000 + 7)) w 238 from h)) h) (fun h => (fun h => show zwp 121 13 [(1, x), (9, 0), (2, 2000), (0, 15), (0, 8), (9, 0)] [(0, 15), (0, 8)] w 238 0 K from zgo_imp zT165_ok (cut := fun pc => Nat.beq pc 13 || Nat.beq pc 32) 400 (show if 495924372848 = x then zwp 121 32 [(1, x), (9, 0), (2, 2000), (0, 15), (0, 8), (2, 1000 + 8)] [] w 238 0 K else zwp 121 13 [(1, x), (9, 0), (2, 2000), (0, 15), (0, 9), (9, 0)] [(0, 15), (0, 9)] w 238 0 K from zmI (fun h => (fun h => show zwp 121 32 [(1, x), (9, 0), (2, 2000), (0, 15), (0, 8), (2, 1000 + 8)] [] w 238 0 K from zgo_imp zT165_ok (cut := fun pc => Nat.beq pc 13 || Nat.beq pc 32) 400 (show K (0, some (2, 1000 + 8)) w 238 from h)) h) (fun h => (fun h => show zwp 121 13 [(1, x), (9, 0), (2, 2000), (0, 15), (0, 9), (9, 0)] [(0, 15), (0, 9)] w 238 0 K from zgo_imp zT165_ok (cut := fun pc => Nat.beq pc 13 || Nat.beq pc 32) 400 (show if 7562612 = x then zwp 121 32 [(1, x), (9, 0), (2, 2000), (0, 15), (0, 9), (2, 1000 + 9)] [] w 238 0 K else zwp 121 13 [(1, x), (9, 0), (2, 2000), (0, 15), (0, 10), (9, 0)] [(0, 15), (0, 10)] w 238 0 K from zmI (fun h => (fun h => show zwp 121 32 [(1, x), (9, 0), (2, 2000), (0, 15), (0, 9), (2, 1000 + 9)] [] w 238 0 K from zgo_imp zT165_ok (cut := fun pc => Nat.beq pc 13 || Nat.beq pc 32) 400 (show K (0, some (2, 1000 + 9)) w 238 from h)) h) (fun h => (fun h => show zwp 121 13 [(1, x), (9, 0), (2, 2000), (0, 15), (0, 10), (9, 0)] [(0, 15), (0, 10)] w 238 0 K from zgo_imp zT165_ok (cut := fun pc => Nat.beq pc 13 || Nat.beq pc 32) 400 (show if 7102841 = x then zwp 121 32 [(1, x), (9, 0), (2, 2000), (0, 15), (0, 10), (2, 1000 + 10)] [] w 238 0 K else zwp 121 13 [(1, x), (9, 0), (2, 2000), (0, 15), (0, 11), (9, 0)] [(0, 15), (0, 11)] w 238 0 K from zmI (fun h => (fun h => show zwp 121 32 [(1, x), (9, 0), (2, 2000), (0, 15), (0, 10), (2, 1000 + 10)] [] w 238 0 K from zgo_imp zT165_ok (cut := fun pc => Nat.beq pc 13 || Nat.beq pc 32) 400 (show K (0, some (2, 1000 + 10)) w 238 from h)) h) (fun h => (fun h => show zwp 121 13 [(1, x), (9, 0), (2, 2000), (0, 15), (0, 11), (9, 0)] [(0, 15), (0, 11)] w 238 0 K from zgo_imp zT165_ok (cut := fun pc => Nat.beq pc 13 || Nat.beq pc 32) 400 (show if 1953854062 = x then zwp 121 32 [(1, x), (9, 0), (2, 2000), (0, 15), (0, 11), (2, 1000 + 11)] [] w 238 0 K else zwp 121 13 [(1, x), (9, 0), (2, 2000), (0, 15), (0, 12), (9, 0)] [(0, 15), (0, 12)] w 238 0 K from zmI (fun h => (fun h => show zwp 121 32 [(1, x), (9, 0), (2, 2000), (0, 15), (0, 11), (2, 1000 + 11)] [] w 238 0 K from zgo_imp zT165_ok (cut := fun pc => Nat.beq pc 13 || Nat.beq pc 32) 400 (show K (0, some (2, 1000 + 11)) w 238 from h)) h) (fun h => (fun h => show zwp 121 13 [(1, x), (9, 0), (2, 2000), (0, 15), (0, 12), (9, 0)] [(0, 15), (0, 12)] w 238 0 K from zgo_imp zT165_ok (cut := fun pc => Nat.beq pc 13 || Nat.beq pc 32) 400 (show if 1667329133 = x then zwp 121 32 [(1, x), (9, 0), (2, 2000), (0, 15), (0, 12), (2, 1000 + 12)] [] w 238 0 K else zwp 121 13 [(1, x), (9, 0), (2, 2000), (0, 15), (0, 13), (9, 0)] [(0, 15), (0, 13)] w 238 0 K from zmI (fun h => (fun h => show zwp 121 32 [(1, x), (9, 0), (2, 2000), (0, 15), (0, 12), (2, 1000 + 12)] [] w 238 0 K from zgo_imp zT165_ok (cut := fun pc => Nat.beq pc 13 || Nat.beq pc 32) 400 (show K (0, some (2, 1000 + 12)) w 238 from h)) h) (fun h => (fun h => show zwp 121 13 [(1, x), (9, 0), (2, 2000), (0, 15), (0, 13), (9, 0)] [(0, 15), (0, 13)] w 238 0 K from zgo_imp zT165_ok (cut := fun pc => Nat.beq pc 13 || Nat.beq pc 32) 400 (show if 125780002955636 = x then zwp 121 32 [(1, x), (9, 0), (2, 2000), (0, 15), (0, 13), (2, 1000 + 13)] [] w 238 0 K else zwp 121 13 [(1, x), (9, 0), (2, 2000), (0, 15), (0, 14), (9, 0)] [(0, 15), (0, 14)] w 238 0 K from zmI (fun h => (fun h => show zwp 121 32 [(1, x), (9, 0), (2, 2000), (0, 15), (0, 13), (2, 1000 + 13)] [] w 238 0 K from zgo_imp zT165_ok (cut := fun pc => Nat.beq pc 13 || Nat.beq pc 32) 400 (show K (0, some (2, 1000 + 13)) w 238 from h)) h) (fun h => (fun h => show zwp 121 13 [(1, x), (9, 0), (2, 2000), (0, 15), (0, 14), (9, 0)] [(0, 15), (0, 14)] w 238 0 K from zgo_imp zT165_ok (cut := fun pc => Nat.beq pc 13 || Nat.beq pc 32) 400 (show if 0 = x then zwp 121 32 [(1, x), (9, 0), (2, 2000), (0, 15), (0, 14), (2, 1000 + 14)] [] w 238 0 K else zwp 121 13 [(1, x), (9, 0), (2, 2000), (0, 15), (0, 15), (9, 0)] [(0, 15), (0, 15)] w 238 0 K from zmI (fun h => (fun h => show zwp 121 32 [(1, x), (9, 0), (2, 2000), (0, 15), (0, 14), (2, 1000 + 14)] [] w 238 0 K from zgo_imp zT165_ok (cut := fun pc => Nat.beq pc 13 || Nat.beq pc 32) 400 (show K (0, some (2, 1000 + 14)) w 238 from h)) h) (fun h => (fun h => show zwp 121 13 [(1, x), (9, 0), (2, 2000), (0, 15), (0, 15), (9, 0)] [(0, 15), (0, 15)] w 238 0 K from zgo_imp zT165_ok (cut := fun pc => Nat.beq pc 13 || Nat.beq pc 32) 400 (show K (0, some (2, 1001)) w 238 from h)) h) h)) h) h)) h) h)) h) h)) h) h)) h) h)) h) h)) h) h)) h) h)) h) h)) h) h)) h) h)) h) h)) h) h)) h) h)) h)) ?_
  unfold zWd at h
  by_cases q0 : 0 = x
  · rw [if_pos q0] at h; exact ziT q0 h
  rw [if_neg q0] at h; refine ziF q0 (ziF q0 ?_)
  by_cases q2 : 109304541834341 = x
  · rw [if_pos q2] at h; exact ziT q2 h
  rw [if_neg q2] at h; refine ziF q2 ?_
  by_cases q3 : 125762622027123 = x
  · rw [if_pos q3] at h; exact ziT q3 h
  rw [if_neg q3] at h; refine ziF q3 ?_
  by_cases q4 : 418464099429 = x
  · rw [if_pos q4] at h; exact ziT q4 h
  rw [if_neg q4] at h; refine ziF q4 ?_
  by_cases q5 : 1717658469 = x
  · rw [if_pos q5] at h; exact ziT q5 h
  rw [if_neg q5] at h; refine ziF q5 ?_
  by_cases q6 : 495588568165 = x
  · rw [if_pos q6] at h; exact ziT q6 h
  rw [if_neg q6] at h; refine ziF q6 ?_
  by_cases q7 : 495790618213 = x
  · rw [if_pos q7] at h; exact ziT q7 h
  rw [if_neg q7] at h; refine ziF q7 ?_
  by_cases q8 : 495924372848 = x
  · rw [if_pos q8] at h; exact ziT q8 h
  rw [if_neg q8] at h; refine ziF q8 ?_
  by_cases q9 : 7562612 = x
  · rw [if_pos q9] at h; exact ziT q9 h
  rw [if_neg q9] at h; refine ziF q9 ?_
  by_cases q10 : 7102841 = x
  · rw [if_pos q10] at h; exact ziT q10 h
  rw [if_neg q10] at h; refine ziF q10 ?_
  by_cases q11 : 1953854062 = x
  · rw [if_pos q11] at h; exact ziT q11 h
  rw [if_neg q11] at h; refine ziF q11 ?_
  by_cases q12 : 1667329133 = x
  · rw [if_pos q12] at h; exact ziT q12 h
  rw [if_neg q12] at h; refine ziF q12 ?_
  by_cases q13 : 125780002955636 = x
  · rw [if_pos q13] at h; exact ziT q13 h
  rw [if_neg q13] at h; refine ziF q13 ?_
  exact ziF q0 h
noncomputable def zb121 (l0 : List zV) (w : zW) (K : zK) : Prop := zA l0 0 fun x => K (0, some (2, 1000 + zWd x)) (w) 238
noncomputable def zT166 : zSum := zsm1 121 [1, 9, 9, 9, 9, 9] zb121 zT165
theorem zT166_ok : zSok zT166 := zsm1_ok zT165_ok fun l0 w K h => zk121 (zar l0 0) w K (zA_e h)
