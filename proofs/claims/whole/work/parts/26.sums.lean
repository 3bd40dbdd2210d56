/-! ===== summaries: what a call does, told without its steps ===== -/
abbrev zK : Type := zR → zW → Nat → Prop
abbrev zSum : Type := Nat → List zV → zW → Nat → zK → Prop
def zSok (S : zSum) : Prop := ∀ (y : Nat) (l0 : List zV) (w : zW) (t : Nat) (K : zK), S y l0 w t K → zcall y l0 w t K
/-- so many steps, calls by their summaries, up to a cut -/
def zgo (S : zSum) (cut : Nat → Bool) (k : Nat) (Q : zK) (m : Nat) : Nat → List zV → List zV → zW → Nat → Nat → Prop :=
  Nat.rec (fun pc ls st w t c => zwp k pc ls st w t c Q) (fun _ G pc ls st w t c => zstep False Q (fun pc ls st w t c => cond (cut pc) (zwp k pc ls st w t c Q) (G pc ls st w t c)) (fun y l0 w t K => S y l0 w t K) k pc ls st w t c) m
theorem zgo_imp {S : zSum} (hS : zSok S) {cut : Nat → Bool} {k : Nat} {Q : zK} (m : Nat) : ∀ {pc : Nat} {ls st : List zV} {w : zW} {t c : Nat}, zgo S cut k Q m pc ls st w t c → zwp k pc ls st w t c Q := by
  induction m with
  | zero => intro pc ls st w t c h; exact h
  | succ n ih =>
    intro pc ls st w t c h
    refine zwp_step ?_
    have h' : zstep False Q (fun pc ls st w t c => cond (cut pc) (zwp k pc ls st w t c Q) (zgo S cut k Q n pc ls st w t c)) (fun y l0 w t K => S y l0 w t K) k pc ls st w t c := h
    refine zstep_rel (fun a b : Prop => a → b) (fail := False) (fail' := False) (fun h => h) (F := fun pc ls st w t c => cond (cut pc) (zwp k pc ls st w t c Q) (zgo S cut k Q n pc ls st w t c)) (F' := fun pc ls st w t c => zwp k pc ls st w t c Q) (fun pc ls st w t c h => ?_) (ret := Q) (ret' := Q) (fun _ _ _ h => h) (call := fun y l0 w t K => S y l0 w t K) (call' := fun y l0 w t K => zcall y l0 w t K) (fun y l0 w t K K' hK h => zcall_imp (hS y l0 w t K h) hK) k pc ls st w t c h'
    cases hc : cut pc with
    | true => rw [hc] at h; exact h
    | false => rw [hc] at h; exact ih h
def zcall0 : zSum := fun y l0 w t K => zcall y l0 w t K
theorem zcall0_ok : zSok zcall0 := fun _ _ _ _ _ h => h
/-- a call's own steps in the caller's place -/
def zinl (S : zSum) (m : Nat) : zSum := fun y l0 w t K => zgo S (fun _ => false) y K m 0 l0 [] w t (zmc y)
theorem zinl_ok {S : zSum} (hS : zSok S) (m : Nat) : zSok (zinl S m) := fun _ _ _ _ _ h => zgo_imp hS m h
def zar (l : List zV) (i : Nat) : Int := match l[i]? with
  | some v => v.2
  | none => 0
def zis0 (x : Int) : Bool := match x with
  | .ofNat n => Nat.beq n 0
  | _ => false
theorem zis0_e {x : Int} (h : zis0 x = true) : x = 0 := by
  cases x with
  | ofNat n => rw [Nat.eq_of_beq_eq_true h]; rfl
  | negSucc n => cases h
def zsh : List zV → List Nat → Bool
  | [], [] => true
  | v :: l, t :: T => Nat.beq v.1 t && (cond (Nat.beq t 9) (zis0 v.2) true && zsh l T)
  | _, _ => false
def zmkA (l : List zV) : Nat → List Nat → List zV
  | _, [] => []
  | i, t :: T => (t, cond (Nat.beq t 9) 0 (zar l i)) :: zmkA l (i + 1) T
theorem zsh_e0 (l : List zV) : ∀ (T : List Nat) (i : Nat), zsh (l.drop i) T = true → l.drop i = zmkA l i T
  | [], i, h => by
    cases hd : l.drop i with
    | nil => rfl
    | cons v r => rw [hd] at h; cases h
  | t :: T, i, h => by
    cases hd : l.drop i with
    | nil => rw [hd] at h; cases h
    | cons v r =>
      rw [hd] at h
      have h : (Nat.beq v.1 t && (cond (Nat.beq t 9) (zis0 v.2) true && zsh r T)) = true := h
      simp only [Bool.and_eq_true] at h
      obtain ⟨h1, h2, h3⟩ := h
      have hr : r = l.drop (i + 1) := by rw [← List.drop_drop, hd]; rfl
      have ha : l[i]? = some v := by
        have := List.getElem?_drop (xs := l) (i := i) (j := 0)
        rw [hd] at this
        simpa using this.symm
      rw [hr] at h3
      have ih := zsh_e0 l T (i + 1) h3
      show v :: r = (t, cond (Nat.beq t 9) 0 (zar l i)) :: zmkA l (i + 1) T
      rw [hr, ih]
      congr 1
      refine Prod.ext (Nat.eq_of_beq_eq_true h1) ?_
      cases h9 : Nat.beq t 9 with
      | true => rw [h9] at h2; exact zis0_e h2
      | false => unfold zar; rw [ha]; rfl
theorem zsh_e {l : List zV} {T : List Nat} (h : zsh l T = true) : l = zmkA l 0 T := zsh_e0 l T 0 h
theorem zifI {c : Prop} [Decidable c] {a : Prop} (h : c) (k : a) : zif False c a := by unfold zif; rw [if_pos h]; exact k
/-- a method with a summary, at the usual time -/
def zsm1 (k : Nat) (T : List Nat) (f : List zV → zW → zK → Prop) (S : zSum) : zSum := fun y l0 w t K => cond (Nat.beq y k) (cond (zsh l0 T && Nat.beq t 238) (f l0 w K) (zcall y l0 w t K)) (S y l0 w t K)
theorem zsm1_ok {k : Nat} {T : List Nat} {f : List zV → zW → zK → Prop} {S : zSum} (hS : zSok S) (hf : ∀ (l0 : List zV) (w : zW) (K : zK), f l0 w K → zcall k (zmkA l0 0 T) w 238 K) : zSok (zsm1 k T f S) := by
  intro y l0 w t K h
  unfold zsm1 at h
  cases hb : Nat.beq y k with
  | false => rw [hb] at h; exact hS y l0 w t K h
  | true =>
    rw [hb, cond_true] at h
    have e := Nat.eq_of_beq_eq_true hb
    subst e
    cases hs : (zsh l0 T && Nat.beq t 238) with
    | false => rw [hs] at h; exact h
    | true =>
      rw [hs, cond_true] at h
      simp only [Bool.and_eq_true] at hs
      rw [zsh_e hs.1, Nat.eq_of_beq_eq_true hs.2]
      exact hf l0 w K h
/-- a method whose steps stand for it -/
def zin1 (k m : Nat) (S : zSum) : zSum := fun y l0 w t K => cond (Nat.beq y k) (zinl S m y l0 w t K) (S y l0 w t K)
theorem zin1_ok {k m : Nat} {S : zSum} (hS : zSok S) : zSok (zin1 k m S) := by
  intro y l0 w t K h
  unfold zin1 at h
  cases hb : Nat.beq y k with
  | false => rw [hb] at h; exact hS y l0 w t K h
  | true => rw [hb] at h; exact zinl_ok hS m y l0 w t K h
