/-! ===== what a state of the machine in small says of the heap ===== -/
/-- D, array classes, constants' addresses, the first cell of ours, the script: its cell, length, ints; the texts' cells -/
abbrev zE : Type := va_G × (Nat → ClassId) × (Nat → Nat) × Nat × Nat × Nat × (Nat → Int32) × (String → Nat → Nat)
abbrev zED (E : zE) : va_G := E.1
abbrev zEc (E : zE) : Nat → ClassId := E.2.1
abbrev zEa (E : zE) : Nat → Nat := E.2.2.1
abbrev zE0 (E : zE) : Nat := E.2.2.2.1
abbrev zEb (E : zE) : Nat := E.2.2.2.2.1
abbrev zEL (E : zE) : Nat := E.2.2.2.2.2.1
abbrev zEx (E : zE) : Nat → Int32 := E.2.2.2.2.2.2.1
abbrev zEs (E : zE) : String → Nat → Nat := E.2.2.2.2.2.2.2
abbrev zAf (E : zE) : Nat → Prop := fun q => zE0 E ≤ q
def zv (ra : Nat → Nat) (v : zV) : Value :=
  cond (Nat.beq v.1 0) (.int (Int32.ofInt v.2)) (cond (Nat.beq v.1 1) (.long (Int64.ofInt v.2)) (cond (Nat.beq v.1 2) (.ref (ra v.2.toNat)) .null))
def zpl (t : Nat) (x : Int) : Prop := 0 ≤ x ∧ (x.toNat < znx t ∨ (1000 ≤ x ∧ x < 1015) ∨ x = 2000 ∨ x = 2001 ∨ x = 2002)
def zvok (t : Nat) (v : zV) : Prop := (v.1 = 0 → zr32 v.2) ∧ (v.1 = 1 → zr64 v.2) ∧ (v.1 = 2 → zpl t v.2)
def zfv (ra : Nat → Nat) (t p ci j : Nat) (x : Int) : Value :=
  cond (Nat.beq (zft ci j) 1) (.long (Int64.ofInt x))
  (cond (Nat.beq (zft ci j) 2) (zcase (zptr p j) (fun q => cond (Nat.blt q.2 t) (.ref (ra q.1)) .null) .null)
  (cond (Nat.beq (zft ci j) 3) (if x < 0 then .null else .ref (ra x.toNat)) (.int (Int32.ofInt x))))
def zcel (E : zE) (ra : Nat → Nat) (t p : Nat) (f : Nat → Int) : va_E :=
  zcase (zlay p) (fun a => cond (Nat.beq a.1 0) (.inr (a.2, (List.range (zN a.2)).map fun j => zfv ra t p a.2 j (f j)))
    (cond (Nat.beq a.1 2) (.inl (zEc E 2, a.2, .inr (.inl fun j => Int64.ofInt (f j))))
    (cond (Nat.beq a.1 5) (.inl (zEc E 5, a.2, .inr (.inr (.inr (.inr fun j => if f j < 0 then none else some (ra (f j).toNat))))))
    (cond (Nat.beq a.1 6) (.inl (zEc E 6, a.2, .inr (.inr (.inr (.inr fun j => zcase (zptr p j) (fun q => cond (Nat.blt q.2 t) (some (ra q.1)) none) none)))))
    (.inl (zEc E a.1, a.2, .inl fun j => Int32.ofInt (f j))))))) (.inr (0, []))
def zws (E : zE) (ra : Nat → Nat) (t : Nat) (w : zW) : va_W := (List.range (znx t)).map fun p => (ra p, zcel E ra t p (w p))
def zsk (p j : Nat) : Nat := zcase (zlay p) (fun a => cond (Nat.beq a.1 0) (zft a.2 j) (cond (Nat.beq a.1 3) 8 (cond (Nat.beq a.1 4) 4 (cond (Nat.beq a.1 5) 3 (cond (Nat.beq a.1 6) 2 (a.1 - 1)))))) 0
def zrg (g : Nat) (x : Int) : Prop := (g = 0 → zr32 x) ∧ (g = 1 → zr64 x) ∧ (g = 3 → x = -1 ∨ (1000 ≤ x ∧ x < 1015)) ∧ (g = 4 → 0 ≤ x ∧ x < 2) ∧ (g = 8 → -128 ≤ x ∧ x < 128)
def zok (t : Nat) (w : zW) : Prop := ∀ p, p < znx t → ∀ j, zrg (zsk p j) (w p j)
def zSt (E : zE) (ra : Nat → Nat) (t : Nat) (w : zW) (H : Heap) : Prop :=
  va_P (zED E) vwCl (zws E ra t w) H ∧ va_D (zAf E) (zws E ra t w) ∧ zok t w ∧ w 2003 0 = (zEL E : Int) ∧ ∀ j, j < zEL E → w 2002 j = (zEx E j).toInt
/-- the places of what is there from the start -/
def zra (E : zE) (ra : Nat → Nat) : Prop := (∀ i, i < 15 → ra (1000 + i) = zEa E i) ∧ ra 2000 = zEa E 100 ∧ ra 2001 = zEa E 101 ∧ ra 2002 = zEb E
def zxt (ra0 ra : Nat → Nat) (t : Nat) : Prop := ∀ p, p < znx t → ra p = ra0 p
def ztys (cA : Nat → ClassId) : List (ClassId × FieldType) := [(cA 1, .int), (cA 2, .long), (cA 3, .byte), (cA 4, .boolean), (cA 5, .object "CirclePacker$Word"), (cA 6, .object "CirclePacker$Packing")]
def zwn (i : Nat) : String := ["NOT_A_WORD", "NAME", "CIRCLE", "RADIUS", "ANGLE", "FACE", "SCALE", "SOLVE", "SWEEP", "SET", "LAY", "TURN", "CALM", "REPEAT", "END_OF_REPEAT"].getD i ""
def zwfo (f : Nat) : String := cond (Nat.beq f 0) "java/lang/Enum" "CirclePacker$Word"
def zwfn (f : Nat) : String := ["ordinal", "letters", "least", "most"].getD f ""
def zwfd (f : Nat) : String := cond (Nat.beq f 1) "J" "I"
def zwfv (f i : Nat) : Value := cond (Nat.beq f 1) (.long (Int64.ofInt (zwf f i))) (.int (Int32.ofInt (zwf f i)))
/-- the constants of Word, the array of all, the table of the switch -/
def zAE (E : zE) (U : State) (H : Heap) : Prop :=
  (∀ i, i < 15 → va_Z "CirclePacker$Word" (zwn i) "LCirclePacker$Word;" (.ref (zEa E i)) (zAf E) U H ∧ va_O "CirclePacker$Word" (zEa E i) (zAf E) U H) ∧ (∀ f, f < 4 → ∀ i, i < 15 → va_OF (zwfo f) (zwfn f) (zwfd f) (zwfv f i) (zEa E i) (zAf E) U H) ∧ (∀ i j, i < 15 → j < 15 → zEa E i = zEa E j → i = j) ∧
  va_Z "CirclePacker$Word" "ALL" "[LCirclePacker$Word;" (.ref (zEa E 100)) (zAf E) U H ∧ va_T (.object "CirclePacker$Word") (zEa E 100) 15 (fun j => .ref (zEa E j)) (zAf E) U H ∧
  va_Z "CirclePacker$1" "$SwitchMap$CirclePacker$Word" "[I" (.ref (zEa E 101)) (zAf E) U H ∧ va_T .int (zEa E 101) 15 (fun j => .int (Int32.ofInt (zsm j))) (zAf E) U H
def zEX (e : Nat) : String := ["java/lang/IllegalStateException", "java/lang/IllegalArgumentException", "java/lang/IndexOutOfBoundsException"].getD e ""
def znestW : List Cond := tables_1.filter fun w => match w with
  | .fieldLinkNest .. => true
  | .methodLinkNest .. => true
  | _ => false
/-- words that the tables alone decide and that stay -/
def zoddW : List Cond := lw_tbl.filter fun w => w.onTables && w.keepsFace
theorem zface {w : Cond} (hf : w.keepsFace = true) (ho : w.onTables = true) {s U : State} (hW : s.WarmedH U.vm) (h : va_Nw w s) : va_Nw w U := va_tabs ho (rfl : (s.setVm U.vm).vm = U.vm) (Cond.before_shiftedFace (State.Shifted.of_warmed hW) w hf h)
theorem zoddW_m {w : Cond} (h : w ∈ zoddW) : w.onTables = true ∧ w.keepsFace = true := by
  have h2 := (List.mem_filter.mp h).2
  simp only [Bool.and_eq_true] at h2
  exact h2
/-- what a throw needs, the links of the nest -/
def zAX (E : zE) (U : State) (H : Heap) : Prop :=
  vx_Zq Bundle.tN "UNASSIGNED_STACK" Bundle.steD (zAf E) U H ∧ vx_Zq Bundle.tN "SUPPRESSED_SENTINEL" Bundle.listD (zAf E) U H ∧
  (∀ own i tx, Cond.stringRef own i tx ∈ tables_1 → vk_R own i tx (zEs E own i) U) ∧ (∀ e e', e < 3 → e' < 3 → e ≠ e' → va_Nc (zEX e) (zEX e') U) ∧ (∀ w ∈ znestW, va_Nw w U) ∧ (∀ w ∈ zoddW, va_Nw w U) ∧ va_AO "CirclePacker$Word" U ∧ va_AO "CirclePacker$Packing" U
def zAmb (E : zE) (U : State) (H : Heap) : Prop :=
  va_K (zED E) vwCl (ztys (zEc E)) U ∧ (va_X (zEb E) (zEL E) (zEx E) U H ∧ zEb E < zE0 E ∧ zE0 E ≤ H.size ∧ zEL E ≤ 3072) ∧ zAE E U H ∧ zAX E U H
theorem zAmb.go {E : zE} {s U : State} {H H1 : Heap} (hW : s.WarmedH U.vm) (hz : H.size ≤ H1.size) (hq : ∀ a : Nat, a < H.size → ¬ zAf E a → H1[a]? = H[a]?) (h : zAmb E s H) : zAmb E U H1 := by
  obtain ⟨h1, ⟨h2, h3, h4, h5⟩, ⟨e1, e2, e3, e4, e5, e6, e7⟩, x1, x2, x3, x4, x5, x6, x7, x8⟩ := h
  have hb : zEb E < H.size := Nat.lt_of_lt_of_le h3 h4
  refine ⟨h1.moved hW.alike, ⟨(h2.moved hW.alike).kept (hq _ hb (Nat.not_le.mpr h3)), h3, Nat.le_trans h4 hz, h5⟩,
    ⟨fun i hi => ⟨(va_Z.moved hW.alike (e1 i hi).1).kept hq, (va_O.moved hW.alike (e1 i hi).2).kept hq⟩, fun f hf i hi => (va_OF.moved hW.alike (e2 f hf i hi)).kept hq, e3, (va_Z.moved hW.alike e4).kept hq, (va_T.moved hW.alike e5).kept hq, (va_Z.moved hW.alike e6).kept hq, (va_T.moved hW.alike e7).kept hq⟩,
    (vx_Zq.moved hW.alike x1).kept hq, (vx_Zq.moved hW.alike x2).kept hq, fun own i tx hm => (x3 own i tx hm).warm hW, fun e e' he he' hne => (x4 e e' he he' hne).moved hW.alike, fun w hw => ?_, fun w hw => zface (zoddW_m hw).2 (zoddW_m hw).1 hW (x6 w hw), x7.moved hW.alike, x8.moved hW.alike⟩
  have hm := (List.mem_filter.mp hw).2
  cases w with
  | fieldLinkNest a i b n d h => exact (x5 _ hw).warmF hW
  | methodLinkNest a i x h => exact (x5 _ hw).warmM hW
  | _ => cases hm
/-! locals -/
def zlv (ra : Nat → Nat) (ls : List zV) : List (Nat × Value) := (List.range ls.length).filterMap fun i => zcase ls[i]? (fun v => cond (Nat.blt v.1 4) (some (i, zv ra v)) none) none
theorem zlv_mem {ra : Nat → Nat} {ls : List zV} {q : Nat × Value} : q ∈ zlv ra ls ↔ ∃ v, ls[q.1]? = some v ∧ v.1 < 4 ∧ q.2 = zv ra v := by
  constructor
  · intro h
    obtain ⟨i, hi, he⟩ := List.mem_filterMap.mp h
    cases hv : ls[i]? with
    | none => rw [hv] at he; cases he
    | some v =>
      rw [hv] at he
      change cond (Nat.blt v.1 4) (some (i, zv ra v)) none = some q at he
      cases hb : Nat.blt v.1 4 with
      | false => rw [hb] at he; cases he
      | true =>
        rw [hb] at he
        cases he
        exact ⟨v, hv, Nat.blt_eq.mp hb, rfl⟩
  · rintro ⟨v, h1, h2, h3⟩
    refine List.mem_filterMap.mpr ⟨q.1, List.mem_range.mpr (List.getElem?_eq_some_iff.mp h1).1, ?_⟩
    rw [h1]
    change cond (Nat.blt v.1 4) (some (q.1, zv ra v)) none = some q
    rw [Nat.blt_eq.mpr h2]
    change some (q.1, zv ra v) = some q
    rw [← h3]
def zLs (ra : Nat → Nat) (ls : List zV) (lsA : Array Slot) (n : Nat) : Prop := ls.length = n ∧ lv_has lsA n (zlv ra ls)
theorem zLs.at {ra : Nat → Nat} {ls : List zV} {lsA : Array Slot} {n i : Nat} {v : zV} (h : zLs ra ls lsA n) (hi : ls[i]? = some v) (hv : v.1 < 4) : lsA[i]? = some (.val (zv ra v)) :=
  h.2.2.2 (i, zv ra v) (zlv_mem.mpr ⟨v, hi, hv, rfl⟩)
theorem zv_cat (ra : Nat → Nat) (v : zV) : (zv ra v).category = cond (Nat.beq v.1 1) 2 1 := by
  unfold zv
  cases h0 : Nat.beq v.1 0 with
  | true =>
    have : v.1 = 0 := Nat.eq_of_beq_eq_true h0
    rw [this]; rfl
  | false =>
    cases h1 : Nat.beq v.1 1 with
    | true => rfl
    | false => cases h2 : Nat.beq v.1 2 <;> rfl
theorem zkill_len (ls : List zV) (i : Nat) : (zkill ls i).length = ls.length := by
  unfold zkill
  split
  · rfl
  · split
    · cases Nat.beq _ 1 <;> simp
    · rfl
theorem zkill_at {ls : List zV} {i j : Nat} {u : zV} (hj : j ≠ i) (h : (zkill ls i)[j]? = some u) (hu : u.1 < 4) : ls[j]? = some u ∧ ¬ (j + 1 = i ∧ u.1 = 1) := by
  cases i with
  | zero => exact ⟨h, fun q => by omega⟩
  | succ i =>
    unfold zkill at h
    dsimp only at h
    cases hv : ls[i]? with
    | none =>
      rw [hv] at h
      refine ⟨h, fun q => ?_⟩
      have : j = i := by omega
      subst this
      rw [hv] at h
      cases h
    | some v =>
      rw [hv] at h
      dsimp only at h
      cases hb : Nat.beq v.1 1 with
      | false =>
        rw [hb] at h
        refine ⟨h, fun q => ?_⟩
        have : j = i := by omega
        subst this
        have h' : ls[j]? = some u := h
        rw [hv] at h'
        cases h'
        rw [q.2] at hb
        cases hb
      | true =>
        rw [hb] at h
        have h : (ls.set i (9, 0))[j]? = some u := h
        by_cases e : j = i
        · subst e
          rw [List.getElem?_set_self (List.getElem?_eq_some_iff.mp hv).1] at h
          cases h
          exact absurd hu (by decide)
        · rw [List.getElem?_set_ne (Ne.symm e)] at h
          exact ⟨h, fun q => e (by omega)⟩
theorem zLs.st1 {ra : Nat → Nat} {ls : List zV} {lsA : Array Slot} {n i : Nat} {v : zV} (h : zLs ra ls lsA n) {lsB : Array Slot}
    (hB : lv_has lsB n ((i, zv ra v) :: (zlv ra ls).filter (fun q => !(q.1 == i) && !(q.1 + 1 == i && q.2.category == 2)))) : zLs ra (zst1 ls i v) lsB n := by
  refine ⟨by unfold zst1; rw [List.length_set, zkill_len]; exact h.1, hB.1, hB.2.1, fun q hq => hB.2.2 q ?_⟩
  obtain ⟨u, h1, h2, h3⟩ := zlv_mem.mp hq
  unfold zst1 at h1
  by_cases hj : q.1 = i
  · rw [hj] at h1
    have hl : i < (zkill ls i).length := by
      have := (List.getElem?_eq_some_iff.mp h1).1
      rwa [List.length_set] at this
    rw [List.getElem?_set_self hl] at h1
    cases h1
    have : q = (i, zv ra v) := by rw [← hj, ← h3]
    rw [this]
    exact List.mem_cons_self
  · rw [List.getElem?_set_ne (Ne.symm hj)] at h1
    obtain ⟨g1, g2⟩ := zkill_at hj h1 h2
    refine List.mem_cons_of_mem _ (List.mem_filter.mpr ⟨zlv_mem.mpr ⟨u, g1, h2, h3⟩, ?_⟩)
    rw [h3, zv_cat]
    cases hu : Nat.beq u.1 1 with
    | false => simp [hj]
    | true =>
      have hu1 : u.1 = 1 := Nat.eq_of_beq_eq_true hu
      have : q.1 + 1 ≠ i := fun e => g2 ⟨e, hu1⟩
      simp [hj, this]
theorem zLs.st2 {ra : Nat → Nat} {ls : List zV} {lsA : Array Slot} {n i : Nat} {v : zV} (h : zLs ra ls lsA n) {lsB : Array Slot}
    (hB : lv_has lsB n ((i, zv ra v) :: (zlv ra ls).filter (fun q => !(q.1 == i) && (!(q.1 == i + 1) && !(q.1 + 1 == i && q.2.category == 2))))) : zLs ra (zst2 ls i v) lsB n := by
  refine ⟨by unfold zst2; rw [List.length_set, List.length_set, zkill_len]; exact h.1, hB.1, hB.2.1, fun q hq => hB.2.2 q ?_⟩
  obtain ⟨u, h1, h2, h3⟩ := zlv_mem.mp hq
  unfold zst2 at h1
  by_cases hk : q.1 = i + 1
  · rw [hk] at h1
    have hl := (List.getElem?_eq_some_iff.mp h1).1
    rw [List.length_set] at hl
    rw [List.getElem?_set_self hl] at h1
    cases h1
    exact absurd h2 (by decide)
  · rw [List.getElem?_set_ne (Ne.symm hk)] at h1
    by_cases hj : q.1 = i
    · rw [hj] at h1
      have hl : i < (zkill ls i).length := by
        have := (List.getElem?_eq_some_iff.mp h1).1
        rwa [List.length_set] at this
      rw [List.getElem?_set_self hl] at h1
      cases h1
      have : q = (i, zv ra v) := by rw [← hj, ← h3]
      rw [this]
      exact List.mem_cons_self
    · rw [List.getElem?_set_ne (Ne.symm hj)] at h1
      obtain ⟨g1, g2⟩ := zkill_at hj h1 h2
      refine List.mem_cons_of_mem _ (List.mem_filter.mpr ⟨zlv_mem.mpr ⟨u, g1, h2, h3⟩, ?_⟩)
      rw [h3, zv_cat]
      cases hu : Nat.beq u.1 1 with
      | false => simp [hj, hk]
      | true =>
        have hu1 : u.1 = 1 := Nat.eq_of_beq_eq_true hu
        have : q.1 + 1 ≠ i := fun e => g2 ⟨e, hu1⟩
        simp [hj, hk, this]
theorem zLs.fewer {ra : Nat → Nat} {ls ls' : List zV} {lsA : Array Slot} {n : Nat} (h : zLs ra ls lsA n) (hl : ls'.length = ls.length) (hs : ∀ (i : Nat) (v : zV), ls'[i]? = some v → v.1 < 4 → ls[i]? = some v) : zLs ra ls' lsA n :=
  ⟨hl.trans h.1, h.2.1, h.2.2.1, fun q hq => by
    obtain ⟨v, h1, h2, h3⟩ := zlv_mem.mp hq
    exact h.2.2.2 q (zlv_mem.mpr ⟨v, hs _ _ h1 h2, h2, h3⟩)⟩
