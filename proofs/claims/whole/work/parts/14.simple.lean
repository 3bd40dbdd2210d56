theorem zi_rem2 {x y : Int} (hx : zr32 x) (hy : zr32 y) : Int32.ofInt (z32 (Int.tmod x y)) = Int32.ofInt x - Int32.ofInt x / Int32.ofInt y * Int32.ofInt y := by
  rw [zi_z, Int.tmod_def, Int32.ofInt_sub, Int32.ofInt_mul, ← zi_z (Int.tdiv x y), zi_div hx hy, Int32.mul_comm]
theorem zl_rem2 {x y : Int} (hx : zr64 x) (hy : zr64 y) : Int64.ofInt (z64 (Int.tmod x y)) = Int64.ofInt x - Int64.ofInt x / Int64.ofInt y * Int64.ofInt y := by
  rw [zl_z, Int.tmod_def, Int64.ofInt_sub, Int64.ofInt_mul, ← zl_z (Int.tdiv x y), zl_div hx hy, Int64.mul_comm]
/-! ===== what the steps of the machine in small say of the machine: the simple ones (written by wip/whole/gen14.py) ===== -/
def zroom (k : Nat) : Room := { frames := zht k, cells := zmc k, slots := 12 * zmc k, locals := zlo k }
def zQc (E : zE) (ra0 : Nat → Nat) (t0 : Nat) (o : zR × zW × Nat) : Array Value → State → Outcome → State → Prop := fun _ st oc tt =>
  o.1.1 = 0 ∧ ∃ ra, zxt ra0 ra t0 ∧ znx t0 ≤ znx o.2.2 ∧ zra E ra ∧ oc = .returned (o.1.2.map (zv ra)) ∧ (∀ v, o.1.2 = some v → zvok o.2.2 v) ∧ zSt E ra o.2.2 o.2.1 tt.heap ∧ va_F (zAf E) st tt
def zXC (E : zE) (ra0 : Nat → Nat) (t0 : Nat) (o : zR × zW × Nat) : String → State → State → Prop := fun X st tt =>
  ∃ e ra, o.1 = (e + 1, none) ∧ X = zEX e ∧ e < 3 ∧ zxt ra0 ra t0 ∧ znx t0 ≤ znx o.2.2 ∧ zra E ra ∧ zSt E ra o.2.2 o.2.1 tt.heap ∧ va_F (zAf E) st tt
def zCx (E : zE) (k : Nat) (p : Program) (l : Launch) (s : State) (m : MethodId) (args : Array Value) (meth : Method) (cde : Code) : Prop :=
  p.tables.exec = Jvm.exec ∧ cde.code = zby k ∧ cde.maxLocals = zmL k ∧ s.vm.findClass (zcn (zown k)) = some m.cls ∧ (∀ w ∈ zW0, w.before args s = true) ∧ meth.sig.returnType = zret k ∧ meth.locks = false ∧
  cde.exceptionTable.toList = tableOf (zexT k) ∧ (zini k = true → meth.name = "<init>") ∧ zAmb E s s.heap ∧ l.stackTraces = false
def zRel (E : zE) (k : Nat) (s : State) (ra0 : Nat → Nat) (t0 : Nat) (ra : Nat → Nat) (ls st : List zV) (w : zW) (t c : Nat) (lsA : Array Slot) (H : Heap) (locs : List Loc) (cells slots : Nat) : Prop :=
  zLs ra ls lsA (zmL k) ∧ (∀ (i : Nat) (v : zV), ls[i]? = some v → zvok t v) ∧ (∀ v ∈ st, zvok t v) ∧ zSt E ra t w H ∧ va_S (zAf E) s.heap H locs ∧ zra E ra ∧ zxt ra0 ra t0 ∧ znx t0 ≤ znx t ∧ cells + c ≤ zmc k ∧ slots + 12 * c ≤ 12 * zmc k
/-- the machine, standing where the small one stands, comes to the end o -/
def zSim (E : zE) (k : Nat) (p : Program) (l : Launch) (e : Env) (s : State) (m : MethodId) (args : Array Value) (below : List Frame) (meth : Method) (cde : Code) (ra0 : Nat → Nat) (t0 : Nat) (o : zR × zW × Nat)
    (pc : Nat) (ls st : List zV) (w : zW) (t c : Nat) : Prop :=
  ∀ (ra : Nat → Nat) (lsA : Array Slot) (H : Heap) (locs : List Loc) (cells slots : Nat), zRel E k s ra0 t0 ra ls st w t c lsA H locs cells slots →
    W p l e (zroom k) s m args below meth cde H locs cells slots (vx_MQ below (zQc E ra0 t0 o) (zXC E ra0 t0 o) args s (zmc k) (12 * zmc k) (zAf E)) (F0 m pc lsA (st.map (zv ra)))
theorem zRel.stk {E : zE} {k : Nat} {s : State} {ra0 : Nat → Nat} {t0 : Nat} {ra : Nat → Nat} {ls st st' : List zV} {w : zW} {t c : Nat} {lsA : Array Slot} {H : Heap} {locs : List Loc} {cells slots : Nat}
    (h : zRel E k s ra0 t0 ra ls st w t c lsA H locs cells slots) (hs : ∀ v ∈ st', zvok t v) : zRel E k s ra0 t0 ra ls st' w t c lsA H locs cells slots := ⟨h.1, h.2.1, hs, h.2.2.2⟩
theorem zall1 {t : Nat} {v : zV} {st : List zV} (hv : zvok t v) (h : ∀ u ∈ st, zvok t u) : ∀ u ∈ v :: st, zvok t u := fun u hu => (List.mem_cons.mp hu).elim (fun e => e ▸ hv) (h u)
theorem zne {a b : Nat} {α : Prop} (h : a = b) (hn : Nat.beq a b = false) : α := by rw [h, Nat.beq_refl] at hn; cases hn
theorem zok0 {t : Nat} {x : Int} (h : zr32 x) : zvok t (0, x) := ⟨fun _ => h, fun q => zne q rfl, fun q => zne q rfl⟩
theorem zok1 {t : Nat} {x : Int} (h : zr64 x) : zvok t (1, x) := ⟨fun q => zne q rfl, fun _ => h, fun q => zne q rfl⟩
theorem zok2 {t : Nat} {x : Int} (h : zpl t x) : zvok t (2, x) := ⟨fun q => zne q rfl, fun q => zne q rfl, fun _ => h⟩
theorem zok3 {t : Nat} {x : Int} : zvok t (3, x) := ⟨fun q => zne q rfl, fun q => zne q rfl, fun q => zne q rfl⟩
theorem zok9 {t : Nat} {x : Int} : zvok t (9, x) := ⟨fun q => zne q rfl, fun q => zne q rfl, fun q => zne q rfl⟩
/-! what a test that holds says -/
theorem zp1_e {st : List zV} {g : Nat} {f : Int → List zV → Prop} (h : zp1 False st g f) : ∃ x r, st = (g, x) :: r ∧ f x r := by
  cases st with
  | nil => exact h.elim
  | cons v r =>
    change cond (Nat.beq v.1 g) (f v.2 r) False at h
    cases hb : Nat.beq v.1 g with
    | false => rw [hb] at h; exact h.elim
    | true =>
      rw [hb] at h
      exact ⟨v.2, r, by rw [← Nat.eq_of_beq_eq_true hb], h⟩
theorem zgt_e {ls : List zV} {i g : Nat} {f : Int → Prop} (h : zgt False ls i g f) : ∃ x, ls[i]? = some (g, x) ∧ f x := by
  unfold zgt at h
  cases hv : ls[i]? with
  | none => rw [hv] at h; exact h.elim
  | some v =>
    rw [hv] at h
    change cond (Nat.beq v.1 g) (f v.2) False at h
    cases hb : Nat.beq v.1 g with
    | false => rw [hb] at h; exact h.elim
    | true =>
      rw [hb] at h
      exact ⟨v.2, by rw [← Nat.eq_of_beq_eq_true hb], h⟩
theorem zga_e {ls : List zV} {i : Nat} {f : zV → Prop} (h : zga False ls i f) : ∃ v, ls[i]? = some v ∧ (v.1 = 2 ∨ v.1 = 3) ∧ f v := by
  unfold zga at h
  cases hv : ls[i]? with
  | none => rw [hv] at h; exact h.elim
  | some v =>
    rw [hv] at h
    change cond (Nat.beq v.1 2) (f v) (cond (Nat.beq v.1 3) (f v) False) at h
    cases hb : Nat.beq v.1 2 with
    | true => rw [hb] at h; exact ⟨v, rfl, Or.inl (Nat.eq_of_beq_eq_true hb), h⟩
    | false =>
      rw [hb] at h
      cases hc : Nat.beq v.1 3 with
      | true => rw [hc] at h; exact ⟨v, rfl, Or.inr (Nat.eq_of_beq_eq_true hc), h⟩
      | false => rw [hc] at h; exact h.elim
theorem zpr_e {st : List zV} {f : zV → List zV → Prop} (h : zpr False st f) : ∃ v r, st = v :: r ∧ (v.1 = 2 ∨ v.1 = 3) ∧ f v r := by
  cases st with
  | nil => exact h.elim
  | cons v r =>
    change cond (Nat.beq v.1 2) (f v r) (cond (Nat.beq v.1 3) (f v r) False) at h
    cases hb : Nat.beq v.1 2 with
    | true => rw [hb] at h; exact ⟨v, r, rfl, Or.inl (Nat.eq_of_beq_eq_true hb), h⟩
    | false =>
      rw [hb] at h
      cases hc : Nat.beq v.1 3 with
      | true => rw [hc] at h; exact ⟨v, r, rfl, Or.inr (Nat.eq_of_beq_eq_true hc), h⟩
      | false => rw [hc] at h; exact h.elim
theorem zpv_e {st : List zV} {f : zV → List zV → Prop} (h : zpv False st f) : ∃ v r, st = v :: r ∧ f v r := by
  cases st with
  | nil => exact h.elim
  | cons v r => exact ⟨v, r, rfl, h⟩
theorem zemp_e {st : List zV} {a : Prop} (h : zemp False st a) : st = [] ∧ a := by
  cases st with
  | nil => exact ⟨rfl, h⟩
  | cons v r => exact h.elim
theorem zopt_e {β : Type} {x : Option β} {f : β → Prop} (h : zopt False x f) : ∃ b, x = some b ∧ f b := by
  cases x with
  | none => exact h.elim
  | some b => exact ⟨b, rfl, h⟩
theorem zif_e {c : Prop} [Decidable c] {a : Prop} (h : zif False c a) : c ∧ a := by
  unfold zif at h
  by_cases hc : c
  · rw [if_pos hc] at h; exact ⟨hc, h⟩
  · rw [if_neg hc] at h; exact h.elim
theorem zc_e {x : Bool} {a : Prop} (h : cond x a False) : x = true ∧ a := by
  cases x with
  | false => exact h.elim
  | true => exact ⟨rfl, h⟩
theorem zcx_e {x : Bool} {a : Prop} (h : cond x False a) : x = false ∧ a := by
  cases x with
  | true => exact h.elim
  | false => exact ⟨rfl, h⟩
theorem zlocs_set {t : Nat} {ls : List zV} {i : Nat} {v : zV} (h : ∀ (j : Nat) (u : zV), ls[j]? = some u → zvok t u) (hv : zvok t v) : ∀ (j : Nat) (u : zV), (ls.set i v)[j]? = some u → zvok t u := by
  intro j u hu
  rw [List.getElem?_set] at hu
  split at hu
  · split at hu
    · cases hu; exact hv
    · cases hu
  · exact h j u hu
theorem zlocs_kill {t : Nat} {ls : List zV} {i : Nat} (h : ∀ (j : Nat) (u : zV), ls[j]? = some u → zvok t u) : ∀ (j : Nat) (u : zV), (zkill ls i)[j]? = some u → zvok t u := by
  cases i with
  | zero => exact h
  | succ i =>
    unfold zkill
    dsimp only
    split
    · cases Nat.beq _ 1 with
      | false => exact h
      | true => exact zlocs_set h zok9
    · exact h
theorem zlocs_st1 {t : Nat} {ls : List zV} {i : Nat} {v : zV} (h : ∀ (j : Nat) (u : zV), ls[j]? = some u → zvok t u) (hv : zvok t v) : ∀ (j : Nat) (u : zV), (zst1 ls i v)[j]? = some u → zvok t u := zlocs_set (zlocs_kill h) hv
theorem zlocs_st2 {t : Nat} {ls : List zV} {i : Nat} {v : zV} (h : ∀ (j : Nat) (u : zV), ls[j]? = some u → zvok t u) (hv : zvok t v) : ∀ (j : Nat) (u : zV), (zst2 ls i v)[j]? = some u → zvok t u := zlocs_set (zlocs_set (zlocs_kill h) hv) zok9
section ZSIM
variable {E : zE} {k : Nat} {p : Program} {l : Launch} {e : Env} {s : State} {m : MethodId} {args : Array Value} {below : List Frame} {meth : Method} {cde : Code} {ra0 : Nat → Nat} {t0 : Nat} {o : zR × zW × Nat} {pc : Nat} {ls st : List zV} {w : zW} {t c : Nat}
theorem zs_iload (C : zCx E k p l s m args meth cde) {i : Nat} {x : Int} (hd : decode (zby k) pc = .ok (.iload i, 2)) (hl : ls[i]? = some (0, x)) (h : zSim E k p l e s m args below meth cde ra0 t0 o (pc + 2) ls ((0, x) :: st) w t c) : zSim E k p l e s m args below meth cde ra0 t0 o pc ls st w t c := by
  intro ra lsA H locs cells slots hR
  refine lv_iload C.1 C.2.1 hd (hR.1.at hl (by decide : 0 < 4)) ?_
  exact h ra lsA H locs cells slots (hR.stk (zall1 (hR.2.1 _ _ hl) hR.2.2.1))
theorem zs_iload_n (C : zCx E k p l s m args meth cde) {i : Fin 4} {x : Int} (hd : decode (zby k) pc = .ok (.iload_n i, 1)) (hl : ls[i.val]? = some (0, x)) (h : zSim E k p l e s m args below meth cde ra0 t0 o (pc + 1) ls ((0, x) :: st) w t c) : zSim E k p l e s m args below meth cde ra0 t0 o pc ls st w t c := by
  intro ra lsA H locs cells slots hR
  refine lv_iload_n C.1 C.2.1 hd rfl (hR.1.at hl (by decide : 0 < 4)) ?_
  exact h ra lsA H locs cells slots (hR.stk (zall1 (hR.2.1 _ _ hl) hR.2.2.1))
theorem zs_lload (C : zCx E k p l s m args meth cde) {i : Nat} {x : Int} (hd : decode (zby k) pc = .ok (.lload i, 2)) (hl : ls[i]? = some (1, x)) (h : zSim E k p l e s m args below meth cde ra0 t0 o (pc + 2) ls ((1, x) :: st) w t c) : zSim E k p l e s m args below meth cde ra0 t0 o pc ls st w t c := by
  intro ra lsA H locs cells slots hR
  refine lv_lload C.1 C.2.1 hd (hR.1.at hl (by decide : 1 < 4)) ?_
  exact h ra lsA H locs cells slots (hR.stk (zall1 (hR.2.1 _ _ hl) hR.2.2.1))
theorem zs_lload_n (C : zCx E k p l s m args meth cde) {i : Fin 4} {x : Int} (hd : decode (zby k) pc = .ok (.lload_n i, 1)) (hl : ls[i.val]? = some (1, x)) (h : zSim E k p l e s m args below meth cde ra0 t0 o (pc + 1) ls ((1, x) :: st) w t c) : zSim E k p l e s m args below meth cde ra0 t0 o pc ls st w t c := by
  intro ra lsA H locs cells slots hR
  refine lv_lload_n C.1 C.2.1 hd rfl (hR.1.at hl (by decide : 1 < 4)) ?_
  exact h ra lsA H locs cells slots (hR.stk (zall1 (hR.2.1 _ _ hl) hR.2.2.1))
theorem zs_aload (C : zCx E k p l s m args meth cde) {i : Nat} {x : zV} (hd : decode (zby k) pc = .ok (.aload i, 2)) (hl : ls[i]? = some x) (hx : x.1 = 2 ∨ x.1 = 3) (h : zSim E k p l e s m args below meth cde ra0 t0 o (pc + 2) ls (x :: st) w t c) : zSim E k p l e s m args below meth cde ra0 t0 o pc ls st w t c := by
  intro ra lsA H locs cells slots hR
  obtain ⟨g, y⟩ := x
  have hok := hR.2.1 _ _ hl
  rcases hx with hx | hx
  · cases hx
    refine lv_aload C.1 C.2.1 hd (hR.1.at hl (by decide : 2 < 4)) ?_
    exact h ra lsA H locs cells slots (hR.stk (zall1 hok hR.2.2.1))
  · cases hx
    refine lv_aloadN C.1 C.2.1 hd (hR.1.at hl (by decide : 3 < 4)) ?_
    exact h ra lsA H locs cells slots (hR.stk (zall1 hok hR.2.2.1))
theorem zs_istore (C : zCx E k p l s m args meth cde) {i : Nat} {x : Int} (hd : decode (zby k) pc = .ok (.istore i, 2)) (hi : i < ls.length) (h : zSim E k p l e s m args below meth cde ra0 t0 o (pc + 2) (zst1 ls i (0, x)) st w t c) : zSim E k p l e s m args below meth cde ra0 t0 o pc ls ((0, x) :: st) w t c := by
  intro ra lsA H locs cells slots hR
  have hx := hR.2.2.1 _ List.mem_cons_self
  refine lv_istore C.1 C.2.1 hd hR.1.2 (by rw [hR.1.1] at hi; exact hi) rfl (fun lsB hB => ?_)
  exact h ra lsB H locs cells slots ⟨hR.1.st1 hB, zlocs_st1 hR.2.1 hx, fun v hv => hR.2.2.1 v (List.mem_cons_of_mem _ hv), hR.2.2.2⟩
theorem zs_lstore (C : zCx E k p l s m args meth cde) {i : Nat} {x : Int} (hd : decode (zby k) pc = .ok (.lstore i, 2)) (hi : i + 1 < ls.length) (h : zSim E k p l e s m args below meth cde ra0 t0 o (pc + 2) (zst2 ls i (1, x)) st w t c) : zSim E k p l e s m args below meth cde ra0 t0 o pc ls ((1, x) :: st) w t c := by
  intro ra lsA H locs cells slots hR
  have hx := hR.2.2.1 _ List.mem_cons_self
  refine lv_lstore C.1 C.2.1 hd hR.1.2 (by rw [hR.1.1] at hi; exact hi) rfl (fun lsB hB => ?_)
  exact h ra lsB H locs cells slots ⟨hR.1.st2 hB, zlocs_st2 hR.2.1 hx, fun v hv => hR.2.2.1 v (List.mem_cons_of_mem _ hv), hR.2.2.2⟩
theorem zs_astore (C : zCx E k p l s m args meth cde) {i : Nat} {x : zV} (hd : decode (zby k) pc = .ok (.astore i, 2)) (hx : x.1 = 2 ∨ x.1 = 3) (hi : i < ls.length) (h : zSim E k p l e s m args below meth cde ra0 t0 o (pc + 2) (zst1 ls i x) st w t c) : zSim E k p l e s m args below meth cde ra0 t0 o pc ls (x :: st) w t c := by
  intro ra lsA H locs cells slots hR
  have hok := hR.2.2.1 _ List.mem_cons_self
  obtain ⟨g, y⟩ := x
  rcases hx with hx | hx
  · cases hx
    refine lv_astore C.1 C.2.1 hd hR.1.2 (by rw [hR.1.1] at hi; exact hi) rfl (fun lsB hB => ?_)
    exact h ra lsB H locs cells slots ⟨hR.1.st1 hB, zlocs_st1 hR.2.1 hok, fun v hv => hR.2.2.1 v (List.mem_cons_of_mem _ hv), hR.2.2.2⟩
  · cases hx
    refine lv_astoreN C.1 C.2.1 hd hR.1.2 (by rw [hR.1.1] at hi; exact hi) rfl (fun lsB hB => ?_)
    exact h ra lsB H locs cells slots ⟨hR.1.st1 hB, zlocs_st1 hR.2.1 hok, fun v hv => hR.2.2.1 v (List.mem_cons_of_mem _ hv), hR.2.2.2⟩
theorem zs_aload_n (C : zCx E k p l s m args meth cde) {i : Fin 4} {x : zV} (hd : decode (zby k) pc = .ok (.aload_n i, 1)) (hl : ls[i.val]? = some x) (hx : x.1 = 2 ∨ x.1 = 3) (h : zSim E k p l e s m args below meth cde ra0 t0 o (pc + 1) ls (x :: st) w t c) : zSim E k p l e s m args below meth cde ra0 t0 o pc ls st w t c := by
  intro ra lsA H locs cells slots hR
  obtain ⟨g, y⟩ := x
  have hok := hR.2.1 _ _ hl
  rcases hx with hx | hx
  · cases hx
    refine lv_aload_n C.1 C.2.1 hd rfl (hR.1.at hl (by decide : 2 < 4)) ?_
    exact h ra lsA H locs cells slots (hR.stk (zall1 hok hR.2.2.1))
  · cases hx
    refine lv_aload_nN C.1 C.2.1 hd rfl (hR.1.at hl (by decide : 3 < 4)) ?_
    exact h ra lsA H locs cells slots (hR.stk (zall1 hok hR.2.2.1))
theorem zs_istore_n (C : zCx E k p l s m args meth cde) {i : Fin 4} {x : Int} (hd : decode (zby k) pc = .ok (.istore_n i, 1)) (hi : i.val < ls.length) (h : zSim E k p l e s m args below meth cde ra0 t0 o (pc + 1) (zst1 ls i.val (0, x)) st w t c) : zSim E k p l e s m args below meth cde ra0 t0 o pc ls ((0, x) :: st) w t c := by
  intro ra lsA H locs cells slots hR
  have hx := hR.2.2.1 _ List.mem_cons_self
  refine lv_istore_n C.1 C.2.1 hd rfl hR.1.2 (by rw [hR.1.1] at hi; exact hi) rfl (fun lsB hB => ?_)
  exact h ra lsB H locs cells slots ⟨hR.1.st1 hB, zlocs_st1 hR.2.1 hx, fun v hv => hR.2.2.1 v (List.mem_cons_of_mem _ hv), hR.2.2.2⟩
theorem zs_lstore_n (C : zCx E k p l s m args meth cde) {i : Fin 4} {x : Int} (hd : decode (zby k) pc = .ok (.lstore_n i, 1)) (hi : i.val + 1 < ls.length) (h : zSim E k p l e s m args below meth cde ra0 t0 o (pc + 1) (zst2 ls i.val (1, x)) st w t c) : zSim E k p l e s m args below meth cde ra0 t0 o pc ls ((1, x) :: st) w t c := by
  intro ra lsA H locs cells slots hR
  have hx := hR.2.2.1 _ List.mem_cons_self
  refine lv_lstore_n C.1 C.2.1 hd rfl hR.1.2 (by rw [hR.1.1] at hi; exact hi) rfl (fun lsB hB => ?_)
  exact h ra lsB H locs cells slots ⟨hR.1.st2 hB, zlocs_st2 hR.2.1 hx, fun v hv => hR.2.2.1 v (List.mem_cons_of_mem _ hv), hR.2.2.2⟩
theorem zs_astore_n (C : zCx E k p l s m args meth cde) {i : Fin 4} {x : zV} (hd : decode (zby k) pc = .ok (.astore_n i, 1)) (hx : x.1 = 2 ∨ x.1 = 3) (hi : i.val < ls.length) (h : zSim E k p l e s m args below meth cde ra0 t0 o (pc + 1) (zst1 ls i.val x) st w t c) : zSim E k p l e s m args below meth cde ra0 t0 o pc ls (x :: st) w t c := by
  intro ra lsA H locs cells slots hR
  have hok := hR.2.2.1 _ List.mem_cons_self
  obtain ⟨g, y⟩ := x
  rcases hx with hx | hx
  · cases hx
    refine lv_astore_n C.1 C.2.1 hd rfl hR.1.2 (by rw [hR.1.1] at hi; exact hi) rfl (fun lsB hB => ?_)
    exact h ra lsB H locs cells slots ⟨hR.1.st1 hB, zlocs_st1 hR.2.1 hok, fun v hv => hR.2.2.1 v (List.mem_cons_of_mem _ hv), hR.2.2.2⟩
  · cases hx
    refine lv_astore_nN C.1 C.2.1 hd rfl hR.1.2 (by rw [hR.1.1] at hi; exact hi) rfl (fun lsB hB => ?_)
    exact h ra lsB H locs cells slots ⟨hR.1.st1 hB, zlocs_st1 hR.2.1 hok, fun v hv => hR.2.2.1 v (List.mem_cons_of_mem _ hv), hR.2.2.2⟩
theorem zs_iinc (C : zCx E k p l s m args meth cde) {i : Nat} {x n : Int} (hd : decode (zby k) pc = .ok (.iinc i n, 3)) (hl : ls[i]? = some (0, x)) (h : zSim E k p l e s m args below meth cde ra0 t0 o (pc + 3) (zst1 ls i (0, z32 (x + n))) st w t c) : zSim E k p l e s m args below meth cde ra0 t0 o pc ls st w t c := by
  intro ra lsA H locs cells slots hR
  have hm : (i, Value.int (Int32.ofInt x)) ∈ zlv ra ls := zlv_mem.mpr ⟨_, hl, (by decide : 0 < 4), rfl⟩
  obtain ⟨j, hj⟩ := List.getElem?_of_mem hm
  have hi : i < zmL k := by rw [← hR.1.1]; exact (List.getElem?_eq_some_iff.mp hl).1
  refine lv_iinc C.1 C.2.1 hd hR.1.2 (k := j) hj (zi_add x n).symm hi rfl (fun lsB hB => ?_)
  exact h ra lsB H locs cells slots ⟨hR.1.st1 (v := (0, z32 (x + n))) hB, zlocs_st1 hR.2.1 (zok0 (zr32_z _)), hR.2.2⟩
theorem zs_iconst (C : zCx E k p l s m args meth cde) {n : Int} (hd : decode (zby k) pc = .ok (.iconst n, 1)) (hn : zr32 n) (h : zSim E k p l e s m args below meth cde ra0 t0 o (pc + 1) ls ((0, n) :: st) w t c) : zSim E k p l e s m args below meth cde ra0 t0 o pc ls st w t c := by
  intro ra lsA H locs cells slots hR
  refine lv_iconst C.1 C.2.1 hd (v := Int32.ofInt n) (rfl) ?_
  exact h ra lsA H locs cells slots (hR.stk (zall1 (zok0 hn) hR.2.2.1))
theorem zs_bipush (C : zCx E k p l s m args meth cde) {n : Int} (hd : decode (zby k) pc = .ok (.bipush n, 2)) (h1 : -128 ≤ n) (h2 : n < 128) (h : zSim E k p l e s m args below meth cde ra0 t0 o (pc + 2) ls ((0, n) :: st) w t c) : zSim E k p l e s m args below meth cde ra0 t0 o pc ls st w t c := by
  intro ra lsA H locs cells slots hR
  refine lv_bipush C.1 C.2.1 hd (v := Int32.ofInt n) (Int32.toInt.inj (by rw [Int8.toInt_toInt32, Int8.toInt_ofInt_of_le h1 h2, zi_t ⟨by omega, by omega⟩])) ?_
  exact h ra lsA H locs cells slots (hR.stk (zall1 (zok0 ⟨by omega, by omega⟩) hR.2.2.1))
theorem zs_sipush (C : zCx E k p l s m args meth cde) {n : Int} (hd : decode (zby k) pc = .ok (.sipush n, 3)) (h1 : -32768 ≤ n) (h2 : n < 32768) (h : zSim E k p l e s m args below meth cde ra0 t0 o (pc + 3) ls ((0, n) :: st) w t c) : zSim E k p l e s m args below meth cde ra0 t0 o pc ls st w t c := by
  intro ra lsA H locs cells slots hR
  refine lv_sipush C.1 C.2.1 hd (v := Int32.ofInt n) (Int32.toInt.inj (by rw [Int16.toInt_toInt32, Int16.toInt_ofInt_of_le h1 h2, zi_t ⟨by omega, by omega⟩])) ?_
  exact h ra lsA H locs cells slots (hR.stk (zall1 (zok0 ⟨by omega, by omega⟩) hR.2.2.1))
theorem zs_lconst (C : zCx E k p l s m args meth cde) {n : Fin 2} (hd : decode (zby k) pc = .ok (.lconst n, 1)) (h : zSim E k p l e s m args below meth cde ra0 t0 o (pc + 1) ls ((1, (n.val : Int)) :: st) w t c) : zSim E k p l e s m args below meth cde ra0 t0 o pc ls st w t c := by
  intro ra lsA H locs cells slots hR
  refine lv_lconst C.1 C.2.1 hd (v := Int64.ofInt (n.val : Int)) Int64.ofInt_eq_ofNat.symm ?_
  exact h ra lsA H locs cells slots (hR.stk (zall1 (zok1 ⟨by omega, by have := n.isLt; omega⟩) hR.2.2.1))
theorem zs_null (C : zCx E k p l s m args meth cde) (hd : decode (zby k) pc = .ok (.aconst_null, 1)) (h : zSim E k p l e s m args below meth cde ra0 t0 o (pc + 1) ls ((3, 0) :: st) w t c) : zSim E k p l e s m args below meth cde ra0 t0 o pc ls st w t c := by
  intro ra lsA H locs cells slots hR
  refine lv_null C.1 C.2.1 hd ?_
  exact h ra lsA H locs cells slots (hR.stk (zall1 zok3 hR.2.2.1))
theorem zs_dup (C : zCx E k p l s m args meth cde) {v : zV} (hd : decode (zby k) pc = .ok (.dup, 1)) (hv : Nat.beq v.1 1 = false) (h : zSim E k p l e s m args below meth cde ra0 t0 o (pc + 1) ls (v :: v :: st) w t c) : zSim E k p l e s m args below meth cde ra0 t0 o pc ls (v :: st) w t c := by
  intro ra lsA H locs cells slots hR
  refine lv_dup C.1 C.2.1 hd (by rw [zv_cat, hv]; rfl) ?_
  exact h ra lsA H locs cells slots (hR.stk (zall1 (hR.2.2.1 _ List.mem_cons_self) hR.2.2.1))
theorem zs_pop (C : zCx E k p l s m args meth cde) {v : zV} (hd : decode (zby k) pc = .ok (.pop, 1)) (hv : Nat.beq v.1 1 = false) (h : zSim E k p l e s m args below meth cde ra0 t0 o (pc + 1) ls st w t c) : zSim E k p l e s m args below meth cde ra0 t0 o pc ls (v :: st) w t c := by
  intro ra lsA H locs cells slots hR
  refine lv_pop C.1 C.2.1 hd (by rw [zv_cat, hv]; rfl) ?_
  exact h ra lsA H locs cells slots (hR.stk fun u hu => hR.2.2.1 u (List.mem_cons_of_mem _ hu))
theorem zs_dup2_2 (C : zCx E k p l s m args meth cde) {v : zV} (hd : decode (zby k) pc = .ok (.dup2, 1)) (hv : Nat.beq v.1 1 = true) (h : zSim E k p l e s m args below meth cde ra0 t0 o (pc + 1) ls (v :: v :: st) w t c) : zSim E k p l e s m args below meth cde ra0 t0 o pc ls (v :: st) w t c := by
  intro ra lsA H locs cells slots hR
  refine lv_dup2_2 C.1 C.2.1 hd (by rw [zv_cat, hv]; rfl) ?_
  exact h ra lsA H locs cells slots (hR.stk (zall1 (hR.2.2.1 _ List.mem_cons_self) hR.2.2.1))
theorem zs_dup2_11 (C : zCx E k p l s m args meth cde) {v u : zV} (hd : decode (zby k) pc = .ok (.dup2, 1)) (hv : Nat.beq v.1 1 = false) (hu : Nat.beq u.1 1 = false) (h : zSim E k p l e s m args below meth cde ra0 t0 o (pc + 1) ls (v :: u :: v :: u :: st) w t c) : zSim E k p l e s m args below meth cde ra0 t0 o pc ls (v :: u :: st) w t c := by
  intro ra lsA H locs cells slots hR
  refine lv_dup2_11 C.1 C.2.1 hd (by rw [zv_cat, hv]; rfl) (by rw [zv_cat, hu]; rfl) ?_
  exact h ra lsA H locs cells slots (hR.stk (zall1 (hR.2.2.1 _ List.mem_cons_self) (zall1 (hR.2.2.1 _ (List.mem_cons_of_mem _ List.mem_cons_self)) hR.2.2.1)))
theorem zs_iadd (C : zCx E k p l s m args meth cde) {x y : Int} (hd : decode (zby k) pc = .ok (.iadd, 1)) (h : zSim E k p l e s m args below meth cde ra0 t0 o (pc + 1) ls ((0, z32 (x + y)) :: st) w t c) : zSim E k p l e s m args below meth cde ra0 t0 o pc ls ((0, y) :: (0, x) :: st) w t c := by
  intro ra lsA H locs cells slots hR
  have hy := (hR.2.2.1 _ List.mem_cons_self).1 rfl
  have hx := (hR.2.2.1 _ (List.mem_cons_of_mem _ List.mem_cons_self)).1 rfl
  refine lv_iadd C.1 C.2.1 hd ?_
  have q := h ra lsA H locs cells slots (hR.stk (zall1 (zok0 (zr32_z _)) fun u hu => hR.2.2.1 u (List.mem_cons_of_mem _ (List.mem_cons_of_mem _ hu))))
  have e1 := zi_add x y
  simp only [List.map_cons] at q
  rw [show zv ra (0, z32 (x + y)) = .int (Int32.ofInt (z32 (x + y))) from rfl, e1] at q
  exact q
theorem zs_isub (C : zCx E k p l s m args meth cde) {x y : Int} (hd : decode (zby k) pc = .ok (.isub, 1)) (h : zSim E k p l e s m args below meth cde ra0 t0 o (pc + 1) ls ((0, z32 (x - y)) :: st) w t c) : zSim E k p l e s m args below meth cde ra0 t0 o pc ls ((0, y) :: (0, x) :: st) w t c := by
  intro ra lsA H locs cells slots hR
  have hy := (hR.2.2.1 _ List.mem_cons_self).1 rfl
  have hx := (hR.2.2.1 _ (List.mem_cons_of_mem _ List.mem_cons_self)).1 rfl
  refine lv_isub C.1 C.2.1 hd ?_
  have q := h ra lsA H locs cells slots (hR.stk (zall1 (zok0 (zr32_z _)) fun u hu => hR.2.2.1 u (List.mem_cons_of_mem _ (List.mem_cons_of_mem _ hu))))
  have e1 := zi_sub x y
  simp only [List.map_cons] at q
  rw [show zv ra (0, z32 (x - y)) = .int (Int32.ofInt (z32 (x - y))) from rfl, e1] at q
  exact q
theorem zs_imul (C : zCx E k p l s m args meth cde) {x y : Int} (hd : decode (zby k) pc = .ok (.imul, 1)) (h : zSim E k p l e s m args below meth cde ra0 t0 o (pc + 1) ls ((0, z32 (x * y)) :: st) w t c) : zSim E k p l e s m args below meth cde ra0 t0 o pc ls ((0, y) :: (0, x) :: st) w t c := by
  intro ra lsA H locs cells slots hR
  have hy := (hR.2.2.1 _ List.mem_cons_self).1 rfl
  have hx := (hR.2.2.1 _ (List.mem_cons_of_mem _ List.mem_cons_self)).1 rfl
  refine lv_imul C.1 C.2.1 hd ?_
  have q := h ra lsA H locs cells slots (hR.stk (zall1 (zok0 (zr32_z _)) fun u hu => hR.2.2.1 u (List.mem_cons_of_mem _ (List.mem_cons_of_mem _ hu))))
  have e1 := zi_mul x y
  simp only [List.map_cons] at q
  rw [show zv ra (0, z32 (x * y)) = .int (Int32.ofInt (z32 (x * y))) from rfl, e1] at q
  exact q
theorem zs_ladd (C : zCx E k p l s m args meth cde) {x y : Int} (hd : decode (zby k) pc = .ok (.ladd, 1)) (h : zSim E k p l e s m args below meth cde ra0 t0 o (pc + 1) ls ((1, z64 (x + y)) :: st) w t c) : zSim E k p l e s m args below meth cde ra0 t0 o pc ls ((1, y) :: (1, x) :: st) w t c := by
  intro ra lsA H locs cells slots hR
  have hy := (hR.2.2.1 _ List.mem_cons_self).2.1 rfl
  have hx := (hR.2.2.1 _ (List.mem_cons_of_mem _ List.mem_cons_self)).2.1 rfl
  refine lv_ladd C.1 C.2.1 hd ?_
  have q := h ra lsA H locs cells slots (hR.stk (zall1 (zok1 (zr64_z _)) fun u hu => hR.2.2.1 u (List.mem_cons_of_mem _ (List.mem_cons_of_mem _ hu))))
  have e1 := zl_add x y
  simp only [List.map_cons] at q
  rw [show zv ra (1, z64 (x + y)) = .long (Int64.ofInt (z64 (x + y))) from rfl, e1] at q
  exact q
theorem zs_lsub (C : zCx E k p l s m args meth cde) {x y : Int} (hd : decode (zby k) pc = .ok (.lsub, 1)) (h : zSim E k p l e s m args below meth cde ra0 t0 o (pc + 1) ls ((1, z64 (x - y)) :: st) w t c) : zSim E k p l e s m args below meth cde ra0 t0 o pc ls ((1, y) :: (1, x) :: st) w t c := by
  intro ra lsA H locs cells slots hR
  have hy := (hR.2.2.1 _ List.mem_cons_self).2.1 rfl
  have hx := (hR.2.2.1 _ (List.mem_cons_of_mem _ List.mem_cons_self)).2.1 rfl
  refine lv_lsub C.1 C.2.1 hd ?_
  have q := h ra lsA H locs cells slots (hR.stk (zall1 (zok1 (zr64_z _)) fun u hu => hR.2.2.1 u (List.mem_cons_of_mem _ (List.mem_cons_of_mem _ hu))))
  have e1 := zl_sub x y
  simp only [List.map_cons] at q
  rw [show zv ra (1, z64 (x - y)) = .long (Int64.ofInt (z64 (x - y))) from rfl, e1] at q
  exact q
theorem zs_lmul (C : zCx E k p l s m args meth cde) {x y : Int} (hd : decode (zby k) pc = .ok (.lmul, 1)) (h : zSim E k p l e s m args below meth cde ra0 t0 o (pc + 1) ls ((1, z64 (x * y)) :: st) w t c) : zSim E k p l e s m args below meth cde ra0 t0 o pc ls ((1, y) :: (1, x) :: st) w t c := by
  intro ra lsA H locs cells slots hR
  have hy := (hR.2.2.1 _ List.mem_cons_self).2.1 rfl
  have hx := (hR.2.2.1 _ (List.mem_cons_of_mem _ List.mem_cons_self)).2.1 rfl
  refine lv_lmul C.1 C.2.1 hd ?_
  have q := h ra lsA H locs cells slots (hR.stk (zall1 (zok1 (zr64_z _)) fun u hu => hR.2.2.1 u (List.mem_cons_of_mem _ (List.mem_cons_of_mem _ hu))))
  have e1 := zl_mul x y
  simp only [List.map_cons] at q
  rw [show zv ra (1, z64 (x * y)) = .long (Int64.ofInt (z64 (x * y))) from rfl, e1] at q
  exact q
theorem zs_idiv (C : zCx E k p l s m args meth cde) {x y : Int} (hd : decode (zby k) pc = .ok (.idiv, 1)) (hne : y ≠ 0) (h : zSim E k p l e s m args below meth cde ra0 t0 o (pc + 1) ls ((0, z32 (Int.tdiv x y)) :: st) w t c) : zSim E k p l e s m args below meth cde ra0 t0 o pc ls ((0, y) :: (0, x) :: st) w t c := by
  intro ra lsA H locs cells slots hR
  have hy := (hR.2.2.1 _ List.mem_cons_self).1 rfl
  have hx := (hR.2.2.1 _ (List.mem_cons_of_mem _ List.mem_cons_self)).1 rfl
  refine lv_idiv C.1 C.2.1 hd (fun q => hne ((zi_eq hy ⟨by decide, by decide⟩).mp q)) ?_
  have q := h ra lsA H locs cells slots (hR.stk (zall1 (zok0 (zr32_z _)) fun u hu => hR.2.2.1 u (List.mem_cons_of_mem _ (List.mem_cons_of_mem _ hu))))
  have e1 := zi_div hx hy
  simp only [List.map_cons] at q
  rw [show zv ra (0, z32 (Int.tdiv x y)) = .int (Int32.ofInt (z32 (Int.tdiv x y))) from rfl, e1] at q
  exact q
theorem zs_irem (C : zCx E k p l s m args meth cde) {x y : Int} (hd : decode (zby k) pc = .ok (.irem, 1)) (hne : y ≠ 0) (h : zSim E k p l e s m args below meth cde ra0 t0 o (pc + 1) ls ((0, z32 (Int.tmod x y)) :: st) w t c) : zSim E k p l e s m args below meth cde ra0 t0 o pc ls ((0, y) :: (0, x) :: st) w t c := by
  intro ra lsA H locs cells slots hR
  have hy := (hR.2.2.1 _ List.mem_cons_self).1 rfl
  have hx := (hR.2.2.1 _ (List.mem_cons_of_mem _ List.mem_cons_self)).1 rfl
  refine lv_irem C.1 C.2.1 hd (fun q => hne ((zi_eq hy ⟨by decide, by decide⟩).mp q)) ?_
  have q := h ra lsA H locs cells slots (hR.stk (zall1 (zok0 (zr32_z _)) fun u hu => hR.2.2.1 u (List.mem_cons_of_mem _ (List.mem_cons_of_mem _ hu))))
  have e1 := zi_rem2 hx hy
  simp only [List.map_cons] at q
  rw [show zv ra (0, z32 (Int.tmod x y)) = .int (Int32.ofInt (z32 (Int.tmod x y))) from rfl, e1] at q
  exact q
theorem zs_ldiv (C : zCx E k p l s m args meth cde) {x y : Int} (hd : decode (zby k) pc = .ok (.ldiv, 1)) (hne : y ≠ 0) (h : zSim E k p l e s m args below meth cde ra0 t0 o (pc + 1) ls ((1, z64 (Int.tdiv x y)) :: st) w t c) : zSim E k p l e s m args below meth cde ra0 t0 o pc ls ((1, y) :: (1, x) :: st) w t c := by
  intro ra lsA H locs cells slots hR
  have hy := (hR.2.2.1 _ List.mem_cons_self).2.1 rfl
  have hx := (hR.2.2.1 _ (List.mem_cons_of_mem _ List.mem_cons_self)).2.1 rfl
  refine lv_ldiv C.1 C.2.1 hd (fun q => hne ((zl_eq hy ⟨by decide, by decide⟩).mp q)) ?_
  have q := h ra lsA H locs cells slots (hR.stk (zall1 (zok1 (zr64_z _)) fun u hu => hR.2.2.1 u (List.mem_cons_of_mem _ (List.mem_cons_of_mem _ hu))))
  have e1 := zl_div hx hy
  simp only [List.map_cons] at q
  rw [show zv ra (1, z64 (Int.tdiv x y)) = .long (Int64.ofInt (z64 (Int.tdiv x y))) from rfl, e1] at q
  exact q
theorem zs_lrem (C : zCx E k p l s m args meth cde) {x y : Int} (hd : decode (zby k) pc = .ok (.lrem, 1)) (hne : y ≠ 0) (h : zSim E k p l e s m args below meth cde ra0 t0 o (pc + 1) ls ((1, z64 (Int.tmod x y)) :: st) w t c) : zSim E k p l e s m args below meth cde ra0 t0 o pc ls ((1, y) :: (1, x) :: st) w t c := by
  intro ra lsA H locs cells slots hR
  have hy := (hR.2.2.1 _ List.mem_cons_self).2.1 rfl
  have hx := (hR.2.2.1 _ (List.mem_cons_of_mem _ List.mem_cons_self)).2.1 rfl
  refine lv_lrem C.1 C.2.1 hd (fun q => hne ((zl_eq hy ⟨by decide, by decide⟩).mp q)) ?_
  have q := h ra lsA H locs cells slots (hR.stk (zall1 (zok1 (zr64_z _)) fun u hu => hR.2.2.1 u (List.mem_cons_of_mem _ (List.mem_cons_of_mem _ hu))))
  have e1 := zl_rem2 hx hy
  simp only [List.map_cons] at q
  rw [show zv ra (1, z64 (Int.tmod x y)) = .long (Int64.ofInt (z64 (Int.tmod x y))) from rfl, e1] at q
  exact q
theorem zs_iand (C : zCx E k p l s m args meth cde) {x y : Int} (hd : decode (zby k) pc = .ok (.iand, 1)) (h : zSim E k p l e s m args below meth cde ra0 t0 o (pc + 1) ls ((0, (Int32.ofInt x &&& Int32.ofInt y).toInt) :: st) w t c) : zSim E k p l e s m args below meth cde ra0 t0 o pc ls ((0, y) :: (0, x) :: st) w t c := by
  intro ra lsA H locs cells slots hR
  have hy := (hR.2.2.1 _ List.mem_cons_self).1 rfl
  have hx := (hR.2.2.1 _ (List.mem_cons_of_mem _ List.mem_cons_self)).1 rfl
  refine lv_iand C.1 C.2.1 hd ?_
  have q := h ra lsA H locs cells slots (hR.stk (zall1 (zok0 (zi_r _)) fun u hu => hR.2.2.1 u (List.mem_cons_of_mem _ (List.mem_cons_of_mem _ hu))))
  have e1 := zi_o (Int32.ofInt x &&& Int32.ofInt y)
  simp only [List.map_cons] at q
  rw [show zv ra (0, (Int32.ofInt x &&& Int32.ofInt y).toInt) = .int (Int32.ofInt ((Int32.ofInt x &&& Int32.ofInt y).toInt)) from rfl, e1] at q
  exact q
theorem zs_land (C : zCx E k p l s m args meth cde) {x y : Int} (hd : decode (zby k) pc = .ok (.land, 1)) (h : zSim E k p l e s m args below meth cde ra0 t0 o (pc + 1) ls ((1, (Int64.ofInt x &&& Int64.ofInt y).toInt) :: st) w t c) : zSim E k p l e s m args below meth cde ra0 t0 o pc ls ((1, y) :: (1, x) :: st) w t c := by
  intro ra lsA H locs cells slots hR
  have hy := (hR.2.2.1 _ List.mem_cons_self).2.1 rfl
  have hx := (hR.2.2.1 _ (List.mem_cons_of_mem _ List.mem_cons_self)).2.1 rfl
  refine lv_land C.1 C.2.1 hd ?_
  have q := h ra lsA H locs cells slots (hR.stk (zall1 (zok1 (zl_r _)) fun u hu => hR.2.2.1 u (List.mem_cons_of_mem _ (List.mem_cons_of_mem _ hu))))
  have e1 := zl_o (Int64.ofInt x &&& Int64.ofInt y)
  simp only [List.map_cons] at q
  rw [show zv ra (1, (Int64.ofInt x &&& Int64.ofInt y).toInt) = .long (Int64.ofInt ((Int64.ofInt x &&& Int64.ofInt y).toInt)) from rfl, e1] at q
  exact q
theorem zs_lor (C : zCx E k p l s m args meth cde) {x y : Int} (hd : decode (zby k) pc = .ok (.lor, 1)) (h : zSim E k p l e s m args below meth cde ra0 t0 o (pc + 1) ls ((1, (Int64.ofInt x ||| Int64.ofInt y).toInt) :: st) w t c) : zSim E k p l e s m args below meth cde ra0 t0 o pc ls ((1, y) :: (1, x) :: st) w t c := by
  intro ra lsA H locs cells slots hR
  have hy := (hR.2.2.1 _ List.mem_cons_self).2.1 rfl
  have hx := (hR.2.2.1 _ (List.mem_cons_of_mem _ List.mem_cons_self)).2.1 rfl
  refine lv_lor C.1 C.2.1 hd ?_
  have q := h ra lsA H locs cells slots (hR.stk (zall1 (zok1 (zl_r _)) fun u hu => hR.2.2.1 u (List.mem_cons_of_mem _ (List.mem_cons_of_mem _ hu))))
  have e1 := zl_o (Int64.ofInt x ||| Int64.ofInt y)
  simp only [List.map_cons] at q
  rw [show zv ra (1, (Int64.ofInt x ||| Int64.ofInt y).toInt) = .long (Int64.ofInt ((Int64.ofInt x ||| Int64.ofInt y).toInt)) from rfl, e1] at q
  exact q
theorem zs_ishl (C : zCx E k p l s m args meth cde) {x y : Int} (hd : decode (zby k) pc = .ok (.ishl, 1)) (h : zSim E k p l e s m args below meth cde ra0 t0 o (pc + 1) ls ((0, (Int32.ofInt x <<< (Int32.ofInt y &&& 31)).toInt) :: st) w t c) : zSim E k p l e s m args below meth cde ra0 t0 o pc ls ((0, y) :: (0, x) :: st) w t c := by
  intro ra lsA H locs cells slots hR
  have hy := (hR.2.2.1 _ List.mem_cons_self).1 rfl
  have hx := (hR.2.2.1 _ (List.mem_cons_of_mem _ List.mem_cons_self)).1 rfl
  refine lv_ishl C.1 C.2.1 hd ?_
  have q := h ra lsA H locs cells slots (hR.stk (zall1 (zok0 (zi_r _)) fun u hu => hR.2.2.1 u (List.mem_cons_of_mem _ (List.mem_cons_of_mem _ hu))))
  have e1 := zi_o (Int32.ofInt x <<< (Int32.ofInt y &&& 31))
  simp only [List.map_cons] at q
  rw [show zv ra (0, (Int32.ofInt x <<< (Int32.ofInt y &&& 31)).toInt) = .int (Int32.ofInt ((Int32.ofInt x <<< (Int32.ofInt y &&& 31)).toInt)) from rfl, e1] at q
  exact q
theorem zs_ishr (C : zCx E k p l s m args meth cde) {x y : Int} (hd : decode (zby k) pc = .ok (.ishr, 1)) (h : zSim E k p l e s m args below meth cde ra0 t0 o (pc + 1) ls ((0, (Int32.ofInt x >>> (Int32.ofInt y &&& 31)).toInt) :: st) w t c) : zSim E k p l e s m args below meth cde ra0 t0 o pc ls ((0, y) :: (0, x) :: st) w t c := by
  intro ra lsA H locs cells slots hR
  have hy := (hR.2.2.1 _ List.mem_cons_self).1 rfl
  have hx := (hR.2.2.1 _ (List.mem_cons_of_mem _ List.mem_cons_self)).1 rfl
  refine lv_ishr C.1 C.2.1 hd ?_
  have q := h ra lsA H locs cells slots (hR.stk (zall1 (zok0 (zi_r _)) fun u hu => hR.2.2.1 u (List.mem_cons_of_mem _ (List.mem_cons_of_mem _ hu))))
  have e1 := zi_o (Int32.ofInt x >>> (Int32.ofInt y &&& 31))
  simp only [List.map_cons] at q
  rw [show zv ra (0, (Int32.ofInt x >>> (Int32.ofInt y &&& 31)).toInt) = .int (Int32.ofInt ((Int32.ofInt x >>> (Int32.ofInt y &&& 31)).toInt)) from rfl, e1] at q
  exact q
theorem zs_lshl (C : zCx E k p l s m args meth cde) {x y : Int} (hd : decode (zby k) pc = .ok (.lshl, 1)) (h : zSim E k p l e s m args below meth cde ra0 t0 o (pc + 1) ls ((1, (Int64.ofInt x <<< ((Int32.ofInt y).toInt64 &&& 63)).toInt) :: st) w t c) : zSim E k p l e s m args below meth cde ra0 t0 o pc ls ((0, y) :: (1, x) :: st) w t c := by
  intro ra lsA H locs cells slots hR
  refine lv_lshl C.1 C.2.1 hd (zl_o _).symm ?_
  exact h ra lsA H locs cells slots (hR.stk (zall1 (zok1 (zl_r _)) fun u hu => hR.2.2.1 u (List.mem_cons_of_mem _ (List.mem_cons_of_mem _ hu))))
theorem zs_lshr (C : zCx E k p l s m args meth cde) {x y : Int} (hd : decode (zby k) pc = .ok (.lshr, 1)) (h : zSim E k p l e s m args below meth cde ra0 t0 o (pc + 1) ls ((1, (Int64.ofInt x >>> ((Int32.ofInt y).toInt64 &&& 63)).toInt) :: st) w t c) : zSim E k p l e s m args below meth cde ra0 t0 o pc ls ((0, y) :: (1, x) :: st) w t c := by
  intro ra lsA H locs cells slots hR
  refine lv_lshr C.1 C.2.1 hd (zl_o _).symm ?_
  exact h ra lsA H locs cells slots (hR.stk (zall1 (zok1 (zl_r _)) fun u hu => hR.2.2.1 u (List.mem_cons_of_mem _ (List.mem_cons_of_mem _ hu))))
theorem zs_i2l (C : zCx E k p l s m args meth cde) {x : Int} (hd : decode (zby k) pc = .ok (.i2l, 1)) (h : zSim E k p l e s m args below meth cde ra0 t0 o (pc + 1) ls ((1, x) :: st) w t c) : zSim E k p l e s m args below meth cde ra0 t0 o pc ls ((0, x) :: st) w t c := by
  intro ra lsA H locs cells slots hR
  have hx := (hR.2.2.1 _ List.mem_cons_self).1 rfl
  refine lv_i2l C.1 C.2.1 hd (zi_i2l hx) ?_
  exact h ra lsA H locs cells slots (hR.stk (zall1 (zok1 ⟨by have := hx.1; omega, by have := hx.2; omega⟩) fun u hu => hR.2.2.1 u (List.mem_cons_of_mem _ hu)))
theorem zs_l2i (C : zCx E k p l s m args meth cde) {x : Int} (hd : decode (zby k) pc = .ok (.l2i, 1)) (h : zSim E k p l e s m args below meth cde ra0 t0 o (pc + 1) ls ((0, z32 x) :: st) w t c) : zSim E k p l e s m args below meth cde ra0 t0 o pc ls ((1, x) :: st) w t c := by
  intro ra lsA H locs cells slots hR
  have hx := (hR.2.2.1 _ List.mem_cons_self).2.1 rfl
  refine lv_l2i C.1 C.2.1 hd (zl_l2i hx) ?_
  exact h ra lsA H locs cells slots (hR.stk (zall1 (zok0 (zr32_z _)) fun u hu => hR.2.2.1 u (List.mem_cons_of_mem _ hu)))
theorem zs_i2b (C : zCx E k p l s m args meth cde) {x : Int} (hd : decode (zby k) pc = .ok (.i2b, 1)) (h : zSim E k p l e s m args below meth cde ra0 t0 o (pc + 1) ls ((0, z8 x) :: st) w t c) : zSim E k p l e s m args below meth cde ra0 t0 o pc ls ((0, x) :: st) w t c := by
  intro ra lsA H locs cells slots hR
  have hx := (hR.2.2.1 _ List.mem_cons_self).1 rfl
  refine lv_i2b C.1 C.2.1 hd (zi_i2b hx) ?_
  exact h ra lsA H locs cells slots (hR.stk (zall1 (zok0 (zr32_8 _)) fun u hu => hR.2.2.1 u (List.mem_cons_of_mem _ hu)))
theorem zs_ineg (C : zCx E k p l s m args meth cde) {x : Int} (hd : decode (zby k) pc = .ok (.ineg, 1)) (h : zSim E k p l e s m args below meth cde ra0 t0 o (pc + 1) ls ((0, z32 (-x)) :: st) w t c) : zSim E k p l e s m args below meth cde ra0 t0 o pc ls ((0, x) :: st) w t c := by
  intro ra lsA H locs cells slots hR
  have hx := (hR.2.2.1 _ List.mem_cons_self).1 rfl
  refine lv_ineg C.1 C.2.1 hd ?_
  have q := h ra lsA H locs cells slots (hR.stk (zall1 (zok0 (zr32_z _)) fun u hu => hR.2.2.1 u (List.mem_cons_of_mem _ hu)))
  simp only [List.map_cons] at q
  rw [show zv ra (0, z32 (-x)) = .int (Int32.ofInt (z32 (-x))) from rfl, zi_neg x] at q
  exact q
theorem zs_lneg (C : zCx E k p l s m args meth cde) {x : Int} (hd : decode (zby k) pc = .ok (.lneg, 1)) (h : zSim E k p l e s m args below meth cde ra0 t0 o (pc + 1) ls ((1, z64 (-x)) :: st) w t c) : zSim E k p l e s m args below meth cde ra0 t0 o pc ls ((1, x) :: st) w t c := by
  intro ra lsA H locs cells slots hR
  have hx := (hR.2.2.1 _ List.mem_cons_self).2.1 rfl
  refine lv_lneg C.1 C.2.1 hd ?_
  have q := h ra lsA H locs cells slots (hR.stk (zall1 (zok1 (zr64_z _)) fun u hu => hR.2.2.1 u (List.mem_cons_of_mem _ hu)))
  simp only [List.map_cons] at q
  rw [show zv ra (1, z64 (-x)) = .long (Int64.ofInt (z64 (-x))) from rfl, zl_neg x] at q
  exact q
end ZSIM
