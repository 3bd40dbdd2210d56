/-! ===== a method's start: what the machine in small does from there, the method does ===== -/
theorem zcats_app : ∀ a b : List zV, zcats (a ++ b) = zcats a + zcats b
  | [], b => (Nat.zero_add _).symm
  | v :: a, b => by
    show cond (Nat.beq v.1 1) 2 1 + zcats (a ++ b) = cond (Nat.beq v.1 1) 2 1 + zcats a + zcats b
    rw [zcats_app a b]; omega
theorem zcats_rev : ∀ a : List zV, zcats a.reverse = zcats a
  | [] => rfl
  | v :: a => by
    rw [List.reverse_cons, zcats_app, zcats_rev a]
    show zcats a + (cond (Nat.beq v.1 1) 2 1 + 0) = cond (Nat.beq v.1 1) 2 1 + zcats a
    omega
theorem zent_len : ∀ a : List zV, (zent a).length = zcats a
  | [] => rfl
  | v :: a => by
    show (cond (Nat.beq v.1 1) (v :: (9, 0) :: zent a) (v :: zent a)).length = cond (Nat.beq v.1 1) 2 1 + zcats a
    cases Nat.beq v.1 1
    · show (zent a).length + 1 = 1 + zcats a
      rw [zent_len a]; omega
    · show (zent a).length + 1 + 1 = 2 + zcats a
      rw [zent_len a]; omega
theorem zent_at (ra : Nat → Nat) : ∀ (a : List zV) (b i : Nat) (v : zV), (zent a)[i]? = some v → v.1 < 4 → (b + i, zv ra v) ∈ lv_args b (a.map (zv ra))
  | [], b, i, v, h, _ => by cases h
  | u :: a, b, i, v, h, hv => by
    have hc := zv_cat ra u
    have h : (cond (Nat.beq u.1 1) (u :: (9, 0) :: zent a) (u :: zent a))[i]? = some v := h
    show (b + i, zv ra v) ∈ (b, zv ra u) :: lv_args (if (zv ra u).category = 2 then b + 2 else b + 1) (a.map (zv ra))
    cases hb : Nat.beq u.1 1 with
    | false =>
      rw [hb] at h hc
      rw [if_neg (by rw [hc]; decide)]
      cases i with
      | zero => cases h; exact List.mem_cons_self
      | succ i =>
        have := zent_at ra a (b + 1) i v h hv
        rw [show b + 1 + i = b + (i + 1) by omega] at this
        exact List.mem_cons_of_mem _ this
    | true =>
      rw [hb] at h hc
      rw [if_pos (show (zv ra u).category = 2 from hc)]
      cases i with
      | zero => cases h; exact List.mem_cons_self
      | succ i =>
        cases i with
        | zero => cases h; exact absurd hv (by decide)
        | succ i =>
          have := zent_at ra a (b + 2) i v h hv
          rw [show b + 2 + i = b + (i + 1 + 1) by omega] at this
          exact List.mem_cons_of_mem _ this
theorem zsl_len (ra : Nat → Nat) : ∀ a : List zV, (lg_sl (a.map (zv ra))).length = zcats a
  | [] => rfl
  | v :: a => by
    have hc := zv_cat ra v
    have ih := zsl_len ra a
    unfold lg_sl at ih ⊢
    rw [List.map_cons, List.flatMap_cons, List.length_append, ih]
    show _ = cond (Nat.beq v.1 1) 2 1 + zcats a
    cases hb : Nat.beq v.1 1 with
    | false => rw [hb] at hc; rw [if_neg (by rw [hc]; decide)]; rfl
    | true => rw [hb] at hc; rw [if_pos (show (zv ra v).category = 2 from hc)]; rfl
theorem zloc_len {a : List zV} {n : Nat} (h : zcats a ≤ n) : (zloc a n).length = n := by
  unfold zloc
  rw [List.length_append, List.length_replicate, zent_len]; omega
theorem zloc_at {a : List zV} {n i : Nat} {v : zV} (h : (zloc a n)[i]? = some v) : (zent a)[i]? = some v ∨ v = (9, 0) := by
  unfold zloc at h
  by_cases hi : i < (zent a).length
  · rw [List.getElem?_append_left hi] at h; exact Or.inl h
  · rw [List.getElem?_append_right (by omega)] at h
    exact Or.inr (List.eq_of_mem_replicate (List.mem_of_getElem? h))
theorem zLs_entry (ra : Nat → Nat) {a : List zV} {n : Nat} (h : zcats a ≤ n) : zLs ra (zloc a n) ((lg_sl (a.map (zv ra)) ++ List.replicate (n - (lg_sl (a.map (zv ra))).length) Slot.unset).toArray) n := by
  have h2 := lv_entry (a.map (zv ra)) (n := n) (by rw [zsl_len]; exact h)
  refine ⟨zloc_len h, h2.1, h2.2.1, fun q hq => h2.2.2 q ?_⟩
  obtain ⟨v, g1, g2, g3⟩ := zlv_mem.mp hq
  rcases zloc_at g1 with g | g
  · have := zent_at ra a 0 q.1 v g g2
    rw [Nat.zero_add, ← g3] at this
    exact this
  · rw [g] at g2; exact absurd g2 (by decide)
theorem zent_mem : ∀ (a : List zV) (v : zV), v ∈ zent a → v ∈ a ∨ v = (9, 0)
  | [], v, h => by cases h
  | u :: a, v, h => by
    have h : v ∈ cond (Nat.beq u.1 1) (u :: (9, 0) :: zent a) (u :: zent a) := h
    cases hb : Nat.beq u.1 1 with
    | false =>
      rw [hb] at h
      rcases List.mem_cons.mp h with e | h
      · exact Or.inl (e ▸ List.mem_cons_self)
      · exact (zent_mem a v h).imp (List.mem_cons_of_mem _) id
    | true =>
      rw [hb] at h
      rcases List.mem_cons.mp h with e | h
      · exact Or.inl (e ▸ List.mem_cons_self)
      · rcases List.mem_cons.mp h with e | h
        · exact Or.inr e
        · exact (zent_mem a v h).imp (List.mem_cons_of_mem _) id
theorem zloc_ok {a : List zV} {n t : Nat} (h : ∀ v ∈ a, zvok t v) (i : Nat) (v : zV) (hv : (zloc a n)[i]? = some v) : zvok t v := by
  rcases zloc_at hv with g | g
  · rcases zent_mem a v (List.mem_of_getElem? g) with m | m
    · exact h v m
    · rw [m]; exact zok9
  · rw [g]; exact zok9
/-- a method's start -/
def zPc (E : zE) (ra : Nat → Nat) (t : Nat) (w : zW) (As : List zV) : Array Value → State → Prop := fun v U => v = (As.map (zv ra)).toArray ∧ zSt E ra t w U.heap ∧ zAmb E U U.heap
theorem zPc_blind (E : zE) (ra : Nat → Nat) (t : Nat) (w : zW) (As : List zV) : FrameBlind (zPc E ra t w As) := fun a U g mk h =>
  ⟨h.1, h.2.1, zAmb.go (s := U) (U := U.calling g mk a) (State.WarmedH.refl U) (Nat.le_refl _) (fun _ _ _ => rfl) h.2.2⟩
theorem zini_ok : ∀ k, k < 389 → (!zini k || decide ((zyn k).name = "<init>")) = true := by decide +kernel
/-- the body, from its start -/
theorem zbody {E : zE} {y : Nat} {p : Program} {l : Launch} {e : Env} {s : State} {m : MethodId} {args : Array Value} {below : List Frame} {meth : Method} {cde : Code} {ra : Nat → Nat} {t : Nat} {w : zW} {o : zR × zW × Nat} {As : List zV}
    (hP : zPc E ra t w As args s) (hra : zra E ra) (hA : ∀ v ∈ As, zvok t v) (hlen : zcats As ≤ zmL y) (hsim : zSim E y p l e s m args below meth cde ra t o 0 (zloc As (zmL y)) [] w t (zmc y)) :
    W p l e (zroom y) s m args below meth cde s.heap [] 0 0 (vx_MQ below (zQc E ra t o) (zXC E ra t o) args s (zmc y) (12 * zmc y) (zAf E)) (entryFrame m args (zmL y)) := by
  obtain ⟨rfl, h2, h3⟩ := hP
  rw [lg_entry_eq]
  exact hsim ra _ s.heap [] 0 0 ⟨zLs_entry ra hlen, zloc_ok hA, (fun v hv => by cases hv), h2, va_S.rf, hra, fun _ _ => rfl, Nat.le_refl _, by omega, by omega⟩
theorem zMet_of {E : zE} {y : Nat} {l : Launch} {ra : Nat → Nat} {t : Nat} {w : zW} {o : zR × zW × Nat} {As : List zV} (hy : y < 388) (h14 : zown y ≠ 14) (hl : l.stackTraces = false) (hra : zra E ra) (hA : ∀ v ∈ As, zvok t v) (hlen : zcats As ≤ zmL y)
    (hsim : ∀ (p : Program) (e : Env) (s : State) (m : MethodId) (args : Array Value) (below : List Frame) (meth : Method) (cde : Code), zCx E y p l s m args meth cde → zSim E y p l e s m args below meth cde ra t o 0 (zloc As (zmL y)) [] w t (zmc y)) :
    vx_Met l (zyn y) (zcodeW y :: zW0) (zroom y) (zPc E ra t w As) (zQc E ra t o) (zXC E ra t o) (zmc y) (12 * zmc y) (zAf E) := by
  obtain ⟨f1, f2, f3, f4, f5, f6, f7⟩ := zMF_all y hy
  have hini : zini y = true → (zyn y).name = "<init>" := fun h => by
    have := zini_ok y (by omega)
    rw [h] at this
    exact of_decide_eq_true this
  cases hx : List.isEmpty (zex y) with
  | true =>
    have hw : zcodeW y :: zW0 = Cond.code (zyn y) (zby y) (zmL y) (zret y) :: zW0 := by unfold zcodeW; rw [hx]; rfl
    have hT : zexT y = [] := by
      have := zexT_ok y (by omega)
      rw [hx] at this
      exact List.isEmpty_iff.mp this
    refine vx_ofW (f6 h14) hw fun p e s m args below meth c s₁ B hml ht hP => ?_
    have hcx : zCx E y p l s m args meth c := ⟨B.exec, B.bytes, hml, by rw [← f3]; exact findClass_of_methodNamed B.named, fun w hw' => atoms_spec B.pre w (List.mem_cons_of_mem _ hw'), B.returns, B.notSynchronized,
      by rw [hT]; exact List.eq_nil_iff_forall_not_mem.mpr fun x hx' => ht x hx', fun h => (name_of_methodNamed B.named B.method).1.trans (hini h), hP.2.2, hl⟩
    exact zbody hP hra hA hlen (hsim p e s m args below meth c hcx)
  | false =>
    have hw : zcodeW y :: zW0 = Cond.codeWith (zyn y) (zby y) (zmL y) (zret y) (zexT y) :: zW0 := by unfold zcodeW; rw [hx]; rfl
    refine vx_ofWH (f6 h14) hw fun p e s m args below meth c s₁ B hml hP => ?_
    have hcw : (Cond.codeWith (zyn y) (zby y) (zmL y) (zret y) (zexT y)).before args s = true := atoms_spec B.pre _ (by rw [hw]; exact List.mem_cons_self)
    have hcx : zCx E y p l s m args meth c := ⟨B.exec, B.bytes, hml, by rw [← f3]; exact findClass_of_methodNamed B.named, fun w hw' => atoms_spec B.pre w (List.mem_cons_of_mem _ hw'), B.returns, B.notSynchronized,
      vx_table (x := zyn y) B hcw, fun h => (name_of_methodNamed B.named B.method).1.trans (hini h), hP.2.2, hl⟩
    exact zbody hP hra hA hlen (hsim p e s m args below meth c hcx)
/-- one that returns -/
theorem zMet_ret {E : zE} {y : Nat} {l : Launch} {ra : Nat → Nat} {t : Nat} {w : zW} {o : zR × zW × Nat} {As : List zV} (h : vx_Met l (zyn y) (zcodeW y :: zW0) (zroom y) (zPc E ra t w As) (zQc E ra t o) (zXC E ra t o) (zmc y) (12 * zmc y) (zAf E)) (ho : o.1.1 = 0) :
    Met l (zyn y) (zcodeW y :: zW0) (zroom y) (zPc E ra t w As) (zQc E ra t o) (zmc y) (12 * zmc y) (zAf E) := by
  refine MetFree.mono h (fun _ _ q => q) (fun _ _ _ _ _ q => q) fun a s oc s' _ q => ?_
  rcases q with q | ⟨q, -, E', ce, L, ⟨e, ra', h1, -⟩, -⟩
  · exact q
  · rw [h1] at ho; cases ho
