/-! ===== branches (written by wip/whole/gen15.py) ===== -/
section ZFLOW
variable {E : zE} {k : Nat} {p : Program} {l : Launch} {e : Env} {s : State} {m : MethodId} {args : Array Value} {below : List Frame} {meth : Method} {cde : Code} {ra0 : Nat → Nat} {t0 : Nat} {o : zR × zW × Nat} {pc : Nat} {ls st : List zV} {w : zW} {t c : Nat}
theorem zrst {t : Nat} {v : zV} {st : List zV} (h : ∀ u ∈ v :: st, zvok t u) : ∀ u ∈ st, zvok t u := fun u hu => h u (List.mem_cons_of_mem _ hu)
theorem z00 : zr32 0 := ⟨by decide, by decide⟩
theorem zs_goto (C : zCx E k p l s m args meth cde) {off : Int} (hd : decode (zby k) pc = .ok (.goto off, 3)) (h0 : 0 ≤ (pc : Int) + off) (h : zSim E k p l e s m args below meth cde ra0 t0 o (ztgt pc off) ls st w t c) : zSim E k p l e s m args below meth cde ra0 t0 o pc ls st w t c := by
  intro ra lsA H locs cells slots hR
  exact lv_goto C.1 C.2.1 hd (Int.toNat_of_nonneg h0).symm (h ra lsA H locs cells slots hR)
theorem zs_ifc (C : zCx E k p l s m args meth cde) {cd : ClassFile.Cond} {off x : Int} (hd : decode (zby k) pc = .ok (.ifCond cd off, 3)) (h0 : 0 ≤ (pc : Int) + off) (h : zcnd cd x 0 (zSim E k p l e s m args below meth cde ra0 t0 o (ztgt pc off) ls st w t c) (zSim E k p l e s m args below meth cde ra0 t0 o (pc + 3) ls st w t c)) : zSim E k p l e s m args below meth cde ra0 t0 o pc ls ((0, x) :: st) w t c := by
  intro ra lsA H locs cells slots hR
  have hx : zr32 x := (hR.2.2.1 _ List.mem_cons_self).1 rfl
  have hR' := hR.stk (st' := st) (zrst hR.2.2.1)
  have hT := (Int.toNat_of_nonneg h0).symm
  cases cd
  · refine lv_if_eq C.1 C.2.1 hd hT (fun q => ?_) (fun q => ?_)
    · have h2 := h; unfold zcnd at h2; dsimp only at h2; rw [if_pos ((zi_eq hx z00).mp q)] at h2; exact h2 ra lsA H locs cells slots hR'
    · have h2 := h; unfold zcnd at h2; dsimp only at h2; rw [if_neg (fun z => q ((zi_eq hx z00).mpr z))] at h2; exact h2 ra lsA H locs cells slots hR'
  · refine lv_if_ne C.1 C.2.1 hd hT (fun q => ?_) (fun q => ?_)
    · have h2 := h; unfold zcnd at h2; dsimp only at h2; rw [if_neg (fun z => q ((zi_eq hx z00).mpr z))] at h2; exact h2 ra lsA H locs cells slots hR'
    · have h2 := h; unfold zcnd at h2; dsimp only at h2; rw [if_pos ((zi_eq hx z00).mp q)] at h2; exact h2 ra lsA H locs cells slots hR'
  · refine lv_if_lt C.1 C.2.1 hd hT (fun q => ?_) (fun q => ?_)
    · have h2 := h; unfold zcnd at h2; dsimp only at h2; rw [if_pos ((zi_lt hx z00).mp q)] at h2; exact h2 ra lsA H locs cells slots hR'
    · have h2 := h; unfold zcnd at h2; dsimp only at h2; rw [if_neg (fun z => q ((zi_lt hx z00).mpr z))] at h2; exact h2 ra lsA H locs cells slots hR'
  · refine lv_if_ge C.1 C.2.1 hd hT (fun q => ?_) (fun q => ?_)
    · have h2 := h; unfold zcnd at h2; dsimp only at h2; rw [if_neg (Int.not_lt.mpr ((zi_le z00 hx).mp q))] at h2; exact h2 ra lsA H locs cells slots hR'
    · have h2 := h; unfold zcnd at h2; dsimp only at h2; rw [if_pos (Int.not_le.mp (fun z => q ((zi_le z00 hx).mpr z)))] at h2; exact h2 ra lsA H locs cells slots hR'
  · refine lv_if_gt C.1 C.2.1 hd hT (fun q => ?_) (fun q => ?_)
    · have h2 := h; unfold zcnd at h2; dsimp only at h2; rw [if_pos ((zi_lt z00 hx).mp q)] at h2; exact h2 ra lsA H locs cells slots hR'
    · have h2 := h; unfold zcnd at h2; dsimp only at h2; rw [if_neg (fun z => q ((zi_lt z00 hx).mpr z))] at h2; exact h2 ra lsA H locs cells slots hR'
  · refine lv_if_le C.1 C.2.1 hd hT (fun q => ?_) (fun q => ?_)
    · have h2 := h; unfold zcnd at h2; dsimp only at h2; rw [if_neg (Int.not_lt.mpr ((zi_le hx z00).mp q))] at h2; exact h2 ra lsA H locs cells slots hR'
    · have h2 := h; unfold zcnd at h2; dsimp only at h2; rw [if_pos (Int.not_le.mp (fun z => q ((zi_le hx z00).mpr z)))] at h2; exact h2 ra lsA H locs cells slots hR'
theorem zs_icmp (C : zCx E k p l s m args meth cde) {cd : ClassFile.Cond} {off x y : Int} (hd : decode (zby k) pc = .ok (.if_icmp cd off, 3)) (h0 : 0 ≤ (pc : Int) + off) (h : zcnd cd x y (zSim E k p l e s m args below meth cde ra0 t0 o (ztgt pc off) ls st w t c) (zSim E k p l e s m args below meth cde ra0 t0 o (pc + 3) ls st w t c)) : zSim E k p l e s m args below meth cde ra0 t0 o pc ls ((0, y) :: (0, x) :: st) w t c := by
  intro ra lsA H locs cells slots hR
  have hy : zr32 y := (hR.2.2.1 _ List.mem_cons_self).1 rfl
  have hx : zr32 x := (hR.2.2.1 _ (List.mem_cons_of_mem _ List.mem_cons_self)).1 rfl
  have hR' := hR.stk (st' := st) (zrst (zrst hR.2.2.1))
  have hT := (Int.toNat_of_nonneg h0).symm
  cases cd
  · refine lv_icmp_eq C.1 C.2.1 hd hT (fun q => ?_) (fun q => ?_)
    · have h2 := h; unfold zcnd at h2; dsimp only at h2; rw [if_pos ((zi_eq hx hy).mp q)] at h2; exact h2 ra lsA H locs cells slots hR'
    · have h2 := h; unfold zcnd at h2; dsimp only at h2; rw [if_neg (fun z => q ((zi_eq hx hy).mpr z))] at h2; exact h2 ra lsA H locs cells slots hR'
  · refine lv_icmp_ne C.1 C.2.1 hd hT (fun q => ?_) (fun q => ?_)
    · have h2 := h; unfold zcnd at h2; dsimp only at h2; rw [if_neg (fun z => q ((zi_eq hx hy).mpr z))] at h2; exact h2 ra lsA H locs cells slots hR'
    · have h2 := h; unfold zcnd at h2; dsimp only at h2; rw [if_pos ((zi_eq hx hy).mp q)] at h2; exact h2 ra lsA H locs cells slots hR'
  · refine lv_icmp_lt C.1 C.2.1 hd hT (fun q => ?_) (fun q => ?_)
    · have h2 := h; unfold zcnd at h2; dsimp only at h2; rw [if_pos ((zi_lt hx hy).mp q)] at h2; exact h2 ra lsA H locs cells slots hR'
    · have h2 := h; unfold zcnd at h2; dsimp only at h2; rw [if_neg (fun z => q ((zi_lt hx hy).mpr z))] at h2; exact h2 ra lsA H locs cells slots hR'
  · refine lv_icmp_ge C.1 C.2.1 hd hT (fun q => ?_) (fun q => ?_)
    · have h2 := h; unfold zcnd at h2; dsimp only at h2; rw [if_neg (Int.not_lt.mpr ((zi_le hy hx).mp q))] at h2; exact h2 ra lsA H locs cells slots hR'
    · have h2 := h; unfold zcnd at h2; dsimp only at h2; rw [if_pos (Int.not_le.mp (fun z => q ((zi_le hy hx).mpr z)))] at h2; exact h2 ra lsA H locs cells slots hR'
  · refine lv_icmp_gt C.1 C.2.1 hd hT (fun q => ?_) (fun q => ?_)
    · have h2 := h; unfold zcnd at h2; dsimp only at h2; rw [if_pos ((zi_lt hy hx).mp q)] at h2; exact h2 ra lsA H locs cells slots hR'
    · have h2 := h; unfold zcnd at h2; dsimp only at h2; rw [if_neg (fun z => q ((zi_lt hy hx).mpr z))] at h2; exact h2 ra lsA H locs cells slots hR'
  · refine lv_icmp_le C.1 C.2.1 hd hT (fun q => ?_) (fun q => ?_)
    · have h2 := h; unfold zcnd at h2; dsimp only at h2; rw [if_neg (Int.not_lt.mpr ((zi_le hx hy).mp q))] at h2; exact h2 ra lsA H locs cells slots hR'
    · have h2 := h; unfold zcnd at h2; dsimp only at h2; rw [if_pos (Int.not_le.mp (fun z => q ((zi_le hx hy).mpr z)))] at h2; exact h2 ra lsA H locs cells slots hR'
def zlg (x y : Int) : Int32 := if y < x then 1 else if x = y then 0 else -1
theorem zlg_c (x y : Int) : (zlg x y = 1 ∧ y < x) ∨ (zlg x y = 0 ∧ x = y) ∨ (zlg x y = -1 ∧ x < y) := by
  unfold zlg
  by_cases q1 : y < x
  · rw [if_pos q1]; exact Or.inl ⟨rfl, q1⟩
  · rw [if_neg q1]
    by_cases q2 : x = y
    · rw [if_pos q2]; exact Or.inr (Or.inl ⟨rfl, q2⟩)
    · rw [if_neg q2]; exact Or.inr (Or.inr ⟨rfl, by omega⟩)
theorem zlg_eq {x y : Int} (q : zlg x y = 0) : x = y := by
  rcases zlg_c x y with ⟨a, b⟩ | ⟨a, b⟩ | ⟨a, b⟩ <;> rw [a] at q <;> first | omega | exact absurd q (by decide)
theorem zlg_eq' {x y : Int} (q : ¬ zlg x y = 0) : ¬ x = y := by
  rcases zlg_c x y with ⟨a, b⟩ | ⟨a, b⟩ | ⟨a, b⟩ <;> rw [a] at q <;> first | omega | exact absurd q (by decide)
theorem zlg_ne {x y : Int} (q : ¬ zlg x y = 0) : ¬ x = y := by
  rcases zlg_c x y with ⟨a, b⟩ | ⟨a, b⟩ | ⟨a, b⟩ <;> rw [a] at q <;> first | omega | exact absurd q (by decide)
theorem zlg_ne' {x y : Int} (q : zlg x y = 0) : x = y := by
  rcases zlg_c x y with ⟨a, b⟩ | ⟨a, b⟩ | ⟨a, b⟩ <;> rw [a] at q <;> first | omega | exact absurd q (by decide)
theorem zlg_lt {x y : Int} (q : zlg x y < 0) : x < y := by
  rcases zlg_c x y with ⟨a, b⟩ | ⟨a, b⟩ | ⟨a, b⟩ <;> rw [a] at q <;> first | omega | exact absurd q (by decide)
theorem zlg_lt' {x y : Int} (q : ¬ zlg x y < 0) : ¬ x < y := by
  rcases zlg_c x y with ⟨a, b⟩ | ⟨a, b⟩ | ⟨a, b⟩ <;> rw [a] at q <;> first | omega | exact absurd q (by decide)
theorem zlg_ge {x y : Int} (q : 0 ≤ zlg x y) : ¬ x < y := by
  rcases zlg_c x y with ⟨a, b⟩ | ⟨a, b⟩ | ⟨a, b⟩ <;> rw [a] at q <;> first | omega | exact absurd q (by decide)
theorem zlg_ge' {x y : Int} (q : ¬ 0 ≤ zlg x y) : x < y := by
  rcases zlg_c x y with ⟨a, b⟩ | ⟨a, b⟩ | ⟨a, b⟩ <;> rw [a] at q <;> first | omega | exact absurd q (by decide)
theorem zlg_gt {x y : Int} (q : 0 < zlg x y) : y < x := by
  rcases zlg_c x y with ⟨a, b⟩ | ⟨a, b⟩ | ⟨a, b⟩ <;> rw [a] at q <;> first | omega | exact absurd q (by decide)
theorem zlg_gt' {x y : Int} (q : ¬ 0 < zlg x y) : ¬ y < x := by
  rcases zlg_c x y with ⟨a, b⟩ | ⟨a, b⟩ | ⟨a, b⟩ <;> rw [a] at q <;> first | omega | exact absurd q (by decide)
theorem zlg_le {x y : Int} (q : zlg x y ≤ 0) : ¬ y < x := by
  rcases zlg_c x y with ⟨a, b⟩ | ⟨a, b⟩ | ⟨a, b⟩ <;> rw [a] at q <;> first | omega | exact absurd q (by decide)
theorem zlg_le' {x y : Int} (q : ¬ zlg x y ≤ 0) : y < x := by
  rcases zlg_c x y with ⟨a, b⟩ | ⟨a, b⟩ | ⟨a, b⟩ <;> rw [a] at q <;> first | omega | exact absurd q (by decide)
theorem zs_lcmp (C : zCx E k p l s m args meth cde) {cd : ClassFile.Cond} {off x y : Int} (hd : decode (zby k) pc = .ok (.lcmp, 1)) (hd2 : decode (zby k) (pc + 1) = .ok (.ifCond cd off, 3)) (h0 : 0 ≤ ((pc + 1 : Nat) : Int) + off) (h : zcnd cd x y (zSim E k p l e s m args below meth cde ra0 t0 o (ztgt (pc + 1) off) ls st w t c) (zSim E k p l e s m args below meth cde ra0 t0 o (pc + 1 + 3) ls st w t c)) : zSim E k p l e s m args below meth cde ra0 t0 o pc ls ((1, y) :: (1, x) :: st) w t c := by
  intro ra lsA H locs cells slots hR
  have hy : zr64 y := (hR.2.2.1 _ List.mem_cons_self).2.1 rfl
  have hx : zr64 x := (hR.2.2.1 _ (List.mem_cons_of_mem _ List.mem_cons_self)).2.1 rfl
  have hR' := hR.stk (st' := st) (zrst (zrst hR.2.2.1))
  have hT := (Int.toNat_of_nonneg h0).symm
  have g1 : zlg x y = (lg_cmp (Int64.ofInt x) (Int64.ofInt y)) := by
    unfold zlg lg_cmp
    by_cases q1 : y < x
    · rw [if_pos q1, if_pos (show Int64.ofInt x > Int64.ofInt y from (zl_lt hy hx).mpr q1)]
    · rw [if_neg q1, if_neg (fun z => q1 ((zl_lt hy hx).mp z))]
      by_cases q2 : x = y
      · rw [if_pos q2, if_pos ((zl_eq hx hy).mpr q2)]
      · rw [if_neg q2, if_neg (fun z => q2 ((zl_eq hx hy).mp z))]
  refine W.lcmp C.1 C.2.1 hd ?_
  rw [← g1]
  have key : ∀ cd', (cd' = cd) → zcnd cd' x y (zSim E k p l e s m args below meth cde ra0 t0 o (ztgt (pc + 1) off) ls st w t c) (zSim E k p l e s m args below meth cde ra0 t0 o (pc + 1 + 3) ls st w t c) := fun _ q => q ▸ h
  cases cd
  · refine lv_if_eq C.1 C.2.1 hd2 hT (fun q => ?_) (fun q => ?_)
    · have h2 := h; unfold zcnd at h2; dsimp only at h2; rw [if_pos (zlg_eq q)] at h2; exact h2 ra lsA H locs cells slots hR'
    · have h2 := h; unfold zcnd at h2; dsimp only at h2; rw [if_neg (zlg_eq' q)] at h2; exact h2 ra lsA H locs cells slots hR'
  · refine lv_if_ne C.1 C.2.1 hd2 hT (fun q => ?_) (fun q => ?_)
    · have h2 := h; unfold zcnd at h2; dsimp only at h2; rw [if_neg (zlg_ne q)] at h2; exact h2 ra lsA H locs cells slots hR'
    · have h2 := h; unfold zcnd at h2; dsimp only at h2; rw [if_pos (zlg_ne' q)] at h2; exact h2 ra lsA H locs cells slots hR'
  · refine lv_if_lt C.1 C.2.1 hd2 hT (fun q => ?_) (fun q => ?_)
    · have h2 := h; unfold zcnd at h2; dsimp only at h2; rw [if_pos (zlg_lt q)] at h2; exact h2 ra lsA H locs cells slots hR'
    · have h2 := h; unfold zcnd at h2; dsimp only at h2; rw [if_neg (zlg_lt' q)] at h2; exact h2 ra lsA H locs cells slots hR'
  · refine lv_if_ge C.1 C.2.1 hd2 hT (fun q => ?_) (fun q => ?_)
    · have h2 := h; unfold zcnd at h2; dsimp only at h2; rw [if_neg (zlg_ge q)] at h2; exact h2 ra lsA H locs cells slots hR'
    · have h2 := h; unfold zcnd at h2; dsimp only at h2; rw [if_pos (zlg_ge' q)] at h2; exact h2 ra lsA H locs cells slots hR'
  · refine lv_if_gt C.1 C.2.1 hd2 hT (fun q => ?_) (fun q => ?_)
    · have h2 := h; unfold zcnd at h2; dsimp only at h2; rw [if_pos (zlg_gt q)] at h2; exact h2 ra lsA H locs cells slots hR'
    · have h2 := h; unfold zcnd at h2; dsimp only at h2; rw [if_neg (zlg_gt' q)] at h2; exact h2 ra lsA H locs cells slots hR'
  · refine lv_if_le C.1 C.2.1 hd2 hT (fun q => ?_) (fun q => ?_)
    · have h2 := h; unfold zcnd at h2; dsimp only at h2; rw [if_neg (zlg_le q)] at h2; exact h2 ra lsA H locs cells slots hR'
    · have h2 := h; unfold zcnd at h2; dsimp only at h2; rw [if_pos (zlg_le' q)] at h2; exact h2 ra lsA H locs cells slots hR'
theorem zs_ifnull (C : zCx E k p l s m args meth cde) {off : Int} {v : zV} (hd : decode (zby k) pc = .ok (.ifnull off, 3)) (h0 : 0 ≤ (pc : Int) + off) (hv : v.1 = 2 ∨ v.1 = 3) (h : cond (Nat.beq v.1 3) (zSim E k p l e s m args below meth cde ra0 t0 o (ztgt pc off) ls st w t c) (zSim E k p l e s m args below meth cde ra0 t0 o (pc + 3) ls st w t c)) : zSim E k p l e s m args below meth cde ra0 t0 o pc ls (v :: st) w t c := by
  intro ra lsA H locs cells slots hR
  have hR' := hR.stk (st' := st) (zrst hR.2.2.1)
  have hT := (Int.toNat_of_nonneg h0).symm
  obtain ⟨g, y⟩ := v
  rcases hv with hv | hv
  · cases hv
    exact lv_ifnull C.1 C.2.1 hd (h ra lsA H locs cells slots hR')
  · cases hv
    exact lv_ifnullN C.1 C.2.1 hd hT (h ra lsA H locs cells slots hR')
theorem zs_ifnonnull (C : zCx E k p l s m args meth cde) {off : Int} {v : zV} (hd : decode (zby k) pc = .ok (.ifnonnull off, 3)) (h0 : 0 ≤ (pc : Int) + off) (hv : v.1 = 2 ∨ v.1 = 3) (h : cond (Nat.beq v.1 3) (zSim E k p l e s m args below meth cde ra0 t0 o (pc + 3) ls st w t c) (zSim E k p l e s m args below meth cde ra0 t0 o (ztgt pc off) ls st w t c)) : zSim E k p l e s m args below meth cde ra0 t0 o pc ls (v :: st) w t c := by
  intro ra lsA H locs cells slots hR
  have hR' := hR.stk (st' := st) (zrst hR.2.2.1)
  have hT := (Int.toNat_of_nonneg h0).symm
  obtain ⟨g, y⟩ := v
  rcases hv with hv | hv
  · cases hv
    exact lv_ifnonnull C.1 C.2.1 hd hT (h ra lsA H locs cells slots hR')
  · cases hv
    exact lv_ifnonnullN C.1 C.2.1 hd (h ra lsA H locs cells slots hR')
/-- the constants' places are apart -/
theorem zra_c {E : zE} {ra : Nat → Nat} {s : State} {H : Heap} (h : zra E ra) (hA : zAmb E s H) {x y : Int} (hx : 1000 ≤ x ∧ x < 1015) (hy : 1000 ≤ y ∧ y < 1015) : some (ra x.toNat) = some (ra y.toNat) ↔ x = y := by
  constructor
  · intro q
    have e1 := h.1 (x.toNat - 1000) (by omega)
    have e2 := h.1 (y.toNat - 1000) (by omega)
    rw [show 1000 + (x.toNat - 1000) = x.toNat by omega] at e1
    rw [show 1000 + (y.toNat - 1000) = y.toNat by omega] at e2
    have e3 := Option.some.inj q
    rw [e1, e2] at e3
    have e4 := hA.2.2.1.2.2.1 _ _ (by omega) (by omega) e3
    omega
  · intro q; rw [q]
theorem zs_acmp (C : zCx E k p l s m args meth cde) {cd : ClassFile.ACond} {off x y : Int} (hd : decode (zby k) pc = .ok (.if_acmp cd off, 3)) (h0 : 0 ≤ (pc : Int) + off) (hx : 1000 ≤ x ∧ x < 1015) (hy : 1000 ≤ y ∧ y < 1015) (h : zacn cd x y (zSim E k p l e s m args below meth cde ra0 t0 o (ztgt pc off) ls st w t c) (zSim E k p l e s m args below meth cde ra0 t0 o (pc + 3) ls st w t c)) : zSim E k p l e s m args below meth cde ra0 t0 o pc ls ((2, y) :: (2, x) :: st) w t c := by
  intro ra lsA H locs cells slots hR
  have hR' := hR.stk (st' := st) (zrst (zrst hR.2.2.1))
  have hT := (Int.toNat_of_nonneg h0).symm
  have hc := zra_c hR.2.2.2.2.2.1 C.2.2.2.2.2.2.2.2.2.1 hx hy
  cases cd
  · refine lv_acmp_eq (rx := some (ra x.toNat)) (ry := some (ra y.toNat)) C.1 C.2.1 hd hT (fun q => ?_) (fun q => ?_)
    · have h2 := h; unfold zacn at h2; dsimp only at h2; rw [if_pos (hc.mp q)] at h2; exact h2 ra lsA H locs cells slots hR'
    · have h2 := h; unfold zacn at h2; dsimp only at h2; rw [if_neg (fun z => q (hc.mpr z))] at h2; exact h2 ra lsA H locs cells slots hR'
  · refine lv_acmp_ne (rx := some (ra x.toNat)) (ry := some (ra y.toNat)) C.1 C.2.1 hd hT (fun q => ?_) (fun q => ?_)
    · have h2 := h; unfold zacn at h2; dsimp only at h2; rw [if_neg (fun z => q (hc.mpr z))] at h2; exact h2 ra lsA H locs cells slots hR'
    · have h2 := h; unfold zacn at h2; dsimp only at h2; rw [if_pos (hc.mp q)] at h2; exact h2 ra lsA H locs cells slots hR'
/-- which way a switch goes -/
theorem zswl_e {F : Nat → Prop} {x d : Int} : ∀ (os : List Int) (lo : Int), zswl F pc x d lo os → ((x < lo ∨ lo + os.length - 1 < x) ∧ F (ztgt pc d)) ∨ (lo ≤ x ∧ ∃ of, os[(x - lo).toNat]? = some of ∧ F (ztgt pc of))
  | [], lo, h => Or.inl ⟨by simp only [List.length_nil]; omega, h⟩
  | of :: os, lo, h => by
    unfold zswl at h
    by_cases q : x = lo
    · rw [if_pos q] at h
      refine Or.inr ⟨by omega, of, ?_, h⟩
      rw [q, Int.sub_self]; rfl
    · rw [if_neg q] at h
      rcases zswl_e os (lo + 1) h with ⟨h1, h2⟩ | ⟨h1, of', h2, h3⟩
      · refine Or.inl ⟨?_, h2⟩
        simp only [List.length_cons]
        omega
      · refine Or.inr ⟨by omega, of', ?_, h3⟩
        have e1 : (x - lo).toNat = (x - (lo + 1)).toNat + 1 := by omega
        rw [e1, List.getElem?_cons_succ]; exact h2
theorem zs_tsw (C : zCx E k p l s m args meth cde) {d lo hi : Int} {os : Array Int} {len : Nat} {x : Int} (hd : decode (zby k) pc = .ok (.tableswitch d lo hi os, len)) (h0 : 0 ≤ (pc : Int) + d) (h1 : ∀ of ∈ os.toList, 0 ≤ (pc : Int) + of) (h2 : hi = lo + os.size - 1) (h : zswl (fun q => zSim E k p l e s m args below meth cde ra0 t0 o q ls st w t c) pc x d lo os.toList) : zSim E k p l e s m args below meth cde ra0 t0 o pc ls ((0, x) :: st) w t c := by
  intro ra lsA H locs cells slots hR
  have hx : zr32 x := (hR.2.2.1 _ List.mem_cons_self).1 rfl
  have hR' := hR.stk (st' := st) (zrst hR.2.2.1)
  have ex : (Int32.ofInt x).toInt = x := zi_t hx
  rcases zswl_e _ _ h with ⟨g1, g2⟩ | ⟨g1, of, g2, g3⟩
  · refine lv_tableOut C.1 C.2.1 hd ?_ (Int.toNat_of_nonneg h0).symm (g2 ra lsA H locs cells slots hR')
    rw [ex, h2]
    rw [Array.length_toList] at g1
    exact g1
  · have hlt := (List.getElem?_eq_some_iff.mp g2).1
    rw [Array.length_toList] at hlt
    refine lv_tableIn C.1 C.2.1 hd (by rw [ex]; omega) (by rw [ex, h2]; omega) (off := of) (by rw [ex, ← Array.getElem?_toList]; exact g2) (Int.toNat_of_nonneg (h1 of (List.mem_of_getElem? g2))).symm (g3 ra lsA H locs cells slots hR')
end ZFLOW
