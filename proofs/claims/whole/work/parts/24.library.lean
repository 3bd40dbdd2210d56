/-! ===== calls of the library: Math, arraycopy, Object's constructor, ordinal (written by wip/whole/gen24.py) ===== -/
theorem zmax_i {x y : Int} (hx : zr32 x) (hy : zr32 y) : Int32.ofInt (max x y) = if Int32.ofInt x < Int32.ofInt y then Int32.ofInt y else Int32.ofInt x := by
  by_cases h : x < y
  · rw [if_pos ((zi_lt hx hy).mpr h), Int.max_eq_right (by omega)]
  · rw [if_neg (fun q => h ((zi_lt hx hy).mp q)), Int.max_eq_left (by omega)]
theorem zmin_i {x y : Int} (hx : zr32 x) (hy : zr32 y) : Int32.ofInt (min x y) = if Int32.ofInt y < Int32.ofInt x then Int32.ofInt y else Int32.ofInt x := by
  by_cases h : y < x
  · rw [if_pos ((zi_lt hy hx).mpr h), Int.min_eq_right (by omega)]
  · rw [if_neg (fun q => h ((zi_lt hy hx).mp q)), Int.min_eq_left (by omega)]
theorem zabs_i {x : Int} (hx : zr32 x) : Int32.ofInt (z32 (max x (-x))) = if 0 ≤ Int32.ofInt x then Int32.ofInt x else 0 - Int32.ofInt x := by
  by_cases h : 0 ≤ x
  · rw [if_pos (show 0 ≤ Int32.ofInt x from (zi_le z00 hx).mpr h), zi_z, Int.max_eq_left (by omega)]
  · rw [if_neg (fun q : 0 ≤ Int32.ofInt x => h ((zi_le z00 hx).mp q)), Int.max_eq_right (by omega), show -x = 0 - x by omega, zi_sub]; rfl
theorem zmax_l {x y : Int} (hx : zr64 x) (hy : zr64 y) : Int64.ofInt (max x y) = if Int64.ofInt y < Int64.ofInt x then Int64.ofInt x else Int64.ofInt y := by
  by_cases h : y < x
  · rw [if_pos ((zl_lt hy hx).mpr h), Int.max_eq_left (by omega)]
  · rw [if_neg (fun q => h ((zl_lt hy hx).mp q)), Int.max_eq_right (by omega)]
theorem zmin_l {x y : Int} (hx : zr64 x) (hy : zr64 y) : Int64.ofInt (min x y) = if Int64.ofInt y < Int64.ofInt x then Int64.ofInt y else Int64.ofInt x := by
  by_cases h : y < x
  · rw [if_pos ((zl_lt hy hx).mpr h), Int.min_eq_right (by omega)]
  · rw [if_neg (fun q => h ((zl_lt hy hx).mp q)), Int.min_eq_left (by omega)]
theorem zabs_l {x : Int} (hx : zr64 x) : Int64.ofInt (z64 (max x (-x))) = if 0 < Int64.ofInt x then Int64.ofInt x else -Int64.ofInt x := by
  have h0 : zr64 0 := ⟨by decide, by decide⟩
  by_cases h : 0 < x
  · rw [if_pos (show 0 < Int64.ofInt x from (zl_lt h0 hx).mpr h), zl_z, Int.max_eq_left (by omega)]
  · rw [if_neg (fun q : 0 < Int64.ofInt x => h ((zl_lt h0 hx).mp q)), Int.max_eq_right (by omega), zl_neg]
section ZLIB
variable {E : zE} {k : Nat} {p : Program} {l : Launch} {e : Env} {s : State} {m : MethodId} {args : Array Value} {below : List Frame} {meth : Method} {cde : Code} {ra0 : Nat → Nat} {t0 : Nat} {o : zR × zW × Nat} {pc : Nat} {ls st : List zV} {w : zW} {t c : Nat}
theorem zs_math20 (C : zCx E k p l s m args meth cde) (hk : k < 389) {i : Nat} {a : Nat × Nat} {x y : Int} (hd : decode (zby k) pc = .ok (.invokestatic i, 3)) (hm : zmth (zown k) i = some a) (ha : a.2 = 20) (hht : 0 < zht k) (hlo : 15 + zcats ((0, y) :: (0, x) :: st) ≤ zlo k) (h : zSim E k p l e s m args below meth cde ra0 t0 o (pc + 3) ls ((0, max x y) :: st) w t c) : zSim E k p l e s m args below meth cde ra0 t0 o pc ls ((0, y) :: (0, x) :: st) w t c := by
  intro ra lsA H locs cells slots hR
  have hy : zr32 y := (hR.2.2.1 _ List.mem_cons_self).1 rfl
  have hx : zr32 x := (hR.2.2.1 _ (List.mem_cons_of_mem _ List.mem_cons_self)).1 rfl
  have hst := zrst (zrst hR.2.2.1)
  have hcs := hR.2.2.2.2.2.2.2.2
  have hlk := zsp_ok (zown_lt k hk) hm (by rw [ha]; rfl)
  rw [ha] at hlk
  have hsum := zcats_sum ra st
  have hlo2 : 15 + zcats st ≤ zlo k := Nat.le_trans (by show 15 + zcats st ≤ 15 + (cond (Nat.beq 0 1) 2 1 + (cond (Nat.beq 0 1) 2 1 + zcats st)); omega) hlo
  have h2 := h ra lsA H locs cells slots (hR.stk (zall1 (zok0 ⟨by have := hx.1; have := hy.1; omega, by have := hx.2; have := hy.2; omega⟩) hst))
  rw [List.map_cons, show zv ra (0, max x y) = .int (Int32.ofInt (max x y)) from rfl, zmax_i hx hy] at h2
  exact va_mmax (R := zroom k) C.1 C.2.1 (C.2.2.1.trans hR.1.2.1.symm) C.own (C.wd _ hlk) (C.wd _ zwMs20) (C.wd _ zwMi) (C.wd _ zwMc20) hht (by rw [hsum]; show _ ≤ zlo k; omega) (by show cells ≤ zmc k; omega) (by show slots ≤ 12 * zmc k; omega) hd h2
theorem zs_math21 (C : zCx E k p l s m args meth cde) (hk : k < 389) {i : Nat} {a : Nat × Nat} {x y : Int} (hd : decode (zby k) pc = .ok (.invokestatic i, 3)) (hm : zmth (zown k) i = some a) (ha : a.2 = 21) (hht : 0 < zht k) (hlo : 15 + zcats ((0, y) :: (0, x) :: st) ≤ zlo k) (h : zSim E k p l e s m args below meth cde ra0 t0 o (pc + 3) ls ((0, min x y) :: st) w t c) : zSim E k p l e s m args below meth cde ra0 t0 o pc ls ((0, y) :: (0, x) :: st) w t c := by
  intro ra lsA H locs cells slots hR
  have hy : zr32 y := (hR.2.2.1 _ List.mem_cons_self).1 rfl
  have hx : zr32 x := (hR.2.2.1 _ (List.mem_cons_of_mem _ List.mem_cons_self)).1 rfl
  have hst := zrst (zrst hR.2.2.1)
  have hcs := hR.2.2.2.2.2.2.2.2
  have hlk := zsp_ok (zown_lt k hk) hm (by rw [ha]; rfl)
  rw [ha] at hlk
  have hsum := zcats_sum ra st
  have hlo2 : 15 + zcats st ≤ zlo k := Nat.le_trans (by show 15 + zcats st ≤ 15 + (cond (Nat.beq 0 1) 2 1 + (cond (Nat.beq 0 1) 2 1 + zcats st)); omega) hlo
  have h2 := h ra lsA H locs cells slots (hR.stk (zall1 (zok0 ⟨by have := hx.1; have := hy.1; omega, by have := hx.2; have := hy.2; omega⟩) hst))
  rw [List.map_cons, show zv ra (0, min x y) = .int (Int32.ofInt (min x y)) from rfl, zmin_i hx hy] at h2
  exact va_mmin (R := zroom k) C.1 C.2.1 (C.2.2.1.trans hR.1.2.1.symm) C.own (C.wd _ hlk) (C.wd _ zwMs21) (C.wd _ zwMi) (C.wd _ zwMc21) hht (by rw [hsum]; show _ ≤ zlo k; omega) (by show cells ≤ zmc k; omega) (by show slots ≤ 12 * zmc k; omega) hd h2
theorem zs_math22 (C : zCx E k p l s m args meth cde) (hk : k < 389) {i : Nat} {a : Nat × Nat} {x : Int} (hd : decode (zby k) pc = .ok (.invokestatic i, 3)) (hm : zmth (zown k) i = some a) (ha : a.2 = 22) (hht : 0 < zht k) (hlo : 15 + zcats ((0, x) :: st) ≤ zlo k) (h : zSim E k p l e s m args below meth cde ra0 t0 o (pc + 3) ls ((0, z32 (max x (-x))) :: st) w t c) : zSim E k p l e s m args below meth cde ra0 t0 o pc ls ((0, x) :: st) w t c := by
  intro ra lsA H locs cells slots hR
  have hx : zr32 x := (hR.2.2.1 _ List.mem_cons_self).1 rfl
  have hst := zrst hR.2.2.1
  have hcs := hR.2.2.2.2.2.2.2.2
  have hlk := zsp_ok (zown_lt k hk) hm (by rw [ha]; rfl)
  rw [ha] at hlk
  have hsum := zcats_sum ra st
  have hlo2 : 15 + zcats st ≤ zlo k := Nat.le_trans (by show 15 + zcats st ≤ 15 + (cond (Nat.beq 0 1) 2 1 + zcats st); omega) hlo
  have h2 := h ra lsA H locs cells slots (hR.stk (zall1 (zok0 (zr32_z _)) hst))
  rw [List.map_cons, show zv ra (0, z32 (max x (-x))) = .int (Int32.ofInt (z32 (max x (-x)))) from rfl, zabs_i hx] at h2
  exact va_mabs (R := zroom k) C.1 C.2.1 (C.2.2.1.trans hR.1.2.1.symm) C.own (C.wd _ hlk) (C.wd _ zwMs22) (C.wd _ zwMi) (C.wd _ zwMc22) hht (by rw [hsum]; show _ ≤ zlo k; omega) (by show cells ≤ zmc k; omega) (by show slots ≤ 12 * zmc k; omega) hd h2
theorem zs_math23 (C : zCx E k p l s m args meth cde) (hk : k < 389) {i : Nat} {a : Nat × Nat} {x y : Int} (hd : decode (zby k) pc = .ok (.invokestatic i, 3)) (hm : zmth (zown k) i = some a) (ha : a.2 = 23) (hht : 0 < zht k) (hlo : 15 + zcats ((1, y) :: (1, x) :: st) ≤ zlo k) (h : zSim E k p l e s m args below meth cde ra0 t0 o (pc + 3) ls ((1, max x y) :: st) w t c) : zSim E k p l e s m args below meth cde ra0 t0 o pc ls ((1, y) :: (1, x) :: st) w t c := by
  intro ra lsA H locs cells slots hR
  have hy : zr64 y := (hR.2.2.1 _ List.mem_cons_self).2.1 rfl
  have hx : zr64 x := (hR.2.2.1 _ (List.mem_cons_of_mem _ List.mem_cons_self)).2.1 rfl
  have hst := zrst (zrst hR.2.2.1)
  have hcs := hR.2.2.2.2.2.2.2.2
  have hlk := zsp_ok (zown_lt k hk) hm (by rw [ha]; rfl)
  rw [ha] at hlk
  have hsum := zcats_sum ra st
  have hlo2 : 15 + zcats st ≤ zlo k := Nat.le_trans (by show 15 + zcats st ≤ 15 + (cond (Nat.beq 1 1) 2 1 + (cond (Nat.beq 1 1) 2 1 + zcats st)); omega) hlo
  have h2 := h ra lsA H locs cells slots (hR.stk (zall1 (zok1 ⟨by have := hx.1; have := hy.1; omega, by have := hx.2; have := hy.2; omega⟩) hst))
  rw [List.map_cons, show zv ra (1, max x y) = .long (Int64.ofInt (max x y)) from rfl, zmax_l hx hy] at h2
  exact va_mmax_long (R := zroom k) C.1 C.2.1 (C.2.2.1.trans hR.1.2.1.symm) C.own (C.wd _ hlk) (C.wd _ zwMs23) (C.wd _ zwMi) (C.wd _ zwMc23) hht (by rw [hsum]; show _ ≤ zlo k; omega) (by show cells ≤ zmc k; omega) (by show slots ≤ 12 * zmc k; omega) hd h2
theorem zs_math24 (C : zCx E k p l s m args meth cde) (hk : k < 389) {i : Nat} {a : Nat × Nat} {x y : Int} (hd : decode (zby k) pc = .ok (.invokestatic i, 3)) (hm : zmth (zown k) i = some a) (ha : a.2 = 24) (hht : 0 < zht k) (hlo : 15 + zcats ((1, y) :: (1, x) :: st) ≤ zlo k) (h : zSim E k p l e s m args below meth cde ra0 t0 o (pc + 3) ls ((1, min x y) :: st) w t c) : zSim E k p l e s m args below meth cde ra0 t0 o pc ls ((1, y) :: (1, x) :: st) w t c := by
  intro ra lsA H locs cells slots hR
  have hy : zr64 y := (hR.2.2.1 _ List.mem_cons_self).2.1 rfl
  have hx : zr64 x := (hR.2.2.1 _ (List.mem_cons_of_mem _ List.mem_cons_self)).2.1 rfl
  have hst := zrst (zrst hR.2.2.1)
  have hcs := hR.2.2.2.2.2.2.2.2
  have hlk := zsp_ok (zown_lt k hk) hm (by rw [ha]; rfl)
  rw [ha] at hlk
  have hsum := zcats_sum ra st
  have hlo2 : 15 + zcats st ≤ zlo k := Nat.le_trans (by show 15 + zcats st ≤ 15 + (cond (Nat.beq 1 1) 2 1 + (cond (Nat.beq 1 1) 2 1 + zcats st)); omega) hlo
  have h2 := h ra lsA H locs cells slots (hR.stk (zall1 (zok1 ⟨by have := hx.1; have := hy.1; omega, by have := hx.2; have := hy.2; omega⟩) hst))
  rw [List.map_cons, show zv ra (1, min x y) = .long (Int64.ofInt (min x y)) from rfl, zmin_l hx hy] at h2
  exact va_mmin_long (R := zroom k) C.1 C.2.1 (C.2.2.1.trans hR.1.2.1.symm) C.own (C.wd _ hlk) (C.wd _ zwMs24) (C.wd _ zwMi) (C.wd _ zwMc24) hht (by rw [hsum]; show _ ≤ zlo k; omega) (by show cells ≤ zmc k; omega) (by show slots ≤ 12 * zmc k; omega) hd h2
theorem zs_math25 (C : zCx E k p l s m args meth cde) (hk : k < 389) {i : Nat} {a : Nat × Nat} {x : Int} (hd : decode (zby k) pc = .ok (.invokestatic i, 3)) (hm : zmth (zown k) i = some a) (ha : a.2 = 25) (hht : 0 < zht k) (hlo : 15 + zcats ((1, x) :: st) ≤ zlo k) (h : zSim E k p l e s m args below meth cde ra0 t0 o (pc + 3) ls ((1, z64 (max x (-x))) :: st) w t c) : zSim E k p l e s m args below meth cde ra0 t0 o pc ls ((1, x) :: st) w t c := by
  intro ra lsA H locs cells slots hR
  have hx : zr64 x := (hR.2.2.1 _ List.mem_cons_self).2.1 rfl
  have hst := zrst hR.2.2.1
  have hcs := hR.2.2.2.2.2.2.2.2
  have hlk := zsp_ok (zown_lt k hk) hm (by rw [ha]; rfl)
  rw [ha] at hlk
  have hsum := zcats_sum ra st
  have hlo2 : 15 + zcats st ≤ zlo k := Nat.le_trans (by show 15 + zcats st ≤ 15 + (cond (Nat.beq 1 1) 2 1 + zcats st); omega) hlo
  have h2 := h ra lsA H locs cells slots (hR.stk (zall1 (zok1 (zr64_z _)) hst))
  rw [List.map_cons, show zv ra (1, z64 (max x (-x))) = .long (Int64.ofInt (z64 (max x (-x)))) from rfl, zabs_l hx] at h2
  exact va_mabs_long (R := zroom k) C.1 C.2.1 (C.2.2.1.trans hR.1.2.1.symm) C.own (C.wd _ hlk) (C.wd _ zwMs25) (C.wd _ zwMi) (C.wd _ zwMc25) hht (by rw [hsum]; show _ ≤ zlo k; omega) (by show cells ≤ zmc k; omega) (by show slots ≤ 12 * zmc k; omega) hd h2
theorem zs_math (C : zCx E k p l s m args meth cde) (hk : k < 389) {i : Nat} {a : Nat × Nat} (hd : decode (zby k) pc = .ok (.invokestatic i, 3)) (hm : zmth (zown k) i = some a) (hht : 0 < zht k) (hlo : 15 + zcats st ≤ zlo k) (h : zmath False a.2 st fun r => zSim E k p l e s m args below meth cde ra0 t0 o (pc + 3) ls r w t c) : zSim E k p l e s m args below meth cde ra0 t0 o pc ls st w t c := by
  unfold zmath zbin at h
  cases b20 : Nat.beq a.2 20 with
  | true =>
    rw [b20, cond_true] at h
    obtain ⟨y, r1, e1, h⟩ := zp1_e h
    obtain ⟨x, r, e2, h⟩ := zp1_e h
    subst e2; subst e1
    exact zs_math20 C hk hd hm (Nat.eq_of_beq_eq_true b20) hht hlo h
  | false =>
  rw [b20, cond_false] at h
  cases b21 : Nat.beq a.2 21 with
  | true =>
    rw [b21, cond_true] at h
    obtain ⟨y, r1, e1, h⟩ := zp1_e h
    obtain ⟨x, r, e2, h⟩ := zp1_e h
    subst e2; subst e1
    exact zs_math21 C hk hd hm (Nat.eq_of_beq_eq_true b21) hht hlo h
  | false =>
  rw [b21, cond_false] at h
  cases b22 : Nat.beq a.2 22 with
  | true =>
    rw [b22, cond_true] at h
    obtain ⟨x, r, e1, h⟩ := zp1_e h
    subst e1
    exact zs_math22 C hk hd hm (Nat.eq_of_beq_eq_true b22) hht hlo h
  | false =>
  rw [b22, cond_false] at h
  cases b23 : Nat.beq a.2 23 with
  | true =>
    rw [b23, cond_true] at h
    obtain ⟨y, r1, e1, h⟩ := zp1_e h
    obtain ⟨x, r, e2, h⟩ := zp1_e h
    subst e2; subst e1
    exact zs_math23 C hk hd hm (Nat.eq_of_beq_eq_true b23) hht hlo h
  | false =>
  rw [b23, cond_false] at h
  cases b24 : Nat.beq a.2 24 with
  | true =>
    rw [b24, cond_true] at h
    obtain ⟨y, r1, e1, h⟩ := zp1_e h
    obtain ⟨x, r, e2, h⟩ := zp1_e h
    subst e2; subst e1
    exact zs_math24 C hk hd hm (Nat.eq_of_beq_eq_true b24) hht hlo h
  | false =>
  rw [b24, cond_false] at h
  cases b25 : Nat.beq a.2 25 with
  | true =>
    rw [b25, cond_true] at h
    obtain ⟨x, r, e1, h⟩ := zp1_e h
    subst e1
    exact zs_math25 C hk hd hm (Nat.eq_of_beq_eq_true b25) hht hlo h
  | false =>
  rw [b25, cond_false] at h
  exact h.elim
theorem zs_oinit (C : zCx E k p l s m args meth cde) (hk : k < 389) {i : Nat} {a : Nat × Nat} {x : Int} (hd : decode (zby k) pc = .ok (.invokespecial i, 3)) (hm : zmth (zown k) i = some a) (ha : a.2 = 8) (hht : 0 < zht k) (hlo : 12 + zcats st ≤ zlo k) (h : zSim E k p l e s m args below meth cde ra0 t0 o (pc + 3) ls st w t c) : zSim E k p l e s m args below meth cde ra0 t0 o pc ls ((2, x) :: st) w t c := by
  intro ra lsA H locs cells slots hR
  have hlk := zsp_ok (zown_lt k hk) hm (by rw [ha]; rfl)
  rw [ha] at hlk
  refine W.objInit C.1 C.2.1 C.own (C.wd _ hlk) (C.wd _ zwOi) (C.wd _ zwOc) rfl (hR.1.2.1.trans C.2.2.1.symm) rfl hd hht (by rw [zcats_sum]; show 2 * 0 + _ + 12 ≤ zlo k; omega) ?_
  exact h ra lsA H locs cells slots (hR.stk (zrst hR.2.2.1))
theorem zcopy_at (w : zW) (x q n : Nat) : zcopy w x q n q = fun i => if i < n then w x i else w q i := by
  funext i; unfold zcopy; rw [if_pos rfl]
theorem zcopy_ne {w : zW} {x q n a : Nat} (h : a ≠ q) : zcopy w x q n a = w a := by
  funext i; unfold zcopy; rw [if_neg h]
theorem zSt.copy {E : zE} {ra : Nat → Nat} {t : Nat} {w : zW} {H H1 : Heap} {x q n : Nat} {e : va_E} (h : zSt E ra t w H) (hx : x < znx t) (hq : q < znx t) (hk : ∀ j, zsk q j = zsk x j) (he : e = zcel E ra t q (zcopy w x q n q))
    (hP : va_P (zED E) vwCl ((zws E ra t w).set q (ra q, e)) H1) (hD : va_D (zAf E) ((zws E ra t w).set q (ra q, e))) : zSt E ra t (zcopy w x q n) H1 := by
  have e1 := zws_upd (E := E) (ra := ra) (w := w) (w' := zcopy w x q n) hq he (fun a ha => zcopy_ne ha)
  rw [e1] at hP hD
  have hl := Nat.lt_of_lt_of_le hq (znx_le t)
  refine ⟨hP, hD, fun a ha j => ?_, ?_, fun i hi => ?_⟩
  · by_cases e2 : a = q
    · subst e2
      rw [zcopy_at]
      dsimp only
      by_cases e3 : j < n
      · rw [if_pos e3, hk]; exact h.2.2.1 x hx j
      · rw [if_neg e3]; exact h.2.2.1 a ha j
    · rw [zcopy_ne e2]; exact h.2.2.1 a ha j
  · rw [zcopy_ne (by omega)]; exact h.2.2.2.1
  · rw [zcopy_ne (by omega)]; exact h.2.2.2.2 i hi
theorem zfit8 {x : Int} (h : -128 ≤ x ∧ x < 128) : fits .byte (.int (Int32.ofInt x)) = true := by
  have hx : zr32 x := ⟨by omega, by omega⟩
  show (decide (-128 ≤ Int32.ofInt x) && decide (Int32.ofInt x ≤ 127)) = true
  rw [decide_eq_true (show (-128 : Int32) ≤ Int32.ofInt x from (zi_le (x := -128) ⟨by decide, by decide⟩ hx).mpr h.1), decide_eq_true (show Int32.ofInt x ≤ 127 from (zi_le hx (y := 127) ⟨by decide, by decide⟩).mpr (by omega))]; rfl
theorem zfit2 {x : Int} (h : 0 ≤ x ∧ x < 2) : fits .boolean (.int (Int32.ofInt x)) = true := by
  rcases (show x = 0 ∨ x = 1 by omega) with z | z <;> subst z <;> rfl
theorem zs_copy1 (C : zCx E k p l s m args meth cde) (hk : k < 389) {i : Nat} {a : Nat × Nat} {x q n : Int} {n0 n1 : Nat} (hd : decode (zby k) pc = .ok (.invokestatic i, 3)) (hm : zmth (zown k) i = some a) (ha : a.2 = 7) (hht : 0 < zht k) (hlo : 40 + zcats st ≤ zlo k)
    (hlx : zlay x.toNat = some (1, n0)) (hlq : zlay q.toNat = some (1, n1)) (hpn : x.toNat < znx t) (hqn : q.toNat < znx t) (hn : 0 ≤ n ∧ n ≤ (n0 : Int) ∧ n ≤ (n1 : Int)) (h : zSim E k p l e s m args below meth cde ra0 t0 o (pc + 3) ls st (zcopy w x.toNat q.toNat n.toNat) t c) : zSim E k p l e s m args below meth cde ra0 t0 o pc ls ((0, n) :: (0, 0) :: (2, q) :: (0, 0) :: (2, x) :: st) w t c := by
  intro ra lsA H locs cells slots hR
  have hn' : zr32 n := (hR.2.2.1 _ List.mem_cons_self).1 rfl
  have hlk := zsp_ok (zown_lt k hk) hm (by rw [ha]; rfl)
  rw [ha] at hlk
  have hwx := zws_at (E := E) (ra := ra) (w := w) hpn
  have hwq := zws_at (E := E) (ra := ra) (w := w) hqn
  rw [zcel_i hlx (Or.inl rfl)] at hwx
  rw [zcel_i hlq (Or.inl rfl)] at hwq
  have hst := zrst (zrst (zrst (zrst (zrst hR.2.2.1))))
  have e0 : (Int32.ofInt 0).toNatClampNeg = 0 := rfl
  refine va_copyi (sp := Int32.ofInt 0) (dp := Int32.ofInt 0) C.1 C.2.1 (C.2.2.1.trans hR.1.2.1.symm) C.own (C.wd _ hlk) (va_Nw.use rfl (C.amb.2.2.2.2.2.2.2.2.1 _ zwAn)) (C.wd _ zwAs) (C.wd _ zwAi) C.amb.1 hR.2.2.2.1.1 hR.2.2.2.1.2.1 hR.2.2.2.2.1 x.toNat q.toNat 0 0 hwx hwq (ty := .int) rfl rfl rfl (by decide) (by decide) (fun z => by rw [show (0 : Int32) = Int32.ofInt 0 from rfl, zi_lt hn' z00] at z; omega) (by rw [e0, zi_cn hn' hn.1]; omega) (by rw [e0, zi_cn hn' hn.1]; omega) (fun _ _ => rfl) hht (by rw [zcats_sum]; show zcats st + 18 ≤ zlo k; omega) hd (fun H1 locs1 hP hD hS => ?_)
  refine h ra lsA H1 locs1 cells slots ⟨hR.1, hR.2.1, hst, ?_, hS, hR.2.2.2.2.2⟩
  refine hR.2.2.2.1.copy hpn hqn (fun j => by rw [zsk_arr hlx, zsk_arr hlq]; rfl) ?_ hP hD
  rw [zcel_i hlq (Or.inl rfl), zcopy_at, e0, zi_cn hn' hn.1]
  congr 4
  funext j
  unfold va_cpy
  dsimp only
  by_cases z : j < n.toNat
  · rw [if_pos ⟨Nat.zero_le _, by omega⟩, if_pos z, Nat.zero_add, Nat.sub_zero]
  · rw [if_neg (fun y => z (by omega)), if_neg z]
theorem zs_copy2 (C : zCx E k p l s m args meth cde) (hk : k < 389) {i : Nat} {a : Nat × Nat} {x q n : Int} {n0 n1 : Nat} (hd : decode (zby k) pc = .ok (.invokestatic i, 3)) (hm : zmth (zown k) i = some a) (ha : a.2 = 7) (hht : 0 < zht k) (hlo : 40 + zcats st ≤ zlo k)
    (hlx : zlay x.toNat = some (2, n0)) (hlq : zlay q.toNat = some (2, n1)) (hpn : x.toNat < znx t) (hqn : q.toNat < znx t) (hn : 0 ≤ n ∧ n ≤ (n0 : Int) ∧ n ≤ (n1 : Int)) (h : zSim E k p l e s m args below meth cde ra0 t0 o (pc + 3) ls st (zcopy w x.toNat q.toNat n.toNat) t c) : zSim E k p l e s m args below meth cde ra0 t0 o pc ls ((0, n) :: (0, 0) :: (2, q) :: (0, 0) :: (2, x) :: st) w t c := by
  intro ra lsA H locs cells slots hR
  have hn' : zr32 n := (hR.2.2.1 _ List.mem_cons_self).1 rfl
  have hlk := zsp_ok (zown_lt k hk) hm (by rw [ha]; rfl)
  rw [ha] at hlk
  have hwx := zws_at (E := E) (ra := ra) (w := w) hpn
  have hwq := zws_at (E := E) (ra := ra) (w := w) hqn
  rw [zcel_l hlx] at hwx
  rw [zcel_l hlq] at hwq
  have hst := zrst (zrst (zrst (zrst (zrst hR.2.2.1))))
  have e0 : (Int32.ofInt 0).toNatClampNeg = 0 := rfl
  refine va_copyl (sp := Int32.ofInt 0) (dp := Int32.ofInt 0) C.1 C.2.1 (C.2.2.1.trans hR.1.2.1.symm) C.own (C.wd _ hlk) (va_Nw.use rfl (C.amb.2.2.2.2.2.2.2.2.1 _ zwAn)) (C.wd _ zwAs) (C.wd _ zwAi) C.amb.1 hR.2.2.2.1.1 hR.2.2.2.1.2.1 hR.2.2.2.2.1 x.toNat q.toNat 1 1 hwx hwq (ty := .long) rfl rfl rfl (by decide) (by decide) (fun z => by rw [show (0 : Int32) = Int32.ofInt 0 from rfl, zi_lt hn' z00] at z; omega) (by rw [e0, zi_cn hn' hn.1]; omega) (by rw [e0, zi_cn hn' hn.1]; omega) (fun _ _ => rfl) hht (by rw [zcats_sum]; show zcats st + 18 ≤ zlo k; omega) hd (fun H1 locs1 hP hD hS => ?_)
  refine h ra lsA H1 locs1 cells slots ⟨hR.1, hR.2.1, hst, ?_, hS, hR.2.2.2.2.2⟩
  refine hR.2.2.2.1.copy hpn hqn (fun j => by rw [zsk_arr hlx, zsk_arr hlq]; rfl) ?_ hP hD
  rw [zcel_l hlq, zcopy_at, e0, zi_cn hn' hn.1]
  congr 5
  funext j
  unfold va_cpy
  dsimp only
  by_cases z : j < n.toNat
  · rw [if_pos ⟨Nat.zero_le _, by omega⟩, if_pos z, Nat.zero_add, Nat.sub_zero]
  · rw [if_neg (fun y => z (by omega)), if_neg z]
theorem zs_copy3 (C : zCx E k p l s m args meth cde) (hk : k < 389) {i : Nat} {a : Nat × Nat} {x q n : Int} {n0 n1 : Nat} (hd : decode (zby k) pc = .ok (.invokestatic i, 3)) (hm : zmth (zown k) i = some a) (ha : a.2 = 7) (hht : 0 < zht k) (hlo : 40 + zcats st ≤ zlo k)
    (hlx : zlay x.toNat = some (3, n0)) (hlq : zlay q.toNat = some (3, n1)) (hpn : x.toNat < znx t) (hqn : q.toNat < znx t) (hn : 0 ≤ n ∧ n ≤ (n0 : Int) ∧ n ≤ (n1 : Int)) (h : zSim E k p l e s m args below meth cde ra0 t0 o (pc + 3) ls st (zcopy w x.toNat q.toNat n.toNat) t c) : zSim E k p l e s m args below meth cde ra0 t0 o pc ls ((0, n) :: (0, 0) :: (2, q) :: (0, 0) :: (2, x) :: st) w t c := by
  intro ra lsA H locs cells slots hR
  have hn' : zr32 n := (hR.2.2.1 _ List.mem_cons_self).1 rfl
  have hlk := zsp_ok (zown_lt k hk) hm (by rw [ha]; rfl)
  rw [ha] at hlk
  have hwx := zws_at (E := E) (ra := ra) (w := w) hpn
  have hwq := zws_at (E := E) (ra := ra) (w := w) hqn
  rw [zcel_i hlx (Or.inr (Or.inl rfl))] at hwx
  rw [zcel_i hlq (Or.inr (Or.inl rfl))] at hwq
  have hst := zrst (zrst (zrst (zrst (zrst hR.2.2.1))))
  have e0 : (Int32.ofInt 0).toNatClampNeg = 0 := rfl
  refine va_copyi (sp := Int32.ofInt 0) (dp := Int32.ofInt 0) C.1 C.2.1 (C.2.2.1.trans hR.1.2.1.symm) C.own (C.wd _ hlk) (va_Nw.use rfl (C.amb.2.2.2.2.2.2.2.2.1 _ zwAn)) (C.wd _ zwAs) (C.wd _ zwAi) C.amb.1 hR.2.2.2.1.1 hR.2.2.2.1.2.1 hR.2.2.2.2.1 x.toNat q.toNat 2 2 hwx hwq (ty := .byte) rfl rfl rfl (by decide) (by decide) (fun z => by rw [show (0 : Int32) = Int32.ofInt 0 from rfl, zi_lt hn' z00] at z; omega) (by rw [e0, zi_cn hn' hn.1]; omega) (by rw [e0, zi_cn hn' hn.1]; omega) (fun j _ => by
      have hg := (hR.2.2.2.1.2.2.1 _ hpn ((Int32.ofInt 0).toNatClampNeg + j)).2.2.2.2 (zsk_arr hlx)
      exact zfit8 hg) hht (by rw [zcats_sum]; show zcats st + 18 ≤ zlo k; omega) hd (fun H1 locs1 hP hD hS => ?_)
  refine h ra lsA H1 locs1 cells slots ⟨hR.1, hR.2.1, hst, ?_, hS, hR.2.2.2.2.2⟩
  refine hR.2.2.2.1.copy hpn hqn (fun j => by rw [zsk_arr hlx, zsk_arr hlq]; rfl) ?_ hP hD
  rw [zcel_i hlq (Or.inr (Or.inl rfl)), zcopy_at, e0, zi_cn hn' hn.1]
  congr 4
  funext j
  unfold va_cpy
  dsimp only
  by_cases z : j < n.toNat
  · rw [if_pos ⟨Nat.zero_le _, by omega⟩, if_pos z, Nat.zero_add, Nat.sub_zero]
  · rw [if_neg (fun y => z (by omega)), if_neg z]
theorem zs_copy4 (C : zCx E k p l s m args meth cde) (hk : k < 389) {i : Nat} {a : Nat × Nat} {x q n : Int} {n0 n1 : Nat} (hd : decode (zby k) pc = .ok (.invokestatic i, 3)) (hm : zmth (zown k) i = some a) (ha : a.2 = 7) (hht : 0 < zht k) (hlo : 40 + zcats st ≤ zlo k)
    (hlx : zlay x.toNat = some (4, n0)) (hlq : zlay q.toNat = some (4, n1)) (hpn : x.toNat < znx t) (hqn : q.toNat < znx t) (hn : 0 ≤ n ∧ n ≤ (n0 : Int) ∧ n ≤ (n1 : Int)) (h : zSim E k p l e s m args below meth cde ra0 t0 o (pc + 3) ls st (zcopy w x.toNat q.toNat n.toNat) t c) : zSim E k p l e s m args below meth cde ra0 t0 o pc ls ((0, n) :: (0, 0) :: (2, q) :: (0, 0) :: (2, x) :: st) w t c := by
  intro ra lsA H locs cells slots hR
  have hn' : zr32 n := (hR.2.2.1 _ List.mem_cons_self).1 rfl
  have hlk := zsp_ok (zown_lt k hk) hm (by rw [ha]; rfl)
  rw [ha] at hlk
  have hwx := zws_at (E := E) (ra := ra) (w := w) hpn
  have hwq := zws_at (E := E) (ra := ra) (w := w) hqn
  rw [zcel_i hlx (Or.inr (Or.inr rfl))] at hwx
  rw [zcel_i hlq (Or.inr (Or.inr rfl))] at hwq
  have hst := zrst (zrst (zrst (zrst (zrst hR.2.2.1))))
  have e0 : (Int32.ofInt 0).toNatClampNeg = 0 := rfl
  refine va_copyi (sp := Int32.ofInt 0) (dp := Int32.ofInt 0) C.1 C.2.1 (C.2.2.1.trans hR.1.2.1.symm) C.own (C.wd _ hlk) (va_Nw.use rfl (C.amb.2.2.2.2.2.2.2.2.1 _ zwAn)) (C.wd _ zwAs) (C.wd _ zwAi) C.amb.1 hR.2.2.2.1.1 hR.2.2.2.1.2.1 hR.2.2.2.2.1 x.toNat q.toNat 3 3 hwx hwq (ty := .boolean) rfl rfl rfl (by decide) (by decide) (fun z => by rw [show (0 : Int32) = Int32.ofInt 0 from rfl, zi_lt hn' z00] at z; omega) (by rw [e0, zi_cn hn' hn.1]; omega) (by rw [e0, zi_cn hn' hn.1]; omega) (fun j _ => by
      have hg := (hR.2.2.2.1.2.2.1 _ hpn ((Int32.ofInt 0).toNatClampNeg + j)).2.2.2.1 (zsk_arr hlx)
      exact zfit2 hg) hht (by rw [zcats_sum]; show zcats st + 18 ≤ zlo k; omega) hd (fun H1 locs1 hP hD hS => ?_)
  refine h ra lsA H1 locs1 cells slots ⟨hR.1, hR.2.1, hst, ?_, hS, hR.2.2.2.2.2⟩
  refine hR.2.2.2.1.copy hpn hqn (fun j => by rw [zsk_arr hlx, zsk_arr hlq]; rfl) ?_ hP hD
  rw [zcel_i hlq (Or.inr (Or.inr rfl)), zcopy_at, e0, zi_cn hn' hn.1]
  congr 4
  funext j
  unfold va_cpy
  dsimp only
  by_cases z : j < n.toNat
  · rw [if_pos ⟨Nat.zero_le _, by omega⟩, if_pos z, Nat.zero_add, Nat.sub_zero]
  · rw [if_neg (fun y => z (by omega)), if_neg z]
/-! ordinal -/
theorem zord_sim {x : Int} {E : zE} {p : Program} {l : Launch} {e : Env} {s : State} {m : MethodId} {args : Array Value} {below : List Frame} {meth : Method} {cde : Code} {ra0 : Nat → Nat} {t0 : Nat} (hdec : zDec) (hx : 1000 ≤ x ∧ x < 1015) (C : zCx E zKO p l s m args meth cde) : zSim E zKO p l e s m args below meth cde ra0 t0 ((0, some (0, zwf 0 (x - 1000).toNat)), w, t) 0 (zloc [(2, x)] (zmL zKO)) [] w t c := by
  refine zs_aload_n C (i := 0) (x := (2, x)) (hdec zKO 0 _ _ _ (by decide) rfl).1 rfl (Or.inl rfl) ?_
  refine zs_getE C (by decide) (f := 0) (hdec zKO 1 _ _ _ (by decide) rfl).1 rfl hx ?_
  exact zs_iret C (by decide) (hdec zKO 4 _ _ _ (by decide) rfl).1 rfl rfl
theorem zordv : ∀ i, i < 15 → zwf 0 i = (i : Int) := by decide +kernel
theorem zs_ord (C : zCx E k p l s m args meth cde) (hk : k < 389) (hdec : zDec) {i : Nat} {a : Nat × Nat} {x : Int} (hd : decode (zby k) pc = .ok (.invokevirtual i, 3)) (hm : zmth (zown k) i = some a) (ha : a.2 = 6) (hht : 0 < zht k) (hlo : 28 + zcats st ≤ zlo k) (hx : 1000 ≤ x ∧ x < 1015) (hca : zcats st ≤ 8) (h : zSim E k p l e s m args below meth cde ra0 t0 o (pc + 3) ls ((0, x - 1000) :: st) w t c) : zSim E k p l e s m args below meth cde ra0 t0 o pc ls ((2, x) :: st) w t c := by
  intro ra lsA H locs cells slots hR
  have hlk := zsp_ok (zown_lt k hk) hm (by rw [ha]; rfl)
  rw [ha] at hlk
  obtain ⟨f1, f2, f3, f4, f5, f6, f7⟩ := zMF_all zKO (by decide)
  have hcs := hR.2.2.2.2.2.2.2.2
  have hst := zrst hR.2.2.1
  have hra : ra x.toNat = zEa E (x - 1000).toNat := by
    have := hR.2.2.2.2.2.1.1 (x - 1000).toNat (by omega)
    rw [show 1000 + (x - 1000).toNat = x.toNat by omega] at this
    exact this
  have hcell : ∃ cellB : Cell, H[ra x.toNat]? = some cellB ∧ cellB.vm.isStatics = false ∧ s.vm.findClass "CirclePacker$Word" = some cellB.cls := by
    obtain ⟨cell, c1, c2, c3, c4⟩ := (C.amb.2.2.1.1 (x - 1000).toNat (by omega)).2.kept hR.2.2.2.2.1.2.1
    exact ⟨cell, by rw [hra]; exact c1, c2, c3⟩
  have hM : vx_Met l (zyn zKO) (zcodeW zKO :: zW0) (zroom zKO) (zPc E ra t w [(2, x)]) (zQc E ra t ((0, some (0, zwf 0 (x - 1000).toNat)), w, t)) (zXC E ra t ((0, some (0, zwf 0 (x - 1000).toNat)), w, t)) (zmc zKO) (12 * zmc zKO) (zAf E) :=
    zMet_of (by decide) (by decide +kernel) C.2.2.2.2.2.2.2.2.2.2 hR.2.2.2.2.2.1 (fun v hv => by rw [List.mem_singleton.mp hv]; exact hR.2.2.1 _ List.mem_cons_self) (show 1 ≤ zmL zKO by decide +kernel) (fun p e s m args below meth cde Cy => zord_sim hdec hx Cy)
  have hz0 : zht zKO = 0 := by decide +kernel
  have hz1 : 8 + (zmL zKO + 11) + zlo zKO ≤ 28 := by decide +kernel
  have hcw : va_CU (zroom k) s args (zcn (zown k)) "CirclePacker$Word" "java/lang/Enum" i ⟨"CirclePacker$Word", "ordinal", "()I"⟩ (zyn zKO) (zby zKO) (zmL zKO) (zret zKO) (zcodeW zKO :: zW0) (zroom zKO) (zmc zKO) (12 * zmc zKO) 0 :=
    va_cwU 0 C.wd (zgoodIn (fun w hw => by
      rcases List.mem_append.mp hw with q | q
      · simp only [List.mem_cons, List.not_mem_nil, or_false] at q
        rcases q with q | q | q | q | q
        · rw [q]; exact hlk
        · rw [q]; exact zwRs
        · rw [q]; exact zwRl
        · rw [q]; exact zwRi
        · rw [q]; exact f2
      · exact zcW_all f1 w q)) (zcodeW_0 rfl) rfl rfl rfl ⟨by decide, by decide, by decide +kernel⟩ ⟨by show zht zKO + 1 ≤ zht k; omega, by show 8 + (zmL zKO + 11) + zlo zKO ≤ zlo k; omega⟩
  have hz : zmc zKO = 0 := by decide +kernel
  have hpS := zpreS (As := [(2, x)]) C hR
  have hrun := va_runU (e := e) (below := below) (meth := meth) (locs := locs) (rest := st.map (zv ra)) ⟨C.1, C.2.1, C.2.2.1, C.own, C.wd⟩ (zMet_ret hM rfl) hcw (⟨hpS.1, hcell, hpS.2⟩ : PreV s H "CirclePacker$Word" (ra x.toNat) (zPc E ra t w [(2, x)]) []) (g := F0 m pc lsA (((2, x) :: st).map (zv ra))) rfl rfl hR.1.2.1 rfl (by rw [zcats_sum]; show 2 * 0 + _ ≤ 8; omega) hd (⟨by rw [hz]; show _ ≤ zmc k; omega, by rw [hz]; show _ ≤ 12 * zmc k; omega⟩ : cells + zmc zKO ≤ (zroom k).cells ∧ slots + 12 * zmc zKO ≤ (zroom k).slots)
  refine zW_call C hk (fun pc ins nx mk h => hdec k pc ins nx mk hk h) hR hst (by rw [hz]; exact Nat.zero_le _) (zrun_up hrun) ?_
  have e2 := zordv (x - 1000).toNat (by omega)
  rw [show (((x - 1000).toNat : Nat) : Int) = x - 1000 by omega] at e2
  show zSim E k p l e s m args below meth cde ra0 t0 o (pc + 3) ls ((0, zwf 0 (x - 1000).toNat) :: st) w t (c - zmc zKO)
  rw [e2, hz]
  exact h
end ZLIB
