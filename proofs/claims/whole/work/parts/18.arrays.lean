/-! ===== arrays (written by wip/whole/gen18.py) ===== -/
theorem zcel_i {E : zE} {ra : Nat → Nat} {t p kd n : Nat} {f : Nat → Int} (h : zlay p = some (kd, n)) (hk : kd = 1 ∨ kd = 3 ∨ kd = 4) : zcel E ra t p f = .inl (zEc E kd, n, .inl fun j => Int32.ofInt (f j)) := by
  unfold zcel; rw [h]; rcases hk with e | e | e <;> subst e <;> rfl
theorem zcel_l {E : zE} {ra : Nat → Nat} {t p n : Nat} {f : Nat → Int} (h : zlay p = some (2, n)) : zcel E ra t p f = .inl (zEc E 2, n, .inr (.inl fun j => Int64.ofInt (f j))) := by
  unfold zcel; rw [h]; rfl
theorem zcel_5 {E : zE} {ra : Nat → Nat} {t p n : Nat} {f : Nat → Int} (h : zlay p = some (5, n)) : zcel E ra t p f = .inl (zEc E 5, n, .inr (.inr (.inr (.inr fun j => if f j < 0 then none else some (ra (f j).toNat))))) := by
  unfold zcel; rw [h]; rfl
theorem zcel_6 {E : zE} {ra : Nat → Nat} {t p n : Nat} {f : Nat → Int} (h : zlay p = some (6, n)) : zcel E ra t p f = .inl (zEc E 6, n, .inr (.inr (.inr (.inr fun j => zcase (zptr p j) (fun q => cond (Nat.blt q.2 t) (some (ra q.1)) none) none)))) := by
  unfold zcel; rw [h]; rfl
theorem zsk_arr {p j kd n : Nat} (h : zlay p = some (kd, n)) : zsk p j = cond (Nat.beq kd 0) (zft n j) (cond (Nat.beq kd 3) 8 (cond (Nat.beq kd 4) 4 (cond (Nat.beq kd 5) 3 (cond (Nat.beq kd 6) 2 (kd - 1))))) := by
  unfold zsk; rw [h]; rfl
theorem zifc5 {ra : Nat → Nat} {a y : Int} (e : a = y) (hy : ¬ y < 0) : (if a < 0 then none else some (ra a.toNat)) = some (ra y.toNat) := by subst e; exact if_neg hy
theorem zifc6 {ra : Nat → Nat} {a b : Int} (e : a = b) : (if a < 0 then none else some (ra a.toNat)) = if b < 0 then none else some (ra b.toNat) := by subst e; rfl
theorem zlay_small0 : ∀ p, p < 117 → zcase (zlay p) (fun a => Nat.blt a.2 100000) true = true := by decide +kernel
theorem zlay_lt {p : Nat} {a : Nat × Nat} (h : zlay p = some a) : p < 117 := by
  unfold zlay at h
  cases hb : Nat.blt p 117 with
  | true => exact Nat.blt_eq.mp hb
  | false => rw [hb] at h; cases h
theorem zlay_small {p : Nat} {a : Nat × Nat} (h : zlay p = some a) : a.2 < 100000 := by
  have := zlay_small0 p (zlay_lt h)
  rw [h] at this
  exact Nat.blt_eq.mp this
theorem zsm_ok : ∀ i, i < 15 → zr32 (zsm i) := by
  have h : ∀ i, i < 15 → (decide (0 ≤ zsm i) && decide (zsm i < 100)) = true := by decide +kernel
  intro i hi
  have := h i hi
  simp only [Bool.and_eq_true, decide_eq_true_eq] at this
  exact ⟨by omega, by omega⟩
section ZARRAYS
variable {E : zE} {k : Nat} {p : Program} {l : Launch} {e : Env} {s : State} {m : MethodId} {args : Array Value} {below : List Frame} {meth : Method} {cde : Code} {ra0 : Nat → Nat} {t0 : Nat} {o : zR × zW × Nat} {pc : Nat} {ls st : List zV} {w : zW} {t c : Nat}
theorem zs_iald (C : zCx E k p l s m args meth cde) {i x : Int} {n : Nat} (hd : decode (zby k) pc = .ok (.iaload, 1)) (hl : zlay x.toNat = some (1, n)) (hn : x.toNat < znx t) (hi : 0 ≤ i ∧ i < (n : Int)) (h : zSim E k p l e s m args below meth cde ra0 t0 o (pc + 1) ls ((0, w x.toNat i.toNat) :: st) w t c) : zSim E k p l e s m args below meth cde ra0 t0 o pc ls ((0, i) :: (2, x) :: st) w t c := by
  intro ra lsA H locs cells slots hR
  have hi' : zr32 i := (hR.2.2.1 _ List.mem_cons_self).1 rfl
  have hw := zws_at (E := E) (ra := ra) (w := w) hn
  rw [zcel_i hl (Or.inl rfl)] at hw
  have hg := hR.2.2.2.1.2.2.1 _ hn i.toNat
  rw [zsk_arr hl] at hg
  refine va_iald C.1 C.2.1 C.amb.1 hR.2.2.2.1.1 x.toNat 0 hw rfl (zi_in hi' hi) hd ?_
  rw [zi_cn hi' hi.1]
  exact h ra lsA H locs cells slots (hR.stk (zall1 (zok0 (hg.1 rfl)) (zrst (zrst hR.2.2.1))))
theorem zs_bald (C : zCx E k p l s m args meth cde) {i x : Int} {n : Nat} (hd : decode (zby k) pc = .ok (.baload, 1)) (hl : zlay x.toNat = some (3, n)) (hn : x.toNat < znx t) (hi : 0 ≤ i ∧ i < (n : Int)) (h : zSim E k p l e s m args below meth cde ra0 t0 o (pc + 1) ls ((0, w x.toNat i.toNat) :: st) w t c) : zSim E k p l e s m args below meth cde ra0 t0 o pc ls ((0, i) :: (2, x) :: st) w t c := by
  intro ra lsA H locs cells slots hR
  have hi' : zr32 i := (hR.2.2.1 _ List.mem_cons_self).1 rfl
  have hw := zws_at (E := E) (ra := ra) (w := w) hn
  rw [zcel_i hl (Or.inr (Or.inl rfl))] at hw
  have hg := hR.2.2.2.1.2.2.1 _ hn i.toNat
  rw [zsk_arr hl] at hg
  refine va_bald C.1 C.2.1 C.amb.1 hR.2.2.2.1.1 x.toNat 2 hw rfl (zi_in hi' hi) hd ?_
  rw [zi_cn hi' hi.1]
  exact h ra lsA H locs cells slots (hR.stk (zall1 (zok0 ⟨by have := (hg.2.2.2.2 rfl).1; omega, by have := (hg.2.2.2.2 rfl).2; omega⟩) (zrst (zrst hR.2.2.1))))
theorem zs_zald (C : zCx E k p l s m args meth cde) {i x : Int} {n : Nat} (hd : decode (zby k) pc = .ok (.baload, 1)) (hl : zlay x.toNat = some (4, n)) (hn : x.toNat < znx t) (hi : 0 ≤ i ∧ i < (n : Int)) (h : zSim E k p l e s m args below meth cde ra0 t0 o (pc + 1) ls ((0, w x.toNat i.toNat) :: st) w t c) : zSim E k p l e s m args below meth cde ra0 t0 o pc ls ((0, i) :: (2, x) :: st) w t c := by
  intro ra lsA H locs cells slots hR
  have hi' : zr32 i := (hR.2.2.1 _ List.mem_cons_self).1 rfl
  have hw := zws_at (E := E) (ra := ra) (w := w) hn
  rw [zcel_i hl (Or.inr (Or.inr rfl))] at hw
  have hg := hR.2.2.2.1.2.2.1 _ hn i.toNat
  rw [zsk_arr hl] at hg
  refine va_zald C.1 C.2.1 C.amb.1 hR.2.2.2.1.1 x.toNat 3 hw rfl (zi_in hi' hi) hd ?_
  rw [zi_cn hi' hi.1]
  exact h ra lsA H locs cells slots (hR.stk (zall1 (zok0 ⟨by have := (hg.2.2.2.1 rfl).1; omega, by have := (hg.2.2.2.1 rfl).2; omega⟩) (zrst (zrst hR.2.2.1))))
theorem zs_lald (C : zCx E k p l s m args meth cde) {i x : Int} {n : Nat} (hd : decode (zby k) pc = .ok (.laload, 1)) (hl : zlay x.toNat = some (2, n)) (hn : x.toNat < znx t) (hi : 0 ≤ i ∧ i < (n : Int)) (h : zSim E k p l e s m args below meth cde ra0 t0 o (pc + 1) ls ((1, w x.toNat i.toNat) :: st) w t c) : zSim E k p l e s m args below meth cde ra0 t0 o pc ls ((0, i) :: (2, x) :: st) w t c := by
  intro ra lsA H locs cells slots hR
  have hi' : zr32 i := (hR.2.2.1 _ List.mem_cons_self).1 rfl
  have hw := zws_at (E := E) (ra := ra) (w := w) hn
  rw [zcel_l hl] at hw
  have hg := hR.2.2.2.1.2.2.1 _ hn i.toNat
  rw [zsk_arr hl] at hg
  refine va_lald C.1 C.2.1 C.amb.1 hR.2.2.2.1.1 x.toNat 1 hw rfl (zi_in hi' hi) hd ?_
  rw [zi_cn hi' hi.1]
  exact h ra lsA H locs cells slots (hR.stk (zall1 (zok1 (hg.2.1 rfl)) (zrst (zrst hR.2.2.1))))
theorem zs_smap (C : zCx E k p l s m args meth cde) {i x : Int} (hd : decode (zby k) pc = .ok (.iaload, 1)) (hx : x.toNat = 2001) (hi : 0 ≤ i ∧ i < 15) (h : zSim E k p l e s m args below meth cde ra0 t0 o (pc + 1) ls ((0, zsm i.toNat) :: st) w t c) : zSim E k p l e s m args below meth cde ra0 t0 o pc ls ((0, i) :: (2, x) :: st) w t c := by
  intro ra lsA H locs cells slots hR
  have hi' : zr32 i := (hR.2.2.1 _ List.mem_cons_self).1 rfl
  show W p l e _ s m args below meth cde H locs cells slots _ (F0 m pc lsA (Value.int (Int32.ofInt i) :: Value.ref (ra x.toNat) :: st.map (zv ra)))
  rw [hx, hR.2.2.2.2.2.1.2.2.1]
  refine va_ti C.1 C.2.1 C.amb.2.2.1.2.2.2.2.2.2 hR.2.2.2.2.1 (i := Int32.ofInt i) (zi_in hi' (n := 15) hi) rfl hd ?_
  rw [zi_cn hi' hi.1]
  have hz : zr32 (zsm i.toNat) := zsm_ok _ (by omega)
  exact h ra lsA H locs cells slots (hR.stk (zall1 (zok0 hz) (zrst (zrst hR.2.2.1))))
theorem zs_scr (C : zCx E k p l s m args meth cde) {i x : Int} (hd : decode (zby k) pc = .ok (.iaload, 1)) (hx : x.toNat = 2002) (hi : 0 ≤ i ∧ i < w 2003 0) (h : zSim E k p l e s m args below meth cde ra0 t0 o (pc + 1) ls ((0, w 2002 i.toNat) :: st) w t c) : zSim E k p l e s m args below meth cde ra0 t0 o pc ls ((0, i) :: (2, x) :: st) w t c := by
  intro ra lsA H locs cells slots hR
  have hi' : zr32 i := (hR.2.2.1 _ List.mem_cons_self).1 rfl
  have hL := hR.2.2.2.1.2.2.2.1
  rw [hL] at hi
  have hv := hR.2.2.2.1.2.2.2.2 i.toNat (by omega)
  show W p l e _ s m args below meth cde H locs cells slots _ (F0 m pc lsA (Value.int (Int32.ofInt i) :: Value.ref (ra x.toNat) :: st.map (zv ra)))
  rw [hx, hR.2.2.2.2.2.1.2.2.2]
  refine va_sld C.1 C.2.1 C.amb.2.1.1 (Nat.lt_of_lt_of_le C.amb.2.1.2.1 C.amb.2.1.2.2.1) (Nat.not_le.mpr C.amb.2.1.2.1) hR.2.2.2.2.1 (i := Int32.ofInt i) (zi_in hi' hi) hd ?_
  rw [zi_cn hi' hi.1]
  have h2 := h ra lsA H locs cells slots (hR.stk (zall1 (zok0 (hv ▸ zi_r _)) (zrst (zrst hR.2.2.1))))
  rw [List.map_cons, show zv ra (0, w 2002 i.toNat) = .int (Int32.ofInt (w 2002 i.toNat)) from rfl, hv, zi_o] at h2
  exact h2
theorem zs_wall (C : zCx E k p l s m args meth cde) {i x : Int} (hd : decode (zby k) pc = .ok (.aaload, 1)) (hx : x.toNat = 2000) (hi : 0 ≤ i ∧ i < 15) (h : zSim E k p l e s m args below meth cde ra0 t0 o (pc + 1) ls ((2, 1000 + i) :: st) w t c) : zSim E k p l e s m args below meth cde ra0 t0 o pc ls ((0, i) :: (2, x) :: st) w t c := by
  intro ra lsA H locs cells slots hR
  have hi' : zr32 i := (hR.2.2.1 _ List.mem_cons_self).1 rfl
  show W p l e _ s m args below meth cde H locs cells slots _ (F0 m pc lsA (Value.int (Int32.ofInt i) :: Value.ref (ra x.toNat) :: st.map (zv ra)))
  rw [hx, hR.2.2.2.2.2.1.2.1]
  refine vb_tq C.1 C.2.1 C.amb.2.2.1.2.2.2.2.1 hR.2.2.2.2.1 (i := Int32.ofInt i) (zi_in hi' (n := 15) hi) rfl hd ?_
  rw [zi_cn hi' hi.1]
  have h2 := h ra lsA H locs cells slots (hR.stk (zall1 (zok2 ⟨by omega, Or.inr (Or.inl ⟨by omega, by omega⟩)⟩) (zrst (zrst hR.2.2.1))))
  have e1 := hR.2.2.2.2.2.1.1 i.toNat (by omega)
  rw [List.map_cons, show zv ra (2, 1000 + i) = .ref (ra (1000 + i).toNat) from rfl, show (1000 + i).toNat = 1000 + i.toNat by omega, e1] at h2
  exact h2
theorem zs_ald5 (C : zCx E k p l s m args meth cde) {i x : Int} {n : Nat} (hd : decode (zby k) pc = .ok (.aaload, 1)) (hl : zlay x.toNat = some (5, n)) (hn : x.toNat < znx t) (hi : 0 ≤ i ∧ i < (n : Int)) (h0 : 0 ≤ w x.toNat i.toNat) (h : zSim E k p l e s m args below meth cde ra0 t0 o (pc + 1) ls ((2, w x.toNat i.toNat) :: st) w t c) : zSim E k p l e s m args below meth cde ra0 t0 o pc ls ((0, i) :: (2, x) :: st) w t c := by
  intro ra lsA H locs cells slots hR
  have hi' : zr32 i := (hR.2.2.1 _ List.mem_cons_self).1 rfl
  have hw := zws_at (E := E) (ra := ra) (w := w) hn
  rw [zcel_5 hl] at hw
  have hg := hR.2.2.2.1.2.2.1 _ hn i.toNat
  rw [zsk_arr hl] at hg
  have hg3 : zpl t (w x.toNat i.toNat) := ⟨h0, Or.inr (Or.inl ((hg.2.2.1 rfl).elim (fun q => by omega) id))⟩
  refine va_aldq C.1 C.2.1 C.amb.1 hR.2.2.2.1.1 x.toNat 4 hw rfl (zi_in hi' hi) hd ?_
  rw [zi_cn hi' hi.1, if_neg (by omega)]
  exact h ra lsA H locs cells slots (hR.stk (zall1 (zok2 hg3) (zrst (zrst hR.2.2.1))))
theorem zs_ald6 (C : zCx E k p l s m args meth cde) {i x : Int} {n : Nat} {r : Nat × Nat} (hd : decode (zby k) pc = .ok (.aaload, 1)) (hl : zlay x.toNat = some (6, n)) (hn : x.toNat < znx t) (hi : 0 ≤ i ∧ i < (n : Int)) (hr : zptr x.toNat i.toNat = some r) (hlt : r.2 < t) (h : zSim E k p l e s m args below meth cde ra0 t0 o (pc + 1) ls ((2, (r.1 : Int)) :: st) w t c) : zSim E k p l e s m args below meth cde ra0 t0 o pc ls ((0, i) :: (2, x) :: st) w t c := by
  intro ra lsA H locs cells slots hR
  have hi' : zr32 i := (hR.2.2.1 _ List.mem_cons_self).1 rfl
  have hw := zws_at (E := E) (ra := ra) (w := w) hn
  rw [zcel_6 hl] at hw
  have hp := zptr_ok hr
  have hm := znx_mono (Nat.le_of_lt hlt)
  have hg3 : zpl t (r.1 : Int) := ⟨by omega, Or.inl (by have := hp.1; omega)⟩
  refine va_aldq C.1 C.2.1 C.amb.1 hR.2.2.2.1.1 x.toNat 5 hw rfl (zi_in hi' hi) hd ?_
  rw [zi_cn hi' hi.1, hr]
  simp only [zcase]
  rw [Nat.blt_eq.mpr hlt]
  exact h ra lsA H locs cells slots (hR.stk (zall1 (zok2 hg3) (zrst (zrst hR.2.2.1))))
theorem zs_iast (C : zCx E k p l s m args meth cde) {i x y : Int} {n : Nat} (hd : decode (zby k) pc = .ok (.iastore, 1)) (hl : zlay x.toNat = some (1, n)) (hn : x.toNat < znx t) (hi : 0 ≤ i ∧ i < (n : Int)) (h : zSim E k p l e s m args below meth cde ra0 t0 o (pc + 1) ls st (zupd w x.toNat i.toNat y) t c) : zSim E k p l e s m args below meth cde ra0 t0 o pc ls ((0, y) :: (0, i) :: (2, x) :: st) w t c := by
  intro ra lsA H locs cells slots hR
  have hy := ((hR.2.2.1 _ List.mem_cons_self).1 rfl)
  have hi' : zr32 i := (hR.2.2.1 _ (List.mem_cons_of_mem _ List.mem_cons_self)).1 rfl
  have hw := zws_at (E := E) (ra := ra) (w := w) hn
  rw [zcel_i hl (Or.inl rfl)] at hw
  refine va_iast C.1 C.2.1 C.amb.1 hR.2.2.2.1.1 hR.2.2.2.1.2.1 hR.2.2.2.2.1 x.toNat 0 hw rfl (zi_in hi' hi) hd (fun H1 locs1 hP hD hS => ?_)
  refine h ra lsA H1 locs1 cells slots ⟨hR.1, hR.2.1, zrst (zrst (zrst hR.2.2.1)), ?_, hS, hR.2.2.2.2.2⟩
  refine hR.2.2.2.1.upd hn (by rw [zsk_arr hl]; exact zrg0 hy) ?_ hP hD
  rw [zcel_i hl (Or.inl rfl), zupd_at, zi_cn hi' hi.1]
  congr 4
  funext j
  unfold upd
  dsimp only
  by_cases q : j = i.toNat
  · rw [if_pos q, if_pos q]
  · rw [if_neg q, if_neg q]
theorem zs_bast (C : zCx E k p l s m args meth cde) {i x y : Int} {n : Nat} (hd : decode (zby k) pc = .ok (.bastore, 1)) (hl : zlay x.toNat = some (3, n)) (hn : x.toNat < znx t) (hi : 0 ≤ i ∧ i < (n : Int)) (h : zSim E k p l e s m args below meth cde ra0 t0 o (pc + 1) ls st (zupd w x.toNat i.toNat (z8 y)) t c) : zSim E k p l e s m args below meth cde ra0 t0 o pc ls ((0, y) :: (0, i) :: (2, x) :: st) w t c := by
  intro ra lsA H locs cells slots hR
  have hy := ((hR.2.2.1 _ List.mem_cons_self).1 rfl)
  have hi' : zr32 i := (hR.2.2.1 _ (List.mem_cons_of_mem _ List.mem_cons_self)).1 rfl
  have hw := zws_at (E := E) (ra := ra) (w := w) hn
  rw [zcel_i hl (Or.inr (Or.inl rfl))] at hw
  refine va_bast C.1 C.2.1 C.amb.1 hR.2.2.2.1.1 hR.2.2.2.1.2.1 hR.2.2.2.2.1 x.toNat 2 hw rfl (zi_in hi' hi) hd (fun H1 locs1 hP hD hS => ?_)
  refine h ra lsA H1 locs1 cells slots ⟨hR.1, hR.2.1, zrst (zrst (zrst hR.2.2.1)), ?_, hS, hR.2.2.2.2.2⟩
  refine hR.2.2.2.1.upd hn (by rw [zsk_arr hl]; exact zrg8 (zr8_z y)) ?_ hP hD
  rw [zcel_i hl (Or.inr (Or.inl rfl)), zupd_at, zi_cn hi' hi.1]
  congr 4
  funext j
  unfold upd
  dsimp only
  by_cases q : j = i.toNat
  · rw [if_pos q, if_pos q]; rw [vp_nar_byte]; exact zi_i2b hy
  · rw [if_neg q, if_neg q]
theorem zs_zast (C : zCx E k p l s m args meth cde) {i x y : Int} {n : Nat} (hd : decode (zby k) pc = .ok (.bastore, 1)) (hl : zlay x.toNat = some (4, n)) (hn : x.toNat < znx t) (hi : 0 ≤ i ∧ i < (n : Int)) (h01 : 0 ≤ y ∧ y < 2) (h : zSim E k p l e s m args below meth cde ra0 t0 o (pc + 1) ls st (zupd w x.toNat i.toNat y) t c) : zSim E k p l e s m args below meth cde ra0 t0 o pc ls ((0, y) :: (0, i) :: (2, x) :: st) w t c := by
  intro ra lsA H locs cells slots hR
  have hy := ((hR.2.2.1 _ List.mem_cons_self).1 rfl)
  have hi' : zr32 i := (hR.2.2.1 _ (List.mem_cons_of_mem _ List.mem_cons_self)).1 rfl
  have hw := zws_at (E := E) (ra := ra) (w := w) hn
  rw [zcel_i hl (Or.inr (Or.inr rfl))] at hw
  refine va_zast C.1 C.2.1 C.amb.1 hR.2.2.2.1.1 hR.2.2.2.1.2.1 hR.2.2.2.2.1 x.toNat 3 hw rfl (zi_in hi' hi) hd (fun H1 locs1 hP hD hS => ?_)
  refine h ra lsA H1 locs1 cells slots ⟨hR.1, hR.2.1, zrst (zrst (zrst hR.2.2.1)), ?_, hS, hR.2.2.2.2.2⟩
  refine hR.2.2.2.1.upd hn (by rw [zsk_arr hl]; exact zrg4 h01) ?_ hP hD
  rw [zcel_i hl (Or.inr (Or.inr rfl)), zupd_at, zi_cn hi' hi.1]
  congr 4
  funext j
  unfold upd
  dsimp only
  by_cases q : j = i.toNat
  · rw [if_pos q, if_pos q]; rcases (show y = 0 ∨ y = 1 by omega) with z | z <;> subst z <;> rfl
  · rw [if_neg q, if_neg q]
theorem zs_last (C : zCx E k p l s m args meth cde) {i x y : Int} {n : Nat} (hd : decode (zby k) pc = .ok (.lastore, 1)) (hl : zlay x.toNat = some (2, n)) (hn : x.toNat < znx t) (hi : 0 ≤ i ∧ i < (n : Int)) (h : zSim E k p l e s m args below meth cde ra0 t0 o (pc + 1) ls st (zupd w x.toNat i.toNat y) t c) : zSim E k p l e s m args below meth cde ra0 t0 o pc ls ((1, y) :: (0, i) :: (2, x) :: st) w t c := by
  intro ra lsA H locs cells slots hR
  have hy := ((hR.2.2.1 _ List.mem_cons_self).2.1 rfl)
  have hi' : zr32 i := (hR.2.2.1 _ (List.mem_cons_of_mem _ List.mem_cons_self)).1 rfl
  have hw := zws_at (E := E) (ra := ra) (w := w) hn
  rw [zcel_l hl] at hw
  refine va_last C.1 C.2.1 C.amb.1 hR.2.2.2.1.1 hR.2.2.2.1.2.1 hR.2.2.2.2.1 x.toNat 1 hw rfl (zi_in hi' hi) hd (fun H1 locs1 hP hD hS => ?_)
  refine h ra lsA H1 locs1 cells slots ⟨hR.1, hR.2.1, zrst (zrst (zrst hR.2.2.1)), ?_, hS, hR.2.2.2.2.2⟩
  refine hR.2.2.2.1.upd hn (by rw [zsk_arr hl]; exact zrg1 hy) ?_ hP hD
  rw [zcel_l hl, zupd_at, zi_cn hi' hi.1]
  congr 4
  congr 1
  funext j
  unfold vp_updL
  dsimp only
  by_cases q : j = i.toNat
  · rw [if_pos q, if_pos q]
  · rw [if_neg q, if_neg q]
theorem zs_ast5 (C : zCx E k p l s m args meth cde) {i x y : Int} {n : Nat} (hd : decode (zby k) pc = .ok (.aastore, 1)) (hl : zlay x.toNat = some (5, n)) (hn : x.toNat < znx t) (hi : 0 ≤ i ∧ i < (n : Int)) (hy : 1000 ≤ y ∧ y < 1015) (h : zSim E k p l e s m args below meth cde ra0 t0 o (pc + 1) ls st (zupd w x.toNat i.toNat y) t c) : zSim E k p l e s m args below meth cde ra0 t0 o pc ls ((2, y) :: (0, i) :: (2, x) :: st) w t c := by
  intro ra lsA H locs cells slots hR
  have hi' : zr32 i := (hR.2.2.1 _ (List.mem_cons_of_mem _ List.mem_cons_self)).1 rfl
  have hw := zws_at (E := E) (ra := ra) (w := w) hn
  rw [zcel_5 hl] at hw
  have hra : ra y.toNat = zEa E (y - 1000).toNat := by
    have := hR.2.2.2.2.2.1.1 (y - 1000).toNat (by omega)
    rw [show 1000 + (y - 1000).toNat = y.toNat by omega] at this
    exact this
  obtain ⟨cell, c1, c2, c3, c4⟩ := (C.amb.2.2.1.1 (y - 1000).toNat (by omega)).2.kept hR.2.2.2.2.1.2.1
  refine vb_astq C.1 C.2.1 C.amb.1 hR.2.2.2.1.1 hR.2.2.2.1.2.1 hR.2.2.2.2.1 x.toNat 4 (E := "CirclePacker$Word") (C := "CirclePacker$Word") hw rfl ⟨cell, by rw [hra]; exact c1, c2, c3⟩ vb_asgS (zi_in hi' hi) hd (fun H1 locs1 hP hD hS => ?_)
  refine h ra lsA H1 locs1 cells slots ⟨hR.1, hR.2.1, zrst (zrst (zrst hR.2.2.1)), ?_, hS, hR.2.2.2.2.2⟩
  refine hR.2.2.2.1.upd hn (by rw [zsk_arr hl]; exact zrg3 (Or.inr hy)) ?_ hP hD
  rw [zcel_5 hl, zupd_at, zi_cn hi' hi.1]
  congr 7
  funext j
  unfold va_up
  dsimp only
  by_cases q : j = i.toNat
  · rw [if_pos q]; exact (zifc5 (if_pos q) (by omega)).symm
  · rw [if_neg q]; exact (zifc6 (if_neg q)).symm
theorem zs_ast6 (C : zCx E k p l s m args meth cde) {i x y : Int} {n : Nat} {r : Nat × Nat} (hd : decode (zby k) pc = .ok (.aastore, 1)) (hl : zlay x.toNat = some (6, n)) (hn : x.toNat < znx t) (hi : 0 ≤ i ∧ i < (n : Int)) (hr : zptr x.toNat i.toNat = some r) (hr2 : r.2 = t) (hr1 : r.1 = y.toNat) (hy : zobj y 4 t = true) (hnx : znx (t + 1) = znx t) (h : zSim E k p l e s m args below meth cde ra0 t0 o (pc + 1) ls st w (t + 1) c) : zSim E k p l e s m args below meth cde ra0 t0 o pc ls ((2, y) :: (0, i) :: (2, x) :: st) w t c := by
  intro ra lsA H locs cells slots hR
  have hi' : zr32 i := (hR.2.2.1 _ (List.mem_cons_of_mem _ List.mem_cons_self)).1 rfl
  have hw := zws_at (E := E) (ra := ra) (w := w) hn
  rw [zcel_6 hl] at hw
  obtain ⟨hyl, hyn⟩ := zobj_e hy
  have hwy := zws_at (E := E) (ra := ra) (w := w) hyn
  rw [zcel_obj hyl] at hwy
  have hmono : ∀ v, zvok t v → zvok (t + 1) v := fun v => zvok_mono (by rw [hnx]; exact Nat.le_refl _)
  have hev := (zptr_ok hr).2.2.2.1
  rw [hr2] at hev
  refine va_astq C.1 C.2.1 C.amb.1 hR.2.2.2.1.1 hR.2.2.2.1.2.1 hR.2.2.2.2.1 x.toNat 5 y.toNat 4 (r := (zRX 4, zTX 4, zN 4)) hw rfl hwy (zcl_ok 4 (by decide)) (zi_in hi' hi) hd (fun H1 locs1 hP hD hS => ?_)
  have hE : (zws E ra t w).set x.toNat (ra x.toNat, .inl (zEc E 6, n, .inr (.inr (.inr (.inr (va_up (fun j => zcase (zptr x.toNat j) (fun q => cond (Nat.blt q.2 t) (some (ra q.1)) none) none) (Int32.ofInt i).toNatClampNeg (some (ra y.toNat)))))))) = zws E ra (t + 1) w := by
    refine zws_set hnx hn ?_ (fun q hq hne => zcel_go (fun _ => rfl) (fun j r' hr' => ⟨?_, fun _ => rfl⟩) (fun _ _ _ => rfl))
    · rw [zcel_6 hl, zi_cn hi' hi.1]
      congr 7
      funext j
      unfold va_up
      dsimp only
      by_cases q : j = i.toNat
      · rw [if_pos q, q, hr]
        show some (ra y.toNat) = cond (Nat.blt r.2 (t + 1)) (some (ra r.1)) none
        rw [Nat.blt_eq.mpr (by omega), hr1]; rfl
      · rw [if_neg q]
        cases hr' : zptr x.toNat j with
        | none => rfl
        | some r' =>
          have he := (zptr_ok hr').2.2.2.1
          have : r'.2 ≠ t := fun z => by rw [z, hev] at he; exact q (congrArg Prod.snd he).symm
          show cond (Nat.blt r'.2 t) (some (ra r'.1)) none = cond (Nat.blt r'.2 (t + 1)) (some (ra r'.1)) none
          rw [zbltI (show r'.2 < t ↔ r'.2 < t + 1 by omega)]
    · have he := (zptr_ok hr').2.2.2.1
      have : r'.2 ≠ t := fun z => by rw [z, hev] at he; exact hne (congrArg Prod.fst he).symm
      omega
  rw [hE] at hP hD
  obtain ⟨s1, s2, s3, s4, s5⟩ := hR.2.2.2.1
  exact h ra lsA H1 locs1 cells slots ⟨hR.1, fun j v hv => hmono v (hR.2.1 j v hv), fun v hv => hmono v (zrst (zrst (zrst hR.2.2.1)) v hv), ⟨hP, hD, fun q hq => s3 q (by rw [hnx] at hq; exact hq), s4, s5⟩, hS, hR.2.2.2.2.2.1, hR.2.2.2.2.2.2.1, by rw [hnx]; exact hR.2.2.2.2.2.2.2.1, hR.2.2.2.2.2.2.2.2⟩
theorem zs_len (C : zCx E k p l s m args meth cde) {x : Int} {a : Nat × Nat} (hd : decode (zby k) pc = .ok (.arraylength, 1)) (hl : zlay x.toNat = some a) (h0 : 0 < a.1) (h5 : a.1 < 5) (hn : x.toNat < znx t) (h : zSim E k p l e s m args below meth cde ra0 t0 o (pc + 1) ls ((0, (a.2 : Int)) :: st) w t c) : zSim E k p l e s m args below meth cde ra0 t0 o pc ls ((2, x) :: st) w t c := by
  intro ra lsA H locs cells slots hR
  obtain ⟨kd, n⟩ := a
  have hw := zws_at (E := E) (ra := ra) (w := w) hn
  have hz : zr32 (n : Int) := by have := zlay_small hl; exact ⟨by omega, by omega⟩
  have h2 := h ra lsA H locs cells slots (hR.stk (zall1 (zok0 hz) (zrst hR.2.2.1)))
  have e1 : Int32.ofNat n = Int32.ofInt (n : Int) := Int32.ofInt_eq_ofNat.symm
  have h5' : kd < 5 := h5
  have h0' : 0 < kd := h0
  rcases (show kd = 1 ∨ kd = 2 ∨ kd = 3 ∨ kd = 4 by omega) with e | e | e | e <;> subst e
  · rw [zcel_i hl (Or.inl rfl)] at hw
    exact va_alen C.1 C.2.1 C.amb.1 hR.2.2.2.1.1 x.toNat 0 hw rfl e1 hd h2
  · rw [zcel_l hl] at hw
    exact va_alen C.1 C.2.1 C.amb.1 hR.2.2.2.1.1 x.toNat 1 hw rfl e1 hd h2
  · rw [zcel_i hl (Or.inr (Or.inl rfl))] at hw
    exact va_alen C.1 C.2.1 C.amb.1 hR.2.2.2.1.1 x.toNat 2 hw rfl e1 hd h2
  · rw [zcel_i hl (Or.inr (Or.inr rfl))] at hw
    exact va_alen C.1 C.2.1 C.amb.1 hR.2.2.2.1.1 x.toNat 3 hw rfl e1 hd h2
theorem zs_lenW (C : zCx E k p l s m args meth cde) {x : Int} (hd : decode (zby k) pc = .ok (.arraylength, 1)) (hx : x.toNat = 2000) (h : zSim E k p l e s m args below meth cde ra0 t0 o (pc + 1) ls ((0, 15) :: st) w t c) : zSim E k p l e s m args below meth cde ra0 t0 o pc ls ((2, x) :: st) w t c := by
  intro ra lsA H locs cells slots hR
  show W p l e _ s m args below meth cde H locs cells slots _ (F0 m pc lsA (Value.ref (ra x.toNat) :: st.map (zv ra)))
  rw [hx, hR.2.2.2.2.2.1.2.1]
  exact va_tlen C.1 C.2.1 C.amb.2.2.1.2.2.2.2.1 hR.2.2.2.2.1 rfl hd (h ra lsA H locs cells slots (hR.stk (zall1 (zok0 ⟨by decide, by decide⟩) (zrst hR.2.2.1))))
theorem zs_lenS (C : zCx E k p l s m args meth cde) {x : Int} (hd : decode (zby k) pc = .ok (.arraylength, 1)) (hx : x.toNat = 2002) (h : zSim E k p l e s m args below meth cde ra0 t0 o (pc + 1) ls ((0, w 2003 0) :: st) w t c) : zSim E k p l e s m args below meth cde ra0 t0 o pc ls ((2, x) :: st) w t c := by
  intro ra lsA H locs cells slots hR
  have hL := hR.2.2.2.1.2.2.2.1
  have hle := C.amb.2.1.2.2.2
  show W p l e _ s m args below meth cde H locs cells slots _ (F0 m pc lsA (Value.ref (ra x.toNat) :: st.map (zv ra)))
  rw [hx, hR.2.2.2.2.2.1.2.2.2]
  have h2 := h ra lsA H locs cells slots (hR.stk (zall1 (zok0 (by rw [hL]; exact ⟨by omega, by omega⟩)) (zrst hR.2.2.1)))
  rw [List.map_cons, show zv ra (0, w 2003 0) = .int (Int32.ofInt (w 2003 0)) from rfl, hL, Int32.ofInt_eq_ofNat] at h2
  exact va_slen C.1 C.2.1 C.amb.2.1.1 (Nat.lt_of_lt_of_le C.amb.2.1.2.1 C.amb.2.1.2.2.1) (Nat.not_le.mpr C.amb.2.1.2.1) hR.2.2.2.2.1 hd h2
end ZARRAYS
