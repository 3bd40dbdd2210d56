/-! ===== fields (written by wip/whole/gen16.py) ===== -/
theorem zobj_e {x : Int} {ci t : Nat} (h : zobj x ci t = true) : zlay x.toNat = some (0, ci) ∧ x.toNat < znx t := by
  unfold zobj at h
  cases hl : zlay x.toNat with
  | none => rw [hl] at h; cases h
  | some a =>
    rw [hl] at h
    simp only [zcase, Bool.and_eq_true] at h
    obtain ⟨h1, h2, h3⟩ := h
    exact ⟨congrArg some (Prod.ext (Nat.eq_of_beq_eq_true h1) (Nat.eq_of_beq_eq_true h2)), Nat.blt_eq.mp h3⟩
theorem zcel_obj {E : zE} {ra : Nat → Nat} {t p ci : Nat} {f : Nat → Int} (h : zlay p = some (0, ci)) : zcel E ra t p f = .inr (ci, (List.range (zN ci)).map fun j => zfv ra t p ci j (f j)) := by
  unfold zcel; rw [h]; rfl
theorem zfs_at {n j : Nat} {g : Nat → Value} (h : j < n) : ((List.range n).map g)[j]? = some (g j) := by
  rw [List.getElem?_map, List.getElem?_range h]; rfl
theorem zfs_set {n j : Nat} {g g' : Nat → Value} {v : Value} (hv : v = g' j) (h : ∀ i, i < n → i ≠ j → g' i = g i) : ((List.range n).map g).set j v = (List.range n).map g' := by
  refine List.ext_getElem? fun i => ?_
  by_cases hi : i < n
  · by_cases e : i = j
    · subst e
      rw [List.getElem?_set_self (by simpa using hi), zfs_at hi, hv]
    · rw [List.getElem?_set_ne (Ne.symm e), zfs_at hi, zfs_at hi, h i hi e]
  · rw [List.getElem?_eq_none (by simpa using hi), List.getElem?_eq_none (by simpa using hi)]
theorem zCx.amb {E : zE} {k : Nat} {p : Program} {l : Launch} {s : State} {m : MethodId} {args : Array Value} {meth : Method} {cde : Code} (C : zCx E k p l s m args meth cde) : zAmb E s s.heap := C.2.2.2.2.2.2.2.2.2.1
theorem zCx.wd {E : zE} {k : Nat} {p : Program} {l : Launch} {s : State} {m : MethodId} {args : Array Value} {meth : Method} {cde : Code} (C : zCx E k p l s m args meth cde) : ∀ w ∈ zW0, w.before args s = true := C.2.2.2.2.1
theorem zCx.own {E : zE} {k : Nat} {p : Program} {l : Launch} {s : State} {m : MethodId} {args : Array Value} {meth : Method} {cde : Code} (C : zCx E k p l s m args meth cde) : s.vm.findClass (zcn (zown k)) = some m.cls := C.2.2.2.1
theorem zrg0 {x : Int} (h : zr32 x) : zrg 0 x := ⟨fun _ => h, fun q => zne q rfl, fun q => zne q rfl, fun q => zne q rfl, fun q => zne q rfl⟩
theorem zrg1 {x : Int} (h : zr64 x) : zrg 1 x := ⟨fun q => zne q rfl, fun _ => h, fun q => zne q rfl, fun q => zne q rfl, fun q => zne q rfl⟩
theorem zrg3 {x : Int} (h : x = -1 ∨ (1000 ≤ x ∧ x < 1015)) : zrg 3 x := ⟨fun q => zne q rfl, fun q => zne q rfl, fun _ => h, fun q => zne q rfl, fun q => zne q rfl⟩
theorem zrg4 {x : Int} (h : 0 ≤ x ∧ x < 2) : zrg 4 x := ⟨fun q => zne q rfl, fun q => zne q rfl, fun q => zne q rfl, fun _ => h, fun q => zne q rfl⟩
theorem zrg8 {x : Int} (h : -128 ≤ x ∧ x < 128) : zrg 8 x := ⟨fun q => zne q rfl, fun q => zne q rfl, fun q => zne q rfl, fun q => zne q rfl, fun _ => h⟩
section ZFIELDS
variable {E : zE} {k : Nat} {p : Program} {l : Launch} {e : Env} {s : State} {m : MethodId} {args : Array Value} {below : List Frame} {meth : Method} {cde : Code} {ra0 : Nat → Nat} {t0 : Nat} {o : zR × zW × Nat} {pc : Nat} {ls st : List zV} {w : zW} {t c : Nat}
theorem zft_le0 : ∀ c, c < 12 → ∀ j, j < zN c → Nat.ble (zft c j) 4 = true := by decide +kernel
theorem zft_le (c : Nat) (hc : c < 12) (j : Nat) (hj : j < zN c) (h0 : Nat.beq (zft c j) 0 = false) (h1 : Nat.beq (zft c j) 1 = false) (h2 : Nat.beq (zft c j) 2 = false) (h3 : Nat.beq (zft c j) 3 = false) : zft c j = 4 := by
  have h := Nat.ble_eq.mp (zft_le0 c hc j hj)
  have q : ∀ a, Nat.beq (zft c j) a = false → zft c j ≠ a := fun a z e => by rw [e, Nat.beq_refl] at z; cases z
  have := q 0 h0; have := q 1 h1; have := q 2 h2; have := q 3 h3
  omega
theorem zs_get (C : zCx E k p l s m args meth cde) (hk : k < 389) {i : Nat} {a : Nat × Nat × Nat} {x : Int} {v : zV} (hd : decode (zby k) pc = .ok (.getfield i, 3)) (hf : zfld (zown k) i = some a) (hx : zobj x a.1 t = true)
    (hv : ∀ ra, zfv ra t x.toNat a.1 a.2.1 (w x.toNat a.2.1) = zv ra v) (ho : zrg (zft a.1 a.2.1) (w x.toNat a.2.1) → zvok t v) (h : zSim E k p l e s m args below meth cde ra0 t0 o (pc + 3) ls (v :: st) w t c) : zSim E k p l e s m args below meth cde ra0 t0 o pc ls ((2, x) :: st) w t c := by
  intro ra lsA H locs cells slots hR
  obtain ⟨g1, g2, g3, g4⟩ := zfld_ok (zown_lt k hk) hf
  obtain ⟨hl, hn⟩ := zobj_e hx
  have hw := zws_at (E := E) (ra := ra) (w := w) hn
  rw [zcel_obj hl] at hw
  have hg : zrg (zft a.1 a.2.1) (w x.toNat a.2.1) := by
    have q := hR.2.2.2.1.2.2.1 _ hn a.2.1
    rw [zsk_obj hl rfl] at q
    exact q
  refine va_get C.1 C.2.1 (Ts := zW0) C.wd (zinc_ok _ g1) C.own C.amb.1 hR.2.2.2.1.1 x.toNat hw (zcl_ok _ g1) a.2.1 g2 (C.wd _ g4) (fun y q => by rw [(zfin_ft _ g1 _ g2).2] at q; exact q) (v := zv ra v) (by rw [zfs_at g2, hv ra]) hd ?_
  exact h ra lsA H locs cells slots (hR.stk (zall1 (ho hg) (zrst hR.2.2.1)))
theorem zs_get0 (C : zCx E k p l s m args meth cde) (hk : k < 389) {i : Nat} {a : Nat × Nat × Nat} {x : Int} (hd : decode (zby k) pc = .ok (.getfield i, 3)) (hf : zfld (zown k) i = some a) (hx : zobj x a.1 t = true) (ha : a.2.2 = 0)
    (h : zSim E k p l e s m args below meth cde ra0 t0 o (pc + 3) ls ((0, w x.toNat a.2.1) :: st) w t c) : zSim E k p l e s m args below meth cde ra0 t0 o pc ls ((2, x) :: st) w t c := by
  have g3 := (zfld_ok (zown_lt k hk) hf).2.2.1
  refine zs_get C hk hd hf hx (fun ra => ?_) (fun q => zok0 (q.1 (g3.trans ha))) h
  unfold zfv; rw [g3, ha]; rfl
theorem zs_get1 (C : zCx E k p l s m args meth cde) (hk : k < 389) {i : Nat} {a : Nat × Nat × Nat} {x : Int} (hd : decode (zby k) pc = .ok (.getfield i, 3)) (hf : zfld (zown k) i = some a) (hx : zobj x a.1 t = true) (ha : a.2.2 = 1)
    (h : zSim E k p l e s m args below meth cde ra0 t0 o (pc + 3) ls ((1, w x.toNat a.2.1) :: st) w t c) : zSim E k p l e s m args below meth cde ra0 t0 o pc ls ((2, x) :: st) w t c := by
  have g3 := (zfld_ok (zown_lt k hk) hf).2.2.1
  refine zs_get C hk hd hf hx (fun ra => ?_) (fun q => zok1 (q.2.1 (g3.trans ha))) h
  unfold zfv; rw [g3, ha]; rfl
theorem zs_get2 (C : zCx E k p l s m args meth cde) (hk : k < 389) {i : Nat} {a q : Nat × Nat × Nat} {x : Int} {r : Nat × Nat} (hd : decode (zby k) pc = .ok (.getfield i, 3)) (hf : zfld (zown k) i = some a) (hx : zobj x a.1 t = true) (ha : a.2.2 = 2) (hr : zptr x.toNat a.2.1 = some r) (hlt : r.2 < t)
    (h : zSim E k p l e s m args below meth cde ra0 t0 o (pc + 3) ls ((2, (r.1 : Int)) :: st) w t c) : zSim E k p l e s m args below meth cde ra0 t0 o pc ls ((2, x) :: st) w t c := by
  have g3 := (zfld_ok (zown_lt k hk) hf).2.2.1
  have hp := zptr_ok hr
  have hm := znx_mono (Nat.le_of_lt hlt)
  refine zs_get C hk hd hf hx (fun ra => ?_) (fun _ => zok2 ⟨by omega, Or.inl (by have := hp.1; omega)⟩) h
  unfold zfv; rw [g3, ha, hr]
  show cond (Nat.blt r.2 t) (Value.ref (ra r.1)) .null = _
  rw [Nat.blt_eq.mpr hlt]; rfl
theorem zs_get3 (C : zCx E k p l s m args meth cde) (hk : k < 389) {i : Nat} {a : Nat × Nat × Nat} {x : Int} (hd : decode (zby k) pc = .ok (.getfield i, 3)) (hf : zfld (zown k) i = some a) (hx : zobj x a.1 t = true) (ha : a.2.2 = 3) (h0 : 0 ≤ w x.toNat a.2.1)
    (h : zSim E k p l e s m args below meth cde ra0 t0 o (pc + 3) ls ((2, w x.toNat a.2.1) :: st) w t c) : zSim E k p l e s m args below meth cde ra0 t0 o pc ls ((2, x) :: st) w t c := by
  have g3 := (zfld_ok (zown_lt k hk) hf).2.2.1
  refine zs_get C hk hd hf hx (fun ra => ?_) (fun q => zok2 ⟨h0, Or.inr (Or.inl ?_)⟩) h
  · unfold zfv; rw [g3, ha]
    show (if w x.toNat a.2.1 < 0 then Value.null else _) = _
    rw [if_neg (by omega)]; rfl
  · rcases q.2.2.1 (g3.trans ha) with z | z
    · omega
    · exact z
theorem zs_get4 (C : zCx E k p l s m args meth cde) (hk : k < 389) {i : Nat} {a : Nat × Nat × Nat} {x : Int} (hd : decode (zby k) pc = .ok (.getfield i, 3)) (hf : zfld (zown k) i = some a) (hx : zobj x a.1 t = true) (ha : Nat.beq a.2.2 0 = false) (ha1 : Nat.beq a.2.2 1 = false) (ha2 : Nat.beq a.2.2 2 = false) (ha3 : Nat.beq a.2.2 3 = false)
    (h : zSim E k p l e s m args below meth cde ra0 t0 o (pc + 3) ls ((0, w x.toNat a.2.1) :: st) w t c) : zSim E k p l e s m args below meth cde ra0 t0 o pc ls ((2, x) :: st) w t c := by
  obtain ⟨g1, g2, g3, g4⟩ := zfld_ok (zown_lt k hk) hf
  have h4 : a.2.2 = 4 := by rw [← g3]; rw [← g3] at ha ha1 ha2 ha3; exact zft_le _ g1 _ g2 ha ha1 ha2 ha3
  refine zs_get C hk hd hf hx (fun ra => ?_) (fun q => zok0 ?_) h
  · unfold zfv; rw [g3, h4]; rfl
  · have := q.2.2.2.1 (g3.trans h4)
    exact ⟨by omega, by omega⟩
/-- a field is written -/
theorem zs_put (C : zCx E k p l s m args meth cde) (hk : k < 389) {i : Nat} {a : Nat × Nat × Nat} {x y : Int} {v : zV} (hd : decode (zby k) pc = .ok (.putfield i, 3)) (hf : zfld (zown k) i = some a) (hx : zobj x a.1 t = true) (ha : Nat.beq a.2.2 2 = false)
    (hv : ∀ ra, zv ra v = zfv ra t x.toNat a.1 a.2.1 y) (hfit : ∀ ra, fits (zty a.1 a.2.1) (zv ra v) = true ∧ narrow (zty a.1 a.2.1) (zv ra v) = zv ra v) (hrg : zvok t v → zrg a.2.2 y)
    (h : zSim E k p l e s m args below meth cde ra0 t0 o (pc + 3) ls st (zupd w x.toNat a.2.1 y) t c) : zSim E k p l e s m args below meth cde ra0 t0 o pc ls (v :: (2, x) :: st) w t c := by
  intro ra lsA H locs cells slots hR
  obtain ⟨g1, g2, g3, g4⟩ := zfld_ok (zown_lt k hk) hf
  obtain ⟨hl, hn⟩ := zobj_e hx
  have hw := zws_at (E := E) (ra := ra) (w := w) hn
  rw [zcel_obj hl] at hw
  have hfin : (zTX a.1 a.2.1).2.2.2 = false := by rw [(zfin_ft _ g1 _ g2).1, g3]; exact ha
  refine va_put C.1 C.2.1 (Ts := zW0) C.wd (zinc_ok _ g1) (zty a.1) (zty_ok _ g1) (znm_ok _ g1) C.own C.amb.1 hR.2.2.2.1.1 hR.2.2.2.1.2.1 hR.2.2.2.2.1 x.toNat hw (zcl_ok _ g1) a.2.1 g2 (C.wd _ g4) (fun y q => by rw [(zfin_ft _ g1 _ g2).2] at q; exact q) hfin (zty_ok _ g1 _ g2) (hfit ra).2 (hfit ra).1 (by simpa using g2) hd (fun H1 locs1 hP hD hS => ?_)
  refine h ra lsA H1 locs1 cells slots ⟨hR.1, hR.2.1, zrst (zrst hR.2.2.1), ?_, hS, hR.2.2.2.2.2⟩
  refine hR.2.2.2.1.upd hn (by rw [zsk_obj hl rfl]; show zrg (zft a.1 a.2.1) y; rw [g3]; exact hrg (hR.2.2.1 _ List.mem_cons_self)) ?_ hP hD
  rw [zcel_obj hl, zupd_at]
  congr 2
  refine zfs_set (by dsimp only; rw [if_pos rfl]; exact hv ra) (fun j _ hj => by dsimp only; rw [if_neg hj])
theorem zs_put0 (C : zCx E k p l s m args meth cde) (hk : k < 389) {i : Nat} {a : Nat × Nat × Nat} {x y : Int} (hd : decode (zby k) pc = .ok (.putfield i, 3)) (hf : zfld (zown k) i = some a) (hx : zobj x a.1 t = true) (ha : a.2.2 = 0)
    (h : zSim E k p l e s m args below meth cde ra0 t0 o (pc + 3) ls st (zupd w x.toNat a.2.1 y) t c) : zSim E k p l e s m args below meth cde ra0 t0 o pc ls ((0, y) :: (2, x) :: st) w t c := by
  obtain ⟨g1, g2, g3, g4⟩ := zfld_ok (zown_lt k hk) hf
  have hz := zty_ft _ g1 _ g2
  rw [g3, ha] at hz
  have hz' : zty a.1 a.2.1 = .int := of_decide_eq_true hz
  refine zs_put C hk hd hf hx (by rw [ha]; rfl) (fun ra => ?_) (fun ra => by rw [hz']; exact ⟨rfl, rfl⟩) (fun q => by rw [ha]; exact zrg0 (q.1 rfl)) h
  unfold zfv; rw [g3, ha]; rfl
theorem zs_put1 (C : zCx E k p l s m args meth cde) (hk : k < 389) {i : Nat} {a : Nat × Nat × Nat} {x y : Int} (hd : decode (zby k) pc = .ok (.putfield i, 3)) (hf : zfld (zown k) i = some a) (hx : zobj x a.1 t = true) (ha : a.2.2 = 1)
    (h : zSim E k p l e s m args below meth cde ra0 t0 o (pc + 3) ls st (zupd w x.toNat a.2.1 y) t c) : zSim E k p l e s m args below meth cde ra0 t0 o pc ls ((1, y) :: (2, x) :: st) w t c := by
  obtain ⟨g1, g2, g3, g4⟩ := zfld_ok (zown_lt k hk) hf
  have hz := zty_ft _ g1 _ g2
  rw [g3, ha] at hz
  have hz' : zty a.1 a.2.1 = .long := of_decide_eq_true hz
  refine zs_put C hk hd hf hx (by rw [ha]; rfl) (fun ra => ?_) (fun ra => by rw [hz']; exact ⟨rfl, rfl⟩) (fun q => by rw [ha]; exact zrg1 (q.2.1 rfl)) h
  unfold zfv; rw [g3, ha]; rfl
theorem zref_fit {g : Nat} {ty : FieldType} (hg : g = 2 ∨ g = 3) (h : ztyc g ty = true) (a : Nat) : fits ty (.ref a) = true ∧ narrow ty (.ref a) = .ref a := by
  rcases hg with hg | hg <;> subst hg <;> cases ty <;> first | exact ⟨rfl, rfl⟩ | cases h
theorem zs_put3 (C : zCx E k p l s m args meth cde) (hk : k < 389) {i : Nat} {a : Nat × Nat × Nat} {x y : Int} (hd : decode (zby k) pc = .ok (.putfield i, 3)) (hf : zfld (zown k) i = some a) (hx : zobj x a.1 t = true) (ha : a.2.2 = 3) (hy : 1000 ≤ y ∧ y < 1015)
    (h : zSim E k p l e s m args below meth cde ra0 t0 o (pc + 3) ls st (zupd w x.toNat a.2.1 y) t c) : zSim E k p l e s m args below meth cde ra0 t0 o pc ls ((2, y) :: (2, x) :: st) w t c := by
  obtain ⟨g1, g2, g3, g4⟩ := zfld_ok (zown_lt k hk) hf
  have hz := zty_ft _ g1 _ g2
  rw [g3, ha] at hz
  refine zs_put C hk hd hf hx (by rw [ha]; rfl) (fun ra => ?_) (fun ra => zref_fit (Or.inr rfl) hz _) (fun q => by rw [ha]; exact zrg3 (Or.inr hy)) h
  unfold zfv; rw [g3, ha]
  show _ = if y < 0 then Value.null else _
  rw [if_neg (by omega)]; rfl
theorem zs_put4 (C : zCx E k p l s m args meth cde) (hk : k < 389) {i : Nat} {a : Nat × Nat × Nat} {x y : Int} (hd : decode (zby k) pc = .ok (.putfield i, 3)) (hf : zfld (zown k) i = some a) (hx : zobj x a.1 t = true) (ha : Nat.beq a.2.2 0 = false) (ha1 : Nat.beq a.2.2 1 = false) (ha2 : Nat.beq a.2.2 2 = false) (ha3 : Nat.beq a.2.2 3 = false) (hy : 0 ≤ y ∧ y < 2)
    (h : zSim E k p l e s m args below meth cde ra0 t0 o (pc + 3) ls st (zupd w x.toNat a.2.1 y) t c) : zSim E k p l e s m args below meth cde ra0 t0 o pc ls ((0, y) :: (2, x) :: st) w t c := by
  obtain ⟨g1, g2, g3, g4⟩ := zfld_ok (zown_lt k hk) hf
  have h4 : a.2.2 = 4 := by rw [← g3]; rw [← g3] at ha ha1 ha2 ha3; exact zft_le _ g1 _ g2 ha ha1 ha2 ha3
  have hz := zty_ft _ g1 _ g2
  rw [g3, h4] at hz
  have hz' : zty a.1 a.2.1 = .boolean := of_decide_eq_true hz
  refine zs_put C hk hd hf hx ha2 (fun ra => ?_) (fun ra => ?_) (fun q => by rw [h4]; exact zrg4 hy) h
  · unfold zfv; rw [g3, h4]; rfl
  · rw [hz']
    have h01 : y = 0 ∨ y = 1 := by omega
    rcases h01 with e | e <;> subst e <;> exact ⟨rfl, rfl⟩
/-- a final field is written once -/
theorem zs_putF (C : zCx E k p l s m args meth cde) (hk : k < 389) {i : Nat} {a : Nat × Nat × Nat} {x y : Int} {r : Nat × Nat} (hd : decode (zby k) pc = .ok (.putfield i, 3)) (hf : zfld (zown k) i = some a) (hx : zobj x a.1 t = true) (hi : zini k = true) (hcx : zcix (zown k) = some a.1) (ha : a.2.2 = 2) (hr : zptr x.toNat a.2.1 = some r) (hr2 : r.2 = t) (hr1 : r.1 = y.toNat) (hyn : y.toNat < znx t) (hnx : znx (t + 1) = znx t)
    (h : zSim E k p l e s m args below meth cde ra0 t0 o (pc + 3) ls st w (t + 1) c) : zSim E k p l e s m args below meth cde ra0 t0 o pc ls ((2, y) :: (2, x) :: st) w t c := by
  intro ra lsA H locs cells slots hR
  obtain ⟨g1, g2, g3, g4⟩ := zfld_ok (zown_lt k hk) hf
  obtain ⟨hl, hn⟩ := zobj_e hx
  have hw := zws_at (E := E) (ra := ra) (w := w) hn
  rw [zcel_obj hl] at hw
  have hfin : (zTX a.1 a.2.1).2.2.2 = true := by rw [(zfin_ft _ g1 _ g2).1, g3, ha]; rfl
  have hz := zty_ft _ g1 _ g2
  rw [g3, ha] at hz
  have hev := (zptr_ok hr).2.2.2.1
  rw [hr2] at hev
  have hmono : ∀ v, zvok t v → zvok (t + 1) v := fun v => zvok_mono (by rw [hnx]; exact Nat.le_refl _)
  refine va_putF C.1 C.2.1 (Ts := zW0) C.wd (zinc_ok _ g1) (zty a.1) (zty_ok _ g1) (znm_ok _ g1) C.own C.amb.1 hR.2.2.2.1.1 hR.2.2.2.1.2.1 hR.2.2.2.2.1 x.toNat hw (zcl_ok _ g1) a.2.1 g2 (C.wd _ g4) (fun y q => by rw [(zfin_ft _ g1 _ g2).2] at q; exact q) hfin (C.2.2.2.2.2.2.2.2.1 hi) (by rw [(zfin_ft _ g1 _ g2).2]; exact zcix_ok _ (zown_lt k hk) _ hcx) (v := .ref (ra y.toNat)) (zty_ok _ g1 _ g2) (zref_fit (Or.inl rfl) hz _).2 (zref_fit (Or.inl rfl) hz _).1 (by simpa using g2) hd (fun H1 locs1 hP hD hS => ?_)
  have hE : (zws E ra t w).set x.toNat (ra x.toNat, .inr (a.1, ((List.range (zN a.1)).map fun j => zfv ra t x.toNat a.1 j (w x.toNat j)).set a.2.1 (.ref (ra y.toNat)))) = zws E ra (t + 1) w := by
    refine zws_set hnx hn ?_ (fun q hq hne => zcel_go (fun _ => rfl) (fun j r' hr' => ⟨?_, fun _ => rfl⟩) (fun _ _ _ => rfl))
    · rw [zcel_obj hl]
      congr 2
      refine zfs_set ?_ (fun j _ hj => zfv_go (fun r' hr' => ⟨?_, fun _ => rfl⟩) (fun _ _ => rfl))
      · unfold zfv; rw [g3, ha, hr]
        show _ = cond (Nat.blt r.2 (t + 1)) (Value.ref (ra r.1)) .null
        rw [Nat.blt_eq.mpr (by omega), hr1]; rfl
      · have he := (zptr_ok hr').2.2.2.1
        have : r'.2 ≠ t := fun z => by rw [z, hev] at he; exact hj (congrArg Prod.snd he).symm
        omega
    · have he := (zptr_ok hr').2.2.2.1
      have : r'.2 ≠ t := fun z => by rw [z, hev] at he; exact hne (congrArg Prod.fst he).symm
      omega
  rw [hE] at hP hD
  obtain ⟨s1, s2, s3, s4, s5⟩ := hR.2.2.2.1
  exact h ra lsA H1 locs1 cells slots ⟨hR.1, fun j v hv => hmono v (hR.2.1 j v hv), fun v hv => hmono v (zrst (zrst hR.2.2.1) v hv), ⟨hP, hD, fun q hq => s3 q (by rw [hnx] at hq; exact hq), s4, s5⟩, hS, hR.2.2.2.2.2.1, hR.2.2.2.2.2.2.1, by rw [hnx]; exact hR.2.2.2.2.2.2.2.1, hR.2.2.2.2.2.2.2.2⟩
/-- a constant's own field -/
theorem zs_getE (C : zCx E k p l s m args meth cde) (hk : k < 389) {i f : Nat} {x : Int} (hd : decode (zby k) pc = .ok (.getfield i, 3)) (hf : zfldE (zown k) i = some f) (hx : 1000 ≤ x ∧ x < 1015)
    (h : zSim E k p l e s m args below meth cde ra0 t0 o (pc + 3) ls ((cond (Nat.beq f 1) 1 0, zwf f (x - 1000).toNat) :: st) w t c) : zSim E k p l e s m args below meth cde ra0 t0 o pc ls ((2, x) :: st) w t c := by
  intro ra lsA H locs cells slots hR
  obtain ⟨g1, g2⟩ := zfldE_ok (zown_lt k hk) hf
  have hi : (x - 1000).toNat < 15 := by omega
  have hra : ra x.toNat = zEa E (x - 1000).toNat := by
    have := hR.2.2.2.2.2.1.1 (x - 1000).toNat hi
    rw [show 1000 + (x - 1000).toNat = x.toNat by omega] at this
    exact this
  have hv : zwfv f (x - 1000).toNat = zv ra (cond (Nat.beq f 1) 1 0, zwf f (x - 1000).toNat) := by
    unfold zwfv
    cases Nat.beq f 1 <;> rfl
  have hok : zvok t (cond (Nat.beq f 1) 1 0, zwf f (x - 1000).toNat) := zvok_mono (znx_mono (Nat.zero_le t)) (zwf_ok f g1 _ hi)
  have hk2 := h ra lsA H locs cells slots (hR.stk (zall1 hok (zrst hR.2.2.1)))
  show W p l e _ s m args below meth cde H locs cells slots _ (F0 m pc lsA (Value.ref (ra x.toNat) :: st.map (zv ra)))
  rw [hra]
  rcases g2 with ⟨-, g2⟩ | g2
  · refine va_getX C.1 C.2.1 (N := 15) (v := zwfv f) (ad := zEa E) (i := (x - 1000).toNat) (C.amb.2.2.1.2.1 f g1) hi hR.2.2.2.2.1 C.own (C.wd _ g2) (fun _ q => q) hd ?_
    rw [hv]
    exact hk2
  · obtain ⟨cf, kc, ix, f', cell, h1, h2, h3, h4, h5, h6⟩ := (C.amb.2.2.1.2.1 f g1 _ hi).kept hR.2.2.2.2.1.2.1
    refine va_Wgetf C.1 C.2.1 C.own (va_Nw.use rfl (C.amb.2.2.2.2.2.2.2.1 _ g2)) h1 h2 h3 h4 h5 rfl rfl hd ?_
    rw [hv]
    exact hk2
theorem zs_gets (C : zCx E k p l s m args meth cde) (hk : k < 389) {i q : Nat} (hd : decode (zby k) pc = .ok (.getstatic i, 3)) (hf : zstt (zown k) i = some q)
    (h : zSim E k p l e s m args below meth cde ra0 t0 o (pc + 3) ls ((2, (q : Int)) :: st) w t c) : zSim E k p l e s m args below meth cde ra0 t0 o pc ls st w t c := by
  intro ra lsA H locs cells slots hR
  obtain ⟨g1, g2⟩ := zstt_ok (zown_lt k hk) hf
  have hZ : va_Z (zsn q).1 (zsn q).2.1 (zsn q).2.2 (.ref (ra q)) (zAf E) s s.heap := by
    rcases g1 with e | e | ⟨e1, e2⟩
    · subst e
      rw [hR.2.2.2.2.2.1.2.1]; exact C.amb.2.2.1.2.2.2.1
    · subst e
      rw [hR.2.2.2.2.2.1.2.2.1]; exact C.amb.2.2.1.2.2.2.2.2.1
    · have z := C.amb.2.2.1.1 (q - 1000) (by omega)
      have z2 := hR.2.2.2.2.2.1.1 (q - 1000) (by omega)
      rw [show 1000 + (q - 1000) = q by omega] at z2
      rw [z2]
      unfold zsn
      rw [zbeqF (show q ≠ 2000 by omega), zbeqF (show q ≠ 2001 by omega)]
      simp only [cond_false]
      exact z.1
  have hp : zpl t (q : Int) := ⟨by omega, Or.inr (by omega)⟩
  refine va_gets C.1 C.2.1 hZ hR.2.2.2.2.1 C.own (C.wd _ g2) (fun _ q => q) hd ?_
  exact h ra lsA H locs cells slots (hR.stk (zall1 (zok2 hp) hR.2.2.1))
theorem zs_ldc (C : zCx E k p l s m args meth cde) (hk : k < 389) {i : Nat} {v : Int} (hd : decode (zby k) pc = .ok (.ldc i, 2)) (hf : zkc (zown k) i = some v) (h : zSim E k p l e s m args below meth cde ra0 t0 o (pc + 2) ls ((0, v) :: st) w t c) : zSim E k p l e s m args below meth cde ra0 t0 o pc ls st w t c := by
  intro ra lsA H locs cells slots hR
  obtain ⟨g1, g2⟩ := zkc_ok (zown_lt k hk) hf
  exact lv_ldc C.1 C.2.1 C.own (C.wd _ g2) hd (h ra lsA H locs cells slots (hR.stk (zall1 (zok0 g1) hR.2.2.1)))
theorem zs_ldcw (C : zCx E k p l s m args meth cde) (hk : k < 389) {i : Nat} {v : Int} (hd : decode (zby k) pc = .ok (.ldc_w i, 3)) (hf : zkc (zown k) i = some v) (h : zSim E k p l e s m args below meth cde ra0 t0 o (pc + 3) ls ((0, v) :: st) w t c) : zSim E k p l e s m args below meth cde ra0 t0 o pc ls st w t c := by
  intro ra lsA H locs cells slots hR
  obtain ⟨g1, g2⟩ := zkc_ok (zown_lt k hk) hf
  exact lv_ldcw C.1 C.2.1 C.own (C.wd _ g2) hd (h ra lsA H locs cells slots (hR.stk (zall1 (zok0 g1) hR.2.2.1)))
theorem zs_ldc2 (C : zCx E k p l s m args meth cde) (hk : k < 389) {i : Nat} {v : Int} (hd : decode (zby k) pc = .ok (.ldc2_w i, 3)) (hf : zkl (zown k) i = some v) (h : zSim E k p l e s m args below meth cde ra0 t0 o (pc + 3) ls ((1, v) :: st) w t c) : zSim E k p l e s m args below meth cde ra0 t0 o pc ls st w t c := by
  intro ra lsA H locs cells slots hR
  obtain ⟨g1, g2⟩ := zkl_ok (zown_lt k hk) hf
  exact lv_ldc2 C.1 C.2.1 C.own (C.wd _ g2) hd (h ra lsA H locs cells slots (hR.stk (zall1 (zok1 g1) hR.2.2.1)))
end ZFIELDS
