/-! ===== making arrays and objects; returns; throws ===== -/
/-- the places when one more is made -/
def zrb (ra : Nat → Nat) (p q : Nat) : Nat → Nat := fun i => if i = p then q else ra i
theorem zrb_ne {ra : Nat → Nat} {p q i : Nat} (h : i ≠ p) : zrb ra p q i = ra i := if_neg h
theorem zrb_at (ra : Nat → Nat) (p q : Nat) : zrb ra p q p = q := if_pos rfl
theorem zv_rb {ra : Nat → Nat} {t q : Nat} {v : zV} (h : zvok t v) : zv (zrb ra (znx t) q) v = zv ra v := by
  unfold zv
  congr 1
  congr 1
  cases hb : Nat.beq v.1 2 with
  | false => rfl
  | true =>
    have h2 := h.2.2 (Nat.eq_of_beq_eq_true hb)
    have hn := znx_le t
    show Value.ref (zrb ra (znx t) q v.2.toNat) = Value.ref (ra v.2.toNat)
    have : v.2.toNat ≠ znx t := by
      rcases h2.2 with z | ⟨z, -⟩ | z | z | z <;> omega
    rw [zrb_ne this]
theorem zlv_rb {ra : Nat → Nat} {t q : Nat} {ls : List zV} (h : ∀ (i : Nat) (v : zV), ls[i]? = some v → zvok t v) : zlv (zrb ra (znx t) q) ls = zlv ra ls := by
  unfold zlv
  congr 1
  funext i
  cases hv : ls[i]? with
  | none => rfl
  | some v =>
    show cond (Nat.blt v.1 4) (some (i, zv _ v)) none = cond (Nat.blt v.1 4) (some (i, zv ra v)) none
    rw [zv_rb (h i v hv)]
theorem zst_rb {ra : Nat → Nat} {t q : Nat} {st : List zV} (h : ∀ v ∈ st, zvok t v) : st.map (zv (zrb ra (znx t) q)) = st.map (zv ra) := List.map_congr_left fun v hv => zv_rb (h v hv)
theorem zws_new {E : zE} {ra : Nat → Nat} {t q : Nat} {w : zW} {f : Nat → Int} {e : va_E} (hok : zok t w) (hn : znx (t + 1) = znx t + 1) (he : e = zcel E (zrb ra (znx t) q) (t + 1) (znx t) f) : zws E ra t w ++ [(q, e)] = zws E (zrb ra (znx t) q) (t + 1) (zfill w (znx t) f) := by
  have hle := znx_le t
  refine List.ext_getElem? fun i => ?_
  by_cases hi : i < znx t
  · rw [List.getElem?_append_left (by rw [zws_len]; exact hi), zws_at hi, zws_at (t := t + 1) (by omega), zrb_ne (by omega)]
    congr 2
    symm
    refine zcel_go (fun j => ?_) (fun j r hr => ⟨?_, fun hlt => ?_⟩) (fun j hs h0 => ?_)
    · unfold zfill; rw [if_neg (by omega)]
    · have := (zptr_ok hr).2.2.1
      have : r.2 ≠ t := fun z => by rw [z] at this; omega
      omega
    · have h1 := (zptr_ok hr).1
      have h2 := znx_mono (Nat.le_of_lt hlt)
      exact zrb_ne (by omega)
    · have := (hok i hi j).2.2.1 hs
      exact zrb_ne (by omega)
  · by_cases e1 : i = znx t
    · have ef : zfill w (znx t) f (znx t) = f := by
        funext j
        unfold zfill; rw [if_pos rfl]
      rw [List.getElem?_append_right (by rw [zws_len]; omega), zws_len, e1, Nat.sub_self, zws_at (t := t + 1) (by omega), zrb_at, he, ef]
      rfl
    · rw [List.getElem?_eq_none (by simp only [List.length_append, zws_len, List.length_cons, List.length_nil]; omega), List.getElem?_eq_none (by rw [zws_len]; omega)]
theorem zRel.new {E : zE} {k : Nat} {s : State} {ra0 : Nat → Nat} {t0 : Nat} {ra : Nat → Nat} {ls st : List zV} {w : zW} {t c c' n : Nat} {lsA : Array Slot} {H H1 : Heap} {locs : List Loc} {cells slots q : Nat} {f : Nat → Int} {e : va_E}
    (h : zRel E k s ra0 t0 ra ls st w t c lsA H locs cells slots) (hn : znx (t + 1) = znx t + 1) (he : e = zcel E (zrb ra (znx t) q) (t + 1) (znx t) f) (hrg : ∀ j, zrg (zsk (znx t) j) (f j))
    (hP : va_P (zED E) vwCl (zws E ra t w ++ [(q, e)]) H1) (hD : va_D (zAf E) (zws E ra t w ++ [(q, e)])) (hS : va_S (zAf E) s.heap H1 locs) (hc : 1 + n / 12 ≤ c) (hc' : c' = c - (1 + n / 12)) :
    zRel E k s ra0 t0 (zrb ra (znx t) q) ls ((2, (znx t : Int)) :: st) (zfill w (znx t) f) (t + 1) c' lsA H1 locs (cells + 1) (slots + n) := by
  obtain ⟨h1, h2, h3, ⟨s1, s2, s3, s4, s5⟩, h5, ⟨r1, r2, r3, r4⟩, h7, h8, h9, h10⟩ := h
  rw [zws_new s3 hn he] at hP hD
  have hle := znx_le t
  have hm : ∀ v, zvok t v → zvok (t + 1) v := fun v => zvok_mono (by omega)
  refine ⟨⟨h1.1, by rw [zlv_rb h2]; exact h1.2⟩, fun i v hv => hm v (h2 i v hv), zall1 (zok2 ⟨by omega, Or.inl (by show znx t < znx (t + 1); omega)⟩) fun v hv => hm v (h3 v hv), ⟨hP, hD, ?_, ?_, ?_⟩, hS, ⟨?_, ?_, ?_, ?_⟩, ?_, by omega, by omega, by omega⟩
  · intro p hp j
    unfold zfill
    by_cases e1 : p = znx t
    · subst e1; rw [if_pos rfl]; exact hrg j
    · rw [if_neg e1]; exact s3 p (by omega) j
  · unfold zfill; rw [if_neg (by omega)]; exact s4
  · intro j hj; unfold zfill; rw [if_neg (by omega)]; exact s5 j hj
  · intro i hi; rw [zrb_ne (by omega)]; exact r1 i hi
  · rw [zrb_ne (by omega)]; exact r2
  · rw [zrb_ne (by omega)]; exact r3
  · rw [zrb_ne (by omega)]; exact r4
  · intro p hp; rw [zrb_ne (by omega)]; exact h7 p hp
theorem zrg_0 (g : Nat) (h : g ≠ 3) : zrg g 0 := ⟨fun _ => ⟨by decide, by decide⟩, fun _ => ⟨by decide, by decide⟩, fun q => absurd q h, fun _ => by decide, fun _ => by decide⟩
def zdfc (c j : Nat) : Bool := cond (Nat.beq (zft c j) 3) (decide (zdfl c j = -1)) (decide (zdfl c j = 0))
theorem zdfc_all : ∀ c, c < 12 → ∀ j, j < zN c → zdfc c j = true := by decide +kernel
theorem zdfl_or (c j : Nat) : zdfl c j = 0 ∨ zdfl c j = -1 := by
  unfold zdfl
  cases Nat.beq c 9 with
  | false => exact Or.inl rfl
  | true =>
    show cond (Nat.beq j 4) (-1) 0 = (0 : Int) ∨ _
    cases h : Nat.beq j 4 with
    | false => exact Or.inl rfl
    | true => exact Or.inr (by show cond (Nat.beq j 4) (-1) 0 = (-1 : Int); rw [h]; rfl)
theorem zdfl_rg {c : Nat} (hc : c < 12) (j : Nat) : zrg (zft c j) (zdfl c j) := by
  by_cases hj : j < zN c
  · have h := zdfc_all c hc j hj
    unfold zdfc at h
    cases hb : Nat.beq (zft c j) 3 with
    | true =>
      rw [hb] at h
      have h2 : zdfl c j = -1 := of_decide_eq_true h
      rw [h2, Nat.eq_of_beq_eq_true hb]
      exact zrg3 (Or.inl rfl)
    | false =>
      rw [hb] at h
      have h2 : zdfl c j = 0 := of_decide_eq_true h
      rw [h2]
      exact zrg_0 _ fun z => by rw [z] at hb; cases hb
  · have h0 : zft c j = 0 := by
      unfold zft
      cases hb : Nat.blt j (zN c) with
      | false => rfl
      | true => exact absurd (Nat.blt_eq.mp hb) hj
    rw [h0]
    rcases zdfl_or c j with z | z <;> rw [z] <;> exact zrg0 ⟨by decide, by decide⟩
theorem zdef_fv {ra : Nat → Nat} {t c j : Nat} (hc : c < 12) (hj : j < zN c) : defaultValue (zty c j) = zfv ra (t + 1) (znx t) c j (zdfl c j) := by
  have h := zdfc_all c hc j hj
  have hz := zty_ft c hc j hj
  unfold zdfc at h
  unfold zfv
  unfold ztyc at hz
  cases h0 : Nat.beq (zft c j) 0 with
  | true =>
    have e0 := Nat.eq_of_beq_eq_true h0
    rw [e0] at h hz ⊢
    rw [show zty c j = .int from of_decide_eq_true hz, show zdfl c j = 0 from of_decide_eq_true h]; rfl
  | false =>
    rw [h0] at hz
    cases h1 : Nat.beq (zft c j) 1 with
    | true =>
      have e0 := Nat.eq_of_beq_eq_true h1
      rw [e0] at h hz ⊢
      rw [show zty c j = .long from of_decide_eq_true hz, show zdfl c j = 0 from of_decide_eq_true h]; rfl
    | false =>
      rw [h1] at hz
      cases h4 : Nat.beq (zft c j) 4 with
      | true =>
        have e0 := Nat.eq_of_beq_eq_true h4
        rw [e0] at h hz ⊢
        rw [show zty c j = .boolean from of_decide_eq_true hz, show zdfl c j = 0 from of_decide_eq_true h]; rfl
      | false =>
        rw [h4] at hz
        have hd : defaultValue (zty c j) = .null := by
          cases hy : zty c j <;> rw [hy] at hz <;> first | rfl | cases hz
        rw [hd]
        cases h2 : Nat.beq (zft c j) 2 with
        | true =>
          show Value.null = zcase (zptr (znx t) j) (fun q => cond (Nat.blt q.2 (t + 1)) (Value.ref (ra q.1)) .null) .null
          cases hr : zptr (znx t) j with
          | none => rfl
          | some r =>
            have h5 := znx_lt (zptr_ok hr).2.1
            show Value.null = cond (Nat.blt r.2 (t + 1)) (Value.ref (ra r.1)) .null
            cases hb : Nat.blt r.2 (t + 1) with
            | false => rfl
            | true => have := Nat.blt_eq.mp hb; omega
        | false =>
          cases h3 : Nat.beq (zft c j) 3 with
          | true =>
            rw [h3] at h
            rw [show zdfl c j = -1 from of_decide_eq_true h]; rfl
          | false => exact absurd (zft_le c hc j hj h0 h1 h2 h3) (fun z => by rw [z] at h4; cases h4)
section ZENDS
variable {E : zE} {k : Nat} {p : Program} {l : Launch} {e : Env} {s : State} {m : MethodId} {args : Array Value} {below : List Frame} {meth : Method} {cde : Code} {ra0 : Nat → Nat} {t0 : Nat} {o : zR × zW × Nat} {pc : Nat} {ls st : List zV} {w : zW} {t c : Nat}
theorem zAf_up (C : zCx E k p l s m args meth cde) : ∀ q, s.heap.size ≤ q → zAf E q := fun _ h => Nat.le_trans C.amb.2.1.2.2.1 h
theorem zK_cA {cA : ClassId} {ty : FieldType} (C : zCx E k p l s m args meth cde) {i kd : Nat} (hi : (ztys (zEc E))[i]? = some (zEc E kd, ty)) (h : va_K (zED E) vwCl (ztys (zEc E) ++ [(cA, ty)]) s) : cA = zEc E kd := by
  have h1 := (C.amb.1.2 i _ hi).2
  have h2 := (h.2 (ztys (zEc E)).length (cA, ty) (by rw [List.getElem?_append_right (Nat.le_refl _), Nat.sub_self]; rfl)).2
  cases ty with
  | object D =>
    obtain ⟨k1, c1, -, -, -, g1⟩ := h1
    obtain ⟨k2, c2, -, -, -, g2⟩ := h2
    exact Option.some.inj (g2.symm.trans g1)
  | _ => exact Option.some.inj (Eq.trans (Eq.symm h2) h1)
theorem zs_newa_int (C : zCx E k p l s m args meth cde) {n : Nat} (hd : decode (zby k) pc = .ok (.newarray .int, 2)) (hl : zlay (znx t) = some (1, n)) (hn : znx (t + 1) = znx t + 1) (hc : 1 + n / 12 ≤ c) (h : zSim E k p l e s m args below meth cde ra0 t0 o (pc + 2) ls ((2, (znx t : Int)) :: st) (zfill w (znx t) fun _ => 0) (t + 1) (c - (1 + n / 12))) : zSim E k p l e s m args below meth cde ra0 t0 o pc ls ((0, (n : Int)) :: st) w t c := by
  intro ra lsA H locs cells slots hR
  have hz := zlay_small hl
  have hz1 : n < 100000 := hz
  have hi' : zr32 (n : Int) := ⟨by omega, by omega⟩
  have hcs := hR.2.2.2.2.2.2.2.2
  refine va_newa (atype := .int) C.1 C.2.1 (C.wd _ zar_int) (ty := .int) rfl C.amb.1 hR.2.2.2.1.1 hR.2.2.2.1.2.1 hR.2.2.2.2.1 (zAf_up C) (N' := n) (a0 := (n, .inl fun _ => 0)) (fun cA => rfl) (fun q => by rw [show (0 : Int32) = Int32.ofInt 0 from rfl, zi_lt hi' z00] at q; omega) (by rw [zi_cn hi' (by omega)]; omega) (by rw [show componentBytes .int = 4 from rfl]; omega) (by show cells + 1 ≤ zmc k; omega) (by show slots + n ≤ 12 * zmc k; omega) hd (fun q cA H1 hK hP hD hS => ?_)
  have ecA := zK_cA C (i := 0) (kd := 1) rfl hK
  subst ecA
  have hst := zrst hR.2.2.1
  have hR2 := (hR.stk hst).new (n := n) (q := q) (f := fun _ => 0) hn (by rw [zcel_i hl (Or.inl rfl)]; rfl) (fun j => by rw [zsk_arr hl]; exact zrg_0 0 (by decide)) hP hD hS hc rfl
  have h2 := h (zrb ra (znx t) q) lsA H1 locs (cells + 1) (slots + n) hR2
  rw [List.map_cons, zst_rb hst, show zv (zrb ra (znx t) q) (2, (znx t : Int)) = .ref (zrb ra (znx t) q (znx t)) from rfl, zrb_at] at h2
  exact h2
theorem zs_newa_long (C : zCx E k p l s m args meth cde) {n : Nat} (hd : decode (zby k) pc = .ok (.newarray .long, 2)) (hl : zlay (znx t) = some (2, n)) (hn : znx (t + 1) = znx t + 1) (hc : 1 + n / 12 ≤ c) (h : zSim E k p l e s m args below meth cde ra0 t0 o (pc + 2) ls ((2, (znx t : Int)) :: st) (zfill w (znx t) fun _ => 0) (t + 1) (c - (1 + n / 12))) : zSim E k p l e s m args below meth cde ra0 t0 o pc ls ((0, (n : Int)) :: st) w t c := by
  intro ra lsA H locs cells slots hR
  have hz := zlay_small hl
  have hz1 : n < 100000 := hz
  have hi' : zr32 (n : Int) := ⟨by omega, by omega⟩
  have hcs := hR.2.2.2.2.2.2.2.2
  refine va_newa (atype := .long) C.1 C.2.1 (C.wd _ zar_long) (ty := .long) rfl C.amb.1 hR.2.2.2.1.1 hR.2.2.2.1.2.1 hR.2.2.2.2.1 (zAf_up C) (N' := n) (a0 := (n, .inr (.inl fun _ => 0))) (fun cA => rfl) (fun q => by rw [show (0 : Int32) = Int32.ofInt 0 from rfl, zi_lt hi' z00] at q; omega) (by rw [zi_cn hi' (by omega)]; omega) (by rw [show componentBytes .long = 8 from rfl]; omega) (by show cells + 1 ≤ zmc k; omega) (by show slots + n ≤ 12 * zmc k; omega) hd (fun q cA H1 hK hP hD hS => ?_)
  have ecA := zK_cA C (i := 1) (kd := 2) rfl hK
  subst ecA
  have hst := zrst hR.2.2.1
  have hR2 := (hR.stk hst).new (n := n) (q := q) (f := fun _ => 0) hn (by rw [zcel_l hl]; rfl) (fun j => by rw [zsk_arr hl]; exact zrg_0 1 (by decide)) hP hD hS hc rfl
  have h2 := h (zrb ra (znx t) q) lsA H1 locs (cells + 1) (slots + n) hR2
  rw [List.map_cons, zst_rb hst, show zv (zrb ra (znx t) q) (2, (znx t : Int)) = .ref (zrb ra (znx t) q (znx t)) from rfl, zrb_at] at h2
  exact h2
theorem zs_newa_byte (C : zCx E k p l s m args meth cde) {n : Nat} (hd : decode (zby k) pc = .ok (.newarray .byte, 2)) (hl : zlay (znx t) = some (3, n)) (hn : znx (t + 1) = znx t + 1) (hc : 1 + n / 12 ≤ c) (h : zSim E k p l e s m args below meth cde ra0 t0 o (pc + 2) ls ((2, (znx t : Int)) :: st) (zfill w (znx t) fun _ => 0) (t + 1) (c - (1 + n / 12))) : zSim E k p l e s m args below meth cde ra0 t0 o pc ls ((0, (n : Int)) :: st) w t c := by
  intro ra lsA H locs cells slots hR
  have hz := zlay_small hl
  have hz1 : n < 100000 := hz
  have hi' : zr32 (n : Int) := ⟨by omega, by omega⟩
  have hcs := hR.2.2.2.2.2.2.2.2
  refine va_newa (atype := .byte) C.1 C.2.1 (C.wd _ zar_byte) (ty := .byte) rfl C.amb.1 hR.2.2.2.1.1 hR.2.2.2.1.2.1 hR.2.2.2.2.1 (zAf_up C) (N' := n) (a0 := (n, .inl fun _ => 0)) (fun cA => rfl) (fun q => by rw [show (0 : Int32) = Int32.ofInt 0 from rfl, zi_lt hi' z00] at q; omega) (by rw [zi_cn hi' (by omega)]; omega) (by rw [show componentBytes .byte = 1 from rfl]; omega) (by show cells + 1 ≤ zmc k; omega) (by show slots + n ≤ 12 * zmc k; omega) hd (fun q cA H1 hK hP hD hS => ?_)
  have ecA := zK_cA C (i := 2) (kd := 3) rfl hK
  subst ecA
  have hst := zrst hR.2.2.1
  have hR2 := (hR.stk hst).new (n := n) (q := q) (f := fun _ => 0) hn (by rw [zcel_i hl (Or.inr (Or.inl rfl))]; rfl) (fun j => by rw [zsk_arr hl]; exact zrg_0 8 (by decide)) hP hD hS hc rfl
  have h2 := h (zrb ra (znx t) q) lsA H1 locs (cells + 1) (slots + n) hR2
  rw [List.map_cons, zst_rb hst, show zv (zrb ra (znx t) q) (2, (znx t : Int)) = .ref (zrb ra (znx t) q (znx t)) from rfl, zrb_at] at h2
  exact h2
theorem zs_newa_boolean (C : zCx E k p l s m args meth cde) {n : Nat} (hd : decode (zby k) pc = .ok (.newarray .boolean, 2)) (hl : zlay (znx t) = some (4, n)) (hn : znx (t + 1) = znx t + 1) (hc : 1 + n / 12 ≤ c) (h : zSim E k p l e s m args below meth cde ra0 t0 o (pc + 2) ls ((2, (znx t : Int)) :: st) (zfill w (znx t) fun _ => 0) (t + 1) (c - (1 + n / 12))) : zSim E k p l e s m args below meth cde ra0 t0 o pc ls ((0, (n : Int)) :: st) w t c := by
  intro ra lsA H locs cells slots hR
  have hz := zlay_small hl
  have hz1 : n < 100000 := hz
  have hi' : zr32 (n : Int) := ⟨by omega, by omega⟩
  have hcs := hR.2.2.2.2.2.2.2.2
  refine va_newa (atype := .boolean) C.1 C.2.1 (C.wd _ zar_boolean) (ty := .boolean) rfl C.amb.1 hR.2.2.2.1.1 hR.2.2.2.1.2.1 hR.2.2.2.2.1 (zAf_up C) (N' := n) (a0 := (n, .inl fun _ => 0)) (fun cA => rfl) (fun q => by rw [show (0 : Int32) = Int32.ofInt 0 from rfl, zi_lt hi' z00] at q; omega) (by rw [zi_cn hi' (by omega)]; omega) (by rw [show componentBytes .boolean = 1 from rfl]; omega) (by show cells + 1 ≤ zmc k; omega) (by show slots + n ≤ 12 * zmc k; omega) hd (fun q cA H1 hK hP hD hS => ?_)
  have ecA := zK_cA C (i := 3) (kd := 4) rfl hK
  subst ecA
  have hst := zrst hR.2.2.1
  have hR2 := (hR.stk hst).new (n := n) (q := q) (f := fun _ => 0) hn (by rw [zcel_i hl (Or.inr (Or.inr rfl))]; rfl) (fun j => by rw [zsk_arr hl]; exact zrg_0 4 (by decide)) hP hD hS hc rfl
  have h2 := h (zrb ra (znx t) q) lsA H1 locs (cells + 1) (slots + n) hR2
  rw [List.map_cons, zst_rb hst, show zv (zrb ra (znx t) q) (2, (znx t : Int)) = .ref (zrb ra (znx t) q (znx t)) from rfl, zrb_at] at h2
  exact h2
theorem zs_newq5 (C : zCx E k p l s m args meth cde) {i n : Nat} (hcl : Cond.classLink (zcn (zown k)) i "CirclePacker$Word" ∈ zW0) (hd : decode (zby k) pc = .ok (.anewarray i, 3)) (hl : zlay (znx t) = some (5, n)) (hn : znx (t + 1) = znx t + 1) (hc : 1 + n / 12 ≤ c) (h : zSim E k p l e s m args below meth cde ra0 t0 o (pc + 3) ls ((2, (znx t : Int)) :: st) (zfill w (znx t) fun _ => -1) (t + 1) (c - (1 + n / 12))) : zSim E k p l e s m args below meth cde ra0 t0 o pc ls ((0, (n : Int)) :: st) w t c := by
  intro ra lsA H locs cells slots hR
  have hz := zlay_small hl
  have hz1 : n < 100000 := hz
  have hi' : zr32 (n : Int) := ⟨by omega, by omega⟩
  have hcs := hR.2.2.2.2.2.2.2.2
  refine va_newq C.1 C.2.1 C.own (C.wd _ hcl) C.amb.2.2.2.2.2.2.2.2.2.1 C.amb.1 hR.2.2.2.1.1 hR.2.2.2.1.2.1 hR.2.2.2.2.1 (zAf_up C) (N' := n) (fun q => by rw [show (0 : Int32) = Int32.ofInt 0 from rfl, zi_lt hi' z00] at q; omega) (by rw [zi_cn hi' (by omega)]; omega) (by omega) (by show cells + 1 ≤ zmc k; omega) (by show slots + n ≤ 12 * zmc k; omega) hd (fun q cA H1 hK hP hD hS => ?_)
  have ecA := zK_cA C (i := 4) (kd := 5) rfl hK
  subst ecA
  have hst := zrst hR.2.2.1
  have hcel : (Sum.inl (zEc E 5, n, .inr (.inr (.inr (.inr fun _ => none)))) : va_E) = zcel E (zrb ra (znx t) q) (t + 1) (znx t) (fun _ => -1) := by
    rw [zcel_5 hl]
    congr 6
  have hR2 := (hR.stk hst).new (n := n) (q := q) (f := fun _ => -1) hn hcel (fun j => by rw [zsk_arr hl]; exact zrg3 (Or.inl rfl)) hP hD hS hc rfl
  have h2 := h (zrb ra (znx t) q) lsA H1 locs (cells + 1) (slots + n) hR2
  rw [List.map_cons, zst_rb hst, show zv (zrb ra (znx t) q) (2, (znx t : Int)) = .ref (zrb ra (znx t) q (znx t)) from rfl, zrb_at] at h2
  exact h2
theorem zs_newq6 (C : zCx E k p l s m args meth cde) {i n : Nat} (hcl : Cond.classLink (zcn (zown k)) i "CirclePacker$Packing" ∈ zW0) (hd : decode (zby k) pc = .ok (.anewarray i, 3)) (hl : zlay (znx t) = some (6, n)) (hn : znx (t + 1) = znx t + 1) (hc : 1 + n / 12 ≤ c) (h : zSim E k p l e s m args below meth cde ra0 t0 o (pc + 3) ls ((2, (znx t : Int)) :: st) (zfill w (znx t) fun _ => -1) (t + 1) (c - (1 + n / 12))) : zSim E k p l e s m args below meth cde ra0 t0 o pc ls ((0, (n : Int)) :: st) w t c := by
  intro ra lsA H locs cells slots hR
  have hz := zlay_small hl
  have hz1 : n < 100000 := hz
  have hi' : zr32 (n : Int) := ⟨by omega, by omega⟩
  have hcs := hR.2.2.2.2.2.2.2.2
  refine va_newq C.1 C.2.1 C.own (C.wd _ hcl) C.amb.2.2.2.2.2.2.2.2.2.2 C.amb.1 hR.2.2.2.1.1 hR.2.2.2.1.2.1 hR.2.2.2.2.1 (zAf_up C) (N' := n) (fun q => by rw [show (0 : Int32) = Int32.ofInt 0 from rfl, zi_lt hi' z00] at q; omega) (by rw [zi_cn hi' (by omega)]; omega) (by omega) (by show cells + 1 ≤ zmc k; omega) (by show slots + n ≤ 12 * zmc k; omega) hd (fun q cA H1 hK hP hD hS => ?_)
  have ecA := zK_cA C (i := 5) (kd := 6) rfl hK
  subst ecA
  have hst := zrst hR.2.2.1
  have hcel : (Sum.inl (zEc E 6, n, .inr (.inr (.inr (.inr fun _ => none)))) : va_E) = zcel E (zrb ra (znx t) q) (t + 1) (znx t) (fun _ => -1) := by
    rw [zcel_6 hl]
    congr 7
    funext j
    cases hr : zptr (znx t) j with
    | none => rfl
    | some r =>
      have h5 := znx_lt (zptr_ok hr).2.1
      show none = cond (Nat.blt r.2 (t + 1)) (some _) none
      cases hb : Nat.blt r.2 (t + 1) with
      | false => rfl
      | true => have := Nat.blt_eq.mp hb; omega
  have hR2 := (hR.stk hst).new (n := n) (q := q) (f := fun _ => -1) hn hcel (fun j => by rw [zsk_arr hl]; exact ⟨fun q => zne q rfl, fun q => zne q rfl, fun q => zne q rfl, fun q => zne q rfl, fun q => zne q rfl⟩) hP hD hS hc rfl
  have h2 := h (zrb ra (znx t) q) lsA H1 locs (cells + 1) (slots + n) hR2
  rw [List.map_cons, zst_rb hst, show zv (zrb ra (znx t) q) (2, (znx t : Int)) = .ref (zrb ra (znx t) q (znx t)) from rfl, zrb_at] at h2
  exact h2
theorem zs_new (C : zCx E k p l s m args meth cde) (hk : k < 389) {i ci : Nat} (hd : decode (zby k) pc = .ok (.new i, 3)) (hf : zcls (zown k) i = some ci) (hl : zlay (znx t) = some (0, ci)) (hn : znx (t + 1) = znx t + 1) (hc : 1 + zN ci / 12 ≤ c) (h : zSim E k p l e s m args below meth cde ra0 t0 o (pc + 3) ls ((2, (znx t : Int)) :: st) (zfill w (znx t) (zdfl ci)) (t + 1) (c - (1 + zN ci / 12))) : zSim E k p l e s m args below meth cde ra0 t0 o pc ls st w t c := by
  intro ra lsA H locs cells slots hR
  obtain ⟨g1, g2, g3, g4⟩ := zcls_ok (zown_lt k hk) hf
  have hcs := hR.2.2.2.2.2.2.2.2
  refine va_new C.1 C.2.1 (Ts := zW0) C.wd (zinc_ok _ g1) (zty ci) (zty_ok _ g1) C.own (C.wd _ g2) (C.wd _ g3) (C.wd _ g4) C.amb.1 hR.2.2.2.1.1 hR.2.2.2.1.2.1 hR.2.2.2.2.1 (zAf_up C) (zcl_ok _ g1) (fs := (List.range (zN ci)).map fun j => zfv ra (t + 1) (znx t) ci j (zdfl ci j)) (fun j hj => by unfold vp_V; rw [List.getD_eq_getElem?_getD, zfs_at hj]; exact zdef_fv g1 hj) (by show cells + 1 ≤ zmc k; omega) (by show slots + zN ci ≤ 12 * zmc k; omega) hd (fun q H1 hP hD hS => ?_)
  have hst := hR.2.2.1
  have hcel : (Sum.inr (ci, (List.range (zN ci)).map fun j => zfv ra (t + 1) (znx t) ci j (zdfl ci j)) : va_E) = zcel E (zrb ra (znx t) q) (t + 1) (znx t) (zdfl ci) := by
    rw [zcel_obj hl]
    congr 2
    refine List.map_congr_left fun j hj => ?_
    have hj' := List.mem_range.mp hj
    rw [← zdef_fv g1 hj', ← zdef_fv g1 hj']
  have hR2 := hR.new (n := zN ci) (q := q) (f := zdfl ci) hn hcel (fun j => by rw [zsk_arr hl]; exact zdfl_rg g1 j) hP hD hS hc rfl
  have h2 := h (zrb ra (znx t) q) lsA H1 locs (cells + 1) (slots + zN ci) hR2
  rw [List.map_cons, zst_rb hst, show zv (zrb ra (znx t) q) (2, (znx t : Int)) = .ref (zrb ra (znx t) q (znx t)) from rfl, zrb_at] at h2
  exact h2
/-! returns -/
def zrk (k : Nat) : Bool := match zret k with
  | none => Nat.beq (zrt k) 0
  | some .int => Nat.beq (zrt k) 1
  | some .long => Nat.beq (zrt k) 2
  | some (.object _) => Nat.beq (zrt k) 3
  | some .boolean => Nat.beq (zrt k) 4
  | _ => false
theorem zrk_all : ∀ k, k < 389 → zrk k = true := by decide +kernel
theorem zrk_i (hk : k < 389) (h : zrt k = 1) : zret k = some .int := by
  have q := zrk_all k hk
  unfold zrk at q
  split at q <;> first | (rw [h] at q; first | assumption | cases q) | cases q
theorem zrk_l (hk : k < 389) (h : zrt k = 2) : zret k = some .long := by
  have q := zrk_all k hk
  unfold zrk at q
  split at q <;> first | (rw [h] at q; first | assumption | cases q) | cases q
theorem zrk_v (hk : k < 389) (h : zrt k = 0) : zret k = none := by
  have q := zrk_all k hk
  unfold zrk at q
  split at q <;> first | (rw [h] at q; first | assumption | cases q) | cases q
theorem zrk_z (hk : k < 389) (h : zrt k = 4) : zret k = some .boolean := by
  have q := zrk_all k hk
  unfold zrk at q
  split at q <;> first | (rw [h] at q; first | assumption | cases q) | cases q
theorem zrk_a (hk : k < 389) (h : zrt k = 3) : ∃ n, zret k = some (.object n) := by
  have q := zrk_all k hk
  unfold zrk at q
  split at q <;> first | (rw [h] at q; first | exact ⟨_, by assumption⟩ | cases q) | cases q
theorem zret_ok {ra : Nat → Nat} {lsA : Array Slot} {H : Heap} {locs : List Loc} {cells slots : Nat} {r : Option zV} (hR : zRel E k s ra0 t0 ra ls st w t c lsA H locs cells slots) (hr : ∀ v, r = some v → zvok t v) (ho : o = ((0, r), w, t)) (tt : State) (ht : tt.heap = H) : zQc E ra0 t0 o args s (.returned (r.map (zv ra))) tt := by
  subst ho
  exact ⟨rfl, ra, hR.2.2.2.2.2.2.1, hR.2.2.2.2.2.2.2.1, hR.2.2.2.2.2.1, rfl, hr, by rw [ht]; exact hR.2.2.2.1, hR.2.2.2.2.1.F ht⟩
theorem zs_iret (C : zCx E k p l s m args meth cde) (hk : k < 389) {x : Int} (hd : decode (zby k) pc = .ok (.ireturn, 1)) (hr : zrt k = 1) (ho : o = ((0, some (0, x)), w, t)) : zSim E k p l e s m args below meth cde ra0 t0 o pc ls [(0, x)] w t c := by
  intro ra lsA H locs cells slots hR
  have hcs := hR.2.2.2.2.2.2.2.2
  refine W.widen (k := zmc k) (n := 12 * zmc k) (by omega) (by omega) (vx_ret ?_)
  exact W.iret C.1 C.2.1 (C.2.2.2.2.2.1.trans (zrk_i hk hr)) (fun tt ht _ => zret_ok hR (r := some (0, x)) (fun v hv => by cases hv; exact hR.2.2.1 _ List.mem_cons_self) ho tt ht) hR.2.2.2.2.1.2.2 hd C.2.2.2.2.2.2.1
theorem zs_zret (C : zCx E k p l s m args meth cde) (hk : k < 389) {x : Int} (hd : decode (zby k) pc = .ok (.ireturn, 1)) (hr : zrt k = 4) (h01 : 0 ≤ x ∧ x < 2) (ho : o = ((0, some (0, x)), w, t)) : zSim E k p l e s m args below meth cde ra0 t0 o pc ls [(0, x)] w t c := by
  intro ra lsA H locs cells slots hR
  have hcs := hR.2.2.2.2.2.2.2.2
  refine W.widen (k := zmc k) (n := 12 * zmc k) (by omega) (by omega) (vx_ret ?_)
  exact W.zret C.1 C.2.1 (C.2.2.2.2.2.1.trans (zrk_z hk hr)) (by rcases (show x = 0 ∨ x = 1 by omega) with z | z <;> subst z <;> rfl) (fun tt ht _ => zret_ok hR (r := some (0, x)) (fun v hv => by cases hv; exact hR.2.2.1 _ List.mem_cons_self) ho tt ht) hR.2.2.2.2.1.2.2 hd C.2.2.2.2.2.2.1
theorem zs_lret (C : zCx E k p l s m args meth cde) (hk : k < 389) {x : Int} (hd : decode (zby k) pc = .ok (.lreturn, 1)) (hr : zrt k = 2) (ho : o = ((0, some (1, x)), w, t)) : zSim E k p l e s m args below meth cde ra0 t0 o pc ls [(1, x)] w t c := by
  intro ra lsA H locs cells slots hR
  have hcs := hR.2.2.2.2.2.2.2.2
  refine W.widen (k := zmc k) (n := 12 * zmc k) (by omega) (by omega) (vx_ret ?_)
  exact W.lret C.1 C.2.1 (C.2.2.2.2.2.1.trans (zrk_l hk hr)) (fun tt ht _ => zret_ok hR (r := some (1, x)) (fun v hv => by cases hv; exact hR.2.2.1 _ List.mem_cons_self) ho tt ht) hR.2.2.2.2.1.2.2 hd C.2.2.2.2.2.2.1
theorem zs_vret (C : zCx E k p l s m args meth cde) (hk : k < 389) (hd : decode (zby k) pc = .ok (.return_, 1)) (hr : zrt k = 0) (ho : o = ((0, none), w, t)) : zSim E k p l e s m args below meth cde ra0 t0 o pc ls [] w t c := by
  intro ra lsA H locs cells slots hR
  have hcs := hR.2.2.2.2.2.2.2.2
  refine W.widen (k := zmc k) (n := 12 * zmc k) (by omega) (by omega) (vx_ret ?_)
  exact W.vret C.1 C.2.1 (C.2.2.2.2.2.1.trans (zrk_v hk hr)) (fun tt ht _ => zret_ok hR (r := none) (fun v hv => nomatch hv) ho tt ht) hR.2.2.2.2.1.2.2 hd C.2.2.2.2.2.2.1
theorem zs_aret (C : zCx E k p l s m args meth cde) (hk : k < 389) {v : zV} (hv : v.1 = 2 ∨ v.1 = 3) (hd : decode (zby k) pc = .ok (.areturn, 1)) (hr : zrt k = 3) (ho : o = ((0, some v), w, t)) : zSim E k p l e s m args below meth cde ra0 t0 o pc ls [v] w t c := by
  intro ra lsA H locs cells slots hR
  have hcs := hR.2.2.2.2.2.2.2.2
  obtain ⟨n, hn⟩ := zrk_a hk hr
  obtain ⟨g, y⟩ := v
  refine W.widen (k := zmc k) (n := 12 * zmc k) (by omega) (by omega) (vx_ret ?_)
  refine W.aret C.1 C.2.1 (C.2.2.2.2.2.1.trans hn) (Or.inl ⟨n, rfl⟩) ?_ (fun tt ht _ => zret_ok hR (r := some (g, y)) (fun v hv => by cases hv; exact hR.2.2.1 _ List.mem_cons_self) ho tt ht) hR.2.2.2.2.1.2.2 hd C.2.2.2.2.2.2.1
  rcases hv with hv | hv <;> cases hv
  · exact Or.inr ⟨_, rfl⟩
  · exact Or.inl rfl
/-! throws -/
theorem zSt.kept {ra : Nat → Nat} {H H1 : Heap} (h : zSt E ra t w H) (hq : ∀ q : Nat, q < H.size → H1[q]? = H[q]?) : zSt E ra t w H1 :=
  ⟨h.1.kept fun _ _ hk => hq _ (h.1 _ _ hk).lt, h.2⟩
theorem zxc_ok {ra : Nat → Nat} {lsA : Array Slot} {H : Heap} {locs : List Loc} {cells slots e : Nat} (hR : zRel E k s ra0 t0 ra ls st w t c lsA H locs cells slots) (he : e < 3) (ho : o = ((e + 1, none), w, t)) (tt : State) (hz : H.size ≤ tt.heap.size) (hq : ∀ q : Nat, q < H.size → tt.heap[q]? = H[q]?) : zXC E ra0 t0 o (zEX e) s tt := by
  subst ho
  refine ⟨e, ra, rfl, rfl, he, hR.2.2.2.2.2.2.1, hR.2.2.2.2.2.2.2.1, hR.2.2.2.2.2.1, hR.2.2.2.1.kept hq, Nat.le_trans hR.2.2.2.2.1.1 hz, fun q h1 h2 => ?_⟩
  rw [hq q (Nat.lt_of_lt_of_le h1 hR.2.2.2.2.1.1)]
  exact hR.2.2.2.2.1.2.1 q h1 h2
theorem zcats_sum (ra : Nat → Nat) : ∀ st : List zV, ((st.map (zv ra)).map fun v => v.category).sum = zcats st
  | [] => rfl
  | v :: st => by
    rw [List.map_cons, List.map_cons, List.sum_cons, zcats_sum ra st, zv_cat]
    rfl
theorem zgood_ot {w : Cond} (h : goodWord w = true) : vx_ot w = true := by unfold vx_ot; rw [h, Bool.or_true]
theorem zodd_ot {w : Cond} (h : w ∈ zoddW) : vx_ot w = true := by unfold vx_ot; rw [(zoddW_m h).1, Bool.true_or]
theorem zfit : ∀ e, e < 3 → Bundle.fit (zEX e) = true := by decide +kernel
theorem zs_throw (C : zCx E k p l s m args meth cde) (hk : k < 389) {i j e' : Nat} (d0 : decode (zby k) pc = .ok (.new i, 3)) (d3 : decode (zby k) (pc + 3) = .ok (.dup, 1)) (d4 : decode (zby k) (pc + 4) = .ok (.ldc j, 2)) (d6 : decode (zby k) (pc + 6) = .ok (.invokespecial (ztic e'), 3)) (d9 : decode (zby k) (pc + 9) = .ok (.athrow, 1))
    (ho11 : zown k = 11) (hf : zthr (zown k) i = some e') (hj : zstx j = true) (hx : zexT k = []) (hht : 5 < zht k) (hlo : 82 + zcats st ≤ zlo k) (hc : 1 ≤ c) (ho : o = ((e' + 1, none), w, t)) : zSim E k p l e s m args below meth cde ra0 t0 o pc ls st w t c := by
  intro ra lsA H locs cells slots hR
  obtain ⟨g1, g2, g3⟩ := zthr_ok (zown_lt k hk) hf
  have hcs := hR.2.2.2.2.2.2.2.2
  have hown := C.own
  rw [ho11] at hown g2
  have hx2 : cde.exceptionTable.toList = [] := by rw [C.2.2.2.2.2.2.2.1, hx]; rfl
  refine vx_throwS (A := zAf E) (own := "CirclePacker") (cls := zEX e') (text := zstT j) (names := zup) (sa := zEs E "CirclePacker" j) C.1 C.2.1 C.2.2.2.2.2.2.2.2.2.2 hown (zfit e' g1) (by decide) (C.wd _ g2) (C.wd _ g3) (C.amb.2.2.2.2.2.1 _ _ _ (zstx_ok hj)) (fun w hw => va_Nw.use (zoddW_m (zat_in g1 hw)).1 (C.amb.2.2.2.2.2.2.2.2.1 _ (zat_in g1 hw))) (fun w hw => ?_) C.amb.2.2.2.1 C.amb.2.2.2.2.1 hR.2.2.2.2.1 (hR.1.2.1.trans C.2.2.1.symm) d0 d3 d4 d6 d9 (fun x hxx => by rw [hx2] at hxx; cases hxx) (by show 2 + 3 < zht k; omega) (by rw [zcats_sum]; show zcats st + 82 ≤ zlo k; omega) (by show cells + 1 ≤ zmc k; omega) (by show slots + 6 ≤ 12 * zmc k; omega) C.2.2.2.2.2.2.1 (fun tt _ hz hq => zxc_ok hR g1 ho tt hz hq) hR.2.2.2.2.1.2.2 (by omega) (by omega)
  rcases List.mem_cons.mp hw with z | hw
  · subst z; exact zgood_ot rfl
  rcases List.mem_cons.mp hw with z | hw
  · subst z; exact zgood_ot rfl
  · exact zodd_ot (zat_in g1 hw)
theorem zs_throwW (C : zCx E k p l s m args meth cde) (hk : k < 389) {i j e' : Nat} (d0 : decode (zby k) pc = .ok (.new i, 3)) (d3 : decode (zby k) (pc + 3) = .ok (.dup, 1)) (d4 : decode (zby k) (pc + 4) = .ok (.ldc_w j, 3)) (d6 : decode (zby k) (pc + 7) = .ok (.invokespecial (ztic e'), 3)) (d9 : decode (zby k) (pc + 10) = .ok (.athrow, 1))
    (ho11 : zown k = 11) (hf : zthr (zown k) i = some e') (hj : zstx j = true) (hx : zexT k = []) (hht : 5 < zht k) (hlo : 82 + zcats st ≤ zlo k) (hc : 1 ≤ c) (ho : o = ((e' + 1, none), w, t)) : zSim E k p l e s m args below meth cde ra0 t0 o pc ls st w t c := by
  intro ra lsA H locs cells slots hR
  obtain ⟨g1, g2, g3⟩ := zthr_ok (zown_lt k hk) hf
  have hcs := hR.2.2.2.2.2.2.2.2
  have hown := C.own
  rw [ho11] at hown g2
  have hx2 : cde.exceptionTable.toList = [] := by rw [C.2.2.2.2.2.2.2.1, hx]; rfl
  refine vx_throwSW (A := zAf E) (own := "CirclePacker") (cls := zEX e') (text := zstT j) (names := zup) (sa := zEs E "CirclePacker" j) C.1 C.2.1 C.2.2.2.2.2.2.2.2.2.2 hown (zfit e' g1) (by decide) (C.wd _ g2) (C.wd _ g3) (C.amb.2.2.2.2.2.1 _ _ _ (zstx_ok hj)) (fun w hw => va_Nw.use (zoddW_m (zat_in g1 hw)).1 (C.amb.2.2.2.2.2.2.2.2.1 _ (zat_in g1 hw))) (fun w hw => ?_) C.amb.2.2.2.1 C.amb.2.2.2.2.1 hR.2.2.2.2.1 (hR.1.2.1.trans C.2.2.1.symm) d0 d3 d4 d6 d9 (fun x hxx => by rw [hx2] at hxx; cases hxx) (by show 2 + 3 < zht k; omega) (by rw [zcats_sum]; show zcats st + 82 ≤ zlo k; omega) (by show cells + 1 ≤ zmc k; omega) (by show slots + 6 ≤ 12 * zmc k; omega) C.2.2.2.2.2.2.1 (fun tt _ hz hq => zxc_ok hR g1 ho tt hz hq) hR.2.2.2.2.1.2.2 (by omega) (by omega)
  rcases List.mem_cons.mp hw with z | hw
  · subst z; exact zgood_ot rfl
  rcases List.mem_cons.mp hw with z | hw
  · subst z; exact zgood_ot rfl
  · exact zodd_ot (zat_in g1 hw)
end ZENDS
