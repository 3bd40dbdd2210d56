theorem zcase_s {α : Sort _} {β : Type} (b : β) (f : β → α) (g : α) : zcase (some b) f g = f b := rfl
theorem zcase_n {α : Sort _} {β : Type} (f : β → α) (g : α) : zcase none f g = g := rfl
/-! ===== one step of the machine in small is the machine's (written by wip/whole/gen25.py) ===== -/
theorem zmsk_at : ∀ (bs : List Bool) (vs : List zV) (i : Nat) (v : zV), (zmsk bs vs)[i]? = some v → v = (9, 0) ∨ vs[i]? = some v
  | [], vs, i, v, h => Or.inr (by cases vs <;> exact h)
  | b :: bs, [], i, v, h => Or.inr h
  | b :: bs, u :: vs, i, v, h => by
    have h : (cond b u (9, 0) :: zmsk bs vs)[i]? = some v := h
    cases i with
    | zero =>
      cases b
      · cases h; exact Or.inl rfl
      · exact Or.inr h
    | succ i => exact zmsk_at bs vs i v h
theorem zmsk_len : ∀ (bs : List Bool) (vs : List zV), (zmsk bs vs).length = vs.length
  | [], vs => by cases vs <;> rfl
  | b :: bs, [] => rfl
  | b :: bs, u :: vs => by
    show (zmsk bs vs).length + 1 = vs.length + 1
    rw [zmsk_len bs vs]
theorem zifc_e {i : ClassFile.Instr} {f : ClassFile.Cond → Int → Prop} (h : zifc False i f) : ∃ cd o, i = .ifCond cd o ∧ f cd o := by
  cases i <;> first | exact ⟨_, _, rfl, h⟩ | exact h.elim
theorem zarr_e {x : Int} {kd t : Nat} {f : Nat → Prop} (h : zarr False x kd t f) : ∃ n, zlay x.toNat = some (kd, n) ∧ x.toNat < znx t ∧ f n := by
  obtain ⟨a, ha, h⟩ := zopt_e h
  obtain ⟨hb, h⟩ := zc_e h
  simp only [Bool.and_eq_true] at hb
  refine ⟨a.2, ?_, Nat.blt_eq.mp hb.2, h⟩
  rw [ha, ← Nat.eq_of_beq_eq_true hb.1]
theorem zarrk_int {a : ClassFile.ArrayType} {n : Nat} (h : Nat.beq n (zarrk a) = true) (hn : n < 5) : (a = .int ∧ n = 1) ∨ (a = .long ∧ n = 2) ∨ (a = .byte ∧ n = 3) ∨ (a = .boolean ∧ n = 4) := by
  have e := Nat.eq_of_beq_eq_true h
  subst e
  cases a <;> first | exact Or.inl ⟨rfl, rfl⟩ | exact Or.inr (Or.inl ⟨rfl, rfl⟩) | exact Or.inr (Or.inr (Or.inl ⟨rfl, rfl⟩)) | exact Or.inr (Or.inr (Or.inr ⟨rfl, rfl⟩)) | exact absurd hn (by decide)
theorem zlay5_0 : ∀ p, p < 117 → zcase (zlay p) (fun a => Nat.blt a.1 7) true = true := by decide +kernel
theorem zlay7 {p : Nat} {a : Nat × Nat} (h : zlay p = some a) : a.1 < 7 := by
  have := zlay5_0 p (zlay_lt h)
  rw [h] at this
  exact Nat.blt_eq.mp this
theorem zcb_e {x : Option zI} {f : zI → Bool} (h : zcase x f false = true) : ∃ i n m, x = some (i, n, m) ∧ f (i, n, m) = true := by
  cases x with
  | none => cases h
  | some a => exact ⟨a.1, a.2.1, a.2.2, rfl, h⟩
theorem zidup_e {i : ClassFile.Instr} (h : zidup i = true) : i = .dup := by cases i <;> first | rfl | cases h
theorem ziat_e {i : ClassFile.Instr} (h : ziat i = true) : i = .athrow := by cases i <;> first | rfl | cases h
theorem zisp_e {i : ClassFile.Instr} {j : Nat} (h : zisp i j = true) : i = .invokespecial j := by
  cases i <;> first | (rw [Nat.eq_of_beq_eq_true h]; done) | cases h
theorem zildc_e {i : ClassFile.Instr} {f g : Nat → Bool} (h : zildc i f g = true) : (∃ j, i = .ldc j ∧ f j = true) ∨ (∃ j, i = .ldc_w j ∧ g j = true) := by
  cases i <;> first | exact Or.inl ⟨_, rfl, h⟩ | exact Or.inr ⟨_, rfl, h⟩ | cases h
theorem zarr_lt {a : ClassFile.ArrayType} {kd : Nat} (h : Nat.beq kd (zarrk a) = true) (h7 : kd < 7) : kd < 5 := by
  have e := Nat.eq_of_beq_eq_true h
  subst e
  cases a <;> first | decide | exact absurd h7 (by decide)
section ZSTEP
variable {E : zE} {k : Nat} {p : Program} {l : Launch} {e : Env} {s : State} {m : MethodId} {args : Array Value} {below : List Frame} {meth : Method} {cde : Code} {ra0 : Nat → Nat} {t0 : Nat} {o : zR × zW × Nat} {pc : Nat} {ls st : List zV} {w : zW} {t c : Nat}
theorem zSim.msk {mk : List Bool} (h : zSim E k p l e s m args below meth cde ra0 t0 o pc (zmsk mk ls) st w t c) : zSim E k p l e s m args below meth cde ra0 t0 o pc ls st w t c := by
  intro ra lsA H locs cells slots hR
  refine h ra lsA H locs cells slots ⟨hR.1.fewer (zmsk_len _ _) fun i v hv h4 => ?_, fun i v hv => ?_, hR.2.2⟩
  · rcases zmsk_at _ _ _ _ hv with q | q
    · subst q; exact absurd h4 (by decide)
    · exact q
  · rcases zmsk_at _ _ _ _ hv with q | q
    · subst q; exact zok9
    · exact hR.2.1 i v q
def zcallP (n : Nat) : Nat → List zV → zW → Nat → (zR → zW → Nat → Prop) → Prop := fun y l0 w t K => ∃ o', zrun n y 0 l0 [] w t (zmc y) = some o' ∧ K o'.1 o'.2.1 o'.2.2
theorem zs_invk0 {n i : Nat} (C : zCx E k p l s m args meth cde) (hk : k < 389) (hdec : zDec) (hIH : zIH E l n) (hd : decode (zby k) pc = .ok (.invokevirtual i, 3)) (h : zinvk False (fun pc ls st w t c => zSim E k p l e s m args below meth cde ra0 t0 o pc ls st w t c) (fun r w t => o = (r, w, t)) (zcallP n) k pc i 0 (pc + 3) ls st w t c) : zSim E k p l e s m args below meth cde ra0 t0 o pc ls st w t c := by
  have hh := zopt_e h
  clear h
  obtain ⟨a, hm, h⟩ := hh
  cases b6 : Nat.beq a.2 6 with
  | true =>
    rw [b6, cond_true] at h
    have hh := zp1_e h
    clear h
    obtain ⟨x, r, e1, h⟩ := hh
    have hh := zc_e h
    clear h
    obtain ⟨hb, h⟩ := hh
    have hh := zif_e h
    clear h
    obtain ⟨hx, h⟩ := hh
    simp only [Bool.and_eq_true] at hb
    subst e1
    exact zs_ord C hk hdec hd hm (Nat.eq_of_beq_eq_true b6) (Nat.blt_eq.mp hb.2.2.1) (Nat.ble_eq.mp hb.2.1) hx (Nat.ble_eq.mp hb.2.2.2) h
  | false =>
  rw [b6, cond_false] at h
  cases b7 : Nat.beq a.2 7 with
  | true =>
    rw [b7, cond_true] at h
    have hh := zp1_e h
    clear h
    obtain ⟨n1, r1, e1, h⟩ := hh
    have hh := zp1_e h
    clear h
    obtain ⟨b, r2, e2, h⟩ := hh
    have hh := zp1_e h
    clear h
    obtain ⟨q, r3, e3, h⟩ := hh
    have hh := zp1_e h
    clear h
    obtain ⟨a0, r4, e4, h⟩ := hh
    have hh := zp1_e h
    clear h
    obtain ⟨x, r5, e5, h⟩ := hh
    have hh := zopt_e h
    clear h
    obtain ⟨⟨kx, nx0⟩, hlx, h⟩ := hh
    have hh := zopt_e h
    clear h
    obtain ⟨⟨kq, nq0⟩, hlq, h⟩ := hh
    have hh := zc_e h
    clear h
    obtain ⟨hb, h⟩ := hh
    have hh := zif_e h
    clear h
    obtain ⟨ha0, h⟩ := hh
    have hh := zif_e h
    clear h
    obtain ⟨hb0, h⟩ := hh
    have hh := zif_e h
    clear h
    obtain ⟨hnn, h⟩ := hh
    simp only [Bool.and_eq_true] at hb
    obtain ⟨g1, g2, g3, g4, g5, g6, g7, g8⟩ := hb
    exact absurd g1 (by decide)
  | false =>
  rw [b7, cond_false] at h
  cases b20 : Nat.blt 19 a.2 with
  | true =>
    rw [b20, cond_true] at h
    have hh := zc_e h
    clear h
    obtain ⟨hb, h⟩ := hh
    simp only [Bool.and_eq_true] at hb
    exact absurd hb.1 (by decide)
  | false =>
  rw [b20, cond_false] at h
  cases b8 : Nat.beq a.2 8 with
  | true =>
    rw [b8, cond_true] at h
    have hh := zp1_e h
    clear h
    obtain ⟨x, r, e1, h⟩ := hh
    have hh := zc_e h
    clear h
    obtain ⟨hb, h⟩ := hh
    simp only [Bool.and_eq_true] at hb
    exact absurd hb.1 (by decide)
  | false =>
  rw [b8, cond_false] at h
  have hh := zc_e h
  clear h
  obtain ⟨hb, h⟩ := hh
  simp only [Bool.and_eq_true] at hb
  obtain ⟨y1, y2, y3⟩ := hb
  cases b1 : Nat.beq (a.2 % 5) 1 with
  | true =>
    rw [b1, cond_true] at h
    have hh := zc_e h
    clear h
    obtain ⟨hb, h⟩ := hh
    simp only [Bool.and_eq_true] at hb
    obtain ⟨z1, z2, z3, z4⟩ := hb
    exact absurd z1 (by decide)
  | false =>
  rw [b1, cond_false] at h
  have hh := zopt_e h
  clear h
  obtain ⟨x, hhd, h⟩ := hh
  have hh := zc_e h
  clear h
  obtain ⟨hb, h⟩ := hh
  simp only [Bool.and_eq_true] at hb
  obtain ⟨z0, z1, z2, z3, z4⟩ := hb
  have hx2 := Nat.eq_of_beq_eq_true z0
  cases b2 : Nat.beq (a.2 % 5) 2 with
  | true =>
    rw [b2] at z1
    exact absurd z1 (by decide)
  | false =>
    rw [b2] at z1
    exact zs_invV C hk hdec hIH hm b6 b7 b20 b8 (Nat.ble_eq.mp y1) (Nat.ble_eq.mp y2) (Nat.ble_eq.mp y3) hhd hx2 (Nat.ble_eq.mp z2) (Nat.ble_eq.mp z3) (Nat.ble_eq.mp z4) hd b2 b1 h
theorem zs_invk2 {n i : Nat} (C : zCx E k p l s m args meth cde) (hk : k < 389) (hdec : zDec) (hIH : zIH E l n) (hd : decode (zby k) pc = .ok (.invokespecial i, 3)) (h : zinvk False (fun pc ls st w t c => zSim E k p l e s m args below meth cde ra0 t0 o pc ls st w t c) (fun r w t => o = (r, w, t)) (zcallP n) k pc i 2 (pc + 3) ls st w t c) : zSim E k p l e s m args below meth cde ra0 t0 o pc ls st w t c := by
  have hh := zopt_e h
  clear h
  obtain ⟨a, hm, h⟩ := hh
  cases b6 : Nat.beq a.2 6 with
  | true =>
    rw [b6, cond_true] at h
    have hh := zp1_e h
    clear h
    obtain ⟨x, r, e1, h⟩ := hh
    have hh := zc_e h
    clear h
    obtain ⟨hb, h⟩ := hh
    have hh := zif_e h
    clear h
    obtain ⟨hx, h⟩ := hh
    simp only [Bool.and_eq_true] at hb
    exact absurd hb.1 (by decide)
  | false =>
  rw [b6, cond_false] at h
  cases b7 : Nat.beq a.2 7 with
  | true =>
    rw [b7, cond_true] at h
    have hh := zp1_e h
    clear h
    obtain ⟨n1, r1, e1, h⟩ := hh
    have hh := zp1_e h
    clear h
    obtain ⟨b, r2, e2, h⟩ := hh
    have hh := zp1_e h
    clear h
    obtain ⟨q, r3, e3, h⟩ := hh
    have hh := zp1_e h
    clear h
    obtain ⟨a0, r4, e4, h⟩ := hh
    have hh := zp1_e h
    clear h
    obtain ⟨x, r5, e5, h⟩ := hh
    have hh := zopt_e h
    clear h
    obtain ⟨⟨kx, nx0⟩, hlx, h⟩ := hh
    have hh := zopt_e h
    clear h
    obtain ⟨⟨kq, nq0⟩, hlq, h⟩ := hh
    have hh := zc_e h
    clear h
    obtain ⟨hb, h⟩ := hh
    have hh := zif_e h
    clear h
    obtain ⟨ha0, h⟩ := hh
    have hh := zif_e h
    clear h
    obtain ⟨hb0, h⟩ := hh
    have hh := zif_e h
    clear h
    obtain ⟨hnn, h⟩ := hh
    simp only [Bool.and_eq_true] at hb
    obtain ⟨g1, g2, g3, g4, g5, g6, g7, g8⟩ := hb
    exact absurd g1 (by decide)
  | false =>
  rw [b7, cond_false] at h
  cases b20 : Nat.blt 19 a.2 with
  | true =>
    rw [b20, cond_true] at h
    have hh := zc_e h
    clear h
    obtain ⟨hb, h⟩ := hh
    simp only [Bool.and_eq_true] at hb
    exact absurd hb.1 (by decide)
  | false =>
  rw [b20, cond_false] at h
  cases b8 : Nat.beq a.2 8 with
  | true =>
    rw [b8, cond_true] at h
    have hh := zp1_e h
    clear h
    obtain ⟨x, r, e1, h⟩ := hh
    have hh := zc_e h
    clear h
    obtain ⟨hb, h⟩ := hh
    simp only [Bool.and_eq_true] at hb
    subst e1
    exact zs_oinit C hk hd hm (Nat.eq_of_beq_eq_true b8) (Nat.blt_eq.mp hb.2.1) (Nat.ble_eq.mp hb.2.2) h
  | false =>
  rw [b8, cond_false] at h
  have hh := zc_e h
  clear h
  obtain ⟨hb, h⟩ := hh
  simp only [Bool.and_eq_true] at hb
  obtain ⟨y1, y2, y3⟩ := hb
  cases b1 : Nat.beq (a.2 % 5) 1 with
  | true =>
    rw [b1, cond_true] at h
    have hh := zc_e h
    clear h
    obtain ⟨hb, h⟩ := hh
    simp only [Bool.and_eq_true] at hb
    obtain ⟨z1, z2, z3, z4⟩ := hb
    exact absurd z1 (by decide)
  | false =>
  rw [b1, cond_false] at h
  have hh := zopt_e h
  clear h
  obtain ⟨x, hhd, h⟩ := hh
  have hh := zc_e h
  clear h
  obtain ⟨hb, h⟩ := hh
  simp only [Bool.and_eq_true] at hb
  obtain ⟨z0, z1, z2, z3, z4⟩ := hb
  have hx2 := Nat.eq_of_beq_eq_true z0
  cases b2 : Nat.beq (a.2 % 5) 2 with
  | true =>
    rw [b2] at z1
    exact zs_invI C hk hdec hIH hm b6 b7 b20 b8 (Nat.ble_eq.mp y1) (Nat.ble_eq.mp y2) (Nat.ble_eq.mp y3) hhd hx2 (Nat.ble_eq.mp z2) (Nat.ble_eq.mp z3) (Nat.ble_eq.mp z4) hd b2 h
  | false =>
    rw [b2] at z1
    exact absurd z1 (by decide)
theorem zs_invk1 {n i : Nat} (C : zCx E k p l s m args meth cde) (hk : k < 389) (hdec : zDec) (hIH : zIH E l n) (hd : decode (zby k) pc = .ok (.invokestatic i, 3)) (h : zinvk False (fun pc ls st w t c => zSim E k p l e s m args below meth cde ra0 t0 o pc ls st w t c) (fun r w t => o = (r, w, t)) (zcallP n) k pc i 1 (pc + 3) ls st w t c) : zSim E k p l e s m args below meth cde ra0 t0 o pc ls st w t c := by
  have hh := zopt_e h
  clear h
  obtain ⟨a, hm, h⟩ := hh
  cases b6 : Nat.beq a.2 6 with
  | true =>
    rw [b6, cond_true] at h
    have hh := zp1_e h
    clear h
    obtain ⟨x, r, e1, h⟩ := hh
    have hh := zc_e h
    clear h
    obtain ⟨hb, h⟩ := hh
    have hh := zif_e h
    clear h
    obtain ⟨hx, h⟩ := hh
    simp only [Bool.and_eq_true] at hb
    exact absurd hb.1 (by decide)
  | false =>
  rw [b6, cond_false] at h
  cases b7 : Nat.beq a.2 7 with
  | true =>
    rw [b7, cond_true] at h
    have hh := zp1_e h
    clear h
    obtain ⟨n1, r1, e1, h⟩ := hh
    have hh := zp1_e h
    clear h
    obtain ⟨b, r2, e2, h⟩ := hh
    have hh := zp1_e h
    clear h
    obtain ⟨q, r3, e3, h⟩ := hh
    have hh := zp1_e h
    clear h
    obtain ⟨a0, r4, e4, h⟩ := hh
    have hh := zp1_e h
    clear h
    obtain ⟨x, r5, e5, h⟩ := hh
    have hh := zopt_e h
    clear h
    obtain ⟨⟨kx, nx0⟩, hlx, h⟩ := hh
    have hh := zopt_e h
    clear h
    obtain ⟨⟨kq, nq0⟩, hlq, h⟩ := hh
    have hh := zc_e h
    clear h
    obtain ⟨hb, h⟩ := hh
    have hh := zif_e h
    clear h
    obtain ⟨ha0, h⟩ := hh
    have hh := zif_e h
    clear h
    obtain ⟨hb0, h⟩ := hh
    have hh := zif_e h
    clear h
    obtain ⟨hnn, h⟩ := hh
    simp only [Bool.and_eq_true] at hb
    obtain ⟨g1, g2, g3, g4, g5, g6, g7, g8⟩ := hb
    subst e1; subst e2; subst e3; subst e4; subst e5; subst ha0; subst hb0
    have q1 : kx = kq := Nat.eq_of_beq_eq_true g2
    subst q1
    have q2 : 0 < kx := Nat.blt_eq.mp g3
    have q3 : kx < 5 := Nat.blt_eq.mp g4
    rcases (show kx = 1 ∨ kx = 2 ∨ kx = 3 ∨ kx = 4 by omega) with z | z | z | z <;> subst z
    · exact zs_copy1 C hk hd hm (Nat.eq_of_beq_eq_true b7) (Nat.blt_eq.mp g7) (Nat.ble_eq.mp g8) hlx hlq (Nat.blt_eq.mp g5) (Nat.blt_eq.mp g6) hnn h
    · exact zs_copy2 C hk hd hm (Nat.eq_of_beq_eq_true b7) (Nat.blt_eq.mp g7) (Nat.ble_eq.mp g8) hlx hlq (Nat.blt_eq.mp g5) (Nat.blt_eq.mp g6) hnn h
    · exact zs_copy3 C hk hd hm (Nat.eq_of_beq_eq_true b7) (Nat.blt_eq.mp g7) (Nat.ble_eq.mp g8) hlx hlq (Nat.blt_eq.mp g5) (Nat.blt_eq.mp g6) hnn h
    · exact zs_copy4 C hk hd hm (Nat.eq_of_beq_eq_true b7) (Nat.blt_eq.mp g7) (Nat.ble_eq.mp g8) hlx hlq (Nat.blt_eq.mp g5) (Nat.blt_eq.mp g6) hnn h
  | false =>
  rw [b7, cond_false] at h
  cases b20 : Nat.blt 19 a.2 with
  | true =>
    rw [b20, cond_true] at h
    have hh := zc_e h
    clear h
    obtain ⟨hb, h⟩ := hh
    simp only [Bool.and_eq_true] at hb
    exact zs_math C hk hd hm (Nat.blt_eq.mp hb.2.1) (Nat.ble_eq.mp hb.2.2) h
  | false =>
  rw [b20, cond_false] at h
  cases b8 : Nat.beq a.2 8 with
  | true =>
    rw [b8, cond_true] at h
    have hh := zp1_e h
    clear h
    obtain ⟨x, r, e1, h⟩ := hh
    have hh := zc_e h
    clear h
    obtain ⟨hb, h⟩ := hh
    simp only [Bool.and_eq_true] at hb
    exact absurd hb.1 (by decide)
  | false =>
  rw [b8, cond_false] at h
  have hh := zc_e h
  clear h
  obtain ⟨hb, h⟩ := hh
  simp only [Bool.and_eq_true] at hb
  obtain ⟨y1, y2, y3⟩ := hb
  cases b1 : Nat.beq (a.2 % 5) 1 with
  | true =>
    rw [b1, cond_true] at h
    have hh := zc_e h
    clear h
    obtain ⟨hb, h⟩ := hh
    simp only [Bool.and_eq_true] at hb
    obtain ⟨z1, z2, z3, z4⟩ := hb
    obtain ⟨o', hrun, h⟩ := h
    exact zs_invS C hk hdec hIH hd hm b6 b7 b20 b8 b1 (Nat.ble_eq.mp y1) (Nat.ble_eq.mp y2) (Nat.ble_eq.mp y3) (Nat.ble_eq.mp z2) (Nat.ble_eq.mp z3) (Nat.ble_eq.mp z4) hrun h
  | false =>
  rw [b1, cond_false] at h
  have hh := zopt_e h
  clear h
  obtain ⟨x, hhd, h⟩ := hh
  have hh := zc_e h
  clear h
  obtain ⟨hb, h⟩ := hh
  simp only [Bool.and_eq_true] at hb
  obtain ⟨z0, z1, z2, z3, z4⟩ := hb
  have hx2 := Nat.eq_of_beq_eq_true z0
  cases b2 : Nat.beq (a.2 % 5) 2 with
  | true =>
    rw [b2] at z1
    exact absurd z1 (by decide)
  | false =>
    rw [b2] at z1
    exact absurd z1 (by decide)
theorem zx_aconst_null {n0 nx : Nat}  (C : zCx E k p l s m args meth cde) (hk : k < 389) (hdec : zDec) (hIH : zIH E l n0) (hd : decode (zby k) pc = .ok (.aconst_null , nx - pc)) (hlt : pc < nx) (hz : zil (.aconst_null ) pc (nx - pc) = true) (h : zexec False (fun r w t => o = (r, w, t)) (fun pc ls st w t c => zSim E k p l e s m args below meth cde ra0 t0 o pc ls st w t c) (zcallP n0) k pc (.aconst_null ) nx ls st w t c) : zSim E k p l e s m args below meth cde ra0 t0 o pc ls st w t c := by
  delta zexec at h
  dsimp only [zbin] at h
  have hn : nx - pc = 1 := Nat.eq_of_beq_eq_true hz
  rw [hn] at hd
  obtain rfl : nx = pc + 1 := by omega
  exact zs_null C hd h
theorem zx_aload {n0 nx : Nat} {i : Nat} (C : zCx E k p l s m args meth cde) (hk : k < 389) (hdec : zDec) (hIH : zIH E l n0) (hd : decode (zby k) pc = .ok (.aload i, nx - pc)) (hlt : pc < nx) (hz : zil (.aload i) pc (nx - pc) = true) (h : zexec False (fun r w t => o = (r, w, t)) (fun pc ls st w t c => zSim E k p l e s m args below meth cde ra0 t0 o pc ls st w t c) (zcallP n0) k pc (.aload i) nx ls st w t c) : zSim E k p l e s m args below meth cde ra0 t0 o pc ls st w t c := by
  delta zexec at h
  dsimp only [zbin] at h
  have hn : nx - pc = 2 := Nat.eq_of_beq_eq_true hz
  rw [hn] at hd
  obtain rfl : nx = pc + 2 := by omega
  have hh := zga_e h
  clear h
  obtain ⟨x, hl, hx, h⟩ := hh
  exact zs_aload C hd hl hx h
theorem zx_aload_n {n0 nx : Nat} {i : Fin 4} (C : zCx E k p l s m args meth cde) (hk : k < 389) (hdec : zDec) (hIH : zIH E l n0) (hd : decode (zby k) pc = .ok (.aload_n i, nx - pc)) (hlt : pc < nx) (hz : zil (.aload_n i) pc (nx - pc) = true) (h : zexec False (fun r w t => o = (r, w, t)) (fun pc ls st w t c => zSim E k p l e s m args below meth cde ra0 t0 o pc ls st w t c) (zcallP n0) k pc (.aload_n i) nx ls st w t c) : zSim E k p l e s m args below meth cde ra0 t0 o pc ls st w t c := by
  delta zexec at h
  dsimp only [zbin] at h
  have hn : nx - pc = 1 := Nat.eq_of_beq_eq_true hz
  rw [hn] at hd
  obtain rfl : nx = pc + 1 := by omega
  have hh := zga_e h
  clear h
  obtain ⟨x, hl, hx, h⟩ := hh
  exact zs_aload_n C hd hl hx h
theorem zx_iload {n0 nx : Nat} {i : Nat} (C : zCx E k p l s m args meth cde) (hk : k < 389) (hdec : zDec) (hIH : zIH E l n0) (hd : decode (zby k) pc = .ok (.iload i, nx - pc)) (hlt : pc < nx) (hz : zil (.iload i) pc (nx - pc) = true) (h : zexec False (fun r w t => o = (r, w, t)) (fun pc ls st w t c => zSim E k p l e s m args below meth cde ra0 t0 o pc ls st w t c) (zcallP n0) k pc (.iload i) nx ls st w t c) : zSim E k p l e s m args below meth cde ra0 t0 o pc ls st w t c := by
  delta zexec at h
  dsimp only [zbin] at h
  have hn : nx - pc = 2 := Nat.eq_of_beq_eq_true hz
  rw [hn] at hd
  obtain rfl : nx = pc + 2 := by omega
  have hh := zgt_e h
  clear h
  obtain ⟨x, hl, h⟩ := hh
  exact zs_iload C hd hl h
theorem zx_iload_n {n0 nx : Nat} {i : Fin 4} (C : zCx E k p l s m args meth cde) (hk : k < 389) (hdec : zDec) (hIH : zIH E l n0) (hd : decode (zby k) pc = .ok (.iload_n i, nx - pc)) (hlt : pc < nx) (hz : zil (.iload_n i) pc (nx - pc) = true) (h : zexec False (fun r w t => o = (r, w, t)) (fun pc ls st w t c => zSim E k p l e s m args below meth cde ra0 t0 o pc ls st w t c) (zcallP n0) k pc (.iload_n i) nx ls st w t c) : zSim E k p l e s m args below meth cde ra0 t0 o pc ls st w t c := by
  delta zexec at h
  dsimp only [zbin] at h
  have hn : nx - pc = 1 := Nat.eq_of_beq_eq_true hz
  rw [hn] at hd
  obtain rfl : nx = pc + 1 := by omega
  have hh := zgt_e h
  clear h
  obtain ⟨x, hl, h⟩ := hh
  exact zs_iload_n C hd hl h
theorem zx_lload {n0 nx : Nat} {i : Nat} (C : zCx E k p l s m args meth cde) (hk : k < 389) (hdec : zDec) (hIH : zIH E l n0) (hd : decode (zby k) pc = .ok (.lload i, nx - pc)) (hlt : pc < nx) (hz : zil (.lload i) pc (nx - pc) = true) (h : zexec False (fun r w t => o = (r, w, t)) (fun pc ls st w t c => zSim E k p l e s m args below meth cde ra0 t0 o pc ls st w t c) (zcallP n0) k pc (.lload i) nx ls st w t c) : zSim E k p l e s m args below meth cde ra0 t0 o pc ls st w t c := by
  delta zexec at h
  dsimp only [zbin] at h
  have hn : nx - pc = 2 := Nat.eq_of_beq_eq_true hz
  rw [hn] at hd
  obtain rfl : nx = pc + 2 := by omega
  have hh := zgt_e h
  clear h
  obtain ⟨x, hl, h⟩ := hh
  exact zs_lload C hd hl h
theorem zx_lload_n {n0 nx : Nat} {i : Fin 4} (C : zCx E k p l s m args meth cde) (hk : k < 389) (hdec : zDec) (hIH : zIH E l n0) (hd : decode (zby k) pc = .ok (.lload_n i, nx - pc)) (hlt : pc < nx) (hz : zil (.lload_n i) pc (nx - pc) = true) (h : zexec False (fun r w t => o = (r, w, t)) (fun pc ls st w t c => zSim E k p l e s m args below meth cde ra0 t0 o pc ls st w t c) (zcallP n0) k pc (.lload_n i) nx ls st w t c) : zSim E k p l e s m args below meth cde ra0 t0 o pc ls st w t c := by
  delta zexec at h
  dsimp only [zbin] at h
  have hn : nx - pc = 1 := Nat.eq_of_beq_eq_true hz
  rw [hn] at hd
  obtain rfl : nx = pc + 1 := by omega
  have hh := zgt_e h
  clear h
  obtain ⟨x, hl, h⟩ := hh
  exact zs_lload_n C hd hl h
theorem zx_astore {n0 nx : Nat} {i : Nat} (C : zCx E k p l s m args meth cde) (hk : k < 389) (hdec : zDec) (hIH : zIH E l n0) (hd : decode (zby k) pc = .ok (.astore i, nx - pc)) (hlt : pc < nx) (hz : zil (.astore i) pc (nx - pc) = true) (h : zexec False (fun r w t => o = (r, w, t)) (fun pc ls st w t c => zSim E k p l e s m args below meth cde ra0 t0 o pc ls st w t c) (zcallP n0) k pc (.astore i) nx ls st w t c) : zSim E k p l e s m args below meth cde ra0 t0 o pc ls st w t c := by
  delta zexec at h
  dsimp only [zbin] at h
  have hn : nx - pc = 2 := Nat.eq_of_beq_eq_true hz
  rw [hn] at hd
  obtain rfl : nx = pc + 2 := by omega
  have hh := zpr_e h
  clear h
  obtain ⟨v, r, e1, hv, h⟩ := hh
  have hh := zc_e h
  clear h
  obtain ⟨hb, h⟩ := hh
  subst e1
  exact zs_astore C hd hv (Nat.blt_eq.mp hb) h
theorem zx_astore_n {n0 nx : Nat} {i : Fin 4} (C : zCx E k p l s m args meth cde) (hk : k < 389) (hdec : zDec) (hIH : zIH E l n0) (hd : decode (zby k) pc = .ok (.astore_n i, nx - pc)) (hlt : pc < nx) (hz : zil (.astore_n i) pc (nx - pc) = true) (h : zexec False (fun r w t => o = (r, w, t)) (fun pc ls st w t c => zSim E k p l e s m args below meth cde ra0 t0 o pc ls st w t c) (zcallP n0) k pc (.astore_n i) nx ls st w t c) : zSim E k p l e s m args below meth cde ra0 t0 o pc ls st w t c := by
  delta zexec at h
  dsimp only [zbin] at h
  have hn : nx - pc = 1 := Nat.eq_of_beq_eq_true hz
  rw [hn] at hd
  obtain rfl : nx = pc + 1 := by omega
  have hh := zpr_e h
  clear h
  obtain ⟨v, r, e1, hv, h⟩ := hh
  have hh := zc_e h
  clear h
  obtain ⟨hb, h⟩ := hh
  subst e1
  exact zs_astore_n C hd hv (Nat.blt_eq.mp hb) h
theorem zx_istore {n0 nx : Nat} {i : Nat} (C : zCx E k p l s m args meth cde) (hk : k < 389) (hdec : zDec) (hIH : zIH E l n0) (hd : decode (zby k) pc = .ok (.istore i, nx - pc)) (hlt : pc < nx) (hz : zil (.istore i) pc (nx - pc) = true) (h : zexec False (fun r w t => o = (r, w, t)) (fun pc ls st w t c => zSim E k p l e s m args below meth cde ra0 t0 o pc ls st w t c) (zcallP n0) k pc (.istore i) nx ls st w t c) : zSim E k p l e s m args below meth cde ra0 t0 o pc ls st w t c := by
  delta zexec at h
  dsimp only [zbin] at h
  have hn : nx - pc = 2 := Nat.eq_of_beq_eq_true hz
  rw [hn] at hd
  obtain rfl : nx = pc + 2 := by omega
  have hh := zp1_e h
  clear h
  obtain ⟨x, r, e1, h⟩ := hh
  have hh := zc_e h
  clear h
  obtain ⟨hb, h⟩ := hh
  subst e1
  exact zs_istore C hd (Nat.blt_eq.mp hb) h
theorem zx_istore_n {n0 nx : Nat} {i : Fin 4} (C : zCx E k p l s m args meth cde) (hk : k < 389) (hdec : zDec) (hIH : zIH E l n0) (hd : decode (zby k) pc = .ok (.istore_n i, nx - pc)) (hlt : pc < nx) (hz : zil (.istore_n i) pc (nx - pc) = true) (h : zexec False (fun r w t => o = (r, w, t)) (fun pc ls st w t c => zSim E k p l e s m args below meth cde ra0 t0 o pc ls st w t c) (zcallP n0) k pc (.istore_n i) nx ls st w t c) : zSim E k p l e s m args below meth cde ra0 t0 o pc ls st w t c := by
  delta zexec at h
  dsimp only [zbin] at h
  have hn : nx - pc = 1 := Nat.eq_of_beq_eq_true hz
  rw [hn] at hd
  obtain rfl : nx = pc + 1 := by omega
  have hh := zp1_e h
  clear h
  obtain ⟨x, r, e1, h⟩ := hh
  have hh := zc_e h
  clear h
  obtain ⟨hb, h⟩ := hh
  subst e1
  exact zs_istore_n C hd (Nat.blt_eq.mp hb) h
theorem zx_lstore {n0 nx : Nat} {i : Nat} (C : zCx E k p l s m args meth cde) (hk : k < 389) (hdec : zDec) (hIH : zIH E l n0) (hd : decode (zby k) pc = .ok (.lstore i, nx - pc)) (hlt : pc < nx) (hz : zil (.lstore i) pc (nx - pc) = true) (h : zexec False (fun r w t => o = (r, w, t)) (fun pc ls st w t c => zSim E k p l e s m args below meth cde ra0 t0 o pc ls st w t c) (zcallP n0) k pc (.lstore i) nx ls st w t c) : zSim E k p l e s m args below meth cde ra0 t0 o pc ls st w t c := by
  delta zexec at h
  dsimp only [zbin] at h
  have hn : nx - pc = 2 := Nat.eq_of_beq_eq_true hz
  rw [hn] at hd
  obtain rfl : nx = pc + 2 := by omega
  have hh := zp1_e h
  clear h
  obtain ⟨x, r, e1, h⟩ := hh
  have hh := zc_e h
  clear h
  obtain ⟨hb, h⟩ := hh
  subst e1
  exact zs_lstore C hd (Nat.blt_eq.mp hb) h
theorem zx_lstore_n {n0 nx : Nat} {i : Fin 4} (C : zCx E k p l s m args meth cde) (hk : k < 389) (hdec : zDec) (hIH : zIH E l n0) (hd : decode (zby k) pc = .ok (.lstore_n i, nx - pc)) (hlt : pc < nx) (hz : zil (.lstore_n i) pc (nx - pc) = true) (h : zexec False (fun r w t => o = (r, w, t)) (fun pc ls st w t c => zSim E k p l e s m args below meth cde ra0 t0 o pc ls st w t c) (zcallP n0) k pc (.lstore_n i) nx ls st w t c) : zSim E k p l e s m args below meth cde ra0 t0 o pc ls st w t c := by
  delta zexec at h
  dsimp only [zbin] at h
  have hn : nx - pc = 1 := Nat.eq_of_beq_eq_true hz
  rw [hn] at hd
  obtain rfl : nx = pc + 1 := by omega
  have hh := zp1_e h
  clear h
  obtain ⟨x, r, e1, h⟩ := hh
  have hh := zc_e h
  clear h
  obtain ⟨hb, h⟩ := hh
  subst e1
  exact zs_lstore_n C hd (Nat.blt_eq.mp hb) h
theorem zx_iinc {n0 nx : Nat} {i : Nat} {n : Int} (C : zCx E k p l s m args meth cde) (hk : k < 389) (hdec : zDec) (hIH : zIH E l n0) (hd : decode (zby k) pc = .ok (.iinc i n, nx - pc)) (hlt : pc < nx) (hz : zil (.iinc i n) pc (nx - pc) = true) (h : zexec False (fun r w t => o = (r, w, t)) (fun pc ls st w t c => zSim E k p l e s m args below meth cde ra0 t0 o pc ls st w t c) (zcallP n0) k pc (.iinc i n) nx ls st w t c) : zSim E k p l e s m args below meth cde ra0 t0 o pc ls st w t c := by
  have hz : (Nat.beq (nx - pc) 3 && (decide (-128 ≤ n) && decide (n < 128))) = true := hz
  simp only [Bool.and_eq_true, decide_eq_true_eq] at hz
  delta zexec at h
  dsimp only [zbin] at h
  have hn : nx - pc = 3 := Nat.eq_of_beq_eq_true hz.1
  rw [hn] at hd
  obtain rfl : nx = pc + 3 := by omega
  have hh := zgt_e h
  clear h
  obtain ⟨x, hl, h⟩ := hh
  exact zs_iinc C hd hl h
theorem zx_iconst {n0 nx : Nat} {b : Int} (C : zCx E k p l s m args meth cde) (hk : k < 389) (hdec : zDec) (hIH : zIH E l n0) (hd : decode (zby k) pc = .ok (.iconst b, nx - pc)) (hlt : pc < nx) (hz : zil (.iconst b) pc (nx - pc) = true) (h : zexec False (fun r w t => o = (r, w, t)) (fun pc ls st w t c => zSim E k p l e s m args below meth cde ra0 t0 o pc ls st w t c) (zcallP n0) k pc (.iconst b) nx ls st w t c) : zSim E k p l e s m args below meth cde ra0 t0 o pc ls st w t c := by
  have hz : (Nat.beq (nx - pc) 1 && (decide (-1 ≤ b) && decide (b < 6))) = true := hz
  simp only [Bool.and_eq_true, decide_eq_true_eq] at hz
  delta zexec at h
  dsimp only [zbin] at h
  have hn : nx - pc = 1 := Nat.eq_of_beq_eq_true hz.1
  rw [hn] at hd
  obtain rfl : nx = pc + 1 := by omega
  exact zs_iconst C hd ⟨by have := hz.2.1; omega, by have := hz.2.2; omega⟩ h
theorem zx_bipush {n0 nx : Nat} {b : Int} (C : zCx E k p l s m args meth cde) (hk : k < 389) (hdec : zDec) (hIH : zIH E l n0) (hd : decode (zby k) pc = .ok (.bipush b, nx - pc)) (hlt : pc < nx) (hz : zil (.bipush b) pc (nx - pc) = true) (h : zexec False (fun r w t => o = (r, w, t)) (fun pc ls st w t c => zSim E k p l e s m args below meth cde ra0 t0 o pc ls st w t c) (zcallP n0) k pc (.bipush b) nx ls st w t c) : zSim E k p l e s m args below meth cde ra0 t0 o pc ls st w t c := by
  have hz : (Nat.beq (nx - pc) 2 && (decide (-128 ≤ b) && decide (b < 128))) = true := hz
  simp only [Bool.and_eq_true, decide_eq_true_eq] at hz
  delta zexec at h
  dsimp only [zbin] at h
  have hn : nx - pc = 2 := Nat.eq_of_beq_eq_true hz.1
  rw [hn] at hd
  obtain rfl : nx = pc + 2 := by omega
  exact zs_bipush C hd hz.2.1 hz.2.2 h
theorem zx_sipush {n0 nx : Nat} {b : Int} (C : zCx E k p l s m args meth cde) (hk : k < 389) (hdec : zDec) (hIH : zIH E l n0) (hd : decode (zby k) pc = .ok (.sipush b, nx - pc)) (hlt : pc < nx) (hz : zil (.sipush b) pc (nx - pc) = true) (h : zexec False (fun r w t => o = (r, w, t)) (fun pc ls st w t c => zSim E k p l e s m args below meth cde ra0 t0 o pc ls st w t c) (zcallP n0) k pc (.sipush b) nx ls st w t c) : zSim E k p l e s m args below meth cde ra0 t0 o pc ls st w t c := by
  have hz : (Nat.beq (nx - pc) 3 && (decide (-32768 ≤ b) && decide (b < 32768))) = true := hz
  simp only [Bool.and_eq_true, decide_eq_true_eq] at hz
  delta zexec at h
  dsimp only [zbin] at h
  have hn : nx - pc = 3 := Nat.eq_of_beq_eq_true hz.1
  rw [hn] at hd
  obtain rfl : nx = pc + 3 := by omega
  exact zs_sipush C hd hz.2.1 hz.2.2 h
theorem zx_lconst {n0 nx : Nat} {n : Fin 2} (C : zCx E k p l s m args meth cde) (hk : k < 389) (hdec : zDec) (hIH : zIH E l n0) (hd : decode (zby k) pc = .ok (.lconst n, nx - pc)) (hlt : pc < nx) (hz : zil (.lconst n) pc (nx - pc) = true) (h : zexec False (fun r w t => o = (r, w, t)) (fun pc ls st w t c => zSim E k p l e s m args below meth cde ra0 t0 o pc ls st w t c) (zcallP n0) k pc (.lconst n) nx ls st w t c) : zSim E k p l e s m args below meth cde ra0 t0 o pc ls st w t c := by
  delta zexec at h
  dsimp only [zbin] at h
  have hn : nx - pc = 1 := Nat.eq_of_beq_eq_true hz
  rw [hn] at hd
  obtain rfl : nx = pc + 1 := by omega
  exact zs_lconst C hd h
theorem zx_ldc {n0 nx : Nat} {i : Nat} (C : zCx E k p l s m args meth cde) (hk : k < 389) (hdec : zDec) (hIH : zIH E l n0) (hd : decode (zby k) pc = .ok (.ldc i, nx - pc)) (hlt : pc < nx) (hz : zil (.ldc i) pc (nx - pc) = true) (h : zexec False (fun r w t => o = (r, w, t)) (fun pc ls st w t c => zSim E k p l e s m args below meth cde ra0 t0 o pc ls st w t c) (zcallP n0) k pc (.ldc i) nx ls st w t c) : zSim E k p l e s m args below meth cde ra0 t0 o pc ls st w t c := by
  delta zexec at h
  dsimp only [zbin] at h
  have hn : nx - pc = 2 := Nat.eq_of_beq_eq_true hz
  rw [hn] at hd
  obtain rfl : nx = pc + 2 := by omega
  have hh := zopt_e h
  clear h
  obtain ⟨v, hf, h⟩ := hh
  exact zs_ldc C hk hd hf h
theorem zx_ldc_w {n0 nx : Nat} {i : Nat} (C : zCx E k p l s m args meth cde) (hk : k < 389) (hdec : zDec) (hIH : zIH E l n0) (hd : decode (zby k) pc = .ok (.ldc_w i, nx - pc)) (hlt : pc < nx) (hz : zil (.ldc_w i) pc (nx - pc) = true) (h : zexec False (fun r w t => o = (r, w, t)) (fun pc ls st w t c => zSim E k p l e s m args below meth cde ra0 t0 o pc ls st w t c) (zcallP n0) k pc (.ldc_w i) nx ls st w t c) : zSim E k p l e s m args below meth cde ra0 t0 o pc ls st w t c := by
  delta zexec at h
  dsimp only [zbin] at h
  have hn : nx - pc = 3 := Nat.eq_of_beq_eq_true hz
  rw [hn] at hd
  obtain rfl : nx = pc + 3 := by omega
  have hh := zopt_e h
  clear h
  obtain ⟨v, hf, h⟩ := hh
  exact zs_ldcw C hk hd hf h
theorem zx_ldc2_w {n0 nx : Nat} {i : Nat} (C : zCx E k p l s m args meth cde) (hk : k < 389) (hdec : zDec) (hIH : zIH E l n0) (hd : decode (zby k) pc = .ok (.ldc2_w i, nx - pc)) (hlt : pc < nx) (hz : zil (.ldc2_w i) pc (nx - pc) = true) (h : zexec False (fun r w t => o = (r, w, t)) (fun pc ls st w t c => zSim E k p l e s m args below meth cde ra0 t0 o pc ls st w t c) (zcallP n0) k pc (.ldc2_w i) nx ls st w t c) : zSim E k p l e s m args below meth cde ra0 t0 o pc ls st w t c := by
  delta zexec at h
  dsimp only [zbin] at h
  have hn : nx - pc = 3 := Nat.eq_of_beq_eq_true hz
  rw [hn] at hd
  obtain rfl : nx = pc + 3 := by omega
  have hh := zopt_e h
  clear h
  obtain ⟨v, hf, h⟩ := hh
  exact zs_ldc2 C hk hd hf h
theorem zx_dup {n0 nx : Nat}  (C : zCx E k p l s m args meth cde) (hk : k < 389) (hdec : zDec) (hIH : zIH E l n0) (hd : decode (zby k) pc = .ok (.dup , nx - pc)) (hlt : pc < nx) (hz : zil (.dup ) pc (nx - pc) = true) (h : zexec False (fun r w t => o = (r, w, t)) (fun pc ls st w t c => zSim E k p l e s m args below meth cde ra0 t0 o pc ls st w t c) (zcallP n0) k pc (.dup ) nx ls st w t c) : zSim E k p l e s m args below meth cde ra0 t0 o pc ls st w t c := by
  delta zexec at h
  dsimp only [zbin] at h
  have hn : nx - pc = 1 := Nat.eq_of_beq_eq_true hz
  rw [hn] at hd
  obtain rfl : nx = pc + 1 := by omega
  have hh := zpv_e h
  clear h
  obtain ⟨v, r, e1, h⟩ := hh
  have hh := zcx_e h
  clear h
  obtain ⟨hb, h⟩ := hh
  subst e1
  exact zs_dup C hd hb h
theorem zx_pop {n0 nx : Nat}  (C : zCx E k p l s m args meth cde) (hk : k < 389) (hdec : zDec) (hIH : zIH E l n0) (hd : decode (zby k) pc = .ok (.pop , nx - pc)) (hlt : pc < nx) (hz : zil (.pop ) pc (nx - pc) = true) (h : zexec False (fun r w t => o = (r, w, t)) (fun pc ls st w t c => zSim E k p l e s m args below meth cde ra0 t0 o pc ls st w t c) (zcallP n0) k pc (.pop ) nx ls st w t c) : zSim E k p l e s m args below meth cde ra0 t0 o pc ls st w t c := by
  delta zexec at h
  dsimp only [zbin] at h
  have hn : nx - pc = 1 := Nat.eq_of_beq_eq_true hz
  rw [hn] at hd
  obtain rfl : nx = pc + 1 := by omega
  have hh := zpv_e h
  clear h
  obtain ⟨v, r, e1, h⟩ := hh
  have hh := zcx_e h
  clear h
  obtain ⟨hb, h⟩ := hh
  subst e1
  exact zs_pop C hd hb h
theorem zx_dup2 {n0 nx : Nat}  (C : zCx E k p l s m args meth cde) (hk : k < 389) (hdec : zDec) (hIH : zIH E l n0) (hd : decode (zby k) pc = .ok (.dup2 , nx - pc)) (hlt : pc < nx) (hz : zil (.dup2 ) pc (nx - pc) = true) (h : zexec False (fun r w t => o = (r, w, t)) (fun pc ls st w t c => zSim E k p l e s m args below meth cde ra0 t0 o pc ls st w t c) (zcallP n0) k pc (.dup2 ) nx ls st w t c) : zSim E k p l e s m args below meth cde ra0 t0 o pc ls st w t c := by
  delta zexec at h
  dsimp only [zbin] at h
  have hn : nx - pc = 1 := Nat.eq_of_beq_eq_true hz
  rw [hn] at hd
  obtain rfl : nx = pc + 1 := by omega
  have hh := zpv_e h
  clear h
  obtain ⟨v, r, e1, h⟩ := hh
  cases hb : Nat.beq v.1 1 with
  | true =>
    rw [hb] at h
    subst e1
    exact zs_dup2_2 C hd hb h
  | false =>
    rw [hb] at h
    have hh := zpv_e h
    clear h
    obtain ⟨u, q, e2, h⟩ := hh
    have hh := zcx_e h
    clear h
    obtain ⟨hb2, h⟩ := hh
    subst e1
    subst e2
    exact zs_dup2_11 C hd hb hb2 h
theorem zx_iadd {n0 nx : Nat}  (C : zCx E k p l s m args meth cde) (hk : k < 389) (hdec : zDec) (hIH : zIH E l n0) (hd : decode (zby k) pc = .ok (.iadd , nx - pc)) (hlt : pc < nx) (hz : zil (.iadd ) pc (nx - pc) = true) (h : zexec False (fun r w t => o = (r, w, t)) (fun pc ls st w t c => zSim E k p l e s m args below meth cde ra0 t0 o pc ls st w t c) (zcallP n0) k pc (.iadd ) nx ls st w t c) : zSim E k p l e s m args below meth cde ra0 t0 o pc ls st w t c := by
  delta zexec at h
  dsimp only [zbin] at h
  have hn : nx - pc = 1 := Nat.eq_of_beq_eq_true hz
  rw [hn] at hd
  obtain rfl : nx = pc + 1 := by omega
  have hh := zp1_e h
  clear h
  obtain ⟨y, r1, e1, h⟩ := hh
  have hh := zp1_e h
  clear h
  obtain ⟨x, r, e2, h⟩ := hh
  subst e1
  subst e2
  exact zs_iadd C hd h
theorem zx_isub {n0 nx : Nat}  (C : zCx E k p l s m args meth cde) (hk : k < 389) (hdec : zDec) (hIH : zIH E l n0) (hd : decode (zby k) pc = .ok (.isub , nx - pc)) (hlt : pc < nx) (hz : zil (.isub ) pc (nx - pc) = true) (h : zexec False (fun r w t => o = (r, w, t)) (fun pc ls st w t c => zSim E k p l e s m args below meth cde ra0 t0 o pc ls st w t c) (zcallP n0) k pc (.isub ) nx ls st w t c) : zSim E k p l e s m args below meth cde ra0 t0 o pc ls st w t c := by
  delta zexec at h
  dsimp only [zbin] at h
  have hn : nx - pc = 1 := Nat.eq_of_beq_eq_true hz
  rw [hn] at hd
  obtain rfl : nx = pc + 1 := by omega
  have hh := zp1_e h
  clear h
  obtain ⟨y, r1, e1, h⟩ := hh
  have hh := zp1_e h
  clear h
  obtain ⟨x, r, e2, h⟩ := hh
  subst e1
  subst e2
  exact zs_isub C hd h
theorem zx_imul {n0 nx : Nat}  (C : zCx E k p l s m args meth cde) (hk : k < 389) (hdec : zDec) (hIH : zIH E l n0) (hd : decode (zby k) pc = .ok (.imul , nx - pc)) (hlt : pc < nx) (hz : zil (.imul ) pc (nx - pc) = true) (h : zexec False (fun r w t => o = (r, w, t)) (fun pc ls st w t c => zSim E k p l e s m args below meth cde ra0 t0 o pc ls st w t c) (zcallP n0) k pc (.imul ) nx ls st w t c) : zSim E k p l e s m args below meth cde ra0 t0 o pc ls st w t c := by
  delta zexec at h
  dsimp only [zbin] at h
  have hn : nx - pc = 1 := Nat.eq_of_beq_eq_true hz
  rw [hn] at hd
  obtain rfl : nx = pc + 1 := by omega
  have hh := zp1_e h
  clear h
  obtain ⟨y, r1, e1, h⟩ := hh
  have hh := zp1_e h
  clear h
  obtain ⟨x, r, e2, h⟩ := hh
  subst e1
  subst e2
  exact zs_imul C hd h
theorem zx_ladd {n0 nx : Nat}  (C : zCx E k p l s m args meth cde) (hk : k < 389) (hdec : zDec) (hIH : zIH E l n0) (hd : decode (zby k) pc = .ok (.ladd , nx - pc)) (hlt : pc < nx) (hz : zil (.ladd ) pc (nx - pc) = true) (h : zexec False (fun r w t => o = (r, w, t)) (fun pc ls st w t c => zSim E k p l e s m args below meth cde ra0 t0 o pc ls st w t c) (zcallP n0) k pc (.ladd ) nx ls st w t c) : zSim E k p l e s m args below meth cde ra0 t0 o pc ls st w t c := by
  delta zexec at h
  dsimp only [zbin] at h
  have hn : nx - pc = 1 := Nat.eq_of_beq_eq_true hz
  rw [hn] at hd
  obtain rfl : nx = pc + 1 := by omega
  have hh := zp1_e h
  clear h
  obtain ⟨y, r1, e1, h⟩ := hh
  have hh := zp1_e h
  clear h
  obtain ⟨x, r, e2, h⟩ := hh
  subst e1
  subst e2
  exact zs_ladd C hd h
theorem zx_lsub {n0 nx : Nat}  (C : zCx E k p l s m args meth cde) (hk : k < 389) (hdec : zDec) (hIH : zIH E l n0) (hd : decode (zby k) pc = .ok (.lsub , nx - pc)) (hlt : pc < nx) (hz : zil (.lsub ) pc (nx - pc) = true) (h : zexec False (fun r w t => o = (r, w, t)) (fun pc ls st w t c => zSim E k p l e s m args below meth cde ra0 t0 o pc ls st w t c) (zcallP n0) k pc (.lsub ) nx ls st w t c) : zSim E k p l e s m args below meth cde ra0 t0 o pc ls st w t c := by
  delta zexec at h
  dsimp only [zbin] at h
  have hn : nx - pc = 1 := Nat.eq_of_beq_eq_true hz
  rw [hn] at hd
  obtain rfl : nx = pc + 1 := by omega
  have hh := zp1_e h
  clear h
  obtain ⟨y, r1, e1, h⟩ := hh
  have hh := zp1_e h
  clear h
  obtain ⟨x, r, e2, h⟩ := hh
  subst e1
  subst e2
  exact zs_lsub C hd h
theorem zx_lmul {n0 nx : Nat}  (C : zCx E k p l s m args meth cde) (hk : k < 389) (hdec : zDec) (hIH : zIH E l n0) (hd : decode (zby k) pc = .ok (.lmul , nx - pc)) (hlt : pc < nx) (hz : zil (.lmul ) pc (nx - pc) = true) (h : zexec False (fun r w t => o = (r, w, t)) (fun pc ls st w t c => zSim E k p l e s m args below meth cde ra0 t0 o pc ls st w t c) (zcallP n0) k pc (.lmul ) nx ls st w t c) : zSim E k p l e s m args below meth cde ra0 t0 o pc ls st w t c := by
  delta zexec at h
  dsimp only [zbin] at h
  have hn : nx - pc = 1 := Nat.eq_of_beq_eq_true hz
  rw [hn] at hd
  obtain rfl : nx = pc + 1 := by omega
  have hh := zp1_e h
  clear h
  obtain ⟨y, r1, e1, h⟩ := hh
  have hh := zp1_e h
  clear h
  obtain ⟨x, r, e2, h⟩ := hh
  subst e1
  subst e2
  exact zs_lmul C hd h
theorem zx_iand {n0 nx : Nat}  (C : zCx E k p l s m args meth cde) (hk : k < 389) (hdec : zDec) (hIH : zIH E l n0) (hd : decode (zby k) pc = .ok (.iand , nx - pc)) (hlt : pc < nx) (hz : zil (.iand ) pc (nx - pc) = true) (h : zexec False (fun r w t => o = (r, w, t)) (fun pc ls st w t c => zSim E k p l e s m args below meth cde ra0 t0 o pc ls st w t c) (zcallP n0) k pc (.iand ) nx ls st w t c) : zSim E k p l e s m args below meth cde ra0 t0 o pc ls st w t c := by
  delta zexec at h
  dsimp only [zbin] at h
  have hn : nx - pc = 1 := Nat.eq_of_beq_eq_true hz
  rw [hn] at hd
  obtain rfl : nx = pc + 1 := by omega
  have hh := zp1_e h
  clear h
  obtain ⟨y, r1, e1, h⟩ := hh
  have hh := zp1_e h
  clear h
  obtain ⟨x, r, e2, h⟩ := hh
  subst e1
  subst e2
  exact zs_iand C hd h
theorem zx_land {n0 nx : Nat}  (C : zCx E k p l s m args meth cde) (hk : k < 389) (hdec : zDec) (hIH : zIH E l n0) (hd : decode (zby k) pc = .ok (.land , nx - pc)) (hlt : pc < nx) (hz : zil (.land ) pc (nx - pc) = true) (h : zexec False (fun r w t => o = (r, w, t)) (fun pc ls st w t c => zSim E k p l e s m args below meth cde ra0 t0 o pc ls st w t c) (zcallP n0) k pc (.land ) nx ls st w t c) : zSim E k p l e s m args below meth cde ra0 t0 o pc ls st w t c := by
  delta zexec at h
  dsimp only [zbin] at h
  have hn : nx - pc = 1 := Nat.eq_of_beq_eq_true hz
  rw [hn] at hd
  obtain rfl : nx = pc + 1 := by omega
  have hh := zp1_e h
  clear h
  obtain ⟨y, r1, e1, h⟩ := hh
  have hh := zp1_e h
  clear h
  obtain ⟨x, r, e2, h⟩ := hh
  subst e1
  subst e2
  exact zs_land C hd h
theorem zx_lor {n0 nx : Nat}  (C : zCx E k p l s m args meth cde) (hk : k < 389) (hdec : zDec) (hIH : zIH E l n0) (hd : decode (zby k) pc = .ok (.lor , nx - pc)) (hlt : pc < nx) (hz : zil (.lor ) pc (nx - pc) = true) (h : zexec False (fun r w t => o = (r, w, t)) (fun pc ls st w t c => zSim E k p l e s m args below meth cde ra0 t0 o pc ls st w t c) (zcallP n0) k pc (.lor ) nx ls st w t c) : zSim E k p l e s m args below meth cde ra0 t0 o pc ls st w t c := by
  delta zexec at h
  dsimp only [zbin] at h
  have hn : nx - pc = 1 := Nat.eq_of_beq_eq_true hz
  rw [hn] at hd
  obtain rfl : nx = pc + 1 := by omega
  have hh := zp1_e h
  clear h
  obtain ⟨y, r1, e1, h⟩ := hh
  have hh := zp1_e h
  clear h
  obtain ⟨x, r, e2, h⟩ := hh
  subst e1
  subst e2
  exact zs_lor C hd h
theorem zx_ishl {n0 nx : Nat}  (C : zCx E k p l s m args meth cde) (hk : k < 389) (hdec : zDec) (hIH : zIH E l n0) (hd : decode (zby k) pc = .ok (.ishl , nx - pc)) (hlt : pc < nx) (hz : zil (.ishl ) pc (nx - pc) = true) (h : zexec False (fun r w t => o = (r, w, t)) (fun pc ls st w t c => zSim E k p l e s m args below meth cde ra0 t0 o pc ls st w t c) (zcallP n0) k pc (.ishl ) nx ls st w t c) : zSim E k p l e s m args below meth cde ra0 t0 o pc ls st w t c := by
  delta zexec at h
  dsimp only [zbin] at h
  have hn : nx - pc = 1 := Nat.eq_of_beq_eq_true hz
  rw [hn] at hd
  obtain rfl : nx = pc + 1 := by omega
  have hh := zp1_e h
  clear h
  obtain ⟨y, r1, e1, h⟩ := hh
  have hh := zp1_e h
  clear h
  obtain ⟨x, r, e2, h⟩ := hh
  subst e1
  subst e2
  exact zs_ishl C hd h
theorem zx_ishr {n0 nx : Nat}  (C : zCx E k p l s m args meth cde) (hk : k < 389) (hdec : zDec) (hIH : zIH E l n0) (hd : decode (zby k) pc = .ok (.ishr , nx - pc)) (hlt : pc < nx) (hz : zil (.ishr ) pc (nx - pc) = true) (h : zexec False (fun r w t => o = (r, w, t)) (fun pc ls st w t c => zSim E k p l e s m args below meth cde ra0 t0 o pc ls st w t c) (zcallP n0) k pc (.ishr ) nx ls st w t c) : zSim E k p l e s m args below meth cde ra0 t0 o pc ls st w t c := by
  delta zexec at h
  dsimp only [zbin] at h
  have hn : nx - pc = 1 := Nat.eq_of_beq_eq_true hz
  rw [hn] at hd
  obtain rfl : nx = pc + 1 := by omega
  have hh := zp1_e h
  clear h
  obtain ⟨y, r1, e1, h⟩ := hh
  have hh := zp1_e h
  clear h
  obtain ⟨x, r, e2, h⟩ := hh
  subst e1
  subst e2
  exact zs_ishr C hd h
theorem zx_lshl {n0 nx : Nat}  (C : zCx E k p l s m args meth cde) (hk : k < 389) (hdec : zDec) (hIH : zIH E l n0) (hd : decode (zby k) pc = .ok (.lshl , nx - pc)) (hlt : pc < nx) (hz : zil (.lshl ) pc (nx - pc) = true) (h : zexec False (fun r w t => o = (r, w, t)) (fun pc ls st w t c => zSim E k p l e s m args below meth cde ra0 t0 o pc ls st w t c) (zcallP n0) k pc (.lshl ) nx ls st w t c) : zSim E k p l e s m args below meth cde ra0 t0 o pc ls st w t c := by
  delta zexec at h
  dsimp only [zbin] at h
  have hn : nx - pc = 1 := Nat.eq_of_beq_eq_true hz
  rw [hn] at hd
  obtain rfl : nx = pc + 1 := by omega
  have hh := zp1_e h
  clear h
  obtain ⟨y, r1, e1, h⟩ := hh
  have hh := zp1_e h
  clear h
  obtain ⟨x, r, e2, h⟩ := hh
  subst e1
  subst e2
  exact zs_lshl C hd h
theorem zx_lshr {n0 nx : Nat}  (C : zCx E k p l s m args meth cde) (hk : k < 389) (hdec : zDec) (hIH : zIH E l n0) (hd : decode (zby k) pc = .ok (.lshr , nx - pc)) (hlt : pc < nx) (hz : zil (.lshr ) pc (nx - pc) = true) (h : zexec False (fun r w t => o = (r, w, t)) (fun pc ls st w t c => zSim E k p l e s m args below meth cde ra0 t0 o pc ls st w t c) (zcallP n0) k pc (.lshr ) nx ls st w t c) : zSim E k p l e s m args below meth cde ra0 t0 o pc ls st w t c := by
  delta zexec at h
  dsimp only [zbin] at h
  have hn : nx - pc = 1 := Nat.eq_of_beq_eq_true hz
  rw [hn] at hd
  obtain rfl : nx = pc + 1 := by omega
  have hh := zp1_e h
  clear h
  obtain ⟨y, r1, e1, h⟩ := hh
  have hh := zp1_e h
  clear h
  obtain ⟨x, r, e2, h⟩ := hh
  subst e1
  subst e2
  exact zs_lshr C hd h
theorem zx_idiv {n0 nx : Nat}  (C : zCx E k p l s m args meth cde) (hk : k < 389) (hdec : zDec) (hIH : zIH E l n0) (hd : decode (zby k) pc = .ok (.idiv , nx - pc)) (hlt : pc < nx) (hz : zil (.idiv ) pc (nx - pc) = true) (h : zexec False (fun r w t => o = (r, w, t)) (fun pc ls st w t c => zSim E k p l e s m args below meth cde ra0 t0 o pc ls st w t c) (zcallP n0) k pc (.idiv ) nx ls st w t c) : zSim E k p l e s m args below meth cde ra0 t0 o pc ls st w t c := by
  delta zexec at h
  dsimp only [zbin] at h
  have hn : nx - pc = 1 := Nat.eq_of_beq_eq_true hz
  rw [hn] at hd
  obtain rfl : nx = pc + 1 := by omega
  have hh := zp1_e h
  clear h
  obtain ⟨y, r1, e1, h⟩ := hh
  have hh := zp1_e h
  clear h
  obtain ⟨x, r, e2, h⟩ := hh
  subst e1
  subst e2
  have hh := zif_e h
  clear h
  obtain ⟨hne, h⟩ := hh
  exact zs_idiv C hd hne h
theorem zx_irem {n0 nx : Nat}  (C : zCx E k p l s m args meth cde) (hk : k < 389) (hdec : zDec) (hIH : zIH E l n0) (hd : decode (zby k) pc = .ok (.irem , nx - pc)) (hlt : pc < nx) (hz : zil (.irem ) pc (nx - pc) = true) (h : zexec False (fun r w t => o = (r, w, t)) (fun pc ls st w t c => zSim E k p l e s m args below meth cde ra0 t0 o pc ls st w t c) (zcallP n0) k pc (.irem ) nx ls st w t c) : zSim E k p l e s m args below meth cde ra0 t0 o pc ls st w t c := by
  delta zexec at h
  dsimp only [zbin] at h
  have hn : nx - pc = 1 := Nat.eq_of_beq_eq_true hz
  rw [hn] at hd
  obtain rfl : nx = pc + 1 := by omega
  have hh := zp1_e h
  clear h
  obtain ⟨y, r1, e1, h⟩ := hh
  have hh := zp1_e h
  clear h
  obtain ⟨x, r, e2, h⟩ := hh
  subst e1
  subst e2
  have hh := zif_e h
  clear h
  obtain ⟨hne, h⟩ := hh
  exact zs_irem C hd hne h
theorem zx_ldiv {n0 nx : Nat}  (C : zCx E k p l s m args meth cde) (hk : k < 389) (hdec : zDec) (hIH : zIH E l n0) (hd : decode (zby k) pc = .ok (.ldiv , nx - pc)) (hlt : pc < nx) (hz : zil (.ldiv ) pc (nx - pc) = true) (h : zexec False (fun r w t => o = (r, w, t)) (fun pc ls st w t c => zSim E k p l e s m args below meth cde ra0 t0 o pc ls st w t c) (zcallP n0) k pc (.ldiv ) nx ls st w t c) : zSim E k p l e s m args below meth cde ra0 t0 o pc ls st w t c := by
  delta zexec at h
  dsimp only [zbin] at h
  have hn : nx - pc = 1 := Nat.eq_of_beq_eq_true hz
  rw [hn] at hd
  obtain rfl : nx = pc + 1 := by omega
  have hh := zp1_e h
  clear h
  obtain ⟨y, r1, e1, h⟩ := hh
  have hh := zp1_e h
  clear h
  obtain ⟨x, r, e2, h⟩ := hh
  subst e1
  subst e2
  have hh := zif_e h
  clear h
  obtain ⟨hne, h⟩ := hh
  exact zs_ldiv C hd hne h
theorem zx_lrem {n0 nx : Nat}  (C : zCx E k p l s m args meth cde) (hk : k < 389) (hdec : zDec) (hIH : zIH E l n0) (hd : decode (zby k) pc = .ok (.lrem , nx - pc)) (hlt : pc < nx) (hz : zil (.lrem ) pc (nx - pc) = true) (h : zexec False (fun r w t => o = (r, w, t)) (fun pc ls st w t c => zSim E k p l e s m args below meth cde ra0 t0 o pc ls st w t c) (zcallP n0) k pc (.lrem ) nx ls st w t c) : zSim E k p l e s m args below meth cde ra0 t0 o pc ls st w t c := by
  delta zexec at h
  dsimp only [zbin] at h
  have hn : nx - pc = 1 := Nat.eq_of_beq_eq_true hz
  rw [hn] at hd
  obtain rfl : nx = pc + 1 := by omega
  have hh := zp1_e h
  clear h
  obtain ⟨y, r1, e1, h⟩ := hh
  have hh := zp1_e h
  clear h
  obtain ⟨x, r, e2, h⟩ := hh
  subst e1
  subst e2
  have hh := zif_e h
  clear h
  obtain ⟨hne, h⟩ := hh
  exact zs_lrem C hd hne h
theorem zx_ineg {n0 nx : Nat}  (C : zCx E k p l s m args meth cde) (hk : k < 389) (hdec : zDec) (hIH : zIH E l n0) (hd : decode (zby k) pc = .ok (.ineg , nx - pc)) (hlt : pc < nx) (hz : zil (.ineg ) pc (nx - pc) = true) (h : zexec False (fun r w t => o = (r, w, t)) (fun pc ls st w t c => zSim E k p l e s m args below meth cde ra0 t0 o pc ls st w t c) (zcallP n0) k pc (.ineg ) nx ls st w t c) : zSim E k p l e s m args below meth cde ra0 t0 o pc ls st w t c := by
  delta zexec at h
  dsimp only [zbin] at h
  have hn : nx - pc = 1 := Nat.eq_of_beq_eq_true hz
  rw [hn] at hd
  obtain rfl : nx = pc + 1 := by omega
  have hh := zp1_e h
  clear h
  obtain ⟨x, r, e1, h⟩ := hh
  subst e1
  exact zs_ineg C hd h
theorem zx_lneg {n0 nx : Nat}  (C : zCx E k p l s m args meth cde) (hk : k < 389) (hdec : zDec) (hIH : zIH E l n0) (hd : decode (zby k) pc = .ok (.lneg , nx - pc)) (hlt : pc < nx) (hz : zil (.lneg ) pc (nx - pc) = true) (h : zexec False (fun r w t => o = (r, w, t)) (fun pc ls st w t c => zSim E k p l e s m args below meth cde ra0 t0 o pc ls st w t c) (zcallP n0) k pc (.lneg ) nx ls st w t c) : zSim E k p l e s m args below meth cde ra0 t0 o pc ls st w t c := by
  delta zexec at h
  dsimp only [zbin] at h
  have hn : nx - pc = 1 := Nat.eq_of_beq_eq_true hz
  rw [hn] at hd
  obtain rfl : nx = pc + 1 := by omega
  have hh := zp1_e h
  clear h
  obtain ⟨x, r, e1, h⟩ := hh
  subst e1
  exact zs_lneg C hd h
theorem zx_i2l {n0 nx : Nat}  (C : zCx E k p l s m args meth cde) (hk : k < 389) (hdec : zDec) (hIH : zIH E l n0) (hd : decode (zby k) pc = .ok (.i2l , nx - pc)) (hlt : pc < nx) (hz : zil (.i2l ) pc (nx - pc) = true) (h : zexec False (fun r w t => o = (r, w, t)) (fun pc ls st w t c => zSim E k p l e s m args below meth cde ra0 t0 o pc ls st w t c) (zcallP n0) k pc (.i2l ) nx ls st w t c) : zSim E k p l e s m args below meth cde ra0 t0 o pc ls st w t c := by
  delta zexec at h
  dsimp only [zbin] at h
  have hn : nx - pc = 1 := Nat.eq_of_beq_eq_true hz
  rw [hn] at hd
  obtain rfl : nx = pc + 1 := by omega
  have hh := zp1_e h
  clear h
  obtain ⟨x, r, e1, h⟩ := hh
  subst e1
  exact zs_i2l C hd h
theorem zx_l2i {n0 nx : Nat}  (C : zCx E k p l s m args meth cde) (hk : k < 389) (hdec : zDec) (hIH : zIH E l n0) (hd : decode (zby k) pc = .ok (.l2i , nx - pc)) (hlt : pc < nx) (hz : zil (.l2i ) pc (nx - pc) = true) (h : zexec False (fun r w t => o = (r, w, t)) (fun pc ls st w t c => zSim E k p l e s m args below meth cde ra0 t0 o pc ls st w t c) (zcallP n0) k pc (.l2i ) nx ls st w t c) : zSim E k p l e s m args below meth cde ra0 t0 o pc ls st w t c := by
  delta zexec at h
  dsimp only [zbin] at h
  have hn : nx - pc = 1 := Nat.eq_of_beq_eq_true hz
  rw [hn] at hd
  obtain rfl : nx = pc + 1 := by omega
  have hh := zp1_e h
  clear h
  obtain ⟨x, r, e1, h⟩ := hh
  subst e1
  exact zs_l2i C hd h
theorem zx_i2b {n0 nx : Nat}  (C : zCx E k p l s m args meth cde) (hk : k < 389) (hdec : zDec) (hIH : zIH E l n0) (hd : decode (zby k) pc = .ok (.i2b , nx - pc)) (hlt : pc < nx) (hz : zil (.i2b ) pc (nx - pc) = true) (h : zexec False (fun r w t => o = (r, w, t)) (fun pc ls st w t c => zSim E k p l e s m args below meth cde ra0 t0 o pc ls st w t c) (zcallP n0) k pc (.i2b ) nx ls st w t c) : zSim E k p l e s m args below meth cde ra0 t0 o pc ls st w t c := by
  delta zexec at h
  dsimp only [zbin] at h
  have hn : nx - pc = 1 := Nat.eq_of_beq_eq_true hz
  rw [hn] at hd
  obtain rfl : nx = pc + 1 := by omega
  have hh := zp1_e h
  clear h
  obtain ⟨x, r, e1, h⟩ := hh
  subst e1
  exact zs_i2b C hd h
theorem zx_lcmp {n0 nx : Nat}  (C : zCx E k p l s m args meth cde) (hk : k < 389) (hdec : zDec) (hIH : zIH E l n0) (hd : decode (zby k) pc = .ok (.lcmp , nx - pc)) (hlt : pc < nx) (hz : zil (.lcmp ) pc (nx - pc) = true) (h : zexec False (fun r w t => o = (r, w, t)) (fun pc ls st w t c => zSim E k p l e s m args below meth cde ra0 t0 o pc ls st w t c) (zcallP n0) k pc (.lcmp ) nx ls st w t c) : zSim E k p l e s m args below meth cde ra0 t0 o pc ls st w t c := by
  delta zexec at h
  dsimp only [zbin] at h
  have hn : nx - pc = 1 := Nat.eq_of_beq_eq_true hz
  rw [hn] at hd
  obtain rfl : nx = pc + 1 := by omega
  have hh := zp1_e h
  clear h
  obtain ⟨y, r1, e1, h⟩ := hh
  have hh := zp1_e h
  clear h
  obtain ⟨x, r, e2, h⟩ := hh
  subst e1
  subst e2
  have hh := zopt_e h
  clear h
  obtain ⟨⟨ins2, nx2, mk2⟩, hc2, h⟩ := hh
  have hh := zifc_e h
  clear h
  obtain ⟨cd, of, e3, h⟩ := hh
  have hh := zc_e h
  clear h
  obtain ⟨-, h⟩ := hh
  have e3 : ins2 = .ifCond cd of := e3
  subst e3
  obtain ⟨d1, d2, d3⟩ := hdec k _ _ _ _ hk hc2
  have d3 : (Nat.beq (nx2 - (pc + 1)) 3 && decide (0 ≤ ((pc + 1 : Nat) : Int) + of)) = true := d3
  simp only [Bool.and_eq_true, decide_eq_true_eq] at d3
  have hn2 := Nat.eq_of_beq_eq_true d3.1
  rw [hn2] at d1
  obtain rfl : nx2 = pc + 1 + 3 := by omega
  exact zs_lcmp C hd d1 d3.2 h
theorem zx_goto {n0 nx : Nat} {of : Int} (C : zCx E k p l s m args meth cde) (hk : k < 389) (hdec : zDec) (hIH : zIH E l n0) (hd : decode (zby k) pc = .ok (.goto of, nx - pc)) (hlt : pc < nx) (hz : zil (.goto of) pc (nx - pc) = true) (h : zexec False (fun r w t => o = (r, w, t)) (fun pc ls st w t c => zSim E k p l e s m args below meth cde ra0 t0 o pc ls st w t c) (zcallP n0) k pc (.goto of) nx ls st w t c) : zSim E k p l e s m args below meth cde ra0 t0 o pc ls st w t c := by
  have hz : (Nat.beq (nx - pc) 3 && decide (0 ≤ (pc : Int) + of)) = true := hz
  simp only [Bool.and_eq_true, decide_eq_true_eq] at hz
  delta zexec at h
  dsimp only [zbin] at h
  have hn : nx - pc = 3 := Nat.eq_of_beq_eq_true hz.1
  rw [hn] at hd
  obtain rfl : nx = pc + 3 := by omega
  exact zs_goto C hd hz.2 h
theorem zx_ifCond {n0 nx : Nat} {cd : ClassFile.Cond} {of : Int} (C : zCx E k p l s m args meth cde) (hk : k < 389) (hdec : zDec) (hIH : zIH E l n0) (hd : decode (zby k) pc = .ok (.ifCond cd of, nx - pc)) (hlt : pc < nx) (hz : zil (.ifCond cd of) pc (nx - pc) = true) (h : zexec False (fun r w t => o = (r, w, t)) (fun pc ls st w t c => zSim E k p l e s m args below meth cde ra0 t0 o pc ls st w t c) (zcallP n0) k pc (.ifCond cd of) nx ls st w t c) : zSim E k p l e s m args below meth cde ra0 t0 o pc ls st w t c := by
  have hz : (Nat.beq (nx - pc) 3 && decide (0 ≤ (pc : Int) + of)) = true := hz
  simp only [Bool.and_eq_true, decide_eq_true_eq] at hz
  delta zexec at h
  dsimp only [zbin] at h
  have hn : nx - pc = 3 := Nat.eq_of_beq_eq_true hz.1
  rw [hn] at hd
  obtain rfl : nx = pc + 3 := by omega
  have hh := zp1_e h
  clear h
  obtain ⟨x, r, e1, h⟩ := hh
  subst e1
  exact zs_ifc C hd hz.2 h
theorem zx_if_icmp {n0 nx : Nat} {cd : ClassFile.Cond} {of : Int} (C : zCx E k p l s m args meth cde) (hk : k < 389) (hdec : zDec) (hIH : zIH E l n0) (hd : decode (zby k) pc = .ok (.if_icmp cd of, nx - pc)) (hlt : pc < nx) (hz : zil (.if_icmp cd of) pc (nx - pc) = true) (h : zexec False (fun r w t => o = (r, w, t)) (fun pc ls st w t c => zSim E k p l e s m args below meth cde ra0 t0 o pc ls st w t c) (zcallP n0) k pc (.if_icmp cd of) nx ls st w t c) : zSim E k p l e s m args below meth cde ra0 t0 o pc ls st w t c := by
  have hz : (Nat.beq (nx - pc) 3 && decide (0 ≤ (pc : Int) + of)) = true := hz
  simp only [Bool.and_eq_true, decide_eq_true_eq] at hz
  delta zexec at h
  dsimp only [zbin] at h
  have hn : nx - pc = 3 := Nat.eq_of_beq_eq_true hz.1
  rw [hn] at hd
  obtain rfl : nx = pc + 3 := by omega
  have hh := zp1_e h
  clear h
  obtain ⟨y, r1, e1, h⟩ := hh
  have hh := zp1_e h
  clear h
  obtain ⟨x, r, e2, h⟩ := hh
  subst e1
  subst e2
  exact zs_icmp C hd hz.2 h
theorem zx_if_acmp {n0 nx : Nat} {cd : ClassFile.ACond} {of : Int} (C : zCx E k p l s m args meth cde) (hk : k < 389) (hdec : zDec) (hIH : zIH E l n0) (hd : decode (zby k) pc = .ok (.if_acmp cd of, nx - pc)) (hlt : pc < nx) (hz : zil (.if_acmp cd of) pc (nx - pc) = true) (h : zexec False (fun r w t => o = (r, w, t)) (fun pc ls st w t c => zSim E k p l e s m args below meth cde ra0 t0 o pc ls st w t c) (zcallP n0) k pc (.if_acmp cd of) nx ls st w t c) : zSim E k p l e s m args below meth cde ra0 t0 o pc ls st w t c := by
  have hz : (Nat.beq (nx - pc) 3 && decide (0 ≤ (pc : Int) + of)) = true := hz
  simp only [Bool.and_eq_true, decide_eq_true_eq] at hz
  delta zexec at h
  dsimp only [zbin] at h
  have hn : nx - pc = 3 := Nat.eq_of_beq_eq_true hz.1
  rw [hn] at hd
  obtain rfl : nx = pc + 3 := by omega
  have hh := zp1_e h
  clear h
  obtain ⟨y, r1, e1, h⟩ := hh
  have hh := zp1_e h
  clear h
  obtain ⟨x, r, e2, h⟩ := hh
  subst e1
  subst e2
  have hh := zif_e h
  clear h
  obtain ⟨hx, h⟩ := hh
  have hh := zif_e h
  clear h
  obtain ⟨hy, h⟩ := hh
  exact zs_acmp C hd hz.2 hx hy h
theorem zx_ifnull {n0 nx : Nat} {of : Int} (C : zCx E k p l s m args meth cde) (hk : k < 389) (hdec : zDec) (hIH : zIH E l n0) (hd : decode (zby k) pc = .ok (.ifnull of, nx - pc)) (hlt : pc < nx) (hz : zil (.ifnull of) pc (nx - pc) = true) (h : zexec False (fun r w t => o = (r, w, t)) (fun pc ls st w t c => zSim E k p l e s m args below meth cde ra0 t0 o pc ls st w t c) (zcallP n0) k pc (.ifnull of) nx ls st w t c) : zSim E k p l e s m args below meth cde ra0 t0 o pc ls st w t c := by
  have hz : (Nat.beq (nx - pc) 3 && decide (0 ≤ (pc : Int) + of)) = true := hz
  simp only [Bool.and_eq_true, decide_eq_true_eq] at hz
  delta zexec at h
  dsimp only [zbin] at h
  have hn : nx - pc = 3 := Nat.eq_of_beq_eq_true hz.1
  rw [hn] at hd
  obtain rfl : nx = pc + 3 := by omega
  have hh := zpr_e h
  clear h
  obtain ⟨v, r, e1, hv, h⟩ := hh
  subst e1
  exact zs_ifnull C hd hz.2 hv h
theorem zx_ifnonnull {n0 nx : Nat} {of : Int} (C : zCx E k p l s m args meth cde) (hk : k < 389) (hdec : zDec) (hIH : zIH E l n0) (hd : decode (zby k) pc = .ok (.ifnonnull of, nx - pc)) (hlt : pc < nx) (hz : zil (.ifnonnull of) pc (nx - pc) = true) (h : zexec False (fun r w t => o = (r, w, t)) (fun pc ls st w t c => zSim E k p l e s m args below meth cde ra0 t0 o pc ls st w t c) (zcallP n0) k pc (.ifnonnull of) nx ls st w t c) : zSim E k p l e s m args below meth cde ra0 t0 o pc ls st w t c := by
  have hz : (Nat.beq (nx - pc) 3 && decide (0 ≤ (pc : Int) + of)) = true := hz
  simp only [Bool.and_eq_true, decide_eq_true_eq] at hz
  delta zexec at h
  dsimp only [zbin] at h
  have hn : nx - pc = 3 := Nat.eq_of_beq_eq_true hz.1
  rw [hn] at hd
  obtain rfl : nx = pc + 3 := by omega
  have hh := zpr_e h
  clear h
  obtain ⟨v, r, e1, hv, h⟩ := hh
  subst e1
  exact zs_ifnonnull C hd hz.2 hv h
theorem zx_tableswitch {n0 nx : Nat} {d : Int} {lo : Int} {hi : Int} {os : Array Int} (C : zCx E k p l s m args meth cde) (hk : k < 389) (hdec : zDec) (hIH : zIH E l n0) (hd : decode (zby k) pc = .ok (.tableswitch d lo hi os, nx - pc)) (hlt : pc < nx) (hz : zil (.tableswitch d lo hi os) pc (nx - pc) = true) (h : zexec False (fun r w t => o = (r, w, t)) (fun pc ls st w t c => zSim E k p l e s m args below meth cde ra0 t0 o pc ls st w t c) (zcallP n0) k pc (.tableswitch d lo hi os) nx ls st w t c) : zSim E k p l e s m args below meth cde ra0 t0 o pc ls st w t c := by
  have hz : (decide (0 ≤ (pc : Int) + d) && (os.toList.all (fun o => decide (0 ≤ (pc : Int) + o)) && decide (hi = lo + os.size - 1))) = true := hz
  simp only [Bool.and_eq_true, decide_eq_true_eq] at hz
  delta zexec at h
  dsimp only [zbin] at h
  have hh := zp1_e h
  clear h
  obtain ⟨x, r, e1, h⟩ := hh
  subst e1
  exact zs_tsw C hd hz.1 (fun of ho => of_decide_eq_true (List.all_eq_true.mp hz.2.1 of ho)) hz.2.2 h
theorem zx_getfield {n0 nx : Nat} {i : Nat} (C : zCx E k p l s m args meth cde) (hk : k < 389) (hdec : zDec) (hIH : zIH E l n0) (hd : decode (zby k) pc = .ok (.getfield i, nx - pc)) (hlt : pc < nx) (hz : zil (.getfield i) pc (nx - pc) = true) (h : zexec False (fun r w t => o = (r, w, t)) (fun pc ls st w t c => zSim E k p l e s m args below meth cde ra0 t0 o pc ls st w t c) (zcallP n0) k pc (.getfield i) nx ls st w t c) : zSim E k p l e s m args below meth cde ra0 t0 o pc ls st w t c := by
  delta zexec at h
  dsimp only [zbin] at h
  have hn : nx - pc = 3 := Nat.eq_of_beq_eq_true hz
  rw [hn] at hd
  obtain rfl : nx = pc + 3 := by omega
  cases hf : zfld (zown k) i with
  | some a =>
    rw [hf] at h; simp only [zcase_s, zcase_n] at h
    have hh := zp1_e h
    clear h
    obtain ⟨x, r, e1, h⟩ := hh
    have hh := zc_e h
    clear h
    obtain ⟨hx, h⟩ := hh
    subst e1
    cases b0 : Nat.beq a.2.2 0 with
    | true => rw [b0, cond_true] at h; exact zs_get0 C hk hd hf hx (Nat.eq_of_beq_eq_true b0) h
    | false =>
    rw [b0, cond_false] at h
    cases b1 : Nat.beq a.2.2 1 with
    | true => rw [b1, cond_true] at h; exact zs_get1 C hk hd hf hx (Nat.eq_of_beq_eq_true b1) h
    | false =>
    rw [b1, cond_false] at h
    cases b2 : Nat.beq a.2.2 2 with
    | true =>
      rw [b2, cond_true] at h
      have hh := zopt_e h
      clear h
      obtain ⟨r2, hr, h⟩ := hh
      have hh := zc_e h
      clear h
      obtain ⟨hb, h⟩ := hh
      exact zs_get2 (q := (0, 0, 0)) C hk hd hf hx (Nat.eq_of_beq_eq_true b2) hr (Nat.blt_eq.mp hb) h
    | false =>
    rw [b2, cond_false] at h
    cases b3 : Nat.beq a.2.2 3 with
    | true =>
      rw [b3, cond_true] at h
      have hh := zif_e h
      clear h
      obtain ⟨h0, h⟩ := hh
      exact zs_get3 C hk hd hf hx (Nat.eq_of_beq_eq_true b3) h0 h
    | false =>
    rw [b3, cond_false] at h
    exact zs_get4 C hk hd hf hx b0 b1 b2 b3 h
  | none =>
    rw [hf] at h; simp only [zcase_s, zcase_n] at h
    have hh := zopt_e h
    clear h
    obtain ⟨f, hf2, h⟩ := hh
    have hh := zp1_e h
    clear h
    obtain ⟨x, r, e1, h⟩ := hh
    have hh := zif_e h
    clear h
    obtain ⟨hx, h⟩ := hh
    subst e1
    exact zs_getE C hk hd hf2 hx h
theorem zx_putfield {n0 nx : Nat} {i : Nat} (C : zCx E k p l s m args meth cde) (hk : k < 389) (hdec : zDec) (hIH : zIH E l n0) (hd : decode (zby k) pc = .ok (.putfield i, nx - pc)) (hlt : pc < nx) (hz : zil (.putfield i) pc (nx - pc) = true) (h : zexec False (fun r w t => o = (r, w, t)) (fun pc ls st w t c => zSim E k p l e s m args below meth cde ra0 t0 o pc ls st w t c) (zcallP n0) k pc (.putfield i) nx ls st w t c) : zSim E k p l e s m args below meth cde ra0 t0 o pc ls st w t c := by
  delta zexec at h
  dsimp only [zbin] at h
  have hn : nx - pc = 3 := Nat.eq_of_beq_eq_true hz
  rw [hn] at hd
  obtain rfl : nx = pc + 3 := by omega
  have hh := zopt_e h
  clear h
  obtain ⟨a, hf, h⟩ := hh
  cases b0 : Nat.beq a.2.2 0 with
  | true =>
    rw [b0, cond_true] at h
    have hh := zp1_e h
    clear h
    obtain ⟨y, r1, e1, h⟩ := hh
    have hh := zp1_e h
    clear h
    obtain ⟨x, r, e2, h⟩ := hh
    have hh := zc_e h
    clear h
    obtain ⟨hx, h⟩ := hh
    subst e1
    subst e2
    exact zs_put0 C hk hd hf hx (Nat.eq_of_beq_eq_true b0) h
  | false =>
  rw [b0, cond_false] at h
  cases b1 : Nat.beq a.2.2 1 with
  | true =>
    rw [b1, cond_true] at h
    have hh := zp1_e h
    clear h
    obtain ⟨y, r1, e1, h⟩ := hh
    have hh := zp1_e h
    clear h
    obtain ⟨x, r, e2, h⟩ := hh
    have hh := zc_e h
    clear h
    obtain ⟨hx, h⟩ := hh
    subst e1
    subst e2
    exact zs_put1 C hk hd hf hx (Nat.eq_of_beq_eq_true b1) h
  | false =>
  rw [b1, cond_false] at h
  cases b2 : Nat.beq a.2.2 2 with
  | true =>
    rw [b2, cond_true] at h
    have hh := zp1_e h
    clear h
    obtain ⟨y, r1, e1, h⟩ := hh
    have hh := zp1_e h
    clear h
    obtain ⟨x, r, e2, h⟩ := hh
    have hh := zc_e h
    clear h
    obtain ⟨hx, h⟩ := hh
    subst e1
    subst e2
    have hh := zopt_e h
    clear h
    obtain ⟨r2, hr, h⟩ := hh
    have hh := zc_e h
    clear h
    obtain ⟨hb, h⟩ := hh
    simp only [Bool.and_eq_true] at hx hb
    obtain ⟨hx1, hx2, hx3⟩ := hx
    have hcx : zcix (zown k) = some a.1 := by
      cases hq : zcix (zown k) with
      | none => rw [hq] at hx3; cases hx3
      | some ci => rw [hq] at hx3; rw [Nat.eq_of_beq_eq_true (show Nat.beq ci a.1 = true from hx3)]
    exact zs_putF C hk hd hf hx1 hx2 hcx (Nat.eq_of_beq_eq_true b2) hr (Nat.eq_of_beq_eq_true hb.1) (Nat.eq_of_beq_eq_true hb.2.1) (Nat.blt_eq.mp hb.2.2.1) (Nat.eq_of_beq_eq_true hb.2.2.2) h
  | false =>
  rw [b2, cond_false] at h
  cases b3 : Nat.beq a.2.2 3 with
  | true =>
    rw [b3, cond_true] at h
    have hh := zp1_e h
    clear h
    obtain ⟨y, r1, e1, h⟩ := hh
    have hh := zp1_e h
    clear h
    obtain ⟨x, r, e2, h⟩ := hh
    have hh := zc_e h
    clear h
    obtain ⟨hx, h⟩ := hh
    subst e1
    subst e2
    have hh := zif_e h
    clear h
    obtain ⟨hy, h⟩ := hh
    exact zs_put3 C hk hd hf hx (Nat.eq_of_beq_eq_true b3) hy h
  | false =>
  rw [b3, cond_false] at h
  have hh := zp1_e h
  clear h
  obtain ⟨y, r1, e1, h⟩ := hh
  have hh := zp1_e h
  clear h
  obtain ⟨x, r, e2, h⟩ := hh
  have hh := zc_e h
  clear h
  obtain ⟨hx, h⟩ := hh
  subst e1
  subst e2
  have hh := zif_e h
  clear h
  obtain ⟨hy, h⟩ := hh
  exact zs_put4 C hk hd hf hx b0 b1 b2 b3 hy h
theorem zx_getstatic {n0 nx : Nat} {i : Nat} (C : zCx E k p l s m args meth cde) (hk : k < 389) (hdec : zDec) (hIH : zIH E l n0) (hd : decode (zby k) pc = .ok (.getstatic i, nx - pc)) (hlt : pc < nx) (hz : zil (.getstatic i) pc (nx - pc) = true) (h : zexec False (fun r w t => o = (r, w, t)) (fun pc ls st w t c => zSim E k p l e s m args below meth cde ra0 t0 o pc ls st w t c) (zcallP n0) k pc (.getstatic i) nx ls st w t c) : zSim E k p l e s m args below meth cde ra0 t0 o pc ls st w t c := by
  delta zexec at h
  dsimp only [zbin] at h
  have hn : nx - pc = 3 := Nat.eq_of_beq_eq_true hz
  rw [hn] at hd
  obtain rfl : nx = pc + 3 := by omega
  have hh := zopt_e h
  clear h
  obtain ⟨q, hf, h⟩ := hh
  exact zs_gets C hk hd hf h
theorem zx_iaload {n0 nx : Nat}  (C : zCx E k p l s m args meth cde) (hk : k < 389) (hdec : zDec) (hIH : zIH E l n0) (hd : decode (zby k) pc = .ok (.iaload , nx - pc)) (hlt : pc < nx) (hz : zil (.iaload ) pc (nx - pc) = true) (h : zexec False (fun r w t => o = (r, w, t)) (fun pc ls st w t c => zSim E k p l e s m args below meth cde ra0 t0 o pc ls st w t c) (zcallP n0) k pc (.iaload ) nx ls st w t c) : zSim E k p l e s m args below meth cde ra0 t0 o pc ls st w t c := by
  delta zexec at h
  dsimp only [zbin] at h
  have hn : nx - pc = 1 := Nat.eq_of_beq_eq_true hz
  rw [hn] at hd
  obtain rfl : nx = pc + 1 := by omega
  have hh := zp1_e h
  clear h
  obtain ⟨i, r1, e1, h⟩ := hh
  have hh := zp1_e h
  clear h
  obtain ⟨x, r, e2, h⟩ := hh
  subst e1
  subst e2
  cases b1 : Nat.beq x.toNat 2001 with
  | true =>
    rw [b1, cond_true] at h
    have hh := zif_e h
    clear h
    obtain ⟨hi, h⟩ := hh
    exact zs_smap C hd (Nat.eq_of_beq_eq_true b1) hi h
  | false =>
  rw [b1, cond_false] at h
  cases b2 : Nat.beq x.toNat 2002 with
  | true =>
    rw [b2, cond_true] at h
    have hh := zif_e h
    clear h
    obtain ⟨hi, h⟩ := hh
    exact zs_scr C hd (Nat.eq_of_beq_eq_true b2) hi h
  | false =>
  rw [b2, cond_false] at h
  have hh := zarr_e h
  clear h
  obtain ⟨n, hl, hn2, h⟩ := hh
  have hh := zif_e h
  clear h
  obtain ⟨hi, h⟩ := hh
  exact zs_iald C hd hl hn2 hi h
theorem zx_laload {n0 nx : Nat}  (C : zCx E k p l s m args meth cde) (hk : k < 389) (hdec : zDec) (hIH : zIH E l n0) (hd : decode (zby k) pc = .ok (.laload , nx - pc)) (hlt : pc < nx) (hz : zil (.laload ) pc (nx - pc) = true) (h : zexec False (fun r w t => o = (r, w, t)) (fun pc ls st w t c => zSim E k p l e s m args below meth cde ra0 t0 o pc ls st w t c) (zcallP n0) k pc (.laload ) nx ls st w t c) : zSim E k p l e s m args below meth cde ra0 t0 o pc ls st w t c := by
  delta zexec at h
  dsimp only [zbin] at h
  have hn : nx - pc = 1 := Nat.eq_of_beq_eq_true hz
  rw [hn] at hd
  obtain rfl : nx = pc + 1 := by omega
  have hh := zp1_e h
  clear h
  obtain ⟨i, r1, e1, h⟩ := hh
  have hh := zp1_e h
  clear h
  obtain ⟨x, r, e2, h⟩ := hh
  subst e1
  subst e2
  have hh := zarr_e h
  clear h
  obtain ⟨n, hl, hn2, h⟩ := hh
  have hh := zif_e h
  clear h
  obtain ⟨hi, h⟩ := hh
  exact zs_lald C hd hl hn2 hi h
theorem zx_baload {n0 nx : Nat}  (C : zCx E k p l s m args meth cde) (hk : k < 389) (hdec : zDec) (hIH : zIH E l n0) (hd : decode (zby k) pc = .ok (.baload , nx - pc)) (hlt : pc < nx) (hz : zil (.baload ) pc (nx - pc) = true) (h : zexec False (fun r w t => o = (r, w, t)) (fun pc ls st w t c => zSim E k p l e s m args below meth cde ra0 t0 o pc ls st w t c) (zcallP n0) k pc (.baload ) nx ls st w t c) : zSim E k p l e s m args below meth cde ra0 t0 o pc ls st w t c := by
  delta zexec at h
  dsimp only [zbin] at h
  have hn : nx - pc = 1 := Nat.eq_of_beq_eq_true hz
  rw [hn] at hd
  obtain rfl : nx = pc + 1 := by omega
  have hh := zp1_e h
  clear h
  obtain ⟨i, r1, e1, h⟩ := hh
  have hh := zp1_e h
  clear h
  obtain ⟨x, r, e2, h⟩ := hh
  subst e1
  subst e2
  have hh := zopt_e h
  clear h
  obtain ⟨⟨kd, n⟩, hl, h⟩ := hh
  have hh := zc_e h
  clear h
  obtain ⟨hb, h⟩ := hh
  have hh := zif_e h
  clear h
  obtain ⟨hi, h⟩ := hh
  simp only [Bool.and_eq_true, Bool.or_eq_true] at hb
  have hn2 := Nat.blt_eq.mp hb.2
  rcases hb.1 with q | q
  · have q := Nat.eq_of_beq_eq_true q
    subst q
    exact zs_bald C hd hl hn2 hi h
  · have q := Nat.eq_of_beq_eq_true q
    subst q
    exact zs_zald C hd hl hn2 hi h
theorem zx_aaload {n0 nx : Nat}  (C : zCx E k p l s m args meth cde) (hk : k < 389) (hdec : zDec) (hIH : zIH E l n0) (hd : decode (zby k) pc = .ok (.aaload , nx - pc)) (hlt : pc < nx) (hz : zil (.aaload ) pc (nx - pc) = true) (h : zexec False (fun r w t => o = (r, w, t)) (fun pc ls st w t c => zSim E k p l e s m args below meth cde ra0 t0 o pc ls st w t c) (zcallP n0) k pc (.aaload ) nx ls st w t c) : zSim E k p l e s m args below meth cde ra0 t0 o pc ls st w t c := by
  delta zexec at h
  dsimp only [zbin] at h
  have hn : nx - pc = 1 := Nat.eq_of_beq_eq_true hz
  rw [hn] at hd
  obtain rfl : nx = pc + 1 := by omega
  have hh := zp1_e h
  clear h
  obtain ⟨i, r1, e1, h⟩ := hh
  have hh := zp1_e h
  clear h
  obtain ⟨x, r, e2, h⟩ := hh
  subst e1
  subst e2
  cases b1 : Nat.beq x.toNat 2000 with
  | true =>
    rw [b1, cond_true] at h
    have hh := zif_e h
    clear h
    obtain ⟨hi, h⟩ := hh
    exact zs_wall C hd (Nat.eq_of_beq_eq_true b1) hi h
  | false =>
  rw [b1, cond_false] at h
  have hh := zopt_e h
  clear h
  obtain ⟨⟨kd, n⟩, hl, h⟩ := hh
  have hh := zc_e h
  clear h
  obtain ⟨hb, h⟩ := hh
  have hh := zif_e h
  clear h
  obtain ⟨hi, h⟩ := hh
  have hn2 := Nat.blt_eq.mp hb
  cases b5 : Nat.beq kd 5 with
  | true =>
    rw [b5, cond_true] at h
    have hh := zif_e h
    clear h
    obtain ⟨h0, h⟩ := hh
    have q := Nat.eq_of_beq_eq_true b5
    subst q
    exact zs_ald5 C hd hl hn2 hi h0 h
  | false =>
  rw [b5, cond_false] at h
  have hh := zc_e h
  clear h
  obtain ⟨b6, h⟩ := hh
  have hh := zopt_e h
  clear h
  obtain ⟨r2, hr, h⟩ := hh
  have hh := zc_e h
  clear h
  obtain ⟨hb2, h⟩ := hh
  have q : kd = 6 := Nat.eq_of_beq_eq_true b6
  subst q
  exact zs_ald6 C hd hl hn2 hi hr (Nat.blt_eq.mp hb2) h
theorem zx_iastore {n0 nx : Nat}  (C : zCx E k p l s m args meth cde) (hk : k < 389) (hdec : zDec) (hIH : zIH E l n0) (hd : decode (zby k) pc = .ok (.iastore , nx - pc)) (hlt : pc < nx) (hz : zil (.iastore ) pc (nx - pc) = true) (h : zexec False (fun r w t => o = (r, w, t)) (fun pc ls st w t c => zSim E k p l e s m args below meth cde ra0 t0 o pc ls st w t c) (zcallP n0) k pc (.iastore ) nx ls st w t c) : zSim E k p l e s m args below meth cde ra0 t0 o pc ls st w t c := by
  delta zexec at h
  dsimp only [zbin] at h
  have hn : nx - pc = 1 := Nat.eq_of_beq_eq_true hz
  rw [hn] at hd
  obtain rfl : nx = pc + 1 := by omega
  have hh := zp1_e h
  clear h
  obtain ⟨y, r0, e0, h⟩ := hh
  have hh := zp1_e h
  clear h
  obtain ⟨i, r1, e1, h⟩ := hh
  have hh := zp1_e h
  clear h
  obtain ⟨x, r, e2, h⟩ := hh
  subst e0
  subst e1
  subst e2
  have hh := zarr_e h
  clear h
  obtain ⟨n, hl, hn2, h⟩ := hh
  have hh := zif_e h
  clear h
  obtain ⟨hi, h⟩ := hh
  exact zs_iast C hd hl hn2 hi h
theorem zx_lastore {n0 nx : Nat}  (C : zCx E k p l s m args meth cde) (hk : k < 389) (hdec : zDec) (hIH : zIH E l n0) (hd : decode (zby k) pc = .ok (.lastore , nx - pc)) (hlt : pc < nx) (hz : zil (.lastore ) pc (nx - pc) = true) (h : zexec False (fun r w t => o = (r, w, t)) (fun pc ls st w t c => zSim E k p l e s m args below meth cde ra0 t0 o pc ls st w t c) (zcallP n0) k pc (.lastore ) nx ls st w t c) : zSim E k p l e s m args below meth cde ra0 t0 o pc ls st w t c := by
  delta zexec at h
  dsimp only [zbin] at h
  have hn : nx - pc = 1 := Nat.eq_of_beq_eq_true hz
  rw [hn] at hd
  obtain rfl : nx = pc + 1 := by omega
  have hh := zp1_e h
  clear h
  obtain ⟨y, r0, e0, h⟩ := hh
  have hh := zp1_e h
  clear h
  obtain ⟨i, r1, e1, h⟩ := hh
  have hh := zp1_e h
  clear h
  obtain ⟨x, r, e2, h⟩ := hh
  subst e0
  subst e1
  subst e2
  have hh := zarr_e h
  clear h
  obtain ⟨n, hl, hn2, h⟩ := hh
  have hh := zif_e h
  clear h
  obtain ⟨hi, h⟩ := hh
  exact zs_last C hd hl hn2 hi h
theorem zx_bastore {n0 nx : Nat}  (C : zCx E k p l s m args meth cde) (hk : k < 389) (hdec : zDec) (hIH : zIH E l n0) (hd : decode (zby k) pc = .ok (.bastore , nx - pc)) (hlt : pc < nx) (hz : zil (.bastore ) pc (nx - pc) = true) (h : zexec False (fun r w t => o = (r, w, t)) (fun pc ls st w t c => zSim E k p l e s m args below meth cde ra0 t0 o pc ls st w t c) (zcallP n0) k pc (.bastore ) nx ls st w t c) : zSim E k p l e s m args below meth cde ra0 t0 o pc ls st w t c := by
  delta zexec at h
  dsimp only [zbin] at h
  have hn : nx - pc = 1 := Nat.eq_of_beq_eq_true hz
  rw [hn] at hd
  obtain rfl : nx = pc + 1 := by omega
  have hh := zp1_e h
  clear h
  obtain ⟨y, r0, e0, h⟩ := hh
  have hh := zp1_e h
  clear h
  obtain ⟨i, r1, e1, h⟩ := hh
  have hh := zp1_e h
  clear h
  obtain ⟨x, r, e2, h⟩ := hh
  subst e0
  subst e1
  subst e2
  have hh := zopt_e h
  clear h
  obtain ⟨⟨kd, n⟩, hl, h⟩ := hh
  have hh := zc_e h
  clear h
  obtain ⟨hb, h⟩ := hh
  have hh := zif_e h
  clear h
  obtain ⟨hi, h⟩ := hh
  have hn2 := Nat.blt_eq.mp hb
  cases b3 : Nat.beq kd 3 with
  | true =>
    rw [b3, cond_true] at h
    have q := Nat.eq_of_beq_eq_true b3
    subst q
    exact zs_bast C hd hl hn2 hi h
  | false =>
  rw [b3, cond_false] at h
  have hh := zc_e h
  clear h
  obtain ⟨b4, h⟩ := hh
  have hh := zif_e h
  clear h
  obtain ⟨h01, h⟩ := hh
  have q : kd = 4 := Nat.eq_of_beq_eq_true b4
  subst q
  exact zs_zast C hd hl hn2 hi h01 h
theorem zx_aastore {n0 nx : Nat}  (C : zCx E k p l s m args meth cde) (hk : k < 389) (hdec : zDec) (hIH : zIH E l n0) (hd : decode (zby k) pc = .ok (.aastore , nx - pc)) (hlt : pc < nx) (hz : zil (.aastore ) pc (nx - pc) = true) (h : zexec False (fun r w t => o = (r, w, t)) (fun pc ls st w t c => zSim E k p l e s m args below meth cde ra0 t0 o pc ls st w t c) (zcallP n0) k pc (.aastore ) nx ls st w t c) : zSim E k p l e s m args below meth cde ra0 t0 o pc ls st w t c := by
  delta zexec at h
  dsimp only [zbin] at h
  have hn : nx - pc = 1 := Nat.eq_of_beq_eq_true hz
  rw [hn] at hd
  obtain rfl : nx = pc + 1 := by omega
  have hh := zp1_e h
  clear h
  obtain ⟨y, r0, e0, h⟩ := hh
  have hh := zp1_e h
  clear h
  obtain ⟨i, r1, e1, h⟩ := hh
  have hh := zp1_e h
  clear h
  obtain ⟨x, r, e2, h⟩ := hh
  subst e0
  subst e1
  subst e2
  have hh := zopt_e h
  clear h
  obtain ⟨⟨kd, n⟩, hl, h⟩ := hh
  have hh := zc_e h
  clear h
  obtain ⟨hb, h⟩ := hh
  have hh := zif_e h
  clear h
  obtain ⟨hi, h⟩ := hh
  have hn2 := Nat.blt_eq.mp hb
  cases b5 : Nat.beq kd 5 with
  | true =>
    rw [b5, cond_true] at h
    have hh := zif_e h
    clear h
    obtain ⟨hy, h⟩ := hh
    have q := Nat.eq_of_beq_eq_true b5
    subst q
    exact zs_ast5 C hd hl hn2 hi hy h
  | false =>
  rw [b5, cond_false] at h
  have hh := zc_e h
  clear h
  obtain ⟨b6, h⟩ := hh
  have hh := zopt_e h
  clear h
  obtain ⟨r2, hr, h⟩ := hh
  have hh := zc_e h
  clear h
  obtain ⟨hb2, h⟩ := hh
  simp only [Bool.and_eq_true] at hb2
  have q : kd = 6 := Nat.eq_of_beq_eq_true b6
  subst q
  exact zs_ast6 C hd hl hn2 hi hr (Nat.eq_of_beq_eq_true hb2.1) (Nat.eq_of_beq_eq_true hb2.2.1) hb2.2.2.1 (Nat.eq_of_beq_eq_true hb2.2.2.2) h
theorem zx_arraylength {n0 nx : Nat}  (C : zCx E k p l s m args meth cde) (hk : k < 389) (hdec : zDec) (hIH : zIH E l n0) (hd : decode (zby k) pc = .ok (.arraylength , nx - pc)) (hlt : pc < nx) (hz : zil (.arraylength ) pc (nx - pc) = true) (h : zexec False (fun r w t => o = (r, w, t)) (fun pc ls st w t c => zSim E k p l e s m args below meth cde ra0 t0 o pc ls st w t c) (zcallP n0) k pc (.arraylength ) nx ls st w t c) : zSim E k p l e s m args below meth cde ra0 t0 o pc ls st w t c := by
  delta zexec at h
  dsimp only [zbin] at h
  have hn : nx - pc = 1 := Nat.eq_of_beq_eq_true hz
  rw [hn] at hd
  obtain rfl : nx = pc + 1 := by omega
  have hh := zp1_e h
  clear h
  obtain ⟨x, r, e1, h⟩ := hh
  subst e1
  cases b1 : Nat.beq x.toNat 2000 with
  | true => rw [b1, cond_true] at h; exact zs_lenW C hd (Nat.eq_of_beq_eq_true b1) h
  | false =>
  rw [b1, cond_false] at h
  cases b2 : Nat.beq x.toNat 2002 with
  | true => rw [b2, cond_true] at h; exact zs_lenS C hd (Nat.eq_of_beq_eq_true b2) h
  | false =>
  rw [b2, cond_false] at h
  have hh := zopt_e h
  clear h
  obtain ⟨a, hl, h⟩ := hh
  have hh := zc_e h
  clear h
  obtain ⟨hb, h⟩ := hh
  simp only [Bool.and_eq_true] at hb
  exact zs_len C hd hl (Nat.blt_eq.mp hb.1) (Nat.blt_eq.mp hb.2.1) (Nat.blt_eq.mp hb.2.2) h
theorem zx_newarray {n0 nx : Nat} {a : ClassFile.ArrayType} (C : zCx E k p l s m args meth cde) (hk : k < 389) (hdec : zDec) (hIH : zIH E l n0) (hd : decode (zby k) pc = .ok (.newarray a, nx - pc)) (hlt : pc < nx) (hz : zil (.newarray a) pc (nx - pc) = true) (h : zexec False (fun r w t => o = (r, w, t)) (fun pc ls st w t c => zSim E k p l e s m args below meth cde ra0 t0 o pc ls st w t c) (zcallP n0) k pc (.newarray a) nx ls st w t c) : zSim E k p l e s m args below meth cde ra0 t0 o pc ls st w t c := by
  delta zexec at h
  dsimp only [zbin] at h
  have hn : nx - pc = 2 := Nat.eq_of_beq_eq_true hz
  rw [hn] at hd
  obtain rfl : nx = pc + 2 := by omega
  have hh := zp1_e h
  clear h
  obtain ⟨x, r, e1, h⟩ := hh
  have hh := zopt_e h
  clear h
  obtain ⟨⟨kd, n⟩, hl, h⟩ := hh
  have hh := zc_e h
  clear h
  obtain ⟨hb, h⟩ := hh
  have hh := zif_e h
  clear h
  obtain ⟨hx, h⟩ := hh
  subst e1
  simp only [Bool.and_eq_true] at hb
  have hnx := Nat.eq_of_beq_eq_true hb.2.1
  have hcc := Nat.ble_eq.mp hb.2.2
  have hx : x = (n : Int) := hx
  subst hx
  rcases zarrk_int hb.1 (zarr_lt hb.1 (zlay7 hl)) with ⟨q1, q2⟩ | ⟨q1, q2⟩ | ⟨q1, q2⟩ | ⟨q1, q2⟩ <;> subst q1 <;> have q2 : kd = _ := q2 <;> subst q2
  · exact zs_newa_int C hd hl hnx hcc h
  · exact zs_newa_long C hd hl hnx hcc h
  · exact zs_newa_byte C hd hl hnx hcc h
  · exact zs_newa_boolean C hd hl hnx hcc h
theorem zx_anewarray {n0 nx : Nat} {i : Nat} (C : zCx E k p l s m args meth cde) (hk : k < 389) (hdec : zDec) (hIH : zIH E l n0) (hd : decode (zby k) pc = .ok (.anewarray i, nx - pc)) (hlt : pc < nx) (hz : zil (.anewarray i) pc (nx - pc) = true) (h : zexec False (fun r w t => o = (r, w, t)) (fun pc ls st w t c => zSim E k p l e s m args below meth cde ra0 t0 o pc ls st w t c) (zcallP n0) k pc (.anewarray i) nx ls st w t c) : zSim E k p l e s m args below meth cde ra0 t0 o pc ls st w t c := by
  delta zexec at h
  dsimp only [zbin] at h
  have hn : nx - pc = 3 := Nat.eq_of_beq_eq_true hz
  rw [hn] at hd
  obtain rfl : nx = pc + 3 := by omega
  have hh := zp1_e h
  clear h
  obtain ⟨x, r, e1, h⟩ := hh
  have hh := zopt_e h
  clear h
  obtain ⟨⟨kd, n⟩, hl, h⟩ := hh
  have hh := zopt_e h
  clear h
  obtain ⟨kd2, ha, h⟩ := hh
  have hh := zc_e h
  clear h
  obtain ⟨hb, h⟩ := hh
  have hh := zif_e h
  clear h
  obtain ⟨hx, h⟩ := hh
  subst e1
  simp only [Bool.and_eq_true] at hb
  have hnx := Nat.eq_of_beq_eq_true hb.2.1
  have hcc := Nat.ble_eq.mp hb.2.2
  have hx : x = (n : Int) := hx
  subst hx
  have q : kd = kd2 := Nat.eq_of_beq_eq_true hb.1
  subst q
  rcases zacl_ok (zown_lt k hk) ha with ⟨q, hw⟩ | ⟨q, hw⟩ <;> subst q
  · exact zs_newq5 C hw hd hl hnx hcc h
  · exact zs_newq6 C hw hd hl hnx hcc h
theorem zx_new {n0 nx : Nat} {i : Nat} (C : zCx E k p l s m args meth cde) (hk : k < 389) (hdec : zDec) (hIH : zIH E l n0) (hd : decode (zby k) pc = .ok (.new i, nx - pc)) (hlt : pc < nx) (hz : zil (.new i) pc (nx - pc) = true) (h : zexec False (fun r w t => o = (r, w, t)) (fun pc ls st w t c => zSim E k p l e s m args below meth cde ra0 t0 o pc ls st w t c) (zcallP n0) k pc (.new i) nx ls st w t c) : zSim E k p l e s m args below meth cde ra0 t0 o pc ls st w t c := by
  delta zexec at h
  dsimp only [zbin] at h
  have hn : nx - pc = 3 := Nat.eq_of_beq_eq_true hz
  rw [hn] at hd
  obtain rfl : nx = pc + 3 := by omega
  cases hf : zthr (zown k) i with
  | some e2 =>
    rw [hf] at h; simp only [zcase_s, zcase_n] at h
    have hh := zc_e h
    clear h
    obtain ⟨hb, h⟩ := hh
    simp only [Bool.and_eq_true] at hb
    obtain ⟨b1, b2, b3, b4, b5⟩ := hb
    unfold zthq at b5
    simp only [Bool.and_eq_true] at b5
    obtain ⟨g1, g2, g3⟩ := b5
    have hx : zexT k = [] := by
      have := zexT_ok k hk
      rw [b4] at this
      exact List.isEmpty_iff.mp this
    obtain ⟨i3, n3, m3, c3, g2⟩ := zcb_e g2
    obtain ⟨d3, d3a, d3b⟩ := hdec k _ _ _ _ hk c3
    obtain ⟨i4, n4, m4, c4, g3⟩ := zcb_e g3
    obtain ⟨d4, d4a, d4b⟩ := hdec k _ _ _ _ hk c4
    have q3 : i3 = .dup := zidup_e g2
    subst q3
    have d3b : Nat.beq (n3 - (pc + 3)) 1 = true := d3b
    rw [Nat.eq_of_beq_eq_true d3b] at d3
    rcases zildc_e g3 with ⟨j, q4, g33⟩ | ⟨j, q4, g33⟩ <;> subst q4 <;> simp only [Bool.and_eq_true] at g33
    · have d4b : Nat.beq (n4 - (pc + 4)) 2 = true := d4b
      rw [Nat.eq_of_beq_eq_true d4b] at d4
      obtain ⟨i6, n6, m6, c6, g6⟩ := zcb_e g33.2.1
      obtain ⟨d6, d6a, d6b⟩ := hdec k _ _ _ _ hk c6
      have q6 := zisp_e g6
      subst q6
      have d6b : Nat.beq (n6 - (pc + 6)) 3 = true := d6b
      rw [Nat.eq_of_beq_eq_true d6b] at d6
      obtain ⟨i9, n9, m9, c9, g9⟩ := zcb_e g33.2.2
      obtain ⟨d9, d9a, d9b⟩ := hdec k _ _ _ _ hk c9
      have q9 := ziat_e g9
      subst q9
      have d9b : Nat.beq (n9 - (pc + 9)) 1 = true := d9b
      rw [Nat.eq_of_beq_eq_true d9b] at d9
      exact zs_throw C hk hd d3 d4 d6 d9 (Nat.eq_of_beq_eq_true g1) hf g33.1 hx (Nat.blt_eq.mp b1) (Nat.ble_eq.mp b2) (Nat.ble_eq.mp b3) h
    · have d4b : Nat.beq (n4 - (pc + 4)) 3 = true := d4b
      rw [Nat.eq_of_beq_eq_true d4b] at d4
      obtain ⟨i6, n6, m6, c6, g6⟩ := zcb_e g33.2.1
      obtain ⟨d6, d6a, d6b⟩ := hdec k _ _ _ _ hk c6
      have q6 := zisp_e g6
      subst q6
      have d6b : Nat.beq (n6 - (pc + 7)) 3 = true := d6b
      rw [Nat.eq_of_beq_eq_true d6b] at d6
      obtain ⟨i9, n9, m9, c9, g9⟩ := zcb_e g33.2.2
      obtain ⟨d9, d9a, d9b⟩ := hdec k _ _ _ _ hk c9
      have q9 := ziat_e g9
      subst q9
      have d9b : Nat.beq (n9 - (pc + 10)) 1 = true := d9b
      rw [Nat.eq_of_beq_eq_true d9b] at d9
      exact zs_throwW C hk hd d3 d4 d6 d9 (Nat.eq_of_beq_eq_true g1) hf g33.1 hx (Nat.blt_eq.mp b1) (Nat.ble_eq.mp b2) (Nat.ble_eq.mp b3) h
  | none =>
    rw [hf] at h; simp only [zcase_s, zcase_n] at h
    have hh := zopt_e h
    clear h
    obtain ⟨ci, hci, h⟩ := hh
    have hh := zopt_e h
    clear h
    obtain ⟨⟨kd, cj⟩, hl, h⟩ := hh
    have hh := zc_e h
    clear h
    obtain ⟨hb, h⟩ := hh
    simp only [Bool.and_eq_true] at hb
    have q1 : kd = 0 := Nat.eq_of_beq_eq_true hb.1
    have q2 : cj = ci := Nat.eq_of_beq_eq_true hb.2.1
    subst q1
    subst q2
    exact zs_new C hk hd hci hl (Nat.eq_of_beq_eq_true hb.2.2.1) (Nat.ble_eq.mp hb.2.2.2) h
theorem zx_ireturn {n0 nx : Nat}  (C : zCx E k p l s m args meth cde) (hk : k < 389) (hdec : zDec) (hIH : zIH E l n0) (hd : decode (zby k) pc = .ok (.ireturn , nx - pc)) (hlt : pc < nx) (hz : zil (.ireturn ) pc (nx - pc) = true) (h : zexec False (fun r w t => o = (r, w, t)) (fun pc ls st w t c => zSim E k p l e s m args below meth cde ra0 t0 o pc ls st w t c) (zcallP n0) k pc (.ireturn ) nx ls st w t c) : zSim E k p l e s m args below meth cde ra0 t0 o pc ls st w t c := by
  delta zexec at h
  dsimp only [zbin] at h
  have hn : nx - pc = 1 := Nat.eq_of_beq_eq_true hz
  rw [hn] at hd
  obtain rfl : nx = pc + 1 := by omega
  have hh := zp1_e h
  clear h
  obtain ⟨x, r, e1, h⟩ := hh
  have hh := zemp_e h
  clear h
  obtain ⟨e2, h⟩ := hh
  subst e1
  subst e2
  cases b1 : Nat.beq (zrt k) 1 with
  | true => rw [b1, cond_true] at h; exact zs_iret C hk hd (Nat.eq_of_beq_eq_true b1) h
  | false =>
  rw [b1, cond_false] at h
  have hh := zc_e h
  clear h
  obtain ⟨b4, h⟩ := hh
  have hh := zif_e h
  clear h
  obtain ⟨h01, h⟩ := hh
  exact zs_zret C hk hd (Nat.eq_of_beq_eq_true b4) h01 h
theorem zx_lreturn {n0 nx : Nat}  (C : zCx E k p l s m args meth cde) (hk : k < 389) (hdec : zDec) (hIH : zIH E l n0) (hd : decode (zby k) pc = .ok (.lreturn , nx - pc)) (hlt : pc < nx) (hz : zil (.lreturn ) pc (nx - pc) = true) (h : zexec False (fun r w t => o = (r, w, t)) (fun pc ls st w t c => zSim E k p l e s m args below meth cde ra0 t0 o pc ls st w t c) (zcallP n0) k pc (.lreturn ) nx ls st w t c) : zSim E k p l e s m args below meth cde ra0 t0 o pc ls st w t c := by
  delta zexec at h
  dsimp only [zbin] at h
  have hn : nx - pc = 1 := Nat.eq_of_beq_eq_true hz
  rw [hn] at hd
  obtain rfl : nx = pc + 1 := by omega
  have hh := zp1_e h
  clear h
  obtain ⟨x, r, e1, h⟩ := hh
  have hh := zemp_e h
  clear h
  obtain ⟨e2, h⟩ := hh
  have hh := zc_e h
  clear h
  obtain ⟨b1, h⟩ := hh
  subst e1
  subst e2
  exact zs_lret C hk hd (Nat.eq_of_beq_eq_true b1) h
theorem zx_areturn {n0 nx : Nat}  (C : zCx E k p l s m args meth cde) (hk : k < 389) (hdec : zDec) (hIH : zIH E l n0) (hd : decode (zby k) pc = .ok (.areturn , nx - pc)) (hlt : pc < nx) (hz : zil (.areturn ) pc (nx - pc) = true) (h : zexec False (fun r w t => o = (r, w, t)) (fun pc ls st w t c => zSim E k p l e s m args below meth cde ra0 t0 o pc ls st w t c) (zcallP n0) k pc (.areturn ) nx ls st w t c) : zSim E k p l e s m args below meth cde ra0 t0 o pc ls st w t c := by
  delta zexec at h
  dsimp only [zbin] at h
  have hn : nx - pc = 1 := Nat.eq_of_beq_eq_true hz
  rw [hn] at hd
  obtain rfl : nx = pc + 1 := by omega
  have hh := zpr_e h
  clear h
  obtain ⟨v, r, e1, hv, h⟩ := hh
  have hh := zemp_e h
  clear h
  obtain ⟨e2, h⟩ := hh
  have hh := zc_e h
  clear h
  obtain ⟨b1, h⟩ := hh
  subst e1
  subst e2
  exact zs_aret C hk hv hd (Nat.eq_of_beq_eq_true b1) h
theorem zx_return_ {n0 nx : Nat}  (C : zCx E k p l s m args meth cde) (hk : k < 389) (hdec : zDec) (hIH : zIH E l n0) (hd : decode (zby k) pc = .ok (.return_ , nx - pc)) (hlt : pc < nx) (hz : zil (.return_ ) pc (nx - pc) = true) (h : zexec False (fun r w t => o = (r, w, t)) (fun pc ls st w t c => zSim E k p l e s m args below meth cde ra0 t0 o pc ls st w t c) (zcallP n0) k pc (.return_ ) nx ls st w t c) : zSim E k p l e s m args below meth cde ra0 t0 o pc ls st w t c := by
  delta zexec at h
  dsimp only [zbin] at h
  have hn : nx - pc = 1 := Nat.eq_of_beq_eq_true hz
  rw [hn] at hd
  obtain rfl : nx = pc + 1 := by omega
  have hh := zemp_e h
  clear h
  obtain ⟨e2, h⟩ := hh
  have hh := zc_e h
  clear h
  obtain ⟨b1, h⟩ := hh
  subst e2
  exact zs_vret C hk hd (Nat.eq_of_beq_eq_true b1) h
theorem zx_invokevirtual {n0 nx : Nat} {i : Nat} (C : zCx E k p l s m args meth cde) (hk : k < 389) (hdec : zDec) (hIH : zIH E l n0) (hd : decode (zby k) pc = .ok (.invokevirtual i, nx - pc)) (hlt : pc < nx) (hz : zil (.invokevirtual i) pc (nx - pc) = true) (h : zexec False (fun r w t => o = (r, w, t)) (fun pc ls st w t c => zSim E k p l e s m args below meth cde ra0 t0 o pc ls st w t c) (zcallP n0) k pc (.invokevirtual i) nx ls st w t c) : zSim E k p l e s m args below meth cde ra0 t0 o pc ls st w t c := by
  delta zexec at h
  dsimp only [zbin] at h
  have hn : nx - pc = 3 := Nat.eq_of_beq_eq_true hz
  rw [hn] at hd
  obtain rfl : nx = pc + 3 := by omega
  exact zs_invk0 C hk hdec hIH hd h
theorem zx_invokespecial {n0 nx : Nat} {i : Nat} (C : zCx E k p l s m args meth cde) (hk : k < 389) (hdec : zDec) (hIH : zIH E l n0) (hd : decode (zby k) pc = .ok (.invokespecial i, nx - pc)) (hlt : pc < nx) (hz : zil (.invokespecial i) pc (nx - pc) = true) (h : zexec False (fun r w t => o = (r, w, t)) (fun pc ls st w t c => zSim E k p l e s m args below meth cde ra0 t0 o pc ls st w t c) (zcallP n0) k pc (.invokespecial i) nx ls st w t c) : zSim E k p l e s m args below meth cde ra0 t0 o pc ls st w t c := by
  delta zexec at h
  dsimp only [zbin] at h
  have hn : nx - pc = 3 := Nat.eq_of_beq_eq_true hz
  rw [hn] at hd
  obtain rfl : nx = pc + 3 := by omega
  exact zs_invk2 C hk hdec hIH hd h
theorem zx_invokestatic {n0 nx : Nat} {i : Nat} (C : zCx E k p l s m args meth cde) (hk : k < 389) (hdec : zDec) (hIH : zIH E l n0) (hd : decode (zby k) pc = .ok (.invokestatic i, nx - pc)) (hlt : pc < nx) (hz : zil (.invokestatic i) pc (nx - pc) = true) (h : zexec False (fun r w t => o = (r, w, t)) (fun pc ls st w t c => zSim E k p l e s m args below meth cde ra0 t0 o pc ls st w t c) (zcallP n0) k pc (.invokestatic i) nx ls st w t c) : zSim E k p l e s m args below meth cde ra0 t0 o pc ls st w t c := by
  delta zexec at h
  dsimp only [zbin] at h
  have hn : nx - pc = 3 := Nat.eq_of_beq_eq_true hz
  rw [hn] at hd
  obtain rfl : nx = pc + 3 := by omega
  exact zs_invk1 C hk hdec hIH hd h
theorem zexec_sound {n0 nx : Nat} (ins : ClassFile.Instr) (C : zCx E k p l s m args meth cde) (hk : k < 389) (hdec : zDec) (hIH : zIH E l n0) (hd : decode (zby k) pc = .ok (ins, nx - pc)) (hlt : pc < nx) (hz : zil ins pc (nx - pc) = true) (h : zexec False (fun r w t => o = (r, w, t)) (fun pc ls st w t c => zSim E k p l e s m args below meth cde ra0 t0 o pc ls st w t c) (zcallP n0) k pc ins nx ls st w t c) : zSim E k p l e s m args below meth cde ra0 t0 o pc ls st w t c := by
  cases ins
  case aconst_null  => exact zx_aconst_null C hk hdec hIH hd hlt hz h
  case aload _ => exact zx_aload C hk hdec hIH hd hlt hz h
  case aload_n _ => exact zx_aload_n C hk hdec hIH hd hlt hz h
  case iload _ => exact zx_iload C hk hdec hIH hd hlt hz h
  case iload_n _ => exact zx_iload_n C hk hdec hIH hd hlt hz h
  case lload _ => exact zx_lload C hk hdec hIH hd hlt hz h
  case lload_n _ => exact zx_lload_n C hk hdec hIH hd hlt hz h
  case astore _ => exact zx_astore C hk hdec hIH hd hlt hz h
  case astore_n _ => exact zx_astore_n C hk hdec hIH hd hlt hz h
  case istore _ => exact zx_istore C hk hdec hIH hd hlt hz h
  case istore_n _ => exact zx_istore_n C hk hdec hIH hd hlt hz h
  case lstore _ => exact zx_lstore C hk hdec hIH hd hlt hz h
  case lstore_n _ => exact zx_lstore_n C hk hdec hIH hd hlt hz h
  case iinc _ _ => exact zx_iinc C hk hdec hIH hd hlt hz h
  case iconst _ => exact zx_iconst C hk hdec hIH hd hlt hz h
  case bipush _ => exact zx_bipush C hk hdec hIH hd hlt hz h
  case sipush _ => exact zx_sipush C hk hdec hIH hd hlt hz h
  case lconst _ => exact zx_lconst C hk hdec hIH hd hlt hz h
  case ldc _ => exact zx_ldc C hk hdec hIH hd hlt hz h
  case ldc_w _ => exact zx_ldc_w C hk hdec hIH hd hlt hz h
  case ldc2_w _ => exact zx_ldc2_w C hk hdec hIH hd hlt hz h
  case dup  => exact zx_dup C hk hdec hIH hd hlt hz h
  case pop  => exact zx_pop C hk hdec hIH hd hlt hz h
  case dup2  => exact zx_dup2 C hk hdec hIH hd hlt hz h
  case iadd  => exact zx_iadd C hk hdec hIH hd hlt hz h
  case isub  => exact zx_isub C hk hdec hIH hd hlt hz h
  case imul  => exact zx_imul C hk hdec hIH hd hlt hz h
  case ladd  => exact zx_ladd C hk hdec hIH hd hlt hz h
  case lsub  => exact zx_lsub C hk hdec hIH hd hlt hz h
  case lmul  => exact zx_lmul C hk hdec hIH hd hlt hz h
  case iand  => exact zx_iand C hk hdec hIH hd hlt hz h
  case land  => exact zx_land C hk hdec hIH hd hlt hz h
  case lor  => exact zx_lor C hk hdec hIH hd hlt hz h
  case ishl  => exact zx_ishl C hk hdec hIH hd hlt hz h
  case ishr  => exact zx_ishr C hk hdec hIH hd hlt hz h
  case lshl  => exact zx_lshl C hk hdec hIH hd hlt hz h
  case lshr  => exact zx_lshr C hk hdec hIH hd hlt hz h
  case idiv  => exact zx_idiv C hk hdec hIH hd hlt hz h
  case irem  => exact zx_irem C hk hdec hIH hd hlt hz h
  case ldiv  => exact zx_ldiv C hk hdec hIH hd hlt hz h
  case lrem  => exact zx_lrem C hk hdec hIH hd hlt hz h
  case ineg  => exact zx_ineg C hk hdec hIH hd hlt hz h
  case lneg  => exact zx_lneg C hk hdec hIH hd hlt hz h
  case i2l  => exact zx_i2l C hk hdec hIH hd hlt hz h
  case l2i  => exact zx_l2i C hk hdec hIH hd hlt hz h
  case i2b  => exact zx_i2b C hk hdec hIH hd hlt hz h
  case lcmp  => exact zx_lcmp C hk hdec hIH hd hlt hz h
  case goto _ => exact zx_goto C hk hdec hIH hd hlt hz h
  case ifCond _ _ => exact zx_ifCond C hk hdec hIH hd hlt hz h
  case if_icmp _ _ => exact zx_if_icmp C hk hdec hIH hd hlt hz h
  case if_acmp _ _ => exact zx_if_acmp C hk hdec hIH hd hlt hz h
  case ifnull _ => exact zx_ifnull C hk hdec hIH hd hlt hz h
  case ifnonnull _ => exact zx_ifnonnull C hk hdec hIH hd hlt hz h
  case tableswitch _ _ _ _ => exact zx_tableswitch C hk hdec hIH hd hlt hz h
  case getfield _ => exact zx_getfield C hk hdec hIH hd hlt hz h
  case putfield _ => exact zx_putfield C hk hdec hIH hd hlt hz h
  case getstatic _ => exact zx_getstatic C hk hdec hIH hd hlt hz h
  case iaload  => exact zx_iaload C hk hdec hIH hd hlt hz h
  case laload  => exact zx_laload C hk hdec hIH hd hlt hz h
  case baload  => exact zx_baload C hk hdec hIH hd hlt hz h
  case aaload  => exact zx_aaload C hk hdec hIH hd hlt hz h
  case iastore  => exact zx_iastore C hk hdec hIH hd hlt hz h
  case lastore  => exact zx_lastore C hk hdec hIH hd hlt hz h
  case bastore  => exact zx_bastore C hk hdec hIH hd hlt hz h
  case aastore  => exact zx_aastore C hk hdec hIH hd hlt hz h
  case arraylength  => exact zx_arraylength C hk hdec hIH hd hlt hz h
  case newarray _ => exact zx_newarray C hk hdec hIH hd hlt hz h
  case anewarray _ => exact zx_anewarray C hk hdec hIH hd hlt hz h
  case new _ => exact zx_new C hk hdec hIH hd hlt hz h
  case ireturn  => exact zx_ireturn C hk hdec hIH hd hlt hz h
  case lreturn  => exact zx_lreturn C hk hdec hIH hd hlt hz h
  case areturn  => exact zx_areturn C hk hdec hIH hd hlt hz h
  case return_  => exact zx_return_ C hk hdec hIH hd hlt hz h
  case invokevirtual _ => exact zx_invokevirtual C hk hdec hIH hd hlt hz h
  case invokespecial _ => exact zx_invokespecial C hk hdec hIH hd hlt hz h
  case invokestatic _ => exact zx_invokestatic C hk hdec hIH hd hlt hz h
  all_goals exact h.elim
end ZSTEP
/-- what the machine in small does, the machine does -/
theorem zsound (E : zE) (l : Launch) (hdec : zDec) : ∀ n, zIH E l n := by
  intro n
  induction n with
  | zero => intro k pc ls st w t c o _ h; cases h
  | succ n ih =>
    intro k pc ls st w t c o hk h p e s m args below meth cde ra0 t0 C
    rw [zrun_succ] at h
    have key := zstep_rel (fun (a : Option (zR × zW × Nat)) (b : Prop) => a = some o → b) (fail := none) (fail' := False) (fun h => by cases h)
      (F := zrun n k) (F' := (fun pc ls st w t c => zSim E k p l e s m args below meth cde ra0 t0 o pc ls st w t c)) (fun pc ls st w t c h => ih k pc ls st w t c o hk h p e s m args below meth cde ra0 t0 C)
      (ret := fun r w t => some (r, w, t)) (ret' := (fun r w t => o = (r, w, t))) (fun r w t h => (Option.some.inj h).symm)
      (call := fun y l0 w t K => match zrun n y 0 l0 [] w t (zmc y) with | some o => K o.1 o.2.1 o.2.2 | none => none)
      (call' := zcallP n)
      (fun y l0 w t K K' hK h => by
        cases hz : zrun n y 0 l0 [] w t (zmc y) with
        | none => rw [hz] at h; cases h
        | some q =>
          rw [hz] at h
          exact ⟨q, hz, hK _ _ _ h⟩) k pc ls st w t c h
    obtain ⟨⟨ins, nx, mk⟩, hcd, h⟩ := zopt_e key
    obtain ⟨d1, d2, d3⟩ := hdec k pc ins nx mk hk hcd
    exact zSim.msk (zexec_sound ins C hk hdec ih d1 d2 d3 h)
