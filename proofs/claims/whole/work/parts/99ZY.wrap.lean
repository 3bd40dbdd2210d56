/-! ===== from the small machine to the machine (written by wip/whole/gen_c.py) ===== -/
theorem zroom_le {s : State} {pl : Platform} (h : s.hasRoom pl room_1 = true) : s.hasRoom pl (zroom 388) = true := by
  unfold State.hasRoom at h ⊢
  simp only [Bool.and_eq_true, decide_eq_true_eq] at h ⊢
  obtain ⟨⟨⟨⟨h1, h2⟩, h3⟩, h4⟩, h5⟩ := h
  refine ⟨⟨⟨⟨h1, h2⟩, ?_⟩, ?_⟩, h5⟩
  · have h3 : s.heap.size + 601024 ≤ pl.maxCells := h3
    show s.heap.size + 600000 ≤ pl.maxCells
    omega
  · have h4 : s.slotsUsed + 7293034 ≤ pl.maxSlots := h4
    show s.slotsUsed + 7200000 ≤ pl.maxSlots
    omega
theorem zfr_drop {s t : State} {o : Outcome} {L : List Loc} (h : FrameEnd s o t L 600000 7200000) (hL : ∀ q ∈ L, s.heap.size ≤ q.base) : FrameEnd s o t [] 601024 7293034 := by
  obtain ⟨h1, h2, a, b, c, d, e, f⟩ := h
  refine ⟨h1, h2, a, b, by omega, d, by omega, fun q cc hq => ?_⟩
  obtain ⟨c', x1, x2, x3, x4⟩ := f q cc hq
  refine ⟨c', x1, x2, x3, fun i _ => x4 i fun hm => ?_⟩
  have y1 := hL _ hm
  have y2 := (Array.getElem?_eq_some_iff.mp hq).1
  have y1 : s.heap.size ≤ q := y1
  omega
def zra0 (E : zE) (q : Nat) : Nat := if 1000 ≤ q ∧ q < 1015 then zEa E (q - 1000) else if q = 2000 then zEa E 100 else if q = 2001 then zEa E 101 else zEb E
theorem zra0_ok (E : zE) : zra E (zra0 E) := by
  refine ⟨fun i hi => ?_, rfl, rfl, rfl⟩
  unfold zra0
  rw [if_pos (by omega), show 1000 + i - 1000 = i by omega]
def zw00 (E : zE) : zW := fun p j => if p = 2002 then (zEx E j).toInt else if p = 2003 then (zEL E : Int) else 0
/-- the law's body ends with 1 -/
theorem zrunLaw (hdec : zDec) {E : zE} {p : Program} {e : Env} {s : State} {m : MethodId} {below : List Frame} {meth : Method} {c : Code} {l : Launch} (hC : zCx E 388 p l s m #[Value.ref (zEb E)] meth c) (hL : zEL E ≤ 3072) (h0 : zE0 E = s.heap.size) :
    ∀ T : State, T.heap = s.heap → Stand p l e room_1 s m #[Value.ref (zEb E)] below meth c T [] 0 0 → ∃ t, Steps p.tables e below (T.setTop (entryFrame m ([Value.ref (zEb E)] : List Value).toArray 8)) t ∧ ∃ o, t.status = .running ∧ Ended t below o ∧ o = .returned (some (.int 1)) ∧ FrameEnd s o t [] 601024 7293034 := by
  have hz : zwp 388 0 [(2, 2002), (9, 0), (9, 0), (9, 0), (9, 0), (9, 0), (9, 0), (9, 0)] [] (zw00 E) 0 600000 (fun r _ t => r = (0, some (0, 1)) ∧ t = 238) := by
    refine zlaw (fun v => ⟨rfl, rfl⟩) ?_ (fun j => ?_)
    · show 0 ≤ (zEL E : Int) ∧ (zEL E : Int) ≤ 3072
      omega
    · show zr32 (zEx E j).toInt
      exact ⟨Int32.le_toInt _, Int32.toInt_lt _⟩
  obtain ⟨n, r, v, t1, hr, e1, e2⟩ := hz
  subst e1
  subst e2
  have sim := zsound E l hdec n 388 0 _ _ _ _ _ _ (by decide) hr p e s m #[Value.ref (zEb E)] below meth c (zra0 E) 0 hC
  have P : zPc E (zra0 E) 0 (zw00 E) [(2, 2002)] #[Value.ref (zEb E)] s := by
    refine ⟨rfl, ⟨fun k q hq => ?_, ⟨fun i j a b hi hj => ?_, fun k q hq => ?_⟩, fun q hq => ?_, rfl, fun j hj => rfl⟩, hC.2.2.2.2.2.2.2.2.2.1⟩
    · cases hq
    · cases hi
    · cases hq
    · exact absurd (show q < 0 from hq) (Nat.not_lt_zero _)
  have hA : ∀ v ∈ ([(2, 2002)] : List zV), zvok 0 v := fun v hv => by
    rcases List.mem_cons.mp hv with h | h
    · rw [h]
      exact zok2 ⟨by decide, Or.inr (Or.inr (Or.inr (Or.inr rfl)))⟩
    · cases h
  have k := zbody (y := 388) P (zra0_ok E) hA (by decide) sim
  intro T hT X
  obtain ⟨t, st, o, x1, x2, x3⟩ := k T hT { X with room := zroom_le X.room }
  refine ⟨t, st, o, x1, x2, ?_⟩
  rcases x3 with ⟨⟨-, ra, -, -, -, q, -⟩, L, fe, hl⟩ | ⟨q, -, E', ce, L, ⟨e', ra', h1, -⟩, -⟩
  · exact ⟨q.trans rfl, zfr_drop fe fun q hq => by rw [← h0]; exact hl q hq⟩
  · cases h1
