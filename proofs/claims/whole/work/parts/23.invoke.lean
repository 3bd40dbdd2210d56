/-! ===== calls (written by wip/whole/gen23.py) ===== -/
def zIH (E : zE) (l : Launch) (n : Nat) : Prop := ∀ (k pc : Nat) (ls st : List zV) (w : zW) (t c : Nat) (o : zR × zW × Nat), k < 389 → zrun n k pc ls st w t c = some o → ∀ (p : Program) (e : Env) (s : State) (m : MethodId) (args : Array Value) (below : List Frame) (meth : Method) (cde : Code) (ra0 : Nat → Nat) (t0 : Nat), zCx E k p l s m args meth cde → zSim E k p l e s m args below meth cde ra0 t0 o pc ls st w t c
def zDec : Prop := ∀ (k pc : Nat) (ins : ClassFile.Instr) (nx : Nat) (mk : List Bool), k < 389 → zcode k pc = some (ins, nx, mk) → decode (zby k) pc = .ok (ins, nx - pc) ∧ pc < nx ∧ zil ins pc (nx - pc) = true
theorem zthn_e {kd e : Nat} {a : Prop} (h : zthn False kd e a) : a ∧ ((Nat.ble 10 kd || Nat.beq kd 2) = true → e = 0) := by
  unfold zthn at h
  cases hb : (Nat.ble 10 kd || Nat.beq kd 2) with
  | false => rw [hb] at h; exact ⟨h, fun q => by cases q⟩
  | true =>
    rw [hb] at h
    obtain ⟨h1, h2⟩ := zc_e h
    exact ⟨h2, fun _ => Nat.eq_of_beq_eq_true h1⟩
theorem zprivs_nest : ((k2_sels lw_privs).all fun w => match w with | .methodLinkNest .. => false | _ => true) = true := by decide +kernel
theorem znest_in {o i : Nat} {y : MethodName} {h : String} (hm : Cond.methodLinkNest (zcn o) i y h ∈ lw_tbl) : Cond.methodLinkNest (zcn o) i y h ∈ znestW := by
  refine List.mem_filter.mpr ⟨?_, rfl⟩
  rcases List.mem_append.mp hm with q | q
  · have := List.all_eq_true.mp zprivs_nest _ q
    cases this
  · exact q
theorem zcix_lt (o : Nat) (ho : o < 17) {c : Nat} (h : zcix o = some c) : c < 12 := by
  have hh : ∀ o, o < 17 → zcase (zcix o) (fun c => Nat.blt c 12) true = true := by decide +kernel
  have := hh o ho
  rw [h] at this
  exact Nat.blt_eq.mp this
/-- calls of a constant's own methods -/
def zrc5 (o i : Nat) : Bool := match zmth o i with
  | none => true
  | some e => cond (Nat.beq e.2 5) (Nat.beq (zown e.1) 10) true
theorem zrc5_all : ∀ o, o < 17 → ∀ i, i < 600 → zrc5 o i = true := by decide +kernel
theorem zrc5_ok {o i : Nat} {e : Nat × Nat} (ho : o < 17) (h : zmth o i = some e) (h5 : e.2 = 5) : zown e.1 = 10 := by
  have hc := zrc5_all o ho i (zmth_lt h)
  unfold zrc5 at hc
  rw [h] at hc
  simp only [h5] at hc
  exact Nat.eq_of_beq_eq_true hc
theorem zret_ini0 : ∀ k, k < 388 → (!decide ((zyn k).name = "<init>") || decide (zret k = none)) = true := by decide +kernel
theorem zret_ini (k : Nat) (hk : k < 388) (h : (zyn k).name = "<init>") : zret k = none := by
  have := zret_ini0 k hk
  rw [decide_eq_true h] at this
  exact of_decide_eq_true this
section ZINV
variable {E : zE} {k : Nat} {p : Program} {l : Launch} {e : Env} {s : State} {m : MethodId} {args : Array Value} {below : List Frame} {meth : Method} {cde : Code} {ra0 : Nat → Nat} {t0 : Nat} {o : zR × zW × Nat} {pc : Nat} {ls st : List zV} {w : zW} {t c : Nat}
theorem zpreS {lsA : Array Slot} {H : Heap} {locs : List Loc} {cells slots : Nat} {ra : Nat → Nat} {As : List zV} (C : zCx E k p l s m args meth cde) (hR : zRel E k s ra0 t0 ra ls st w t c lsA H locs cells slots) : PreS s H (zPc E ra t w As) (As.map (zv ra)) :=
  ⟨zPc_blind E ra t w As, fun U hU hW => ⟨rfl, by rw [hU]; exact hR.2.2.2.1, zAmb.go hW (by rw [hU]; exact hR.2.2.2.2.1.1) (fun a ha hn => by rw [hU]; exact hR.2.2.2.2.1.2.1 a ha hn) C.amb⟩⟩
theorem zcallee {n y : Nat} {ra : Nat → Nat} {As : List zV} {o' : zR × zW × Nat} (hIH : zIH E l n) (hy : y < 388) (h14 : zown y ≠ 14) (hl : l.stackTraces = false) (hra : zra E ra) (hA : ∀ v ∈ As, zvok t v) (hlen : zcats As ≤ zmL y) (hrun : zrun n y 0 (zloc As (zmL y)) [] w t (zmc y) = some o') :
    vx_Met l (zyn y) (zcodeW y :: zW0) (zroom y) (zPc E ra t w As) (zQc E ra t o') (zXC E ra t o') (zmc y) (12 * zmc y) (zAf E) :=
  zMet_of hy h14 hl hra hA hlen fun p e s m args below meth cde Cy => hIH y 0 _ [] w t _ o' (by omega) hrun p e s m args below meth cde ra t Cy
theorem zcodeW_0 {y : Nat} (h : zex y = []) : zcodeW y :: zW0 = Cond.code (zyn y) (zby y) (zmL y) (zret y) :: zW0 := by unfold zcodeW; rw [h]; rfl
theorem zcodeW_1 {y : Nat} (h : List.isEmpty (zex y) = false) : zcodeW y :: zW0 = Cond.codeWith (zyn y) (zby y) (zmL y) (zret y) (zexT y) :: zW0 := by unfold zcodeW; rw [h]; rfl
theorem zmem4 {a b c d : Cond} {ws : List Cond} (ha : a ∈ zW0) (hb : b ∈ zW0) (hc : c ∈ zW0) (hd : d ∈ zW0) (h : ∀ w ∈ ws, w ∈ zW0) : ∀ w ∈ ([a, b, c, d] : List Cond) ++ ws, w ∈ zW0 := by
  intro w hw
  rcases List.mem_append.mp hw with q | q
  · simp only [List.mem_cons, List.not_mem_nil, or_false] at q
    rcases q with q | q | q | q <;> rw [q] <;> assumption
  · exact h w q
theorem zmem3 {a b c : Cond} {ws : List Cond} (ha : a ∈ zW0) (hb : b ∈ zW0) (hc : c ∈ zW0) (h : ∀ w ∈ ws, w ∈ zW0) : ∀ w ∈ ([a, b, c] : List Cond) ++ ws, w ∈ zW0 := by
  intro w hw
  rcases List.mem_append.mp hw with q | q
  · simp only [List.mem_cons, List.not_mem_nil, or_false] at q
    rcases q with q | q | q <;> rw [q] <;> assumption
  · exact h w q
theorem zcW_all {y : Nat} (h : zcodeW y ∈ zW0) : ∀ w ∈ zcodeW y :: zW0, w ∈ zW0 := fun w hw => (List.mem_cons.mp hw).elim (fun q => q ▸ h) id
theorem znbq {a b : Nat} (h : Nat.beq a b = false) : a ≠ b := fun q => by rw [q, Nat.beq_refl] at h; cases h
theorem zs_invS {n i : Nat} {a : Nat × Nat} {o' : zR × zW × Nat} (C : zCx E k p l s m args meth cde) (hk : k < 389) (hdec : zDec) (hIH : zIH E l n) (hd : decode (zby k) pc = .ok (.invokestatic i, 3)) (hm : zmth (zown k) i = some a) (h6 : Nat.beq a.2 6 = false) (h7 : Nat.beq a.2 7 = false) (h20 : Nat.blt 19 a.2 = false) (h8 : Nat.beq a.2 8 = false)
    (h51 : Nat.beq (a.2 % 5) 1 = true) (hht : zht a.1 + 1 ≤ zht k) (hlo : 8 + (zmL a.1 + 11) + zlo a.1 ≤ zlo k) (hmc : zmc a.1 ≤ c) (hca : zcats (st.drop (znp a.1)) ≤ 8) (hnp : znp a.1 ≤ st.length) (hlen : zcats (st.take (znp a.1)) ≤ zmL a.1)
    (hrun : zrun n a.1 0 (zloc (st.take (znp a.1)).reverse (zmL a.1)) [] w t (zmc a.1) = some o') (hth : zthn False a.2 o'.1.1 (zback False (fun pc ls st w t c => zSim E k p l e s m args below meth cde ra0 t0 o pc ls st w t c) k pc (pc + 3) ls (st.drop (znp a.1)) o'.2.1 o'.2.2 (c - zmc a.1) o'.1 (fun r w t => o = (r, w, t)))) : zSim E k p l e s m args below meth cde ra0 t0 o pc ls st w t c := by
  intro ra lsA H locs cells slots hR
  obtain ⟨q1, q2, q3, q4, q5⟩ := zmth_ok (zown_lt k hk) hm (znbq h6) (znbq h7) (znbq h8) h20
  obtain ⟨f1, f2, f3, f4, f5, f6, f7⟩ := zMF_all a.1 q1
  obtain ⟨m1, m2, m3⟩ := zMK_all a.1 q1
  obtain ⟨hback, hnt⟩ := zthn_e hth
  have kd1 : zkd a.1 = 1 := q3.trans (Nat.eq_of_beq_eq_true h51)
  have hst := m2 kd1
  have hcs := hR.2.2.2.2.2.2.2.2
  have hA : ∀ v ∈ (st.take (znp a.1)).reverse, zvok t v := fun v hv => hR.2.2.1 v (List.mem_of_mem_take (List.mem_reverse.mp hv))
  have hrest : ∀ v ∈ st.drop (znp a.1), zvok t v := fun v hv => hR.2.2.1 v (List.mem_of_mem_drop hv)
  have hM := zcallee hIH q1 q5 C.2.2.2.2.2.2.2.2.2.2 hR.2.2.2.2.2.1 hA (by rw [zcats_rev]; exact hlen) hrun
  have hstk : st.map (zv ra) = (((st.take (znp a.1)).reverse.map (zv ra)).reverse ++ (st.drop (znp a.1)).map (zv ra)) := by rw [← List.map_reverse, List.reverse_reverse, ← List.map_append, List.take_append_drop]
  have hnl : ((st.take (znp a.1)).reverse.map (zv ra)).length = znp a.1 := by rw [List.length_map, List.length_reverse, List.length_take]; omega
  have hW : 2 * (F0 m pc lsA (st.map (zv ra))).monitorRoom + (((st.drop (znp a.1)).map (zv ra)).map fun v => v.category).sum ≤ 8 := by rw [zcats_sum]; show 2 * 0 + _ ≤ 8; omega
  have hf : cells + zmc a.1 ≤ (zroom k).cells ∧ slots + 12 * zmc a.1 ≤ (zroom k).slots := ⟨by show _ ≤ zmc k; omega, by show _ ≤ 12 * zmc k; omega⟩
  have hS : CallFix p m cde (zby k) (zmL k) s args zW0 (zcn (zown k)) := ⟨C.1, C.2.1, C.2.2.1, C.own, C.wd⟩
  have hRm : (zroom a.1).frames + 1 ≤ (zroom k).frames ∧ 8 + (zmL a.1 + 11) + (zroom a.1).locals ≤ (zroom k).locals := ⟨hht, hlo⟩
  refine zW_call C hk (fun pc ins nx mk h => hdec k pc ins nx mk hk h) hR hrest hmc (?_ : vx_Run p l e (zroom k) s m args below meth cde H locs cells slots (zmc a.1) (12 * zmc a.1) (F0 m pc lsA (st.map (zv ra))) ((st.drop (znp a.1)).map (zv ra)) (zQc E ra t o' ((st.take (znp a.1)).reverse.map (zv ra)).toArray) (zXC E ra t o') (zAf E)) hback
  rcases q4 with q | q | q | q | q | q
  · rw [q] at h51; cases h51
  · rw [q] at q2
    have hlk : Cond.methodLink (zcn (zown k)) i (zyn a.1) ∈ zW0 := zgood0 q2 rfl
    cases hx : List.isEmpty (zex a.1) with
    | true =>
      exact vx_runS hS hM (va_cwS (znp a.1) C.wd (zgoodIn (zmem3 hlk hst f2 (zcW_all f1))) (zcodeW_0 (List.isEmpty_iff.mp hx)) rfl rfl ⟨f7.1, f7.2, f5⟩ hRm) (zpreS C hR) rfl hnl hR.1.2.1 hstk hW hd hf
    | false =>
      exact vx_runSX hS hM (vx_cwSW (znp a.1) C.wd (zgoodIn (zmem3 hlk hst f2 (zcW_all f1))) (zcodeW_1 hx) rfl rfl ⟨f7.1, f7.2, f5⟩ hRm) (zpreS C hR) rfl hnl hR.1.2.1 hstk hW hd hf
  · rw [q] at h51; cases h51
  · rw [q] at h51; cases h51
  · have hx := znx_ok hm (zown_lt k hk) (by rw [q]; rfl)
    rw [q] at q2
    exact zrun_up (va_runSN hS (zMet_ret hM (hnt (by rw [q]; rfl))) ⟨va_cnB (znp a.1) C.wd (zgoodIn (zcW_all f1)) (zcodeW_0 hx) rfl rfl (C.amb.2.2.2.2.2.2.2.1 _ (znest_in q2)) (C.wd _ f2) ⟨f7.1, f7.2, f5⟩ hRm, C.wd _ hst, trivial⟩ (zpreS C hR) rfl hnl hR.1.2.1 hstk hW hd hf)
  · rw [q] at h51; cases h51
/-- a receiver's cell -/
theorem zrecv {lsA : Array Slot} {H : Heap} {locs : List Loc} {cells slots kd y : Nat} {x : Int} {ra : Nat → Nat} {a : Prop} (C : zCx E k p l s m args meth cde) (hR : zRel E k s ra0 t0 ra ls st w t c lsA H locs cells slots) (h5 : kd = 5 → zown y = 10) (hy : zown y < 17) (h : zrcv False kd (zown y) x t a) :
    a ∧ ∃ cellB : Cell, H[ra x.toNat]? = some cellB ∧ cellB.vm.isStatics = false ∧ s.vm.findClass (zcn (zown y)) = some cellB.cls := by
  unfold zrcv at h
  cases hb : Nat.beq kd 5 with
  | true =>
    rw [hb] at h
    obtain ⟨hx, h⟩ := zif_e h
    refine ⟨h, ?_⟩
    have hra : ra x.toNat = zEa E (x - 1000).toNat := by
      have := hR.2.2.2.2.2.1.1 (x - 1000).toNat (by omega)
      rw [show 1000 + (x - 1000).toNat = x.toNat by omega] at this
      exact this
    obtain ⟨cell, c1, c2, c3, c4⟩ := (C.amb.2.2.1.1 (x - 1000).toNat (by omega)).2.kept hR.2.2.2.2.1.2.1
    rw [h5 (Nat.eq_of_beq_eq_true hb)]
    exact ⟨cell, by rw [hra]; exact c1, c2, c3⟩
  | false =>
    rw [hb] at h
    obtain ⟨ci, hci, h⟩ := zopt_e h
    obtain ⟨ho, h⟩ := zc_e h
    refine ⟨h, ?_⟩
    obtain ⟨hl, hn⟩ := zobj_e ho
    have hw := zws_at (E := E) (ra := ra) (w := w) hn
    rw [zcel_obj hl] at hw
    have hlt := zcix_lt _ hy hci
    have := va_recv C.amb.1 hR.2.2.2.1.1 (zcl_ok ci hlt) hw
    rw [zcix_ok _ hy _ hci] at this
    exact this
theorem zs_invV {n i : Nat} {a : Nat × Nat} {x : zV} (C : zCx E k p l s m args meth cde) (hk : k < 389) (hdec : zDec) (hIH : zIH E l n) (hm : zmth (zown k) i = some a) (h6 : Nat.beq a.2 6 = false) (h7 : Nat.beq a.2 7 = false) (h20 : Nat.blt 19 a.2 = false) (h8 : Nat.beq a.2 8 = false)
    (hht : zht a.1 + 1 ≤ zht k) (hlo : 8 + (zmL a.1 + 11) + zlo a.1 ≤ zlo k) (hmc : zmc a.1 ≤ c) (hhd : (st.drop (znp a.1)).head? = some x) (hx2 : x.1 = 2) (hca : zcats (st.drop (znp a.1 + 1)) ≤ 8) (hnp : znp a.1 + 1 ≤ st.length) (hlen : 1 + zcats (st.take (znp a.1)) ≤ zmL a.1) (hd : decode (zby k) pc = .ok (.invokevirtual i, 3)) (h50 : Nat.beq (a.2 % 5) 2 = false) (h51 : Nat.beq (a.2 % 5) 1 = false)
    (h : zrcv False a.2 (zown a.1) x.2 t (∃ o', zrun n a.1 0 (zloc (x :: (st.take (znp a.1)).reverse) (zmL a.1)) [] w t (zmc a.1) = some o' ∧ zthn False a.2 o'.1.1 (zback False (fun pc ls st w t c => zSim E k p l e s m args below meth cde ra0 t0 o pc ls st w t c) k pc (pc + 3) ls (st.drop (znp a.1 + 1)) o'.2.1 o'.2.2 (c - zmc a.1) o'.1 (fun r w t => o = (r, w, t))))) : zSim E k p l e s m args below meth cde ra0 t0 o pc ls st w t c := by
  intro ra lsA H locs cells slots hR
  obtain ⟨q1, q2, q3, q4, q5⟩ := zmth_ok (zown_lt k hk) hm (znbq h6) (znbq h7) (znbq h8) h20
  obtain ⟨f1, f2, f3, f4, f5, f6, f7⟩ := zMF_all a.1 q1
  obtain ⟨m1, m2, m3⟩ := zMK_all a.1 q1
  obtain ⟨⟨o', hrun, hth⟩, hcell⟩ := zrecv C hR (zrc5_ok (zown_lt k hk) hm) (zown_lt a.1 (by omega)) h
  obtain ⟨hback, hnt⟩ := zthn_e hth
  have hcs := hR.2.2.2.2.2.2.2.2
  have hmx : x ∈ st.drop (znp a.1) := List.mem_of_head? hhd
  have hokx : zvok t x := hR.2.2.1 x (List.mem_of_mem_drop hmx)
  have hsp : st.drop (znp a.1) = x :: st.drop (znp a.1 + 1) := by
    cases hz : st.drop (znp a.1) with
    | nil => rw [hz] at hhd; cases hhd
    | cons u us =>
      rw [hz] at hhd
      cases hhd
      rw [← List.drop_drop, hz]; rfl
  obtain ⟨g, y⟩ := x
  cases hx2
  have hA : ∀ v ∈ (2, y) :: (st.take (znp a.1)).reverse, zvok t v := fun v hv => (List.mem_cons.mp hv).elim (fun q => q ▸ hokx) fun hv => hR.2.2.1 v (List.mem_of_mem_take (List.mem_reverse.mp hv))
  have hrest : ∀ v ∈ st.drop (znp a.1 + 1), zvok t v := fun v hv => hR.2.2.1 v (List.mem_of_mem_drop hv)
  have hM := zcallee hIH q1 q5 C.2.2.2.2.2.2.2.2.2.2 hR.2.2.2.2.2.1 hA (by show cond (Nat.beq 2 1) 2 1 + zcats (st.take (znp a.1)).reverse ≤ zmL a.1; rw [zcats_rev]; exact hlen) hrun
  have hstk : st.map (zv ra) = (((st.take (znp a.1)).reverse.map (zv ra)).reverse ++ Value.ref (ra y.toNat) :: (st.drop (znp a.1 + 1)).map (zv ra)) := by
    rw [← List.map_reverse, List.reverse_reverse, show Value.ref (ra y.toNat) :: (st.drop (znp a.1 + 1)).map (zv ra) = ((2, y) :: st.drop (znp a.1 + 1)).map (zv ra) from rfl, ← hsp, ← List.map_append, List.take_append_drop]
  have hnl : ((st.take (znp a.1)).reverse.map (zv ra)).length = znp a.1 := by rw [List.length_map, List.length_reverse, List.length_take]; omega
  have hW : 2 * (F0 m pc lsA (st.map (zv ra))).monitorRoom + (((st.drop (znp a.1 + 1)).map (zv ra)).map fun v => v.category).sum ≤ 8 := by rw [zcats_sum]; show 2 * 0 + _ ≤ 8; omega
  have hf : cells + zmc a.1 ≤ (zroom k).cells ∧ slots + 12 * zmc a.1 ≤ (zroom k).slots := ⟨by show _ ≤ zmc k; omega, by show _ ≤ 12 * zmc k; omega⟩
  have hS : CallFix p m cde (zby k) (zmL k) s args zW0 (zcn (zown k)) := ⟨C.1, C.2.1, C.2.2.1, C.own, C.wd⟩
  have hRm : (zroom a.1).frames + 1 ≤ (zroom k).frames ∧ 8 + (zmL a.1 + 11) + (zroom a.1).locals ≤ (zroom k).locals := ⟨hht, hlo⟩
  have hpS := zpreS (As := (2, y) :: (st.take (znp a.1)).reverse) C hR
  refine zW_call C hk (fun pc ins nx mk h => hdec k pc ins nx mk hk h) hR hrest hmc (?_ : vx_Run p l e (zroom k) s m args below meth cde H locs cells slots (zmc a.1) (12 * zmc a.1) (F0 m pc lsA (st.map (zv ra))) ((st.drop (znp a.1 + 1)).map (zv ra)) (zQc E ra t o' (Value.ref (ra y.toNat) :: (st.take (znp a.1)).reverse.map (zv ra)).toArray) (zXC E ra t o') (zAf E)) hback
  have kd0 : zkd a.1 = 0 ∧ Nat.blt a.2 9 = true := by
    rcases q4 with q | q | q | q | q | q <;> rw [q] at h50 h51 <;> first | cases h50; done | cases h51; done | exact ⟨q3.trans (by rw [q]), by rw [q]; rfl⟩
  have hin := m1 kd0.1
  have hlk : Cond.methodLink (zcn (zown k)) i (zyn a.1) ∈ zW0 := by
    unfold zmlw at q2
    rw [kd0.2] at q2
    exact zgood0 q2 rfl
  rw [← f3] at hcell
  have hpV : PreV s H (zyn a.1).cls (ra y.toNat) (zPc E ra t w ((2, y) :: (st.take (znp a.1)).reverse)) ((st.take (znp a.1)).reverse.map (zv ra)) := ⟨hpS.1, hcell, hpS.2⟩
  cases hx : List.isEmpty (zex a.1) with
  | true =>
    exact vx_runV hS hM (cwV (znp a.1) C.wd (zgoodIn (zmem4 hlk hin.1 hin.2 f2 (zcW_all f1))) (zcodeW_0 (List.isEmpty_iff.mp hx)) rfl rfl ⟨rfl, f7.1, f7.2, f5⟩ hRm) hpV rfl hnl hR.1.2.1 hstk hW hd hf
  | false =>
    exact vx_runVX hS hM (vx_cwVW (znp a.1) C.wd (zgoodIn (zmem4 hlk hin.1 hin.2 f2 (zcW_all f1))) (zcodeW_1 hx) rfl rfl ⟨rfl, f7.1, f7.2, f5⟩ hRm) hpV rfl hnl hR.1.2.1 hstk hW hd hf
theorem zs_invI {n i : Nat} {a : Nat × Nat} {x : zV} (C : zCx E k p l s m args meth cde) (hk : k < 389) (hdec : zDec) (hIH : zIH E l n) (hm : zmth (zown k) i = some a) (h6 : Nat.beq a.2 6 = false) (h7 : Nat.beq a.2 7 = false) (h20 : Nat.blt 19 a.2 = false) (h8 : Nat.beq a.2 8 = false)
    (hht : zht a.1 + 1 ≤ zht k) (hlo : 8 + (zmL a.1 + 11) + zlo a.1 ≤ zlo k) (hmc : zmc a.1 ≤ c) (hhd : (st.drop (znp a.1)).head? = some x) (hx2 : x.1 = 2) (hca : zcats (st.drop (znp a.1 + 1)) ≤ 8) (hnp : znp a.1 + 1 ≤ st.length) (hlen : 1 + zcats (st.take (znp a.1)) ≤ zmL a.1) (hd : decode (zby k) pc = .ok (.invokespecial i, 3)) (h52 : Nat.beq (a.2 % 5) 2 = true)
    (h : zrcv False a.2 (zown a.1) x.2 t (∃ o', zrun n a.1 0 (zloc (x :: (st.take (znp a.1)).reverse) (zmL a.1)) [] w t (zmc a.1) = some o' ∧ zthn False a.2 o'.1.1 (zback False (fun pc ls st w t c => zSim E k p l e s m args below meth cde ra0 t0 o pc ls st w t c) k pc (pc + 3) ls (st.drop (znp a.1 + 1)) o'.2.1 o'.2.2 (c - zmc a.1) o'.1 (fun r w t => o = (r, w, t))))) : zSim E k p l e s m args below meth cde ra0 t0 o pc ls st w t c := by
  intro ra lsA H locs cells slots hR
  obtain ⟨q1, q2, q3, q4, q5⟩ := zmth_ok (zown_lt k hk) hm (znbq h6) (znbq h7) (znbq h8) h20
  obtain ⟨f1, f2, f3, f4, f5, f6, f7⟩ := zMF_all a.1 q1
  obtain ⟨m1, m2, m3⟩ := zMK_all a.1 q1
  obtain ⟨⟨o', hrun, hth⟩, hcell⟩ := zrecv C hR (zrc5_ok (zown_lt k hk) hm) (zown_lt a.1 (by omega)) h
  obtain ⟨hback, hnt⟩ := zthn_e hth
  have hcs := hR.2.2.2.2.2.2.2.2
  have hmx : x ∈ st.drop (znp a.1) := List.mem_of_head? hhd
  have hokx : zvok t x := hR.2.2.1 x (List.mem_of_mem_drop hmx)
  have hsp : st.drop (znp a.1) = x :: st.drop (znp a.1 + 1) := by
    cases hz : st.drop (znp a.1) with
    | nil => rw [hz] at hhd; cases hhd
    | cons u us =>
      rw [hz] at hhd
      cases hhd
      rw [← List.drop_drop, hz]; rfl
  obtain ⟨g, y⟩ := x
  cases hx2
  have hA : ∀ v ∈ (2, y) :: (st.take (znp a.1)).reverse, zvok t v := fun v hv => (List.mem_cons.mp hv).elim (fun q => q ▸ hokx) fun hv => hR.2.2.1 v (List.mem_of_mem_take (List.mem_reverse.mp hv))
  have hrest : ∀ v ∈ st.drop (znp a.1 + 1), zvok t v := fun v hv => hR.2.2.1 v (List.mem_of_mem_drop hv)
  have hM := zcallee hIH q1 q5 C.2.2.2.2.2.2.2.2.2.2 hR.2.2.2.2.2.1 hA (by show cond (Nat.beq 2 1) 2 1 + zcats (st.take (znp a.1)).reverse ≤ zmL a.1; rw [zcats_rev]; exact hlen) hrun
  have hstk : st.map (zv ra) = (((st.take (znp a.1)).reverse.map (zv ra)).reverse ++ Value.ref (ra y.toNat) :: (st.drop (znp a.1 + 1)).map (zv ra)) := by
    rw [← List.map_reverse, List.reverse_reverse, show Value.ref (ra y.toNat) :: (st.drop (znp a.1 + 1)).map (zv ra) = ((2, y) :: st.drop (znp a.1 + 1)).map (zv ra) from rfl, ← hsp, ← List.map_append, List.take_append_drop]
  have hnl : ((st.take (znp a.1)).reverse.map (zv ra)).length = znp a.1 := by rw [List.length_map, List.length_reverse, List.length_take]; omega
  have hW : 2 * (F0 m pc lsA (st.map (zv ra))).monitorRoom + (((st.drop (znp a.1 + 1)).map (zv ra)).map fun v => v.category).sum ≤ 8 := by rw [zcats_sum]; show 2 * 0 + _ ≤ 8; omega
  have hf : cells + zmc a.1 ≤ (zroom k).cells ∧ slots + 12 * zmc a.1 ≤ (zroom k).slots := ⟨by show _ ≤ zmc k; omega, by show _ ≤ 12 * zmc k; omega⟩
  have hS : CallFix p m cde (zby k) (zmL k) s args zW0 (zcn (zown k)) := ⟨C.1, C.2.1, C.2.2.1, C.own, C.wd⟩
  have hRm : (zroom a.1).frames + 1 ≤ (zroom k).frames ∧ 8 + (zmL a.1 + 11) + (zroom a.1).locals ≤ (zroom k).locals := ⟨hht, hlo⟩
  have hpS := zpreS (As := (2, y) :: (st.take (znp a.1)).reverse) C hR
  refine zW_call C hk (fun pc ins nx mk h => hdec k pc ins nx mk hk h) hR hrest hmc (?_ : vx_Run p l e (zroom k) s m args below meth cde H locs cells slots (zmc a.1) (12 * zmc a.1) (F0 m pc lsA (st.map (zv ra))) ((st.drop (znp a.1 + 1)).map (zv ra)) (zQc E ra t o' (Value.ref (ra y.toNat) :: (st.take (znp a.1)).reverse.map (zv ra)).toArray) (zXC E ra t o') (zAf E)) hback
  have kd2 : zkd a.1 = 2 := q3.trans (Nat.eq_of_beq_eq_true h52)
  have hin := m3 kd2
  have hret : zret a.1 = none := zret_ini _ q1 hin.2
  rcases q4 with q | q | q | q | q | q
  · rw [q] at h52; cases h52
  · rw [q] at h52; cases h52
  · have hx := znx_ok hm (zown_lt k hk) (by rw [q]; rfl)
    rw [q] at q2
    have hlk : Cond.methodLink (zcn (zown k)) i (zyn a.1) ∈ zW0 := zgood0 q2 rfl
    have hcw := zcodeW_0 hx
    rw [hret] at hcw
    exact zrun_up (va_runI hS (zMet_ret hM (hnt (by rw [q]; rfl))) (cwI (znp a.1) C.wd (zgoodIn (zcW_all f1)) hcw rfl rfl (C.wd _ f2) (C.wd _ hlk) (C.wd _ hin.1) hin.2 ⟨f7.1, f7.2, f5⟩ hRm) hpS rfl hnl hR.1.2.1 hstk hW hd hf)
  · rw [q] at h52; cases h52
  · rw [q] at h52; cases h52
  · have hx := znx_ok hm (zown_lt k hk) (by rw [q]; rfl)
    rw [q] at q2
    have hcw := zcodeW_0 hx
    rw [hret] at hcw
    exact zrun_up (va_runIN hS (zMet_ret hM (hnt (by rw [q]; rfl))) ⟨va_cnB (znp a.1) C.wd (zgoodIn (zcW_all f1)) hcw rfl rfl (C.amb.2.2.2.2.2.2.2.1 _ (znest_in q2)) (C.wd _ f2) ⟨f7.1, f7.2, f5⟩ hRm, hin.2, C.wd _ hin.1⟩ hpS rfl hnl hR.1.2.1 hstk hW hd hf)
end ZINV
