/-! ===== what a call's end means for the caller ===== -/
theorem zv_xt {E : zE} {ra ra' : Nat → Nat} {t : Nat} {v : zV} (h : zxt ra ra' t) (h1 : zra E ra) (h2 : zra E ra') (hv : zvok t v) : zv ra' v = zv ra v := by
  unfold zv
  congr 1
  congr 1
  cases hb : Nat.beq v.1 2 with
  | false => rfl
  | true =>
    have hp := hv.2.2 (Nat.eq_of_beq_eq_true hb)
    show Value.ref (ra' v.2.toNat) = Value.ref (ra v.2.toNat)
    obtain ⟨h0, hp⟩ := hp
    rcases hp with z | ⟨z1, z2⟩ | z | z | z
    · rw [h _ z]
    · have e1 := h1.1 (v.2.toNat - 1000) (by omega)
      have e2 := h2.1 (v.2.toNat - 1000) (by omega)
      rw [show 1000 + (v.2.toNat - 1000) = v.2.toNat by omega] at e1 e2
      rw [e1, e2]
    · rw [z]; show Value.ref (ra' 2000) = Value.ref (ra 2000); rw [h1.2.1, h2.2.1]
    · rw [z]; show Value.ref (ra' 2001) = Value.ref (ra 2001); rw [h1.2.2.1, h2.2.2.1]
    · rw [z]; show Value.ref (ra' 2002) = Value.ref (ra 2002); rw [h1.2.2.2, h2.2.2.2]
theorem zlv_go {ra ra' : Nat → Nat} {ls : List zV} (h : ∀ (i : Nat) (v : zV), ls[i]? = some v → zv ra' v = zv ra v) : zlv ra' ls = zlv ra ls := by
  unfold zlv
  congr 1
  funext i
  cases hv : ls[i]? with
  | none => rfl
  | some v =>
    show cond (Nat.blt v.1 4) (some (i, zv ra' v)) none = cond (Nat.blt v.1 4) (some (i, zv ra v)) none
    rw [h i v hv]
theorem zRel.back {E : zE} {k : Nat} {s : State} {ra0 : Nat → Nat} {t0 : Nat} {ra ra' : Nat → Nat} {ls st rest vs : List zV} {w w' : zW} {t t' c mc : Nat} {lsA : Array Slot} {H H1 : Heap} {locs L : List Loc} {cells slots : Nat}
    (h : zRel E k s ra0 t0 ra ls st w t c lsA H locs cells slots) (hr : ∀ v ∈ rest, zvok t v) (h1 : zxt ra ra' t) (h2 : znx t ≤ znx t') (h3 : zra E ra') (h5 : zSt E ra' t' w' H1) (h6 : va_S (zAf E) s.heap H1 (locs ++ L)) (hv : ∀ v ∈ vs, zvok t' v) (hc : mc ≤ c) :
    zRel E k s ra0 t0 ra' ls (vs ++ rest) w' t' (c - mc) lsA H1 (locs ++ L) (cells + mc) (slots + 12 * mc) := by
  obtain ⟨g1, g2, g3, g4, g5, g6, g7, g8, g9, g10⟩ := h
  refine ⟨⟨g1.1, by rw [zlv_go fun i v q => zv_xt h1 g6 h3 (g2 i v q)]; exact g1.2⟩, fun i v q => zvok_mono h2 (g2 i v q), fun v q => (List.mem_append.mp q).elim (hv v) fun q => zvok_mono h2 (hr v q), h5, h6, h3, fun p hp => (h1 p (by omega)).trans (g7 p hp), by omega, by omega, by omega⟩
theorem zrest_go {E : zE} {ra ra' : Nat → Nat} {t : Nat} {rest : List zV} (h : zxt ra ra' t) (h1 : zra E ra) (h2 : zra E ra') (hr : ∀ v ∈ rest, zvok t v) : rest.map (zv ra') = rest.map (zv ra) := List.map_congr_left fun v hv => zv_xt h h1 h2 (hr v hv)
/-! handlers -/
def zexc (o : Nat) : List (Nat × Nat × Nat × Nat) → List (Nat × Nat × Nat × Nat) → Bool
  | [], [] => true
  | a :: as, b :: bs => (Nat.beq a.1 b.1 && (Nat.beq a.2.1 b.2.1 && (Nat.beq a.2.2.1 b.2.2.1 && (Nat.blt b.2.2.2 3 && (Nat.blt 0 a.2.2.2 && decide (lw_tbl[zclW o a.2.2.2]? = some (Cond.classLink (zcn o) a.2.2.2 (zEX b.2.2.2)))))))) && zexc o as bs
  | _, _ => false
theorem zexc_all : ∀ k, k < 389 → zexc (zown k) (zexT k) (zex k) = true := by decide +kernel
theorem zexc_e {o : Nat} {a b : Nat × Nat × Nat × Nat} {as bs : List (Nat × Nat × Nat × Nat)} (h : zexc o (a :: as) (b :: bs) = true) : a.1 = b.1 ∧ a.2.1 = b.2.1 ∧ a.2.2.1 = b.2.2.1 ∧ b.2.2.2 < 3 ∧ a.2.2.2 ≠ 0 ∧ Cond.classLink (zcn o) a.2.2.2 (zEX b.2.2.2) ∈ zW0 ∧ zexc o as bs = true := by
  unfold zexc at h
  simp only [Bool.and_eq_true, decide_eq_true_eq] at h
  obtain ⟨⟨h1, h2, h3, h4, h5, h6⟩, h7⟩ := h
  exact ⟨Nat.eq_of_beq_eq_true h1, Nat.eq_of_beq_eq_true h2, Nat.eq_of_beq_eq_true h3, Nat.blt_eq.mp h4, Nat.pos_iff_ne_zero.mp (Nat.blt_eq.mp h5), zin _ h6 rfl, h7⟩
/-- the row that catches -/
theorem zexh_ok {o pc e h : Nat} : ∀ (as bs : List (Nat × Nat × Nat × Nat)), zexc o as bs = true → zexh pc e bs = some h →
    ∃ (pre suf : List (Nat × Nat × Nat × Nat)) (a : Nat × Nat × Nat × Nat), as = pre ++ a :: suf ∧ a.2.2.1 = h ∧ a.1 ≤ pc ∧ pc < a.2.1 ∧ a.2.2.2 ≠ 0 ∧ e < 3 ∧ Cond.classLink (zcn o) a.2.2.2 (zEX e) ∈ zW0 ∧
      ∀ z ∈ pre, ¬ (z.1 ≤ pc ∧ pc < z.2.1) ∨ (z.2.2.2 ≠ 0 ∧ ∃ e' : Nat, e' < 3 ∧ e' ≠ e ∧ Cond.classLink (zcn o) z.2.2.2 (zEX e') ∈ zW0)
  | [], [], _, h2 => by cases h2
  | [], _ :: _, h1, _ => by cases h1
  | _ :: _, [], h1, _ => by cases h1
  | a :: as, b :: bs, h1, h2 => by
    obtain ⟨r1, r2, r3, r4, r5, r6, r7⟩ := zexc_e h1
    have h2 : cond (Nat.ble b.1 pc && (Nat.blt pc b.2.1 && Nat.beq b.2.2.2 e)) (some b.2.2.1) (zexh pc e bs) = some h := h2
    cases hb : (Nat.ble b.1 pc && (Nat.blt pc b.2.1 && Nat.beq b.2.2.2 e)) with
    | true =>
      rw [hb] at h2
      simp only [Bool.and_eq_true] at hb
      have e3 := Nat.eq_of_beq_eq_true hb.2.2
      rw [e3] at r4 r6
      refine ⟨[], as, a, rfl, r3.trans (Option.some.inj h2), by rw [r1]; exact Nat.ble_eq.mp hb.1, by rw [r2]; exact Nat.blt_eq.mp hb.2.1, r5, r4, r6, fun z hz => by cases hz⟩
    | false =>
      rw [hb] at h2
      obtain ⟨pre, suf, x, g1, g2, g3, g4, g5, g6, g7, g8⟩ := zexh_ok as bs r7 h2
      refine ⟨a :: pre, suf, x, by rw [g1]; rfl, g2, g3, g4, g5, g6, g7, fun z hz => ?_⟩
      rcases List.mem_cons.mp hz with q | q
      · subst q
        by_cases hc : z.1 ≤ pc ∧ pc < z.2.1
        · refine Or.inr ⟨r5, b.2.2.2, r4, fun q => ?_, r6⟩
          rw [Nat.ble_eq.mpr (r1 ▸ hc.1), Nat.blt_eq.mpr (r2 ▸ hc.2), q, Nat.beq_refl] at hb
          cases hb
        · exact Or.inl hc
      · exact g8 z q
theorem zcast_in : ∀ e, e < 3 → (decide (Cond.castable (zEX e) (zEX e) ∈ lw_tbl) && ((Cond.castable (zEX e) (zEX e)).onTables && (Cond.castable (zEX e) (zEX e)).keepsFace)) = true := by decide +kernel
theorem zcast_ok {e : Nat} (he : e < 3) : Cond.castable (zEX e) (zEX e) ∈ zoddW := by
  have h := zcast_in e he
  simp only [Bool.and_eq_true, decide_eq_true_eq] at h
  exact List.mem_filter.mpr ⟨h.1, by rw [h.2.1, h.2.2]; rfl⟩
theorem zcov {pc : Nat} {z : Nat × Nat × Nat × Nat} : covers (⟨z.1, z.2.1, z.2.2.1, z.2.2.2⟩ : ExceptionTableEntry) pc = (decide (z.1 ≤ pc) && decide (pc < z.2.1)) := rfl
/-- a handler's first instruction puts the thrown thing away -/
theorem zLs.put9 {ra : Nat → Nat} {ls : List zV} {lsA lsB : Array Slot} {n i q t : Nat} (h : zLs ra ls lsA n) (ho : ∀ (i : Nat) (v : zV), ls[i]? = some v → zvok t v)
    (hB : lv_has lsB n ((i, Value.ref q) :: (zlv ra ls).filter (fun q => !(q.1 == i) && !(q.1 + 1 == i && q.2.category == 2)))) : zLs ra (zst1 ls i (9, 0)) lsB n := by
  have hn := znx_le t
  have hg : ∀ (i : Nat) (v : zV), ls[i]? = some v → zv (zrb ra 5000 q) v = zv ra v := fun i v hv => by
    have h2 := (ho i v hv).2.2
    unfold zv
    congr 1
    congr 1
    cases hb : Nat.beq v.1 2 with
    | false => rfl
    | true =>
      have h2 := h2 (Nat.eq_of_beq_eq_true hb)
      show Value.ref (zrb ra 5000 q v.2.toNat) = Value.ref (ra v.2.toNat)
      rw [zrb_ne (by rcases h2.2 with z | ⟨z, z2⟩ | z | z | z <;> omega)]
  have h' : zLs (zrb ra 5000 q) ls lsA n := ⟨h.1, by rw [zlv_go hg]; exact h.2⟩
  have h3 : zLs (zrb ra 5000 q) (zst1 ls i (2, 5000)) lsB n := h'.st1 (v := (2, 5000)) (by
    rw [show zv (zrb ra 5000 q) (2, 5000) = Value.ref (zrb ra 5000 q 5000) from rfl, zrb_at, zlv_go hg]; exact hB)
  have h4 : zLs (zrb ra 5000 q) (zst1 ls i (9, 0)) lsB n := h3.fewer (by unfold zst1; rw [List.length_set, List.length_set]) fun j v hv hlt => by
    unfold zst1 at hv ⊢
    rw [List.getElem?_set] at hv ⊢
    by_cases e : i = j
    · rw [if_pos e] at hv
      split at hv
      · cases hv; exact absurd hlt (by decide)
      · cases hv
    · rw [if_neg e] at hv ⊢; exact hv
  refine ⟨h4.1, ?_⟩
  rw [← zlv_go (ra := ra) (ra' := zrb ra 5000 q)]
  · exact h4.2
  · intro j v hv
    have hl := zlocs_st1 (i := i) ho (zok9 (x := 0)) j v hv
    unfold zv
    congr 1
    congr 1
    cases hb : Nat.beq v.1 2 with
    | false => rfl
    | true =>
      have h2 := hl.2.2 (Nat.eq_of_beq_eq_true hb)
      show Value.ref (zrb ra 5000 q v.2.toNat) = Value.ref (ra v.2.toNat)
      rw [zrb_ne (by rcases h2.2 with z | ⟨z, z2⟩ | z | z | z <;> omega)]
section ZCALL
variable {E : zE} {k : Nat} {p : Program} {l : Launch} {e : Env} {s : State} {m : MethodId} {args : Array Value} {below : List Frame} {meth : Method} {cde : Code} {ra0 : Nat → Nat} {t0 : Nat} {o : zR × zW × Nat} {pc : Nat} {ls st : List zV} {w : zW} {t c : Nat}
/-- a call has come back, or has thrown -/
theorem zW_call {lsA : Array Slot} {H : Heap} {locs : List Loc} {cells slots mc : Nat} {ra : Nat → Nat} {rest : List zV} {o' : zR × zW × Nat} {a : Array Value} (C : zCx E k p l s m args meth cde) (hk : k < 389)
    (hdec : ∀ (pc : Nat) (ins : ClassFile.Instr) (nx : Nat) (mk : List Bool), zcode k pc = some (ins, nx, mk) → decode (zby k) pc = .ok (ins, nx - pc) ∧ pc < nx ∧ zil ins pc (nx - pc) = true)
    (hR : zRel E k s ra0 t0 ra ls st w t c lsA H locs cells slots) (hrest : ∀ v ∈ rest, zvok t v) (hc : mc ≤ c)
    (hrun : vx_Run p l e (zroom k) s m args below meth cde H locs cells slots mc (12 * mc) (F0 m pc lsA (st.map (zv ra))) (rest.map (zv ra)) (zQc E ra t o' a) (zXC E ra t o') (zAf E))
    (hback : zback False (fun pc ls st w t c => zSim E k p l e s m args below meth cde ra0 t0 o pc ls st w t c) k pc (pc + 3) ls rest o'.2.1 o'.2.2 (c - mc) o'.1 (fun r w t => o = (r, w, t))) :
    W p l e (zroom k) s m args below meth cde H locs cells slots (vx_MQ below (zQc E ra0 t0 o) (zXC E ra0 t0 o) args s (zmc k) (12 * zmc k) (zAf E)) (F0 m pc lsA (st.map (zv ra))) := by
  have hS := hR.2.2.2.2.1
  have hcs := hR.2.2.2.2.2.2.2.2
  intro T hT X
  rcases hrun T hT X with ⟨v, st₀, t', T', L, h0, X', hL, e1, e2, ⟨q0, ra', g1, g2, g3, g4, g5, g6, g7⟩, hst⟩ | ⟨q, st₀, t', T', L, Ex, ce, h0, X', hL, e1, e2, ⟨e', ra', x1, x2, x3, x4, x5, x6, x7, x8⟩, hce, hcv, hcl, hst⟩
  · obtain ⟨k1, k2, k3⟩ := vx_keep h0 e1 hS (fun _ _ q => q) (fun _ q => q) hL g7
    rw [← e1] at g6
    unfold zback at hback
    rw [q0] at hback
    have hv : v = o'.1.2.map (zv ra') := Outcome.returned.inj g4
    have hrm := zrest_go g1 hR.2.2.2.2.2.1 g3 hrest
    cases hv2 : o'.1.2 with
    | none =>
      rw [hv2] at hback hv
      subst hv
      obtain ⟨t2, a1, b1⟩ := hback ra' lsA T'.heap (locs ++ L) _ _ (hR.back (vs := []) hrest g1 g2 g3 g6 k3 (fun _ q => nomatch q) hc) T' rfl X'
      rw [hrm] at a1
      exact ⟨t2, hst t2 a1, b1⟩
    | some v2 =>
      rw [hv2] at hback hv
      subst hv
      obtain ⟨t2, a1, b1⟩ := hback ra' lsA T'.heap (locs ++ L) _ _ (hR.back (vs := [v2]) hrest g1 g2 g3 g6 k3 (fun u q => by rw [List.mem_singleton.mp q]; exact g5 v2 hv2) hc) T' rfl X'
      rw [List.map_cons, hrm] at a1
      exact ⟨t2, hst t2 a1, b1⟩
  · subst x2
    obtain ⟨k1, k2, k3⟩ := vx_keep h0 e1 hS (fun _ _ q => q) (fun _ q => q) hL x8
    rw [← e1] at x7 hce
    have hR2 := hR.back (vs := []) (rest := []) (fun _ q => nomatch q) x4 x5 x6 x7 k3 (fun _ q => nomatch q) hc
    have hrm := zrest_go x4 hR.2.2.2.2.2.1 x6 hrest
    unfold zback at hback
    rw [x1] at hback
    have hback : cond (List.isEmpty (zex k)) (o = ((e' + 1, none), o'.2.1, o'.2.2)) (zopt False (zexh pc e' (zex k)) fun h => zopt False (zcode k h) fun x => zhnd False x.1 fun i =>
        cond (List.isEmpty x.2.2 && Nat.blt i ls.length) (zSim E k p l e s m args below meth cde ra0 t0 o x.2.1 (zst1 ls i (9, 0)) [] o'.2.1 o'.2.2 (c - mc)) False) := hback
    cases hx : List.isEmpty (zex k) with
    | true =>
      rw [hx] at hback
      have hback : o = ((e' + 1, none), o'.2.1, o'.2.2) := hback
      have hT2 : zexT k = [] := by
        have := zexT_ok k hk
        rw [hx] at this
        exact List.isEmpty_iff.mp this
      have hxt : cde.exceptionTable.toList = [] := by rw [C.2.2.2.2.2.2.2.1, hT2]; rfl
      have hcs2 := hR2.2.2.2.2.2.2.2.2
      have hout : vx_W p l e (zroom k) s m args below meth cde T'.heap (locs ++ L) (cells + mc) (slots + 12 * mc) (vx_MQ below (zQc E ra0 t0 o) (zXC E ra0 t0 o) args s (zmc k) (12 * zmc k) (zAf E)) (F0 m pc lsA (rest.map (zv ra))) q :=
        vx_out (fun x hxx => by rw [hxt] at hxx; cases hxx) C.2.2.2.2.2.2.1 hce hcv hcl (fun tt ht _ => zxc_ok hR2 x3 hback tt (by rw [ht]; exact Nat.le_refl _) (fun z _ => by rw [ht])) k3.2.2 (by omega) (by omega)
      obtain ⟨t2, a1, b1⟩ := hout T' rfl X'
      exact ⟨t2, hst.trans a1, b1⟩
    | false =>
      rw [hx] at hback
      obtain ⟨h, hh, hback⟩ := zopt_e hback
      obtain ⟨⟨ins, nx, mk⟩, hcd, hback⟩ := zopt_e hback
      obtain ⟨pre, suf, z, s1, s2, s3, s4, s5, s6, s7, s8⟩ := zexh_ok _ _ (zexc_all k hk) hh
      have htab : cde.exceptionTable.toList = tableOf pre ++ (⟨z.1, z.2.1, z.2.2.1, z.2.2.2⟩ : ExceptionTableEntry) :: tableOf suf := by rw [C.2.2.2.2.2.2.2.1, s1]; unfold tableOf; rw [List.map_append]; rfl
      obtain ⟨d1, d2, d3⟩ := hdec h ins nx mk hcd
      have hcatch : vx_W p l e (zroom k) s m args below meth cde T'.heap (locs ++ L) (cells + mc) (slots + 12 * mc) (vx_MQ below (zQc E ra0 t0 o) (zXC E ra0 t0 o) args s (zmc k) (12 * zmc k) (zAf E)) (F0 m pc lsA (rest.map (zv ra))) q := by
        refine vx_catch (own := zcn (zown k)) (name := zEX e') C.own (tableOf pre) _ (tableOf suf) htab (fun y hy => ?_) (by rw [zcov, decide_eq_true s3, decide_eq_true s4]; rfl) s5 (C.wd _ s7) (va_Nw.use (zoddW_m (zcast_ok x3)).1 (C.amb.2.2.2.2.2.2.2.2.1 _ (zcast_ok x3))) hce hcv hcl ?_
        · obtain ⟨b, hb, rfl⟩ := List.mem_map.mp hy
          rcases s8 b hb with r | ⟨r1, e2, r2, r3, r4⟩
          · left
            rw [zcov]
            by_cases r5 : b.1 ≤ pc
            · rw [decide_eq_false (fun r6 => r ⟨r5, r6⟩), Bool.and_false]
            · rw [decide_eq_false r5, Bool.false_and]
          · exact Or.inr ⟨r1, zEX e2, C.wd _ r4, C.amb.2.2.2.2.2.2.1 e' e2 x3 r2 (Ne.symm r3)⟩
        · show W p l e (zroom k) s m args below meth cde T'.heap (locs ++ L) (cells + mc) (slots + 12 * mc) _ (F0 m z.2.2.1 lsA [.ref q])
          rw [s2]
          cases ins with
          | astore i =>
            have hback : cond (List.isEmpty mk && Nat.blt i ls.length) (zSim E k p l e s m args below meth cde ra0 t0 o nx (zst1 ls i (9, 0)) [] o'.2.1 o'.2.2 (c - mc)) False := hback
            obtain ⟨hb, hback⟩ := zc_e hback
            simp only [Bool.and_eq_true] at hb
            have hn : nx - h = 2 := Nat.eq_of_beq_eq_true d3
            rw [hn] at d1
            have hnx : nx = h + 2 := by omega
            subst hnx
            have hi := Nat.blt_eq.mp hb.2
            refine lv_astore C.1 C.2.1 d1 hR2.1.2 (by rw [hR2.1.1] at hi; exact hi) rfl (fun lsB hB => ?_)
            exact hback ra' lsB T'.heap (locs ++ L) _ _ ⟨hR2.1.put9 hR2.2.1 hB, zlocs_st1 hR2.2.1 zok9, hR2.2.2⟩
          | astore_n i =>
            have hback : cond (List.isEmpty mk && Nat.blt i.val ls.length) (zSim E k p l e s m args below meth cde ra0 t0 o nx (zst1 ls i.val (9, 0)) [] o'.2.1 o'.2.2 (c - mc)) False := hback
            obtain ⟨hb, hback⟩ := zc_e hback
            simp only [Bool.and_eq_true] at hb
            have hn : nx - h = 1 := Nat.eq_of_beq_eq_true d3
            rw [hn] at d1
            have hnx : nx = h + 1 := by omega
            subst hnx
            have hi := Nat.blt_eq.mp hb.2
            refine lv_astore_n C.1 C.2.1 d1 rfl hR2.1.2 (by rw [hR2.1.1] at hi; exact hi) rfl (fun lsB hB => ?_)
            exact hback ra' lsB T'.heap (locs ++ L) _ _ ⟨hR2.1.put9 hR2.2.1 hB, zlocs_st1 hR2.2.1 zok9, hR2.2.2⟩
          | _ => exact hback.elim
      obtain ⟨t2, a1, b1⟩ := hcatch T' rfl X'
      exact ⟨t2, hst.trans a1, b1⟩
/-- .. a call that only returns -/
theorem zrun_up {H : Heap} {locs : List Loc} {cells slots mc ms : Nat} {g : JFrame} {rest : List Value} {Qa : State → Outcome → State → Prop} {XC : String → State → State → Prop} {free : Addr → Prop} {R : Room} (h : va_Run p l e R s m args below meth cde H locs cells slots mc ms g rest Qa free) :
    vx_Run p l e R s m args below meth cde H locs cells slots mc ms g rest Qa XC free := fun T hT X => Or.inl (h T hT X)
end ZCALL
