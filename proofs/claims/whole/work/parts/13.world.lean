/-! ===== the world as cells: reading a place, writing it, making one ===== -/
def zpchk (p j : Nat) : Bool := zcase (zptr p j) (fun q => Nat.blt q.1 (znx q.2) && (Nat.blt p (znx q.2) && (Nat.beq (znx (q.2 + 1)) (znx q.2) && (Nat.beq (zevp q.2).1 p && Nat.beq (zevp q.2).2 j)))) true
theorem zpchk_all : ∀ p, p < 117 → ∀ j, j < 60 → zpchk p j = true := by decide +kernel
theorem zptr_ok {p j : Nat} {q : Nat × Nat} (h : zptr p j = some q) : q.1 < znx q.2 ∧ p < znx q.2 ∧ znx (q.2 + 1) = znx q.2 ∧ zevp q.2 = (p, j) ∧ p < 117 := by
  have hb : (Nat.blt p 117 && Nat.blt j 60) = true := by
    cases hb : (Nat.blt p 117 && Nat.blt j 60) with
    | true => rfl
    | false => unfold zptr at h; rw [hb] at h; cases h
  simp only [Bool.and_eq_true] at hb
  have hc := zpchk_all p (Nat.blt_eq.mp hb.1) j (Nat.blt_eq.mp hb.2)
  unfold zpchk at hc
  rw [h] at hc
  simp only [zcase, Bool.and_eq_true] at hc
  obtain ⟨h1, h2, h3, h4, h5⟩ := hc
  exact ⟨Nat.blt_eq.mp h1, Nat.blt_eq.mp h2, Nat.eq_of_beq_eq_true h3, Prod.ext (Nat.eq_of_beq_eq_true h4) (Nat.eq_of_beq_eq_true h5), Nat.blt_eq.mp hb.1⟩
theorem znx_step0 : ∀ t, t < 239 → znx t ≤ znx (t + 1) ∧ znx t ≤ 117 := by decide +kernel
theorem znx_big {t : Nat} (h : ¬ t < 239) : znx t = 117 := by
  unfold znx
  cases hb : Nat.blt t 239 with
  | false => rfl
  | true => exact absurd (Nat.blt_eq.mp hb) h
theorem znx_step (t : Nat) : znx t ≤ znx (t + 1) := by
  by_cases h : t < 239
  · exact (znx_step0 t h).1
  · rw [znx_big h, znx_big (t := t + 1) (by omega)]; exact Nat.le_refl _
theorem znx_le (t : Nat) : znx t ≤ 117 := by
  by_cases h : t < 239
  · exact (znx_step0 t h).2
  · rw [znx_big h]; exact Nat.le_refl _
theorem znx_mono {t t' : Nat} (h : t ≤ t') : znx t ≤ znx t' := by
  induction h with
  | refl => exact Nat.le_refl _
  | step _ ih => exact Nat.le_trans ih (znx_step _)
theorem znx_lt {t t' : Nat} (h : znx t < znx t') : t < t' := by
  rcases Nat.lt_or_ge t t' with q | q
  · exact q
  · exact absurd (znx_mono q) (by omega)
theorem zpl_mono {t t' : Nat} (h : znx t ≤ znx t') {x : Int} (hx : zpl t x) : zpl t' x := ⟨hx.1, hx.2.elim (fun q => Or.inl (by omega)) Or.inr⟩
theorem zvok_mono {t t' : Nat} (h : znx t ≤ znx t') {v : zV} (hv : zvok t v) : zvok t' v := ⟨hv.1, hv.2.1, fun q => zpl_mono h (hv.2.2 q)⟩
theorem zbltI {a b a' b' : Nat} (h : a < b ↔ a' < b') : Nat.blt a b = Nat.blt a' b' := by
  cases h1 : Nat.blt a b with
  | true => exact (Nat.blt_eq.mpr (h.mp (Nat.blt_eq.mp h1))).symm
  | false =>
    cases h2 : Nat.blt a' b' with
    | false => rfl
    | true => rw [Nat.blt_eq.mpr (h.mpr (Nat.blt_eq.mp h2))] at h1; cases h1
theorem zfv_go {ra ra' : Nat → Nat} {t t' p ci j : Nat} {x : Int} (h : ∀ q, zptr p j = some q → (q.2 < t' ↔ q.2 < t) ∧ (q.2 < t → ra' q.1 = ra q.1)) (hd : zft ci j = 3 → 0 ≤ x → ra' x.toNat = ra x.toNat) : zfv ra' t' p ci j x = zfv ra t p ci j x := by
  unfold zfv
  congr 1
  congr 1
  · cases hq : zptr p j with
    | none => rfl
    | some q =>
      obtain ⟨h1, h2⟩ := h q hq
      show cond (Nat.blt q.2 t') (Value.ref (ra' q.1)) .null = cond (Nat.blt q.2 t) (Value.ref (ra q.1)) .null
      rw [zbltI h1]
      cases hb : Nat.blt q.2 t with
      | false => rfl
      | true => rw [h2 (Nat.blt_eq.mp hb)]
  · cases hb : Nat.beq (zft ci j) 3 with
    | false => rfl
    | true =>
      show (if x < 0 then Value.null else .ref (ra' x.toNat)) = if x < 0 then .null else .ref (ra x.toNat)
      by_cases hx : x < 0
      · rw [if_pos hx, if_pos hx]
      · rw [if_neg hx, if_neg hx, hd (Nat.eq_of_beq_eq_true hb) (by omega)]
theorem zsk_obj {p j : Nat} {a : Nat × Nat} (h : zlay p = some a) (h0 : a.1 = 0) : zsk p j = zft a.2 j := by
  unfold zsk
  rw [h]
  show cond (Nat.beq a.1 0) _ _ = _
  rw [h0]; rfl
theorem zsk_five {p j : Nat} {a : Nat × Nat} (h : zlay p = some a) (h0 : a.1 = 5) : zsk p j = 3 := by
  unfold zsk
  rw [h]
  show cond (Nat.beq a.1 0) _ _ = _
  rw [h0]; rfl
theorem zcel_go {E : zE} {ra ra' : Nat → Nat} {t t' p : Nat} {f f' : Nat → Int} (hf : ∀ j, f' j = f j) (h : ∀ j q, zptr p j = some q → (q.2 < t' ↔ q.2 < t) ∧ (q.2 < t → ra' q.1 = ra q.1)) (hd : ∀ j, zsk p j = 3 → 0 ≤ f j → ra' (f j).toNat = ra (f j).toNat) : zcel E ra' t' p f' = zcel E ra t p f := by
  have hff : f' = f := funext hf
  subst hff
  unfold zcel
  cases hl : zlay p with
  | none => rfl
  | some a =>
    show cond (Nat.beq a.1 0) _ _ = cond (Nat.beq a.1 0) _ _
    cases h0 : Nat.beq a.1 0 with
    | true =>
      have e0 := Nat.eq_of_beq_eq_true h0
      show Sum.inr (a.2, _) = Sum.inr (a.2, _)
      congr 2
      refine List.map_congr_left fun j _ => ?_
      exact zfv_go (h j) fun q1 q2 => hd j (by rw [zsk_obj hl e0]; exact q1) q2
    | false =>
      show cond (Nat.beq a.1 2) _ _ = cond (Nat.beq a.1 2) _ _
      cases h2 : Nat.beq a.1 2 with
      | true => rfl
      | false =>
        show cond (Nat.beq a.1 5) _ _ = cond (Nat.beq a.1 5) _ _
        cases h5 : Nat.beq a.1 5 with
        | true =>
          have e5 := Nat.eq_of_beq_eq_true h5
          show Sum.inl (_, a.2, _) = Sum.inl (_, a.2, _)
          congr 7
          funext j
          by_cases hx : f' j < 0
          · rw [if_pos hx, if_pos hx]
          · rw [if_neg hx, if_neg hx, hd j (zsk_five hl e5) (by omega)]
        | false =>
          show cond (Nat.beq a.1 6) _ _ = cond (Nat.beq a.1 6) _ _
          cases h6 : Nat.beq a.1 6 with
          | false => rfl
          | true =>
            show Sum.inl (_, a.2, _) = Sum.inl (_, a.2, _)
            congr 7
            funext j
            cases hq : zptr p j with
            | none => rfl
            | some q =>
              obtain ⟨g1, g2⟩ := h j q hq
              show cond (Nat.blt q.2 t') (some (ra' q.1)) none = cond (Nat.blt q.2 t) (some (ra q.1)) none
              rw [zbltI g1]
              cases hb : Nat.blt q.2 t with
              | false => rfl
              | true => rw [g2 (Nat.blt_eq.mp hb)]
theorem zws_len (E : zE) (ra : Nat → Nat) (t : Nat) (w : zW) : (zws E ra t w).length = znx t := by simp [zws]
theorem zws_at {E : zE} {ra : Nat → Nat} {t : Nat} {w : zW} {p : Nat} (h : p < znx t) : (zws E ra t w)[p]? = some (ra p, zcel E ra t p (w p)) := by
  unfold zws
  rw [List.getElem?_map, List.getElem?_range h]
  rfl
theorem zws_set {E : zE} {ra : Nat → Nat} {t t' : Nat} {w w' : zW} {p : Nat} {e : va_E} (hn : znx t' = znx t) (hp : p < znx t) (he : e = zcel E ra t' p (w' p)) (ho : ∀ q, q < znx t → q ≠ p → zcel E ra t' q (w' q) = zcel E ra t q (w q)) : (zws E ra t w).set p (ra p, e) = zws E ra t' w' := by
  refine List.ext_getElem? fun q => ?_
  by_cases hq : q < znx t
  · rw [zws_at (t := t') (by omega)]
    by_cases e1 : q = p
    · subst e1
      rw [List.getElem?_set_self (by rw [zws_len]; exact hq), he]
    · rw [List.getElem?_set_ne (Ne.symm e1), zws_at hq, ho q hq e1]
  · rw [List.getElem?_eq_none (by rw [List.length_set, zws_len]; omega), List.getElem?_eq_none (by rw [zws_len]; omega)]
theorem zws_upd {E : zE} {ra : Nat → Nat} {t : Nat} {w w' : zW} {p : Nat} {e : va_E} (hp : p < znx t) (he : e = zcel E ra t p (w' p)) (ho : ∀ q, q ≠ p → w' q = w q) : (zws E ra t w).set p (ra p, e) = zws E ra t w' :=
  zws_set rfl hp he fun q _ hq => by rw [ho q hq]
theorem zok_upd {t : Nat} {w : zW} {p j : Nat} {x : Int} (h : zok t w) (hx : zrg (zsk p j) x) : zok t (zupd w p j x) := by
  intro q hq i
  unfold zupd
  by_cases e : q = p
  · subst e
    rw [if_pos rfl]
    by_cases e2 : i = j
    · subst e2
      rw [if_pos rfl]; exact hx
    · rw [if_neg e2]; exact h q hq i
  · rw [if_neg e]; exact h q hq i
theorem zupd_ne {w : zW} {p j : Nat} {x : Int} {q : Nat} (h : q ≠ p) : zupd w p j x q = w q := by
  funext i
  unfold zupd
  rw [if_neg h]
theorem zupd_at (w : zW) (p j : Nat) (x : Int) : zupd w p j x p = fun i => if i = j then x else w p i := by
  funext i
  unfold zupd
  rw [if_pos rfl]
/-- a place of ours was written: the state behind it -/
theorem zSt.upd {E : zE} {ra : Nat → Nat} {t : Nat} {w : zW} {H H1 : Heap} {p j : Nat} {x : Int} {e : va_E} (h : zSt E ra t w H) (hp : p < znx t) (hx : zrg (zsk p j) x) (he : e = zcel E ra t p (zupd w p j x p))
    (hP : va_P (zED E) vwCl ((zws E ra t w).set p (ra p, e)) H1) (hD : va_D (zAf E) ((zws E ra t w).set p (ra p, e))) : zSt E ra t (zupd w p j x) H1 := by
  have e1 := zws_upd (E := E) (ra := ra) (w := w) (w' := zupd w p j x) hp he (fun q hq => zupd_ne hq)
  rw [e1] at hP hD
  have hl := Nat.lt_of_lt_of_le hp (znx_le t)
  refine ⟨hP, hD, zok_upd h.2.2.1 hx, ?_, fun i hi => ?_⟩
  · rw [zupd_ne (by omega)]; exact h.2.2.2.1
  · rw [zupd_ne (by omega)]; exact h.2.2.2.2 i hi
