/-! ===== one step respects any relation: from it that fuel may grow, and the row for a step of zwp ===== -/
theorem zc_rel {α : Sort _} {β : Sort _} (R : α → β → Prop) {a b : α} {a' b' : β} (x : Bool) (h1 : R a a') (h2 : R b b') : R (cond x a b) (cond x a' b') := by cases x <;> assumption
theorem zite_rel {α : Sort _} {β : Sort _} (R : α → β → Prop) {a b : α} {a' b' : β} (p : Prop) [Decidable p] (h1 : R a a') (h2 : R b b') : R (if p then a else b) (if p then a' else b') := by
  by_cases h : p
  · rw [if_pos h, if_pos h]; exact h1
  · rw [if_neg h, if_neg h]; exact h2
theorem zp1_rel {α : Sort _} {β : Sort _} (R : α → β → Prop) {fail : α} {fail' : β} (hf : R fail fail') (st : List zV) (g : Nat) {f : Int → List zV → α} {f' : Int → List zV → β} (h : ∀ x r, R (f x r) (f' x r)) : R (zp1 fail st g f) (zp1 fail' st g f') := by
  cases st with
  | nil => exact hf
  | cons v r => exact zc_rel R _ (h _ _) hf
theorem zpr_rel {α : Sort _} {β : Sort _} (R : α → β → Prop) {fail : α} {fail' : β} (hf : R fail fail') (st : List zV) {f : zV → List zV → α} {f' : zV → List zV → β} (h : ∀ x r, R (f x r) (f' x r)) : R (zpr fail st f) (zpr fail' st f') := by
  cases st with
  | nil => exact hf
  | cons v r => exact zc_rel R _ (h _ _) (zc_rel R _ (h _ _) hf)
theorem zpv_rel {α : Sort _} {β : Sort _} (R : α → β → Prop) {fail : α} {fail' : β} (hf : R fail fail') (st : List zV) {f : zV → List zV → α} {f' : zV → List zV → β} (h : ∀ x r, R (f x r) (f' x r)) : R (zpv fail st f) (zpv fail' st f') := by
  cases st with
  | nil => exact hf
  | cons v r => exact h _ _
theorem zgt_rel {α : Sort _} {β : Sort _} (R : α → β → Prop) {fail : α} {fail' : β} (hf : R fail fail') (ls : List zV) (i g : Nat) {f : Int → α} {f' : Int → β} (h : ∀ x, R (f x) (f' x)) : R (zgt fail ls i g f) (zgt fail' ls i g f') := by
  unfold zgt
  cases ls[i]? with
  | none => exact hf
  | some v => exact zc_rel R _ (h _) hf
theorem zga_rel {α : Sort _} {β : Sort _} (R : α → β → Prop) {fail : α} {fail' : β} (hf : R fail fail') (ls : List zV) (i : Nat) {f : zV → α} {f' : zV → β} (h : ∀ x, R (f x) (f' x)) : R (zga fail ls i f) (zga fail' ls i f') := by
  unfold zga
  cases ls[i]? with
  | none => exact hf
  | some v => exact zc_rel R _ (h _) (zc_rel R _ (h _) hf)
theorem zemp_rel {α : Sort _} {β : Sort _} (R : α → β → Prop) {fail : α} {fail' : β} (hf : R fail fail') (st : List zV) {a : α} {a' : β} (h : R a a') : R (zemp fail st a) (zemp fail' st a') := by
  cases st with
  | nil => exact h
  | cons v r => exact hf
theorem zopt_rel {α : Sort _} {β : Sort _} (R : α → β → Prop) {fail : α} {fail' : β} (hf : R fail fail') {γ : Type} (o : Option γ) {f : γ → α} {f' : γ → β} (h : ∀ x, R (f x) (f' x)) : R (zopt fail o f) (zopt fail' o f') := by
  cases o with
  | none => exact hf
  | some v => exact h _
theorem zcase_rel {α : Sort _} {β : Sort _} (R : α → β → Prop) {γ : Type} (o : Option γ) {f : γ → α} {f' : γ → β} {a : α} {a' : β} (h : ∀ x, R (f x) (f' x)) (h2 : R a a') : R (zcase o f a) (zcase o f' a') := by
  cases o with
  | none => exact h2
  | some v => exact h _
theorem zifc_rel {α : Sort _} {β : Sort _} (R : α → β → Prop) {fail : α} {fail' : β} (hf : R fail fail') (i : ClassFile.Instr) {f : ClassFile.Cond → Int → α} {f' : ClassFile.Cond → Int → β} (h : ∀ x y, R (f x y) (f' x y)) : R (zifc fail i f) (zifc fail' i f') := by
  cases i <;> first | exact hf | exact h _ _
theorem zhnd_rel {α : Sort _} {β : Sort _} (R : α → β → Prop) {fail : α} {fail' : β} (hf : R fail fail') (i : ClassFile.Instr) {f : Nat → α} {f' : Nat → β} (h : ∀ x, R (f x) (f' x)) : R (zhnd fail i f) (zhnd fail' i f') := by
  cases i <;> first | exact hf | exact h _
theorem zend_rel {α : Sort _} {β : Sort _} (R : α → β → Prop) (n : Nat) {a : α} {a' : β} {f : Nat → α} {f' : Nat → β} (h0 : R a a') (h : ∀ x, R (f x) (f' x)) : R (zend n a f) (zend n a' f') := by
  cases n with
  | zero => exact h0
  | succ e => exact h _
theorem zif_rel {α : Sort _} {β : Sort _} (R : α → β → Prop) {fail : α} {fail' : β} (hf : R fail fail') (p : Prop) [Decidable p] {a : α} {a' : β} (h : R a a') : R (zif fail p a) (zif fail' p a') := zite_rel R p h hf
theorem zcnd_rel {α : Sort _} {β : Sort _} (R : α → β → Prop) (cd : ClassFile.Cond) (x y : Int) {a b : α} {a' b' : β} (h1 : R a a') (h2 : R b b') : R (zcnd cd x y a b) (zcnd cd x y a' b') := by
  cases cd
  · exact zite_rel R _ h1 h2
  · exact zite_rel R _ h2 h1
  · exact zite_rel R _ h1 h2
  · exact zite_rel R _ h2 h1
  · exact zite_rel R _ h1 h2
  · exact zite_rel R _ h2 h1
theorem zacn_rel {α : Sort _} {β : Sort _} (R : α → β → Prop) (cd : ClassFile.ACond) (x y : Int) {a b : α} {a' b' : β} (h1 : R a a') (h2 : R b b') : R (zacn cd x y a b) (zacn cd x y a' b') := by
  cases cd
  · exact zite_rel R _ h1 h2
  · exact zite_rel R _ h2 h1
theorem zswl_rel {α : Sort _} {β : Sort _} (R : α → β → Prop) {F : Nat → α} {F' : Nat → β} (h : ∀ q, R (F q) (F' q)) (pc : Nat) (x d : Int) : ∀ (os : List Int) (lo : Int), R (zswl F pc x d lo os) (zswl F' pc x d lo os)
  | [], _ => h _
  | o :: os, lo => zite_rel R _ (h _) (zswl_rel R h pc x d os (lo + 1))
theorem zarr_rel {α : Sort _} {β : Sort _} (R : α → β → Prop) {fail : α} {fail' : β} (hf : R fail fail') (p : Int) (kd t : Nat) {f : Nat → α} {f' : Nat → β} (h : ∀ x, R (f x) (f' x)) : R (zarr fail p kd t f) (zarr fail' p kd t f') :=
  zopt_rel R hf _ fun _ => zc_rel R _ (h _) hf
theorem zrcv_rel {α : Sort _} {β : Sort _} (R : α → β → Prop) {fail : α} {fail' : β} (hf : R fail fail') (kd o : Nat) (p : Int) (t : Nat) {a : α} {a' : β} (h : R a a') : R (zrcv fail kd o p t a) (zrcv fail' kd o p t a') :=
  zc_rel R _ (zif_rel R hf _ h) (zopt_rel R hf _ fun _ => zc_rel R _ h hf)
theorem zback_rel {α : Sort _} {β : Sort _} (R : α → β → Prop) {fail : α} {fail' : β} (hf : R fail fail') {F : Nat → List zV → List zV → zW → Nat → Nat → α} {F' : Nat → List zV → List zV → zW → Nat → Nat → β} (hF : ∀ pc ls st w t c, R (F pc ls st w t c) (F' pc ls st w t c)) (k pc nx : Nat) (ls rest : List zV) (w : zW) (t c : Nat) (o : zR) {thr : zR → zW → Nat → α} {thr' : zR → zW → Nat → β} (ht : ∀ r w t, R (thr r w t) (thr' r w t)) : R (zback fail F k pc nx ls rest w t c o thr) (zback fail' F' k pc nx ls rest w t c o thr') :=
  zend_rel R _ (zcase_rel R _ (fun _ => hF _ _ _ _ _ _) (hF _ _ _ _ _ _)) fun _ => zc_rel R _ (ht _ _ _)
    (zopt_rel R hf _ fun _ => zopt_rel R hf _ fun _ => zhnd_rel R hf _ fun _ => zc_rel R _ (hF _ _ _ _ _ _) hf)
theorem zmath_rel {α : Sort _} {β : Sort _} (R : α → β → Prop) {fail : α} {fail' : β} (hf : R fail fail') (kd : Nat) (st : List zV) {K : List zV → α} {K' : List zV → β} (h : ∀ r, R (K r) (K' r)) : R (zmath fail kd st K) (zmath fail' kd st K') := by
  refine zc_rel R _ ?_ (zc_rel R _ ?_ (zc_rel R _ (zp1_rel R hf _ _ fun _ _ => h _) (zc_rel R _ ?_ (zc_rel R _ ?_ (zc_rel R _ (zp1_rel R hf _ _ fun _ _ => h _) hf))))) <;> exact zp1_rel R hf _ _ fun _ _ => zp1_rel R hf _ _ fun _ _ => h _
theorem zthn_rel {α : Sort _} {β : Sort _} (R : α → β → Prop) {fail : α} {fail' : β} (hf : R fail fail') (kd e : Nat) {a : α} {a' : β} (h : R a a') : R (zthn fail kd e a) (zthn fail' kd e a') := zc_rel R _ (zc_rel R _ h hf) h
theorem zinvk_rel {α : Sort _} {β : Sort _} (R : α → β → Prop) {fail : α} {fail' : β} (hf : R fail fail') {F : Nat → List zV → List zV → zW → Nat → Nat → α} {F' : Nat → List zV → List zV → zW → Nat → Nat → β} (hF : ∀ pc ls st w t c, R (F pc ls st w t c) (F' pc ls st w t c)) {ret : zR → zW → Nat → α} {ret' : zR → zW → Nat → β} (hr : ∀ r w t, R (ret r w t) (ret' r w t)) {call : Nat → List zV → zW → Nat → (zR → zW → Nat → α) → α} {call' : Nat → List zV → zW → Nat → (zR → zW → Nat → β) → β} (hc : ∀ y l0 w t K K', (∀ r w t, R (K r w t) (K' r w t)) → R (call y l0 w t K) (call' y l0 w t K')) (k pc i op nx : Nat) (ls st : List zV) (w : zW) (t c : Nat) : R (zinvk fail F ret call k pc i op nx ls st w t c) (zinvk fail' F' ret' call' k pc i op nx ls st w t c) := by
  refine zopt_rel R hf _ fun e => zc_rel R _ (zp1_rel R hf _ _ fun _ _ => zc_rel R _ (zif_rel R hf _ (hF _ _ _ _ _ _)) hf) (zc_rel R _ ?_ (zc_rel R _ (zc_rel R _ (zmath_rel R hf _ _ fun _ => hF _ _ _ _ _ _) hf) (zc_rel R _ (zp1_rel R hf _ _ fun _ _ => zc_rel R _ (hF _ _ _ _ _ _) hf) (zc_rel R _ (zc_rel R _ (zc_rel R _ ?_ hf) ?_) hf))))
  · exact zp1_rel R hf _ _ fun _ _ => zp1_rel R hf _ _ fun _ _ => zp1_rel R hf _ _ fun _ _ => zp1_rel R hf _ _ fun _ _ => zp1_rel R hf _ _ fun _ _ => zopt_rel R hf _ fun _ => zopt_rel R hf _ fun _ => zc_rel R _ (zif_rel R hf _ (zif_rel R hf _ (zif_rel R hf _ (hF _ _ _ _ _ _)))) hf
  · exact hc _ _ _ _ _ _ fun _ _ _ => zthn_rel R hf _ _ (zback_rel R hf hF _ _ _ _ _ _ _ _ _ hr)
  · exact zopt_rel R hf _ fun _ => zc_rel R _ (zrcv_rel R hf _ _ _ _ (hc _ _ _ _ _ _ fun _ _ _ => zthn_rel R hf _ _ (zback_rel R hf hF _ _ _ _ _ _ _ _ _ hr))) hf
set_option maxHeartbeats 4000000 in
theorem zexec_rel {α : Sort _} {β : Sort _} (R : α → β → Prop) {fail : α} {fail' : β} (hf : R fail fail') {F : Nat → List zV → List zV → zW → Nat → Nat → α} {F' : Nat → List zV → List zV → zW → Nat → Nat → β} (hF : ∀ pc ls st w t c, R (F pc ls st w t c) (F' pc ls st w t c)) {ret : zR → zW → Nat → α} {ret' : zR → zW → Nat → β} (hr : ∀ r w t, R (ret r w t) (ret' r w t)) {call : Nat → List zV → zW → Nat → (zR → zW → Nat → α) → α} {call' : Nat → List zV → zW → Nat → (zR → zW → Nat → β) → β} (hc : ∀ y l0 w t K K', (∀ r w t, R (K r w t) (K' r w t)) → R (call y l0 w t K) (call' y l0 w t K')) (k pc : Nat) (ins : ClassFile.Instr) (nx : Nat) (ls st : List zV) (w : zW) (t c : Nat) : R (zexec fail ret F call k pc ins nx ls st w t c) (zexec fail' ret' F' call' k pc ins nx ls st w t c) := by
  cases ins <;> first
    | exact hf
    | exact zinvk_rel R hf hF hr hc _ _ _ _ _ _ _ _ _ _
    | (delta zexec; dsimp only [zbin]; repeat' (first
        | exact hf
        | exact hF _ _ _ _ _ _
        | exact hr _ _ _
        | refine zp1_rel R hf _ _ (fun _ _ => ?_)
        | refine zc_rel R _ ?_ ?_
        | refine zif_rel R hf _ ?_
        | refine zopt_rel R hf _ (fun _ => ?_)
        | refine zarr_rel R hf _ _ _ (fun _ => ?_)
        | refine zcnd_rel R _ _ _ ?_ ?_
        | refine zgt_rel R hf _ _ _ (fun _ => ?_)
        | refine zga_rel R hf _ _ (fun _ => ?_)
        | refine zpr_rel R hf _ (fun _ _ => ?_)
        | refine zpv_rel R hf _ (fun _ _ => ?_)
        | refine zemp_rel R hf _ ?_
        | refine zacn_rel R _ _ _ ?_ ?_
        | refine zifc_rel R hf _ (fun _ _ => ?_)
        | refine zcase_rel R _ (fun _ => ?_) ?_
        | refine zswl_rel R (fun _ => ?_) _ _ _ _ _))
theorem zstep_rel {α : Sort _} {β : Sort _} (R : α → β → Prop) {fail : α} {fail' : β} (hf : R fail fail') {F : Nat → List zV → List zV → zW → Nat → Nat → α} {F' : Nat → List zV → List zV → zW → Nat → Nat → β} (hF : ∀ pc ls st w t c, R (F pc ls st w t c) (F' pc ls st w t c)) {ret : zR → zW → Nat → α} {ret' : zR → zW → Nat → β} (hr : ∀ r w t, R (ret r w t) (ret' r w t)) {call : Nat → List zV → zW → Nat → (zR → zW → Nat → α) → α} {call' : Nat → List zV → zW → Nat → (zR → zW → Nat → β) → β} (hc : ∀ y l0 w t K K', (∀ r w t, R (K r w t) (K' r w t)) → R (call y l0 w t K) (call' y l0 w t K')) (k pc : Nat) (ls st : List zV) (w : zW) (t c : Nat) : R (zstep fail ret F call k pc ls st w t c) (zstep fail' ret' F' call' k pc ls st w t c) :=
  zopt_rel R hf _ fun _ => zexec_rel R hf hF hr hc _ _ _ _ _ _ _ _ _
theorem zrun_succ (n k pc : Nat) (ls st : List zV) (w : zW) (t c : Nat) : zrun (n + 1) k pc ls st w t c = zstep none (fun r w t => some (r, w, t)) (zrun n k)
    (fun y l0 w t K => match zrun n y 0 l0 [] w t (zmc y) with
      | some o => K o.1 o.2.1 o.2.2
      | none => none) k pc ls st w t c := rfl
theorem zrun_more (n : Nat) : ∀ (k pc : Nat) (ls st : List zV) (w : zW) (t c : Nat) (o : zR × zW × Nat), zrun n k pc ls st w t c = some o → zrun (n + 1) k pc ls st w t c = some o := by
  induction n with
  | zero => intro k pc ls st w t c o h; cases h
  | succ n ih =>
    intro k pc ls st w t c o h
    rw [zrun_succ] at h ⊢
    have key := zstep_rel (fun (a b : Option (zR × zW × Nat)) => ∀ o, a = some o → b = some o) (fail := none) (fail' := none) (fun o h => by cases h)
      (F := zrun n k) (F' := zrun (n + 1) k) (fun pc ls st w t c o h => ih k pc ls st w t c o h)
      (ret := fun r w t => some (r, w, t)) (ret' := fun r w t => some (r, w, t)) (fun r w t o h => h)
      (call := fun y l0 w t K => match zrun n y 0 l0 [] w t (zmc y) with | some o => K o.1 o.2.1 o.2.2 | none => none)
      (call' := fun y l0 w t K => match zrun (n + 1) y 0 l0 [] w t (zmc y) with | some o => K o.1 o.2.1 o.2.2 | none => none)
      (fun y l0 w t K K' hK o h => by
        cases hz : zrun n y 0 l0 [] w t (zmc y) with
        | none => rw [hz] at h; cases h
        | some q =>
          rw [hz] at h
          rw [ih _ _ _ _ _ _ _ _ hz]
          exact hK _ _ _ o h) k pc ls st w t c
    exact key o h
theorem zrun_le {n m : Nat} (hm : n ≤ m) {k pc : Nat} {ls st : List zV} {w : zW} {t c : Nat} {o : zR × zW × Nat} (h : zrun n k pc ls st w t c = some o) : zrun m k pc ls st w t c = some o := by
  induction hm with
  | refl => exact h
  | step _ ih => exact zrun_more _ _ _ _ _ _ _ _ _ ih
/-- the row for one step -/
theorem zwp_step {k pc : Nat} {ls st : List zV} {w : zW} {t c : Nat} {Q : zR → zW → Nat → Prop}
    (h : zstep False Q (fun pc ls st w t c => zwp k pc ls st w t c Q) (fun y l0 w t K => zcall y l0 w t K) k pc ls st w t c) : zwp k pc ls st w t c Q := by
  have key := zstep_rel (fun (a : Prop) (f : Nat → Option (zR × zW × Nat)) => a → ∃ (n : Nat) (r : zR) (w' : zW) (t' : Nat), (∀ m, n ≤ m → f m = some (r, w', t')) ∧ Q r w' t')
    (fail := False) (fail' := fun _ => none) (fun h => h.elim)
    (F := fun pc ls st w t c => zwp k pc ls st w t c Q) (F' := fun pc ls st w t c n => zrun n k pc ls st w t c)
    (fun pc ls st w t c h => by
      obtain ⟨n, r, w', t', h1, h2⟩ := h
      exact ⟨n, r, w', t', fun m hm => zrun_le hm h1, h2⟩)
    (ret := Q) (ret' := fun r w t _ => some (r, w, t)) (fun r w t h => ⟨0, r, w, t, fun _ _ => rfl, h⟩)
    (call := fun y l0 w t K => zcall y l0 w t K)
    (call' := fun y l0 w t K n => match zrun n y 0 l0 [] w t (zmc y) with | some o => K o.1 o.2.1 o.2.2 n | none => none)
    (fun y l0 w t K K' hK h => by
      obtain ⟨n, r, w', t', h1, h2⟩ := h
      obtain ⟨n2, r2, w2, t2, h3, h4⟩ := hK r w' t' h2
      refine ⟨max n n2, r2, w2, t2, fun m hm => ?_, h4⟩
      rw [zrun_le (Nat.le_trans (Nat.le_max_left _ _) hm) h1]
      exact h3 m (Nat.le_trans (Nat.le_max_right _ _) hm)) k pc ls st w t c h
  obtain ⟨n, r, w', t', h1, h2⟩ := key
  refine ⟨n + 1, r, w', t', ?_, h2⟩
  rw [zrun_succ, ← h1 n (Nat.le_refl n)]
  exact (zstep_rel (fun (f : Nat → Option (zR × zW × Nat)) (a : Option (zR × zW × Nat)) => a = f n) (fail := fun _ => none) (fail' := none) rfl
    (F := fun pc ls st w t c n => zrun n k pc ls st w t c) (F' := zrun n k) (fun _ _ _ _ _ _ => rfl)
    (ret := fun r w t _ => some (r, w, t)) (ret' := fun r w t => some (r, w, t)) (fun _ _ _ => rfl)
    (call := fun y l0 w t K n => match zrun n y 0 l0 [] w t (zmc y) with | some o => K o.1 o.2.1 o.2.2 n | none => none)
    (call' := fun y l0 w t K => match zrun n y 0 l0 [] w t (zmc y) with | some o => K o.1 o.2.1 o.2.2 | none => none)
    (fun y l0 w t K K' hK => by
      cases zrun n y 0 l0 [] w t (zmc y) with
      | none => rfl
      | some q => exact hK _ _ _) k pc ls st w t c)
theorem zwp_imp {k pc : Nat} {ls st : List zV} {w : zW} {t c : Nat} {Q Q' : zR → zW → Nat → Prop} (h : zwp k pc ls st w t c Q) (hQ : ∀ r w t, Q r w t → Q' r w t) : zwp k pc ls st w t c Q' := by
  obtain ⟨n, r, w', t', h1, h2⟩ := h
  exact ⟨n, r, w', t', h1, hQ _ _ _ h2⟩
theorem zcall_imp {y : Nat} {l0 : List zV} {w : zW} {t : Nat} {Q Q' : zR → zW → Nat → Prop} (h : zcall y l0 w t Q) (hQ : ∀ r w t, Q r w t → Q' r w t) : zcall y l0 w t Q' := zwp_imp h hQ
