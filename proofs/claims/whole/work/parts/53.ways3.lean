/-! ===== ways: the public methods (written by wip/whole/gen_c.py) ===== -/
noncomputable def zYg (w : zW) (q : Nat) (c : Int) : Int := if zFi (fun i => zYe w q 0 c i.toNat ≠ -1) c.toNat 0 = -1 then 1 else 0
theorem zYe_fr {w v : zW} {q : Nat} (e1 : v 95 = w 95) (e2 : v 100 = w 100) (e3 : v q = w q) (b f : Int) : zYe v q b f = zYe w q b f := by
  have a : zYA v = zYA w := by
    funext c x; unfold zYA zF0 zfw; rw [e1, e2]
  have l : zYL v q b = zYL w q b := by
    funext c x; unfold zYL; rw [e3]
  unfold zYe zYd
  rw [a, l, e1]
theorem zYg_fr {w v : zW} {q : Nat} (e1 : v 95 = w 95) (e2 : v 100 = w 100) (e3 : v q = w q) (c : Int) : zYg v q c = zYg w q c := by
  unfold zYg; rw [zYe_fr e1 e2 e3]
theorem zYg_01 (w : zW) (q : Nat) (c : Int) : zYg w q c = 0 ∨ zYg w q c = 1 := by
  unfold zYg; split
  · exact Or.inr rfl
  · exact Or.inl rfl
set_option maxRecDepth 100000 in
theorem zk191_L8 {w : zW} {K : zK} (c : Int) (hc : c ≤ 12)  : ∀ (m : Nat) (i : Int), (0 ≤ i) → (i + m = c) → (K (0, some (0, if zFi (fun i => w 92 i.toNat ≠ -1) m i = -1 then 1 else 0)) w 238) → zwp 191 8 [(2, 0), (0, c), (0, i)] [] w 238 0 K := by
  
  intro m
  induction m with
  | zero =>
    intro i  h1 h2 h
    refine (show (if i < c then zif False (0 ≤ i ∧ i < 12) (if w 92 i.toNat = (-1) then zwp 191 8 [(2, 0), (0, c), (0, z32 (i + 1))] [] w 238 0 K else K (0, some (0, 0)) w 238) else K (0, some (0, 1)) w 238) → _ from fun h => show zwp 191 8 [(2, 0), (0, c), (0, i)] [] w 238 0 K from zgo_imp zT149_ok (cut := fun pc => Nat.beq pc 6 || Nat.beq pc 8 || Nat.beq pc 19 || Nat.beq pc 36) 400 (show if i < c then zif False (0 ≤ i ∧ i < 12) (zwp 191 19 [(2, 0), (0, c), (0, i)] [(1, w 92 i.toNat)] w 238 0 K) else K (0, some (0, 1)) w 238 from zmI (fun h => zmZ (fun h => (fun h => show zwp 191 19 [(2, 0), (0, c), (0, i)] [(1, w 92 i.toNat)] w 238 0 K from zgo_imp zT149_ok (cut := fun pc => Nat.beq pc 6 || Nat.beq pc 8 || Nat.beq pc 19 || Nat.beq pc 36) 400 (show if w 92 i.toNat = (-1) then zwp 191 8 [(2, 0), (0, c), (0, z32 (i + 1))] [] w 238 0 K else K (0, some (0, 0)) w 238 from h)) h) h) (fun h => h) h)) ?_
    exact ziF (by omega) h
  | succ m ih =>
    intro i  h1 h2 h
    refine (show (if i < c then zif False (0 ≤ i ∧ i < 12) (if w 92 i.toNat = (-1) then zwp 191 8 [(2, 0), (0, c), (0, z32 (i + 1))] [] w 238 0 K else K (0, some (0, 0)) w 238) else K (0, some (0, 1)) w 238) → _ from fun h => show zwp 191 8 [(2, 0), (0, c), (0, i)] [] w 238 0 K from zgo_imp zT149_ok (cut := fun pc => Nat.beq pc 6 || Nat.beq pc 8 || Nat.beq pc 19 || Nat.beq pc 36) 400 (show if i < c then zif False (0 ≤ i ∧ i < 12) (zwp 191 19 [(2, 0), (0, c), (0, i)] [(1, w 92 i.toNat)] w 238 0 K) else K (0, some (0, 1)) w 238 from zmI (fun h => zmZ (fun h => (fun h => show zwp 191 19 [(2, 0), (0, c), (0, i)] [(1, w 92 i.toNat)] w 238 0 K from zgo_imp zT149_ok (cut := fun pc => Nat.beq pc 6 || Nat.beq pc 8 || Nat.beq pc 19 || Nat.beq pc 36) 400 (show if w 92 i.toNat = (-1) then zwp 191 8 [(2, 0), (0, c), (0, z32 (i + 1))] [] w 238 0 K else K (0, some (0, 0)) w 238 from h)) h) h) (fun h => h) h)) ?_
    rw [z32_id (x := i + 1) ⟨by omega, by omega⟩]
    have e : zFi (fun i => w 92 i.toNat ≠ -1) (m + 1) i = if w 92 i.toNat ≠ -1 then i else zFi (fun i => w 92 i.toNat ≠ -1) m (i + 1) := rfl
    refine ziT (by omega) (zifI (by omega) ?_)
    by_cases g : w 92 i.toNat = -1
    · rw [e.trans (if_neg fun q => q g)] at h
      exact ziT g (ih _ (by omega) (by omega) h)
    · rw [e.trans (if_pos g), if_neg (by omega)] at h
      exact ziF g h
/-! .isLowestOfPart -/
set_option maxRecDepth 100000 in
theorem zk191_0 (c : Int) (w : zW) (K : zK) (h : (zNt w ∧ zRd 30 w ∧ 0 ≤ c ∧ c < w 95 0) ∧ ((∀ v : zW, (∀ p : Nat, p ≠ 92 → v p = w p) → (K (0, some (0, zYg w 30 c)) (v) 238)))) : zcall 191 [(2, 0), (0, c), (9, 0)] w 238 K := by
  obtain ⟨hg, h⟩ := h
  refine (show ((zNt w ∧ zRd 30 w) ∧ (∀ v1 : zW, ((∀ p : Nat, p ≠ 92 → v1 p = w p) ∧ ∀ k : Nat, k < 12 → v1 92 k = zYe w 30 (0 : Int) c k) → (zwp 191 8 [(2, 0), (0, c), (0, 0)] [] v1 238 0 K))) → _ from fun h => show zwp 191 0 [(2, 0), (0, c), (9, 0)] [] w 238 0 K from zgo_imp zT149_ok (cut := fun pc => Nat.beq pc 6 || Nat.beq pc 8 || Nat.beq pc 19 || Nat.beq pc 36) 400 (show (zNt w ∧ zRd 30 w) ∧ (∀ v1 : zW, ((∀ p : Nat, p ≠ 92 → v1 p = w p) ∧ ∀ k : Nat, k < 12 → v1 92 k = zYe w 30 (0 : Int) c k) → (zwp 191 6 [(2, 0), (0, c), (9, 0)] [] v1 238 0 K)) from zmA (fun h => fun v1 hq => (fun h => (fun h => show zwp 191 6 [(2, 0), (0, c), (9, 0)] [] v1 238 0 K from zgo_imp zT149_ok (cut := fun pc => Nat.beq pc 6 || Nat.beq pc 8 || Nat.beq pc 19 || Nat.beq pc 36) 400 (show zwp 191 8 [(2, 0), (0, c), (0, 0)] [] v1 238 0 K from h)) h) (h v1 hq)) h)) ?_
  obtain ⟨hN, hr, hc⟩ := hg
  have hn := hN.n
  refine ⟨⟨hN, hr⟩, fun v hv => zk191_L8 (w := v) c (by omega) c.toNat 0 (by omega) (by omega) ?_⟩
  have h2 := h v hv.1
  unfold zYg at h2
  rw [zFi_congr (p := fun i => v 92 i.toNat ≠ -1) (q := fun i => zYe w 30 0 c i.toNat ≠ -1) c.toNat 0 fun j a b => by
    show v 92 j.toNat ≠ -1 ↔ zYe w 30 0 c j.toNat ≠ -1
    rw [hv.2 j.toNat (by omega)]]
  exact h2
noncomputable def zb191 (l0 : List zV) (w : zW) (K : zK) : Prop := cond (zis0 (zar l0 0)) (zA l0 1 fun c => (zNt w ∧ zRd 30 w ∧ 0 ≤ c ∧ c < w 95 0) ∧ ((∀ v : zW, (∀ p : Nat, p ≠ 92 → v p = w p) → (K (0, some (0, zYg w 30 c)) (v) 238)))) (False)
noncomputable def zT150 : zSum := zsm1 191 [2, 0, 9] zb191 zT149
theorem zT150_ok : zSok zT150 := zsm1_ok zT149_ok fun l0 w K h => by
  unfold zb191 at h
  cases q0 : zis0 (zar l0 0) with
  | true =>
    rw [q0, cond_true] at h
    have e : zar l0 0 = 0 := zis0_e q0
    show zcall 191 [(2, zar l0 0), (0, zar l0 1), (9, 0)] w 238 K
    rw [e]
    exact zk191_0 (zar l0 1) w K (zA_e h)
  | false =>
  rw [q0, cond_false] at h
  exact h.elim
set_option maxRecDepth 100000 in
theorem zk137_L4 {K : zK}   : ∀ (m : Nat) (c s : Int) (w : zW), (zNt w) → (zRd 30 w) → (0 ≤ c) → (c + m = w 95 0) → (0 ≤ s ∧ s ≤ c) → (∀ v : zW, (∀ p : Nat, p ≠ 92 → v p = w p) → K (0, some (0, s + zSm (fun c => zYg w 30 c) m c)) v 238) → zwp 137 4 [(2, 0), (0, s), (0, c)] [] w 238 0 K := by
  
  intro m
  induction m with
  | zero =>
    intro c s w  hN hr h1 h2 h3 h
    refine (show (if c < w 4 0 then (zNt w ∧ zRd 30 w ∧ 0 ≤ c ∧ c < w 95 0) ∧ (∀ v2 : zW, (∀ p : Nat, p ≠ 92 → v2 p = w p) → (if zYg w 30 c = 0 then zwp 137 4 [(2, 0), (0, s), (0, z32 (c + 1))] [] v2 238 0 K else zwp 137 4 [(2, 0), (0, z32 (s + 1)), (0, z32 (c + 1))] [] v2 238 0 K)) else K (0, some (0, s)) w 238) → _ from fun h => show zwp 137 4 [(2, 0), (0, s), (0, c)] [] w 238 0 K from zgo_imp zT150_ok (cut := fun pc => Nat.beq pc 4 || Nat.beq pc 15 || Nat.beq pc 20) 400 (show if c < w 4 0 then zwp 137 15 [(2, 0), (0, s), (0, c)] [] w 238 0 K else K (0, some (0, s)) w 238 from zmI (fun h => (fun h => show zwp 137 15 [(2, 0), (0, s), (0, c)] [] w 238 0 K from zgo_imp zT150_ok (cut := fun pc => Nat.beq pc 4 || Nat.beq pc 15 || Nat.beq pc 20) 400 (show (zNt w ∧ zRd 30 w ∧ 0 ≤ c ∧ c < w 95 0) ∧ (∀ v2 : zW, (∀ p : Nat, p ≠ 92 → v2 p = w p) → (zwp 137 20 [(2, 0), (0, s), (0, c)] [(0, zYg w 30 c)] v2 238 0 K)) from zmA (fun h => fun v2 hq => (fun h => (fun h => show zwp 137 20 [(2, 0), (0, s), (0, c)] [(0, zYg w 30 c)] v2 238 0 K from zgo_imp zT150_ok (cut := fun pc => Nat.beq pc 4 || Nat.beq pc 15 || Nat.beq pc 20) 400 (show if zYg w 30 c = 0 then zwp 137 4 [(2, 0), (0, s), (0, z32 (c + 1))] [] v2 238 0 K else zwp 137 4 [(2, 0), (0, z32 (s + 1)), (0, z32 (c + 1))] [] v2 238 0 K from h)) h) (h v2 hq)) h)) h) (fun h => h) h)) ?_
    have hn := hN.n
    have := h w fun p hp => rfl
    rw [show s + zSm (fun c => zYg w 30 c) 0 c = s from Int.add_zero s] at this
    exact ziF (by omega) this
  | succ m ih =>
    intro c s w  hN hr h1 h2 h3 h
    refine (show (if c < w 4 0 then (zNt w ∧ zRd 30 w ∧ 0 ≤ c ∧ c < w 95 0) ∧ (∀ v2 : zW, (∀ p : Nat, p ≠ 92 → v2 p = w p) → (if zYg w 30 c = 0 then zwp 137 4 [(2, 0), (0, s), (0, z32 (c + 1))] [] v2 238 0 K else zwp 137 4 [(2, 0), (0, z32 (s + 1)), (0, z32 (c + 1))] [] v2 238 0 K)) else K (0, some (0, s)) w 238) → _ from fun h => show zwp 137 4 [(2, 0), (0, s), (0, c)] [] w 238 0 K from zgo_imp zT150_ok (cut := fun pc => Nat.beq pc 4 || Nat.beq pc 15 || Nat.beq pc 20) 400 (show if c < w 4 0 then zwp 137 15 [(2, 0), (0, s), (0, c)] [] w 238 0 K else K (0, some (0, s)) w 238 from zmI (fun h => (fun h => show zwp 137 15 [(2, 0), (0, s), (0, c)] [] w 238 0 K from zgo_imp zT150_ok (cut := fun pc => Nat.beq pc 4 || Nat.beq pc 15 || Nat.beq pc 20) 400 (show (zNt w ∧ zRd 30 w ∧ 0 ≤ c ∧ c < w 95 0) ∧ (∀ v2 : zW, (∀ p : Nat, p ≠ 92 → v2 p = w p) → (zwp 137 20 [(2, 0), (0, s), (0, c)] [(0, zYg w 30 c)] v2 238 0 K)) from zmA (fun h => fun v2 hq => (fun h => (fun h => show zwp 137 20 [(2, 0), (0, s), (0, c)] [(0, zYg w 30 c)] v2 238 0 K from zgo_imp zT150_ok (cut := fun pc => Nat.beq pc 4 || Nat.beq pc 15 || Nat.beq pc 20) 400 (show if zYg w 30 c = 0 then zwp 137 4 [(2, 0), (0, s), (0, z32 (c + 1))] [] v2 238 0 K else zwp 137 4 [(2, 0), (0, z32 (s + 1)), (0, z32 (c + 1))] [] v2 238 0 K from h)) h) (h v2 hq)) h)) h) (fun h => h) h)) ?_
    have hn := hN.n
    rw [z32_id (x := c + 1) ⟨by omega, by omega⟩, z32_id (x := s + 1) ⟨by omega, by omega⟩]
    refine ziT (by omega) ⟨⟨hN, hr, h1, by omega⟩, fun v1 f1 => ?_⟩
    have N1 : zNt v1 := zNt_fr (fun p hp => f1 p (by omega)) hN
    have R1 : zRd 30 v1 := zRd_fr (f1 95 (by decide)) (f1 30 (by decide)) hr
    have eg : (fun c => zYg v1 30 c) = fun c => zYg w 30 c := funext fun c => zYg_fr (f1 95 (by decide)) (f1 100 (by decide)) (f1 30 (by decide)) c
    have e : zSm (fun c => zYg w 30 c) (m + 1) c = zYg w 30 c + zSm (fun c => zYg w 30 c) m (c + 1) := rfl
    rw [e] at h
    have e95 := f1 95 (by decide)
    rcases zYg_01 w 30 c with g | g
    · refine ziT g (ih (c + 1) s v1 N1 R1 (by omega) (by rw [e95]; omega) (by omega) fun v hv => ?_)
      have := h v fun p hp => (hv p hp).trans (f1 p hp)
      rw [eg]
      rw [g, Int.zero_add] at this
      exact this
    · refine ziF (by omega) (ih (c + 1) (s + 1) v1 N1 R1 (by omega) (by rw [e95]; omega) (by omega) fun v hv => ?_)
      have := h v fun p hp => (hv p hp).trans (f1 p hp)
      rw [eg, Int.add_assoc]
      rw [g] at this
      exact this
/-! .parts -/
set_option maxRecDepth 100000 in
theorem zk137_0 (w : zW) (K : zK) (h : (zNt w ∧ zRd 30 w) ∧ ((∀ v : zW, (∀ p : Nat, p ≠ 92 → v p = w p) → (K (0, some (0, zSm (fun c => zYg w 30 c) (w 95 0).toNat 0)) (v) 238)))) : zcall 137 [(2, 0), (9, 0), (9, 0)] w 238 K := by
  obtain ⟨hg, h⟩ := h
  refine (show (zwp 137 4 [(2, 0), (0, 0), (0, 0)] [] w 238 0 K) → _ from fun h => show zwp 137 0 [(2, 0), (9, 0), (9, 0)] [] w 238 0 K from zgo_imp zT150_ok (cut := fun pc => Nat.beq pc 4 || Nat.beq pc 15 || Nat.beq pc 20) 400 (show zwp 137 4 [(2, 0), (0, 0), (0, 0)] [] w 238 0 K from h)) ?_
  have hn := hg.1.n
  exact zk137_L4 (w 95 0).toNat 0 0 w hg.1 hg.2 (by omega) (by omega) (by omega) fun v hv => by
    rw [Int.zero_add]; exact h v hv
noncomputable def zb137 (l0 : List zV) (w : zW) (K : zK) : Prop := cond (zis0 (zar l0 0)) ((zNt w ∧ zRd 30 w) ∧ ((∀ v : zW, (∀ p : Nat, p ≠ 92 → v p = w p) → (K (0, some (0, zSm (fun c => zYg w 30 c) (w 95 0).toNat 0)) (v) 238)))) (False)
noncomputable def zT151 : zSum := zsm1 137 [2, 9, 9] zb137 zT150
theorem zT151_ok : zSok zT151 := zsm1_ok zT150_ok fun l0 w K h => by
  unfold zb137 at h
  cases q0 : zis0 (zar l0 0) with
  | true =>
    rw [q0, cond_true] at h
    have e : zar l0 0 = 0 := zis0_e q0
    show zcall 137 [(2, zar l0 0), (9, 0), (9, 0)] w 238 K
    rw [e]
    exact zk137_0  w K h
  | false =>
  rw [q0, cond_false] at h
  exact h.elim
theorem zYL_A {w : zW} {q : Nat} (hN : zNt w) (hr : zRd q w) (b c : Int) (v : Nat) (hv : zYA w c v) (c0 : 0 ≤ c) (c1 : c < 12) : 0 ≤ zYL w q b c v ∧ zYL w q b c v ≤ 2000000 := by
  have hn := hN.n
  by_cases hc : c < w 95 0
  · have := zYL_rg hr b ⟨c0, hc⟩ hv.1 hv.2.1
    omega
  · exfalso
    obtain ⟨v0, v1, g⟩ := hv
    refine g ?_
    rcases hN.tab.2.2 c v c0 c1 v0 (by omega) with q | q
    · rcases hN.tab.2.2 v c v0 (by omega) c0 c1 with q2 | q2
      · exact ⟨q, q2⟩
      · omega
    · omega
theorem zYB_r {A : Int → Int → Prop} {L : Int → Int → Int} (hL : ∀ c : Int, ∀ v : Nat, A c v → 0 ≤ c → c < 12 → 0 ≤ L c v ∧ L c v ≤ 2000000) {n : Int} (hn : n ≤ 12) : ∀ (r : Nat) (B : Int) (D : Nat → Int), 0 ≤ B → zYB B D → zYB (B + 24000000 * r) (zYr A L n r D) := by
  intro r
  induction r with
  | zero => intro B D _ h; exact h.mono (by omega)
  | succ r ih =>
    intro B D b0 h
    have := ih (B + 24000000) _ (by omega) ((zYB_f hL n.toNat 0 B D (by omega) (by omega) h).mono (by omega))
    exact this.mono (by omega)
theorem zYe_rg {w : zW} {q : Nat} (hN : zNt w) (hr : zRd q w) (b f : Int) {k : Nat} (hk : k < 12) : -1 ≤ zYe w q b f k ∧ zYe w q b f k ≤ 288000000 := by
  have := zYB_r (A := zYA w) (L := zYL w q b) (fun c v hv c0 c1 => zYL_A hN hr b c v hv c0 c1) hN.n.2.2.1 12 0 (zYi f 12 fun _ => 0) (by omega) (fun j hj => by unfold zYi; rw [if_pos (by omega)]; split <;> omega) k hk
  exact ⟨this.1, by have := this.2; show zYr (zYA w) (zYL w q b) (w 95 0) 12 (zYi f 12 fun _ => 0) k ≤ _; omega⟩
/-! .steps -/
set_option maxRecDepth 100000 in
theorem zk136_0 (a b : Int) (w : zW) (K : zK) (h : (zNt w ∧ zRd 30 w) ∧ (if (0 ≤ a ∧ a < w 95 0) ∧ 0 ≤ b ∧ b < w 95 0 then (∀ v : zW, (∀ p : Nat, p ≠ 92 → v p = w p) → (K (0, some (0, zYe w 30 0 a b.toNat)) (v) 238)) else K (3, none) (w) 238)) : zcall 136 [(2, 0), (0, a), (0, b)] w 238 K := by
  obtain ⟨hg, h⟩ := h
  refine (show (if a < 0 then K (3, none) w 238 else if a < w 4 0 then if b < 0 then K (3, none) w 238 else if b < w 4 0 then (zNt w ∧ zRd 30 w) ∧ (∀ v3 : zW, ((∀ p : Nat, p ≠ 92 → v3 p = w p) ∧ ∀ k : Nat, k < 12 → v3 92 k = zYe w 30 (0 : Int) a k) → (zif False (0 ≤ b ∧ b < 12) (K (0, some (0, z32 (v3 92 b.toNat))) v3 238))) else K (3, none) w 238 else K (3, none) w 238) → _ from fun h => show zwp 136 0 [(2, 0), (0, a), (0, b)] [] w 238 2 K from zgo_imp zT151_ok (cut := fun pc => Nat.beq pc 5 || Nat.beq pc 10 || Nat.beq pc 16) 400 (show if a < 0 then K (3, none) w 238 else if a < w 4 0 then zwp 136 5 [(2, 0), (0, a), (0, b)] [] w 238 1 K else K (3, none) w 238 from zmI (fun h => h) (fun h => zmI (fun h => (fun h => show zwp 136 5 [(2, 0), (0, a), (0, b)] [] w 238 1 K from zgo_imp zT151_ok (cut := fun pc => Nat.beq pc 5 || Nat.beq pc 10 || Nat.beq pc 16) 400 (show if b < 0 then K (3, none) w 238 else if b < w 4 0 then zwp 136 10 [(2, 0), (0, a), (0, b)] [] w 238 0 K else K (3, none) w 238 from zmI (fun h => h) (fun h => zmI (fun h => (fun h => show zwp 136 10 [(2, 0), (0, a), (0, b)] [] w 238 0 K from zgo_imp zT151_ok (cut := fun pc => Nat.beq pc 5 || Nat.beq pc 10 || Nat.beq pc 16) 400 (show (zNt w ∧ zRd 30 w) ∧ (∀ v3 : zW, ((∀ p : Nat, p ≠ 92 → v3 p = w p) ∧ ∀ k : Nat, k < 12 → v3 92 k = zYe w 30 (0 : Int) a k) → (zwp 136 16 [(2, 0), (0, a), (0, b)] [] v3 238 0 K)) from zmA (fun h => fun v3 hq => (fun h => (fun h => show zwp 136 16 [(2, 0), (0, a), (0, b)] [] v3 238 0 K from zgo_imp zT151_ok (cut := fun pc => Nat.beq pc 5 || Nat.beq pc 10 || Nat.beq pc 16) 400 (show zif False (0 ≤ b ∧ b < 12) (K (0, some (0, z32 (v3 92 b.toNat))) v3 238) from h)) h) (h v3 hq)) h)) h) (fun h => h) h) h)) h) (fun h => h) h) h)) ?_
  obtain ⟨hN, hr⟩ := hg
  have hn := hN.n
  by_cases ha : a < 0
  · rw [if_neg (by omega)] at h
    exact ziT ha h
  · refine ziF ha ?_
    by_cases ha1 : a < w 4 0
    · refine ziT ha1 ?_
      by_cases hb : b < 0
      · rw [if_neg (by omega)] at h
        exact ziT hb h
      · refine ziF hb ?_
        by_cases hb1 : b < w 4 0
        · rw [if_pos (by omega)] at h
          refine ziT hb1 ⟨⟨hN, hr⟩, fun v hv => zifI (by omega) ?_⟩
          rw [hv.2 b.toNat (by omega), z32_id (by have := zYe_rg hN hr 0 a (k := b.toNat) (by omega); exact ⟨by omega, by omega⟩)]
          exact h v hv.1
        · rw [if_neg (by omega)] at h
          exact ziF hb1 h
    · rw [if_neg (by omega)] at h
      exact ziF ha1 h
noncomputable def zb136 (l0 : List zV) (w : zW) (K : zK) : Prop := cond (zis0 (zar l0 0)) (zA l0 1 fun a => zA l0 2 fun b => (zNt w ∧ zRd 30 w) ∧ (if (0 ≤ a ∧ a < w 95 0) ∧ 0 ≤ b ∧ b < w 95 0 then (∀ v : zW, (∀ p : Nat, p ≠ 92 → v p = w p) → (K (0, some (0, zYe w 30 0 a b.toNat)) (v) 238)) else K (3, none) (w) 238)) (False)
noncomputable def zT152 : zSum := zsm1 136 [2, 0, 0] zb136 zT151
theorem zT152_ok : zSok zT152 := zsm1_ok zT151_ok fun l0 w K h => by
  unfold zb136 at h
  cases q0 : zis0 (zar l0 0) with
  | true =>
    rw [q0, cond_true] at h
    have e : zar l0 0 = 0 := zis0_e q0
    show zcall 136 [(2, zar l0 0), (0, zar l0 1), (0, zar l0 2)] w 238 K
    rw [e]
    exact zk136_0 (zar l0 1) (zar l0 2) w K (zA_e (zA_e h))
  | false =>
  rw [q0, cond_false] at h
  exact h.elim
/-! .distance -/
set_option maxRecDepth 100000 in
theorem zk140_0 (a b : Int) (w : zW) (K : zK) (h : (zNt w ∧ zRd 30 w) ∧ (if (0 ≤ a ∧ a < w 95 0) ∧ 0 ≤ b ∧ b < w 95 0 then (∀ v : zW, (∀ p : Nat, p ≠ 92 → v p = w p) → (K (0, some (1, zYe w 30 1 a b.toNat)) (v) 238)) else K (3, none) (w) 238)) : zcall 140 [(2, 0), (0, a), (0, b)] w 238 K := by
  obtain ⟨hg, h⟩ := h
  refine (show (if a < 0 then K (3, none) w 238 else if a < w 4 0 then if b < 0 then K (3, none) w 238 else if b < w 4 0 then (zNt w ∧ zRd 30 w) ∧ (∀ v4 : zW, ((∀ p : Nat, p ≠ 92 → v4 p = w p) ∧ ∀ k : Nat, k < 12 → v4 92 k = zYe w 30 (1 : Int) a k) → (zif False (0 ≤ b ∧ b < 12) (K (0, some (1, v4 92 b.toNat)) v4 238))) else K (3, none) w 238 else K (3, none) w 238) → _ from fun h => show zwp 140 0 [(2, 0), (0, a), (0, b)] [] w 238 2 K from zgo_imp zT152_ok (cut := fun pc => Nat.beq pc 5 || Nat.beq pc 10 || Nat.beq pc 16) 400 (show if a < 0 then K (3, none) w 238 else if a < w 4 0 then zwp 140 5 [(2, 0), (0, a), (0, b)] [] w 238 1 K else K (3, none) w 238 from zmI (fun h => h) (fun h => zmI (fun h => (fun h => show zwp 140 5 [(2, 0), (0, a), (0, b)] [] w 238 1 K from zgo_imp zT152_ok (cut := fun pc => Nat.beq pc 5 || Nat.beq pc 10 || Nat.beq pc 16) 400 (show if b < 0 then K (3, none) w 238 else if b < w 4 0 then zwp 140 10 [(2, 0), (0, a), (0, b)] [] w 238 0 K else K (3, none) w 238 from zmI (fun h => h) (fun h => zmI (fun h => (fun h => show zwp 140 10 [(2, 0), (0, a), (0, b)] [] w 238 0 K from zgo_imp zT152_ok (cut := fun pc => Nat.beq pc 5 || Nat.beq pc 10 || Nat.beq pc 16) 400 (show (zNt w ∧ zRd 30 w) ∧ (∀ v4 : zW, ((∀ p : Nat, p ≠ 92 → v4 p = w p) ∧ ∀ k : Nat, k < 12 → v4 92 k = zYe w 30 (1 : Int) a k) → (zwp 140 16 [(2, 0), (0, a), (0, b)] [] v4 238 0 K)) from zmA (fun h => fun v4 hq => (fun h => (fun h => show zwp 140 16 [(2, 0), (0, a), (0, b)] [] v4 238 0 K from zgo_imp zT152_ok (cut := fun pc => Nat.beq pc 5 || Nat.beq pc 10 || Nat.beq pc 16) 400 (show zif False (0 ≤ b ∧ b < 12) (K (0, some (1, v4 92 b.toNat)) v4 238) from h)) h) (h v4 hq)) h)) h) (fun h => h) h) h)) h) (fun h => h) h) h)) ?_
  obtain ⟨hN, hr⟩ := hg
  have hn := hN.n
  by_cases ha : a < 0
  · rw [if_neg (by omega)] at h
    exact ziT ha h
  · refine ziF ha ?_
    by_cases ha1 : a < w 4 0
    · refine ziT ha1 ?_
      by_cases hb : b < 0
      · rw [if_neg (by omega)] at h
        exact ziT hb h
      · refine ziF hb ?_
        by_cases hb1 : b < w 4 0
        · rw [if_pos (by omega)] at h
          refine ziT hb1 ⟨⟨hN, hr⟩, fun v hv => zifI (by omega) ?_⟩
          rw [hv.2 b.toNat (by omega)]
          exact h v hv.1
        · rw [if_neg (by omega)] at h
          exact ziF hb1 h
    · rw [if_neg (by omega)] at h
      exact ziF ha1 h
noncomputable def zb140 (l0 : List zV) (w : zW) (K : zK) : Prop := cond (zis0 (zar l0 0)) (zA l0 1 fun a => zA l0 2 fun b => (zNt w ∧ zRd 30 w) ∧ (if (0 ≤ a ∧ a < w 95 0) ∧ 0 ≤ b ∧ b < w 95 0 then (∀ v : zW, (∀ p : Nat, p ≠ 92 → v p = w p) → (K (0, some (1, zYe w 30 1 a b.toNat)) (v) 238)) else K (3, none) (w) 238)) (False)
noncomputable def zT153 : zSum := zsm1 140 [2, 0, 0] zb140 zT152
theorem zT153_ok : zSok zT153 := zsm1_ok zT152_ok fun l0 w K h => by
  unfold zb140 at h
  cases q0 : zis0 (zar l0 0) with
  | true =>
    rw [q0, cond_true] at h
    have e : zar l0 0 = 0 := zis0_e q0
    show zcall 140 [(2, zar l0 0), (0, zar l0 1), (0, zar l0 2)] w 238 K
    rw [e]
    exact zk140_0 (zar l0 1) (zar l0 2) w K (zA_e (zA_e h))
  | false =>
  rw [q0, cond_false] at h
  exact h.elim
