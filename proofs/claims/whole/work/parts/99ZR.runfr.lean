/-! ===== what reading and running a script leaves (written by wip/whole/gen_c.py) ===== -/
theorem zkL_ne {p : Nat} (h3 : p ≠ 3) (h : p ≠ 23 ∧ p ≠ 24 ∧ p ≠ 25 ∧ p ≠ 26) (h8 : p ≠ 28) : ∀ (m : Nat) (w : zW), (zkL m w).2 p = w p := by
  intro m
  induction m with
  | zero => intro w; rfl
  | succ m ih =>
    intro w
    have e : zkL (m + 1) w = if w 3 1 ≠ -1 ∨ 0 < w 23 8 then (if (zkP w).1 = 0 then (0, (zkP w).2) else zkL m (zkP w).2) else (1, w) := rfl
    rw [e]
    by_cases g : w 3 1 ≠ -1 ∨ 0 < w 23 8
    · rw [if_pos g]
      by_cases g1 : (zkP w).1 = 0
      · rw [if_pos g1]; exact zkP_ne h3 h h8
      · rw [if_neg g1, ih]; exact zkP_ne h3 h h8
    · rw [if_neg g]
theorem zsc0_ne {w : zW} {p : Nat} (h3 : p ≠ 3) (h : p ≠ 23) : zsc0 w p = w p := by
  unfold zsc0
  rw [zad_ne h3, zune h3, zune h3, zune h3, zune h, zune h, zune h]
theorem zSc_ne {w : zW} {p : Nat} (h3 : p ≠ 3) (h : p < 23 ∨ 28 < p) : (zkL 800 (zsc0 w)).2 p = w p := (zkL_ne h3 (by omega) (by omega) 800 _).trans (zsc0_ne h3 (by omega))
theorem zSc_27 {w : zW} : (zkL 800 (zsc0 w)).2 27 = w 27 := (zkL_ne (by decide) (by decide) (by decide) 800 _).trans (zsc0_ne (by decide) (by decide))
theorem zps_ok {w : zW} {x : Int} (h : (zps w x).1 ≠ 0) : (zps w x).2 = zad w := by
  by_cases k : w 3 1 = x
  · rw [zps_y k]
  · rw [zps_n k] at h; exact (h rfl).elim
def zOkk (w : zW) (r : Int × zW) : Prop := r.1 ≠ 0 → r.2 3 7 = w 3 7 ∧ r.2 3 8 = w 3 8
theorem zkR_ok (w : zW) : zOkk w (zkR w) := by
  unfold zkR
  repeat' split
  all_goals first
    | exact fun h => (h rfl).elim
    | exact fun _ => ⟨rfl, rfl⟩
    | (refine fun _ => ⟨?_, ?_⟩ <;> (first | (show (zpn _ _ _).2 3 7 = w 3 7; rw [zpn_ok (by assumption)]; rfl) | (show (zpn _ _ _).2 3 8 = w 3 8; rw [zpn_ok (by assumption)]; rfl)))
theorem zoR_ok (w : zW) : zOkk w (zoR w) := by
  unfold zoR
  by_cases g : (zpn (zoV w) 1 10).1 = 0
  · rw [if_pos g]; exact fun h => (h rfl).elim
  · rw [if_neg g]
    intro h
    rw [zps_ok h]
    constructor
    · show (zpn (zoV w) 1 10).2 3 7 = w 3 7
      rw [zpn_ok g]; rfl
    · show (zpn (zoV w) 1 10).2 3 8 = w 3 8
      rw [zpn_ok g]; rfl
theorem zcR_ok (w : zW) : zOkk w (zcR w) := by
  intro h
  unfold zcR at h ⊢
  rw [zps_ok h]
  exact ⟨rfl, rfl⟩
theorem zkB_ok (w : zW) : zOkk w (zkB w) := by
  unfold zkB
  by_cases g : (zkR (zkN w)).1 = 0
  · rw [if_pos g]; exact fun h => (h rfl).elim
  · rw [if_neg g]
    intro h
    rw [zps_ok h]
    exact zkR_ok (zkN w) g
theorem zkO_ok (w : zW) : zOkk w (zkO w) := by
  unfold zkO
  repeat' split
  all_goals first
    | exact fun h => (h rfl).elim
    | exact zoR_ok (zkN w)
    | exact zkB_ok w
theorem zkP_ok (w : zW) : zOkk w (zkP w) := by
  unfold zkP
  split
  · exact zcR_ok w
  · exact zkO_ok w
theorem zkL_ok : ∀ (m : Nat) (w : zW), zOkk w (zkL m w) := by
  intro m
  induction m with
  | zero => intro w _; exact ⟨rfl, rfl⟩
  | succ m ih =>
    intro w
    have e : zkL (m + 1) w = if w 3 1 ≠ -1 ∨ 0 < w 23 8 then (if (zkP w).1 = 0 then (0, (zkP w).2) else zkL m (zkP w).2) else (1, w) := rfl
    rw [e]
    by_cases g : w 3 1 ≠ -1 ∨ 0 < w 23 8
    · rw [if_pos g]
      by_cases g1 : (zkP w).1 = 0
      · rw [if_pos g1]; exact fun h => (h rfl).elim
      · rw [if_neg g1]
        intro h
        have a := ih _ h
        have b := zkP_ok w g1
        exact ⟨a.1.trans b.1, a.2.trans b.2⟩
    · rw [if_neg g]; exact fun _ => ⟨rfl, rfl⟩
/-- the model's numbers that reading a script leaves -/
abbrev zj3 (j : Nat) : Prop := j = 2 ∨ (13 ≤ j ∧ j ≠ 39 ∧ j ≠ 40 ∧ j ≠ 41)
theorem zmgo_k3 {w : zW} {j : Nat} (h : zj3 j) : zmgo w 93 j = w 93 j := by
  unfold zmgo zmgt zmgf
  rw [zuat, if_neg (by omega), zuat, if_neg (by omega), zuat, if_neg (by omega), zuat, if_neg (by omega), zuat, if_neg (by omega)]
theorem zwr_k3 {w : zW} {k : Int} {j : Nat} (h : zj3 j) : zwr w k 93 j = w 93 j := by
  unfold zwr
  rw [zuat, if_neg (by omega), zuat, if_neg (by omega)]
theorem zmnu_k3 {w : zW} {lo hi : Int} {j : Nat} (h : zj3 j) : zmnu w lo hi 93 j = w 93 j := by
  rw [zmnu_e]
  repeat' split
  all_goals first | rfl | exact zwr_k3 h | exact zmgo_k3 h
theorem zms_k3 {w : zW} {x : Int} {j : Nat} (h : zj3 j) : zms w x 93 j = w 93 j := by
  rw [zms_e]
  repeat' split
  all_goals first | rfl | exact zwr_k3 h | exact zmgo_k3 h
theorem zgg_k3 {w : zW} {j : Nat} (h : zj3 j) : zgg w 93 j = w 93 j := by
  rw [zgg_e]
  split
  · exact zmgo_k3 h
  · rfl
theorem zcq1_k3 {w : zW} {j : Nat} (h : zj3 j) : zcq1 w 93 j = w 93 j := by
  rw [zcq1_e]
  split
  · exact zwr_k3 h
  · rfl
theorem zcq4_k3 {w : zW} {c : Int} {j : Nat} (h : zj3 j) : zcq4 w c 93 j = w 93 j := by
  rw [zcq4_e]
  split
  · exact zwr_k3 h
  · rfl
theorem zcb_k3 {w : zW} {j : Nat} (h : zj3 j) : zcb w 93 j = w 93 j := by
  unfold zcb
  rw [zgg_k3 h, zcq4_k3 h, zcq1_k3 h]
theorem zmK_k3 {w : zW} {j : Nat} (h : zj3 j) : zmK w 93 j = w 93 j := by
  have h39 : j ≠ 39 := by omega
  have h40 : j ≠ 40 := by omega
  have h41 : j ≠ 41 := by omega
  unfold zmK zmkk zmO zmK1
  repeat' split
  all_goals (repeat (first | rw [zma_j h39] | rw [zms_k3 h] | rw [zmnu_k3 h] | rw [zcb_k3 h] | rw [zmgo_k3 h] | rw [zwr_k3 h] | rw [zuk h40] | rw [zuk h41]))
theorem zcS_k3 {w : zW} {j : Nat} (h : zj3 j) : zcS w 93 j = w 93 j := by
  unfold zcS
  rw [zms_k3 h, zmgo_k3 h, zma_j (by omega), zuat, if_neg (by omega)]
theorem zCl_k3 {j : Nat} (h : zj3 j) : ∀ (m : Nat) (w : zW), zCl m w 93 j = w 93 j := by
  intro m
  induction m with
  | zero => intro w; rfl
  | succ m ih =>
    intro w
    have e : zCl (m + 1) w = if 0 < w 93 41 ∧ zcT w then zCl m (zcS w) else w := rfl
    rw [e]
    split
    · rw [ih, zcS_k3 h]
    · rfl
theorem zmp_k3 {w : zW} {j : Nat} (h : zj3 j) : zmp w 93 j = w 93 j := by
  unfold zmp
  rw [zCl_k3 h]
  split
  · rw [zms_k3 h, zmK_k3 h]
  · exact zmK_k3 h
theorem zSL_k3 {j : Nat} (h : zj3 j) : ∀ (m : Nat) (w : zW), zSL m w 93 j = w 93 j := by
  intro m
  induction m with
  | zero => intro w; rfl
  | succ m ih =>
    intro w
    have e : zSL (m + 1) w = if w 93 8 = 0 ∧ w 93 6 ≠ 0 then zSL m (zmp w) else w := rfl
    rw [e]
    split
    · rw [ih, zmp_k3 h]
    · rfl
theorem zSL_ne {p : Nat} (h : p ≠ 93 ∧ p ≠ 109 ∧ p ≠ 110 ∧ p ≠ 111) : ∀ (m : Nat) (w : zW), zSL m w p = w p := by
  intro m
  induction m with
  | zero => intro w; rfl
  | succ m ih =>
    intro w
    have e : zSL (m + 1) w = if w 93 8 = 0 ∧ w 93 6 ≠ 0 then zSL m (zmp w) else w := rfl
    rw [e]
    split
    · rw [ih, zmp_ne h]
    · rfl
theorem zms0_ne {w : zW} {p : Nat} (h : p ≠ 93) : zms0 w p = w p := by
  unfold zms0
  rw [zune h, zune h, zune h, zmgo_ne h, zune h, zune h, zune h, zune h, zune h]
theorem zms0_k {w : zW} {j : Nat} (h : 13 ≤ j ∧ j ≠ 39 ∧ j ≠ 40 ∧ j ≠ 41) : zms0 w 93 j = w 93 j := by
  unfold zms0
  rw [zuk (by omega), zuk (by omega), zuk (by omega), zmgo_k3 (Or.inr h), zuk (by omega), zuk (by omega), zuk (by omega), zuk (by omega), zuk (by omega)]
theorem zSF_ne {w : zW} {p : Nat} (h : p ≠ 93) : zSF w p = w p := by
  unfold zSF
  split
  · exact zwr_ne h
  · rfl
theorem zSF_k3 {w : zW} {j : Nat} (h : zj3 j) : zSF w 93 j = w 93 j := by
  unfold zSF
  split
  · exact zwr_k3 h
  · rfl
/-- the model's reading, all in one -/
theorem zmSv_ne {w : zW} {p : Nat} (h : p ≠ 93 ∧ p ≠ 109 ∧ p ≠ 110 ∧ p ≠ 111) : zmSv w p = w p := by
  unfold zmSv
  rw [zSF_ne h.1, zSL_ne h, zms0_ne h.1]
theorem zmSv_k {w : zW} {j : Nat} (h : 13 ≤ j ∧ j ≠ 39 ∧ j ≠ 40 ∧ j ≠ 41) : zmSv w 93 j = w 93 j := by
  unfold zmSv
  rw [zSF_k3 (Or.inr h), zSL_k3 (Or.inr h), zms0_k h]
theorem zmSv_2 {w : zW} : zmSv w 93 2 = 0 := by
  unfold zmSv
  rw [zSF_k3 (Or.inl rfl), zSL_k3 (Or.inl rfl)]
  rfl
/-- the error's place while all is good -/
theorem zK9_ma (a : zW) (c x y : Int) : zK9 a (zma a c x y) := fun q => by
  rw [zma_j (by decide)] at q
  exact ⟨q, zma_j (by decide)⟩
theorem zK9_cb (a : zW) : zK9 a (zcb a) := by
  have q1 : zK9 a (zcq1 a) := by
    rw [zcq1_e]; split
    · exact zK9_wr (by decide)
    · exact zK9_r a
  have q4 : zK9 (zcq1 a) (zcq4 (zcq1 a) (zcq0 a)) := by
    rw [zcq4_e]; split
    · exact zK9_wr (by decide)
    · exact zK9_r _
  exact (q1.tr q4).tr (zK9_gg _)
theorem zK9_kk (a : zW) (c : Int) : zK9 a (zmkk a c) := by
  have o : ∀ b : zW, zK9 b (zmO b) := fun b => zK9_ms b 40
  unfold zmkk
  repeat' split
  · exact ((zK9_cb a).tr (zK9_nu _ _ _)).tr (zK9_ma _ _ _ _)
  · exact (zK9_cb a).tr (zK9_ma _ _ _ _)
  · exact zK9_ma _ _ _ _
  · exact ((zK9_nu a _ _).tr (zK9_ma _ _ _ _)).tr (o _)
  · exact (zK9_nu a _ _).tr (zK9_ma _ _ _ _)
  · exact (zK9_nu a _ _).tr (zK9_ma _ _ _ _)
theorem zK9_mK (a : zW) : zK9 a (zmK a) := by
  unfold zmK
  by_cases g : zmE a = 0
  · rw [if_pos g]
    have k : zK9 a (zmK1 a) := fun q => ⟨q, rfl⟩
    exact k.tr (zK9_kk _ _)
  · rw [if_neg g]; exact zK9_wr g
theorem zK9_cS (a : zW) : zK9 a (zcS a) := by
  have k : zK9 a (zupd a 93 41 (a 93 41 - 1)) := fun q => ⟨q, rfl⟩
  exact ((k.tr (zK9_ma _ 7 0 0)).tr (zK9_go _)).tr (zK9_ms _ 59)
theorem zK9_Cl : ∀ (m : Nat) (w : zW), zK9 w (zCl m w) := by
  intro m
  induction m with
  | zero => intro w; exact zK9_r w
  | succ m ih =>
    intro w
    have e : zCl (m + 1) w = if 0 < w 93 41 ∧ zcT w then zCl m (zcS w) else w := rfl
    rw [e]
    split
    · exact (zK9_cS w).tr (ih _)
    · exact zK9_r w
theorem zK9_mp (a : zW) : zK9 a (zmp a) := by
  unfold zmp
  split
  · exact ((zK9_mK a).tr (zK9_ms _ 59)).tr (zK9_Cl 2 _)
  · exact (zK9_mK a).tr (zK9_Cl 2 _)
theorem zK9_SL : ∀ (m : Nat) (w : zW), zK9 w (zSL m w) := by
  intro m
  induction m with
  | zero => intro w; exact zK9_r w
  | succ m ih =>
    intro w
    have e : zSL (m + 1) w = if w 93 8 = 0 ∧ w 93 6 ≠ 0 then zSL m (zmp w) else w := rfl
    rw [e]
    split
    · exact (zK9_mp w).tr (ih _)
    · exact zK9_r w
/-- what running leaves of the class -/
theorem zrq_ne {p : Nat} (h : p < 29 ∨ 35 ≤ p) (h7 : p ≠ 27) : ∀ (m : Nat) (i d : Int) (w : zW), (zrq m i d w).2 p = w p := by
  intro m
  induction m with
  | zero => intros; rfl
  | succ m ih =>
    intro i d w
    have e : zrq (m + 1) i d w = if i = -1 then (d, w) else if (zcC w (w 24 i.toNat) (w 25 i.toNat) (w 26 i.toNat)).1 = 0 then (d, (zcC w (w 24 i.toNat) (w 25 i.toNat) (w 26 i.toNat)).2) else zrq m (zcf 6000 (i + 1) (zcC w (w 24 i.toNat) (w 25 i.toNat) (w 26 i.toNat)).2).1 (d + 1) (zcf 6000 (i + 1) (zcC w (w 24 i.toNat) (w 25 i.toNat) (w 26 i.toNat)).2).2 := rfl
    rw [e]
    by_cases g : i = -1
    · rw [if_pos g]
    · rw [if_neg g]
      by_cases g1 : (zcC w (w 24 i.toNat) (w 25 i.toNat) (w 26 i.toNat)).1 = 0
      · rw [if_pos g1]; exact zcC_ne h
      · rw [if_neg g1, ih, zcf_ne h7]; exact zcC_ne h
theorem zrq_d : ∀ (m : Nat) (i d : Int) (w : zW), d ≤ (zrq m i d w).1 := by
  intro m
  induction m with
  | zero => intro i d w; exact Int.le_refl d
  | succ m ih =>
    intro i d w
    have e : zrq (m + 1) i d w = if i = -1 then (d, w) else if (zcC w (w 24 i.toNat) (w 25 i.toNat) (w 26 i.toNat)).1 = 0 then (d, (zcC w (w 24 i.toNat) (w 25 i.toNat) (w 26 i.toNat)).2) else zrq m (zcf 6000 (i + 1) (zcC w (w 24 i.toNat) (w 25 i.toNat) (w 26 i.toNat)).2).1 (d + 1) (zcf 6000 (i + 1) (zcC w (w 24 i.toNat) (w 25 i.toNat) (w 26 i.toNat)).2).2 := rfl
    rw [e]
    by_cases g : i = -1
    · rw [if_pos g]; exact Int.le_refl d
    · rw [if_neg g]
      by_cases g1 : (zcC w (w 24 i.toNat) (w 25 i.toNat) (w 26 i.toNat)).1 = 0
      · rw [if_pos g1]; exact Int.le_refl d
      · rw [if_neg g1]
        have := ih (zcf 6000 (i + 1) (zcC w (w 24 i.toNat) (w 25 i.toNat) (w 26 i.toNat)).2).1 (d + 1) (zcf 6000 (i + 1) (zcC w (w 24 i.toNat) (w 25 i.toNat) (w 26 i.toNat)).2).2
        omega
/-- and of the model -/
theorem zmr_all {m : Nat} {d q k g : Int} {w : zW} (P : Int × zW → Prop) (h0 : P (d, w)) (h6 : P (zmr m d (q + 1) (k + 1) g (zupd (zupd w 112 q.toNat k) 113 q.toNat (w 110 k.toNat))))
    (h7 : P (zmr m d q (w 112 (q - 1).toNat + 1) g (zupd w 113 (q - 1).toNat (w 113 (q - 1).toNat - 1))) ∧ P (zmr m d (q - 1) (k + 1) g (zupd w 113 (q - 1).toNat (w 113 (q - 1).toNat - 1))))
    (h8 : P (zmr m (d + (zcM w (w 109 k.toNat) (w 110 k.toNat) (w 111 k.toNat)).1) q (k + 1) (zcM w (w 109 k.toNat) (w 110 k.toNat) (w 111 k.toNat)).1 (zcM w (w 109 k.toNat) (w 110 k.toNat) (w 111 k.toNat)).2)) : P (zmr (m + 1) d q k g w) := by
  have e : zmr (m + 1) d q k g w = if g ≠ 0 ∧ k < w 93 39 ∧ d < 20 then (if w 109 k.toNat = 6 then zmr m d (q + 1) (k + 1) g (zupd (zupd w 112 q.toNat k) 113 q.toNat (w 110 k.toNat)) else if w 109 k.toNat = 7 then (if 0 < w 113 (q - 1).toNat - 1 then zmr m d q (w 112 (q - 1).toNat + 1) g (zupd w 113 (q - 1).toNat (w 113 (q - 1).toNat - 1)) else zmr m d (q - 1) (k + 1) g (zupd w 113 (q - 1).toNat (w 113 (q - 1).toNat - 1))) else zmr m (d + (zcM w (w 109 k.toNat) (w 110 k.toNat) (w 111 k.toNat)).1) q (k + 1) (zcM w (w 109 k.toNat) (w 110 k.toNat) (w 111 k.toNat)).1 (zcM w (w 109 k.toNat) (w 110 k.toNat) (w 111 k.toNat)).2) else (d, w) := rfl
  rw [e]
  by_cases c : g ≠ 0 ∧ k < w 93 39 ∧ d < 20
  · rw [if_pos c]
    by_cases g6 : w 109 k.toNat = 6
    · rw [if_pos g6]; exact h6
    · rw [if_neg g6]
      by_cases g7 : w 109 k.toNat = 7
      · rw [if_pos g7]
        by_cases g8 : 0 < w 113 (q - 1).toNat - 1
        · rw [if_pos g8]; exact h7.1
        · rw [if_neg g8]; exact h7.2
      · rw [if_neg g7]; exact h8
  · rw [if_neg c]; exact h0
theorem zmr_ne {p : Nat} (h : p ≠ 98 ∧ (p < 102 ∨ 105 < p)) (h2 : p ≠ 112) (h3 : p ≠ 113) : ∀ (m : Nat) (d q k g : Int) (w : zW), (zmr m d q k g w).2 p = w p := by
  intro m
  induction m with
  | zero => intros; rfl
  | succ m ih =>
    intro d q k g w
    refine zmr_all (fun r => r.2 p = w p) rfl ?_ ⟨?_, ?_⟩ ?_
    · rw [ih, zune h3, zune h2]
    · rw [ih, zune h3]
    · rw [ih, zune h3]
    · rw [ih]; exact zcM_ne h
theorem zmr_h2 : ∀ (m : Nat) (d q k g : Int) (w : zW), zmrE m d q k g w → zHi2 (zmr m d q k g w).2 w := by
  intro m
  induction m with
  | zero => intro d q k g w _; exact zHi2.r w
  | succ m ih =>
    intro d q k g w E
    have E : g ≠ 0 ∧ k < w 93 39 ∧ d < 20 → (0 ≤ k ∧ k < 60) ∧ (w 109 k.toNat = 6 → (0 ≤ q ∧ q < 2) ∧ zmrE m d (q + 1) (k + 1) g (zupd (zupd w 112 q.toNat k) 113 q.toNat (w 110 k.toNat))) ∧ (w 109 k.toNat = 7 → (1 ≤ q ∧ q ≤ 2) ∧ (1 ≤ w 113 (q - 1).toNat ∧ w 113 (q - 1).toNat ≤ 10) ∧ (0 ≤ w 112 (q - 1).toNat ∧ w 112 (q - 1).toNat < 60) ∧ if 0 < w 113 (q - 1).toNat - 1 then zmrE m d q (w 112 (q - 1).toNat + 1) g (zupd w 113 (q - 1).toNat (w 113 (q - 1).toNat - 1)) else zmrE m d (q - 1) (k + 1) g (zupd w 113 (q - 1).toNat (w 113 (q - 1).toNat - 1))) ∧ (w 109 k.toNat ≠ 6 → w 109 k.toNat ≠ 7 → (zNt w ∧ zRd 98 w ∧ zPM w ∧ zcB w (w 109 k.toNat) (w 110 k.toNat) (w 111 k.toNat)) ∧ zmrE m (d + (zcM w (w 109 k.toNat) (w 110 k.toNat) (w 111 k.toNat)).1) q (k + 1) (zcM w (w 109 k.toNat) (w 110 k.toNat) (w 111 k.toNat)).1 (zcM w (w 109 k.toNat) (w 110 k.toNat) (w 111 k.toNat)).2) := E
    have e : zmr (m + 1) d q k g w = if g ≠ 0 ∧ k < w 93 39 ∧ d < 20 then (if w 109 k.toNat = 6 then zmr m d (q + 1) (k + 1) g (zupd (zupd w 112 q.toNat k) 113 q.toNat (w 110 k.toNat)) else if w 109 k.toNat = 7 then (if 0 < w 113 (q - 1).toNat - 1 then zmr m d q (w 112 (q - 1).toNat + 1) g (zupd w 113 (q - 1).toNat (w 113 (q - 1).toNat - 1)) else zmr m d (q - 1) (k + 1) g (zupd w 113 (q - 1).toNat (w 113 (q - 1).toNat - 1))) else zmr m (d + (zcM w (w 109 k.toNat) (w 110 k.toNat) (w 111 k.toNat)).1) q (k + 1) (zcM w (w 109 k.toNat) (w 110 k.toNat) (w 111 k.toNat)).1 (zcM w (w 109 k.toNat) (w 110 k.toNat) (w 111 k.toNat)).2) else (d, w) := rfl
    rw [e]
    by_cases c : g ≠ 0 ∧ k < w 93 39 ∧ d < 20
    · rw [if_pos c]
      obtain ⟨_, E6, E7, E8⟩ := E c
      by_cases g6 : w 109 k.toNat = 6
      · rw [if_pos g6]
        exact (ih _ _ _ _ _ (E6 g6).2).tr ((zHi2.up (by omega)).tr (zHi2.up (by omega)))
      · rw [if_neg g6]
        by_cases g7 : w 109 k.toNat = 7
        · rw [if_pos g7]
          have E9 := (E7 g7).2.2.2
          by_cases g8 : 0 < w 113 (q - 1).toNat - 1
          · rw [if_pos g8] at E9 ⊢
            exact (ih _ _ _ _ _ E9).tr (zHi2.up (by omega))
          · rw [if_neg g8] at E9 ⊢
            exact (ih _ _ _ _ _ E9).tr (zHi2.up (by omega))
        · rw [if_neg g7]
          have x := E8 g6 g7
          exact (ih _ _ _ _ _ x.2).tr (zcM_h2 x.1.1 x.1.2.2.1 x.1.2.2.2)
    · rw [if_neg c]; exact zHi2.r w
