/-! ===== borders (written by wip/whole/gen_c.py) ===== -/
/-- the last one in the row -/
def zLst (T : Int → Int → Int) (n c : Int) : Int := zrw T n c (zNb T n c - 1)
/-- how many there are in the border of a circle -/
def zBd (T : Int → Int → Int) (n c : Int) : Int := if zKd T n c = 1 then zFi (fun j => zIt (zLst T n) j.toNat c = c) 12 1 else 0
theorem zKd1 {T : Int → Int → Int} {n c : Int} (h : zKd T n c = 1) : zNb T n c ≠ 0 ∧ zAh T n c (zFs T n c) = -1 := by
  unfold zKd at h
  by_cases q : zNb T n c = 0
  · rw [if_pos q] at h; omega
  · rw [if_neg q] at h
    refine ⟨q, ?_⟩
    by_cases q2 : zAh T n c (zFs T n c) = -1
    · exact q2
    · rw [if_neg q2] at h; omega
theorem zKd1i {T : Int → Int → Int} {n c : Int} (h1 : zNb T n c ≠ 0) (h2 : zAh T n c (zFs T n c) = -1) : zKd T n c = 1 := by
  unfold zKd; rw [if_neg h1, if_pos h2]
theorem zNb_pos {T : Int → Int → Int} {n c a : Int} (a0 : 0 ≤ a) (a1 : a < n) (h : ¬ zap T c a) : 0 < zNb T n c := by
  unfold zNb
  rw [zSm_one _ n.toNat 0 a a0 (by omega), if_neg h]
  have := zSm_rg01 (f := fun j => if j = a then 0 else if zap T c j then 0 else 1) n.toNat 0 fun j => by
    show (if j = a then (0 : Int) else if zap T c j then 0 else 1) = 0 ∨ (if j = a then (0 : Int) else if zap T c j then 0 else 1) = 1
    split
    · omega
    · split <;> omega
  omega
theorem zLst_ok {T : Int → Int → Int} {n c : Int} (hT : zTab T n) (hr : ∀ c, 0 ≤ c → c < n → zRw1 T n c) (c0 : 0 ≤ c) (c1 : c < n) (hk : zKd T n c = 1) :
    0 ≤ zLst T n c ∧ zLst T n c < n ∧ zKd T n (zLst T n c) = 1 ∧ zFs T n (zLst T n c) = c := by
  obtain ⟨t0, t1, t2⟩ := hT
  obtain ⟨k1, k2⟩ := zKd1 hk
  obtain ⟨r0, r1, r2, r3, r4⟩ := hr c c0 c1
  have hp : 0 < zNb T n c := by have := zNb_rg T c t0; omega
  obtain ⟨b0, b1, b2⟩ := r1 (zNb T n c - 1) (by omega) (by omega)
  have e := r2 hp
  rw [if_neg (by omega)] at e
  have e1 : T c (zLst T n c) = -1 := by
    have := zrw_succ T n c (zNb T n c - 1) (by omega)
    rw [show zNb T n c - 1 + 1 = zNb T n c by omega, e] at this
    exact this.symm
  have b2 : ¬ zap T c (zLst T n c) := b2
  have b0 : 0 ≤ zLst T n c := b0
  have b1 : zLst T n c < n := b1
  generalize zLst T n c = b at *
  have e2 : T b c ≠ -1 := fun q => b2 ⟨e1, q⟩
  have hna : ∀ a, 0 ≤ a → a < n → T b a ≠ c := fun a a0 a1 q => by
    rcases t2 b a b0 (by omega) a0 (by omega) with h | h
    · rw [q] at h; omega
    · have := h.2.2.2.2.2.2
      rw [q, e1] at this
      omega
  have hnb : ¬ zap T b c := fun q => e2 q.1
  have hah : zAh T n b c = -1 := (zFi_none (by omega)).mpr fun j j0 j1 => hna j j0 (by omega)
  have hf1 : zF1 T n b ≠ -1 := fun q => (zFi_none (by omega)).mp q c c0 (by omega) ⟨hnb, hah⟩
  have hfs : zFs T n b = zF1 T n b := by unfold zFs; rw [if_neg hf1]
  have hsp : zAh T n b (zF1 T n b) = -1 := by
    rcases zFi_spec (p := fun a => ¬ zap T b a ∧ zAh T n b a = -1) n.toNat 0 (by omega) with ⟨q, _⟩ | ⟨_, _, q, _⟩
    · exact (hf1 q).elim
    · exact q.2
  have hnb2 : zNb T n b ≠ 0 := by have := zNb_pos (T := T) (n := n) (c := b) c0 c1 hnb; omega
  refine ⟨b0, b1, zKd1i hnb2 (by rw [hfs]; exact hsp), ?_⟩
  obtain ⟨s0, s1, s2, s3, s4⟩ := hr b b0 b1
  obtain ⟨i, i0, i1, ei⟩ := s4 c c0 c1 hnb
  by_cases hi : i = 0
  · subst hi
    exact ei
  · have := zrw_succ T n b (i - 1) (by omega)
    rw [show i - 1 + 1 = i by omega, ei] at this
    have hj := s1 (i - 1) (by omega) (by omega)
    exact (hna _ hj.1 hj.2.1 this.symm).elim
theorem zLst_it {T : Int → Int → Int} {n c : Int} (hT : zTab T n) (hr : ∀ c, 0 ≤ c → c < n → zRw1 T n c) (c0 : 0 ≤ c) (c1 : c < n) (hk : zKd T n c = 1) :
    ∀ m : Nat, 0 ≤ zIt (zLst T n) m c ∧ zIt (zLst T n) m c < n ∧ zKd T n (zIt (zLst T n) m c) = 1
  | 0 => ⟨c0, c1, hk⟩
  | m + 1 => by
    rw [zIt_succ]
    obtain ⟨h1, h2, h3⟩ := zLst_it hT hr c0 c1 hk m
    obtain ⟨g1, g2, g3, _⟩ := zLst_ok hT hr h1 h2 h3
    exact ⟨g1, g2, g3⟩
theorem zLst_back {T : Int → Int → Int} {n c : Int} (hT : zTab T n) (hr : ∀ c, 0 ≤ c → c < n → zRw1 T n c) (c0 : 0 ≤ c) (c1 : c < n) (hk : zKd T n c = 1) :
    ∀ m j : Nat, zIt (zLst T n) m c = zIt (zLst T n) (m + j) c → c = zIt (zLst T n) j c
  | 0, j, h => by rw [Nat.zero_add] at h; exact h
  | m + 1, j, h => by
    refine zLst_back hT hr c0 c1 hk m j ?_
    obtain ⟨a1, a2, a3⟩ := zLst_it hT hr c0 c1 hk m
    obtain ⟨b1, b2, b3⟩ := zLst_it hT hr c0 c1 hk (m + j)
    rw [zIt_succ, show m + 1 + j = (m + j) + 1 by omega, zIt_succ] at h
    rw [← (zLst_ok hT hr a1 a2 a3).2.2.2, h, (zLst_ok hT hr b1 b2 b3).2.2.2]
theorem zBd_ok {T : Int → Int → Int} {n c : Int} (hT : zTab T n) (hr : ∀ c, 0 ≤ c → c < n → zRw1 T n c) (c0 : 0 ≤ c) (c1 : c < n) (hk : zKd T n c = 1) :
    zFi (fun j => zIt (zLst T n) j.toNat c = c) 12 1 ≠ -1 ∧ 1 ≤ zBd T n c ∧ zBd T n c ≤ 12 := by
  obtain ⟨i, j, h1, h2, h3⟩ := zpig n.toNat (fun i => zIt (zLst T n) i c) fun i hi => by
    have := zLst_it hT hr c0 c1 hk i
    show 0 ≤ zIt (zLst T n) i c ∧ zIt (zLst T n) i c < _
    omega
  have h3 : zIt (zLst T n) i c = zIt (zLst T n) j c := h3
  have e := zLst_back hT hr c0 c1 hk i (j - i) (by rw [show i + (j - i) = j by omega]; exact h3)
  have hn := hT.2.1
  have hne : zFi (fun j => zIt (zLst T n) j.toNat c = c) 12 1 ≠ -1 := fun q => (zFi_none (by omega)).mp q ((j - i : Nat) : Int) (by omega) (by omega) (by
    show zIt (zLst T n) ((j - i : Nat) : Int).toNat c = c
    rw [Int.toNat_natCast]; exact e.symm)
  have := zFi_spec (p := fun j => zIt (zLst T n) j.toNat c = c) 12 1 (by omega)
  unfold zBd
  rw [if_pos hk]
  refine ⟨hne, ?_⟩
  rcases this with ⟨q, _⟩ | ⟨q1, q2, _⟩
  · exact (hne q).elim
  · omega
theorem zNt.rw {w : zW} (h : zNt w) : ∀ c, 0 ≤ c → c < w 95 0 → zRw1 (zF0 w) (w 95 0) c := fun c h0 h1 => (h.row h0 h1).2.2.2
/-- the class's last in a row -/
theorem zNt.last {w : zW} (h : zNt w) {c : Int} (h0 : 0 ≤ c) (h1 : c < w 95 0) (hk : zKd (zF0 w) (w 95 0) c = 1) : 1 ≤ w 11 c.toNat ∧ w 11 c.toNat ≤ 12 ∧ w 10 (12 * c + (w 11 c.toNat - 1)).toNat = zLst (zF0 w) (w 95 0) c := by
  have hn := h.n
  obtain ⟨q1, _, q3, _⟩ := h.row h0 h1
  have k1 := (zKd1 hk).1
  have := zNb_rg (zF0 w) c hn.2.1
  rw [q1]
  exact ⟨by omega, by omega, q3 _ (by omega) (by omega)⟩
set_option maxRecDepth 100000 in
theorem zk188_L21 {w : zW} {K : zK} (hN : zNt w) (c : Int) (hc : 0 ≤ c ∧ c < w 95 0) (hk : zKd (zF0 w) (w 95 0) c = 1)  : ∀ (m : Nat) (i a : Int), (0 ≤ i) → (i + m = 12) → (a = zIt (zLst (zF0 w) (w 95 0)) i.toNat c) → (zFi (fun j => zIt (zLst (zF0 w) (w 95 0)) j.toNat c = c) m (i + 1) ≠ -1) → (K (0, some (0, zFi (fun j => zIt (zLst (zF0 w) (w 95 0)) j.toNat c = c) m (i + 1))) w 238) → zwp 188 21 [(2, 0), (0, c), (0, i), (0, a), (0, i)] [] w 238 0 K := by
  
  intro m
  induction m with
  | zero =>
    intro i a  h1 h2 h3 h4 h
    refine (show (if i < 12 then zif False ((0 ≤ a ∧ a < 12) ∧ 1 ≤ w 11 a.toNat ∧ w 11 a.toNat ≤ 12) (if w 10 (12 * a + (w 11 a.toNat - 1)).toNat = c then K (0, some (0, z32 (i + 1))) w 238 else zwp 188 21 [(2, 0), (0, c), (0, z32 (i + 1)), (0, w 10 (12 * a + (w 11 a.toNat - 1)).toNat), (0, z32 (i + 1))] [] w 238 0 K) else K (0, some (0, i)) w 238) → _ from fun h => show zwp 188 21 [(2, 0), (0, c), (0, i), (0, a), (0, i)] [] w 238 0 K from zgo_imp zT42_ok (cut := fun pc => Nat.beq pc 8 || Nat.beq pc 19 || Nat.beq pc 21 || Nat.beq pc 39 || Nat.beq pc 54) 400 (show if i < 12 then zif False ((0 ≤ a ∧ a < 12) ∧ 1 ≤ w 11 a.toNat ∧ w 11 a.toNat ≤ 12) (zwp 188 39 [(2, 0), (0, c), (0, z32 (i + 1)), (0, a), (0, i)] [(0, w 10 (12 * a + (w 11 a.toNat - 1)).toNat)] w 238 0 K) else zwp 188 54 [(2, 0), (0, c), (0, i), (0, a), (0, i)] [(0, i)] w 238 0 K from zmI (fun h => zmZ (fun h => (fun h => show zwp 188 39 [(2, 0), (0, c), (0, z32 (i + 1)), (0, a), (0, i)] [(0, w 10 (12 * a + (w 11 a.toNat - 1)).toNat)] w 238 0 K from zgo_imp zT42_ok (cut := fun pc => Nat.beq pc 8 || Nat.beq pc 19 || Nat.beq pc 21 || Nat.beq pc 39 || Nat.beq pc 54) 400 (show if w 10 (12 * a + (w 11 a.toNat - 1)).toNat = c then K (0, some (0, z32 (i + 1))) w 238 else zwp 188 21 [(2, 0), (0, c), (0, z32 (i + 1)), (0, w 10 (12 * a + (w 11 a.toNat - 1)).toNat), (0, z32 (i + 1))] [] w 238 0 K from h)) h) h) (fun h => (fun h => show zwp 188 54 [(2, 0), (0, c), (0, i), (0, a), (0, i)] [(0, i)] w 238 0 K from zgo_imp zT42_ok (cut := fun pc => Nat.beq pc 8 || Nat.beq pc 19 || Nat.beq pc 21 || Nat.beq pc 39 || Nat.beq pc 54) 400 (show K (0, some (0, i)) w 238 from h)) h) h)) ?_
    exact (h4 rfl).elim
  | succ m ih =>
    intro i a  h1 h2 h3 h4 h
    refine (show (if i < 12 then zif False ((0 ≤ a ∧ a < 12) ∧ 1 ≤ w 11 a.toNat ∧ w 11 a.toNat ≤ 12) (if w 10 (12 * a + (w 11 a.toNat - 1)).toNat = c then K (0, some (0, z32 (i + 1))) w 238 else zwp 188 21 [(2, 0), (0, c), (0, z32 (i + 1)), (0, w 10 (12 * a + (w 11 a.toNat - 1)).toNat), (0, z32 (i + 1))] [] w 238 0 K) else K (0, some (0, i)) w 238) → _ from fun h => show zwp 188 21 [(2, 0), (0, c), (0, i), (0, a), (0, i)] [] w 238 0 K from zgo_imp zT42_ok (cut := fun pc => Nat.beq pc 8 || Nat.beq pc 19 || Nat.beq pc 21 || Nat.beq pc 39 || Nat.beq pc 54) 400 (show if i < 12 then zif False ((0 ≤ a ∧ a < 12) ∧ 1 ≤ w 11 a.toNat ∧ w 11 a.toNat ≤ 12) (zwp 188 39 [(2, 0), (0, c), (0, z32 (i + 1)), (0, a), (0, i)] [(0, w 10 (12 * a + (w 11 a.toNat - 1)).toNat)] w 238 0 K) else zwp 188 54 [(2, 0), (0, c), (0, i), (0, a), (0, i)] [(0, i)] w 238 0 K from zmI (fun h => zmZ (fun h => (fun h => show zwp 188 39 [(2, 0), (0, c), (0, z32 (i + 1)), (0, a), (0, i)] [(0, w 10 (12 * a + (w 11 a.toNat - 1)).toNat)] w 238 0 K from zgo_imp zT42_ok (cut := fun pc => Nat.beq pc 8 || Nat.beq pc 19 || Nat.beq pc 21 || Nat.beq pc 39 || Nat.beq pc 54) 400 (show if w 10 (12 * a + (w 11 a.toNat - 1)).toNat = c then K (0, some (0, z32 (i + 1))) w 238 else zwp 188 21 [(2, 0), (0, c), (0, z32 (i + 1)), (0, w 10 (12 * a + (w 11 a.toNat - 1)).toNat), (0, z32 (i + 1))] [] w 238 0 K from h)) h) h) (fun h => (fun h => show zwp 188 54 [(2, 0), (0, c), (0, i), (0, a), (0, i)] [(0, i)] w 238 0 K from zgo_imp zT42_ok (cut := fun pc => Nat.beq pc 8 || Nat.beq pc 19 || Nat.beq pc 21 || Nat.beq pc 39 || Nat.beq pc 54) 400 (show K (0, some (0, i)) w 238 from h)) h) h)) ?_
    refine ziT (by omega) ?_
    obtain ⟨l0, l1, l2⟩ := zLst_it hN.tab hN.rw hc.1 hc.2 hk i.toNat
    rw [← h3] at l0 l1 l2
    have hn := hN.n
    obtain ⟨g1, g2, g3⟩ := hN.last l0 l1 l2
    rw [z32_id (x := i + 1) ⟨by omega, by omega⟩]
    refine zifI (by omega) ?_
    rw [g3]
    have e1 : zLst (zF0 w) (w 95 0) a = zIt (zLst (zF0 w) (w 95 0)) (i + 1).toNat c := by
      rw [show (i + 1).toNat = i.toNat + 1 by omega, zIt_succ, ← h3]
    have e : zFi (fun j => zIt (zLst (zF0 w) (w 95 0)) j.toNat c = c) (m + 1) (i + 1) = if zIt (zLst (zF0 w) (w 95 0)) (i + 1).toNat c = c then i + 1 else zFi (fun j => zIt (zLst (zF0 w) (w 95 0)) j.toNat c = c) m (i + 1 + 1) := rfl
    by_cases q : zIt (zLst (zF0 w) (w 95 0)) (i + 1).toNat c = c
    · rw [e.trans (if_pos q)] at h
      exact ziT (e1.trans q) h
    · rw [e.trans (if_neg q)] at h h4
      exact ziF (fun q2 => q (e1.symm.trans q2)) (ih _ _ (by omega) (by omega) e1 h4 h)
/-! .borderLength -/
set_option maxRecDepth 100000 in
theorem zk188_0 (c : Int) (w : zW) (K : zK) (h : (zNt w ∧ (0 ≤ c ∧ c < w 95 0)) ∧ (K (0, some (0, zBd (zF0 w) (w 95 0) c)) (w) 238)) : zcall 188 [(2, 0), (0, c), (9, 0), (9, 0), (9, 0)] w 238 K := by
  obtain ⟨hg, h⟩ := h
  refine (show (zif False (0 ≤ c ∧ c < 12) (if ((if w 11 c.toNat = 0 then 2 else if w 12 c.toNat = 0 then 1 else 0) : Int) = 1 then zwp 188 21 [(2, 0), (0, c), (0, 0), (0, c), (0, 0)] [] w 238 0 K else K (0, some (0, 0)) w 238)) → _ from fun h => show zwp 188 0 [(2, 0), (0, c), (9, 0), (9, 0), (9, 0)] [] w 238 0 K from zgo_imp zT42_ok (cut := fun pc => Nat.beq pc 8 || Nat.beq pc 19 || Nat.beq pc 21 || Nat.beq pc 39 || Nat.beq pc 54) 400 (show zif False (0 ≤ c ∧ c < 12) (zwp 188 8 [(2, 0), (0, c), (9, 0), (9, 0), (9, 0)] [(0, ((if w 11 c.toNat = 0 then 2 else if w 12 c.toNat = 0 then 1 else 0) : Int))] w 238 0 K) from zmZ (fun h => (fun h => show zwp 188 8 [(2, 0), (0, c), (9, 0), (9, 0), (9, 0)] [(0, ((if w 11 c.toNat = 0 then 2 else if w 12 c.toNat = 0 then 1 else 0) : Int))] w 238 0 K from zgo_imp zT42_ok (cut := fun pc => Nat.beq pc 8 || Nat.beq pc 19 || Nat.beq pc 21 || Nat.beq pc 39 || Nat.beq pc 54) 400 (show if ((if w 11 c.toNat = 0 then 2 else if w 12 c.toNat = 0 then 1 else 0) : Int) = 1 then zwp 188 19 [(2, 0), (0, c), (0, 0), (0, c), (9, 0)] [(0, 0)] w 238 0 K else K (0, some (0, 0)) w 238 from zmI (fun h => (fun h => show zwp 188 19 [(2, 0), (0, c), (0, 0), (0, c), (9, 0)] [(0, 0)] w 238 0 K from zgo_imp zT42_ok (cut := fun pc => Nat.beq pc 8 || Nat.beq pc 19 || Nat.beq pc 21 || Nat.beq pc 39 || Nat.beq pc 54) 400 (show zwp 188 21 [(2, 0), (0, c), (0, 0), (0, c), (0, 0)] [] w 238 0 K from h)) h) (fun h => h) h)) h) h)) ?_
  obtain ⟨hN, hc⟩ := hg
  have hn := hN.n
  have hkk := hN.kd hc.1 hc.2
  refine zifI (by omega) ?_
  by_cases hk : zKd (zF0 w) (w 95 0) c = 1
  · refine ziT (by rw [hkk]; exact hk) ?_
    have hb := zBd_ok hN.tab hN.rw hc.1 hc.2 hk
    refine zk188_L21 hN c hc hk 12 0 c (by omega) (by omega) rfl hb.1 (zKe h ?_)
    unfold zBd; rw [if_pos hk]; rfl
  · refine ziF (by rw [hkk]; exact hk) (zKe h ?_)
    unfold zBd; rw [if_neg hk]
noncomputable def zb188 (l0 : List zV) (w : zW) (K : zK) : Prop := cond (zis0 (zar l0 0)) (zA l0 1 fun c => (zNt w ∧ (0 ≤ c ∧ c < w 95 0)) ∧ (K (0, some (0, zBd (zF0 w) (w 95 0) c)) (w) 238)) (False)
noncomputable def zT43 : zSum := zsm1 188 [2, 0, 9, 9, 9] zb188 zT42
theorem zT43_ok : zSok zT43 := zsm1_ok zT42_ok fun l0 w K h => by
  unfold zb188 at h
  cases q0 : zis0 (zar l0 0) with
  | true =>
    rw [q0, cond_true] at h
    have e : zar l0 0 = 0 := zis0_e q0
    show zcall 188 [(2, zar l0 0), (0, zar l0 1), (9, 0), (9, 0), (9, 0)] w 238 K
    rw [e]
    exact zk188_0 (zar l0 1) w K (zA_e h)
  | false =>
  rw [q0, cond_false] at h
  exact h.elim
noncomputable def zT44 : zSum := zin1 179 400 zT43
theorem zT44_ok : zSok zT44 := zin1_ok zT43_ok
set_option maxRecDepth 100000 in
theorem zk138_L25 {w : zW} {K : zK} (hN : zNt w) (c j : Int) (hc : 0 ≤ c ∧ c < w 95 0) (hk : zKd (zF0 w) (w 95 0) c = 1) (hj : j ≤ 12)  : ∀ (m : Nat) (i a : Int) (d1 : zV), (0 ≤ i) → (i + m = j) → (a = zIt (zLst (zF0 w) (w 95 0)) i.toNat c) → (K (0, some (0, zIt (zLst (zF0 w) (w 95 0)) j.toNat c)) w 238) → zwp 138 25 [(2, 0), d1, (0, j), (0, a), (0, i)] [] w 238 0 K := by
  
  intro m
  induction m with
  | zero =>
    intro i a d1 h1 h2 h3 h
    refine (show (if i < j then zif False ((0 ≤ a ∧ a < 12) ∧ 1 ≤ w 11 a.toNat ∧ w 11 a.toNat ≤ 12) (zwp 138 25 [(2, 0), (9, 0), (0, j), (0, w 10 (12 * a + (w 11 a.toNat - 1)).toNat), (0, z32 (i + 1))] [] w 238 0 K) else K (0, some (0, a)) w 238) → _ from fun h => show zwp 138 25 [(2, 0), d1, (0, j), (0, a), (0, i)] [] w 238 0 K from zgo_imp zT44_ok (cut := fun pc => Nat.beq pc 5 || Nat.beq pc 15 || Nat.beq pc 25 || Nat.beq pc 28 || Nat.beq pc 39) 400 (show zwp 138 28 [(2, 0), (9, 0), (0, j), (0, a), (0, i)] [(0, j), (0, i)] w 238 0 K from (fun h => show zwp 138 28 [(2, 0), (9, 0), (0, j), (0, a), (0, i)] [(0, j), (0, i)] w 238 0 K from zgo_imp zT44_ok (cut := fun pc => Nat.beq pc 5 || Nat.beq pc 15 || Nat.beq pc 25 || Nat.beq pc 28 || Nat.beq pc 39) 400 (show if i < j then zif False ((0 ≤ a ∧ a < 12) ∧ 1 ≤ w 11 a.toNat ∧ w 11 a.toNat ≤ 12) (zwp 138 39 [(2, 0), (9, 0), (0, j), (0, a), (0, i)] [(0, w 10 (12 * a + (w 11 a.toNat - 1)).toNat)] w 238 0 K) else K (0, some (0, a)) w 238 from zmI (fun h => zmZ (fun h => (fun h => show zwp 138 39 [(2, 0), (9, 0), (0, j), (0, a), (0, i)] [(0, w 10 (12 * a + (w 11 a.toNat - 1)).toNat)] w 238 0 K from zgo_imp zT44_ok (cut := fun pc => Nat.beq pc 5 || Nat.beq pc 15 || Nat.beq pc 25 || Nat.beq pc 28 || Nat.beq pc 39) 400 (show zwp 138 25 [(2, 0), (9, 0), (0, j), (0, w 10 (12 * a + (w 11 a.toNat - 1)).toNat), (0, z32 (i + 1))] [] w 238 0 K from h)) h) h) (fun h => h) h)) h)) ?_
    refine ziF (by omega) (zKe h ?_)
    rw [h3, show i = j by omega]
  | succ m ih =>
    intro i a d1 h1 h2 h3 h
    refine (show (if i < j then zif False ((0 ≤ a ∧ a < 12) ∧ 1 ≤ w 11 a.toNat ∧ w 11 a.toNat ≤ 12) (zwp 138 25 [(2, 0), (9, 0), (0, j), (0, w 10 (12 * a + (w 11 a.toNat - 1)).toNat), (0, z32 (i + 1))] [] w 238 0 K) else K (0, some (0, a)) w 238) → _ from fun h => show zwp 138 25 [(2, 0), d1, (0, j), (0, a), (0, i)] [] w 238 0 K from zgo_imp zT44_ok (cut := fun pc => Nat.beq pc 5 || Nat.beq pc 15 || Nat.beq pc 25 || Nat.beq pc 28 || Nat.beq pc 39) 400 (show zwp 138 28 [(2, 0), (9, 0), (0, j), (0, a), (0, i)] [(0, j), (0, i)] w 238 0 K from (fun h => show zwp 138 28 [(2, 0), (9, 0), (0, j), (0, a), (0, i)] [(0, j), (0, i)] w 238 0 K from zgo_imp zT44_ok (cut := fun pc => Nat.beq pc 5 || Nat.beq pc 15 || Nat.beq pc 25 || Nat.beq pc 28 || Nat.beq pc 39) 400 (show if i < j then zif False ((0 ≤ a ∧ a < 12) ∧ 1 ≤ w 11 a.toNat ∧ w 11 a.toNat ≤ 12) (zwp 138 39 [(2, 0), (9, 0), (0, j), (0, a), (0, i)] [(0, w 10 (12 * a + (w 11 a.toNat - 1)).toNat)] w 238 0 K) else K (0, some (0, a)) w 238 from zmI (fun h => zmZ (fun h => (fun h => show zwp 138 39 [(2, 0), (9, 0), (0, j), (0, a), (0, i)] [(0, w 10 (12 * a + (w 11 a.toNat - 1)).toNat)] w 238 0 K from zgo_imp zT44_ok (cut := fun pc => Nat.beq pc 5 || Nat.beq pc 15 || Nat.beq pc 25 || Nat.beq pc 28 || Nat.beq pc 39) 400 (show zwp 138 25 [(2, 0), (9, 0), (0, j), (0, w 10 (12 * a + (w 11 a.toNat - 1)).toNat), (0, z32 (i + 1))] [] w 238 0 K from h)) h) h) (fun h => h) h)) h)) ?_
    refine ziT (by omega) ?_
    obtain ⟨l0, l1, l2⟩ := zLst_it hN.tab hN.rw hc.1 hc.2 hk i.toNat
    rw [← h3] at l0 l1 l2
    have hn := hN.n
    obtain ⟨g1, g2, g3⟩ := hN.last l0 l1 l2
    rw [z32_id (x := i + 1) ⟨by omega, by omega⟩]
    refine zifI (by omega) ?_
    rw [g3]
    have e1 : zLst (zF0 w) (w 95 0) a = zIt (zLst (zF0 w) (w 95 0)) (i + 1).toNat c := by
      rw [show (i + 1).toNat = i.toNat + 1 by omega, zIt_succ, ← h3]
    exact ih _ _ _ (by omega) (by omega) e1 h
/-! .border -/
set_option maxRecDepth 100000 in
theorem zk138_0 (c j : Int) (w : zW) (K : zK) (h : (zNt w) ∧ (if 0 ≤ c ∧ c < w 95 0 then K (0, some (0, (if 0 ≤ j ∧ j < zBd (zF0 w) (w 95 0) c then zIt (zLst (zF0 w) (w 95 0)) j.toNat c else -1))) (w) 238 else K (3, none) (w) 238)) : zcall 138 [(2, 0), (0, c), (0, j), (9, 0), (9, 0)] w 238 K := by
  obtain ⟨hg, h⟩ := h
  refine (show (if c < 0 then K (3, none) w 238 else if c < w 4 0 then if j < 0 then K (0, some (0, (-1))) w 238 else (zNt w ∧ (0 ≤ c ∧ c < w 95 0)) ∧ (if j < zBd (zF0 w) (w 95 0) c then zwp 138 25 [(2, 0), (0, c), (0, j), (0, c), (0, 0)] [] w 238 0 K else K (0, some (0, (-1))) w 238) else K (3, none) w 238) → _ from fun h => show zwp 138 0 [(2, 0), (0, c), (0, j), (9, 0), (9, 0)] [] w 238 1 K from zgo_imp zT44_ok (cut := fun pc => Nat.beq pc 5 || Nat.beq pc 15 || Nat.beq pc 25 || Nat.beq pc 28 || Nat.beq pc 39) 400 (show if c < 0 then K (3, none) w 238 else if c < w 4 0 then zwp 138 5 [(2, 0), (0, c), (0, j), (9, 0), (9, 0)] [] w 238 0 K else K (3, none) w 238 from zmI (fun h => h) (fun h => zmI (fun h => (fun h => show zwp 138 5 [(2, 0), (0, c), (0, j), (9, 0), (9, 0)] [] w 238 0 K from zgo_imp zT44_ok (cut := fun pc => Nat.beq pc 5 || Nat.beq pc 15 || Nat.beq pc 25 || Nat.beq pc 28 || Nat.beq pc 39) 400 (show if j < 0 then K (0, some (0, (-1))) w 238 else (zNt w ∧ (0 ≤ c ∧ c < w 95 0)) ∧ (zwp 138 15 [(2, 0), (0, c), (0, j), (9, 0), (9, 0)] [(0, zBd (zF0 w) (w 95 0) c), (0, j)] w 238 0 K) from zmI (fun h => h) (fun h => zmA (fun h => (fun h => show zwp 138 15 [(2, 0), (0, c), (0, j), (9, 0), (9, 0)] [(0, zBd (zF0 w) (w 95 0) c), (0, j)] w 238 0 K from zgo_imp zT44_ok (cut := fun pc => Nat.beq pc 5 || Nat.beq pc 15 || Nat.beq pc 25 || Nat.beq pc 28 || Nat.beq pc 39) 400 (show if j < zBd (zF0 w) (w 95 0) c then zwp 138 25 [(2, 0), (0, c), (0, j), (0, c), (0, 0)] [] w 238 0 K else K (0, some (0, (-1))) w 238 from h)) h) h) h)) h) (fun h => h) h) h)) ?_
  have hn := hg.n
  by_cases hc : 0 ≤ c ∧ c < w 95 0
  · rw [if_pos hc] at h
    refine ziF (by omega) (ziT (by omega) ?_)
    by_cases j0 : j < 0
    · exact ziT j0 (zKe h (if_neg (by omega)))
    · refine ziF j0 ⟨⟨hg, hc⟩, ?_⟩
      by_cases j1 : j < zBd (zF0 w) (w 95 0) c
      · refine ziT j1 ?_
        have hk : zKd (zF0 w) (w 95 0) c = 1 := by
          by_cases hk : zKd (zF0 w) (w 95 0) c = 1
          · exact hk
          · unfold zBd at j1; rw [if_neg hk] at j1; omega
        have hb := zBd_ok hg.tab hg.rw hc.1 hc.2 hk
        refine zk138_L25 hg c j hc hk (by omega) j.toNat 0 c _ (by omega) (by omega) rfl (zKe h ?_)
        rw [if_pos (by omega)]
      · exact ziF j1 (zKe h (if_neg (by omega)))
  · rw [if_neg hc] at h
    by_cases q : c < 0
    · exact ziT q h
    · exact ziF q (ziF (by omega) h)
noncomputable def zb138 (l0 : List zV) (w : zW) (K : zK) : Prop := cond (zis0 (zar l0 0)) (zA l0 1 fun c => zA l0 2 fun j => (zNt w) ∧ (if 0 ≤ c ∧ c < w 95 0 then K (0, some (0, (if 0 ≤ j ∧ j < zBd (zF0 w) (w 95 0) c then zIt (zLst (zF0 w) (w 95 0)) j.toNat c else -1))) (w) 238 else K (3, none) (w) 238)) (False)
noncomputable def zT45 : zSum := zsm1 138 [2, 0, 0, 9, 9] zb138 zT44
theorem zT45_ok : zSok zT45 := zsm1_ok zT44_ok fun l0 w K h => by
  unfold zb138 at h
  cases q0 : zis0 (zar l0 0) with
  | true =>
    rw [q0, cond_true] at h
    have e : zar l0 0 = 0 := zis0_e q0
    show zcall 138 [(2, zar l0 0), (0, zar l0 1), (0, zar l0 2), (9, 0), (9, 0)] w 238 K
    rw [e]
    exact zk138_0 (zar l0 1) (zar l0 2) w K (zA_e (zA_e h))
  | false =>
  rw [q0, cond_false] at h
  exact h.elim
set_option maxRecDepth 100000 in
theorem zk139_L20 {w : zW} {K : zK} (hN : zNt w) (hr : zRd 30 w) (c b : Int) (hc : 0 ≤ c ∧ c < w 95 0) (hk : zKd (zF0 w) (w 95 0) c = 1 ∨ b = 0) (hj : b ≤ 12)  : ∀ (m : Nat) (i a s : Int) (d1 d3 d7 : zV), (0 ≤ i) → (i + m = b) → (a = zIt (zLst (zF0 w) (w 95 0)) i.toNat c) → (0 ≤ s) → (s ≤ i * 2000000) → (K (0, some (1, s + zSm (fun k => w 30 (zIt (zLst (zF0 w) (w 95 0)) k.toNat c).toNat + w 30 (zIt (zLst (zF0 w) (w 95 0)) (k + 1).toNat c).toNat) m i)) w 238) → zwp 139 20 [(2, 0), d1, (1, s), d3, (0, a), (0, b), (0, i), d7] [] w 238 0 K := by
  
  intro m
  induction m with
  | zero =>
    intro i a s d1 d3 d7 h1 h2 h3 h4 h5 h
    refine (show (if i < b then zif False ((0 ≤ a ∧ a < 12) ∧ 1 ≤ w 11 a.toNat ∧ w 11 a.toNat ≤ 12) (zif False ((0 ≤ a ∧ a < 12) ∧ (0 ≤ (w 10 (12 * a + (w 11 a.toNat - 1)).toNat) ∧ (w 10 (12 * a + (w 11 a.toNat - 1)).toNat) < 12)) (zwp 139 20 [(2, 0), (9, 0), (1, z64 (s + (z64 (w 30 a.toNat + w 30 (w 10 (12 * a + (w 11 a.toNat - 1)).toNat).toNat)))), (9, 0), (0, w 10 (12 * a + (w 11 a.toNat - 1)).toNat), (0, b), (0, z32 (i + 1)), (0, w 10 (12 * a + (w 11 a.toNat - 1)).toNat)] [] w 238 0 K)) else K (0, some (1, s)) w 238) → _ from fun h => show zwp 139 20 [(2, 0), d1, (1, s), d3, (0, a), (0, b), (0, i), d7] [] w 238 0 K from zgo_imp zT45_ok (cut := fun pc => Nat.beq pc 5 || Nat.beq pc 15 || Nat.beq pc 20 || Nat.beq pc 33 || Nat.beq pc 36 || Nat.beq pc 50) 400 (show if i < b then zwp 139 33 [(2, 0), (9, 0), (1, s), (9, 0), (0, a), (0, b), (0, i), (9, 0)] [(0, a), (2, 4)] w 238 0 K else K (0, some (1, s)) w 238 from zmI (fun h => (fun h => show zwp 139 33 [(2, 0), (9, 0), (1, s), (9, 0), (0, a), (0, b), (0, i), (9, 0)] [(0, a), (2, 4)] w 238 0 K from zgo_imp zT45_ok (cut := fun pc => Nat.beq pc 5 || Nat.beq pc 15 || Nat.beq pc 20 || Nat.beq pc 33 || Nat.beq pc 36 || Nat.beq pc 50) 400 (show zif False ((0 ≤ a ∧ a < 12) ∧ 1 ≤ w 11 a.toNat ∧ w 11 a.toNat ≤ 12) (zwp 139 36 [(2, 0), (9, 0), (1, s), (9, 0), (0, a), (0, b), (0, i), (9, 0)] [(0, w 10 (12 * a + (w 11 a.toNat - 1)).toNat)] w 238 0 K) from zmZ (fun h => (fun h => show zwp 139 36 [(2, 0), (9, 0), (1, s), (9, 0), (0, a), (0, b), (0, i), (9, 0)] [(0, w 10 (12 * a + (w 11 a.toNat - 1)).toNat)] w 238 0 K from zgo_imp zT45_ok (cut := fun pc => Nat.beq pc 5 || Nat.beq pc 15 || Nat.beq pc 20 || Nat.beq pc 33 || Nat.beq pc 36 || Nat.beq pc 50) 400 (show zif False ((0 ≤ a ∧ a < 12) ∧ (0 ≤ (w 10 (12 * a + (w 11 a.toNat - 1)).toNat) ∧ (w 10 (12 * a + (w 11 a.toNat - 1)).toNat) < 12)) (zwp 139 50 [(2, 0), (9, 0), (1, s), (9, 0), (0, a), (0, b), (0, i), (0, w 10 (12 * a + (w 11 a.toNat - 1)).toNat)] [(1, z64 (w 30 a.toNat + w 30 (w 10 (12 * a + (w 11 a.toNat - 1)).toNat).toNat)), (1, s)] w 238 0 K) from zmZ (fun h => (fun h => show zwp 139 50 [(2, 0), (9, 0), (1, s), (9, 0), (0, a), (0, b), (0, i), (0, w 10 (12 * a + (w 11 a.toNat - 1)).toNat)] [(1, z64 (w 30 a.toNat + w 30 (w 10 (12 * a + (w 11 a.toNat - 1)).toNat).toNat)), (1, s)] w 238 0 K from zgo_imp zT45_ok (cut := fun pc => Nat.beq pc 5 || Nat.beq pc 15 || Nat.beq pc 20 || Nat.beq pc 33 || Nat.beq pc 36 || Nat.beq pc 50) 400 (show zwp 139 20 [(2, 0), (9, 0), (1, z64 (s + (z64 (w 30 a.toNat + w 30 (w 10 (12 * a + (w 11 a.toNat - 1)).toNat).toNat)))), (9, 0), (0, w 10 (12 * a + (w 11 a.toNat - 1)).toNat), (0, b), (0, z32 (i + 1)), (0, w 10 (12 * a + (w 11 a.toNat - 1)).toNat)] [] w 238 0 K from h)) h) h)) h) h)) h) (fun h => h) h)) ?_
    refine ziF (by omega) (zKe h ?_)
    show s + 0 = s; omega
  | succ m ih =>
    intro i a s d1 d3 d7 h1 h2 h3 h4 h5 h
    refine (show (if i < b then zif False ((0 ≤ a ∧ a < 12) ∧ 1 ≤ w 11 a.toNat ∧ w 11 a.toNat ≤ 12) (zif False ((0 ≤ a ∧ a < 12) ∧ (0 ≤ (w 10 (12 * a + (w 11 a.toNat - 1)).toNat) ∧ (w 10 (12 * a + (w 11 a.toNat - 1)).toNat) < 12)) (zwp 139 20 [(2, 0), (9, 0), (1, z64 (s + (z64 (w 30 a.toNat + w 30 (w 10 (12 * a + (w 11 a.toNat - 1)).toNat).toNat)))), (9, 0), (0, w 10 (12 * a + (w 11 a.toNat - 1)).toNat), (0, b), (0, z32 (i + 1)), (0, w 10 (12 * a + (w 11 a.toNat - 1)).toNat)] [] w 238 0 K)) else K (0, some (1, s)) w 238) → _ from fun h => show zwp 139 20 [(2, 0), d1, (1, s), d3, (0, a), (0, b), (0, i), d7] [] w 238 0 K from zgo_imp zT45_ok (cut := fun pc => Nat.beq pc 5 || Nat.beq pc 15 || Nat.beq pc 20 || Nat.beq pc 33 || Nat.beq pc 36 || Nat.beq pc 50) 400 (show if i < b then zwp 139 33 [(2, 0), (9, 0), (1, s), (9, 0), (0, a), (0, b), (0, i), (9, 0)] [(0, a), (2, 4)] w 238 0 K else K (0, some (1, s)) w 238 from zmI (fun h => (fun h => show zwp 139 33 [(2, 0), (9, 0), (1, s), (9, 0), (0, a), (0, b), (0, i), (9, 0)] [(0, a), (2, 4)] w 238 0 K from zgo_imp zT45_ok (cut := fun pc => Nat.beq pc 5 || Nat.beq pc 15 || Nat.beq pc 20 || Nat.beq pc 33 || Nat.beq pc 36 || Nat.beq pc 50) 400 (show zif False ((0 ≤ a ∧ a < 12) ∧ 1 ≤ w 11 a.toNat ∧ w 11 a.toNat ≤ 12) (zwp 139 36 [(2, 0), (9, 0), (1, s), (9, 0), (0, a), (0, b), (0, i), (9, 0)] [(0, w 10 (12 * a + (w 11 a.toNat - 1)).toNat)] w 238 0 K) from zmZ (fun h => (fun h => show zwp 139 36 [(2, 0), (9, 0), (1, s), (9, 0), (0, a), (0, b), (0, i), (9, 0)] [(0, w 10 (12 * a + (w 11 a.toNat - 1)).toNat)] w 238 0 K from zgo_imp zT45_ok (cut := fun pc => Nat.beq pc 5 || Nat.beq pc 15 || Nat.beq pc 20 || Nat.beq pc 33 || Nat.beq pc 36 || Nat.beq pc 50) 400 (show zif False ((0 ≤ a ∧ a < 12) ∧ (0 ≤ (w 10 (12 * a + (w 11 a.toNat - 1)).toNat) ∧ (w 10 (12 * a + (w 11 a.toNat - 1)).toNat) < 12)) (zwp 139 50 [(2, 0), (9, 0), (1, s), (9, 0), (0, a), (0, b), (0, i), (0, w 10 (12 * a + (w 11 a.toNat - 1)).toNat)] [(1, z64 (w 30 a.toNat + w 30 (w 10 (12 * a + (w 11 a.toNat - 1)).toNat).toNat)), (1, s)] w 238 0 K) from zmZ (fun h => (fun h => show zwp 139 50 [(2, 0), (9, 0), (1, s), (9, 0), (0, a), (0, b), (0, i), (0, w 10 (12 * a + (w 11 a.toNat - 1)).toNat)] [(1, z64 (w 30 a.toNat + w 30 (w 10 (12 * a + (w 11 a.toNat - 1)).toNat).toNat)), (1, s)] w 238 0 K from zgo_imp zT45_ok (cut := fun pc => Nat.beq pc 5 || Nat.beq pc 15 || Nat.beq pc 20 || Nat.beq pc 33 || Nat.beq pc 36 || Nat.beq pc 50) 400 (show zwp 139 20 [(2, 0), (9, 0), (1, z64 (s + (z64 (w 30 a.toNat + w 30 (w 10 (12 * a + (w 11 a.toNat - 1)).toNat).toNat)))), (9, 0), (0, w 10 (12 * a + (w 11 a.toNat - 1)).toNat), (0, b), (0, z32 (i + 1)), (0, w 10 (12 * a + (w 11 a.toNat - 1)).toNat)] [] w 238 0 K from h)) h) h)) h) h)) h) (fun h => h) h)) ?_
    refine ziT (by omega) ?_
    have hk : zKd (zF0 w) (w 95 0) c = 1 := by omega
    obtain ⟨l0, l1, l2⟩ := zLst_it hN.tab hN.rw hc.1 hc.2 hk i.toNat
    rw [← h3] at l0 l1 l2
    have hn := hN.n
    obtain ⟨g1, g2, g3⟩ := hN.last l0 l1 l2
    obtain ⟨p0, p1, p2, _⟩ := zLst_ok hN.tab hN.rw l0 l1 l2
    have r1 := hr a l0 l1
    have r2 := hr _ p0 p1
    rw [z32_id (x := i + 1) ⟨by omega, by omega⟩]
    refine zifI (by omega) ?_
    rw [g3]
    have e1 : zLst (zF0 w) (w 95 0) a = zIt (zLst (zF0 w) (w 95 0)) (i + 1).toNat c := by
      rw [show (i + 1).toNat = i.toNat + 1 by omega, zIt_succ, ← h3]
    refine zifI (by omega) ?_
    rw [z64_id (x := w 30 a.toNat + w 30 (zLst (zF0 w) (w 95 0) a).toNat) ⟨by omega, by omega⟩, z64_id (x := s + (w 30 a.toNat + w 30 (zLst (zF0 w) (w 95 0) a).toNat)) ⟨by omega, by omega⟩]
    refine ih _ _ _ _ _ _ (by omega) (by omega) e1 (by omega) (by omega) (zKe h ?_)
    show s + (w 30 (zIt (zLst (zF0 w) (w 95 0)) i.toNat c).toNat + w 30 (zIt (zLst (zF0 w) (w 95 0)) (i + 1).toNat c).toNat + _) = _
    rw [← h3, ← e1]; omega
/-! .perimeter -/
set_option maxRecDepth 100000 in
theorem zk139_0 (c : Int) (w : zW) (K : zK) (h : (zNt w ∧ zRd 30 w) ∧ (if 0 ≤ c ∧ c < w 95 0 then K (0, some (1, zSm (fun k => w 30 (zIt (zLst (zF0 w) (w 95 0)) k.toNat c).toNat + w 30 (zIt (zLst (zF0 w) (w 95 0)) (k + 1).toNat c).toNat) (zBd (zF0 w) (w 95 0) c).toNat 0)) (w) 238 else K (3, none) (w) 238)) : zcall 139 [(2, 0), (0, c), (9, 0), (9, 0), (9, 0), (9, 0), (9, 0), (9, 0)] w 238 K := by
  obtain ⟨hg, h⟩ := h
  refine (show (if c < 0 then K (3, none) w 238 else if c < w 4 0 then (zNt w ∧ (0 ≤ c ∧ c < w 95 0)) ∧ (zwp 139 20 [(2, 0), (0, c), (1, 0), (9, 0), (0, c), (0, zBd (zF0 w) (w 95 0) c), (0, 0), (9, 0)] [] w 238 0 K) else K (3, none) w 238) → _ from fun h => show zwp 139 0 [(2, 0), (0, c), (9, 0), (9, 0), (9, 0), (9, 0), (9, 0), (9, 0)] [] w 238 1 K from zgo_imp zT45_ok (cut := fun pc => Nat.beq pc 5 || Nat.beq pc 15 || Nat.beq pc 20 || Nat.beq pc 33 || Nat.beq pc 36 || Nat.beq pc 50) 400 (show if c < 0 then K (3, none) w 238 else if c < w 4 0 then zwp 139 5 [(2, 0), (0, c), (9, 0), (9, 0), (9, 0), (9, 0), (9, 0), (9, 0)] [] w 238 0 K else K (3, none) w 238 from zmI (fun h => h) (fun h => zmI (fun h => (fun h => show zwp 139 5 [(2, 0), (0, c), (9, 0), (9, 0), (9, 0), (9, 0), (9, 0), (9, 0)] [] w 238 0 K from zgo_imp zT45_ok (cut := fun pc => Nat.beq pc 5 || Nat.beq pc 15 || Nat.beq pc 20 || Nat.beq pc 33 || Nat.beq pc 36 || Nat.beq pc 50) 400 (show (zNt w ∧ (0 ≤ c ∧ c < w 95 0)) ∧ (zwp 139 15 [(2, 0), (0, c), (1, 0), (9, 0), (0, c), (9, 0), (9, 0), (9, 0)] [(0, zBd (zF0 w) (w 95 0) c)] w 238 0 K) from zmA (fun h => (fun h => show zwp 139 15 [(2, 0), (0, c), (1, 0), (9, 0), (0, c), (9, 0), (9, 0), (9, 0)] [(0, zBd (zF0 w) (w 95 0) c)] w 238 0 K from zgo_imp zT45_ok (cut := fun pc => Nat.beq pc 5 || Nat.beq pc 15 || Nat.beq pc 20 || Nat.beq pc 33 || Nat.beq pc 36 || Nat.beq pc 50) 400 (show zwp 139 20 [(2, 0), (0, c), (1, 0), (9, 0), (0, c), (0, zBd (zF0 w) (w 95 0) c), (0, 0), (9, 0)] [] w 238 0 K from h)) h) h)) h) (fun h => h) h) h)) ?_
  have hn := hg.1.n
  by_cases hc : 0 ≤ c ∧ c < w 95 0
  · rw [if_pos hc] at h
    refine ziF (by omega) (ziT (by omega) ?_)
    refine ⟨⟨hg.1, hc⟩, ?_⟩
    have hb : (zKd (zF0 w) (w 95 0) c = 1 ∨ zBd (zF0 w) (w 95 0) c = 0) ∧ 0 ≤ zBd (zF0 w) (w 95 0) c ∧ zBd (zF0 w) (w 95 0) c ≤ 12 := by
      by_cases hk : zKd (zF0 w) (w 95 0) c = 1
      · have := zBd_ok hg.1.tab hg.1.rw hc.1 hc.2 hk
        exact ⟨Or.inl hk, by omega, by omega⟩
      · have : zBd (zF0 w) (w 95 0) c = 0 := by unfold zBd; rw [if_neg hk]
        exact ⟨Or.inr this, by omega, by omega⟩
    exact zk139_L20 hg.1 hg.2 c _ hc hb.1 (by omega) (zBd (zF0 w) (w 95 0) c).toNat 0 c 0 _ _ _ (by omega) (by omega) rfl (by omega) (by omega) (zKe h (by omega))
  · rw [if_neg hc] at h
    by_cases q : c < 0
    · exact ziT q h
    · exact ziF q (ziF (by omega) h)
noncomputable def zb139 (l0 : List zV) (w : zW) (K : zK) : Prop := cond (zis0 (zar l0 0)) (zA l0 1 fun c => (zNt w ∧ zRd 30 w) ∧ (if 0 ≤ c ∧ c < w 95 0 then K (0, some (1, zSm (fun k => w 30 (zIt (zLst (zF0 w) (w 95 0)) k.toNat c).toNat + w 30 (zIt (zLst (zF0 w) (w 95 0)) (k + 1).toNat c).toNat) (zBd (zF0 w) (w 95 0) c).toNat 0)) (w) 238 else K (3, none) (w) 238)) (False)
noncomputable def zT46 : zSum := zsm1 139 [2, 0, 9, 9, 9, 9, 9, 9] zb139 zT45
theorem zT46_ok : zSok zT46 := zsm1_ok zT45_ok fun l0 w K h => by
  unfold zb139 at h
  cases q0 : zis0 (zar l0 0) with
  | true =>
    rw [q0, cond_true] at h
    have e : zar l0 0 = 0 := zis0_e q0
    show zcall 139 [(2, zar l0 0), (0, zar l0 1), (9, 0), (9, 0), (9, 0), (9, 0), (9, 0), (9, 0)] w 238 K
    rw [e]
    exact zk139_0 (zar l0 1) w K (zA_e h)
  | false =>
  rw [q0, cond_false] at h
  exact h.elim
