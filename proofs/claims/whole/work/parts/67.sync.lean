/-! ===== class and model read the same tokens (written by wip/whole/gen_c.py) ===== -/
def zMw (a b : zW) : zW := fun p => if p < 93 then a p else b p
/-- one token: the class's kind, start, end, word, letters, number; the model's end, sort, value, word -/
def zTk (k s e d l v at' so va wo : Int) : Prop :=
  (k = -1 ∧ so = 0 ∧ d = 1000) ∨
  (k ≠ -1 ∧ e = at' ∧ s < e ∧ ((k = 0 ∧ so = 4 ∧ d = 1000) ∨ (k = 1 ∧ so = 1 ∧ d = 1000 + zWd l ∧ znm l wo) ∨ (k = 2 ∧ so = 2 ∧ d = 1000 ∧ v = va) ∨ (k = va ∧ zsg va ∧ so = 3 ∧ d = 1000)))
/-- the class (a) and the model (b) stand at the same token of the same text -/
def zSy (a b : zW) : Prop :=
  (0 ≤ a 1 1 ∧ a 1 1 ≤ 800 ∧ a 1 1 = b 93 3 ∧ ∀ i, zTy (a 2) (a 1 1) i = zTx (b 94) (b 93 3) i) ∧ a 3 2 = b 93 5 ∧ zPT a ∧ (0 ≤ b 93 4 ∧ b 93 4 ≤ b 93 3) ∧
  zTk (a 3 1) (a 3 2) (a 3 3) (a 3 4) (a 3 5) (a 3 6) (b 93 4) (b 93 6) (b 93 7) (b 93 12)
theorem zsg_l {c : Int} (h : zsg c) : ¬ zlt c ∧ ¬ zdg c ∧ c ≠ -1 ∧ 0 ≤ c := by
  rcases h with h | h | h <;> (rw [h]; decide)
theorem zSy_ad {a b : zW} (h1 : 0 ≤ a 1 1 ∧ a 1 1 ≤ 800 ∧ a 1 1 = b 93 3) (hT : ∀ i, zTy (a 2) (a 1 1) i = zTx (b 94) (b 93 3) i) (hp : a 3 3 = b 93 4) (h2 : 0 ≤ a 3 3 ∧ a 3 3 ≤ a 1 1) : zSy (zad a) (zmgo b) := by
  have hT : zTy (a 2) (a 1 1) = zTx (b 94) (b 93 3) := funext hT
  have pt := zPT_ad (w := a) ⟨h1.1, h1.2.1⟩ h2
  have pm := zmgo_at (w := b) (by omega)
  have es : zst (zTx (b 94) (b 93 3)) (b 93 3) (b 93 4) = zst (zTy (a 2) (a 1 1)) (a 1 1) (a 3 3) := by rw [← hT, ← h1.2.2, hp]
  have ss := zst_rg (zTy (a 2) (a 1 1)) (p := a 3 3) (n := a 1 1) (by omega)
  refine ⟨⟨h1.1, h1.2.1, h1.2.2, fun i => congrFun hT i⟩, es.symm, pt, pm, ?_⟩
  show zTk (zkdt (zTy (a 2) (a 1 1)) (a 1 1) (zst (zTy (a 2) (a 1 1)) (a 1 1) (a 3 3)) (zTy (a 2) (a 1 1) (zst (zTy (a 2) (a 1 1)) (a 1 1) (a 3 3)))) (zst (zTy (a 2) (a 1 1)) (a 1 1) (a 3 3)) (zbe (zTy (a 2) (a 1 1)) (a 1 1) (zst (zTy (a 2) (a 1 1)) (a 1 1) (a 3 3)) (zTy (a 2) (a 1 1) (zst (zTy (a 2) (a 1 1)) (a 1 1) (a 3 3)))) (zwo (zTy (a 2) (a 1 1)) (a 1 1) (zst (zTy (a 2) (a 1 1)) (a 1 1) (a 3 3)) (zTy (a 2) (a 1 1) (zst (zTy (a 2) (a 1 1)) (a 1 1) (a 3 3)))) (if zlt (zTy (a 2) (a 1 1) (zst (zTy (a 2) (a 1 1)) (a 1 1) (a 3 3))) then zLc (zTy (a 2) (a 1 1)) (a 1 1) (zst (zTy (a 2) (a 1 1)) (a 1 1) (a 3 3)) else a 3 5) (if zdg (zTy (a 2) (a 1 1) (zst (zTy (a 2) (a 1 1)) (a 1 1) (a 3 3))) then zNc (zTy (a 2) (a 1 1)) (a 1 1) (zst (zTy (a 2) (a 1 1)) (a 1 1) (a 3 3)) 0 else a 3 6) (if zTx (b 94) (b 93 3) (zst (zTx (b 94) (b 93 3)) (b 93 3) (b 93 4)) < 0 then zst (zTx (b 94) (b 93 3)) (b 93 3) (b 93 4) else zbe (zTx (b 94) (b 93 3)) (b 93 3) (zst (zTx (b 94) (b 93 3)) (b 93 3) (b 93 4)) (zTx (b 94) (b 93 3) (zst (zTx (b 94) (b 93 3)) (b 93 3) (b 93 4)))) (zso (zTx (b 94) (b 93 3)) (b 93 3) (zst (zTx (b 94) (b 93 3)) (b 93 3) (b 93 4)) (zTx (b 94) (b 93 3) (zst (zTx (b 94) (b 93 3)) (b 93 3) (b 93 4)))) (if zTx (b 94) (b 93 3) (zst (zTx (b 94) (b 93 3)) (b 93 3) (b 93 4)) < 0 then 0 else if zlt (zTx (b 94) (b 93 3) (zst (zTx (b 94) (b 93 3)) (b 93 3) (b 93 4))) then 0 else if zdg (zTx (b 94) (b 93 3) (zst (zTx (b 94) (b 93 3)) (b 93 3) (b 93 4))) then zNm' (zTx (b 94) (b 93 3)) (b 93 3) (zst (zTx (b 94) (b 93 3)) (b 93 3) (b 93 4)) else zTx (b 94) (b 93 3) (zst (zTx (b 94) (b 93 3)) (b 93 3) (b 93 4))) (if zlt (zTx (b 94) (b 93 3) (zst (zTx (b 94) (b 93 3)) (b 93 3) (b 93 4))) then zLm' (zTx (b 94) (b 93 3)) (b 93 3) (zst (zTx (b 94) (b 93 3)) (b 93 3) (b 93 4)) else 0)
  rw [es, ← hT, ← h1.2.2]
  generalize zst (zTy (a 2) (a 1 1)) (a 1 1) (a 3 3) = s at ss ⊢
  have hin : zTy (a 2) (a 1 1) s ≠ -1 → s < a 1 1 := fun q => (zTy_in q).2
  have hr := zTy_rg (a 2) (a 1 1) s
  have hl : zlt (zTy (a 2) (a 1 1) s) → zle (zTy (a 2) (a 1 1)) (a 1 1) s - s ≤ 8 → znm (zLc (zTy (a 2) (a 1 1)) (a 1 1) s) (zLm' (zTy (a 2) (a 1 1)) (a 1 1) s) := fun q1 q2 => znm_tok q1 (hin (by omega)) q2
  have hl2 : zlt (zTy (a 2) (a 1 1) s) → s < zle (zTy (a 2) (a 1 1)) (a 1 1) s := fun q1 => by
    have hs := hin (by omega)
    unfold zle
    rw [show (a 1 1 - s).toNat = (a 1 1 - (s + 1)).toNat + 1 by omega]
    have := zrn_rg (P := fun j => zlt (zTy (a 2) (a 1 1) j)) (a 1 1 - (s + 1)).toNat (s + 1)
    have e : zrn (fun j => zlt (zTy (a 2) (a 1 1) j)) ((a 1 1 - (s + 1)).toNat + 1) s = zrn (fun j => zlt (zTy (a 2) (a 1 1) j)) (a 1 1 - (s + 1)).toNat (s + 1) := if_pos q1
    omega
  have hd2 : zdg (zTy (a 2) (a 1 1) s) → s < zde (zTy (a 2) (a 1 1)) (a 1 1) s := fun q1 => by
    have hs := hin (by omega)
    unfold zde
    rw [show (a 1 1 - s).toNat = (a 1 1 - (s + 1)).toNat + 1 by omega]
    have := zrn_rg (P := fun j => zdg (zTy (a 2) (a 1 1) j)) (a 1 1 - (s + 1)).toNat (s + 1)
    have e : zrn (fun j => zdg (zTy (a 2) (a 1 1) j)) ((a 1 1 - (s + 1)).toNat + 1) s = zrn (fun j => zdg (zTy (a 2) (a 1 1) j)) (a 1 1 - (s + 1)).toNat (s + 1) := if_pos q1
    omega
  have hd : zde (zTy (a 2) (a 1 1)) (a 1 1) s - s ≤ 6 → zNc (zTy (a 2) (a 1 1)) (a 1 1) s 0 = zNm' (zTy (a 2) (a 1 1)) (a 1 1) s := fun q => zNum_tok q
  generalize zTy (a 2) (a 1 1) s = c at hin hr hl hl2 hd2 ⊢
  unfold zTk zkdt zbe zwo zso
  by_cases q1 : c = -1
  · left
    have q2 : ¬ zlt c := by omega
    have q0 : c < 0 := by omega
    rw [if_pos q1, if_pos q0, if_neg q2]
    exact ⟨rfl, rfl, rfl⟩
  · right
    have q0 : ¬ c < 0 := by omega
    by_cases q2 : zlt c
    · rw [if_neg q1, if_neg q0, if_neg q0, if_neg q0, if_pos q2, if_pos q2, if_pos q2, if_pos q2, if_pos q2, if_pos q2, if_pos q2]
      have := hl2 q2
      by_cases g : 8 < zle (zTy (a 2) (a 1 1)) (a 1 1) s - s
      · rw [if_pos g, if_pos g, if_pos g]
        exact ⟨by decide, rfl, this, Or.inl ⟨rfl, rfl, rfl⟩⟩
      · rw [if_neg g, if_neg g, if_neg g]
        exact ⟨by decide, rfl, this, Or.inr (Or.inl ⟨rfl, rfl, rfl, hl q2 (by omega)⟩)⟩
    · by_cases q3 : zdg c
      · rw [if_neg q1, if_neg q0, if_neg q0, if_neg q0, if_neg q2, if_neg q2, if_neg q2, if_neg q2, if_neg q2, if_neg q2, if_neg q2, if_pos q3, if_pos q3, if_pos q3, if_pos q3, if_pos q3]
        have := hd2 q3
        by_cases g : 6 < zde (zTy (a 2) (a 1 1)) (a 1 1) s - s
        · rw [if_pos g, if_pos g]
          exact ⟨by decide, rfl, this, Or.inl ⟨rfl, rfl, rfl⟩⟩
        · rw [if_neg g, if_neg g]
          exact ⟨by decide, rfl, this, Or.inr (Or.inr (Or.inl ⟨rfl, rfl, rfl, hd (by omega)⟩))⟩
      · rw [if_neg q1, if_neg q0, if_neg q0, if_neg q0, if_neg q2, if_neg q2, if_neg q2, if_neg q2, if_neg q2, if_neg q2, if_neg q2, if_neg q3, if_neg q3, if_neg q3, if_neg q3, if_neg q3]
        by_cases g : zsg c
        · rw [if_pos g, if_pos g]
          exact ⟨(zsg_l g).2.2.1, rfl, by omega, Or.inr (Or.inr (Or.inr ⟨rfl, g, rfl, rfl⟩))⟩
        · rw [if_neg g, if_neg g]
          exact ⟨by decide, rfl, by omega, Or.inl ⟨rfl, rfl, rfl⟩⟩
theorem zSy.ad {a b : zW} (h : zSy a b) (g : a 3 1 ≠ -1) : zSy (zad a) (zmgo b) := by
  obtain ⟨⟨h1, h2, h3, h4⟩, h5, h6, h7, h8⟩ := h
  rcases h8 with h8 | h8
  · exact (g h8.1).elim
  · exact zSy_ad ⟨h1, h2, h3⟩ h4 h8.2.1 ⟨h6.2.1, h6.2.2.1 g⟩
theorem zSy.mp {a b : zW} (h : zSy a b) (g : 0 ≤ b 93 8) : zMP b := by
  obtain ⟨⟨h1, h2, h3, h4⟩, h5, h6, h7, h8⟩ := h
  exact ⟨by omega, h7, g⟩
theorem zSy.kd {a b : zW} (h : zSy a b) : (a 3 1 = -1 ↔ b 93 6 = 0) ∧ (a 3 1 = 2 ↔ b 93 6 = 2) ∧ (a 3 1 = 2 → a 3 6 = b 93 7) ∧ (∀ x, zsg x → (a 3 1 = x ↔ b 93 6 = 3 ∧ b 93 7 = x)) := by
  have h8 := h.2.2.2.2
  have sg : ∀ x, zsg x → x = 59 ∨ x = 40 ∨ x = 41 := fun _ h => h
  unfold zTk at h8
  refine ⟨by omega, by omega, by omega, fun x hx => by omega⟩
theorem zSy.wd {a b : zW} (h : zSy a b) : (a 3 4 = 1002 ↔ b 93 6 = 1 ∧ b 93 12 = 110693765) ∧ (a 3 4 = 1003 ↔ b 93 6 = 1 ∧ b 93 12 = 605169331) ∧ (a 3 4 = 1004 ↔ b 93 6 = 1 ∧ b 93 12 = 1514885) ∧ (a 3 4 = 1005 ↔ b 93 6 = 1 ∧ b 93 12 = 197733) ∧ (a 3 4 = 1006 ↔ b 93 6 = 1 ∧ b 93 12 = 20022661) ∧ (a 3 4 = 1007 ↔ b 93 6 = 1 ∧ b 93 12 = 20427461) ∧ (a 3 4 = 1008 ↔ b 93 6 = 1 ∧ b 93 12 = 20681904) ∧ (a 3 4 = 1009 ↔ b 93 6 = 1 ∧ b 93 12 = 19636) ∧ (a 3 4 = 1010 ↔ b 93 6 = 1 ∧ b 93 12 = 12345) ∧ (a 3 4 = 1011 ↔ b 93 6 = 1 ∧ b 93 12 = 677454) ∧ (a 3 4 = 1012 ↔ b 93 6 = 1 ∧ b 93 12 = 99725) ∧ (a 3 4 = 1013 ↔ b 93 6 = 1 ∧ b 93 12 = 609752116) ∧ (a 3 4 = 1001 ↔ zmNi (b 93 6) (b 93 12) ≠ 0) ∧ (a 3 4 = 1001 → b 93 6 = 1 ∧ a 3 1 = 1 ∧ znm (a 3 5) (b 93 12)) := by
  have h8 := h.2.2.2.2
  have z0 : ∀ s x : Int, s ≠ 1 → zmNi s x = 0 := fun s x hs => by
    unfold zmNi
    repeat' split
    all_goals first | rfl | (exfalso; omega)
  have fin : ∀ {d so wo : Int}, so ≠ 1 → d = 1000 → (d = 1002 ↔ so = 1 ∧ wo = 110693765) ∧ (d = 1003 ↔ so = 1 ∧ wo = 605169331) ∧ (d = 1004 ↔ so = 1 ∧ wo = 1514885) ∧ (d = 1005 ↔ so = 1 ∧ wo = 197733) ∧ (d = 1006 ↔ so = 1 ∧ wo = 20022661) ∧ (d = 1007 ↔ so = 1 ∧ wo = 20427461) ∧ (d = 1008 ↔ so = 1 ∧ wo = 20681904) ∧ (d = 1009 ↔ so = 1 ∧ wo = 19636) ∧ (d = 1010 ↔ so = 1 ∧ wo = 12345) ∧ (d = 1011 ↔ so = 1 ∧ wo = 677454) ∧ (d = 1012 ↔ so = 1 ∧ wo = 99725) ∧ (d = 1013 ↔ so = 1 ∧ wo = 609752116) ∧ (d = 1001 ↔ zmNi so wo ≠ 0) ∧ (d = 1001 → so = 1 ∧ a 3 1 = 1 ∧ znm (a 3 5) wo) := fun {d so wo} hs hd => by
    rw [hd, z0 so wo hs]
    exact ⟨⟨fun q => absurd q (by decide), fun q => (hs q.1).elim⟩, ⟨fun q => absurd q (by decide), fun q => (hs q.1).elim⟩, ⟨fun q => absurd q (by decide), fun q => (hs q.1).elim⟩, ⟨fun q => absurd q (by decide), fun q => (hs q.1).elim⟩, ⟨fun q => absurd q (by decide), fun q => (hs q.1).elim⟩, ⟨fun q => absurd q (by decide), fun q => (hs q.1).elim⟩, ⟨fun q => absurd q (by decide), fun q => (hs q.1).elim⟩, ⟨fun q => absurd q (by decide), fun q => (hs q.1).elim⟩, ⟨fun q => absurd q (by decide), fun q => (hs q.1).elim⟩, ⟨fun q => absurd q (by decide), fun q => (hs q.1).elim⟩, ⟨fun q => absurd q (by decide), fun q => (hs q.1).elim⟩, ⟨fun q => absurd q (by decide), fun q => (hs q.1).elim⟩, ⟨fun q => absurd q (by decide), fun q => (q rfl).elim⟩, fun q => absurd q (by decide)⟩
  rcases h8 with ⟨k1, k2, k3⟩ | ⟨k0, k1, k2, ⟨k3, k4, k5⟩ | ⟨k3, k4, k5, k6⟩ | ⟨k3, k4, k5, k6⟩ | ⟨k3, k4, k5, k6⟩⟩
  · exact fin (by omega) k3
  · exact fin (by omega) k5
  · have m := zWd_m k6
    have n := zmNi_k (b 93 12)
    rw [k5, k4]
    refine ⟨⟨fun q => ⟨rfl, m.1.mp (by omega)⟩, fun q => by have := m.1.mpr q.2; omega⟩, ⟨fun q => ⟨rfl, m.2.1.mp (by omega)⟩, fun q => by have := m.2.1.mpr q.2; omega⟩, ⟨fun q => ⟨rfl, m.2.2.1.mp (by omega)⟩, fun q => by have := m.2.2.1.mpr q.2; omega⟩, ⟨fun q => ⟨rfl, m.2.2.2.1.mp (by omega)⟩, fun q => by have := m.2.2.2.1.mpr q.2; omega⟩, ⟨fun q => ⟨rfl, m.2.2.2.2.1.mp (by omega)⟩, fun q => by have := m.2.2.2.2.1.mpr q.2; omega⟩, ⟨fun q => ⟨rfl, m.2.2.2.2.2.1.mp (by omega)⟩, fun q => by have := m.2.2.2.2.2.1.mpr q.2; omega⟩, ⟨fun q => ⟨rfl, m.2.2.2.2.2.2.1.mp (by omega)⟩, fun q => by have := m.2.2.2.2.2.2.1.mpr q.2; omega⟩, ⟨fun q => ⟨rfl, m.2.2.2.2.2.2.2.1.mp (by omega)⟩, fun q => by have := m.2.2.2.2.2.2.2.1.mpr q.2; omega⟩, ⟨fun q => ⟨rfl, m.2.2.2.2.2.2.2.2.1.mp (by omega)⟩, fun q => by have := m.2.2.2.2.2.2.2.2.1.mpr q.2; omega⟩, ⟨fun q => ⟨rfl, m.2.2.2.2.2.2.2.2.2.1.mp (by omega)⟩, fun q => by have := m.2.2.2.2.2.2.2.2.2.1.mpr q.2; omega⟩, ⟨fun q => ⟨rfl, m.2.2.2.2.2.2.2.2.2.2.1.mp (by omega)⟩, fun q => by have := m.2.2.2.2.2.2.2.2.2.2.1.mpr q.2; omega⟩, ⟨fun q => ⟨rfl, m.2.2.2.2.2.2.2.2.2.2.2.1.mp (by omega)⟩, fun q => by have := m.2.2.2.2.2.2.2.2.2.2.2.1.mpr q.2; omega⟩, ⟨fun q g => m.2.2.2.2.2.2.2.2.2.2.2.2.mp (by omega) (n.mp g), fun q => by have := m.2.2.2.2.2.2.2.2.2.2.2.2.mpr fun g => q (n.mpr g); omega⟩, fun q => ⟨rfl, k3, k6⟩⟩
  · exact fin (by omega) k5
  · exact fin (by omega) k6
