/-! ===== class and model begin the same script (written by wip/whole/gen_c.py) ===== -/
/-- the whole reading of a script, class and model -/
theorem zJscr {a b : zW} (h : zTt a b) (hN : a 4 0 = b 95 0 ∧ (0 ≤ b 95 0 ∧ b 95 0 ≤ 12) ∧ ∀ c : Int, 0 ≤ c → c < b 95 0 → znm (a 5 c.toNat) (b 101 c.toNat)) :
    zSe 800 (zms0 b) ∧ zOs (zkL 800 (zsc0 a)) (zSL 800 (zms0 b)) := by
  have s : zSy (zad (zupd (zupd (zupd (zupd (zupd (zupd a 23 6 0) 23 7 0) 23 8 0) 3 7 0) 3 8 (-1)) 3 3 0)) (zmgo (zupd (zupd (zupd (zupd (zupd b 93 3 (b 93 2)) 93 2 0) 93 4 0) 93 8 0) 93 9 (-1))) := zSy_ad (a := (zupd (zupd (zupd (zupd (zupd (zupd a 23 6 0) 23 7 0) 23 8 0) 3 7 0) 3 8 (-1)) 3 3 0)) (b := (zupd (zupd (zupd (zupd (zupd b 93 3 (b 93 2)) 93 2 0) 93 4 0) 93 8 0) 93 9 (-1))) ⟨h.2.1.1, h.2.1.2, h.1⟩ (fun i => zTt_T h i) rfl ⟨(by decide : (0 : Int) ≤ 0), h.2.1.1⟩
  have s2 : zSy (zsc0 a) (zms0 b) := s.tb rfl rfl rfl rfl rfl rfl rfl
  have q : zSq (zsc0 a) (zms0 b) := ⟨⟨rfl, rfl, rfl⟩, hN, (by decide : (0 : Int) ≤ 0), fun i hi => absurd (show (i : Int) < 0 from hi) (by omega), rfl, fun j hj => absurd (show (j : Int) < 0 from hj) (by omega)⟩
  have m := (zad_mo (zupd (zupd (zupd (zupd (zupd (zupd a 23 6 0) 23 7 0) 23 8 0) 3 7 0) 3 8 (-1)) 3 3 0)).1
  have m0 : 0 ≤ zsc0 a 3 2 := m
  have e11 : zsc0 a 1 1 = a 1 1 := rfl
  have h1 := h.2.1
  have ss := zst_rg (zTy (a 2) (a 1 1)) (p := 0) (n := a 1 1) h1.1
  have e32 : zsc0 a 3 2 = zst (zTy (a 2) (a 1 1)) (a 1 1) 0 := rfl
  have r := zJX 800 800 2 (zsc0 a) (zms0 b) s2 rfl q (zsc0_SK a) (by rw [e11, e32]; exact ss.2) (by omega) (Or.inr ⟨rfl, by omega⟩) (by decide : (0 : Int) ≤ 2)
  have c0 : zCl 2 (zms0 b) = zms0 b := zCl_s (fun x => absurd (show (0 : Int) < 0 from x.1) (by decide)) 2
  rw [c0] at r
  exact r
