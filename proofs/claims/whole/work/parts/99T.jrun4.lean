/-! ===== a script read alike is in order (written by wip/whole/gen_c.py) ===== -/
theorem zSq.sg {a b : zW} (q : zSq a b) (h8 : a 23 8 = 0) (h6 : a 23 6 ≤ 60) (e95 : a 95 0 = b 95 0) : zsG a := by
  have hw := q.wf h8 h6
  have q0 := q.2.2.1
  refine ⟨⟨q0, h6⟩, fun i i0 i1 => ?_⟩
  have ci : ((i.toNat : Nat) : Int) = i := by omega
  have e := q.2.2.2.1 i.toNat (by omega)
  have e1 := e.1
  have rg : 0 ≤ b 109 i.toNat ∧ b 109 i.toNat ≤ 7 := by
    rcases e.2 with x | x | x | x | x | x | x
    · have := x.1; omega
    · have := x.1; omega
    · have := x.1; omega
    · have := x.1; omega
    · omega
    · have := x.1; omega
    · have := x.1; omega
  refine ⟨by omega, fun c => ?_, fun c => ?_⟩
  · have w1 := hw.1 i.toNat (by omega) c
    have hb := zsl_b (V := a 24) i.toNat (fun j hj x => (hw.1 j (by omega) x).1) (zdp (a 24) i.toNat - 1) (by omega) (by omega)
    rw [w1.2]
    omega
  · have ar := (q.ar (k := i.toNat) (by omega) (by omega) (by omega)).1
    rw [← e95] at ar
    have A := ar.a
    rw [← e1] at A
    exact A
