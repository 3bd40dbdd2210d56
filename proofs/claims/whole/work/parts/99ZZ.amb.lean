/-! ===== what the tables and the start say (written by wip/whole/gen_c.py) ===== -/
abbrev zG : Cond := Jvm.Cond.and given_1 narrow_1
abbrev zkFl (C f d : String) : Prop := Cond.lays C C f d ∈ lw_tbl ∨ Cond.laysFinal C C f d ∈ lw_tbl
theorem zkf_0_0 : ∀ q, vwCl[0]? = some q → (q.2.1 0).1 = q.1 ∧ zkFl q.1 (q.2.1 0).2.1 (q.2.1 0).2.2.1 := fun q h => by cases h; exact ⟨rfl, Or.inr (List.mem_of_getElem? (i := 395) (by decide +kernel))⟩
theorem zkf_0_1 : ∀ q, vwCl[0]? = some q → (q.2.1 1).1 = q.1 ∧ zkFl q.1 (q.2.1 1).2.1 (q.2.1 1).2.2.1 := fun q h => by cases h; exact ⟨rfl, Or.inl (List.mem_of_getElem? (i := 397) (by decide +kernel))⟩
theorem zkf_0_2 : ∀ q, vwCl[0]? = some q → (q.2.1 2).1 = q.1 ∧ zkFl q.1 (q.2.1 2).2.1 (q.2.1 2).2.2.1 := fun q h => by cases h; exact ⟨rfl, Or.inl (List.mem_of_getElem? (i := 399) (by decide +kernel))⟩
theorem zkc_0 : ∀ q, vwCl[0]? = some q → Cond.instantiable q.1 q.2.2 ∈ lw_tbl ∧ ∀ k, k < q.2.2 → (q.2.1 k).1 = q.1 ∧ zkFl q.1 (q.2.1 k).2.1 (q.2.1 k).2.2.1 := fun q h => by
  have h0 := h
  have n : q.2.2 = 3 := by cases h0; rfl
  refine ⟨by cases h0; exact List.mem_of_getElem? (i := 383) (by decide +kernel), fun k hk => ?_⟩
  rw [n] at hk
  by_cases e0 : k = 0
  · rw [e0]; exact zkf_0_0 q h
  by_cases e1 : k = 1
  · rw [e1]; exact zkf_0_1 q h
  by_cases e2 : k = 2
  · rw [e2]; exact zkf_0_2 q h
  omega
theorem zkf_1_0 : ∀ q, vwCl[1]? = some q → (q.2.1 0).1 = q.1 ∧ zkFl q.1 (q.2.1 0).2.1 (q.2.1 0).2.2.1 := fun q h => by cases h; exact ⟨rfl, Or.inr (List.mem_of_getElem? (i := 377) (by decide +kernel))⟩
theorem zkf_1_1 : ∀ q, vwCl[1]? = some q → (q.2.1 1).1 = q.1 ∧ zkFl q.1 (q.2.1 1).2.1 (q.2.1 1).2.2.1 := fun q h => by cases h; exact ⟨rfl, Or.inr (List.mem_of_getElem? (i := 379) (by decide +kernel))⟩
theorem zkc_1 : ∀ q, vwCl[1]? = some q → Cond.instantiable q.1 q.2.2 ∈ lw_tbl ∧ ∀ k, k < q.2.2 → (q.2.1 k).1 = q.1 ∧ zkFl q.1 (q.2.1 k).2.1 (q.2.1 k).2.2.1 := fun q h => by
  have h0 := h
  have n : q.2.2 = 2 := by cases h0; rfl
  refine ⟨by cases h0; exact List.mem_of_getElem? (i := 370) (by decide +kernel), fun k hk => ?_⟩
  rw [n] at hk
  by_cases e0 : k = 0
  · rw [e0]; exact zkf_1_0 q h
  by_cases e1 : k = 1
  · rw [e1]; exact zkf_1_1 q h
  omega
theorem zkf_2_0 : ∀ q, vwCl[2]? = some q → (q.2.1 0).1 = q.1 ∧ zkFl q.1 (q.2.1 0).2.1 (q.2.1 0).2.2.1 := fun q h => by cases h; exact ⟨rfl, Or.inl (List.mem_of_getElem? (i := 244) (by decide +kernel))⟩
theorem zkf_2_1 : ∀ q, vwCl[2]? = some q → (q.2.1 1).1 = q.1 ∧ zkFl q.1 (q.2.1 1).2.1 (q.2.1 1).2.2.1 := fun q h => by cases h; exact ⟨rfl, Or.inl (List.mem_of_getElem? (i := 246) (by decide +kernel))⟩
theorem zkf_2_2 : ∀ q, vwCl[2]? = some q → (q.2.1 2).1 = q.1 ∧ zkFl q.1 (q.2.1 2).2.1 (q.2.1 2).2.2.1 := fun q h => by cases h; exact ⟨rfl, Or.inl (List.mem_of_getElem? (i := 248) (by decide +kernel))⟩
theorem zkf_2_3 : ∀ q, vwCl[2]? = some q → (q.2.1 3).1 = q.1 ∧ zkFl q.1 (q.2.1 3).2.1 (q.2.1 3).2.2.1 := fun q h => by cases h; exact ⟨rfl, Or.inr (List.mem_of_getElem? (i := 250) (by decide +kernel))⟩
theorem zkf_2_4 : ∀ q, vwCl[2]? = some q → (q.2.1 4).1 = q.1 ∧ zkFl q.1 (q.2.1 4).2.1 (q.2.1 4).2.2.1 := fun q h => by cases h; exact ⟨rfl, Or.inr (List.mem_of_getElem? (i := 252) (by decide +kernel))⟩
theorem zkf_2_5 : ∀ q, vwCl[2]? = some q → (q.2.1 5).1 = q.1 ∧ zkFl q.1 (q.2.1 5).2.1 (q.2.1 5).2.2.1 := fun q h => by cases h; exact ⟨rfl, Or.inr (List.mem_of_getElem? (i := 254) (by decide +kernel))⟩
theorem zkf_2_6 : ∀ q, vwCl[2]? = some q → (q.2.1 6).1 = q.1 ∧ zkFl q.1 (q.2.1 6).2.1 (q.2.1 6).2.2.1 := fun q h => by cases h; exact ⟨rfl, Or.inr (List.mem_of_getElem? (i := 256) (by decide +kernel))⟩
theorem zkf_2_7 : ∀ q, vwCl[2]? = some q → (q.2.1 7).1 = q.1 ∧ zkFl q.1 (q.2.1 7).2.1 (q.2.1 7).2.2.1 := fun q h => by cases h; exact ⟨rfl, Or.inr (List.mem_of_getElem? (i := 258) (by decide +kernel))⟩
theorem zkf_2_8 : ∀ q, vwCl[2]? = some q → (q.2.1 8).1 = q.1 ∧ zkFl q.1 (q.2.1 8).2.1 (q.2.1 8).2.2.1 := fun q h => by cases h; exact ⟨rfl, Or.inr (List.mem_of_getElem? (i := 260) (by decide +kernel))⟩
theorem zkf_2_9 : ∀ q, vwCl[2]? = some q → (q.2.1 9).1 = q.1 ∧ zkFl q.1 (q.2.1 9).2.1 (q.2.1 9).2.2.1 := fun q h => by cases h; exact ⟨rfl, Or.inr (List.mem_of_getElem? (i := 262) (by decide +kernel))⟩
theorem zkf_2_10 : ∀ q, vwCl[2]? = some q → (q.2.1 10).1 = q.1 ∧ zkFl q.1 (q.2.1 10).2.1 (q.2.1 10).2.2.1 := fun q h => by cases h; exact ⟨rfl, Or.inr (List.mem_of_getElem? (i := 264) (by decide +kernel))⟩
theorem zkc_2 : ∀ q, vwCl[2]? = some q → Cond.instantiable q.1 q.2.2 ∈ lw_tbl ∧ ∀ k, k < q.2.2 → (q.2.1 k).1 = q.1 ∧ zkFl q.1 (q.2.1 k).2.1 (q.2.1 k).2.2.1 := fun q h => by
  have h0 := h
  have n : q.2.2 = 11 := by cases h0; rfl
  refine ⟨by cases h0; exact List.mem_of_getElem? (i := 213) (by decide +kernel), fun k hk => ?_⟩
  rw [n] at hk
  by_cases e0 : k = 0
  · rw [e0]; exact zkf_2_0 q h
  by_cases e1 : k = 1
  · rw [e1]; exact zkf_2_1 q h
  by_cases e2 : k = 2
  · rw [e2]; exact zkf_2_2 q h
  by_cases e3 : k = 3
  · rw [e3]; exact zkf_2_3 q h
  by_cases e4 : k = 4
  · rw [e4]; exact zkf_2_4 q h
  by_cases e5 : k = 5
  · rw [e5]; exact zkf_2_5 q h
  by_cases e6 : k = 6
  · rw [e6]; exact zkf_2_6 q h
  by_cases e7 : k = 7
  · rw [e7]; exact zkf_2_7 q h
  by_cases e8 : k = 8
  · rw [e8]; exact zkf_2_8 q h
  by_cases e9 : k = 9
  · rw [e9]; exact zkf_2_9 q h
  by_cases e10 : k = 10
  · rw [e10]; exact zkf_2_10 q h
  omega
theorem zkf_3_0 : ∀ q, vwCl[3]? = some q → (q.2.1 0).1 = q.1 ∧ zkFl q.1 (q.2.1 0).2.1 (q.2.1 0).2.2.1 := fun q h => by cases h; exact ⟨rfl, Or.inr (List.mem_of_getElem? (i := 284) (by decide +kernel))⟩
theorem zkf_3_1 : ∀ q, vwCl[3]? = some q → (q.2.1 1).1 = q.1 ∧ zkFl q.1 (q.2.1 1).2.1 (q.2.1 1).2.2.1 := fun q h => by cases h; exact ⟨rfl, Or.inr (List.mem_of_getElem? (i := 286) (by decide +kernel))⟩
theorem zkf_3_2 : ∀ q, vwCl[3]? = some q → (q.2.1 2).1 = q.1 ∧ zkFl q.1 (q.2.1 2).2.1 (q.2.1 2).2.2.1 := fun q h => by cases h; exact ⟨rfl, Or.inl (List.mem_of_getElem? (i := 288) (by decide +kernel))⟩
theorem zkf_3_3 : ∀ q, vwCl[3]? = some q → (q.2.1 3).1 = q.1 ∧ zkFl q.1 (q.2.1 3).2.1 (q.2.1 3).2.2.1 := fun q h => by cases h; exact ⟨rfl, Or.inl (List.mem_of_getElem? (i := 290) (by decide +kernel))⟩
theorem zkc_3 : ∀ q, vwCl[3]? = some q → Cond.instantiable q.1 q.2.2 ∈ lw_tbl ∧ ∀ k, k < q.2.2 → (q.2.1 k).1 = q.1 ∧ zkFl q.1 (q.2.1 k).2.1 (q.2.1 k).2.2.1 := fun q h => by
  have h0 := h
  have n : q.2.2 = 4 := by cases h0; rfl
  refine ⟨by cases h0; exact List.mem_of_getElem? (i := 271) (by decide +kernel), fun k hk => ?_⟩
  rw [n] at hk
  by_cases e0 : k = 0
  · rw [e0]; exact zkf_3_0 q h
  by_cases e1 : k = 1
  · rw [e1]; exact zkf_3_1 q h
  by_cases e2 : k = 2
  · rw [e2]; exact zkf_3_2 q h
  by_cases e3 : k = 3
  · rw [e3]; exact zkf_3_3 q h
  omega
theorem zkf_4_0 : ∀ q, vwCl[4]? = some q → (q.2.1 0).1 = q.1 ∧ zkFl q.1 (q.2.1 0).2.1 (q.2.1 0).2.2.1 := fun q h => by cases h; exact ⟨rfl, Or.inr (List.mem_of_getElem? (i := 343) (by decide +kernel))⟩
theorem zkf_4_1 : ∀ q, vwCl[4]? = some q → (q.2.1 1).1 = q.1 ∧ zkFl q.1 (q.2.1 1).2.1 (q.2.1 1).2.2.1 := fun q h => by cases h; exact ⟨rfl, Or.inr (List.mem_of_getElem? (i := 345) (by decide +kernel))⟩
theorem zkf_4_2 : ∀ q, vwCl[4]? = some q → (q.2.1 2).1 = q.1 ∧ zkFl q.1 (q.2.1 2).2.1 (q.2.1 2).2.2.1 := fun q h => by cases h; exact ⟨rfl, Or.inr (List.mem_of_getElem? (i := 347) (by decide +kernel))⟩
theorem zkf_4_3 : ∀ q, vwCl[4]? = some q → (q.2.1 3).1 = q.1 ∧ zkFl q.1 (q.2.1 3).2.1 (q.2.1 3).2.2.1 := fun q h => by cases h; exact ⟨rfl, Or.inr (List.mem_of_getElem? (i := 349) (by decide +kernel))⟩
theorem zkf_4_4 : ∀ q, vwCl[4]? = some q → (q.2.1 4).1 = q.1 ∧ zkFl q.1 (q.2.1 4).2.1 (q.2.1 4).2.2.1 := fun q h => by cases h; exact ⟨rfl, Or.inr (List.mem_of_getElem? (i := 351) (by decide +kernel))⟩
theorem zkf_4_5 : ∀ q, vwCl[4]? = some q → (q.2.1 5).1 = q.1 ∧ zkFl q.1 (q.2.1 5).2.1 (q.2.1 5).2.2.1 := fun q h => by cases h; exact ⟨rfl, Or.inl (List.mem_of_getElem? (i := 353) (by decide +kernel))⟩
theorem zkc_4 : ∀ q, vwCl[4]? = some q → Cond.instantiable q.1 q.2.2 ∈ lw_tbl ∧ ∀ k, k < q.2.2 → (q.2.1 k).1 = q.1 ∧ zkFl q.1 (q.2.1 k).2.1 (q.2.1 k).2.2.1 := fun q h => by
  have h0 := h
  have n : q.2.2 = 6 := by cases h0; rfl
  refine ⟨by cases h0; exact List.mem_of_getElem? (i := 331) (by decide +kernel), fun k hk => ?_⟩
  rw [n] at hk
  by_cases e0 : k = 0
  · rw [e0]; exact zkf_4_0 q h
  by_cases e1 : k = 1
  · rw [e1]; exact zkf_4_1 q h
  by_cases e2 : k = 2
  · rw [e2]; exact zkf_4_2 q h
  by_cases e3 : k = 3
  · rw [e3]; exact zkf_4_3 q h
  by_cases e4 : k = 4
  · rw [e4]; exact zkf_4_4 q h
  by_cases e5 : k = 5
  · rw [e5]; exact zkf_4_5 q h
  omega
theorem zkf_5_0 : ∀ q, vwCl[5]? = some q → (q.2.1 0).1 = q.1 ∧ zkFl q.1 (q.2.1 0).2.1 (q.2.1 0).2.2.1 := fun q h => by cases h; exact ⟨rfl, Or.inr (List.mem_of_getElem? (i := 411) (by decide +kernel))⟩
theorem zkf_5_1 : ∀ q, vwCl[5]? = some q → (q.2.1 1).1 = q.1 ∧ zkFl q.1 (q.2.1 1).2.1 (q.2.1 1).2.2.1 := fun q h => by cases h; exact ⟨rfl, Or.inl (List.mem_of_getElem? (i := 413) (by decide +kernel))⟩
theorem zkc_5 : ∀ q, vwCl[5]? = some q → Cond.instantiable q.1 q.2.2 ∈ lw_tbl ∧ ∀ k, k < q.2.2 → (q.2.1 k).1 = q.1 ∧ zkFl q.1 (q.2.1 k).2.1 (q.2.1 k).2.2.1 := fun q h => by
  have h0 := h
  have n : q.2.2 = 2 := by cases h0; rfl
  refine ⟨by cases h0; exact List.mem_of_getElem? (i := 403) (by decide +kernel), fun k hk => ?_⟩
  rw [n] at hk
  by_cases e0 : k = 0
  · rw [e0]; exact zkf_5_0 q h
  by_cases e1 : k = 1
  · rw [e1]; exact zkf_5_1 q h
  omega
theorem zkf_6_0 : ∀ q, vwCl[6]? = some q → (q.2.1 0).1 = q.1 ∧ zkFl q.1 (q.2.1 0).2.1 (q.2.1 0).2.2.1 := fun q h => by cases h; exact ⟨rfl, Or.inr (List.mem_of_getElem? (i := 311) (by decide +kernel))⟩
theorem zkf_6_1 : ∀ q, vwCl[6]? = some q → (q.2.1 1).1 = q.1 ∧ zkFl q.1 (q.2.1 1).2.1 (q.2.1 1).2.2.1 := fun q h => by cases h; exact ⟨rfl, Or.inr (List.mem_of_getElem? (i := 313) (by decide +kernel))⟩
theorem zkf_6_2 : ∀ q, vwCl[6]? = some q → (q.2.1 2).1 = q.1 ∧ zkFl q.1 (q.2.1 2).2.1 (q.2.1 2).2.2.1 := fun q h => by cases h; exact ⟨rfl, Or.inr (List.mem_of_getElem? (i := 315) (by decide +kernel))⟩
theorem zkf_6_3 : ∀ q, vwCl[6]? = some q → (q.2.1 3).1 = q.1 ∧ zkFl q.1 (q.2.1 3).2.1 (q.2.1 3).2.2.1 := fun q h => by cases h; exact ⟨rfl, Or.inr (List.mem_of_getElem? (i := 317) (by decide +kernel))⟩
theorem zkf_6_4 : ∀ q, vwCl[6]? = some q → (q.2.1 4).1 = q.1 ∧ zkFl q.1 (q.2.1 4).2.1 (q.2.1 4).2.2.1 := fun q h => by cases h; exact ⟨rfl, Or.inr (List.mem_of_getElem? (i := 319) (by decide +kernel))⟩
theorem zkf_6_5 : ∀ q, vwCl[6]? = some q → (q.2.1 5).1 = q.1 ∧ zkFl q.1 (q.2.1 5).2.1 (q.2.1 5).2.2.1 := fun q h => by cases h; exact ⟨rfl, Or.inr (List.mem_of_getElem? (i := 321) (by decide +kernel))⟩
theorem zkf_6_6 : ∀ q, vwCl[6]? = some q → (q.2.1 6).1 = q.1 ∧ zkFl q.1 (q.2.1 6).2.1 (q.2.1 6).2.2.1 := fun q h => by cases h; exact ⟨rfl, Or.inl (List.mem_of_getElem? (i := 323) (by decide +kernel))⟩
theorem zkf_6_7 : ∀ q, vwCl[6]? = some q → (q.2.1 7).1 = q.1 ∧ zkFl q.1 (q.2.1 7).2.1 (q.2.1 7).2.2.1 := fun q h => by cases h; exact ⟨rfl, Or.inl (List.mem_of_getElem? (i := 325) (by decide +kernel))⟩
theorem zkf_6_8 : ∀ q, vwCl[6]? = some q → (q.2.1 8).1 = q.1 ∧ zkFl q.1 (q.2.1 8).2.1 (q.2.1 8).2.2.1 := fun q h => by cases h; exact ⟨rfl, Or.inl (List.mem_of_getElem? (i := 327) (by decide +kernel))⟩
theorem zkc_6 : ∀ q, vwCl[6]? = some q → Cond.instantiable q.1 q.2.2 ∈ lw_tbl ∧ ∀ k, k < q.2.2 → (q.2.1 k).1 = q.1 ∧ zkFl q.1 (q.2.1 k).2.1 (q.2.1 k).2.2.1 := fun q h => by
  have h0 := h
  have n : q.2.2 = 9 := by cases h0; rfl
  refine ⟨by cases h0; exact List.mem_of_getElem? (i := 294) (by decide +kernel), fun k hk => ?_⟩
  rw [n] at hk
  by_cases e0 : k = 0
  · rw [e0]; exact zkf_6_0 q h
  by_cases e1 : k = 1
  · rw [e1]; exact zkf_6_1 q h
  by_cases e2 : k = 2
  · rw [e2]; exact zkf_6_2 q h
  by_cases e3 : k = 3
  · rw [e3]; exact zkf_6_3 q h
  by_cases e4 : k = 4
  · rw [e4]; exact zkf_6_4 q h
  by_cases e5 : k = 5
  · rw [e5]; exact zkf_6_5 q h
  by_cases e6 : k = 6
  · rw [e6]; exact zkf_6_6 q h
  by_cases e7 : k = 7
  · rw [e7]; exact zkf_6_7 q h
  by_cases e8 : k = 8
  · rw [e8]; exact zkf_6_8 q h
  omega
theorem zkf_7_0 : ∀ q, vwCl[7]? = some q → (q.2.1 0).1 = q.1 ∧ zkFl q.1 (q.2.1 0).2.1 (q.2.1 0).2.2.1 := fun q h => by cases h; exact ⟨rfl, Or.inr (List.mem_of_getElem? (i := 364) (by decide +kernel))⟩
theorem zkf_7_1 : ∀ q, vwCl[7]? = some q → (q.2.1 1).1 = q.1 ∧ zkFl q.1 (q.2.1 1).2.1 (q.2.1 1).2.2.1 := fun q h => by cases h; exact ⟨rfl, Or.inr (List.mem_of_getElem? (i := 366) (by decide +kernel))⟩
theorem zkc_7 : ∀ q, vwCl[7]? = some q → Cond.instantiable q.1 q.2.2 ∈ lw_tbl ∧ ∀ k, k < q.2.2 → (q.2.1 k).1 = q.1 ∧ zkFl q.1 (q.2.1 k).2.1 (q.2.1 k).2.2.1 := fun q h => by
  have h0 := h
  have n : q.2.2 = 2 := by cases h0; rfl
  refine ⟨by cases h0; exact List.mem_of_getElem? (i := 357) (by decide +kernel), fun k hk => ?_⟩
  rw [n] at hk
  by_cases e0 : k = 0
  · rw [e0]; exact zkf_7_0 q h
  by_cases e1 : k = 1
  · rw [e1]; exact zkf_7_1 q h
  omega
theorem zkf_8_0 : ∀ q, vwCl[8]? = some q → (q.2.1 0).1 = q.1 ∧ zkFl q.1 (q.2.1 0).2.1 (q.2.1 0).2.2.1 := fun q h => by cases h; exact ⟨rfl, Or.inr (List.mem_of_getElem? (i := 160) (by decide +kernel))⟩
theorem zkf_8_1 : ∀ q, vwCl[8]? = some q → (q.2.1 1).1 = q.1 ∧ zkFl q.1 (q.2.1 1).2.1 (q.2.1 1).2.2.1 := fun q h => by cases h; exact ⟨rfl, Or.inl (List.mem_of_getElem? (i := 162) (by decide +kernel))⟩
theorem zkc_8 : ∀ q, vwCl[8]? = some q → Cond.instantiable q.1 q.2.2 ∈ lw_tbl ∧ ∀ k, k < q.2.2 → (q.2.1 k).1 = q.1 ∧ zkFl q.1 (q.2.1 k).2.1 (q.2.1 k).2.2.1 := fun q h => by
  have h0 := h
  have n : q.2.2 = 2 := by cases h0; rfl
  refine ⟨by cases h0; exact List.mem_of_getElem? (i := 151) (by decide +kernel), fun k hk => ?_⟩
  rw [n] at hk
  by_cases e0 : k = 0
  · rw [e0]; exact zkf_8_0 q h
  by_cases e1 : k = 1
  · rw [e1]; exact zkf_8_1 q h
  omega
theorem zkf_9_0 : ∀ q, vwCl[9]? = some q → (q.2.1 0).1 = q.1 ∧ zkFl q.1 (q.2.1 0).2.1 (q.2.1 0).2.2.1 := fun q h => by cases h; exact ⟨rfl, Or.inr (List.mem_of_getElem? (i := 193) (by decide +kernel))⟩
theorem zkf_9_1 : ∀ q, vwCl[9]? = some q → (q.2.1 1).1 = q.1 ∧ zkFl q.1 (q.2.1 1).2.1 (q.2.1 1).2.2.1 := fun q h => by cases h; exact ⟨rfl, Or.inl (List.mem_of_getElem? (i := 195) (by decide +kernel))⟩
theorem zkf_9_2 : ∀ q, vwCl[9]? = some q → (q.2.1 2).1 = q.1 ∧ zkFl q.1 (q.2.1 2).2.1 (q.2.1 2).2.2.1 := fun q h => by cases h; exact ⟨rfl, Or.inl (List.mem_of_getElem? (i := 197) (by decide +kernel))⟩
theorem zkf_9_3 : ∀ q, vwCl[9]? = some q → (q.2.1 3).1 = q.1 ∧ zkFl q.1 (q.2.1 3).2.1 (q.2.1 3).2.2.1 := fun q h => by cases h; exact ⟨rfl, Or.inl (List.mem_of_getElem? (i := 199) (by decide +kernel))⟩
theorem zkf_9_4 : ∀ q, vwCl[9]? = some q → (q.2.1 4).1 = q.1 ∧ zkFl q.1 (q.2.1 4).2.1 (q.2.1 4).2.2.1 := fun q h => by cases h; exact ⟨rfl, Or.inl (List.mem_of_getElem? (i := 201) (by decide +kernel))⟩
theorem zkf_9_5 : ∀ q, vwCl[9]? = some q → (q.2.1 5).1 = q.1 ∧ zkFl q.1 (q.2.1 5).2.1 (q.2.1 5).2.2.1 := fun q h => by cases h; exact ⟨rfl, Or.inl (List.mem_of_getElem? (i := 203) (by decide +kernel))⟩
theorem zkf_9_6 : ∀ q, vwCl[9]? = some q → (q.2.1 6).1 = q.1 ∧ zkFl q.1 (q.2.1 6).2.1 (q.2.1 6).2.2.1 := fun q h => by cases h; exact ⟨rfl, Or.inl (List.mem_of_getElem? (i := 205) (by decide +kernel))⟩
theorem zkf_9_7 : ∀ q, vwCl[9]? = some q → (q.2.1 7).1 = q.1 ∧ zkFl q.1 (q.2.1 7).2.1 (q.2.1 7).2.2.1 := fun q h => by cases h; exact ⟨rfl, Or.inl (List.mem_of_getElem? (i := 207) (by decide +kernel))⟩
theorem zkf_9_8 : ∀ q, vwCl[9]? = some q → (q.2.1 8).1 = q.1 ∧ zkFl q.1 (q.2.1 8).2.1 (q.2.1 8).2.2.1 := fun q h => by cases h; exact ⟨rfl, Or.inl (List.mem_of_getElem? (i := 209) (by decide +kernel))⟩
theorem zkc_9 : ∀ q, vwCl[9]? = some q → Cond.instantiable q.1 q.2.2 ∈ lw_tbl ∧ ∀ k, k < q.2.2 → (q.2.1 k).1 = q.1 ∧ zkFl q.1 (q.2.1 k).2.1 (q.2.1 k).2.2.1 := fun q h => by
  have h0 := h
  have n : q.2.2 = 9 := by cases h0; rfl
  refine ⟨by cases h0; exact List.mem_of_getElem? (i := 167) (by decide +kernel), fun k hk => ?_⟩
  rw [n] at hk
  by_cases e0 : k = 0
  · rw [e0]; exact zkf_9_0 q h
  by_cases e1 : k = 1
  · rw [e1]; exact zkf_9_1 q h
  by_cases e2 : k = 2
  · rw [e2]; exact zkf_9_2 q h
  by_cases e3 : k = 3
  · rw [e3]; exact zkf_9_3 q h
  by_cases e4 : k = 4
  · rw [e4]; exact zkf_9_4 q h
  by_cases e5 : k = 5
  · rw [e5]; exact zkf_9_5 q h
  by_cases e6 : k = 6
  · rw [e6]; exact zkf_9_6 q h
  by_cases e7 : k = 7
  · rw [e7]; exact zkf_9_7 q h
  by_cases e8 : k = 8
  · rw [e8]; exact zkf_9_8 q h
  omega
theorem zkf_10_0 : ∀ q, vwCl[10]? = some q → (q.2.1 0).1 = q.1 ∧ zkFl q.1 (q.2.1 0).2.1 (q.2.1 0).2.2.1 := fun q h => by cases h; exact ⟨rfl, Or.inr (List.mem_of_getElem? (i := 430) (by decide +kernel))⟩
theorem zkf_10_1 : ∀ q, vwCl[10]? = some q → (q.2.1 1).1 = q.1 ∧ zkFl q.1 (q.2.1 1).2.1 (q.2.1 1).2.2.1 := fun q h => by cases h; exact ⟨rfl, Or.inr (List.mem_of_getElem? (i := 432) (by decide +kernel))⟩
theorem zkf_10_2 : ∀ q, vwCl[10]? = some q → (q.2.1 2).1 = q.1 ∧ zkFl q.1 (q.2.1 2).2.1 (q.2.1 2).2.2.1 := fun q h => by cases h; exact ⟨rfl, Or.inr (List.mem_of_getElem? (i := 434) (by decide +kernel))⟩
theorem zkf_10_3 : ∀ q, vwCl[10]? = some q → (q.2.1 3).1 = q.1 ∧ zkFl q.1 (q.2.1 3).2.1 (q.2.1 3).2.2.1 := fun q h => by cases h; exact ⟨rfl, Or.inr (List.mem_of_getElem? (i := 436) (by decide +kernel))⟩
theorem zkf_10_4 : ∀ q, vwCl[10]? = some q → (q.2.1 4).1 = q.1 ∧ zkFl q.1 (q.2.1 4).2.1 (q.2.1 4).2.2.1 := fun q h => by cases h; exact ⟨rfl, Or.inr (List.mem_of_getElem? (i := 438) (by decide +kernel))⟩
theorem zkf_10_5 : ∀ q, vwCl[10]? = some q → (q.2.1 5).1 = q.1 ∧ zkFl q.1 (q.2.1 5).2.1 (q.2.1 5).2.2.1 := fun q h => by cases h; exact ⟨rfl, Or.inr (List.mem_of_getElem? (i := 440) (by decide +kernel))⟩
theorem zkf_10_6 : ∀ q, vwCl[10]? = some q → (q.2.1 6).1 = q.1 ∧ zkFl q.1 (q.2.1 6).2.1 (q.2.1 6).2.2.1 := fun q h => by cases h; exact ⟨rfl, Or.inr (List.mem_of_getElem? (i := 442) (by decide +kernel))⟩
theorem zkf_10_7 : ∀ q, vwCl[10]? = some q → (q.2.1 7).1 = q.1 ∧ zkFl q.1 (q.2.1 7).2.1 (q.2.1 7).2.2.1 := fun q h => by cases h; exact ⟨rfl, Or.inr (List.mem_of_getElem? (i := 444) (by decide +kernel))⟩
theorem zkf_10_8 : ∀ q, vwCl[10]? = some q → (q.2.1 8).1 = q.1 ∧ zkFl q.1 (q.2.1 8).2.1 (q.2.1 8).2.2.1 := fun q h => by cases h; exact ⟨rfl, Or.inr (List.mem_of_getElem? (i := 446) (by decide +kernel))⟩
theorem zkf_10_9 : ∀ q, vwCl[10]? = some q → (q.2.1 9).1 = q.1 ∧ zkFl q.1 (q.2.1 9).2.1 (q.2.1 9).2.2.1 := fun q h => by cases h; exact ⟨rfl, Or.inr (List.mem_of_getElem? (i := 448) (by decide +kernel))⟩
theorem zkf_10_10 : ∀ q, vwCl[10]? = some q → (q.2.1 10).1 = q.1 ∧ zkFl q.1 (q.2.1 10).2.1 (q.2.1 10).2.2.1 := fun q h => by cases h; exact ⟨rfl, Or.inr (List.mem_of_getElem? (i := 450) (by decide +kernel))⟩
theorem zkf_10_11 : ∀ q, vwCl[10]? = some q → (q.2.1 11).1 = q.1 ∧ zkFl q.1 (q.2.1 11).2.1 (q.2.1 11).2.2.1 := fun q h => by cases h; exact ⟨rfl, Or.inr (List.mem_of_getElem? (i := 452) (by decide +kernel))⟩
theorem zkf_10_12 : ∀ q, vwCl[10]? = some q → (q.2.1 12).1 = q.1 ∧ zkFl q.1 (q.2.1 12).2.1 (q.2.1 12).2.2.1 := fun q h => by cases h; exact ⟨rfl, Or.inr (List.mem_of_getElem? (i := 454) (by decide +kernel))⟩
theorem zkf_10_13 : ∀ q, vwCl[10]? = some q → (q.2.1 13).1 = q.1 ∧ zkFl q.1 (q.2.1 13).2.1 (q.2.1 13).2.2.1 := fun q h => by cases h; exact ⟨rfl, Or.inl (List.mem_of_getElem? (i := 456) (by decide +kernel))⟩
theorem zkc_10 : ∀ q, vwCl[10]? = some q → Cond.instantiable q.1 q.2.2 ∈ lw_tbl ∧ ∀ k, k < q.2.2 → (q.2.1 k).1 = q.1 ∧ zkFl q.1 (q.2.1 k).2.1 (q.2.1 k).2.2.1 := fun q h => by
  have h0 := h
  have n : q.2.2 = 14 := by cases h0; rfl
  refine ⟨by cases h0; exact List.mem_of_getElem? (i := 143) (by decide +kernel), fun k hk => ?_⟩
  rw [n] at hk
  by_cases e0 : k = 0
  · rw [e0]; exact zkf_10_0 q h
  by_cases e1 : k = 1
  · rw [e1]; exact zkf_10_1 q h
  by_cases e2 : k = 2
  · rw [e2]; exact zkf_10_2 q h
  by_cases e3 : k = 3
  · rw [e3]; exact zkf_10_3 q h
  by_cases e4 : k = 4
  · rw [e4]; exact zkf_10_4 q h
  by_cases e5 : k = 5
  · rw [e5]; exact zkf_10_5 q h
  by_cases e6 : k = 6
  · rw [e6]; exact zkf_10_6 q h
  by_cases e7 : k = 7
  · rw [e7]; exact zkf_10_7 q h
  by_cases e8 : k = 8
  · rw [e8]; exact zkf_10_8 q h
  by_cases e9 : k = 9
  · rw [e9]; exact zkf_10_9 q h
  by_cases e10 : k = 10
  · rw [e10]; exact zkf_10_10 q h
  by_cases e11 : k = 11
  · rw [e11]; exact zkf_10_11 q h
  by_cases e12 : k = 12
  · rw [e12]; exact zkf_10_12 q h
  by_cases e13 : k = 13
  · rw [e13]; exact zkf_10_13 q h
  omega
theorem zkf_11_0 : ∀ q, vwCl[11]? = some q → (q.2.1 0).1 = q.1 ∧ zkFl q.1 (q.2.1 0).2.1 (q.2.1 0).2.2.1 := fun q h => by cases h; exact ⟨rfl, Or.inl (List.mem_of_getElem? (i := 1623) (by decide +kernel))⟩
theorem zkf_11_1 : ∀ q, vwCl[11]? = some q → (q.2.1 1).1 = q.1 ∧ zkFl q.1 (q.2.1 1).2.1 (q.2.1 1).2.2.1 := fun q h => by cases h; exact ⟨rfl, Or.inr (List.mem_of_getElem? (i := 1625) (by decide +kernel))⟩
theorem zkf_11_2 : ∀ q, vwCl[11]? = some q → (q.2.1 2).1 = q.1 ∧ zkFl q.1 (q.2.1 2).2.1 (q.2.1 2).2.2.1 := fun q h => by cases h; exact ⟨rfl, Or.inl (List.mem_of_getElem? (i := 1627) (by decide +kernel))⟩
theorem zkf_11_3 : ∀ q, vwCl[11]? = some q → (q.2.1 3).1 = q.1 ∧ zkFl q.1 (q.2.1 3).2.1 (q.2.1 3).2.2.1 := fun q h => by cases h; exact ⟨rfl, Or.inl (List.mem_of_getElem? (i := 1629) (by decide +kernel))⟩
theorem zkf_11_4 : ∀ q, vwCl[11]? = some q → (q.2.1 4).1 = q.1 ∧ zkFl q.1 (q.2.1 4).2.1 (q.2.1 4).2.2.1 := fun q h => by cases h; exact ⟨rfl, Or.inl (List.mem_of_getElem? (i := 1631) (by decide +kernel))⟩
theorem zkf_11_5 : ∀ q, vwCl[11]? = some q → (q.2.1 5).1 = q.1 ∧ zkFl q.1 (q.2.1 5).2.1 (q.2.1 5).2.2.1 := fun q h => by cases h; exact ⟨rfl, Or.inl (List.mem_of_getElem? (i := 1633) (by decide +kernel))⟩
theorem zkf_11_6 : ∀ q, vwCl[11]? = some q → (q.2.1 6).1 = q.1 ∧ zkFl q.1 (q.2.1 6).2.1 (q.2.1 6).2.2.1 := fun q h => by cases h; exact ⟨rfl, Or.inl (List.mem_of_getElem? (i := 1635) (by decide +kernel))⟩
theorem zkf_11_7 : ∀ q, vwCl[11]? = some q → (q.2.1 7).1 = q.1 ∧ zkFl q.1 (q.2.1 7).2.1 (q.2.1 7).2.2.1 := fun q h => by cases h; exact ⟨rfl, Or.inl (List.mem_of_getElem? (i := 1637) (by decide +kernel))⟩
theorem zkf_11_8 : ∀ q, vwCl[11]? = some q → (q.2.1 8).1 = q.1 ∧ zkFl q.1 (q.2.1 8).2.1 (q.2.1 8).2.2.1 := fun q h => by cases h; exact ⟨rfl, Or.inl (List.mem_of_getElem? (i := 1639) (by decide +kernel))⟩
theorem zkf_11_9 : ∀ q, vwCl[11]? = some q → (q.2.1 9).1 = q.1 ∧ zkFl q.1 (q.2.1 9).2.1 (q.2.1 9).2.2.1 := fun q h => by cases h; exact ⟨rfl, Or.inl (List.mem_of_getElem? (i := 1641) (by decide +kernel))⟩
theorem zkf_11_10 : ∀ q, vwCl[11]? = some q → (q.2.1 10).1 = q.1 ∧ zkFl q.1 (q.2.1 10).2.1 (q.2.1 10).2.2.1 := fun q h => by cases h; exact ⟨rfl, Or.inl (List.mem_of_getElem? (i := 1643) (by decide +kernel))⟩
theorem zkf_11_11 : ∀ q, vwCl[11]? = some q → (q.2.1 11).1 = q.1 ∧ zkFl q.1 (q.2.1 11).2.1 (q.2.1 11).2.2.1 := fun q h => by cases h; exact ⟨rfl, Or.inl (List.mem_of_getElem? (i := 1645) (by decide +kernel))⟩
theorem zkf_11_12 : ∀ q, vwCl[11]? = some q → (q.2.1 12).1 = q.1 ∧ zkFl q.1 (q.2.1 12).2.1 (q.2.1 12).2.2.1 := fun q h => by cases h; exact ⟨rfl, Or.inl (List.mem_of_getElem? (i := 1647) (by decide +kernel))⟩
theorem zkf_11_13 : ∀ q, vwCl[11]? = some q → (q.2.1 13).1 = q.1 ∧ zkFl q.1 (q.2.1 13).2.1 (q.2.1 13).2.2.1 := fun q h => by cases h; exact ⟨rfl, Or.inr (List.mem_of_getElem? (i := 1649) (by decide +kernel))⟩
theorem zkf_11_14 : ∀ q, vwCl[11]? = some q → (q.2.1 14).1 = q.1 ∧ zkFl q.1 (q.2.1 14).2.1 (q.2.1 14).2.2.1 := fun q h => by cases h; exact ⟨rfl, Or.inr (List.mem_of_getElem? (i := 1651) (by decide +kernel))⟩
theorem zkf_11_15 : ∀ q, vwCl[11]? = some q → (q.2.1 15).1 = q.1 ∧ zkFl q.1 (q.2.1 15).2.1 (q.2.1 15).2.2.1 := fun q h => by cases h; exact ⟨rfl, Or.inr (List.mem_of_getElem? (i := 1653) (by decide +kernel))⟩
theorem zkf_11_16 : ∀ q, vwCl[11]? = some q → (q.2.1 16).1 = q.1 ∧ zkFl q.1 (q.2.1 16).2.1 (q.2.1 16).2.2.1 := fun q h => by cases h; exact ⟨rfl, Or.inr (List.mem_of_getElem? (i := 1655) (by decide +kernel))⟩
theorem zkf_11_17 : ∀ q, vwCl[11]? = some q → (q.2.1 17).1 = q.1 ∧ zkFl q.1 (q.2.1 17).2.1 (q.2.1 17).2.2.1 := fun q h => by cases h; exact ⟨rfl, Or.inr (List.mem_of_getElem? (i := 1657) (by decide +kernel))⟩
theorem zkf_11_18 : ∀ q, vwCl[11]? = some q → (q.2.1 18).1 = q.1 ∧ zkFl q.1 (q.2.1 18).2.1 (q.2.1 18).2.2.1 := fun q h => by cases h; exact ⟨rfl, Or.inr (List.mem_of_getElem? (i := 1659) (by decide +kernel))⟩
theorem zkf_11_19 : ∀ q, vwCl[11]? = some q → (q.2.1 19).1 = q.1 ∧ zkFl q.1 (q.2.1 19).2.1 (q.2.1 19).2.2.1 := fun q h => by cases h; exact ⟨rfl, Or.inr (List.mem_of_getElem? (i := 1661) (by decide +kernel))⟩
theorem zkf_11_20 : ∀ q, vwCl[11]? = some q → (q.2.1 20).1 = q.1 ∧ zkFl q.1 (q.2.1 20).2.1 (q.2.1 20).2.2.1 := fun q h => by cases h; exact ⟨rfl, Or.inr (List.mem_of_getElem? (i := 1663) (by decide +kernel))⟩
theorem zkf_11_21 : ∀ q, vwCl[11]? = some q → (q.2.1 21).1 = q.1 ∧ zkFl q.1 (q.2.1 21).2.1 (q.2.1 21).2.2.1 := fun q h => by cases h; exact ⟨rfl, Or.inr (List.mem_of_getElem? (i := 1665) (by decide +kernel))⟩
theorem zkf_11_22 : ∀ q, vwCl[11]? = some q → (q.2.1 22).1 = q.1 ∧ zkFl q.1 (q.2.1 22).2.1 (q.2.1 22).2.2.1 := fun q h => by cases h; exact ⟨rfl, Or.inr (List.mem_of_getElem? (i := 1667) (by decide +kernel))⟩
theorem zkf_11_23 : ∀ q, vwCl[11]? = some q → (q.2.1 23).1 = q.1 ∧ zkFl q.1 (q.2.1 23).2.1 (q.2.1 23).2.2.1 := fun q h => by cases h; exact ⟨rfl, Or.inr (List.mem_of_getElem? (i := 1669) (by decide +kernel))⟩
theorem zkf_11_24 : ∀ q, vwCl[11]? = some q → (q.2.1 24).1 = q.1 ∧ zkFl q.1 (q.2.1 24).2.1 (q.2.1 24).2.2.1 := fun q h => by cases h; exact ⟨rfl, Or.inl (List.mem_of_getElem? (i := 1671) (by decide +kernel))⟩
theorem zkf_11_25 : ∀ q, vwCl[11]? = some q → (q.2.1 25).1 = q.1 ∧ zkFl q.1 (q.2.1 25).2.1 (q.2.1 25).2.2.1 := fun q h => by cases h; exact ⟨rfl, Or.inl (List.mem_of_getElem? (i := 1673) (by decide +kernel))⟩
theorem zkf_11_26 : ∀ q, vwCl[11]? = some q → (q.2.1 26).1 = q.1 ∧ zkFl q.1 (q.2.1 26).2.1 (q.2.1 26).2.2.1 := fun q h => by cases h; exact ⟨rfl, Or.inl (List.mem_of_getElem? (i := 1675) (by decide +kernel))⟩
theorem zkf_11_27 : ∀ q, vwCl[11]? = some q → (q.2.1 27).1 = q.1 ∧ zkFl q.1 (q.2.1 27).2.1 (q.2.1 27).2.2.1 := fun q h => by cases h; exact ⟨rfl, Or.inl (List.mem_of_getElem? (i := 1677) (by decide +kernel))⟩
theorem zkf_11_28 : ∀ q, vwCl[11]? = some q → (q.2.1 28).1 = q.1 ∧ zkFl q.1 (q.2.1 28).2.1 (q.2.1 28).2.2.1 := fun q h => by cases h; exact ⟨rfl, Or.inr (List.mem_of_getElem? (i := 1679) (by decide +kernel))⟩
theorem zkf_11_29 : ∀ q, vwCl[11]? = some q → (q.2.1 29).1 = q.1 ∧ zkFl q.1 (q.2.1 29).2.1 (q.2.1 29).2.2.1 := fun q h => by cases h; exact ⟨rfl, Or.inr (List.mem_of_getElem? (i := 1681) (by decide +kernel))⟩
theorem zkf_11_30 : ∀ q, vwCl[11]? = some q → (q.2.1 30).1 = q.1 ∧ zkFl q.1 (q.2.1 30).2.1 (q.2.1 30).2.2.1 := fun q h => by cases h; exact ⟨rfl, Or.inr (List.mem_of_getElem? (i := 1683) (by decide +kernel))⟩
theorem zkf_11_31 : ∀ q, vwCl[11]? = some q → (q.2.1 31).1 = q.1 ∧ zkFl q.1 (q.2.1 31).2.1 (q.2.1 31).2.2.1 := fun q h => by cases h; exact ⟨rfl, Or.inl (List.mem_of_getElem? (i := 1685) (by decide +kernel))⟩
theorem zkf_11_32 : ∀ q, vwCl[11]? = some q → (q.2.1 32).1 = q.1 ∧ zkFl q.1 (q.2.1 32).2.1 (q.2.1 32).2.2.1 := fun q h => by cases h; exact ⟨rfl, Or.inl (List.mem_of_getElem? (i := 1687) (by decide +kernel))⟩
theorem zkf_11_33 : ∀ q, vwCl[11]? = some q → (q.2.1 33).1 = q.1 ∧ zkFl q.1 (q.2.1 33).2.1 (q.2.1 33).2.2.1 := fun q h => by cases h; exact ⟨rfl, Or.inl (List.mem_of_getElem? (i := 1689) (by decide +kernel))⟩
theorem zkf_11_34 : ∀ q, vwCl[11]? = some q → (q.2.1 34).1 = q.1 ∧ zkFl q.1 (q.2.1 34).2.1 (q.2.1 34).2.2.1 := fun q h => by cases h; exact ⟨rfl, Or.inr (List.mem_of_getElem? (i := 1691) (by decide +kernel))⟩
theorem zkf_11_35 : ∀ q, vwCl[11]? = some q → (q.2.1 35).1 = q.1 ∧ zkFl q.1 (q.2.1 35).2.1 (q.2.1 35).2.2.1 := fun q h => by cases h; exact ⟨rfl, Or.inr (List.mem_of_getElem? (i := 1693) (by decide +kernel))⟩
theorem zkf_11_36 : ∀ q, vwCl[11]? = some q → (q.2.1 36).1 = q.1 ∧ zkFl q.1 (q.2.1 36).2.1 (q.2.1 36).2.2.1 := fun q h => by cases h; exact ⟨rfl, Or.inr (List.mem_of_getElem? (i := 1695) (by decide +kernel))⟩
theorem zkf_11_37 : ∀ q, vwCl[11]? = some q → (q.2.1 37).1 = q.1 ∧ zkFl q.1 (q.2.1 37).2.1 (q.2.1 37).2.2.1 := fun q h => by cases h; exact ⟨rfl, Or.inr (List.mem_of_getElem? (i := 1697) (by decide +kernel))⟩
theorem zkf_11_38 : ∀ q, vwCl[11]? = some q → (q.2.1 38).1 = q.1 ∧ zkFl q.1 (q.2.1 38).2.1 (q.2.1 38).2.2.1 := fun q h => by cases h; exact ⟨rfl, Or.inr (List.mem_of_getElem? (i := 1699) (by decide +kernel))⟩
theorem zkf_11_39 : ∀ q, vwCl[11]? = some q → (q.2.1 39).1 = q.1 ∧ zkFl q.1 (q.2.1 39).2.1 (q.2.1 39).2.2.1 := fun q h => by cases h; exact ⟨rfl, Or.inl (List.mem_of_getElem? (i := 1701) (by decide +kernel))⟩
theorem zkf_11_40 : ∀ q, vwCl[11]? = some q → (q.2.1 40).1 = q.1 ∧ zkFl q.1 (q.2.1 40).2.1 (q.2.1 40).2.2.1 := fun q h => by cases h; exact ⟨rfl, Or.inl (List.mem_of_getElem? (i := 1703) (by decide +kernel))⟩
theorem zkf_11_41 : ∀ q, vwCl[11]? = some q → (q.2.1 41).1 = q.1 ∧ zkFl q.1 (q.2.1 41).2.1 (q.2.1 41).2.2.1 := fun q h => by cases h; exact ⟨rfl, Or.inl (List.mem_of_getElem? (i := 1705) (by decide +kernel))⟩
theorem zkf_11_42 : ∀ q, vwCl[11]? = some q → (q.2.1 42).1 = q.1 ∧ zkFl q.1 (q.2.1 42).2.1 (q.2.1 42).2.2.1 := fun q h => by cases h; exact ⟨rfl, Or.inr (List.mem_of_getElem? (i := 1707) (by decide +kernel))⟩
theorem zkf_11_43 : ∀ q, vwCl[11]? = some q → (q.2.1 43).1 = q.1 ∧ zkFl q.1 (q.2.1 43).2.1 (q.2.1 43).2.2.1 := fun q h => by cases h; exact ⟨rfl, Or.inr (List.mem_of_getElem? (i := 1709) (by decide +kernel))⟩
theorem zkf_11_44 : ∀ q, vwCl[11]? = some q → (q.2.1 44).1 = q.1 ∧ zkFl q.1 (q.2.1 44).2.1 (q.2.1 44).2.2.1 := fun q h => by cases h; exact ⟨rfl, Or.inl (List.mem_of_getElem? (i := 1711) (by decide +kernel))⟩
theorem zkf_11_45 : ∀ q, vwCl[11]? = some q → (q.2.1 45).1 = q.1 ∧ zkFl q.1 (q.2.1 45).2.1 (q.2.1 45).2.2.1 := fun q h => by cases h; exact ⟨rfl, Or.inl (List.mem_of_getElem? (i := 1713) (by decide +kernel))⟩
theorem zkc_11 : ∀ q, vwCl[11]? = some q → Cond.instantiable q.1 q.2.2 ∈ lw_tbl ∧ ∀ k, k < q.2.2 → (q.2.1 k).1 = q.1 ∧ zkFl q.1 (q.2.1 k).2.1 (q.2.1 k).2.2.1 := fun q h => by
  have h0 := h
  have n : q.2.2 = 46 := by cases h0; rfl
  refine ⟨by cases h0; exact List.mem_of_getElem? (i := 1568) (by decide +kernel), fun k hk => ?_⟩
  rw [n] at hk
  by_cases e0 : k = 0
  · rw [e0]; exact zkf_11_0 q h
  by_cases e1 : k = 1
  · rw [e1]; exact zkf_11_1 q h
  by_cases e2 : k = 2
  · rw [e2]; exact zkf_11_2 q h
  by_cases e3 : k = 3
  · rw [e3]; exact zkf_11_3 q h
  by_cases e4 : k = 4
  · rw [e4]; exact zkf_11_4 q h
  by_cases e5 : k = 5
  · rw [e5]; exact zkf_11_5 q h
  by_cases e6 : k = 6
  · rw [e6]; exact zkf_11_6 q h
  by_cases e7 : k = 7
  · rw [e7]; exact zkf_11_7 q h
  by_cases e8 : k = 8
  · rw [e8]; exact zkf_11_8 q h
  by_cases e9 : k = 9
  · rw [e9]; exact zkf_11_9 q h
  by_cases e10 : k = 10
  · rw [e10]; exact zkf_11_10 q h
  by_cases e11 : k = 11
  · rw [e11]; exact zkf_11_11 q h
  by_cases e12 : k = 12
  · rw [e12]; exact zkf_11_12 q h
  by_cases e13 : k = 13
  · rw [e13]; exact zkf_11_13 q h
  by_cases e14 : k = 14
  · rw [e14]; exact zkf_11_14 q h
  by_cases e15 : k = 15
  · rw [e15]; exact zkf_11_15 q h
  by_cases e16 : k = 16
  · rw [e16]; exact zkf_11_16 q h
  by_cases e17 : k = 17
  · rw [e17]; exact zkf_11_17 q h
  by_cases e18 : k = 18
  · rw [e18]; exact zkf_11_18 q h
  by_cases e19 : k = 19
  · rw [e19]; exact zkf_11_19 q h
  by_cases e20 : k = 20
  · rw [e20]; exact zkf_11_20 q h
  by_cases e21 : k = 21
  · rw [e21]; exact zkf_11_21 q h
  by_cases e22 : k = 22
  · rw [e22]; exact zkf_11_22 q h
  by_cases e23 : k = 23
  · rw [e23]; exact zkf_11_23 q h
  by_cases e24 : k = 24
  · rw [e24]; exact zkf_11_24 q h
  by_cases e25 : k = 25
  · rw [e25]; exact zkf_11_25 q h
  by_cases e26 : k = 26
  · rw [e26]; exact zkf_11_26 q h
  by_cases e27 : k = 27
  · rw [e27]; exact zkf_11_27 q h
  by_cases e28 : k = 28
  · rw [e28]; exact zkf_11_28 q h
  by_cases e29 : k = 29
  · rw [e29]; exact zkf_11_29 q h
  by_cases e30 : k = 30
  · rw [e30]; exact zkf_11_30 q h
  by_cases e31 : k = 31
  · rw [e31]; exact zkf_11_31 q h
  by_cases e32 : k = 32
  · rw [e32]; exact zkf_11_32 q h
  by_cases e33 : k = 33
  · rw [e33]; exact zkf_11_33 q h
  by_cases e34 : k = 34
  · rw [e34]; exact zkf_11_34 q h
  by_cases e35 : k = 35
  · rw [e35]; exact zkf_11_35 q h
  by_cases e36 : k = 36
  · rw [e36]; exact zkf_11_36 q h
  by_cases e37 : k = 37
  · rw [e37]; exact zkf_11_37 q h
  by_cases e38 : k = 38
  · rw [e38]; exact zkf_11_38 q h
  by_cases e39 : k = 39
  · rw [e39]; exact zkf_11_39 q h
  by_cases e40 : k = 40
  · rw [e40]; exact zkf_11_40 q h
  by_cases e41 : k = 41
  · rw [e41]; exact zkf_11_41 q h
  by_cases e42 : k = 42
  · rw [e42]; exact zkf_11_42 q h
  by_cases e43 : k = 43
  · rw [e43]; exact zkf_11_43 q h
  by_cases e44 : k = 44
  · rw [e44]; exact zkf_11_44 q h
  by_cases e45 : k = 45
  · rw [e45]; exact zkf_11_45 q h
  omega
theorem zkc_all : ∀ (c : Nat) (q : vw_C), vwCl[c]? = some q → Cond.instantiable q.1 q.2.2 ∈ lw_tbl ∧ ∀ k, k < q.2.2 → (q.2.1 k).1 = q.1 ∧ zkFl q.1 (q.2.1 k).2.1 (q.2.1 k).2.2.1
  | 0, q, h => zkc_0 q h
  | 1, q, h => zkc_1 q h
  | 2, q, h => zkc_2 q h
  | 3, q, h => zkc_3 q h
  | 4, q, h => zkc_4 q h
  | 5, q, h => zkc_5 q h
  | 6, q, h => zkc_6 q h
  | 7, q, h => zkc_7 q h
  | 8, q, h => zkc_8 q h
  | 9, q, h => zkc_9 q h
  | 10, q, h => zkc_10 q h
  | 11, q, h => zkc_11 q h
  | c + 12, q, h => by cases h
theorem zKn_of {args : Array Value} {s : State} (ht : ∀ w ∈ lw_tbl, w.before args s = true) {c : Nat} {q : vw_C} (hq : vwCl[c]? = some q) : ∃ (cC : ClassId) (iS : Nat → Nat), u_Kn s q.1 q.2.1 q.2.2 cC iS := by
  obtain ⟨h1, h2⟩ := zkc_all c q hq
  obtain ⟨cC, hc⟩ := classAt_of (ht _ h1)
  have f : ∀ k, ∃ i, k < q.2.2 → SlotIs s (q.2.1 k).1 (q.2.1 k).2.1 (q.2.1 k).2.2.1 i := fun k => by
    by_cases hk : k < q.2.2
    · obtain ⟨e, h3⟩ := h2 k hk
      obtain ⟨hfc, kC, hk2, -⟩ := hc
      have hl : (Cond.lays q.1 q.1 (q.2.1 k).2.1 (q.2.1 k).2.2.1).before args s = true ∨ (Cond.laysFinal q.1 q.1 (q.2.1 k).2.1 (q.2.1 k).2.2.1).before args s = true := h3.imp (ht _) (ht _)
      obtain ⟨i, hi⟩ := slot_of_laid hfc hk2 hl
      exact ⟨i, fun _ => by rw [e]; exact hi⟩
    · exact ⟨0, fun z => absurd z hk⟩
  exact ⟨cC, fun k => Classical.choose (f k), fun k hk => Classical.choose_spec (f k) hk, hc⟩
theorem zArr_of {args : Array Value} {s : State} {ty : FieldType} (hty : ∀ C, ty ≠ .object C) (h : (Cond.arrayClass ty).before args s = true) : ∃ cA : ClassId, ArrOfT s cA ty ∧ va_RA s cA ty := by
  obtain ⟨c, k, comp, h1, h2, h3⟩ := Cond.arrayClass_spec h
  refine ⟨c, fun n z => ⟨fun k e => (by cases e), k, h2, comp, h3⟩, ?_⟩
  unfold va_RA
  split
  · exact absurd rfl (hty _)
  · exact h1
theorem zArrO_of {args : Array Value} {s : State} {C : String} (h : (Cond.arrayOver (.object C)).before args s = true) : ∃ cA : ClassId, ArrOfT s cA (.object C) ∧ va_RA s cA (.object C) := by
  obtain ⟨comp, c, k, h1, -, h2, h3, h4⟩ := Cond.arrayOver_spec h
  exact ⟨c, fun n z => ⟨fun k e => (by cases e), k, h2, comp, h3⟩, k, comp, h2, h3, h1, h4⟩
def zwt (i : Nat) : Term := .static "CirclePacker$Word" (zwn i) "LCirclePacker$Word;"
def zall : Term := .static "CirclePacker$Word" "ALL" "[LCirclePacker$Word;"
def zsws : Term := .static "CirclePacker$1" "$SwitchMap$CirclePacker$Word" "[I"
theorem zg_ex : ∀ i, i < 15 → Cond.exactly (zwt i) "CirclePacker$Word" ∈ flatC zG ∧ Cond.laysStatic "CirclePacker$Word" (zwn i) "LCirclePacker$Word;" ∈ lw_tbl := by decide +kernel
theorem zg_fi : ∀ f, f < 4 → ∀ i, i < 15 → Cond.eq (.field (zwt i) (zwfo f) (zwfn f) (zwfd f)) (if f = 1 then .long (Int64.ofInt (zwf f i)) else .int (Int32.ofInt (zwf f i))) ∈ flatC zG := by decide +kernel
theorem zg_el : ∀ i, i < 15 → Cond.eq (.elem zall (.int (Int32.ofNat i))) (zwt i) ∈ flatC zG ∧ Cond.eq (.elem zsws (.int (Int32.ofNat i))) (.int (Int32.ofInt (zsm i))) ∈ flatC zG := by decide +kernel
theorem zg_ar : (Cond.arrayOf zall (.object "CirclePacker$Word") ∈ flatC zG ∧ Cond.arrayOf zsws .int ∈ flatC zG) ∧ (Cond.eq (.length zall) (.int 15) ∈ flatC zG ∧ Cond.eq (.length zsws) (.int 15) ∈ flatC zG) ∧ Cond.isRef (.static Bundle.tN "UNASSIGNED_STACK" Bundle.steD) ∈ flatC zG ∧ Cond.isRef (.static Bundle.tN "SUPPRESSED_SENTINEL" Bundle.listD) ∈ flatC zG := by decide +kernel
theorem zg_ca : ∀ e, e < 3 → ∀ f, f < 3 → e ≠ f → Cond.not (.castable (zEX e) (zEX f)) ∈ flatC zG := by decide +kernel
theorem zt_ws : (Cond.arrayClass .int ∈ lw_tbl ∧ Cond.arrayClass .long ∈ lw_tbl ∧ Cond.arrayClass .byte ∈ lw_tbl ∧ Cond.arrayClass .boolean ∈ lw_tbl) ∧ (Cond.arrayOver (.object "CirclePacker$Word") ∈ lw_tbl ∧ Cond.arrayOver (.object "CirclePacker$Packing") ∈ lw_tbl) ∧ (Cond.initialized "CirclePacker$Word" ∈ lw_tbl ∧ Cond.initialized "CirclePacker$1" ∈ lw_tbl ∧ Cond.initialized Bundle.tN ∈ lw_tbl) ∧ (Cond.laysStatic "CirclePacker$Word" "ALL" "[LCirclePacker$Word;" ∈ lw_tbl ∧ Cond.laysStatic "CirclePacker$1" "$SwitchMap$CirclePacker$Word" "[I" ∈ lw_tbl) ∧ Cond.laysStatic Bundle.tN "UNASSIGNED_STACK" Bundle.steD ∈ lw_tbl ∧ Cond.laysStatic Bundle.tN "SUPPRESSED_SENTINEL" Bundle.listD ∈ lw_tbl := by decide +kernel
theorem znest_t : (znestW.all fun w => w.onTables) = true := by decide +kernel
def zstrs (w : Cond) : Bool := match w with
  | .stringRef own _ _ => decide (Cond.initialized own ∈ lw_tbl)
  | _ => true
theorem zstr_t : tables_1.all zstrs = true := by decide +kernel
theorem ztb_in {w : Cond} (h : w ∈ tables_1) : w ∈ lw_tbl := List.mem_append_right _ h
theorem zinit_fc {args : Array Value} {s : State} {C : String} (h : (Cond.initialized C).before args s = true) : ∃ c, s.vm.findClass C = some c := by
  cases q : s.vm.findClass C with
  | none =>
    have h : (Cond.initialized C).holds args s none s [] = true := h
    simp [Cond.holds, Cond.value, q] at h
  | some c => exact ⟨c, rfl⟩
set_option maxHeartbeats 4000000 in
/-- all that the machine in small stands on, at the law's entry -/
theorem zAmb_of {args : Array Value} {s : State} {b L : Nat} {xs : Nat → Int32} (ht : ∀ w ∈ lw_tbl, w.before args s = true) (hg : ∀ w ∈ flatC zG, w.before args s = true) (hX : va_X b L xs s s.heap) (hb : b < s.heap.size) (hL : L ≤ 3072) :
    ∃ E : zE, zAmb E s s.heap ∧ zE0 E = s.heap.size ∧ zEb E = b ∧ zEL E = L ∧ zEx E = xs := by
  obtain ⟨⟨t1, t2, t3, t4⟩, ⟨t5, t6⟩, ⟨i1, i2, i3⟩, ⟨l1, l2⟩, l3, l4⟩ := zt_ws
  obtain ⟨⟨g1, g2⟩, ⟨g3, g4⟩, g5, g6⟩ := zg_ar
  have hA : ∀ a : Nat, a < s.heap.size → ¬ (s.heap.size ≤ a) := fun a h => Nat.not_le.mpr h
  have KK : ∀ c : Nat, ∃ (cC : ClassId) (iS : Nat → Nat), ∀ q, vwCl[c]? = some q → u_Kn s q.1 q.2.1 q.2.2 cC iS := fun c => by
    cases hq : vwCl[c]? with
    | none => exact ⟨0, fun _ => 0, fun q h => by cases h⟩
    | some q =>
      obtain ⟨cC, iS, h⟩ := zKn_of ht hq
      exact ⟨cC, iS, fun q' h' => by cases h'; exact h⟩
  have K1 : ∀ c : Nat, ∃ iS : Nat → Nat, ∀ q, vwCl[c]? = some q → u_Kn s q.1 q.2.1 q.2.2 (Classical.choose (KK c)) iS := fun c => Classical.choose_spec (KK c)
  obtain ⟨a1, x1⟩ := zArr_of (fun C h => by cases h) (ht _ t1)
  obtain ⟨a2, x2⟩ := zArr_of (fun C h => by cases h) (ht _ t2)
  obtain ⟨a3, x3⟩ := zArr_of (fun C h => by cases h) (ht _ t3)
  obtain ⟨a4, x4⟩ := zArr_of (fun C h => by cases h) (ht _ t4)
  obtain ⟨a5, x5⟩ := zArrO_of (ht _ t5)
  obtain ⟨a6, x6⟩ := zArrO_of (ht _ t6)
  have W : ∀ i : Nat, ∃ a : Nat, i < 15 → (zwt i).eval args s none [] s = some (.ref a) := fun i => by
    by_cases h : i < 15
    · obtain ⟨a, c, cell, k, e, -⟩ := Cond.exactly_spec (hg _ (zg_ex i h).1)
      exact ⟨a, fun _ => e⟩
    · exact ⟨0, fun z => absurd z h⟩
  have We : ∀ i : Nat, i < 15 → (zwt i).eval args s none [] s = some (.ref (Classical.choose (W i))) := fun i h => Classical.choose_spec (W i) h
  obtain ⟨tA, eA, TA⟩ := va_Tof (A := fun a => s.heap.size ≤ a) (N := 15) (f := fun j => .ref (Classical.choose (W j))) (by decide) (hg _ g1) (va_eqt (hg _ g3)) (fun j hj => va_eqv (hg _ (zg_el j hj).1) (We j hj)) hA
  obtain ⟨tS, eS, TS⟩ := va_Tof (A := fun a => s.heap.size ≤ a) (N := 15) (f := fun j => .int (Int32.ofInt (zsm j))) (by decide) (hg _ g2) (va_eqt (hg _ g4)) (fun j hj => va_eqt (hg _ (zg_el j hj).2)) hA
  have F : ∀ f, f < 4 → ∀ i, i < 15 → va_OF (zwfo f) (zwfn f) (zwfd f) (zwfv f i) (Classical.choose (W i)) (fun a => s.heap.size ≤ a) s s.heap := fun f hf => by
    refine va_Efof (N := 15) (E := "CirclePacker$Word") (d0 := "LCirclePacker$Word;") (nm := ["NOT_A_WORD", "NAME", "CIRCLE", "RADIUS", "ANGLE", "FACE", "SCALE", "SOLVE", "SWEEP", "SET", "LAY", "TURN", "CALM", "REPEAT", "END_OF_REPEAT"]) (v := zwfv f) (ad := fun i => Classical.choose (W i)) We (fun i hi => hg _ (zg_fi f hf i hi)) (fun i hi => ?_) hA
    by_cases h1 : f = 1
    · rw [if_pos h1, h1]; rfl
    · rw [if_neg h1]
      unfold zwfv
      have : Nat.beq f 1 = false := by
        rcases (show f = 0 ∨ f = 2 ∨ f = 3 by omega) with e | e | e <;> rw [e] <;> rfl
      rw [this]
      rfl
  let ad : Nat → Nat := fun i => if i = 100 then tA else if i = 101 then tS else Classical.choose (W i)
  let cA : Nat → ClassId := fun i => if i = 1 then a1 else if i = 2 then a2 else if i = 3 then a3 else if i = 4 then a4 else if i = 5 then a5 else a6
  let st : String → Nat → Nat := fun own i => match (Term.string own i).eval args s none [] s with
    | some (.ref a) => a
    | _ => 0
  have adi : ∀ i, i < 15 → ad i = Classical.choose (W i) := fun i h => by
    show (if i = 100 then tA else if i = 101 then tS else Classical.choose (W i)) = _
    rw [if_neg (by omega), if_neg (by omega)]
  refine ⟨((fun c => Classical.choose (KK c), fun c => Classical.choose (K1 c)), cA, ad, s.heap.size, b, L, xs, st), ⟨⟨fun c q hq => Classical.choose_spec (K1 c) q hq, fun k q hq => ?_⟩, ⟨hX, hb, Nat.le_refl _, hL⟩, ⟨fun i hi => ?_, fun f hf i hi => ?_, fun i j hi hj e => ?_, va_Zref (ht _ l1) (ht _ i1) eA hA, ?_, va_Zref (ht _ l2) (ht _ i2) eS hA, TS⟩, vx_Zqof (ht _ l3) (ht _ i3) (hg _ g5) hA, vx_Zqof (ht _ l4) (ht _ i3) (hg _ g6) hA, fun own i tx hm => ?_, fun e f he hf hne => va_Nc.of (hg _ (zg_ca e he f hf hne)), fun w hw => ?_, fun w hw => ?_, va_AO.of (ht _ t5), va_AO.of (ht _ t6)⟩, rfl, rfl, rfl, rfl⟩
  · rcases k with _ | _ | _ | _ | _ | _ | k
    · cases hq; exact x1
    · cases hq; exact x2
    · cases hq; exact x3
    · cases hq; exact x4
    · cases hq; exact x5
    · cases hq; exact x6
    · cases hq
  · show va_Z _ _ _ (.ref (ad i)) _ _ _ ∧ va_O _ (ad i) _ _ _
    rw [adi i hi]
    exact ⟨va_Zref (ht _ (zg_ex i hi).2) (ht _ i1) (We i hi) hA, va_Oof (hg _ (zg_ex i hi).1) (We i hi) hA⟩
  · show va_OF _ _ _ _ (ad i) _ _ _
    rw [adi i hi]
    exact F f hf i hi
  · have e : ad i = ad j := e
    rw [adi i hi, adi j hj] at e
    obtain ⟨c1, k1, n1, f1, cl1, p1, p2, p3, p4, p5, p6⟩ := F 0 (by decide) i hi
    obtain ⟨c2, k2, n2, f2, cl2, r1, r2, r3, r4, r5, r6⟩ := F 0 (by decide) j hj
    rw [e] at p3
    cases Option.some.inj (p3.symm.trans r3)
    have q := Option.some.inj (p1.symm.trans r1)
    have q4 : f1 = f2 := congrArg (fun z => z.2.2.2) q
    rw [q4] at p5
    have v := Option.some.inj (p5.symm.trans r5)
    have d : ∀ i, i < 15 → ∀ j, j < 15 → zwfv 0 i = zwfv 0 j → i = j := by decide +kernel
    exact d i hi j hj v
  · have e : (fun j => Value.ref (ad j)) = fun j => if j < 15 then Value.ref (Classical.choose (W j)) else Value.ref (ad j) := by
      funext j
      by_cases h : j < 15
      · rw [if_pos h, adi j h]
      · rw [if_neg h]
    obtain ⟨cell, y1, y2, y3, y4, y5, y6, y7⟩ := TA
    exact ⟨cell, y1, y2, y3, y4, y5, fun j hj => by rw [y6 j hj]; show _ = some (Value.ref (ad j)); rw [adi j hj], y7⟩
  · have hw := ht _ (ztb_in hm)
    have hs := List.all_eq_true.mp zstr_t _ hm
    have hs : Cond.initialized own ∈ lw_tbl := of_decide_eq_true hs
    obtain ⟨c, hc⟩ := zinit_fc (ht _ hs)
    obtain ⟨k, cf, i', a, -, -, -, -, -, ev⟩ := Cond.stringRef_spec hc hw
    have e : st own i = a := by
      show (match (Term.string own i).eval args s none [] s with
        | some (.ref a) => a
        | _ => 0) = a
      rw [ev]
    show vk_R own i tx (st own i) s
    rw [e]
    exact vk_R.of hw ev
  · have h1 := (List.mem_filter.mp hw).1
    exact va_any (List.all_eq_true.mp znest_t _ hw) (ht _ (ztb_in h1))
  · exact va_any (zoddW_m hw).1 (ht _ (List.mem_filter.mp hw).1)
