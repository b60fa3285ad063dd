/-! the first memory -/
def mz : List (List Int) := [[0, 0, 0, 0, 0, 0, 0, 0, 0, 1, 1, 4], [], [], [], [], [], [], [], [], [], [], [], [], [0, 0, 0, 0, 16, 0], [], [], [], [], [], [], [], [], [], [], [], [], [], [], [], [0, 0, -1], [], [], [], [], [], [], [], [], [], [], [0, 0, -1], [], [], [], [], [0, 0, -1], [], [], [], [], [], [], [], [], [], [], [], [], [], [], [], [], [0, 0, 0, 16, 0, 0, 0, 0, 0, 0, 1, 1, 4, 0, 0, 0, 0, 0, 0, 0, 0, 0, 0, 0, 0, 0, 0, 0, 0, 0, 0, 0, 0, 0, -1, 0, 0, 0, 0, 0, -1, 0, 0, 0, 0, 0, 0, 0, 0, 0], [], [], [], [], [], [], [], [], [], [], [], [], [], []]
def M0 : mmM := fun o i => (mz.getD o []).getD i.toNat 0
theorem mz_R : ∀ l ∈ mz, ∀ x ∈ l, -1 ≤ x ∧ x ≤ 16 := by decide +kernel
theorem M0_mem : mm_mem M0 := by
  intro o i
  unfold M0 mm_R
  by_cases h1 : o < mz.length
  · have e1 : mz.getD o [] = mz[o] := by simp [List.getD_eq_getElem?_getD, h1]
    rw [e1]
    by_cases h2 : i.toNat < (mz[o]).length
    · have e2 : (mz[o]).getD i.toNat 0 = (mz[o])[i.toNat] := by simp [List.getD_eq_getElem?_getD, h2]
      rw [e2]
      have := mz_R _ (List.getElem_mem h1) _ (List.getElem_mem h2)
      omega
    · have e2 : (mz[o]).getD i.toNat 0 = 0 := by
        rw [List.getD_eq_getElem?_getD, List.getElem?_eq_none (by omega)]; rfl
      rw [e2]; omega
  · have e1 : mz.getD o [] = [] := by
      rw [List.getD_eq_getElem?_getD, List.getElem?_eq_none (by omega)]; rfl
    rw [e1]
    show -2147483648 ≤ (0 : Int) ∧ (0 : Int) ≤ 2147483647
    omega
theorem M0_tie : tieR 0 M0 := by
  have a4 : M0 13 4 = 16 := rfl
  have a5 : M0 13 5 = 0 := rfl
  have b4 : M0 18 4 = 0 := rfl
  have c2 : M0 47 2 = 0 := rfl
  have c3 : M0 47 3 = 0 := rfl
  refine ⟨⟨?_, ?_, ?_, ?_, ?_, by decide, by decide, ?_⟩, ⟨?_, ?_, ?_, ?_, ?_, ?_, ?_⟩, by decide⟩
  · unfold rwI
    rw [a4, a5]
    refine ⟨by omega, by omega, fun i _ _ => ?_, by omega, by omega, fun k k0 k1 => by omega⟩
    rw [show M0 14 i = 0 from rfl]
    omega
  · unfold quI
    rw [b4]
    exact ⟨by omega, by omega, fun q q0 q1 => by omega⟩
  · unfold seI
    decide
  · unfold wnB
    decide
  · unfold acI
    decide
  · exact trivial
  · decide
  · decide
  · intro i _ _
    rw [show M0 63 i = 0 from rfl, show M0 2 i = 0 from rfl]
    omega
  · exact fun i _ _ => rfl
  · exact fun k _ _ => ⟨rfl, rfl⟩
  · intro q q0 q1; rw [b4] at q1; omega
  · intro j hj; rw [c2] at hj; omega
