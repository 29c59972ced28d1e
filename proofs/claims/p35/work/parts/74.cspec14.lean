theorem goC_s (st : St) (q q2 : Nat) : (goC st q q2 = 1 ∧ (q : Int) < (q2 : Int) ∧ st 61 q 0 ≤ st 60 q2 0) ∨ (goC st q q2 = 0 ∧ ¬ ((q : Int) < (q2 : Int) ∧ st 61 q 0 ≤ st 60 q2 0)) := by
  unfold goC
  by_cases h : (q : Int) < (q2 : Int) ∧ st 61 q 0 ≤ st 60 q2 0
  · rw [if_pos h]; exact Or.inl ⟨rfl, h.1, h.2⟩
  · rw [if_neg h]; exact Or.inr ⟨rfl, h⟩
def aCellC (st : St) (t : Nat) (i w : Int) : Int := if w = 0 then st 40 t i else if w = 1 then conC st t i else if w = 2 then st 41 t i else if w = 3 then st 43 t i else st 44 t i
theorem fitZ {v : Int} (h : v = 0 ∨ v = 1) : fits .boolean (.int (iI v)) = true := by
  rcases h with rfl | rfl <;> decide +kernel
