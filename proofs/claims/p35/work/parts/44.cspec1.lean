/-! ===== the class: what its small methods answer ===== -/
def quF (a b : Int) : Int := if b < 1 then 0 else a / b
theorem quF_s (a b : Int) : (b < 1 ∧ quF a b = 0) ∨ (1 ≤ b ∧ quF a b = a / b) := by
  unfold quF
  by_cases h : b < 1
  · exact Or.inl ⟨h, if_pos h⟩
  · exact Or.inr ⟨by omega, if_neg h⟩
theorem conC_r {wb : Int} {st : St} (hI : GI wb st) (o : Nat) (i : Int) (hs : st 42 o i ≤ st 30 0 0) : 0 ≤ conC st o i ∧ conC st o i ≤ 15 := conV_r (gI_40 hI o i) (gI_31 hI 0 0).1 hs
def bsC (st : St) (o : Nat) (i v : Int) : St := if st 43 o i = 1 then st else ust (ust st 43 o i 1) 40 o i v
def msC (st : St) (o : Nat) (i v : Int) : Int := if st 44 o i = 1 ∧ st 40 o i ≠ v then 1 else 0
theorem msC_r (st : St) (o : Nat) (i v : Int) : 0 ≤ msC st o i v ∧ msC st o i v ≤ 1 := by
  unfold msC
  split <;> omega
theorem readC_q {wb : Int} {st : St} (hI : GI wb st) (o : Nat) (d cur : Int) : 0 ≤ readV (st 46 o 0) (st 47 o 0) (st 48 o 0) (st 45 o d) cur ∧ readV (st 46 o 0) (st 47 o 0) (st 48 o 0) (st 45 o d) cur ≤ 2032 := readV_r (gI_46 hI o 0) (gI_47 hI o 0)
theorem quF_b (a b : Int) (h : 0 ≤ a) : 0 ≤ quF a b ∧ quF a b ≤ a := by
  unfold quF
  by_cases hb : b < 1
  · rw [if_pos hb]; omega
  · rw [if_neg hb]; exact divB h (by omega)
