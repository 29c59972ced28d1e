def readC (st : St) (o : Nat) (d cur : Int) : Int := readV (st 46 o 0) (st 47 o 0) (st 48 o 0) (st 45 o d) cur
theorem readC_r {wb : Int} {st : St} (hI : GI wb st) (o : Nat) (d cur : Int) : 0 ≤ readC st o d cur ∧ readC st o d cur ≤ 2032 := readC_q hI o d cur
def gpS (s want k : Int) : Int := if k = 1 then s else if s < want then s + 1 else max 0 (s - 2)
theorem gpS_s (s want k : Int) : (k = 1 ∧ gpS s want k = s) ∨ (k ≠ 1 ∧ s < want ∧ gpS s want k = s + 1) ∨ (k ≠ 1 ∧ want ≤ s ∧ gpS s want k = max 0 (s - 2)) := by
  unfold gpS
  by_cases h : k = 1
  · exact Or.inl ⟨h, if_pos h⟩
  · rw [if_neg h]
    by_cases h2 : s < want
    · exact Or.inr (Or.inl ⟨h, h2, if_pos h2⟩)
    · exact Or.inr (Or.inr ⟨h, by omega, if_neg h2⟩)
def gpK (w most k : Int) : Int := if k = 1 then k else if most ≤ w + 1 then 1 else 0
theorem gpK_s (w most k : Int) : (k = 1 ∧ gpK w most k = k) ∨ (k ≠ 1 ∧ most ≤ w + 1 ∧ gpK w most k = 1) ∨ (k ≠ 1 ∧ w + 1 < most ∧ gpK w most k = 0) := by
  unfold gpK
  by_cases h : k = 1
  · exact Or.inl ⟨h, if_pos h⟩
  · rw [if_neg h]
    by_cases h2 : most ≤ w + 1
    · exact Or.inr (Or.inl ⟨h, h2, if_pos h2⟩)
    · exact Or.inr (Or.inr ⟨h, by omega, if_neg h2⟩)
theorem setG_G (b o : Nat) (st : St) (i s w si k kn s' w' si' k' kn' : Int) : setG b o (setG b o st i s w si k kn) i s' w' si' k' kn' = setG b o st i s' w' si' k' kn' := by
  funext c o' i'
  unfold setG
  by_cases h : o' = o ∧ i' = i
  · simp only [if_pos h]
    split
    · rfl
    · split
      · rfl
      · split
        · rfl
        · split
          · rfl
          · split <;> rfl
  · simp only [if_neg h]
def wrC (st : St) (o : Nat) (i want : Int) : St :=
  let q := wrV (st 30 0 0) (st 31 0 0) (st 32 0 0) want (st 40 o i) (st 41 o i) (st 42 o i) (st 43 o i) (st 44 o i)
  setG 40 o st i q.1 q.2.1 q.2.2.1 q.2.2.2.1 q.2.2.2.2
def wrCf (st : St) (o : Nat) (i want : Int) : Int := if wrC st o i want 40 o i = want then 0 else 1
theorem wrC_eq {st : St} {o : Nat} {i want s w k kn : Int} (h : wrL (st 32 0 0) want 16 (if st 43 o i = 1 then st 40 o i else conC st o i) (st 41 o i) (st 43 o i) = (s, w, k)) (hk : kn = if st 44 o i = 1 ∨ s ≠ want then 1 else 0) : wrC st o i want = setG 40 o st i s w (if st 43 o i = 1 then st 42 o i else st 30 0 0) k kn := by
  subst hk
  unfold wrC wrV conC at *
  simp only [h]
theorem wrCf_eq {st : St} {o : Nat} {i want s w si k kn : Int} (h : wrC st o i want = setG 40 o st i s w si k kn) : wrCf st o i want = if s = want then 0 else 1 := by
  unfold wrCf
  rw [h, setG_r0]
theorem wrL_gp {most want s w k x y : Int} (hxy : y = x + 1) (hx : x < 16) (h : ¬ s = want) : wrL most want (16 - y).toNat (gpS s want k) (w + 1) (gpK w most k) = wrL most want (16 - x).toNat s w k := by
  refine wrL_step hxy hx h ?_
  by_cases hk : k = 1
  · exact Or.inl ⟨hk, by unfold gpS; rw [if_pos hk], rfl, by unfold gpK; rw [if_pos hk]⟩
  · refine Or.inr ⟨hk, rfl, fun q => ?_, fun q => ?_, fun q => ?_, fun q => ?_⟩
    · unfold gpS; rw [if_neg hk, if_pos q]
    · unfold gpS; rw [if_neg hk, if_neg (by omega)]
    · unfold gpK; rw [if_neg hk, if_pos q]
    · unfold gpK; rw [if_neg hk, if_neg (by omega)]
