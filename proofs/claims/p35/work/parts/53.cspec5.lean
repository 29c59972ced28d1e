/-! ===== writes one after another, of the class ===== -/
def rwC (o : Nat) (c w : Nat → Int) : Nat → St → St × Int
  | 0, st => (st, 0)
  | j + 1, st => (wrC (rwC o c w j st).1 o (c j) (w j), (rwC o c w j st).2 + wrCf (rwC o c w j st).1 o (c j) (w j))
theorem rwC_s2 (o : Nat) (c w : Nat → Int) (j : Nat) (st : St) : (rwC o c w (j + 1) st).2 = (rwC o c w j st).2 + wrCf (rwC o c w j st).1 o (c j) (w j) := rfl
theorem rwC_s1 (o : Nat) (c w : Nat → Int) (j : Nat) (st : St) : (rwC o c w (j + 1) st).1 = wrC (rwC o c w j st).1 o (c j) (w j) := rfl
theorem wrC_c (st : St) (o : Nat) (i want : Int) {c o' : Nat} {j : Int} (h : c < 40 ∨ 44 < c) : wrC st o i want c o' j = st c o' j := by
  unfold wrC
  exact setG_c _ _ _ _ _ _ _ _ _ (by omega)
theorem wrC_since {st : St} {o : Nat} {i want : Int} (h : ∀ (p : Nat) (j : Int), st 42 p j ≤ st 30 0 0) (p : Nat) (j : Int) : wrC st o i want 42 p j ≤ st 30 0 0 := by
  have hj := h p j
  unfold wrC wrV setG
  by_cases e : p = o ∧ j = i
  · obtain ⟨rfl, rfl⟩ := e
    simp only [and_self, if_true]
    by_cases hk : st 43 p j = 1
    · simp [hk]; exact hj
    · simp [hk]
  · simp [e]; exact hj
theorem rwC_c (o : Nat) (c w : Nat → Int) (st : St) : ∀ (n : Nat) {k o' : Nat} (_ : k < 40 ∨ 44 < k) (i : Int), (rwC o c w n st).1 k o' i = st k o' i
  | 0, _, _, _, _ => rfl
  | n + 1, _, _, h, i => by rw [rwC_s1, wrC_c _ _ _ _ h]; exact rwC_c o c w st n h i
theorem rwC_since {o : Nat} {c w : Nat → Int} {st : St} (h : ∀ (p : Nat) (j : Int), st 42 p j ≤ st 30 0 0) : ∀ (n : Nat) (p : Nat) (j : Int), (rwC o c w n st).1 42 p j ≤ st 30 0 0
  | 0, p, j => h p j
  | n + 1, p, j => by
    rw [rwC_s1, ← rwC_c o c w st n (k := 30) (o' := 0) (by decide) 0]
    exact wrC_since (fun p q => by rw [rwC_c o c w st n (by decide) 0]; exact rwC_since h n p q) p j
def lcC (st : St) (q : Nat) (j : Nat) : Int := 16 * st 63 q ((j / (4 * (st 61 q 0).toNat) : Nat) : Int) + ((j % (4 * (st 61 q 0).toNat) : Nat) : Int)
def lwC (st : St) (q : Nat) (j : Nat) : Int := needC st q ((j / (4 * (st 61 q 0).toNat) : Nat) : Int) ((j % (4 * (st 61 q 0).toNat) : Nat) : Int)
def ldCS (st : St) (q o : Nat) : St := (rwC o (lcC st q) (lwC st q) (4 * (st 61 q 0).toNat * (st 60 q 0).toNat) st).1
def ldCF (st : St) (q o : Nat) : Int := (rwC o (lcC st q) (lwC st q) (4 * (st 61 q 0).toNat * (st 60 q 0).toNat) st).2
theorem lcC_e {st : St} {q u ki kk : Nat} (hu : u = 4 * (st 61 q 0).toNat * ki) (hk : kk < 4 * (st 61 q 0).toNat) : lcC st q (u + kk) = 16 * st 63 q (ki : Int) + (kk : Int) := by
  have h := jdiv (ki := ki) hk
  rw [← hu] at h
  unfold lcC
  rw [h.1, h.2]
theorem lwC_e {st : St} {q u ki kk : Nat} (hu : u = 4 * (st 61 q 0).toNat * ki) (hk : kk < 4 * (st 61 q 0).toNat) : lwC st q (u + kk) = needC st q (ki : Int) (kk : Int) := by
  have h := jdiv (ki := ki) hk
  rw [← hu] at h
  unfold lwC
  rw [h.1, h.2]
