theorem conM_0 (st : St) (v i : Int) : conM (ust st 0 0 0 v) i = conM st i := by
  unfold conM
  rw [ust_c (by decide), ust_c (by decide), ust_c (by decide), ust_c (by decide), ust_c (by decide)]
theorem onesU_s (S k : Nat) : ((onesU S (k + 1) : Nat) : Int) = (onesU S k : Int) + (S : Int) / 2 ^ k % 2 ^ 1 := by
  show ((onesU S k + S / 2 ^ k % 2 : Nat) : Int) = _
  push_cast
  rfl
theorem onesU_b (S : Nat) : ∀ k, onesU S k ≤ k
  | 0 => Nat.le_refl _
  | k + 1 => by
    have := onesU_b S k
    have h : S / 2 ^ k % 2 < 2 := Nat.mod_lt _ (by decide)
    show onesU S k + S / 2 ^ k % 2 ≤ k + 1
    omega
/-- the ideal answer of the first k inputs -/
def idU (st : St) (a o : Int) (vec : Nat) : Nat → Int := sumN (fun k => st 17 0 (32 * a + 4 * (k : Int) + o) * inpF vec k)
theorem idU_b {wb : Int} {st : St} (hI : GI wb st) (a o : Int) (vec : Nat) : ∀ k : Nat, -(65025 * (k : Int)) ≤ idU st a o vec k ∧ idU st a o vec k ≤ 65025 * (k : Int)
  | 0 => by unfold idU sumN; simp
  | k + 1 => by
    have h1 := idU_b hI a o vec k
    have h2 := gI_17 hI 0 (32 * a + 4 * (k : Int) + o)
    have h3 := inpF_r vec k
    unfold idU at h1 ⊢
    rw [sumN_s]
    generalize sumN (fun k => st 17 0 (32 * a + 4 * (k : Int) + o) * inpF vec k) k = z at h1 ⊢
    show _ ≤ z + st 17 0 (32 * a + 4 * (k : Int) + o) * inpF vec k ∧ z + st 17 0 (32 * a + 4 * (k : Int) + o) * inpF vec k ≤ _
    generalize st 17 0 (32 * a + 4 * (k : Int) + o) = x at h2 ⊢
    generalize inpF vec k = y at h3 ⊢
    have a1 : x * y ≤ 255 * y := Int.mul_le_mul_of_nonneg_right h2.2 h3.1
    have a2 : -255 * y ≤ x * y := Int.mul_le_mul_of_nonneg_right h2.1 h3.1
    omega
def kAns (st : St) (a o : Int) : Int := if (0 ≤ a ∧ a < st 14 0 0) ∧ 0 ≤ o ∧ o < st 16 0 a then (if st 20 0 a = -1 then 2 else 0) else 1
theorem kAns_s (st : St) (a o : Int) : (((0 ≤ a ∧ a < st 14 0 0) ∧ 0 ≤ o ∧ o < st 16 0 a) ∧ st 20 0 a = -1 ∧ kAns st a o = 2) ∨ (((0 ≤ a ∧ a < st 14 0 0) ∧ 0 ≤ o ∧ o < st 16 0 a) ∧ ¬ st 20 0 a = -1 ∧ kAns st a o = 0) ∨ (¬ ((0 ≤ a ∧ a < st 14 0 0) ∧ 0 ≤ o ∧ o < st 16 0 a) ∧ kAns st a o = 1) := by
  unfold kAns
  by_cases h1 : (0 ≤ a ∧ a < st 14 0 0) ∧ 0 ≤ o ∧ o < st 16 0 a
  · by_cases h2 : st 20 0 a = -1
    · exact Or.inl ⟨h1, h2, by rw [if_pos h1, if_pos h2]⟩
    · exact Or.inr (Or.inl ⟨h1, h2, by rw [if_pos h1, if_neg h2]⟩)
  · exact Or.inr (Or.inr ⟨h1, by rw [if_neg h1]⟩)
def kIdl (st : St) (a o : Int) : Int := if (0 ≤ a ∧ a < st 14 0 0) ∧ 0 ≤ o ∧ o < st 16 0 a then 0 else 1
theorem kIdl_s (st : St) (a o : Int) : (((0 ≤ a ∧ a < st 14 0 0) ∧ 0 ≤ o ∧ o < st 16 0 a) ∧ kIdl st a o = 0) ∨ (¬ ((0 ≤ a ∧ a < st 14 0 0) ∧ 0 ≤ o ∧ o < st 16 0 a) ∧ kIdl st a o = 1) := by
  unfold kIdl
  by_cases h1 : (0 ≤ a ∧ a < st 14 0 0) ∧ 0 ≤ o ∧ o < st 16 0 a
  · exact Or.inl ⟨h1, by rw [if_pos h1]⟩
  · exact Or.inr ⟨h1, by rw [if_neg h1]⟩
theorem onesI (S : Nat) : 0 ≤ ((onesU S 8 : Nat) : Int) ∧ ((onesU S 8 : Nat) : Int) ≤ 8 := by
  have := onesU_b S 8
  omega
theorem idU_0 (st : St) (v a o : Int) (vec k : Nat) : idU (ust st 0 0 0 v) a o vec k = idU st a o vec k := by
  unfold idU
  congr 1
def aIdl (st : St) (a o : Int) (vec : Nat) : Int := if kIdl st a o = 0 then idU st a o vec (st 15 0 a).toNat else 0
