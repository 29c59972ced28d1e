/-- does the k-th place of layer a (16 a row) conduct what is needed -/
def okF (st : St) (a : Int) (k : Nat) : Int := if (k : Int) % 16 < 4 * st 16 0 a → conM st (128 * st 20 0 a + 16 * st 21 0 (8 * a + (k : Int) / 16) + (k : Int) % 16) = needV (st 17 0 (32 * a + 4 * ((k : Int) / 16) + (k : Int) % 16 / 4)) ((k : Int) % 16 % 4) then 1 else 0
def trU (st : St) (a : Int) : Nat → Int
  | 0 => 1
  | k + 1 => if trU st a k = 0 then 0 else okF st a k
theorem trU_s (st : St) (a : Int) (k : Nat) : trU st a (k + 1) = if trU st a k = 0 then 0 else okF st a k := rfl
theorem trU_r (st : St) (a : Int) : ∀ k, trU st a k = 0 ∨ trU st a k = 1
  | 0 => Or.inr rfl
  | k + 1 => by
    rw [trU_s]
    unfold okF
    split
    · exact Or.inl rfl
    · split
      · exact Or.inr rfl
      · exact Or.inl rfl
theorem trU_m {st : St} {a : Int} {k : Nat} (h : trU st a k = 0) : ∀ m, trU st a (k + m) = 0
  | 0 => h
  | m + 1 => by rw [← Nat.add_assoc, trU_s, if_pos (trU_m h m)]
def aTrue (st : St) (a : Int) : Int := if kLay st a = 0 ∧ st 20 0 a ≠ -1 then trU st a (16 * (st 15 0 a).toNat) else 0
theorem conM_u0 (st : St) (v i : Int) : conM (ust st 0 0 0 v) i = conM st i := rfl
def weU (st : St) (t : Int) : Nat → Int := sumN (fun k => st 5 0 (128 * t + (k : Int)))
def aWear (st : St) (t : Int) : Int := if kRange 0 5 t = 0 then weU st t 128 else 0
theorem weU_s (st : St) (t : Int) (k : Nat) : weU st t (k + 1) = weU st t k + st 5 0 (128 * t + (k : Int)) := rfl
def shU (st : St) (t : Int) : Nat → Int := sumN (fun k => st 7 0 (128 * t + (k : Int)))
theorem shU_s (st : St) (t : Int) (k : Nat) : shU st t (k + 1) = shU st t k + st 7 0 (128 * t + (k : Int)) := rfl
theorem shU_r {wb : Int} {st : St} (hI : GI wb st) (t : Int) (k : Nat) : 0 ≤ shU st t k ∧ shU st t k ≤ 1 * (k : Int) := sumN_r (fun _ => gI_7 hI 0 _) k
def cShare (st : St) (t : Int) : Int := if kRange 0 5 t = 0 then shU st t 128 else 0
def fShare (c : Int) : UInt32 := FP.fdiv (FP.i2f (iI c)) 1124073472
theorem fShare_n : ∀ k : Nat, k < 129 → (FP.fdiv (FP.i2f (iI (k : Int))) 1124073472) &&& 0x7fffffff ≤ 0x7f800000 := by decide +kernel
theorem fShare_n2 {c : Int} (h : 0 ≤ c ∧ c ≤ 128) : vf_n32 (FP.fdiv (FP.i2f (iI c)) 1124073472) := by
  obtain ⟨k, rfl⟩ := Int.eq_ofNat_of_zero_le h.1
  exact fShare_n k (by omega)
