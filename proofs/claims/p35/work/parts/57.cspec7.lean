/-! ===== the class's pipeline ===== -/
def tkS (st : St) : Nat → Int := sumN (fun k => st 37 0 (k : Int))
theorem tkS_s (st : St) (k : Nat) : tkS st (k + 1) = tkS st k + st 37 0 (k : Int) := rfl
def tkM (st : St) : Nat → Int
  | 0 => 0
  | k + 1 => max (tkM st k) (st 37 0 (k : Int))
theorem tkM_s (st : St) (k : Nat) : tkM st (k + 1) = max (tkM st k) (st 37 0 (k : Int)) := rfl
theorem tkM_r {wb : Int} {st : St} (hI : GI wb st) : ∀ k, 0 ≤ tkM st k ∧ tkM st k ≤ 128
  | 0 => by unfold tkM; omega
  | k + 1 => by
    have h1 := tkM_r hI k
    have h2 := gI_37 hI 0 (k : Int)
    rw [tkM_s]
    omega
/-- what is left in each stage, all anew -/
def setP (st : St) (lf : Int → Int) : St := fun c o i => if c = 38 ∧ o = 0 then lf i else st c o i
theorem setP_c (st : St) (lf : Int → Int) {c o : Nat} {i : Int} (h : c < 38 ∨ 38 < c) : setP st lf c o i = st c o i := by
  unfold setP
  rw [if_neg (fun q => by omega)]
theorem setP_r (st : St) (lf : Int → Int) (i : Int) : setP st lf 38 0 i = lf i := by unfold setP; rw [if_pos ⟨rfl, rfl⟩]
theorem setP_u (st : St) (lf : Int → Int) (i v : Int) : ust (setP st lf) 38 0 i v = setP st (updI lf i v) := by
  funext c o j
  unfold ust setP updI
  by_cases h1 : c = 38 <;> by_cases h2 : o = 0 <;> by_cases h3 : j = i <;> simp [h1, h2, h3]
theorem setP_self (st : St) : st = setP st (st 38 0) := by
  funext c o j
  unfold setP
  by_cases h : c = 38 ∧ o = 0
  · rw [if_pos h, h.1, h.2]
  · rw [if_neg h]
def lfW (st : St) (k : Nat) : Int → Int := fun j => if (0 ≤ j ∧ j < (k : Int)) ∧ 0 < st 38 0 j then st 38 0 j - 1 else st 38 0 j
theorem lfW_0 (st : St) : lfW st 0 = st 38 0 := by
  funext j
  unfold lfW
  rw [if_neg (by omega)]
theorem lfW_k (st : St) (k : Nat) : lfW st k (k : Int) = st 38 0 (k : Int) := by
  unfold lfW
  rw [if_neg (by omega)]
theorem lfW_s (st : St) (k : Nat) {v : Int} (h : 0 < st 38 0 (k : Int)) (hv : v = st 38 0 (k : Int) - 1) : updI (lfW st k) (k : Int) v = lfW st (k + 1) := by
  funext j
  unfold updI lfW
  by_cases e : j = (k : Int)
  · rw [if_pos e, e, if_pos (by omega), hv]
  · rw [if_neg e]
    by_cases h2 : (0 ≤ j ∧ j < (k : Int)) ∧ 0 < st 38 0 j
    · rw [if_pos h2, if_pos (by omega)]
    · rw [if_neg h2, if_neg (by omega)]
theorem lfW_n (st : St) (k : Nat) (h : ¬ 0 < st 38 0 (k : Int)) : lfW st k = lfW st (k + 1) := by
  funext j
  unfold lfW
  by_cases h2 : (0 ≤ j ∧ j < (k : Int)) ∧ 0 < st 38 0 j
  · rw [if_pos h2, if_pos (by omega)]
  · rw [if_neg h2]
    by_cases e : j = (k : Int)
    · rw [e, if_neg (by omega)]
    · rw [if_neg (by omega)]
