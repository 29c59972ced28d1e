/-! ===== the class's seating: its tables ===== -/
def setW (st : St) (cf ff : Int → Int) : St := fun c o i => if c = 34 ∧ o = 0 then cf i else if c = 35 ∧ o = 0 then ff i else st c o i
theorem setW_c (st : St) (cf ff : Int → Int) {c o : Nat} {i : Int} (h : c < 34 ∨ 35 < c) : setW st cf ff c o i = st c o i := by
  unfold setW
  rw [if_neg (fun q => by omega), if_neg (fun q => by omega)]
theorem setW_u34 (st : St) (cf ff : Int → Int) (i v : Int) : ust (setW st cf ff) 34 0 i v = setW st (updI cf i v) ff := by
  funext c o j
  unfold ust setW updI
  by_cases h1 : c = 34 <;> by_cases h2 : o = 0 <;> by_cases h3 : j = i <;> simp [h1, h2, h3]
theorem setW_u35 (st : St) (cf ff : Int → Int) (i v : Int) : ust (setW st cf ff) 35 0 i v = setW st cf (updI ff i v) := by
  funext c o j
  unfold ust setW updI
  by_cases h1 : c = 35 <;> by_cases h2 : o = 0 <;> by_cases h3 : j = i <;> simp [h1, h2, h3]
theorem setW_self (st : St) : st = setW st (st 34 0) (st 35 0) := by
  funext c o j
  unfold setW
  by_cases h : c = 34 ∧ o = 0
  · rw [if_pos h, h.1, h.2]
  · rw [if_neg h]
    by_cases h2 : c = 35 ∧ o = 0
    · rw [if_pos h2, h2.1, h2.2]
    · rw [if_neg h2]
def cstC (st : St) (q o : Nat) (i r : Nat) : Int := sumN (mfC st q o (i : Int) (r : Int)) (4 * st 61 q 0).toNat
def cwX (st : St) (q o n : Nat) : Int → Int := fun j => if 0 ≤ j ∧ j < (n : Int) then cstC st q o (j.toNat / 8) (j.toNat % 8) else st 34 0 j
theorem cwX_s (st : St) (q o i r : Nat) (hr : r < 8) : updI (cwX st q o (8 * i + r)) ((8 * i + r : Nat) : Int) (cstC st q o i r) = cwX st q o (8 * i + r + 1) := by
  funext j
  unfold updI cwX
  by_cases h : j = ((8 * i + r : Nat) : Int)
  · rw [if_pos h, if_pos (by omega), h, Int.toNat_natCast, show (8 * i + r) / 8 = i by omega, show (8 * i + r) % 8 = r by omega]
  · rw [if_neg h]
    by_cases h2 : 0 ≤ j ∧ j < ((8 * i + r : Nat) : Int)
    · rw [if_pos h2, if_pos (by omega)]
    · rw [if_neg h2, if_neg (by omega)]
theorem cwX_0 (st : St) (q o : Nat) : cwX st q o 0 = st 34 0 := by
  funext j
  unfold cwX
  rw [if_neg (by omega)]
