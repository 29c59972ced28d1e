def idC (st : St) (q : Nat) (d : Int) (vec : Nat) : Nat → Int := sumN (fun k => st 62 q (4 * (k : Int) + d) * inpF vec k)
theorem idC_s (st : St) (q : Nat) (d : Int) (vec k : Nat) : idC st q d vec (k + 1) = idC st q d vec k + st 62 q (4 * (k : Int) + d) * inpF vec k := rfl
def curC (st : St) (q o vec : Nat) (d : Int) : Nat → Int := sumN (fun k => if inpF vec k % 2 = 1 then conC st o (16 * st 63 q (k : Int) + d) else 0)
theorem curC_s (st : St) (q o vec : Nat) (d : Int) (k : Nat) : curC st q o vec d (k + 1) = curC st q o vec d k + (if inpF vec k % 2 = 1 then conC st o (16 * st 63 q (k : Int) + d) else 0) := rfl
theorem curC_r {wb : Int} {st : St} (hI : GI wb st) (hsc : ∀ (o : Nat) (j : Int), st 42 o j ≤ st 30 0 0) (q o vec : Nat) (d : Int) (n : Nat) : 0 ≤ curC st q o vec d n ∧ curC st q o vec d n ≤ 15 * (n : Int) := sumN_r (fun k => by
  have h := conC_r hI o (16 * st 63 q (k : Int) + d) (hsc o _)
  split <;> omega) n
