def anI (st : St) (q o vec : Nat) (d : Int) (b : Nat) : Nat → Int := sumN (fun k => fcF (k : Int) * readC st o (d * 4 + (k : Int)) (curC st q o (asrN vec b) (d * 4 + (k : Int)) (st 60 q 0).toNat) * 2 ^ b)
theorem anI_0 (st : St) (q o vec : Nat) (d : Int) (b : Nat) : anI st q o vec d b 0 = 0 := rfl
theorem anI_s (st : St) (q o vec : Nat) (d : Int) (b k : Nat) : anI st q o vec d b (k + 1) = anI st q o vec d b k + fcF (k : Int) * readC st o (d * 4 + (k : Int)) (curC st q o (asrN vec b) (d * 4 + (k : Int)) (st 60 q 0).toNat) * 2 ^ b := rfl
def anC (st : St) (q o vec : Nat) (d : Int) : Nat → Int := sumN (fun b => anI st q o vec d b 4)
theorem anC_s (st : St) (q o vec : Nat) (d : Int) (b : Nat) : anC st q o vec d (b + 1) = anC st q o vec d b + anI st q o vec d b 4 := rfl
