def goC (st : St) (q q2 : Nat) : Int := if (q : Int) < (q2 : Int) ∧ st 61 q 0 ≤ st 60 q2 0 then 1 else 0
def bnE (st : St) (q o : Nat) (out u : Int) (k : Nat) : Int := bestU (readC st o (out * 4 + (k : Int))) (if (u = 1 ∧ 0 < fcF (k : Int)) ∨ (u = 0 ∧ fcF (k : Int) ≤ 0) then 1 else 0) (noC st q (out * 4 + (k : Int)) (st 60 q 0).toNat).toNat
def bnT (st : St) (q o : Nat) (out u : Int) (k : Nat) : Int := fcF (k : Int) * bnE st q o out u k
