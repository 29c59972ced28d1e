def needC (st : St) (q : Nat) (i d : Int) : Int := needV (st 62 q (4 * i + d / 4)) (d % 4)
theorem needC_r {wb : Int} {st : St} (hI : GI wb st) (q : Nat) (i d : Int) : 0 ≤ needC st q i d ∧ needC st q i d ≤ 15 := needV_r (gI_62 hI q _) _
