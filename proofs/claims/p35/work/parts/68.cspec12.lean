def fromC (st : St) (i : Int) (S : Nat) : Nat → Int
  | 0 => 128
  | r + 1 => if S / 2 ^ r % 2 = 0 then min (fromC st i S r) (st 34 0 (8 * i + (r : Int)) + st 35 0 ((S ||| 2 ^ r : Nat) : Int)) else fromC st i S r
theorem fromC_s (st : St) (i : Int) (S r : Nat) : fromC st i S (r + 1) = if S / 2 ^ r % 2 = 0 then min (fromC st i S r) (st 34 0 (8 * i + (r : Int)) + st 35 0 ((S ||| 2 ^ r : Nat) : Int)) else fromC st i S r := rfl
theorem fromC_r {wb : Int} {st : St} (hI : GI wb st) (i : Int) (S : Nat) : ∀ r, 0 ≤ fromC st i S r ∧ fromC st i S r ≤ 128
  | 0 => by unfold fromC; omega
  | r + 1 => by
    have h1 := fromC_r hI i S r
    have h2 := gI_34 hI 0 (8 * i + (r : Int))
    have h3 := gI_35 hI 0 ((S ||| 2 ^ r : Nat) : Int)
    rw [fromC_s]
    split <;> omega
