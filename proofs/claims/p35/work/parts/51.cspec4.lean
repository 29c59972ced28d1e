/-! ===== the class's layer on a tile ===== -/
def mfC (st : St) (q o : Nat) (b rw0 : Int) (k : Nat) : Int := msC st o (16 * rw0 + (k : Int)) (needC st q b (k : Int))
theorem mfC_r {wb : Int} {st : St} (hI : GI wb st) (q o : Nat) (b rw0 : Int) : 0 ≤ sumN (mfC st q o b rw0) (4 * st 61 q 0).toNat ∧ sumN (mfC st q o b rw0) (4 * st 61 q 0).toNat ≤ 16 := by
  have h1 := sumN_r (B := 1) (fun c => msC_r st o (16 * rw0 + (c : Int)) (needC st q b (c : Int))) (4 * st 61 q 0).toNat
  have h2 := gI_61 hI q 0
  have h3 : 0 ≤ sumN (mfC st q o b rw0) (4 * st 61 q 0).toNat ∧ sumN (mfC st q o b rw0) (4 * st 61 q 0).toNat ≤ 1 * ((4 * st 61 q 0).toNat : Int) := h1
  omega
def noC (st : St) (q : Nat) (d : Int) : Nat → Int := sumN (fun k => needC st q (k : Int) d)
theorem noC_s (st : St) (q : Nat) (d : Int) (k : Nat) : noC st q d (k + 1) = noC st q d k + needC st q (k : Int) d := rfl
theorem noC_r {wb : Int} {st : St} (hI : GI wb st) (q : Nat) (d : Int) (n : Nat) : 0 ≤ noC st q d n ∧ noC st q d n ≤ 15 * (n : Int) := sumN_r (fun _ => needC_r hI q _ d) n
def okC (st : St) (q o : Nat) (i c : Nat) : Int := if conC st o (16 * st 63 q (i : Int) + (c : Int)) = needC st q (i : Int) (c : Int) then 1 else 0
def rowK (st : St) (q o i : Nat) : Nat → Int
  | 0 => 1
  | c + 1 => if rowK st q o i c = 0 then 0 else okC st q o i c
def allK (st : St) (q o : Nat) : Nat → Int
  | 0 => 1
  | i + 1 => if allK st q o i = 0 then 0 else rowK st q o i (4 * st 61 q 0).toNat
theorem rowK_s (st : St) (q o i c : Nat) : rowK st q o i (c + 1) = if rowK st q o i c = 0 then 0 else okC st q o i c := rfl
theorem allK_s (st : St) (q o i : Nat) : allK st q o (i + 1) = if allK st q o i = 0 then 0 else rowK st q o i (4 * st 61 q 0).toNat := rfl
theorem rowK_m {st : St} {q o i k : Nat} (h : rowK st q o i k = 0) : ∀ m, rowK st q o i (k + m) = 0
  | 0 => h
  | m + 1 => by rw [← Nat.add_assoc, rowK_s, if_pos (rowK_m h m)]
theorem allK_m {st : St} {q o k : Nat} (h : allK st q o k = 0) : ∀ m, allK st q o (k + m) = 0
  | 0 => h
  | m + 1 => by rw [← Nat.add_assoc, allK_s, if_pos (allK_m h m)]
theorem allK_f {st : St} {q o i k : Nat} (hi : (i : Int) < st 60 q 0) (hk : (k : Int) < 4 * st 61 q 0) (hne : conC st o (16 * st 63 q (i : Int) + (k : Int)) ≠ needC st q (i : Int) (k : Int)) : allK st q o (st 60 q 0).toNat = 0 := by
  have h1 : rowK st q o i (k + 1) = 0 := by
    rw [rowK_s]
    unfold okC
    rw [if_neg hne]
    split <;> rfl
  have h2 : rowK st q o i (4 * st 61 q 0).toNat = 0 := by
    have := rowK_m h1 ((4 * st 61 q 0).toNat - (k + 1))
    rwa [show k + 1 + ((4 * st 61 q 0).toNat - (k + 1)) = (4 * st 61 q 0).toNat by omega] at this
  have h3 : allK st q o (i + 1) = 0 := by
    rw [allK_s, h2]
    split <;> rfl
  have := allK_m h3 ((st 60 q 0).toNat - (i + 1))
  rwa [show i + 1 + ((st 60 q 0).toNat - (i + 1)) = (st 60 q 0).toNat by omega] at this
theorem wrCf_r (st : St) (o : Nat) (i want : Int) : 0 ≤ wrCf st o i want ∧ wrCf st o i want ≤ 1 := by
  unfold wrCf
  split <;> omega
