/-! ===== more of the model's words ===== -/
section RASL
variable {p : Program} {l : Launch} {e : Env} {R : Room} {s : State} {m : MethodId} {args : Array Value} {below : List Frame} {meth : Method} {c : Code} {H : Heap} {locs : List Loc} {cells slots : Nat} {Q : State → Prop} {pc : Nat} {ls : Array Slot} {rest : List Value}
theorem r_asL {x y : Int64} (h : x = y) (k : W p l e R s m args below meth c H locs cells slots Q (F0 m pc ls (.long y :: rest))) : W p l e R s m args below meth c H locs cells slots Q (F0 m pc ls (.long x :: rest)) := by
  rw [h]; exact k
theorem r_as2 {x y : Int} {v : Value} (h : x = y) (k : W p l e R s m args below meth c H locs cells slots Q (F0 m pc ls (v :: .int (iI y) :: rest))) : W p l e R s m args below meth c H locs cells slots Q (F0 m pc ls (v :: .int (iI x) :: rest)) := by
  rw [h]; exact k
end RASL
theorem readV_r {step top cal off cur : Int} (h1 : 1 ≤ step ∧ step ≤ 16) (h2 : 1 ≤ top ∧ top ≤ 127) : 0 ≤ readV step top cal off cur ∧ readV step top cal off cur ≤ 2032 := by
  unfold readV
  have h3 : 0 ≤ max 0 (cur + if cal = 1 then 0 else off) / step := Int.ediv_nonneg (by omega) (by omega)
  generalize max 0 (cur + if cal = 1 then 0 else off) / step = z at h3 ⊢
  constructor
  · exact Int.mul_nonneg (by omega) (by omega)
  · have a1 : min top z * step ≤ 127 * step := Int.mul_le_mul_of_nonneg_right (by omega) (by omega)
    omega
def drF (x : Int) : Int := (25173 * x + 13849) % 65536
theorem drF_r (x : Int) : 0 ≤ drF x ∧ drF x ≤ 65535 := by unfold drF; omega
/-- one time of spoiling tile t: state, how many were stuck, draw -/
def spStep (t : Int) (x : St × Int × Int) : St × Int × Int := if x.1 7 0 (128 * t + drF x.2.2 % 128) = 0 then (sSticks x.1 (128 * t + drF x.2.2 % 128) (drF (drF x.2.2) % 16), x.2.1 + 1, drF (drF x.2.2)) else (x.1, x.2.1, drF (drF x.2.2))
def spI (t : Int) (x : St × Int × Int) : Nat → St × Int × Int
  | 0 => x
  | n + 1 => spStep t (spI t x n)
theorem spI_s (t : Int) (x : St × Int × Int) (n : Nat) : spI t x (n + 1) = spStep t (spI t x n) := rfl
theorem spStep_1 {t : Int} {x : St × Int × Int} {i v d k : Int} (hk : x.1 7 0 i = 0) (hi : i = 128 * t + drF x.2.2 % 128) (hd : d = drF (drF x.2.2)) (hv : v = d % 16) (hc : k = x.2.1 + 1) : spStep t x = (sSticks x.1 i v, k, d) := by
  unfold spStep
  rw [← hi, if_pos hk, ← hd, ← hv, ← hc]
theorem spStep_0 {t : Int} {x : St × Int × Int} {i d : Int} (hk : ¬ x.1 7 0 i = 0) (hi : i = 128 * t + drF x.2.2 % 128) (hd : d = drF (drF x.2.2)) : spStep t x = (x.1, x.2.1, d) := by
  unfold spStep
  rw [← hi, if_neg hk, ← hd]
def kSpoil (t x n : Int) : Int := if 0 ≤ t ∧ t ≤ 5 then (if (0 ≤ x ∧ x ≤ 65535) ∧ 1 ≤ n ∧ n ≤ 20 then 0 else 2) else 1
theorem kSpoil_s (t x n : Int) : ((0 ≤ t ∧ t ≤ 5) ∧ ((0 ≤ x ∧ x ≤ 65535) ∧ 1 ≤ n ∧ n ≤ 20) ∧ kSpoil t x n = 0) ∨ ((0 ≤ t ∧ t ≤ 5) ∧ ¬ ((0 ≤ x ∧ x ≤ 65535) ∧ 1 ≤ n ∧ n ≤ 20) ∧ kSpoil t x n = 2) ∨ (¬ (0 ≤ t ∧ t ≤ 5) ∧ kSpoil t x n = 1) := by
  unfold kSpoil
  by_cases h1 : 0 ≤ t ∧ t ≤ 5
  · by_cases h2 : (0 ≤ x ∧ x ≤ 65535) ∧ 1 ≤ n ∧ n ≤ 20
    · exact Or.inl ⟨h1, h2, by rw [if_pos h1, if_pos h2]⟩
    · exact Or.inr (Or.inl ⟨h1, h2, by rw [if_pos h1, if_neg h2]⟩)
  · exact Or.inr (Or.inr ⟨h1, by rw [if_neg h1]⟩)
def spX (st : St) (t x n : Int) : St × Int × Int := if kSpoil t x n = 0 then spI t (ust st 0 0 0 (kSpoil t x n), 0, x) n.toNat else (ust st 0 0 0 (kSpoil t x n), 0, x)
/-- how many cycles a layer takes for a vector -/
def cyF (outs many : Int) : Int := 8 * ((4 * outs + many - 1) / many)
theorem cyF_r {o m : Int} (ho : 0 ≤ o ∧ o ≤ 4) (hm : 1 ≤ m ∧ m ≤ 16) : 0 ≤ cyF o m ∧ cyF o m ≤ 128 := by
  unfold cyF
  have h1 : 0 ≤ (4 * o + m - 1) / m := Int.ediv_nonneg (by omega) (by omega)
  have h2 : (4 * o + m - 1) / m ≤ 16 := by
    rw [← Int.lt_add_one_iff, Int.ediv_lt_iff_lt_mul (by omega)]
    omega
  omega
