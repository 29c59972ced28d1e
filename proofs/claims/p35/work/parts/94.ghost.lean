/-! ===== the model's components as ghosts: no cell holds them; they are made anew out of the class's ===== -/
theorem gcp_25 (kd : Nat) : 25 ≤ gcp kd := by
  rcases Nat.lt_or_ge kd 43 with h | h
  · exact (by decide +kernel : ∀ k, k < 43 → 25 ≤ gcp k) kd h
  · rw [(gty_big h).2]
    decide
theorem gE_cg {x y : St} (h : ∀ (c o : Nat) (i : Int), 25 ≤ c → x c o i = y c o i) (ad : Nat → Nat) (cy : Nat → ClassId) {kd : Nat} (hk : kd ≠ 0) (o : Nat) : gE x ad cy kd o = gE y ad cy kd o := by
  have hg : ∀ j : Int, x (gcp kd) o j = y (gcp kd) o j := fun j => h _ _ _ (gcp_25 kd)
  unfold gE gOx gOs gOp gOt gOl
  rw [if_neg hk, if_neg hk]
  simp only [h 30 0 0 (by decide), h 31 0 0 (by decide), h 32 0 0 (by decide), h 33 0 0 (by decide), h 36 0 0 (by decide), h 46 o 0 (by decide), h 47 o 0 (by decide), h 48 o 0 (by decide), h 49 o 0 (by decide), h 50 o 0 (by decide), h 60 o 0 (by decide), h 61 o 0 (by decide), h 64 o 0 (by decide), h 65 o 0 (by decide), h 66 o 0 (by decide), hg]
theorem gk_ne {k : Nat} (h : 19 ≤ k) : (gk k).1 ≠ 0 := by
  unfold gk
  by_cases h1 : k < 33
  · rw [if_pos h1]
    show k ≠ 0
    omega
  · rw [if_neg h1]
    by_cases h2 : k < 75
    · rw [if_pos h2]
      show 33 + (k - 33) % 7 ≠ 0
      omega
    · rw [if_neg h2]
      show 40 + (k - 75) % 3 ≠ 0
      omega
theorem gC_cg {x y : St} (h : ∀ (c o : Nat) (i : Int), 25 ≤ c → x c o i = y c o i) (ad : Nat → Nat) (cy : Nat → ClassId) {k : Nat} (hk : 19 ≤ k) : gC x ad cy k = gC y ad cy k := gE_cg h ad cy (gk_ne hk) _
theorem gw_cg2 {x y : St} (h : ∀ (c o : Nat) (i : Int), 25 ≤ c → x c o i = y c o i) (ad : Nat → Nat) (cy : Nat → ClassId) (n : Nat) : gw n ad (gC x ad cy) = gw n ad (gC y ad cy) := by
  unfold gw
  refine List.map_congr_left (fun k _ => ?_)
  rw [gC_cg h ad cy (by omega)]
theorem GH_cg {D : va_G} {cy : Nat → ClassId} {ad : Nat → Nat} {n : Nat} {x y : St} {A : Nat → Prop} {H0 H : Heap} {locs : List Loc} (h : ∀ (c o : Nat) (i : Int), 25 ≤ c → x c o i = y c o i) (hG : GH D cy ad n x A H0 H locs) : GH D cy ad n y A H0 H locs := by
  unfold GH at hG ⊢
  rw [← gw_cg2 h ad cy n]
  exact hG
def gh (st : St) : St := fun c o i => match c with
  | 1 => st 30 0 0
  | 2 => st 31 0 0
  | 3 => st 32 0 0
  | 4 => st 40 (i / 128).toNat (i % 128)
  | 5 => st 41 (i / 128).toNat (i % 128)
  | 6 => st 42 (i / 128).toNat (i % 128)
  | 7 => st 43 (i / 128).toNat (i % 128)
  | 8 => st 44 (i / 128).toNat (i % 128)
  | 9 => st 46 i.toNat 0
  | 10 => st 47 i.toNat 0
  | 11 => st 45 (i / 16).toNat (i % 16)
  | 12 => st 48 i.toNat 0
  | 13 => st 49 i.toNat 0
  | 14 => st 33 0 0
  | 15 => st 60 i.toNat 0
  | 16 => st 61 i.toNat 0
  | 17 => st 62 (i / 32).toNat (i % 32)
  | 18 => st 64 i.toNat 0
  | 19 => st 65 i.toNat 0
  | 20 => st 66 i.toNat 0
  | 21 => st 63 (i / 8).toNat (i % 8)
  | _ => st c o i
theorem gh_c (st : St) {c o : Nat} {i : Int} (h : 25 ≤ c) : gh st c o i = st c o i := by
  unfold gh
  split <;> first | omega | rfl
theorem GI_gh {W : Int} {st : St} (h : GI W st) : GI W (gh st) := by
  intro c hc o i
  unfold gh
  split
  · exact h 30 (by decide) _ _
  · exact h 31 (by decide) _ _
  · exact h 32 (by decide) _ _
  · exact h 40 (by decide) _ _
  · exact h 41 (by decide) _ _
  · exact h 42 (by decide) _ _
  · exact h 43 (by decide) _ _
  · exact h 44 (by decide) _ _
  · exact h 46 (by decide) _ _
  · exact h 47 (by decide) _ _
  · exact h 45 (by decide) _ _
  · exact h 48 (by decide) _ _
  · exact h 49 (by decide) _ _
  · exact h 33 (by decide) _ _
  · have q := gI_60 h i.toNat 0
    exact ⟨by show (0 : Int) ≤ _; omega, q.2⟩
  · have q := gI_61 h i.toNat 0
    exact ⟨by show (0 : Int) ≤ _; omega, q.2⟩
  · exact h 62 (by decide) _ _
  · exact h 64 (by decide) _ _
  · exact h 65 (by decide) _ _
  · exact h 66 (by decide) _ _
  · exact h 63 (by decide) _ _
  · exact h c hc _ _
/-- what the class's own components keep -/
def CI (st : St) : Prop :=
  (∀ t : Nat, t < 6 → (st 50 t 0 = 1 ∧ ∃ q : Nat, (q : Int) < st 33 0 0 ∧ st 66 q 0 = (t : Int)) ∨ (st 50 t 0 = 0 ∧ ∀ q : Nat, (q : Int) < st 33 0 0 → st 66 q 0 ≠ (t : Int)))
  ∧ (∀ (o : Nat) (j : Int), st 42 o j ≤ st 30 0 0)
  ∧ (∀ q : Nat, (q : Int) < st 33 0 0 → st 65 q 0 = -1 ∨ ((q : Int) < st 65 q 0 ∧ st 65 q 0 < st 33 0 0))
  ∧ (∀ q1 q2 : Nat, (q1 : Int) < st 33 0 0 → (q2 : Int) < st 33 0 0 → st 66 q1 0 ≠ -1 → st 66 q1 0 = st 66 q2 0 → q1 = q2)
  ∧ (∀ q : Nat, st 33 0 0 ≤ (q : Int) → q < 6 → (∀ j : Int, 0 ≤ j ∧ j < 32 → st 62 q j = 0) ∧ st 64 q 0 = 0 ∧ ∀ j : Int, 0 ≤ j ∧ j < 8 → st 63 q j = 0)
theorem RY_gh {st : St} (h : CI st) (h33 : 0 ≤ st 33 0 0) : RY (gh st) := by
  obtain ⟨ht, hs, hc, hu, hf⟩ := h
  refine ⟨⟨rfl, rfl, rfl, rfl⟩, fun q _ => ⟨rfl, rfl, rfl, rfl, rfl⟩, fun q j _ hj => ?_, fun q j _ hj => ?_, fun t i _ hi => ?_, fun t _ => ⟨rfl, rfl, rfl, rfl⟩, fun t i _ hi => ?_, fun t h6 => ?_, fun o j => hs o j, fun j => hs _ _, fun q h0 h1 => ?_, fun q1 q2 h1 h2 h3 h4 => ?_, fun q hq => ?_⟩
  · show st 62 q j = st 62 ((32 * (q : Int) + j) / 32).toNat ((32 * (q : Int) + j) % 32)
    rw [show (32 * (q : Int) + j) / 32 = (q : Int) by omega, show (32 * (q : Int) + j) % 32 = j by omega, Int.toNat_natCast]
  · show st 63 q j = st 63 ((8 * (q : Int) + j) / 8).toNat ((8 * (q : Int) + j) % 8)
    rw [show (8 * (q : Int) + j) / 8 = (q : Int) by omega, show (8 * (q : Int) + j) % 8 = j by omega, Int.toNat_natCast]
  · have e1 : ((128 * (t : Int) + i) / 128).toNat = t := by omega
    have e2 : (128 * (t : Int) + i) % 128 = i := by omega
    refine ⟨?_, ?_, ?_, ?_, ?_⟩
    · show st 40 t i = st 40 ((128 * (t : Int) + i) / 128).toNat ((128 * (t : Int) + i) % 128)
      rw [e1, e2]
    · show st 41 t i = st 41 ((128 * (t : Int) + i) / 128).toNat ((128 * (t : Int) + i) % 128)
      rw [e1, e2]
    · show st 42 t i = st 42 ((128 * (t : Int) + i) / 128).toNat ((128 * (t : Int) + i) % 128)
      rw [e1, e2]
    · show st 43 t i = st 43 ((128 * (t : Int) + i) / 128).toNat ((128 * (t : Int) + i) % 128)
      rw [e1, e2]
    · show st 44 t i = st 44 ((128 * (t : Int) + i) / 128).toNat ((128 * (t : Int) + i) % 128)
      rw [e1, e2]
  · show st 45 t i = st 45 ((16 * (t : Int) + i) / 16).toNat ((16 * (t : Int) + i) % 16)
    rw [show ((16 * (t : Int) + i) / 16).toNat = t by omega, show (16 * (t : Int) + i) % 16 = i by omega]
  · rcases ht t h6 with ⟨a, q, hq, e⟩ | ⟨a, b⟩
    · exact Or.inl ⟨a, (q : Int), ⟨by omega, hq⟩, e⟩
    · refine Or.inr ⟨a, fun q hq => ?_⟩
      obtain ⟨n, rfl⟩ := Int.eq_ofNat_of_zero_le hq.1
      exact b n hq.2
  · obtain ⟨n, rfl⟩ := Int.eq_ofNat_of_zero_le h0
    exact hc n h1
  · obtain ⟨n1, rfl⟩ := Int.eq_ofNat_of_zero_le h1.1
    obtain ⟨n2, rfl⟩ := Int.eq_ofNat_of_zero_le h2.1
    exact congrArg _ (hu n1 n2 h1.2 h2.2 h3 h4)
  · have h9 : st 33 0 0 ≤ q := hq.1
    by_cases hq0 : 0 ≤ q
    · obtain ⟨n, rfl⟩ := Int.eq_ofNat_of_zero_le hq0
      obtain ⟨a, b, c⟩ := hf n h9 (by omega)
      refine ⟨fun j hj => ?_, b, fun j hj => ?_⟩
      · show st 62 ((32 * (n : Int) + j) / 32).toNat ((32 * (n : Int) + j) % 32) = 0
        rw [show ((32 * (n : Int) + j) / 32).toNat = n by omega, show (32 * (n : Int) + j) % 32 = j by omega]
        exact a j hj
      · show st 63 ((8 * (n : Int) + j) / 8).toNat ((8 * (n : Int) + j) % 8) = 0
        rw [show ((8 * (n : Int) + j) / 8).toNat = n by omega, show (8 * (n : Int) + j) % 8 = j by omega]
        exact c j hj
    · omega
