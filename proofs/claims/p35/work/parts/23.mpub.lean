theorem ust_ust (st : St) (c o : Nat) (i v w : Int) : ust (ust st c o i v) c o i w = ust st c o i w := by
  funext c' o' i'
  unfold ust
  by_cases h1 : c' = c <;> by_cases h2 : o' = o <;> by_cases h3 : i' = i <;> simp [h1, h2, h3]
def kLayer (st : St) (a b : Int) : Int := if (1 ≤ a ∧ a ≤ 8) ∧ 1 ≤ b ∧ b ≤ 4 then (if st 14 0 0 = 6 then 2 else 0) else 1
def sLayer (st : St) (a b : Int) : St := if kLayer st a b = 0 then ust (ust (ust (ust (ust (ust st 0 0 0 (kLayer st a b)) 15 0 (st 14 0 0) a) 16 0 (st 14 0 0) b) 19 0 (st 14 0 0) (-1)) 20 0 (st 14 0 0) (-1)) 14 0 0 (st 14 0 0 + 1) else ust st 0 0 0 (kLayer st a b)
def aLayer (st : St) (a b : Int) : Int := if kLayer st a b = 0 then st 14 0 0 else 0
def kWeight (st : St) (a i o w : Int) : Int := if (0 ≤ a ∧ a < st 14 0 0) ∧ (0 ≤ i ∧ i < st 15 0 a) ∧ 0 ≤ o ∧ o < st 16 0 a then (if -255 ≤ w ∧ w ≤ 255 then 0 else 2) else 1
def sWeight (st : St) (a i o w : Int) : St := if kWeight st a i o w = 0 then ust (ust st 0 0 0 (kWeight st a i o w)) 17 0 (32 * a + 4 * i + o) w else ust st 0 0 0 (kWeight st a i o w)
def aWeight (st : St) (a i o w : Int) : Int := if kWeight st a i o w = 0 then st 17 0 (32 * a + 4 * i + o) else 0
def kShift (st : St) (a b : Int) : Int := if 0 ≤ a ∧ a < st 14 0 0 then (if 0 ≤ b ∧ b ≤ 20 then 0 else 2) else 1
def sShift (st : St) (a b : Int) : St := if kShift st a b = 0 then ust (ust st 0 0 0 (kShift st a b)) 18 0 a b else ust st 0 0 0 (kShift st a b)
def aShift (st : St) (a b : Int) : Int := if kShift st a b = 0 then st 18 0 a else 0
def kNext (st : St) (a b : Int) : Int := if (0 ≤ a ∧ a < st 14 0 0) ∧ (b = -1 ∨ (0 ≤ b ∧ b < st 14 0 0)) then (if b = -1 ∨ (a < b ∧ st 16 0 a ≤ st 15 0 b) then 0 else 2) else 1
def sNext (st : St) (a b : Int) : St := if kNext st a b = 0 then ust (ust st 0 0 0 (kNext st a b)) 19 0 a b else ust st 0 0 0 (kNext st a b)
def aNext (st : St) (a b : Int) : Int := if kNext st a b = 0 then st 19 0 a else 0
def kPlaced (st : St) (a : Int) : Int := if 0 ≤ a ∧ a < st 14 0 0 then (if st 20 0 a = -1 then 2 else 0) else 1
def sLift (st : St) (a : Int) : St := if kPlaced st a = 0 then ust (ust st 0 0 0 (kPlaced st a)) 20 0 a (-1) else ust st 0 0 0 (kPlaced st a)
def aLift (st : St) (a : Int) : Int := if kPlaced st a = 0 then st 20 0 a else 0
def sSticks (st : St) (i v : Int) : St := ust (ust st 7 0 i 1) 4 0 i v
def kStick (st : St) (t r c v : Int) : Int := if (0 ≤ t ∧ t ≤ 5) ∧ (0 ≤ r ∧ r ≤ 7) ∧ 0 ≤ c ∧ c ≤ 15 then (if 0 ≤ v ∧ v ≤ 15 then (if st 7 0 (128 * t + 16 * r + c) = 0 then 0 else 3) else 2) else 1
def sStick (st : St) (t r c v : Int) : St := if kStick st t r c v = 0 then sSticks (ust st 0 0 0 (kStick st t r c v)) (128 * t + 16 * r + c) v else ust st 0 0 0 (kStick st t r c v)
def kRange (lo hi v : Int) : Int := if lo ≤ v ∧ v ≤ hi then 0 else 1
def sDrift (st : St) (v : Int) : St := if kRange 0 1000 v = 0 then ust (ust st 0 0 0 (kRange 0 1000 v)) 2 0 0 v else ust st 0 0 0 (kRange 0 1000 v)
def aDrift (st : St) (v : Int) : Int := if kRange 0 1000 v = 0 then st 2 0 0 else 0
def sEndur (st : St) (v : Int) : St := if kRange 1 100000 v = 0 then ust (ust st 0 0 0 (kRange 1 100000 v)) 3 0 0 v else ust st 0 0 0 (kRange 1 100000 v)
def aEndur (st : St) (v : Int) : Int := if kRange 1 100000 v = 0 then st 3 0 0 else 0
def kPass (st : St) (v : Int) : Int := if 1 ≤ v ∧ v ≤ 10000 then (if 1000000 < st 1 0 0 + v then 2 else 0) else 1
def sPass (st : St) (v : Int) : St := if kPass st v = 0 then ust (ust st 0 0 0 (kPass st v)) 1 0 0 (st 1 0 0 + v) else ust st 0 0 0 (kPass st v)
def aPass (st : St) (v : Int) : Int := if kPass st v = 0 then st 1 0 0 + v else 0
def kConv (t a b : Int) : Int := if 0 ≤ t ∧ t ≤ 5 then (if (1 ≤ a ∧ a ≤ 16) ∧ 1 ≤ b ∧ b ≤ 127 then 0 else 2) else 1
def sConv (st : St) (t a b : Int) : St := if kConv t a b = 0 then ust (ust (ust st 0 0 0 (kConv t a b)) 9 0 t a) 10 0 t b else ust st 0 0 0 (kConv t a b)
def aConv (st : St) (t a b : Int) : Int := if kConv t a b = 0 then 1000 * st 9 0 t + st 10 0 t else 0
def kOffs (t c v : Int) : Int := if (0 ≤ t ∧ t ≤ 5) ∧ 0 ≤ c ∧ c ≤ 15 then (if -3 ≤ v ∧ v ≤ 3 then 0 else 2) else 1
def sOffs (st : St) (t c v : Int) : St := if kOffs t c v = 0 then ust (ust st 0 0 0 (kOffs t c v)) 11 0 (16 * t + c) v else ust st 0 0 0 (kOffs t c v)
def aOffs (st : St) (t c v : Int) : Int := if kOffs t c v = 0 then st 11 0 (16 * t + c) else 0
def sCal (st : St) (t v : Int) : St := if kRange 0 5 t = 0 then ust (ust st 0 0 0 (kRange 0 5 t)) 12 0 t v else ust st 0 0 0 (kRange 0 5 t)
def aCal (st : St) (t : Int) : Int := if kRange 0 5 t = 0 then st 12 0 t else 0
def kMany (t v : Int) : Int := if 0 ≤ t ∧ t ≤ 5 then (if v = 1 ∨ v = 2 ∨ v = 4 ∨ v = 8 ∨ v = 16 then 0 else 2) else 1
def sMany (st : St) (t v : Int) : St := if kMany t v = 0 then ust (ust st 0 0 0 (kMany t v)) 13 0 t v else ust st 0 0 0 (kMany t v)
def aMany (st : St) (t v : Int) : Int := if kMany t v = 0 then st 13 0 t else 0
def kCell (t r c w : Int) : Int := if ((0 ≤ t ∧ t ≤ 5) ∧ (0 ≤ r ∧ r ≤ 7) ∧ 0 ≤ c ∧ c ≤ 15) ∧ 0 ≤ w ∧ w ≤ 4 then 0 else 1
def aCellW (st : St) (i w : Int) : Int := if w = 0 then st 4 0 i else if w = 1 then conM st i else if w = 2 then st 5 0 i else if w = 3 then st 7 0 i else st 8 0 i
def aCell (st : St) (t r c w : Int) : Int := if kCell t r c w = 0 then aCellW st (128 * t + 16 * r + c) w else 0
def kRow (st : St) (a i : Int) : Int := if (0 ≤ a ∧ a < st 14 0 0) ∧ 0 ≤ i ∧ i < st 15 0 a then 0 else 1
def aRow (st : St) (a i : Int) : Int := if kRow st a i = 0 then (if st 20 0 a = -1 then -1 else st 21 0 (8 * a + i)) else 0
def kLay (st : St) (a : Int) : Int := if 0 ≤ a ∧ a < st 14 0 0 then 0 else 1
def aTile (st : St) (a : Int) : Int := if kLay st a = 0 then st 20 0 a else 0
theorem kPlaced_s (st : St) (a : Int) : (kPlaced st a = 1 ∧ ¬ (0 ≤ a ∧ a < st 14 0 0)) ∨ (kPlaced st a = 2 ∧ (0 ≤ a ∧ a < st 14 0 0) ∧ st 20 0 a = -1) ∨ (kPlaced st a = 0 ∧ (0 ≤ a ∧ a < st 14 0 0) ∧ st 20 0 a ≠ -1) := by
  unfold kPlaced
  by_cases h : 0 ≤ a ∧ a < st 14 0 0
  · rw [if_pos h]
    by_cases h2 : st 20 0 a = -1
    · rw [if_pos h2]; exact Or.inr (Or.inl ⟨rfl, h, h2⟩)
    · rw [if_neg h2]; exact Or.inr (Or.inr ⟨rfl, h, h2⟩)
  · rw [if_neg h]; exact Or.inl ⟨rfl, h⟩
theorem kLayer_s (st : St) (a b : Int) : (((1 ≤ a ∧ a ≤ 8) ∧ 1 ≤ b ∧ b ≤ 4) ∧ (st 14 0 0 = 6) ∧ kLayer st a b = 2) ∨ (((1 ≤ a ∧ a ≤ 8) ∧ 1 ≤ b ∧ b ≤ 4) ∧ ¬ (st 14 0 0 = 6) ∧ kLayer st a b = 0) ∨ (¬ ((1 ≤ a ∧ a ≤ 8) ∧ 1 ≤ b ∧ b ≤ 4) ∧ kLayer st a b = 1) := by
  unfold kLayer
  by_cases h1 : (1 ≤ a ∧ a ≤ 8) ∧ 1 ≤ b ∧ b ≤ 4
  · by_cases h2 : st 14 0 0 = 6
    · exact Or.inl ⟨h1, h2, by rw [if_pos h1, if_pos h2]⟩
    · exact Or.inr (Or.inl ⟨h1, h2, by rw [if_pos h1, if_neg h2]⟩)
  · exact Or.inr (Or.inr ⟨h1, by rw [if_neg h1]⟩)
theorem kWeight_s (st : St) (a i o w : Int) : (((0 ≤ a ∧ a < st 14 0 0) ∧ (0 ≤ i ∧ i < st 15 0 a) ∧ 0 ≤ o ∧ o < st 16 0 a) ∧ (-255 ≤ w ∧ w ≤ 255) ∧ kWeight st a i o w = 0) ∨ (((0 ≤ a ∧ a < st 14 0 0) ∧ (0 ≤ i ∧ i < st 15 0 a) ∧ 0 ≤ o ∧ o < st 16 0 a) ∧ ¬ (-255 ≤ w ∧ w ≤ 255) ∧ kWeight st a i o w = 2) ∨ (¬ ((0 ≤ a ∧ a < st 14 0 0) ∧ (0 ≤ i ∧ i < st 15 0 a) ∧ 0 ≤ o ∧ o < st 16 0 a) ∧ kWeight st a i o w = 1) := by
  unfold kWeight
  by_cases h1 : (0 ≤ a ∧ a < st 14 0 0) ∧ (0 ≤ i ∧ i < st 15 0 a) ∧ 0 ≤ o ∧ o < st 16 0 a
  · by_cases h2 : -255 ≤ w ∧ w ≤ 255
    · exact Or.inl ⟨h1, h2, by rw [if_pos h1, if_pos h2]⟩
    · exact Or.inr (Or.inl ⟨h1, h2, by rw [if_pos h1, if_neg h2]⟩)
  · exact Or.inr (Or.inr ⟨h1, by rw [if_neg h1]⟩)
theorem kShift_s (st : St) (a b : Int) : ((0 ≤ a ∧ a < st 14 0 0) ∧ (0 ≤ b ∧ b ≤ 20) ∧ kShift st a b = 0) ∨ ((0 ≤ a ∧ a < st 14 0 0) ∧ ¬ (0 ≤ b ∧ b ≤ 20) ∧ kShift st a b = 2) ∨ (¬ (0 ≤ a ∧ a < st 14 0 0) ∧ kShift st a b = 1) := by
  unfold kShift
  by_cases h1 : 0 ≤ a ∧ a < st 14 0 0
  · by_cases h2 : 0 ≤ b ∧ b ≤ 20
    · exact Or.inl ⟨h1, h2, by rw [if_pos h1, if_pos h2]⟩
    · exact Or.inr (Or.inl ⟨h1, h2, by rw [if_pos h1, if_neg h2]⟩)
  · exact Or.inr (Or.inr ⟨h1, by rw [if_neg h1]⟩)
theorem kNext_s (st : St) (a b : Int) : (((0 ≤ a ∧ a < st 14 0 0) ∧ (b = -1 ∨ (0 ≤ b ∧ b < st 14 0 0))) ∧ (b = -1 ∨ (a < b ∧ st 16 0 a ≤ st 15 0 b)) ∧ kNext st a b = 0) ∨ (((0 ≤ a ∧ a < st 14 0 0) ∧ (b = -1 ∨ (0 ≤ b ∧ b < st 14 0 0))) ∧ ¬ (b = -1 ∨ (a < b ∧ st 16 0 a ≤ st 15 0 b)) ∧ kNext st a b = 2) ∨ (¬ ((0 ≤ a ∧ a < st 14 0 0) ∧ (b = -1 ∨ (0 ≤ b ∧ b < st 14 0 0))) ∧ kNext st a b = 1) := by
  unfold kNext
  by_cases h1 : (0 ≤ a ∧ a < st 14 0 0) ∧ (b = -1 ∨ (0 ≤ b ∧ b < st 14 0 0))
  · by_cases h2 : b = -1 ∨ (a < b ∧ st 16 0 a ≤ st 15 0 b)
    · exact Or.inl ⟨h1, h2, by rw [if_pos h1, if_pos h2]⟩
    · exact Or.inr (Or.inl ⟨h1, h2, by rw [if_pos h1, if_neg h2]⟩)
  · exact Or.inr (Or.inr ⟨h1, by rw [if_neg h1]⟩)
theorem kRange_s (lo hi v : Int) : ((lo ≤ v ∧ v ≤ hi) ∧ kRange lo hi v = 0) ∨ (¬ (lo ≤ v ∧ v ≤ hi) ∧ kRange lo hi v = 1) := by
  unfold kRange
  by_cases h1 : lo ≤ v ∧ v ≤ hi
  · exact Or.inl ⟨h1, by rw [if_pos h1]⟩
  · exact Or.inr ⟨h1, by rw [if_neg h1]⟩
theorem kPass_s (st : St) (v : Int) : ((1 ≤ v ∧ v ≤ 10000) ∧ (1000000 < st 1 0 0 + v) ∧ kPass st v = 2) ∨ ((1 ≤ v ∧ v ≤ 10000) ∧ ¬ (1000000 < st 1 0 0 + v) ∧ kPass st v = 0) ∨ (¬ (1 ≤ v ∧ v ≤ 10000) ∧ kPass st v = 1) := by
  unfold kPass
  by_cases h1 : 1 ≤ v ∧ v ≤ 10000
  · by_cases h2 : 1000000 < st 1 0 0 + v
    · exact Or.inl ⟨h1, h2, by rw [if_pos h1, if_pos h2]⟩
    · exact Or.inr (Or.inl ⟨h1, h2, by rw [if_pos h1, if_neg h2]⟩)
  · exact Or.inr (Or.inr ⟨h1, by rw [if_neg h1]⟩)
theorem kConv_s (t a b : Int) : ((0 ≤ t ∧ t ≤ 5) ∧ ((1 ≤ a ∧ a ≤ 16) ∧ 1 ≤ b ∧ b ≤ 127) ∧ kConv t a b = 0) ∨ ((0 ≤ t ∧ t ≤ 5) ∧ ¬ ((1 ≤ a ∧ a ≤ 16) ∧ 1 ≤ b ∧ b ≤ 127) ∧ kConv t a b = 2) ∨ (¬ (0 ≤ t ∧ t ≤ 5) ∧ kConv t a b = 1) := by
  unfold kConv
  by_cases h1 : 0 ≤ t ∧ t ≤ 5
  · by_cases h2 : (1 ≤ a ∧ a ≤ 16) ∧ 1 ≤ b ∧ b ≤ 127
    · exact Or.inl ⟨h1, h2, by rw [if_pos h1, if_pos h2]⟩
    · exact Or.inr (Or.inl ⟨h1, h2, by rw [if_pos h1, if_neg h2]⟩)
  · exact Or.inr (Or.inr ⟨h1, by rw [if_neg h1]⟩)
theorem kOffs_s (t c v : Int) : (((0 ≤ t ∧ t ≤ 5) ∧ 0 ≤ c ∧ c ≤ 15) ∧ (-3 ≤ v ∧ v ≤ 3) ∧ kOffs t c v = 0) ∨ (((0 ≤ t ∧ t ≤ 5) ∧ 0 ≤ c ∧ c ≤ 15) ∧ ¬ (-3 ≤ v ∧ v ≤ 3) ∧ kOffs t c v = 2) ∨ (¬ ((0 ≤ t ∧ t ≤ 5) ∧ 0 ≤ c ∧ c ≤ 15) ∧ kOffs t c v = 1) := by
  unfold kOffs
  by_cases h1 : (0 ≤ t ∧ t ≤ 5) ∧ 0 ≤ c ∧ c ≤ 15
  · by_cases h2 : -3 ≤ v ∧ v ≤ 3
    · exact Or.inl ⟨h1, h2, by rw [if_pos h1, if_pos h2]⟩
    · exact Or.inr (Or.inl ⟨h1, h2, by rw [if_pos h1, if_neg h2]⟩)
  · exact Or.inr (Or.inr ⟨h1, by rw [if_neg h1]⟩)
theorem kMany_s (t v : Int) : ((0 ≤ t ∧ t ≤ 5) ∧ (v = 1 ∨ v = 2 ∨ v = 4 ∨ v = 8 ∨ v = 16) ∧ kMany t v = 0) ∨ ((0 ≤ t ∧ t ≤ 5) ∧ ¬ (v = 1 ∨ v = 2 ∨ v = 4 ∨ v = 8 ∨ v = 16) ∧ kMany t v = 2) ∨ (¬ (0 ≤ t ∧ t ≤ 5) ∧ kMany t v = 1) := by
  unfold kMany
  by_cases h1 : 0 ≤ t ∧ t ≤ 5
  · by_cases h2 : v = 1 ∨ v = 2 ∨ v = 4 ∨ v = 8 ∨ v = 16
    · exact Or.inl ⟨h1, h2, by rw [if_pos h1, if_pos h2]⟩
    · exact Or.inr (Or.inl ⟨h1, h2, by rw [if_pos h1, if_neg h2]⟩)
  · exact Or.inr (Or.inr ⟨h1, by rw [if_neg h1]⟩)
theorem kCell_s (t r c w : Int) : ((((0 ≤ t ∧ t ≤ 5) ∧ (0 ≤ r ∧ r ≤ 7) ∧ 0 ≤ c ∧ c ≤ 15) ∧ 0 ≤ w ∧ w ≤ 4) ∧ kCell t r c w = 0) ∨ (¬ (((0 ≤ t ∧ t ≤ 5) ∧ (0 ≤ r ∧ r ≤ 7) ∧ 0 ≤ c ∧ c ≤ 15) ∧ 0 ≤ w ∧ w ≤ 4) ∧ kCell t r c w = 1) := by
  unfold kCell
  by_cases h1 : ((0 ≤ t ∧ t ≤ 5) ∧ (0 ≤ r ∧ r ≤ 7) ∧ 0 ≤ c ∧ c ≤ 15) ∧ 0 ≤ w ∧ w ≤ 4
  · exact Or.inl ⟨h1, by rw [if_pos h1]⟩
  · exact Or.inr ⟨h1, by rw [if_neg h1]⟩
theorem kRow_s (st : St) (a i : Int) : (((0 ≤ a ∧ a < st 14 0 0) ∧ 0 ≤ i ∧ i < st 15 0 a) ∧ kRow st a i = 0) ∨ (¬ ((0 ≤ a ∧ a < st 14 0 0) ∧ 0 ≤ i ∧ i < st 15 0 a) ∧ kRow st a i = 1) := by
  unfold kRow
  by_cases h1 : (0 ≤ a ∧ a < st 14 0 0) ∧ 0 ≤ i ∧ i < st 15 0 a
  · exact Or.inl ⟨h1, by rw [if_pos h1]⟩
  · exact Or.inr ⟨h1, by rw [if_neg h1]⟩
theorem kLay_s (st : St) (a : Int) : ((0 ≤ a ∧ a < st 14 0 0) ∧ kLay st a = 0) ∨ (¬ (0 ≤ a ∧ a < st 14 0 0) ∧ kLay st a = 1) := by
  unfold kLay
  by_cases h1 : 0 ≤ a ∧ a < st 14 0 0
  · exact Or.inl ⟨h1, by rw [if_pos h1]⟩
  · exact Or.inr ⟨h1, by rw [if_neg h1]⟩
theorem kStick_s (st : St) (t r c v : Int) : (((0 ≤ t ∧ t ≤ 5) ∧ (0 ≤ r ∧ r ≤ 7) ∧ 0 ≤ c ∧ c ≤ 15) ∧ (0 ≤ v ∧ v ≤ 15) ∧ st 7 0 (128 * t + 16 * r + c) = 0 ∧ kStick st t r c v = 0) ∨ (((0 ≤ t ∧ t ≤ 5) ∧ (0 ≤ r ∧ r ≤ 7) ∧ 0 ≤ c ∧ c ≤ 15) ∧ (0 ≤ v ∧ v ≤ 15) ∧ st 7 0 (128 * t + 16 * r + c) ≠ 0 ∧ kStick st t r c v = 3) ∨ (((0 ≤ t ∧ t ≤ 5) ∧ (0 ≤ r ∧ r ≤ 7) ∧ 0 ≤ c ∧ c ≤ 15) ∧ ¬ (0 ≤ v ∧ v ≤ 15) ∧ kStick st t r c v = 2) ∨ (¬ ((0 ≤ t ∧ t ≤ 5) ∧ (0 ≤ r ∧ r ≤ 7) ∧ 0 ≤ c ∧ c ≤ 15) ∧ kStick st t r c v = 1) := by
  unfold kStick
  by_cases h1 : (0 ≤ t ∧ t ≤ 5) ∧ (0 ≤ r ∧ r ≤ 7) ∧ 0 ≤ c ∧ c ≤ 15
  · rw [if_pos h1]
    by_cases h2 : 0 ≤ v ∧ v ≤ 15
    · rw [if_pos h2]
      by_cases h3 : st 7 0 (128 * t + 16 * r + c) = 0
      · exact Or.inl ⟨h1, h2, h3, by rw [if_pos h3]⟩
      · exact Or.inr (Or.inl ⟨h1, h2, h3, by rw [if_neg h3]⟩)
    · exact Or.inr (Or.inr (Or.inl ⟨h1, h2, by rw [if_neg h2]⟩))
  · exact Or.inr (Or.inr (Or.inr ⟨h1, by rw [if_neg h1]⟩))

