theorem setF_22 (st : St) (cf ff : Int → Int) (i : Int) : setF st cf ff 22 0 i = cf i := by unfold setF; rw [if_pos ⟨rfl, rfl⟩]
theorem setF_23 (st : St) (cf ff : Int → Int) (i : Int) : setF st cf ff 23 0 i = ff i := by
  unfold setF
  rw [if_neg (fun q => absurd q.1 (by decide)), if_pos ⟨rfl, rfl⟩]
theorem curX_0 (cs : Nat → Nat → Int) (ni S : Nat) : curX cs ni S 0 = if ni ≤ onesU S 8 then 0 else 1000 := by
  unfold curX
  split <;> rfl
theorem bitSI (S r : Nat) : (S : Int) / 2 ^ r % 2 ^ 1 = ((S / 2 ^ r % 2 : Nat) : Int) := by
  push_cast
  rfl
theorem curX_d {cs : Nat → Nat → Int} {ni S r : Nat} (h : ni ≤ onesU S 8 ∨ r = 8) : curX cs ni S r = dpV cs ni S := by
  by_cases h2 : ni ≤ onesU S 8
  · rw [← curX_8, curX_e h2, curX_e h2]
  · rw [show r = 8 by omega]; exact curX_8 _ _ _
