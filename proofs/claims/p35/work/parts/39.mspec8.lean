/-! ===== the fewest misfits, of the model ===== -/
def setF (st : St) (cf ff : Int → Int) : St := fun c o i => if c = 22 ∧ o = 0 then cf i else if c = 23 ∧ o = 0 then ff i else st c o i
theorem setF_c (st : St) (cf ff : Int → Int) {c o : Nat} {i : Int} (h : c < 22 ∨ 23 < c) : setF st cf ff c o i = st c o i := by
  unfold setF
  rw [if_neg (fun q => by omega), if_neg (fun q => by omega)]
theorem setF_u22 (st : St) (cf ff : Int → Int) (i v : Int) : ust (setF st cf ff) 22 0 i v = setF st (updI cf i v) ff := by
  funext c o j
  unfold ust setF updI
  by_cases h1 : c = 22 <;> by_cases h2 : o = 0 <;> by_cases h3 : j = i <;> simp [h1, h2, h3]
theorem setF_u23 (st : St) (cf ff : Int → Int) (i v : Int) : ust (setF st cf ff) 23 0 i v = setF st cf (updI ff i v) := by
  funext c o j
  unfold ust setF updI
  by_cases h1 : c = 23 <;> by_cases h2 : o = 0 <;> by_cases h3 : j = i <;> simp [h1, h2, h3]
theorem setF_self (st : St) : st = setF st (st 22 0) (st 23 0) := by
  funext c o j
  unfold setF
  by_cases h : c = 22 ∧ o = 0
  · rw [if_pos h, h.1, h.2]
  · rw [if_neg h]
    by_cases h2 : c = 23 ∧ o = 0
    · rw [if_pos h2, h2.1, h2.2]
    · rw [if_neg h2]
def cst (st : St) (a t : Int) (i r : Nat) : Int := sumN (mfM st a t (i : Int) (r : Int)) (4 * (st 16 0 a).toNat)
theorem cst_r {wb : Int} {st : St} (hI : GI wb st) (a t : Int) (i r : Nat) : 0 ≤ cst st a t i r ∧ cst st a t i r ≤ 16 := mfM_r hI a t _ _
def cfX (st : St) (a t : Int) (n : Nat) : Int → Int := fun j => if 0 ≤ j ∧ j < (n : Int) then cst st a t (j.toNat / 8) (j.toNat % 8) else st 22 0 j
theorem cfX_s (st : St) (a t : Int) (i r : Nat) (hr : r < 8) : updI (cfX st a t (8 * i + r)) ((8 * i + r : Nat) : Int) (cst st a t i r) = cfX st a t (8 * i + r + 1) := by
  funext j
  unfold updI cfX
  by_cases h : j = ((8 * i + r : Nat) : Int)
  · rw [if_pos h, if_pos (by omega), h, Int.toNat_natCast, show (8 * i + r) / 8 = i by omega, show (8 * i + r) % 8 = r by omega]
  · rw [if_neg h]
    by_cases h2 : 0 ≤ j ∧ j < ((8 * i + r : Nat) : Int)
    · rw [if_pos h2, if_pos (by omega)]
    · rw [if_neg h2, if_neg (by omega)]
theorem cfX_0 (st : St) (a t : Int) : cfX st a t 0 = st 22 0 := by
  funext j
  unfold cfX
  rw [if_neg (by omega)]
theorem cfX_v {st : St} {a t : Int} {n i r : Nat} {j : Int} (hj : j = ((8 * i + r : Nat) : Int)) (hr : r < 8) (hn : i < n) : cfX st a t (8 * n) j = cst st a t i r := by
  unfold cfX
  rw [if_pos (by omega), hj, Int.toNat_natCast, show (8 * i + r) / 8 = i by omega, show (8 * i + r) % 8 = r by omega]
/-- the least over the rows below r -/
def rowM (cs : Nat → Nat → Int) (g : Nat → Int) (S : Nat) : Nat → Int
  | 0 => 1000
  | r + 1 => if (if S / 2 ^ r % 2 = 1 then 1000 else cs (onesU S 8) r + g (S ||| 2 ^ r)) < rowM cs g S r then (if S / 2 ^ r % 2 = 1 then 1000 else cs (onesU S 8) r + g (S ||| 2 ^ r)) else rowM cs g S r
theorem rowM_s (cs : Nat → Nat → Int) (g : Nat → Int) (S r : Nat) : rowM cs g S (r + 1) = if (if S / 2 ^ r % 2 = 1 then 1000 else cs (onesU S 8) r + g (S ||| 2 ^ r)) < rowM cs g S r then (if S / 2 ^ r % 2 = 1 then 1000 else cs (onesU S 8) r + g (S ||| 2 ^ r)) else rowM cs g S r := rfl
theorem rowM_n {cs : Nat → Nat → Int} {g : Nat → Int} {S r : Nat} {x : Int} (hx : x = if S / 2 ^ r % 2 = 1 then 1000 else cs (onesU S 8) r + g (S ||| 2 ^ r)) : rowM cs g S (r + 1) = if x < rowM cs g S r then x else rowM cs g S r := by
  rw [rowM_s, ← hx]
def dpK (cs : Nat → Nat → Int) : Nat → Nat → Int
  | 0, _ => 0
  | k + 1, S => rowM cs (dpK cs k) S 8
/-- the fewest misfits of the inputs from the one that comes next, by the rows taken -/
def dpV (cs : Nat → Nat → Int) (ni S : Nat) : Int := dpK cs (ni - onesU S 8) S
theorem rowM_r {cs : Nat → Nat → Int} {g : Nat → Int} (h1 : ∀ i r, 0 ≤ cs i r) (h2 : ∀ S, 0 ≤ g S) (S : Nat) : ∀ r, 0 ≤ rowM cs g S r ∧ rowM cs g S r ≤ 1000
  | 0 => by unfold rowM; omega
  | r + 1 => by
    have h := rowM_r h1 h2 S r
    have a1 := h1 (onesU S 8) r
    have a2 := h2 (S ||| 2 ^ r)
    rw [rowM_s]
    split <;> split <;> omega
theorem dpK_r {cs : Nat → Nat → Int} (h1 : ∀ i r, 0 ≤ cs i r) : ∀ k S, 0 ≤ dpK cs k S ∧ dpK cs k S ≤ 1000
  | 0, _ => by unfold dpK; omega
  | k + 1, S => rowM_r h1 (fun S => (dpK_r h1 k S).1) S 8
theorem ones_or : ∀ S, S < 256 → ∀ r, r < 8 → S / 2 ^ r % 2 = 0 → onesU (S ||| 2 ^ r) 8 = onesU S 8 + 1 ∧ S < (S ||| 2 ^ r) ∧ (S ||| 2 ^ r) < 256 := by decide +kernel
def curX (cs : Nat → Nat → Int) (ni S r : Nat) : Int := if ni ≤ onesU S 8 then 0 else rowM cs (dpK cs (ni - onesU S 8 - 1)) S r
theorem curX_8 (cs : Nat → Nat → Int) (ni S : Nat) : curX cs ni S 8 = dpV cs ni S := by
  unfold curX dpV
  by_cases h : ni ≤ onesU S 8
  · rw [if_pos h, show ni - onesU S 8 = 0 by omega]; rfl
  · rw [if_neg h, show ni - onesU S 8 = (ni - onesU S 8 - 1) + 1 by omega]; rfl
theorem curX_r {cs : Nat → Nat → Int} (h1 : ∀ i r, 0 ≤ cs i r) (ni S r : Nat) : 0 ≤ curX cs ni S r ∧ curX cs ni S r ≤ 1000 := by
  unfold curX
  split
  · omega
  · exact rowM_r h1 (fun S => (dpK_r h1 _ S).1) S r
theorem curX_e {cs : Nat → Nat → Int} {ni S r : Nat} (h : ni ≤ onesU S 8) : curX cs ni S r = 0 := by unfold curX; rw [if_pos h]
theorem curX_n {cs : Nat → Nat → Int} {ni S r : Nat} {x y : Int} (h : ¬ ni ≤ onesU S 8) (hS : S < 256) (hr : r < 8) (hx : (S / 2 ^ r % 2 = 1 ∧ x = 1000) ∨ (S / 2 ^ r % 2 = 0 ∧ x = cs (onesU S 8) r + dpV cs ni (S ||| 2 ^ r))) (hy : (x < curX cs ni S r ∧ y = x) ∨ (¬ x < curX cs ni S r ∧ y = curX cs ni S r)) : curX cs ni S (r + 1) = y := by
  unfold curX at hy ⊢
  rw [if_neg h] at hy ⊢
  have e : x = if S / 2 ^ r % 2 = 1 then 1000 else cs (onesU S 8) r + dpK cs (ni - onesU S 8 - 1) (S ||| 2 ^ r) := by
    rcases hx with ⟨h1, h2⟩ | ⟨h1, h2⟩
    · rw [if_pos h1, h2]
    · rw [if_neg (by omega), h2]
      unfold dpV
      rw [(ones_or S hS r hr h1).1, show ni - (onesU S 8 + 1) = ni - onesU S 8 - 1 by omega]
  rw [rowM_n e]
  rcases hy with ⟨h1, h2⟩ | ⟨h1, h2⟩
  · rw [if_pos h1, h2]
  · rw [if_neg h1, h2]
def ffX (cs : Nat → Nat → Int) (ni : Nat) (f0 : Int → Int) (m : Nat) : Int → Int := fun j => if (m : Int) ≤ j ∧ j ≤ 255 then dpV cs ni j.toNat else f0 j
theorem ffX_s (cs : Nat → Nat → Int) (ni : Nat) (f0 : Int → Int) {S : Nat} (hS : S < 256) : updI (ffX cs ni f0 (S + 1)) (S : Int) (dpV cs ni S) = ffX cs ni f0 S := by
  funext j
  unfold updI ffX
  by_cases h : j = (S : Int)
  · rw [if_pos h, if_pos (by omega), h, Int.toNat_natCast]
  · rw [if_neg h]
    by_cases h2 : ((S + 1 : Nat) : Int) ≤ j ∧ j ≤ 255
    · rw [if_pos h2, if_pos (by omega)]
    · rw [if_neg h2, if_neg (by omega)]
theorem ffX_v {cs : Nat → Nat → Int} {ni : Nat} {f0 : Int → Int} {m S : Nat} (h : m ≤ S) (hS : S < 256) : ffX cs ni f0 m (S : Int) = dpV cs ni S := by
  unfold ffX
  rw [if_pos (by omega), Int.toNat_natCast]
theorem ffX_256 (cs : Nat → Nat → Int) (ni : Nat) (f0 : Int → Int) : ffX cs ni f0 256 = f0 := by
  funext j
  unfold ffX
  rw [if_neg (by omega)]
theorem updI_updI (f : Int → Int) (i v w : Int) : updI (updI f i v) i w = updI f i w := by
  funext j
  unfold updI
  by_cases h : j = i
  · rw [if_pos h, if_pos h]
  · rw [if_neg h, if_neg h, if_neg h]
theorem updI_s (f : Int → Int) (i v : Int) : updI f i v i = v := by unfold updI; rw [if_pos rfl]
theorem updI_n {f : Int → Int} {i v j : Int} (h : j ≠ i) : updI f i v j = f j := by unfold updI; rw [if_neg h]
