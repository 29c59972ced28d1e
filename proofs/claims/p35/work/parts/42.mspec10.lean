/-! ===== the misfits, and the place, of the model ===== -/
def kMis (st : St) (a t0 : Int) : Int := if (0 ≤ a ∧ a < st 14 0 0) ∧ 0 ≤ t0 ∧ t0 ≤ 5 then 0 else 1
theorem kMis_s (st : St) (a t0 : Int) : (((0 ≤ a ∧ a < st 14 0 0) ∧ 0 ≤ t0 ∧ t0 ≤ 5) ∧ kMis st a t0 = 0) ∨ (¬ ((0 ≤ a ∧ a < st 14 0 0) ∧ 0 ≤ t0 ∧ t0 ≤ 5) ∧ kMis st a t0 = 1) := by
  unfold kMis
  by_cases h1 : (0 ≤ a ∧ a < st 14 0 0) ∧ 0 ≤ t0 ∧ t0 ≤ 5
  · exact Or.inl ⟨h1, by rw [if_pos h1]⟩
  · exact Or.inr ⟨h1, by rw [if_neg h1]⟩
def kMisA (st : St) (a t0 : Int) : Int := if (0 ≤ a ∧ a < st 14 0 0) ∧ 0 ≤ t0 ∧ t0 ≤ 5 then (if st 15 0 a ≤ 4 then 0 else 2) else 1
theorem kMisA_s (st : St) (a t0 : Int) : (((0 ≤ a ∧ a < st 14 0 0) ∧ 0 ≤ t0 ∧ t0 ≤ 5) ∧ st 15 0 a ≤ 4 ∧ kMisA st a t0 = 0) ∨ (((0 ≤ a ∧ a < st 14 0 0) ∧ 0 ≤ t0 ∧ t0 ≤ 5) ∧ ¬ st 15 0 a ≤ 4 ∧ kMisA st a t0 = 2) ∨ (¬ ((0 ≤ a ∧ a < st 14 0 0) ∧ 0 ≤ t0 ∧ t0 ≤ 5) ∧ kMisA st a t0 = 1) := by
  unfold kMisA
  by_cases h1 : (0 ≤ a ∧ a < st 14 0 0) ∧ 0 ≤ t0 ∧ t0 ≤ 5
  · rw [if_pos h1]
    by_cases h2 : st 15 0 a ≤ 4
    · exact Or.inl ⟨h1, h2, by rw [if_pos h2]⟩
    · exact Or.inr (Or.inl ⟨h1, h2, by rw [if_neg h2]⟩)
  · exact Or.inr (Or.inr ⟨h1, by rw [if_neg h1]⟩)
def fdS (st : St) (a t0 : Int) : St := setF st (cfX st a t0 (8 * (st 15 0 a).toNat)) (ffX (cst st a t0) (st 15 0 a).toNat (st 23 0) 0)
def fdV (st : St) (a t0 : Int) : Int := dpV (cst st a t0) (st 15 0 a).toNat 0
def aMis (st : St) (k a t0 : Int) : Int := if k = 0 then fdV (ust st 0 0 0 k) a t0 else 0
def sMis (st : St) (k a t0 : Int) : St := if k = 0 then fdS (ust st 0 0 0 k) a t0 else ust st 0 0 0 k
def kPlace (st : St) (a t0 : Int) : Int := if (0 ≤ a ∧ a < st 14 0 0) ∧ 0 ≤ t0 ∧ t0 ≤ 5 then (if st 20 0 a = -1 ∧ lonF st t0 (st 14 0 0).toNat = -1 then 0 else 2) else 1
theorem kPlace_s (st : St) (a t0 : Int) : (((0 ≤ a ∧ a < st 14 0 0) ∧ 0 ≤ t0 ∧ t0 ≤ 5) ∧ (st 20 0 a = -1 ∧ lonF st t0 (st 14 0 0).toNat = -1) ∧ kPlace st a t0 = 0) ∨ (((0 ≤ a ∧ a < st 14 0 0) ∧ 0 ≤ t0 ∧ t0 ≤ 5) ∧ ¬ (st 20 0 a = -1 ∧ lonF st t0 (st 14 0 0).toNat = -1) ∧ kPlace st a t0 = 2) ∨ (¬ ((0 ≤ a ∧ a < st 14 0 0) ∧ 0 ≤ t0 ∧ t0 ≤ 5) ∧ kPlace st a t0 = 1) := by
  unfold kPlace
  by_cases h1 : (0 ≤ a ∧ a < st 14 0 0) ∧ 0 ≤ t0 ∧ t0 ≤ 5
  · rw [if_pos h1]
    by_cases h2 : st 20 0 a = -1 ∧ lonF st t0 (st 14 0 0).toNat = -1
    · exact Or.inl ⟨h1, h2, by rw [if_pos h2]⟩
    · exact Or.inr (Or.inl ⟨h1, h2, by rw [if_neg h2]⟩)
  · exact Or.inr (Or.inr ⟨h1, by rw [if_neg h1]⟩)
theorem rowM_att {cs : Nat → Nat → Int} {g : Nat → Int} (h1 : ∀ i r, 0 ≤ cs i r) (h2 : ∀ S, 0 ≤ g S) (S : Nat) : ∀ r, rowM cs g S r = 1000 ∨ ∃ q, q < r ∧ S / 2 ^ q % 2 = 0 ∧ rowM cs g S r = cs (onesU S 8) q + g (S ||| 2 ^ q)
  | 0 => Or.inl rfl
  | r + 1 => by
    have ih := rowM_att h1 h2 S r
    have hb := rowM_r h1 h2 S r
    have ih2 : rowM cs g S r = 1000 ∨ ∃ q, q < r + 1 ∧ S / 2 ^ q % 2 = 0 ∧ rowM cs g S r = cs (onesU S 8) q + g (S ||| 2 ^ q) := by
      rcases ih with h | ⟨q, a, b, c⟩
      · exact Or.inl h
      · exact Or.inr ⟨q, by omega, b, c⟩
    rw [rowM_s]
    by_cases hb1 : S / 2 ^ r % 2 = 1
    · rw [if_pos hb1, if_neg (by omega)]
      exact ih2
    · rw [if_neg hb1]
      by_cases hl : cs (onesU S 8) r + g (S ||| 2 ^ r) < rowM cs g S r
      · rw [if_pos hl]
        exact Or.inr ⟨r, Nat.lt_succ_self r, by omega, rfl⟩
      · rw [if_neg hl]
        exact ih2
theorem rowM_le {cs : Nat → Nat → Int} {g : Nat → Int} (S q : Nat) (hf : S / 2 ^ q % 2 = 0) : ∀ r, q < r → rowM cs g S r ≤ cs (onesU S 8) q + g (S ||| 2 ^ q)
  | 0, h => absurd h (Nat.not_lt_zero _)
  | r + 1, h => by
    rw [rowM_s]
    by_cases hq : q = r
    · subst hq
      rw [if_neg (show ¬ S / 2 ^ q % 2 = 1 by omega)]
      split <;> omega
    · have ih := rowM_le (cs := cs) (g := g) S q hf r (by omega)
      split <;> split <;> omega
theorem free_row : ∀ S, S < 256 → onesU S 8 < 8 → ∃ r, r < 8 ∧ S / 2 ^ r % 2 = 0 := by decide +kernel
theorem dpK_b {cs : Nat → Nat → Int} (h1 : ∀ i r, 0 ≤ cs i r ∧ cs i r ≤ 16) : ∀ k S, S < 256 → onesU S 8 + k ≤ 8 → dpK cs k S ≤ 16 * (k : Int)
  | 0, S, _, _ => by unfold dpK; omega
  | k + 1, S, hS, ho => by
    obtain ⟨r, hr, hf⟩ := free_row S hS (by omega)
    have ho2 := ones_or S hS r hr hf
    have ih := dpK_b h1 k (S ||| 2 ^ r) ho2.2.2 (by omega)
    have hl := rowM_le (cs := cs) (g := dpK cs k) S r hf 8 hr
    have h3 := h1 (onesU S 8) r
    show rowM cs (dpK cs k) S 8 ≤ _
    omega
/-- the lowest row from row m on that keeps the least -/
def pkJ (cs : Nat → Nat → Int) (ni i S : Nat) : Nat → Int
  | 0 => -1
  | j + 1 => if S / 2 ^ (7 - j) % 2 = 0 ∧ cs i (7 - j) + dpV cs ni (S ||| 2 ^ (7 - j)) = dpV cs ni S then ((7 - j : Nat) : Int) else pkJ cs ni i S j
def pkN (cs : Nat → Nat → Int) (ni i S m : Nat) : Int := pkJ cs ni i S (8 - m)
theorem pk_8 (cs : Nat → Nat → Int) (ni i S : Nat) : pkN cs ni i S 8 = -1 := rfl
theorem pk_s (cs : Nat → Nat → Int) (ni i S : Nat) {r : Nat} (h : r < 8) : pkN cs ni i S r = if S / 2 ^ r % 2 = 0 ∧ cs i r + dpV cs ni (S ||| 2 ^ r) = dpV cs ni S then (r : Int) else pkN cs ni i S (r + 1) := by
  unfold pkN
  rw [show 8 - r = (7 - r) + 1 by omega, show 8 - (r + 1) = 7 - r by omega]
  show (if S / 2 ^ (7 - (7 - r)) % 2 = 0 ∧ cs i (7 - (7 - r)) + dpV cs ni (S ||| 2 ^ (7 - (7 - r))) = dpV cs ni S then ((7 - (7 - r) : Nat) : Int) else pkJ cs ni i S (7 - r)) = _
  rw [show 7 - (7 - r) = r by omega]
theorem pk_ex (cs : Nat → Nat → Int) (ni i S : Nat) : ∀ j, j ≤ 8 → (∀ q, 8 - j ≤ q → q < 8 → ¬ (S / 2 ^ q % 2 = 0 ∧ cs i q + dpV cs ni (S ||| 2 ^ q) = dpV cs ni S)) ∨ ∃ q : Nat, pkN cs ni i S (8 - j) = (q : Int) ∧ q < 8 ∧ S / 2 ^ q % 2 = 0
  | 0, _ => Or.inl fun q h1 h2 => by omega
  | j + 1, hj => by
    have ih := pk_ex cs ni i S j (by omega)
    rw [pk_s cs ni i S (r := 8 - (j + 1)) (by omega), show 8 - (j + 1) + 1 = 8 - j by omega]
    by_cases h : S / 2 ^ (8 - (j + 1)) % 2 = 0 ∧ cs i (8 - (j + 1)) + dpV cs ni (S ||| 2 ^ (8 - (j + 1))) = dpV cs ni S
    · rw [if_pos h]
      exact Or.inr ⟨_, rfl, by omega, h.1⟩
    · rw [if_neg h]
      rcases ih with h2 | h2
      · refine Or.inl fun q a b => ?_
        by_cases e : q = 8 - (j + 1)
        · rw [e]; exact h
        · exact h2 q (by omega) b
      · exact Or.inr h2
theorem pk_found {cs : Nat → Nat → Int} (h1 : ∀ i r, 0 ≤ cs i r ∧ cs i r ≤ 16) {ni i S : Nat} (hn : ni ≤ 8) (hi : i < ni) (hS : S < 256) (ho : onesU S 8 = i) : ∃ q : Nat, pkN cs ni i S 0 = (q : Int) ∧ q < 8 ∧ S / 2 ^ q % 2 = 0 := by
  have hx := pk_ex cs ni i S 8 (by omega)
  rcases hx with hx | hx
  · exfalso
    have e : ni - onesU S 8 = (ni - i - 1) + 1 := by omega
    have hv : dpV cs ni S = rowM cs (dpK cs (ni - i - 1)) S 8 := by unfold dpV; rw [e]; rfl
    have hb := dpK_b h1 ((ni - i - 1) + 1) S hS (by omega)
    have hb2 : rowM cs (dpK cs (ni - i - 1)) S 8 ≤ 16 * (((ni - i - 1) + 1 : Nat) : Int) := hb
    rcases rowM_att (cs := cs) (g := dpK cs (ni - i - 1)) (fun i r => (h1 i r).1) (fun S => (dpK_r (fun i r => (h1 i r).1) _ S).1) S 8 with h | ⟨q, a, b, c⟩
    · omega
    · refine hx q (by omega) a ⟨b, ?_⟩
      rw [hv, c, ho]
      have ho2 := ones_or S hS q a b
      unfold dpV
      rw [ho2.1, show ni - (onesU S 8 + 1) = ni - i - 1 by omega]
  · exact hx
def grS (cs : Nat → Nat → Int) (ni : Nat) : Nat → Nat
  | 0 => 0
  | i + 1 => grS cs ni i ||| 2 ^ (pkN cs ni i (grS cs ni i) 0).toNat
theorem grS_s (cs : Nat → Nat → Int) (ni i : Nat) : grS cs ni (i + 1) = grS cs ni i ||| 2 ^ (pkN cs ni i (grS cs ni i) 0).toNat := rfl
def rfX (st : St) (cs : Nat → Nat → Int) (ni : Nat) (a : Int) (n : Nat) : Int → Int := fun j => if 8 * a ≤ j ∧ j < 8 * a + (n : Int) then pkN cs ni (j - 8 * a).toNat (grS cs ni (j - 8 * a).toNat) 0 else st 21 0 j
def setR (st : St) (rf : Int → Int) : St := fun c o i => if c = 21 ∧ o = 0 then rf i else st c o i
theorem setR_c (st : St) (rf : Int → Int) {c o : Nat} {i : Int} (h : c ≠ 21) : setR st rf c o i = st c o i := by
  unfold setR
  rw [if_neg (fun q => h q.1)]
theorem setR_u (st : St) (rf : Int → Int) (i v : Int) : ust (setR st rf) 21 0 i v = setR st (updI rf i v) := by
  funext c o j
  unfold ust setR updI
  by_cases h1 : c = 21 <;> by_cases h2 : o = 0 <;> by_cases h3 : j = i <;> simp [h1, h2, h3]
theorem rfX_0 (st : St) (cs : Nat → Nat → Int) (ni : Nat) (a : Int) (cf ff : Int → Int) : setR (setF st cf ff) (rfX st cs ni a 0) = setF st cf ff := by
  funext c o j
  unfold setR rfX
  by_cases h : c = 21 ∧ o = 0
  · rw [if_pos h, if_neg (by omega), h.1, h.2]
    exact (setF_c st cf ff (Or.inl (by decide))).symm
  · rw [if_neg h]
theorem rfX_s (st : St) (cs : Nat → Nat → Int) (ni : Nat) (a : Int) (i : Nat) {x j : Int} (hj : j = 8 * a + (i : Int)) (hx : x = pkN cs ni i (grS cs ni i) 0) : updI (rfX st cs ni a i) j x = rfX st cs ni a (i + 1) := by
  funext k
  unfold updI rfX
  by_cases h : k = j
  · rw [if_pos h, if_pos (by omega), hx, show (k - 8 * a).toNat = i by omega]
  · rw [if_neg h]
    by_cases h2 : 8 * a ≤ k ∧ k < 8 * a + (i : Int)
    · rw [if_pos h2, if_pos (by omega)]
    · rw [if_neg h2, if_neg (by omega)]
def plS (st : St) (a t0 : Int) : St := ust (setR (fdS st a t0) (rfX st (cst st a t0) (st 15 0 a).toNat a (st 15 0 a).toNat)) 20 0 a t0
def aPlace (st : St) (a t0 : Int) : Int := if kPlace st a t0 = 0 then ldF (plS (ust st 0 0 0 (kPlace st a t0)) a t0) a else 0
def sPlace (st : St) (a t0 : Int) : St := if kPlace st a t0 = 0 then ldS (plS (ust st 0 0 0 (kPlace st a t0)) a t0) a else ust st 0 0 0 (kPlace st a t0)
