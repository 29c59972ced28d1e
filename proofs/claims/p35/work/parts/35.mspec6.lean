/-! ===== chains ===== -/
/-- 1 if all layers of the chain from l on are placed (f steps looked at) -/
def chP (st : St) : Nat → Int → Int
  | 0, _ => 1
  | f + 1, l => if l = -1 then 1 else if st 20 0 l = -1 then 0 else chP st f (st 19 0 l)
theorem chP_s (st : St) (f : Nat) (l : Int) : chP st (f + 1) l = if l = -1 then 1 else if st 20 0 l = -1 then 0 else chP st f (st 19 0 l) := rfl
theorem chP_r (st : St) : ∀ (f : Nat) (l : Int), chP st f l = 0 ∨ chP st f l = 1
  | 0, _ => Or.inr rfl
  | f + 1, l => by
    rw [chP_s]
    split
    · exact Or.inr rfl
    · split
      · exact Or.inl rfl
      · exact chP_r st f _
theorem chP_e (st : St) (f : Nat) : chP st f (-1) = 1 := by
  cases f with
  | zero => rfl
  | succ f => rw [chP_s, if_pos rfl]
def ansG (st : St) (l : Int) (v : Nat) (g : Int) (k : Nat) : Int := if g = 1 then idU st l (k : Int) v (st 15 0 l).toNat else ansU st l (k : Int) v 8
def clipF (x : Int) : Int := max 0 (min 255 x)
def vecU (st : St) (l : Int) (v : Nat) (g : Int) : Nat → Nat
  | 0 => 0
  | k + 1 => vecU st l v g k ||| (clipF (ansG st l v g k / 2 ^ (st 18 0 l).toNat)).toNat * 2 ^ (8 * k)
theorem vecU_s (st : St) (l : Int) (v : Nat) (g : Int) (k : Nat) : vecU st l v g (k + 1) = vecU st l v g k ||| (clipF (ansG st l v g k / 2 ^ (st 18 0 l).toNat)).toNat * 2 ^ (8 * k) := rfl
theorem vecU_b (st : St) (l : Int) (v : Nat) (g : Int) : ∀ k : Nat, vecU st l v g k < 2 ^ (8 * k)
  | 0 => by show 0 < 1; decide
  | k + 1 => by
    rw [vecU_s]
    have h1 := vecU_b st l v g k
    have e : 2 ^ (8 * (k + 1)) = 256 * 2 ^ (8 * k) := by rw [Nat.mul_add, Nat.pow_add]; omega
    refine Nat.or_lt_two_pow ?_ ?_
    · rw [e]; omega
    · rw [e]
      have h2 : (clipF (ansG st l v g k / 2 ^ (st 18 0 l).toNat)).toNat ≤ 255 := by unfold clipF; omega
      exact Nat.lt_of_le_of_lt (Nat.mul_le_mul_right _ h2) (by have := Nat.pow_pos (n := 8 * k) (show 0 < 2 by decide); omega)
def runC (st : St) (g : Int) : Nat → Int → Nat → Nat
  | 0, _, v => v
  | f + 1, l, v => if l = -1 then v else runC st g f (st 19 0 l) (vecU st l v g (st 16 0 l).toNat)
theorem runC_s (st : St) (g : Int) (f : Nat) (l : Int) (v : Nat) : runC st g (f + 1) l v = if l = -1 then v else runC st g f (st 19 0 l) (vecU st l v g (st 16 0 l).toNat) := rfl
theorem runC_e (st : St) (g : Int) (f : Nat) (v : Nat) : runC st g f (-1) v = v := by
  cases f with
  | zero => rfl
  | succ f => rw [runC_s, if_pos rfl]
theorem vlor (a b : Nat) : lN a ||| lN b = lN (a ||| b) := by
  apply wb_inj
  show BitVec.ofNat 64 a ||| BitVec.ofNat 64 b = BitVec.ofNat 64 (a ||| b)
  exact BitVec.ofNat_or.symm
theorem sumN_b {f : Nat → Int} {B : Int} (h : ∀ c, -B ≤ f c ∧ f c ≤ B) : ∀ n : Nat, -(B * n) ≤ sumN f n ∧ sumN f n ≤ B * n
  | 0 => by unfold sumN; simp
  | n + 1 => by
    have h1 := sumN_b h n
    have h2 := h n
    have h3 : B * ((n + 1 : Nat) : Int) = B * n + B := by rw [Int.natCast_add, Int.mul_add]; simp
    rw [sumN_s, h3]
    omega
theorem tW_b {wb : Int} {st : St} (hI : GI wb st) (a o : Int) (vec b w : Nat) : -32512 ≤ tW st a o vec b w ∧ tW st a o vec b w ≤ 32512 := by
  have h := readE_r hI a (4 * o + (w : Int)) (curU st a (4 * o + (w : Int)) vec b (st 15 0 a).toNat)
  unfold tW
  split <;> split <;> omega
theorem ansU_b {wb : Int} {st : St} (hI : GI wb st) (a o : Int) (vec : Nat) : -200000000 ≤ ansU st a o vec 8 ∧ ansU st a o vec 8 ≤ 200000000 := by
  have h4 : ∀ b : Nat, -130048 ≤ sumN (tW st a o vec b) 4 ∧ sumN (tW st a o vec b) 4 ≤ 130048 := fun b => by
    have := sumN_b (B := 32512) (fun c => tW_b hI a o vec b c) 4
    omega
  unfold ansU
  have e : sumN (fun b => sumN (tW st a o vec b) 4 * 2 ^ b) 8 = 0 + sumN (tW st a o vec 0) 4 * 2 ^ 0 + sumN (tW st a o vec 1) 4 * 2 ^ 1 + sumN (tW st a o vec 2) 4 * 2 ^ 2 + sumN (tW st a o vec 3) 4 * 2 ^ 3 + sumN (tW st a o vec 4) 4 * 2 ^ 4 + sumN (tW st a o vec 5) 4 * 2 ^ 5 + sumN (tW st a o vec 6) 4 * 2 ^ 6 + sumN (tW st a o vec 7) 4 * 2 ^ 7 := rfl
  rw [e]
  have a0 := h4 0; have a1 := h4 1; have a2 := h4 2; have a3 := h4 3; have a4 := h4 4; have a5 := h4 5; have a6 := h4 6; have a7 := h4 7
  omega
theorem ansG_b {wb : Int} {st : St} (hI : GI wb st) (l : Int) (v : Nat) (g : Int) (k : Nat) : -200000000 ≤ ansG st l v g k ∧ ansG st l v g k ≤ 200000000 := by
  unfold ansG
  split
  · have := idU_b hI l (k : Int) v (st 15 0 l).toNat
    have := gI_15 hI 0 l
    omega
  · exact ansU_b hI l _ v
def kRun (st : St) (a : Int) : Int := if 0 ≤ a ∧ a < st 14 0 0 then (if chP st 6 a = 1 then 0 else 2) else 1
theorem kRun_s (st : St) (a : Int) : ((0 ≤ a ∧ a < st 14 0 0) ∧ chP st 6 a = 1 ∧ kRun st a = 0) ∨ ((0 ≤ a ∧ a < st 14 0 0) ∧ ¬ chP st 6 a = 1 ∧ kRun st a = 2) ∨ (¬ (0 ≤ a ∧ a < st 14 0 0) ∧ kRun st a = 1) := by
  unfold kRun
  by_cases h1 : 0 ≤ a ∧ a < st 14 0 0
  · by_cases h2 : chP st 6 a = 1
    · exact Or.inl ⟨h1, h2, by rw [if_pos h1, if_pos h2]⟩
    · exact Or.inr (Or.inl ⟨h1, h2, by rw [if_pos h1, if_neg h2]⟩)
  · exact Or.inr (Or.inr ⟨h1, by rw [if_neg h1]⟩)
def aRun (st : St) (a : Int) (vec : Nat) : Nat := if kRun st a = 0 then runC st 0 6 a vec else 0
def aRunI (st : St) (a : Int) (vec : Nat) : Nat := if kLay st a = 0 then runC st 1 6 a vec else 0
theorem shrB {x : Int} {k : Nat} (h : -200000000 ≤ x ∧ x ≤ 200000000) : -200000000 ≤ x / 2 ^ k ∧ x / 2 ^ k ≤ 200000000 := by
  have hpos : (0 : Int) < 2 ^ k := Int.pow_pos (by decide)
  have h1 : (1 : Int) ≤ 2 ^ k := hpos
  constructor
  · rw [Int.le_ediv_iff_mul_le hpos]
    have h2 : (-200000000 : Int) * 2 ^ k ≤ -200000000 * 1 := Int.mul_le_mul_of_nonpos_left (by decide) h1
    omega
  · rw [← Int.lt_add_one_iff, Int.ediv_lt_iff_lt_mul hpos]
    have h2 : (200000001 : Int) * 1 ≤ 200000001 * 2 ^ k := Int.mul_le_mul_of_nonneg_left h1 (by decide)
    omega
theorem chP_0 (st : St) (v : Int) : ∀ (f : Nat) (l : Int), chP (ust st 0 0 0 v) f l = chP st f l
  | 0, _ => rfl
  | f + 1, l => by
    rw [chP_s, chP_s, ust_c (by decide), ust_c (by decide), chP_0 st v f]
theorem vecU_0 (st : St) (w : Int) (l : Int) (v : Nat) (g : Int) : ∀ k, vecU (ust st 0 0 0 w) l v g k = vecU st l v g k
  | 0 => rfl
  | k + 1 => by
    rw [vecU_s, vecU_s, vecU_0 st w l v g k]
    rfl
theorem runC_0 (st : St) (w : Int) (g : Int) : ∀ (f : Nat) (l : Int) (v : Nat), runC (ust st 0 0 0 w) g f l v = runC st g f l v
  | 0, _, _ => rfl
  | f + 1, l, v => by
    rw [runC_s, runC_s, ust_c (by decide), ust_c (by decide), vecU_0, runC_0 st w g f]
