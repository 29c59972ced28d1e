/-- what is read in column c of the tile of layer a -/
def readE (st : St) (a c cur : Int) : Int := readV (st 9 0 (st 20 0 a)) (st 10 0 (st 20 0 a)) (st 12 0 (st 20 0 a)) (st 11 0 (16 * st 20 0 a + c)) cur
theorem readE_r {wb : Int} {st : St} (hI : GI wb st) (a c cur : Int) : 0 ≤ readE st a c cur ∧ readE st a c cur ≤ 2032 := readV_r (gI_9 hI 0 _) (gI_10 hI 0 _)
def neU (st : St) (a o q : Int) : Nat → Int := sumN (fun k => needV (st 17 0 (32 * a + 4 * (k : Int) + o)) q)
theorem neU_r {wb : Int} {st : St} (hI : GI wb st) (a o q : Int) (n : Nat) : 0 ≤ neU st a o q n ∧ neU st a o q n ≤ 15 * n := sumN_r (fun _ => needV_r (gI_17 hI 0 _) q) n
/-- the greatest or least error over the currents 0 .. k -/
def bestU (f : Int → Int) (g : Int) : Nat → Int
  | 0 => f 0
  | k + 1 => if (g = 1 ∧ bestU f g k < f ((k + 1 : Nat) : Int) - ((k + 1 : Nat) : Int)) ∨ (g ≠ 1 ∧ f ((k + 1 : Nat) : Int) - ((k + 1 : Nat) : Int) < bestU f g k) then f ((k + 1 : Nat) : Int) - ((k + 1 : Nat) : Int) else bestU f g k
theorem bestU_s (f : Int → Int) (g : Int) (k : Nat) : bestU f g (k + 1) = if (g = 1 ∧ bestU f g k < f ((k + 1 : Nat) : Int) - ((k + 1 : Nat) : Int)) ∨ (g ≠ 1 ∧ f ((k + 1 : Nat) : Int) - ((k + 1 : Nat) : Int) < bestU f g k) then f ((k + 1 : Nat) : Int) - ((k + 1 : Nat) : Int) else bestU f g k := rfl
theorem bestU_r {f : Int → Int} (hf : ∀ x, 0 ≤ f x ∧ f x ≤ 2032) (g : Int) : ∀ k : Nat, -(k : Int) ≤ bestU f g k ∧ bestU f g k ≤ 2032
  | 0 => by have := hf 0; unfold bestU; omega
  | k + 1 => by
    have h1 := bestU_r hf g k
    have h2 := hf ((k + 1 : Nat) : Int)
    rw [bestU_s]
    split <;> omega
def errF (st : St) (a o q g : Int) : Int := bestU (readE st a (4 * o + q)) g (neU st a o q (st 15 0 a).toNat).toNat
theorem errF_r {wb : Int} {st : St} (hI : GI wb st) (a o q g : Int) : -120 ≤ errF st a o q g ∧ errF st a o q g ≤ 2032 := by
  have h1 := neU_r hI a o q (st 15 0 a).toNat
  have h2 := gI_15 hI 0 a
  have h3 := bestU_r (readE_r hI a (4 * o + q)) g (neU st a o q (st 15 0 a).toNat).toNat
  unfold errF
  omega
theorem errF_0 (st : St) (v a o q g : Int) : errF (ust st 0 0 0 v) a o q g = errF st a o q g := rfl
def aBound (st : St) (a o u : Int) : Int := if kAns st a o = 0 then 255 * (errF st a o 0 u + 16 * errF st a o 1 u - (errF st a o 2 (1 - u) + 16 * errF st a o 3 (1 - u))) else 0
/-- the bit b of the k-th input -/
def bitI (vec k b : Nat) : Int := inpF vec k / 2 ^ b % 2
def curU (st : St) (a c : Int) (vec b : Nat) : Nat → Int := sumN (fun k => if bitI vec k b = 1 then conM st (128 * st 20 0 a + 16 * st 21 0 (8 * a + (k : Int)) + c) else 0)
theorem curU_r {wb : Int} {st : St} (hI : GI wb st) (hs : ∀ j : Int, st 6 0 j ≤ st 1 0 0) (a c : Int) (vec b n : Nat) : 0 ≤ curU st a c vec b n ∧ curU st a c vec b n ≤ 15 * n := by
  refine sumN_r (fun k => ?_) n
  have := conM_r hI (128 * st 20 0 a + 16 * st 21 0 (8 * a + (k : Int)) + c) (hs _)
  split <;> omega
/-- the part of one column in the answer, for the bit b -/
def tW (st : St) (a o : Int) (vec b w : Nat) : Int := if w < 2 then readE st a (4 * o + (w : Int)) (curU st a (4 * o + (w : Int)) vec b (st 15 0 a).toNat) * (if w % 2 = 0 then 1 else 16) else -(readE st a (4 * o + (w : Int)) (curU st a (4 * o + (w : Int)) vec b (st 15 0 a).toNat) * (if w % 2 = 0 then 1 else 16))
def ansU (st : St) (a o : Int) (vec : Nat) : Nat → Int := sumN (fun b => sumN (tW st a o vec b) 4 * 2 ^ b)
def aAns (st : St) (a o : Int) (vec : Nat) : Int := if kAns st a o = 0 then ansU st a o vec 8 else 0
theorem ansU_0 (st : St) (v a o : Int) (vec k : Nat) : ansU (ust st 0 0 0 v) a o vec k = ansU st a o vec k := rfl
theorem readV_q {wb : Int} {st : St} (hI : GI wb st) (t d cur : Int) : 0 ≤ readV (st 9 0 t) (st 10 0 t) (st 12 0 t) (st 11 0 (16 * t + d)) cur ∧ readV (st 9 0 t) (st 10 0 t) (st 12 0 t) (st 11 0 (16 * t + d)) cur ≤ 2032 := readV_r (gI_9 hI 0 _) (gI_10 hI 0 _)
theorem curU_s (st : St) (a c : Int) (vec b k : Nat) : curU st a c vec b (k + 1) = curU st a c vec b k + (if bitI vec k b = 1 then conM st (128 * st 20 0 a + 16 * st 21 0 (8 * a + (k : Int)) + c) else 0) := rfl
theorem ansU_s (st : St) (a o : Int) (vec b : Nat) : ansU st a o vec (b + 1) = ansU st a o vec b + sumN (tW st a o vec b) 4 * 2 ^ b := rfl
theorem bitI_s (vec k b : Nat) : bitI vec k b = inpF vec k / 2 ^ b % 2 := rfl
theorem tW_e {st : St} {a o : Int} {vec b w k : Nat} (hk : (st 15 0 a).toNat = k) : tW st a o vec b w = if w < 2 then readE st a (4 * o + (w : Int)) (curU st a (4 * o + (w : Int)) vec b k) * (if w % 2 = 0 then 1 else 16) else -(readE st a (4 * o + (w : Int)) (curU st a (4 * o + (w : Int)) vec b k) * (if w % 2 = 0 then 1 else 16)) := by
  subst hk
  rfl
