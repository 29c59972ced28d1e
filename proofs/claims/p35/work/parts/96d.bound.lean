/-! ===== the bound holds for all inputs, where a layer is true ===== -/
theorem trU_all {st : St} {a : Int} : ∀ n, trU st a n = 1 → ∀ k, k < n → okF st a k = 1
  | 0, _, k, hk => absurd hk (Nat.not_lt_zero k)
  | n + 1, h, k, hk => by
    rw [trU_s] at h
    by_cases h0 : trU st a n = 0
    · rw [if_pos h0] at h; exact absurd h (by decide)
    · rw [if_neg h0] at h
      by_cases he : k = n
      · rw [he]; exact h
      · refine trU_all n ?_ k (by omega)
        rcases trU_r st a n with z | z
        · exact absurd z h0
        · exact z
/-- what input k needs in column w of output o -/
def ndF (st : St) (a o : Int) (w k : Nat) : Int := needV (st 17 0 (32 * a + 4 * (k : Int) + o)) (w : Int)
theorem tr_con {st : St} {a o : Int} {n : Nat} (ho : 0 ≤ o ∧ o < st 16 0 a) (ho4 : st 16 0 a ≤ 4) (h : trU st a (16 * n) = 1) {k w : Nat} (hk : k < n) (hw : w < 4) : conM st (128 * st 20 0 a + 16 * st 21 0 (8 * a + (k : Int)) + (4 * o + (w : Int))) = ndF st a o w k := by
  have h1 := trU_all (16 * n) h (16 * k + (4 * o + (w : Int)).toNat) (by omega)
  unfold okF at h1
  have e1 : ((16 * k + (4 * o + (w : Int)).toNat : Nat) : Int) % 16 = 4 * o + (w : Int) := by omega
  have e2 : ((16 * k + (4 * o + (w : Int)).toNat : Nat) : Int) / 16 = (k : Int) := by omega
  rw [e1, e2, show (4 * o + (w : Int)) / 4 = o by omega, show (4 * o + (w : Int)) % 4 = (w : Int) by omega] at h1
  unfold ndF
  by_cases hz : 4 * o + (w : Int) < 4 * st 16 0 a → conM st (128 * st 20 0 a + 16 * st 21 0 (8 * a + (k : Int)) + (4 * o + (w : Int))) = needV (st 17 0 (32 * a + 4 * (k : Int) + o)) (w : Int)
  · exact hz (by omega)
  · rw [if_neg hz] at h1
    exact absurd h1 (by decide)
def cuF (st : St) (a o : Int) (vec b w : Nat) : Nat → Int := sumN (fun k => if bitI vec k b = 1 then ndF st a o w k else 0)
theorem cur_tr {st : St} {a o : Int} {n : Nat} (ho : 0 ≤ o ∧ o < st 16 0 a) (ho4 : st 16 0 a ≤ 4) (h : trU st a (16 * n) = 1) (vec b : Nat) {w : Nat} (hw : w < 4) : curU st a (4 * o + (w : Int)) vec b n = cuF st a o vec b w n := by
  unfold curU cuF
  exact sumN_e n (fun k hk => by rw [tr_con ho ho4 h hk hw])
theorem cu_r {wb : Int} {st : St} (hI : GI wb st) (a o : Int) (vec b w n : Nat) : 0 ≤ cuF st a o vec b w n ∧ cuF st a o vec b w n ≤ neU st a o (w : Int) n := by
  have hr : ∀ k, 0 ≤ ndF st a o w k := fun k => (needV_r (gI_17 hI 0 _) _).1
  refine ⟨?_, ?_⟩
  · exact (sumN_z (f := fun k => if bitI vec k b = 1 then ndF st a o w k else 0) (fun k => by
      show 0 ≤ if bitI vec k b = 1 then ndF st a o w k else 0
      split
      · exact hr k
      · exact Int.le_refl 0) n).1
  · unfold cuF neU
    refine sumN_le n (fun k _ => ?_)
    have h := hr k
    split
    · exact Int.le_refl _
    · exact h
theorem best_lo {f : Int → Int} {g : Int} (hg : g ≠ 1) : ∀ (n k : Nat), k ≤ n → (k = 0 → bestU f g n ≤ f 0) ∧ bestU f g n ≤ f (k : Int) - (k : Int)
  | 0, k, hk => by
    have : k = 0 := by omega
    subst this
    exact ⟨fun _ => Int.le_refl _, by show f 0 ≤ f 0 - 0; omega⟩
  | n + 1, k, hk => by
    rw [bestU_s]
    by_cases he : k = n + 1
    · subst he
      refine ⟨fun z => absurd z (Nat.succ_ne_zero n), ?_⟩
      split <;> omega
    · have ih := best_lo (f := f) (g := g) hg n k (by omega)
      refine ⟨fun z => ?_, ?_⟩
      · have := ih.1 z
        split <;> omega
      · have := ih.2
        split <;> omega
theorem best_hi {f : Int → Int} {g : Int} (hg : g = 1) : ∀ (n k : Nat), k ≤ n → f (k : Int) - (k : Int) ≤ bestU f g n
  | 0, k, hk => by
    have : k = 0 := by omega
    subst this
    show f 0 - 0 ≤ f 0
    omega
  | n + 1, k, hk => by
    rw [bestU_s]
    by_cases he : k = n + 1
    · subst he
      split <;> omega
    · have ih := best_hi (f := f) (g := g) hg n k (by omega)
      split <;> omega
/-- one column's error lies between its least and its greatest -/
theorem col_err {wb : Int} {st : St} (hI : GI wb st) (a o : Int) (vec b w : Nat) : errF st a o (w : Int) 0 ≤ readE st a (4 * o + (w : Int)) (cuF st a o vec b w (st 15 0 a).toNat) - cuF st a o vec b w (st 15 0 a).toNat ∧ readE st a (4 * o + (w : Int)) (cuF st a o vec b w (st 15 0 a).toNat) - cuF st a o vec b w (st 15 0 a).toNat ≤ errF st a o (w : Int) 1 := by
  have h := cu_r hI a o vec b w (st 15 0 a).toNat
  unfold errF
  generalize cuF st a o vec b w (st 15 0 a).toNat = x at h ⊢
  have hx : ((x.toNat : Nat) : Int) = x := by omega
  have h1 := (best_lo (f := readE st a (4 * o + (w : Int))) (g := 0) (by decide) (neU st a o (w : Int) (st 15 0 a).toNat).toNat x.toNat (by omega)).2
  have h2 := best_hi (f := readE st a (4 * o + (w : Int))) (g := 1) rfl (neU st a o (w : Int) (st 15 0 a).toNat).toNat x.toNat (by omega)
  rw [hx] at h1 h2
  exact ⟨h1, h2⟩
theorem nd_w {w : Int} (hw : -255 ≤ w ∧ w ≤ 255) : needV w ((0 : Nat) : Int) + 16 * needV w ((1 : Nat) : Int) - needV w ((2 : Nat) : Int) - 16 * needV w ((3 : Nat) : Int) = w := by
  have h := absI_s w
  unfold needV
  by_cases h0 : 0 ≤ w
  · rw [if_pos (Or.inl ⟨h0, by decide⟩), if_pos (by decide), if_pos (Or.inl ⟨h0, by decide⟩), if_neg (by decide), if_neg (by omega), if_neg (by omega)]
    omega
  · rw [if_neg (by omega), if_neg (by omega), if_pos (Or.inr ⟨by omega, by decide⟩), if_pos (by decide), if_pos (Or.inr ⟨by omega, by decide⟩), if_neg (by decide)]
    omega
def zbF (st : St) (a o : Int) (vec n b : Nat) : Int := cuF st a o vec b 0 n + 16 * cuF st a o vec b 1 n - cuF st a o vec b 2 n - 16 * cuF st a o vec b 3 n
theorem zb_s {wb : Int} {st : St} (hI : GI wb st) (a o : Int) (vec n b : Nat) : zbF st a o vec (n + 1) b = zbF st a o vec n b + (if bitI vec n b = 1 then st 17 0 (32 * a + 4 * (n : Int) + o) else 0) := by
  have hs : ∀ w, cuF st a o vec b w (n + 1) = cuF st a o vec b w n + (if bitI vec n b = 1 then ndF st a o w n else 0) := fun w => rfl
  have hn := nd_w (gI_17 hI 0 (32 * a + 4 * (n : Int) + o))
  unfold zbF
  rw [hs 0, hs 1, hs 2, hs 3]
  unfold ndF
  split <;> omega
theorem bits8 {v : Int} (h : 0 ≤ v ∧ v ≤ 255) : v / 2 ^ 0 % 2 + 2 * (v / 2 ^ 1 % 2) + 4 * (v / 2 ^ 2 % 2) + 8 * (v / 2 ^ 3 % 2) + 16 * (v / 2 ^ 4 % 2) + 32 * (v / 2 ^ 5 % 2) + 64 * (v / 2 ^ 6 % 2) + 128 * (v / 2 ^ 7 % 2) = v := by
  rw [show (2 : Int) ^ 0 = 1 from rfl, show (2 : Int) ^ 1 = 2 from rfl, show (2 : Int) ^ 2 = 4 from rfl, show (2 : Int) ^ 3 = 8 from rfl, show (2 : Int) ^ 4 = 16 from rfl, show (2 : Int) ^ 5 = 32 from rfl, show (2 : Int) ^ 6 = 64 from rfl, show (2 : Int) ^ 7 = 128 from rfl]
  omega
theorem bit_w (t w : Int) (h : t = 0 ∨ t = 1) : (if t = 1 then w else 0) = w * t := by
  rcases h with rfl | rfl
  · rw [if_neg (by decide), Int.mul_zero]
  · rw [if_pos rfl, Int.mul_one]
theorem inp_w (vec n : Nat) (w : Int) : (if bitI vec n 0 = 1 then w else 0) + 2 * (if bitI vec n 1 = 1 then w else 0) + 4 * (if bitI vec n 2 = 1 then w else 0) + 8 * (if bitI vec n 3 = 1 then w else 0) + 16 * (if bitI vec n 4 = 1 then w else 0) + 32 * (if bitI vec n 5 = 1 then w else 0) + 64 * (if bitI vec n 6 = 1 then w else 0) + 128 * (if bitI vec n 7 = 1 then w else 0) = w * inpF vec n := by
  have hr := inpF_r vec n
  have hb := bits8 hr
  have h01 : ∀ b, bitI vec n b = 0 ∨ bitI vec n b = 1 := fun b => by
    unfold bitI
    omega
  rw [bit_w _ w (h01 0), bit_w _ w (h01 1), bit_w _ w (h01 2), bit_w _ w (h01 3), bit_w _ w (h01 4), bit_w _ w (h01 5), bit_w _ w (h01 6), bit_w _ w (h01 7)]
  have hb2 : bitI vec n 0 + 2 * bitI vec n 1 + 4 * bitI vec n 2 + 8 * bitI vec n 3 + 16 * bitI vec n 4 + 32 * bitI vec n 5 + 64 * bitI vec n 6 + 128 * bitI vec n 7 = inpF vec n := hb
  rw [← hb2]
  generalize bitI vec n 0 = t0
  generalize bitI vec n 1 = t1
  generalize bitI vec n 2 = t2
  generalize bitI vec n 3 = t3
  generalize bitI vec n 4 = t4
  generalize bitI vec n 5 = t5
  generalize bitI vec n 6 = t6
  generalize bitI vec n 7 = t7
  rw [Int.mul_add, Int.mul_add, Int.mul_add, Int.mul_add, Int.mul_add, Int.mul_add, Int.mul_add]
  have m : ∀ c t : Int, w * (c * t) = c * (w * t) := fun c t => by rw [← Int.mul_assoc, Int.mul_comm w c, Int.mul_assoc]
  rw [m, m, m, m, m, m, m]
theorem ideal_z {wb : Int} {st : St} (hI : GI wb st) (a o : Int) (vec : Nat) : ∀ n, zbF st a o vec n 0 + 2 * zbF st a o vec n 1 + 4 * zbF st a o vec n 2 + 8 * zbF st a o vec n 3 + 16 * zbF st a o vec n 4 + 32 * zbF st a o vec n 5 + 64 * zbF st a o vec n 6 + 128 * zbF st a o vec n 7 = idU st a o vec n
  | 0 => by
    have h : ∀ b, zbF st a o vec 0 b = 0 := fun b => rfl
    rw [h 0, h 1, h 2, h 3, h 4, h 5, h 6, h 7]
    rfl
  | n + 1 => by
    have ih := ideal_z hI a o vec n
    have hi : idU st a o vec (n + 1) = idU st a o vec n + st 17 0 (32 * a + 4 * (n : Int) + o) * inpF vec n := rfl
    have hw := inp_w vec n (st 17 0 (32 * a + 4 * (n : Int) + o))
    rw [zb_s hI, zb_s hI, zb_s hI, zb_s hI, zb_s hI, zb_s hI, zb_s hI, zb_s hI, hi, ← ih, ← hw]
    omega
theorem bound_ok {wb : Int} {st : St} (hI : GI wb st) {a o : Int} (ho : 0 ≤ o ∧ o < st 16 0 a) (h : trU st a (16 * (st 15 0 a).toNat) = 1) (vec : Nat) : 255 * (errF st a o 0 0 + 16 * errF st a o 1 0 - (errF st a o 2 (1 - 0) + 16 * errF st a o 3 (1 - 0))) ≤ ansU st a o vec 8 - idU st a o vec (st 15 0 a).toNat ∧ ansU st a o vec 8 - idU st a o vec (st 15 0 a).toNat ≤ 255 * (errF st a o 0 1 + 16 * errF st a o 1 1 - (errF st a o 2 (1 - 1) + 16 * errF st a o 3 (1 - 1))) := by
  have ho4 := (gI_16 hI 0 a).2
  have hz := ideal_z hI a o vec (st 15 0 a).toNat
  have hb : ∀ b, errF st a o 0 0 + 16 * errF st a o 1 0 - (errF st a o 2 1 + 16 * errF st a o 3 1) ≤ sumN (tW st a o vec b) 4 - zbF st a o vec (st 15 0 a).toNat b ∧ sumN (tW st a o vec b) 4 - zbF st a o vec (st 15 0 a).toNat b ≤ errF st a o 0 1 + 16 * errF st a o 1 1 - (errF st a o 2 0 + 16 * errF st a o 3 0) := fun b => by
    have c0 := col_err hI a o vec b 0
    have c1 := col_err hI a o vec b 1
    have c2 := col_err hI a o vec b 2
    have c3 := col_err hI a o vec b 3
    have q0 : tW st a o vec b 0 = readE st a (4 * o + ((0 : Nat) : Int)) (curU st a (4 * o + ((0 : Nat) : Int)) vec b (st 15 0 a).toNat) * 1 := by
      unfold tW
      rw [if_pos (by decide), if_pos (by decide)]
    have q1 : tW st a o vec b 1 = readE st a (4 * o + ((1 : Nat) : Int)) (curU st a (4 * o + ((1 : Nat) : Int)) vec b (st 15 0 a).toNat) * 16 := by
      unfold tW
      rw [if_pos (by decide), if_neg (by decide)]
    have q2 : tW st a o vec b 2 = -(readE st a (4 * o + ((2 : Nat) : Int)) (curU st a (4 * o + ((2 : Nat) : Int)) vec b (st 15 0 a).toNat) * 1) := by
      unfold tW
      rw [if_neg (by decide), if_pos (by decide)]
    have q3 : tW st a o vec b 3 = -(readE st a (4 * o + ((3 : Nat) : Int)) (curU st a (4 * o + ((3 : Nat) : Int)) vec b (st 15 0 a).toNat) * 16) := by
      unfold tW
      rw [if_neg (by decide), if_neg (by decide)]
    rw [sum4, q0, q1, q2, q3]
    unfold zbF
    rw [cur_tr ho ho4 h vec b (w := 0) (by decide), cur_tr ho ho4 h vec b (w := 1) (by decide), cur_tr ho ho4 h vec b (w := 2) (by decide), cur_tr ho ho4 h vec b (w := 3) (by decide)]
    have k0 : ((0 : Nat) : Int) = 0 := rfl
    have k1 : ((1 : Nat) : Int) = 1 := rfl
    have k2 : ((2 : Nat) : Int) = 2 := rfl
    have k3 : ((3 : Nat) : Int) = 3 := rfl
    rw [k0] at c0 ⊢
    rw [k1] at c1 ⊢
    rw [k2] at c2 ⊢
    rw [k3] at c3 ⊢
    omega
  have b0 := hb 0
  have b1 := hb 1
  have b2 := hb 2
  have b3 := hb 3
  have b4 := hb 4
  have b5 := hb 5
  have b6 := hb 6
  have b7 := hb 7
  have e : ansU st a o vec 8 = 0 + sumN (tW st a o vec 0) 4 * 2 ^ 0 + sumN (tW st a o vec 1) 4 * 2 ^ 1 + sumN (tW st a o vec 2) 4 * 2 ^ 2 + sumN (tW st a o vec 3) 4 * 2 ^ 3 + sumN (tW st a o vec 4) 4 * 2 ^ 4 + sumN (tW st a o vec 5) 4 * 2 ^ 5 + sumN (tW st a o vec 6) 4 * 2 ^ 6 + sumN (tW st a o vec 7) 4 * 2 ^ 7 := rfl
  rw [e, ← hz, show (1 : Int) - 0 = 1 from rfl, show (1 : Int) - 1 = 0 from rfl]
  omega
