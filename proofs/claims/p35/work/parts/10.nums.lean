/-! ===== numbers: an Int32 by an integer ===== -/
def iI (z : Int) : Int32 := Int32.ofInt z
theorem iI_def (z : Int) : iI z = Int32.ofInt z := rfl
theorem iI_add (a b : Int) : iI a + iI b = iI (a + b) := (Int32.ofInt_add a b).symm
theorem iI_sub (a b : Int) : iI a - iI b = iI (a - b) := (Int32.ofInt_sub a b).symm
theorem iI_mul (a b : Int) : iI a * iI b = iI (a * b) := (Int32.ofInt_mul a b).symm
theorem iI_neg (a : Int) : -iI a = iI (-a) := (Int32.ofInt_neg a).symm
theorem iI_toInt {z : Int} (h1 : -2147483648 ≤ z) (h2 : z < 2147483648) : (iI z).toInt = z := by
  exact Int32.toInt_ofInt_of_le (by omega) (by omega)
theorem iI_as (x : Int32) : iI x.toInt = x := Int32.ofInt_toInt x
theorem iI_rng (x : Int32) : -2147483648 ≤ x.toInt ∧ x.toInt < 2147483648 := by
  have h1 := Int32.le_toInt x
  have h2 := Int32.toInt_lt x
  omega
theorem iI_cl {z : Int} (h1 : 0 ≤ z) (h2 : z < 2147483648) : (iI z).toNatClampNeg = z.toNat := by
  show (iI z).toInt.toNat = _
  rw [iI_toInt (by omega) h2]
theorem iI_in {z : Int} {n : Nat} (h1 : 0 ≤ z) (h2 : z < n) (hn : n < 2147483648) : vp_in (iI z) n := by
  rw [vp_in_iff, iI_toInt (by omega) (by omega)]
  exact ⟨h1, h2⟩
theorem iI_eq {a b : Int} (a1 : -2147483648 ≤ a) (a2 : a < 2147483648) (b1 : -2147483648 ≤ b) (b2 : b < 2147483648) : iI a = iI b ↔ a = b := by
  rw [← Int32.toInt_inj, iI_toInt a1 a2, iI_toInt b1 b2]
theorem iI_le {a b : Int} (a1 : -2147483648 ≤ a) (a2 : a < 2147483648) (b1 : -2147483648 ≤ b) (b2 : b < 2147483648) : iI a ≤ iI b ↔ a ≤ b := by
  rw [Int32.le_iff_toInt_le, iI_toInt a1 a2, iI_toInt b1 b2]
theorem iI_lt {a b : Int} (a1 : -2147483648 ≤ a) (a2 : a < 2147483648) (b1 : -2147483648 ≤ b) (b2 : b < 2147483648) : iI a < iI b ↔ a < b := by
  rw [Int32.lt_iff_toInt_lt, iI_toInt a1 a2, iI_toInt b1 b2]
theorem iI_0 : (0 : Int32) = iI 0 := rfl
theorem iI_nat (n : Nat) : iI (n : Int) = nI n := by
  show Int32.ofInt (n : Int) = Int32.ofNat n
  first | exact Int32.ofInt_natCast n | rfl | (apply Int32.toBitVec.inj; simp)
theorem iI_div {a b : Int} (a1 : 0 ≤ a) (a2 : a < 2147483648) (b1 : 0 < b) (b2 : b < 2147483648) : iI a / iI b = iI (a / b) := by
  have h1 : 0 ≤ a / b := Int.ediv_nonneg a1 (by omega)
  have h2 : a / b ≤ a := Int.ediv_le_self b a1
  rw [← Int32.toInt_inj, Int32.toInt_div, iI_toInt (by omega) a2, iI_toInt (by omega) b2, iI_toInt (by omega) (by omega), Int.tdiv_eq_ediv_of_nonneg a1, Int.bmod_eq_of_le (by omega) (by omega)]
theorem iI_rem {a b : Int} (a1 : 0 ≤ a) (a2 : a < 2147483648) (b1 : 0 < b) (b2 : b < 2147483648) : iI a - iI a / iI b * iI b = iI (a % b) := by
  rw [iI_div a1 a2 b1 b2, iI_mul, iI_sub]
  congr 1
  have := Int.emod_add_mul_ediv a b
  have h : a / b * b = b * (a / b) := Int.mul_comm _ _
  omega
theorem iI_bv (a : Int) : (iI a).toBitVec = BitVec.ofInt 32 a := rfl
theorem iI_bn (a : Int) : (iI a).toBitVec.toNat = (a % 4294967296).toNat := by
  rw [iI_bv, BitVec.toNat_ofInt]
  rfl
theorem iI_and (a : Int) {k : Nat} (hk : k ≤ 30) {m : Int} (hm : m = 2 ^ k - 1) : iI a &&& iI m = iI (a % 2 ^ k) := by
  have hp : (2 : Nat) ^ k ≤ 2 ^ 30 := Nat.pow_le_pow_right (by decide) hk
  have hz : ((2 : Int) ^ k) = (((2 ^ k : Nat)) : Int) := by simp
  have hpos : 0 < (2 : Nat) ^ k := Nat.pow_pos (by decide)
  have hmm : (iI m).toBitVec.toNat = 2 ^ k - 1 := by
    rw [iI_bn, hm, hz]
    rw [Int.emod_eq_of_lt (by omega) (by omega)]
    omega
  rw [pk_and (iI a) k hmm, iI_bn, ← iI_nat]
  congr 1
  have hd : ((2 ^ k : Nat) : Int) ∣ 4294967296 := by
    have : (2 ^ k : Nat) ∣ 4294967296 := by
      have := Nat.pow_dvd_pow 2 (show k ≤ 32 by omega)
      exact this
    show ((2 ^ k : Nat) : Int) ∣ ((4294967296 : Nat) : Int)
    exact Int.natCast_dvd_natCast.mpr this
  have h0 : 0 ≤ a % 4294967296 := Int.emod_nonneg _ (by decide)
  rw [hz, ← Int.emod_emod_of_dvd a hd]
  generalize a % 4294967296 = w at h0 ⊢
  obtain ⟨n, rfl⟩ := Int.eq_ofNat_of_zero_le h0
  simp
theorem iI_sh32 : ∀ k : Nat, k < 32 → ((iI (k : Int) &&& 31).toBitVec.smod 32).toNat = k := by decide +kernel
theorem iI_shr {a : Int} {k : Nat} (a1 : -2147483648 ≤ a) (a2 : a < 2147483648) (hk : k < 32) : iI a >>> (iI (k : Int) &&& 31) = iI (a / 2 ^ k) := by
  have hpos : (0 : Int) < 2 ^ k := Int.pow_pos (by decide)
  have h1 : -2147483648 ≤ a / 2 ^ k := by
    rw [Int.le_ediv_iff_mul_le hpos]
    have : (1 : Int) ≤ 2 ^ k := hpos
    have h2 : (-2147483648 : Int) * 2 ^ k ≤ -2147483648 * 1 := Int.mul_le_mul_of_nonpos_left (by decide) this
    omega
  have h2 : a / 2 ^ k < 2147483648 := by
    rw [Int.ediv_lt_iff_lt_mul hpos]
    have : (1 : Int) ≤ 2 ^ k := hpos
    have h2 : (2147483648 : Int) * 1 ≤ 2147483648 * 2 ^ k := Int.mul_le_mul_of_nonneg_left this (by decide)
    omega
  rw [← Int32.toInt_inj, pk_shr _ _ k (iI_sh32 k hk), iI_toInt a1 a2, iI_toInt h1 h2, Int.shiftRight_eq_div_pow]
  norm_cast
theorem iI_shl (a : Int) {k : Nat} (hk : k < 32) : iI a <<< (iI (k : Int) &&& 31) = iI (a * 2 ^ k) := by
  apply Int32.toBitVec.inj
  apply BitVec.eq_of_toNat_eq
  rw [pk_shl _ _ k (iI_sh32 k hk), iI_bn, iI_bn]
  have h0 : 0 ≤ a % 4294967296 := Int.emod_nonneg _ (by decide)
  have e : a * 2 ^ k % 4294967296 = (a % 4294967296) * 2 ^ k % 4294967296 := by
    rw [Int.mul_emod a, Int.mul_emod (a % 4294967296) (2 ^ k), Int.emod_emod_of_dvd a (Int.dvd_refl _)]
  rw [e]
  generalize a % 4294967296 = w at h0 ⊢
  obtain ⟨n, rfl⟩ := Int.eq_ofNat_of_zero_le h0
  have : ((n : Int) * 2 ^ k) = ((n * 2 ^ k : Nat) : Int) := by push_cast; rfl
  rw [this]
  rfl
theorem iI_orN (a b : Nat) : iI (a : Int) ||| iI (b : Int) = iI ((a ||| b : Nat) : Int) := by
  rw [iI_nat, iI_nat, iI_nat]
  apply Int32.toBitVec.inj
  show BitVec.ofNat 32 a ||| BitVec.ofNat 32 b = BitVec.ofNat 32 (a ||| b)
  exact BitVec.ofNat_or.symm
