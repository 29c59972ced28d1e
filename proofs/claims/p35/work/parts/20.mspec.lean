/-! ===== what the methods answer, by integers (both classes' words) ===== -/
def inF (v lo hi : Int) : Int := if lo ≤ v ∧ v ≤ hi then 1 else 0
theorem inF_s (v lo hi : Int) : (inF v lo hi = 1 ∧ lo ≤ v ∧ v ≤ hi) ∨ (inF v lo hi = 0 ∧ (v < lo ∨ hi < v)) := by
  unfold inF
  by_cases h : lo ≤ v ∧ v ≤ hi
  · rw [if_pos h]; exact Or.inl ⟨rfl, h⟩
  · rw [if_neg h]; exact Or.inr ⟨rfl, by omega⟩
/-- is a cell of a tile -/
def isCellF (t r c : Int) : Int := if (0 ≤ t ∧ t ≤ 5) ∧ (0 ≤ r ∧ r ≤ 7) ∧ 0 ≤ c ∧ c ≤ 15 then 1 else 0
theorem isCellF_s (t r c : Int) : (isCellF t r c = 1 ∧ 0 ≤ t ∧ t ≤ 5 ∧ 0 ≤ r ∧ r ≤ 7 ∧ 0 ≤ c ∧ c ≤ 15) ∨ (isCellF t r c = 0 ∧ (t < 0 ∨ 5 < t ∨ r < 0 ∨ 7 < r ∨ c < 0 ∨ 15 < c)) := by
  unfold isCellF
  by_cases h : (0 ≤ t ∧ t ≤ 5) ∧ (0 ≤ r ∧ r ≤ 7) ∧ 0 ≤ c ∧ c ≤ 15
  · rw [if_pos h]; exact Or.inl ⟨rfl, by omega⟩
  · rw [if_neg h]; exact Or.inr ⟨rfl, by omega⟩
/-- what a cell conducts -/
def conV (now drift s si k : Int) : Int := if drift = 0 ∨ k = 1 then s else max 0 (s - (now - si) / drift)
theorem conV_r {now drift s si k : Int} (hs : 0 ≤ s ∧ s ≤ 15) (hd : 0 ≤ drift) (hn : si ≤ now) : 0 ≤ conV now drift s si k ∧ conV now drift s si k ≤ 15 := by
  unfold conV
  by_cases h : drift = 0 ∨ k = 1
  · rw [if_pos h]; exact hs
  · rw [if_neg h]
    have : 0 ≤ (now - si) / drift := Int.ediv_nonneg (by omega) hd
    omega
def conM (st : St) (i : Int) : Int := conV (st 1 0 0) (st 2 0 0) (st 4 0 i) (st 6 0 i) (st 7 0 i)
def conC (st : St) (t : Nat) (i : Int) : Int := conV (st 30 0 0) (st 31 0 0) (st 40 t i) (st 42 t i) (st 43 t i)
/-- one cell's five numbers set -/
def setG (b o : Nat) (st : St) (i s w si k kn : Int) : St := fun c o' i' => if o' = o ∧ i' = i then (if c = b then s else if c = b + 1 then w else if c = b + 2 then si else if c = b + 3 then k else if c = b + 4 then kn else st c o' i') else st c o' i'
theorem setG_self (b o : Nat) (st : St) (i : Int) : st = setG b o st i (st b o i) (st (b + 1) o i) (st (b + 2) o i) (st (b + 3) o i) (st (b + 4) o i) := by
  funext c o' i'
  unfold setG
  by_cases h : o' = o ∧ i' = i
  · obtain ⟨rfl, rfl⟩ := h
    rw [if_pos ⟨rfl, rfl⟩]
    by_cases h0 : c = b
    · rw [if_pos h0, h0]
    · rw [if_neg h0]
      by_cases h1 : c = b + 1
      · rw [if_pos h1, h1]
      · rw [if_neg h1]
        by_cases h2 : c = b + 2
        · rw [if_pos h2, h2]
        · rw [if_neg h2]
          by_cases h3 : c = b + 3
          · rw [if_pos h3, h3]
          · rw [if_neg h3]
            by_cases h4 : c = b + 4
            · rw [if_pos h4, h4]
            · rw [if_neg h4]
  · rw [if_neg h]
theorem setG_0 (b o : Nat) (st : St) (i s w si k kn v : Int) : ust (setG b o st i s w si k kn) b o i v = setG b o st i v w si k kn := by
  funext c o' i'; unfold ust setG
  by_cases h0 : c = b <;> by_cases h1 : o' = o <;> by_cases h2 : i' = i <;> simp [h0, h1, h2]
theorem setG_1 (b o : Nat) (st : St) (i s w si k kn v : Int) : ust (setG b o st i s w si k kn) (b + 1) o i v = setG b o st i s v si k kn := by
  funext c o' i'; unfold ust setG
  by_cases h0 : c = b + 1 <;> by_cases h1 : o' = o <;> by_cases h2 : i' = i <;> simp [h0, h1, h2]
theorem setG_2 (b o : Nat) (st : St) (i s w si k kn v : Int) : ust (setG b o st i s w si k kn) (b + 2) o i v = setG b o st i s w v k kn := by
  funext c o' i'; unfold ust setG
  by_cases h0 : c = b + 2 <;> by_cases h1 : o' = o <;> by_cases h2 : i' = i <;> simp [h0, h1, h2]
theorem setG_3 (b o : Nat) (st : St) (i s w si k kn v : Int) : ust (setG b o st i s w si k kn) (b + 3) o i v = setG b o st i s w si v kn := by
  funext c o' i'; unfold ust setG
  by_cases h0 : c = b + 3 <;> by_cases h1 : o' = o <;> by_cases h2 : i' = i <;> simp [h0, h1, h2]
theorem setG_4 (b o : Nat) (st : St) (i s w si k kn v : Int) : ust (setG b o st i s w si k kn) (b + 4) o i v = setG b o st i s w si k v := by
  funext c o' i'; unfold ust setG
  by_cases h0 : c = b + 4 <;> by_cases h1 : o' = o <;> by_cases h2 : i' = i <;> simp [h0, h1, h2]
theorem setG_r0 (b o : Nat) (st : St) (i s w si k kn : Int) : setG b o st i s w si k kn b o i = s := by simp [setG]
theorem setG_r1 (b o : Nat) (st : St) (i s w si k kn : Int) : setG b o st i s w si k kn (b + 1) o i = w := by simp [setG]
theorem setG_r2 (b o : Nat) (st : St) (i s w si k kn : Int) : setG b o st i s w si k kn (b + 2) o i = si := by simp [setG]
theorem setG_r3 (b o : Nat) (st : St) (i s w si k kn : Int) : setG b o st i s w si k kn (b + 3) o i = k := by simp [setG]
theorem setG_r4 (b o : Nat) (st : St) (i s w si k kn : Int) : setG b o st i s w si k kn (b + 4) o i = kn := by simp [setG]
theorem setG_c (b o : Nat) (st : St) (i s w si k kn : Int) {c o' : Nat} {i' : Int} (h : c < b ∨ b + 4 < c) : setG b o st i s w si k kn c o' i' = st c o' i' := by
  unfold setG
  rw [if_neg (show ¬ c = b by omega), if_neg (show ¬ c = b + 1 by omega), if_neg (show ¬ c = b + 2 by omega), if_neg (show ¬ c = b + 3 by omega), if_neg (show ¬ c = b + 4 by omega)]
  exact ite_self _
/-- the pulses of one write: state, wear, stuck -/
def wrL (most want : Int) : Nat → Int → Int → Int → Int × Int × Int
  | 0, s, w, k => (s, w, k)
  | n + 1, s, w, k => if s = want then (s, w, k) else if k = 1 then wrL most want n s (w + 1) k else wrL most want n (if s < want then s + 1 else max 0 (s - 2)) (w + 1) (if most ≤ w + 1 then 1 else 0)
theorem wrL_w (most want : Int) : ∀ (n : Nat) (s w k : Int), w ≤ (wrL most want n s w k).2.1 ∧ (wrL most want n s w k).2.1 ≤ w + n
  | 0, s, w, k => by unfold wrL; simp
  | n + 1, s, w, k => by
    unfold wrL
    by_cases h : s = want
    · rw [if_pos h]; exact ⟨Int.le_refl _, by show w ≤ _; omega⟩
    · rw [if_neg h]
      by_cases hk : k = 1
      · rw [if_pos hk]; have := wrL_w most want n s (w + 1) k; omega
      · rw [if_neg hk]; have := wrL_w most want n (if s < want then s + 1 else max 0 (s - 2)) (w + 1) (if most ≤ w + 1 then 1 else 0); omega
/-- a write: the five numbers behind it -/
def wrV (now drift most want s w si k kn : Int) : Int × Int × Int × Int × Int :=
  let q := wrL most want 16 (if k = 1 then s else conV now drift s si k) w k
  (q.1, q.2.1, if k = 1 then si else now, q.2.2, if kn = 1 ∨ q.1 ≠ want then 1 else 0)
def wrM (st : St) (i want : Int) : St :=
  let q := wrV (st 1 0 0) (st 2 0 0) (st 3 0 0) want (st 4 0 i) (st 5 0 i) (st 6 0 i) (st 7 0 i) (st 8 0 i)
  setG 4 0 st i q.1 q.2.1 q.2.2.1 q.2.2.2.1 q.2.2.2.2
/-- 1 if the write has failed -/
def wrMf (st : St) (i want : Int) : Int := if wrM st i want 4 0 i = want then 0 else 1
theorem divB {x y : Int} (h1 : 0 ≤ x) (h2 : 0 ≤ y) : 0 ≤ x / y ∧ x / y ≤ x := ⟨Int.ediv_nonneg h1 h2, Int.ediv_le_self y h1⟩
theorem wrM_eq {st : St} {i want s w k kn : Int} (h : wrL (st 3 0 0) want 16 (if st 7 0 i = 1 then st 4 0 i else conM st i) (st 5 0 i) (st 7 0 i) = (s, w, k)) (hk : kn = if st 8 0 i = 1 ∨ s ≠ want then 1 else 0) : wrM st i want = setG 4 0 st i s w (if st 7 0 i = 1 then st 6 0 i else st 1 0 0) k kn := by
  subst hk
  unfold wrM wrV conM at *
  simp only [h]
theorem wrMf_eq {st : St} {i want s w si k kn : Int} (h : wrM st i want = setG 4 0 st i s w si k kn) : wrMf st i want = if s = want then 0 else 1 := by
  unfold wrMf
  rw [h, setG_r0]
theorem wrL_0 (most want s w k : Int) : wrL most want 0 s w k = (s, w, k) := by unfold wrL; rfl
theorem wrL_end {most want s w k x : Int} (h : 16 ≤ x ∨ s = want) : wrL most want (16 - x).toNat s w k = (s, w, k) := by
  by_cases h0 : 16 ≤ x
  · rw [show (16 - x).toNat = 0 by omega, wrL_0]
  · obtain ⟨j, hj⟩ : ∃ j : Nat, (16 - x).toNat = j + 1 := ⟨(16 - x).toNat - 1, by omega⟩
    rw [hj]
    unfold wrL
    rw [if_pos (show s = want by omega)]
theorem wrL_step {most want s w k s' w' k' x y : Int} (hxy : y = x + 1) (hx : x < 16) (h : ¬ s = want) (hc : (k = 1 ∧ s' = s ∧ w' = w + 1 ∧ k' = k) ∨ (k ≠ 1 ∧ w' = w + 1 ∧ (s < want → s' = s + 1) ∧ (want ≤ s → s' = max 0 (s - 2)) ∧ (most ≤ w + 1 → k' = 1) ∧ (w + 1 < most → k' = 0))) : wrL most want (16 - y).toNat s' w' k' = wrL most want (16 - x).toNat s w k := by
  rw [show (16 - x).toNat = (16 - y).toNat + 1 by omega]
  generalize (16 - y).toNat = j
  conv => rhs; unfold wrL
  rw [if_neg h]
  rcases hc with ⟨h1, h2, h3, h4⟩ | ⟨h1, h2, h3, h4, h5, h6⟩
  · rw [if_pos h1, h2, h3, h4]
  · rw [if_neg h1, h2]
    have e1 : s' = if s < want then s + 1 else max 0 (s - 2) := by
      by_cases q : s < want
      · rw [if_pos q]; exact h3 q
      · rw [if_neg q]; exact h4 (by omega)
    have e2 : k' = if most ≤ w + 1 then 1 else 0 := by
      by_cases q : most ≤ w + 1
      · rw [if_pos q]; exact h5 q
      · rw [if_neg q]; exact h6 (by omega)
    rw [e1, e2]
theorem conM_r {wb : Int} {st : St} (hI : GI wb st) (i : Int) (hs : st 6 0 i ≤ st 1 0 0) : 0 ≤ conM st i ∧ conM st i ≤ 15 := conV_r (gI_4 hI 0 i) (gI_2 hI 0 0).1 hs
def absI (w : Int) : Int := if w < 0 then -w else w
theorem absI_s (w : Int) : (0 ≤ w ∧ absI w = w) ∨ (w < 0 ∧ absI w = -w) := by
  unfold absI
  by_cases h : w < 0
  · rw [if_pos h]; exact Or.inr ⟨h, rfl⟩
  · rw [if_neg h]; exact Or.inl ⟨by omega, rfl⟩
/-- the state that a weight needs in its cell: low plus, high plus, low minus, high minus -/
def needV (w which : Int) : Int := if (0 ≤ w ∧ which < 2) ∨ (w < 0 ∧ 2 ≤ which) then (if which % 2 = 0 then absI w % 16 else absI w / 16) else 0
theorem needV_r {w : Int} (hw : -255 ≤ w ∧ w ≤ 255) (which : Int) : 0 ≤ needV w which ∧ needV w which ≤ 15 := by
  have := absI_s w
  unfold needV
  by_cases h : (0 ≤ w ∧ which < 2) ∨ (w < 0 ∧ 2 ≤ which)
  · rw [if_pos h]
    by_cases h2 : which % 2 = 0
    · rw [if_pos h2]; omega
    · rw [if_neg h2]; omega
  · rw [if_neg h]; omega
def onesU (S : Nat) : Nat → Nat
  | 0 => 0
  | k + 1 => onesU S k + S / 2 ^ k % 2
def sumN (f : Nat → Int) : Nat → Int
  | 0 => 0
  | n + 1 => sumN f n + f n
theorem sumN_s (f : Nat → Int) (n : Nat) : sumN f (n + 1) = sumN f n + f n := rfl
/-- what is read of a current -/
def readV (step top cal off cur : Int) : Int := min top (max 0 (cur + if cal = 1 then 0 else off) / step) * step
def wAt (st : St) (l i o : Int) : Int := st 17 0 (32 * l + 4 * i + o)
def mlay (st : St) (a : Int) : Prop := 0 ≤ a ∧ a < st 14 0 0
/-- the last of the first k layers that is on tile t; -1 if there is none -/
def lonF (st : St) (t : Int) : Nat → Int
  | 0 => -1
  | k + 1 => if st 20 0 (k : Int) = t then (k : Int) else lonF st t k
theorem lonF_s (st : St) (t : Int) (k : Nat) : lonF st t (k + 1) = if st 20 0 (k : Int) = t then (k : Int) else lonF st t k := rfl
theorem lonF_r (st : St) (t : Int) : ∀ k : Nat, -1 ≤ lonF st t k ∧ lonF st t k < (k : Int)
  | 0 => by unfold lonF; omega
  | k + 1 => by
    have := lonF_r st t k
    rw [lonF_s]
    by_cases h : st 20 0 (k : Int) = t
    · rw [if_pos h]; omega
    · rw [if_neg h]; omega
/-- 1 if the cell in column c of the row is a misfit -/
def mfM (st : St) (a t i r : Int) (c : Nat) : Int := if st 8 0 (128 * t + 16 * r + (c : Int)) = 1 ∧ st 4 0 (128 * t + 16 * r + (c : Int)) ≠ needV (st 17 0 (32 * a + 4 * i + ((c / 4 : Nat) : Int))) ((c % 4 : Nat) : Int) then 1 else 0
theorem mfM_c {st : St} {a t i r : Int} {ko kw : Nat} {x : Int} (hk : kw < 4) (hx : x = 128 * t + 16 * r + ((4 * ko + kw : Nat) : Int)) : mfM st a t i r (4 * ko + kw) = if st 8 0 x = 1 ∧ st 4 0 x ≠ needV (st 17 0 (32 * a + 4 * i + (ko : Int))) (kw : Int) then 1 else 0 := by
  unfold mfM
  rw [← hx, show (4 * ko + kw) / 4 = ko by omega, show (4 * ko + kw) % 4 = kw by omega]
theorem sumN_r {f : Nat → Int} {B : Int} (h : ∀ c, 0 ≤ f c ∧ f c ≤ B) : ∀ n : Nat, 0 ≤ sumN f n ∧ sumN f n ≤ B * n
  | 0 => by unfold sumN; simp
  | n + 1 => by
    have h1 := sumN_r h n
    have h2 := h n
    have h3 : B * ((n + 1 : Nat) : Int) = B * n + B := by rw [Int.natCast_add, Int.mul_add]; simp
    rw [sumN_s, h3]
    omega
theorem mfM_b (st : St) (a t i r : Int) (c : Nat) : 0 ≤ mfM st a t i r c ∧ mfM st a t i r c ≤ 1 := by
  unfold mfM
  split <;> omega
theorem mfM_r {wb : Int} {st : St} (hI : GI wb st) (a t i r : Int) : 0 ≤ sumN (mfM st a t i r) (4 * (st 16 0 a).toNat) ∧ sumN (mfM st a t i r) (4 * (st 16 0 a).toNat) ≤ 16 := by
  have h := sumN_r (mfM_b st a t i r) (4 * (st 16 0 a).toNat)
  have h2 := gI_16 hI 0 a
  omega
theorem jdiv {m ki kk : Nat} (h : kk < m) : (m * ki + kk) / m = ki ∧ (m * ki + kk) % m = kk := by
  constructor
  · rw [Nat.mul_add_div (by omega), Nat.div_eq_of_lt h, Nat.add_zero]
  · rw [Nat.mul_add_mod]; exact Nat.mod_eq_of_lt h
/-- writes one behind the other: the j-th to the cell c j, wanting w j; how many failed -/
def runW (c w : Nat → Int) : Nat → St → St × Int
  | 0, st => (st, 0)
  | j + 1, st => (wrM (runW c w j st).1 (c j) (w j), (runW c w j st).2 + wrMf (runW c w j st).1 (c j) (w j))
theorem runW_s2 (c w : Nat → Int) (j : Nat) (st : St) : (runW c w (j + 1) st).2 = (runW c w j st).2 + wrMf (runW c w j st).1 (c j) (w j) := rfl
theorem runW_s1 (c w : Nat → Int) (j : Nat) (st : St) : (runW c w (j + 1) st).1 = wrM (runW c w j st).1 (c j) (w j) := rfl
theorem wrM_c (st : St) (i want : Int) {c o : Nat} {j : Int} (h : c < 4 ∨ 8 < c) : wrM st i want c o j = st c o j := by
  unfold wrM
  exact setG_c _ _ _ _ _ _ _ _ _ (by omega)
theorem wrM_since {st : St} {i want : Int} (h : ∀ j : Int, st 6 0 j ≤ st 1 0 0) (j : Int) : wrM st i want 6 0 j ≤ st 1 0 0 := by
  have hj := h j
  unfold wrM wrV setG
  by_cases e : j = i
  · subst e
    simp only [and_self, if_true]
    by_cases hk : st 7 0 j = 1
    · simp [hk]; exact hj
    · simp [hk]
  · simp [e]; exact hj
theorem runW_c (c w : Nat → Int) (st : St) : ∀ (n : Nat) {k o : Nat} (_ : k < 4 ∨ 8 < k) (i : Int), (runW c w n st).1 k o i = st k o i
  | 0, _, _, _, _ => rfl
  | n + 1, _, _, h, i => by rw [runW_s1, wrM_c _ _ _ h]; exact runW_c c w st n h i
theorem runW_since {c w : Nat → Int} {st : St} (h : ∀ j : Int, st 6 0 j ≤ st 1 0 0) : ∀ (n : Nat) (j : Int), (runW c w n st).1 6 0 j ≤ st 1 0 0
  | 0, j => h j
  | n + 1, j => by
    rw [runW_s1, ← runW_c c w st n (k := 1) (o := 0) (by decide) 0]
    exact wrM_since (fun q => by rw [runW_c c w st n (by decide) 0]; exact runW_since h n q) j
/-- the j-th cell of a load, and what is needed there -/
def ldc (st : St) (a : Int) (j : Nat) : Int := 128 * st 20 0 a + 16 * st 21 0 (8 * a + ((j / (4 * (st 16 0 a).toNat) : Nat) : Int)) + ((j % (4 * (st 16 0 a).toNat) : Nat) : Int)
def ldw (st : St) (a : Int) (j : Nat) : Int := needV (st 17 0 (32 * a + 4 * ((j / (4 * (st 16 0 a).toNat) : Nat) : Int) + ((j % (4 * (st 16 0 a).toNat) / 4 : Nat) : Int))) ((j % (4 * (st 16 0 a).toNat) % 4 : Nat) : Int)
def ldS (st : St) (a : Int) : St := (runW (ldc st a) (ldw st a) (4 * (st 16 0 a).toNat * (st 15 0 a).toNat) st).1
def ldF (st : St) (a : Int) : Int := (runW (ldc st a) (ldw st a) (4 * (st 16 0 a).toNat * (st 15 0 a).toNat) st).2
theorem ldc_e {st : St} {a : Int} {q ki kk : Nat} (hq : q = 4 * (st 16 0 a).toNat * ki) (hk : kk < 4 * (st 16 0 a).toNat) : ldc st a (q + kk) = 128 * st 20 0 a + 16 * st 21 0 (8 * a + (ki : Int)) + (kk : Int) := by
  have h := jdiv (ki := ki) hk
  rw [← hq] at h
  unfold ldc
  rw [h.1, h.2]
theorem ldw_e {st : St} {a : Int} {q ki kk : Nat} (hq : q = 4 * (st 16 0 a).toNat * ki) (hk : kk < 4 * (st 16 0 a).toNat) : ldw st a (q + kk) = needV (st 17 0 (32 * a + 4 * (ki : Int) + ((kk : Int) / 4))) ((kk : Int) % 4) := by
  have h := jdiv (ki := ki) hk
  rw [← hq] at h
  unfold ldw
  rw [h.1, h.2]
  rfl
theorem setG_u0 (b o : Nat) (st : St) (i v : Int) : ust st b o i v = setG b o st i v (st (b + 1) o i) (st (b + 2) o i) (st (b + 3) o i) (st (b + 4) o i) := by
  have e := setG_0 b o st i (st b o i) (st (b + 1) o i) (st (b + 2) o i) (st (b + 3) o i) (st (b + 4) o i) v
  rw [← setG_self] at e
  exact e
theorem setG_u1 (b o : Nat) (st : St) (i v : Int) : ust st (b + 1) o i v = setG b o st i (st b o i) v (st (b + 2) o i) (st (b + 3) o i) (st (b + 4) o i) := by
  have e := setG_1 b o st i (st b o i) (st (b + 1) o i) (st (b + 2) o i) (st (b + 3) o i) (st (b + 4) o i) v
  rw [← setG_self] at e
  exact e
theorem setG_u2 (b o : Nat) (st : St) (i v : Int) : ust st (b + 2) o i v = setG b o st i (st b o i) (st (b + 1) o i) v (st (b + 3) o i) (st (b + 4) o i) := by
  have e := setG_2 b o st i (st b o i) (st (b + 1) o i) (st (b + 2) o i) (st (b + 3) o i) (st (b + 4) o i) v
  rw [← setG_self] at e
  exact e
theorem setG_u3 (b o : Nat) (st : St) (i v : Int) : ust st (b + 3) o i v = setG b o st i (st b o i) (st (b + 1) o i) (st (b + 2) o i) v (st (b + 4) o i) := by
  have e := setG_3 b o st i (st b o i) (st (b + 1) o i) (st (b + 2) o i) (st (b + 3) o i) (st (b + 4) o i) v
  rw [← setG_self] at e
  exact e
theorem setG_u4 (b o : Nat) (st : St) (i v : Int) : ust st (b + 4) o i v = setG b o st i (st b o i) (st (b + 1) o i) (st (b + 2) o i) (st (b + 3) o i) v := by
  have e := setG_4 b o st i (st b o i) (st (b + 1) o i) (st (b + 2) o i) (st (b + 3) o i) (st (b + 4) o i) v
  rw [← setG_self] at e
  exact e
