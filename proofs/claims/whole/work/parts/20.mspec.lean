/-! ===== what the methods answer, by integers (both classes' words) ===== -/
def inF (v lo hi : Int) : Int := if lo ≤ v ∧ v ≤ hi then 1 else 0
theorem inF_s (v lo hi : Int) : (inF v lo hi = 1 ∧ lo ≤ v ∧ v ≤ hi) ∨ (inF v lo hi = 0 ∧ (v < lo ∨ hi < v)) := by
  unfold inF
  by_cases h : lo ≤ v ∧ v ≤ hi
  · rw [if_pos h]; exact Or.inl ⟨rfl, h⟩
  · rw [if_neg h]; exact Or.inr ⟨rfl, by omega⟩
/-- is a cell of a tile -/
def isCellF (t r c : Int) : Int := if (0 ≤ t ∧ t ≤ 5) ∧ (0 ≤ r ∧ r ≤ 7) ∧ 0 ≤ c ∧ c ≤ 15 then 1 else 0
theorem isCellF_s (t r c : Int) : (isCellF t r c = 1 ∧ 0 ≤ t ∧ t ≤ 5 ∧ 0 ≤ r ∧ r ≤ 7 ∧ 0 ≤ c ∧ c ≤ 15) ∨ (isCellF t r c = 0 ∧ (t < 0 ∨ 5 < t ∨ r < 0 ∨ 7 < r ∨ c < 0 ∨ 15 < c)) := by
  unfold isCellF
  by_cases h : (0 ≤ t ∧ t ≤ 5) ∧ (0 ≤ r ∧ r ≤ 7) ∧ 0 ≤ c ∧ c ≤ 15
  · rw [if_pos h]; exact Or.inl ⟨rfl, by omega⟩
  · rw [if_neg h]; exact Or.inr ⟨rfl, by omega⟩
/-- what a cell conducts -/
def conV (now drift s si k : Int) : Int := if drift = 0 ∨ k = 1 then s else max 0 (s - (now - si) / drift)
theorem conV_r {now drift s si k : Int} (hs : 0 ≤ s ∧ s ≤ 15) (hd : 0 ≤ drift) (hn : si ≤ now) : 0 ≤ conV now drift s si k ∧ conV now drift s si k ≤ 15 := by
  unfold conV
  by_cases h : drift = 0 ∨ k = 1
  · rw [if_pos h]; exact hs
  · rw [if_neg h]
    have : 0 ≤ (now - si) / drift := Int.ediv_nonneg (by omega) hd
    omega
def conM (st : St) (i : Int) : Int := conV (st 1 0 0) (st 2 0 0) (st 4 0 i) (st 6 0 i) (st 7 0 i)
def conC (st : St) (t : Nat) (i : Int) : Int := conV (st 30 0 0) (st 31 0 0) (st 40 t i) (st 42 t i) (st 43 t i)
/-- one cell's five numbers set -/
def setG (b o : Nat) (st : St) (i s w si k kn : Int) : St := fun c o' i' => if o' = o ∧ i' = i then (if c = b then s else if c = b + 1 then w else if c = b + 2 then si else if c = b + 3 then k else if c = b + 4 then kn else st c o' i') else st c o' i'
theorem setG_self (b o : Nat) (st : St) (i : Int) : st = setG b o st i (st b o i) (st (b + 1) o i) (st (b + 2) o i) (st (b + 3) o i) (st (b + 4) o i) := by
  funext c o' i'
  unfold setG
  by_cases h : o' = o ∧ i' = i
  · obtain ⟨rfl, rfl⟩ := h
    rw [if_pos ⟨rfl, rfl⟩]
    by_cases h0 : c = b
    · rw [if_pos h0, h0]
    · rw [if_neg h0]
      by_cases h1 : c = b + 1
      · rw [if_pos h1, h1]
      · rw [if_neg h1]
        by_cases h2 : c = b + 2
        · rw [if_pos h2, h2]
        · rw [if_neg h2]
          by_cases h3 : c = b + 3
          · rw [if_pos h3, h3]
          · rw [if_neg h3]
            by_cases h4 : c = b + 4
            · rw [if_pos h4, h4]
            · rw [if_neg h4]
  · rw [if_neg h]
theorem setG_0 (b o : Nat) (st : St) (i s w si k kn v : Int) : ust (setG b o st i s w si k kn) b o i v = setG b o st i v w si k kn := by
  funext c o' i'; unfold ust setG
  by_cases h0 : c = b <;> by_cases h1 : o' = o <;> by_cases h2 : i' = i <;> simp [h0, h1, h2]
theorem setG_1 (b o : Nat) (st : St) (i s w si k kn v : Int) : ust (setG b o st i s w si k kn) (b + 1) o i v = setG b o st i s v si k kn := by
  funext c o' i'; unfold ust setG
  by_cases h0 : c = b + 1 <;> by_cases h1 : o' = o <;> by_cases h2 : i' = i <;> simp [h0, h1, h2]
theorem setG_2 (b o : Nat) (st : St) (i s w si k kn v : Int) : ust (setG b o st i s w si k kn) (b + 2) o i v = setG b o st i s w v k kn := by
  funext c o' i'; unfold ust setG
  by_cases h0 : c = b + 2 <;> by_cases h1 : o' = o <;> by_cases h2 : i' = i <;> simp [h0, h1, h2]
theorem setG_3 (b o : Nat) (st : St) (i s w si k kn v : Int) : ust (setG b o st i s w si k kn) (b + 3) o i v = setG b o st i s w si v kn := by
  funext c o' i'; unfold ust setG
  by_cases h0 : c = b + 3 <;> by_cases h1 : o' = o <;> by_cases h2 : i' = i <;> simp [h0, h1, h2]
theorem setG_4 (b o : Nat) (st : St) (i s w si k kn v : Int) : ust (setG b o st i s w si k kn) (b + 4) o i v = setG b o st i s w si k v := by
  funext c o' i'; unfold ust setG
  by_cases h0 : c = b + 4 <;> by_cases h1 : o' = o <;> by_cases h2 : i' = i <;> simp [h0, h1, h2]
theorem setG_r0 (b o : Nat) (st : St) (i s w si k kn : Int) : setG b o st i s w si k kn b o i = s := by simp [setG]
theorem setG_r1 (b o : Nat) (st : St) (i s w si k kn : Int) : setG b o st i s w si k kn (b + 1) o i = w := by simp [setG]
theorem setG_r2 (b o : Nat) (st : St) (i s w si k kn : Int) : setG b o st i s w si k kn (b + 2) o i = si := by simp [setG]
theorem setG_r3 (b o : Nat) (st : St) (i s w si k kn : Int) : setG b o st i s w si k kn (b + 3) o i = k := by simp [setG]
theorem setG_r4 (b o : Nat) (st : St) (i s w si k kn : Int) : setG b o st i s w si k kn (b + 4) o i = kn := by simp [setG]
theorem setG_c (b o : Nat) (st : St) (i s w si k kn : Int) {c o' : Nat} {i' : Int} (h : c < b ∨ b + 4 < c) : setG b o st i s w si k kn c o' i' = st c o' i' := by
  unfold setG
  rw [if_neg (show ¬ c = b by omega), if_neg (show ¬ c = b + 1 by omega), if_neg (show ¬ c = b + 2 by omega), if_neg (show ¬ c = b + 3 by omega), if_neg (show ¬ c = b + 4 by omega)]
  exact ite_self _
/-- the pulses of one write: state, wear, stuck -/
def wrL (most want : Int) : Nat → Int → Int → Int → Int × Int × Int
  | 0, s, w, k => (s, w, k)
  | n + 1, s, w, k => if s = want then (s, w, k) else if k = 1 then wrL most want n s (w + 1) k else wrL most want n (if s < want then s + 1 else max 0 (s - 2)) (w + 1) (if most ≤ w + 1 then 1 else 0)
theorem wrL_w (most want : Int) : ∀ (n : Nat) (s w k : Int), w ≤ (wrL most want n s w k).2.1 ∧ (wrL most want n s w k).2.1 ≤ w + n
  | 0, s, w, k => by unfold wrL; simp
  | n + 1, s, w, k => by
    unfold wrL
    by_cases h : s = want
    · rw [if_pos h]; exact ⟨Int.le_refl _, by show w ≤ _; omega⟩
    · rw [if_neg h]
      by_cases hk : k = 1
      · rw [if_pos hk]; have := wrL_w most want n s (w + 1) k; omega
      · rw [if_neg hk]; have := wrL_w most want n (if s < want then s + 1 else max 0 (s - 2)) (w + 1) (if most ≤ w + 1 then 1 else 0); omega
/-- a write: the five numbers behind it -/
def wrV (now drift most want s w si k kn : Int) : Int × Int × Int × Int × Int :=
  let q := wrL most want 16 (if k = 1 then s else conV now drift s si k) w k
  (q.1, q.2.1, if k = 1 then si else now, q.2.2, if kn = 1 ∨ q.1 ≠ want then 1 else 0)
def wrM (st : St) (i want : Int) : St :=
  let q := wrV (st 1 0 0) (st 2 0 0) (st 3 0 0) want (st 4 0 i) (st 5 0 i) (st 6 0 i) (st 7 0 i) (st 8 0 i)
  setG 4 0 st i q.1 q.2.1 q.2.2.1 q.2.2.2.1 q.2.2.2.2
/-- 1 if the write has failed -/
def wrMf (st : St) (i want : Int) : Int := if wrM st i want 4 0 i = want then 0 else 1
theorem divB {x y : Int} (h1 : 0 ≤ x) (h2 : 0 ≤ y) : 0 ≤ x / y ∧ x / y ≤ x := ⟨Int.ediv_nonneg h1 h2, Int.ediv_le_self y h1⟩
theorem wrM_eq {st : St} {i want s w k kn : Int} (h : wrL (st 3 0 0) want 16 (if st 7 0 i = 1 then st 4 0 i else conM st i) (st 5 0 i) (st 7 0 i) = (s, w, k)) (hk : kn = if st 8 0 i = 1 ∨ s ≠ want then 1 else 0) : wrM st i want = setG 4 0 st i s w (if st 7 0 i = 1 then st 6 0 i else st 1 0 0) k kn := by
  subst hk
  unfold wrM wrV conM at *
  simp only [h]
theorem wrMf_eq {st : St} {i want s w si k kn : Int} (h : wrM st i want = setG 4 0 st i s w si k kn) : wrMf st i want = if s = want then 0 else 1 := by
  unfold wrMf
  rw [h, setG_r0]
