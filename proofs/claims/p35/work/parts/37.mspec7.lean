/-! ===== the pipeline of the model ===== -/
def setL (st : St) (lf : Int → Int) : St := fun c o i => if c = 24 ∧ o = 0 then lf i else st c o i
theorem setL_c (st : St) (lf : Int → Int) {c o : Nat} {i : Int} (h : c < 24 ∨ 24 < c) : setL st lf c o i = st c o i := by
  unfold setL
  rw [if_neg (fun q => by omega)]
theorem setL_r (st : St) (lf : Int → Int) (i : Int) : setL st lf 24 0 i = lf i := rfl
def updI (f : Int → Int) (i v : Int) : Int → Int := fun j => if j = i then v else f j
theorem setL_u (st : St) (lf : Int → Int) (i v : Int) : ust (setL st lf) 24 0 i v = setL st (updI lf i v) := by
  funext c o j
  unfold ust setL updI
  by_cases h1 : c = 24 <;> by_cases h2 : o = 0 <;> by_cases h3 : j = i <;> simp [h1, h2, h3]
theorem setL_self (st : St) : st = setL st (st 24 0) := by
  funext c o j
  unfold setL
  by_cases h : c = 24 ∧ o = 0
  · rw [if_pos h, h.1, h.2]
  · rw [if_neg h]
def lfA (st : St) (k : Nat) : Int → Int := fun i => if 0 ≤ i ∧ i < (k : Int) then 0 else st 24 0 i
theorem lfA_s (st : St) (k : Nat) : updI (lfA st k) (k : Int) 0 = lfA st (k + 1) := by
  funext i
  unfold updI lfA
  by_cases h : i = (k : Int)
  · rw [if_pos h, if_pos (by omega)]
  · rw [if_neg h]
    by_cases h2 : 0 ≤ i ∧ i < (k : Int)
    · rw [if_pos h2, if_pos (by omega)]
    · rw [if_neg h2, if_neg (by omega)]
def cyL (st : St) (l : Int) : Int := cyF (st 16 0 l) (st 13 0 (st 20 0 l))
def pcT (st : St) (l : Int) (x : (Int → Int) × Int) : Int := if st 19 0 l ≠ -1 ∧ x.2 + cyL st l < x.1 (st 19 0 l) then x.1 (st 19 0 l) else x.2 + cyL st l
def pcF (st : St) : Nat → Int → (Int → Int) × Int → (Int → Int) × Int
  | 0, _, x => x
  | f + 1, l, x => if l = -1 then x else pcF st f (st 19 0 l) (updI x.1 l (pcT st l x), pcT st l x)
theorem pcF_s (st : St) (f : Nat) (l : Int) (x : (Int → Int) × Int) : pcF st (f + 1) l x = if l = -1 then x else pcF st f (st 19 0 l) (updI x.1 l (pcT st l x), pcT st l x) := rfl
theorem pcF_e (st : St) (f : Nat) (x : (Int → Int) × Int) : pcF st f (-1) x = x := by
  cases f with
  | zero => rfl
  | succ f => rw [pcF_s, if_pos rfl]
theorem pcF_step {st : St} {f : Nat} {l t nx t2 : Int} {lf : Int → Int} (hl : l ≠ -1) (hn : nx = st 19 0 l) (h : ((nx ≠ -1 ∧ t + cyL st l < lf nx) ∧ t2 = lf nx) ∨ (¬ (nx ≠ -1 ∧ t + cyL st l < lf nx) ∧ t2 = t + cyL st l)) : pcF st (f + 1) l (lf, t) = pcF st f nx (updI lf l t2, t2) := by
  rw [pcF_s, if_neg hl, ← hn]
  have e : pcT st l (lf, t) = t2 := by
    unfold pcT
    rw [← hn]
    rcases h with ⟨h1, h2⟩ | ⟨h1, h2⟩
    · rw [if_pos h1, h2]
    · rw [if_neg h1, h2]
  rw [e]
def pvF (st : St) (a : Int) : Nat → (Int → Int) × Int
  | 0 => (lfA st 6, 0)
  | v + 1 => pcF st 6 a ((pvF st a v).1, (pvF st a v).1 a)
theorem pvF_s (st : St) (a : Int) (v : Nat) : pvF st a (v + 1) = pcF st 6 a ((pvF st a v).1, (pvF st a v).1 a) := rfl
def kPipe (st : St) (a n : Int) : Int := if 0 ≤ a ∧ a < st 14 0 0 then (if 1 ≤ n ∧ n ≤ 1000 then (if chP st 6 a = 1 then 0 else 3) else 2) else 1
theorem kPipe_s (st : St) (a n : Int) : ((0 ≤ a ∧ a < st 14 0 0) ∧ (1 ≤ n ∧ n ≤ 1000) ∧ chP st 6 a = 1 ∧ kPipe st a n = 0) ∨ ((0 ≤ a ∧ a < st 14 0 0) ∧ (1 ≤ n ∧ n ≤ 1000) ∧ ¬ chP st 6 a = 1 ∧ kPipe st a n = 3) ∨ ((0 ≤ a ∧ a < st 14 0 0) ∧ ¬ (1 ≤ n ∧ n ≤ 1000) ∧ kPipe st a n = 2) ∨ (¬ (0 ≤ a ∧ a < st 14 0 0) ∧ kPipe st a n = 1) := by
  unfold kPipe
  by_cases h1 : 0 ≤ a ∧ a < st 14 0 0
  · rw [if_pos h1]
    by_cases h2 : 1 ≤ n ∧ n ≤ 1000
    · rw [if_pos h2]
      by_cases h3 : chP st 6 a = 1
      · exact Or.inl ⟨h1, h2, h3, by rw [if_pos h3]⟩
      · exact Or.inr (Or.inl ⟨h1, h2, h3, by rw [if_neg h3]⟩)
    · exact Or.inr (Or.inr (Or.inl ⟨h1, h2, by rw [if_neg h2]⟩))
  · exact Or.inr (Or.inr (Or.inr ⟨h1, by rw [if_neg h1]⟩))
def aCyc (st : St) (a n : Int) : Int := if kPipe st a n = 0 then (pvF (ust st 0 0 0 (kPipe st a n)) a n.toNat).2 else 0
def sCyc (st : St) (a n : Int) : St := if kPipe st a n = 0 then setL (ust st 0 0 0 (kPipe st a n)) (pvF (ust st 0 0 0 (kPipe st a n)) a n.toNat).1 else ust st 0 0 0 (kPipe st a n)
