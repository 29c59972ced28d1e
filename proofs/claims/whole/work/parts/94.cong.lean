/-! ===== the model's words don't see the class's components ===== -/
def mgS (x y : St) : St := fun c o i => if c < 30 then x c o i else y c o i
theorem mg_of {st st1 : St} (h : ∀ (c o : Nat) (i : Int), c < 30 → st1 c o i = st c o i) : st1 = mgS st st1 := by
  funext c o i
  unfold mgS
  by_cases hc : c < 30
  · rw [if_pos hc]; exact h c o i hc
  · rw [if_neg hc]
theorem mg_ust (x y : St) (v : Int) : ust (mgS x y) 0 0 0 v = mgS (ust x 0 0 0 v) y := by
  funext c o i
  unfold mgS ust
  by_cases hc : c = 0
  · subst hc; rfl
  · rw [if_neg hc, if_neg hc]
theorem md_lonF (x y : St) (t : Int) : ∀ k, lonF (mgS x y) t k = lonF x t k
  | 0 => rfl
  | k + 1 => by
    show (if x 20 0 (k : Int) = t then (k : Int) else lonF (mgS x y) t k) = _
    rw [md_lonF x y t k]
    rfl
theorem md_trU (x y : St) (a : Int) : ∀ k, trU (mgS x y) a k = trU x a k
  | 0 => rfl
  | k + 1 => by
    show (if trU (mgS x y) a k = 0 then 0 else okF (mgS x y) a k) = _
    rw [md_trU x y a k]
    rfl
theorem md_chP (x y : St) : ∀ f l, chP (mgS x y) f l = chP x f l
  | 0, _ => rfl
  | f + 1, l => by
    show (if l = -1 then 1 else if x 20 0 l = -1 then 0 else chP (mgS x y) f (x 19 0 l)) = _
    rw [md_chP x y f]
    rfl
theorem md_ansG (x y : St) (l : Int) (v : Nat) (g : Int) (k : Nat) : ansG (mgS x y) l v g k = ansG x l v g k := rfl
theorem md_vecU (x y : St) (l : Int) (v : Nat) (g : Int) : ∀ k, vecU (mgS x y) l v g k = vecU x l v g k
  | 0 => rfl
  | k + 1 => by
    show vecU (mgS x y) l v g k ||| (clipF (ansG (mgS x y) l v g k / 2 ^ (x 18 0 l).toNat)).toNat * 2 ^ (8 * k) = _
    rw [md_vecU x y l v g k]
    rfl
theorem md_runC (x y : St) (g : Int) : ∀ f l v, runC (mgS x y) g f l v = runC x g f l v
  | 0, _, _ => rfl
  | f + 1, l, v => by
    show (if l = -1 then v else runC (mgS x y) g f (x 19 0 l) (vecU (mgS x y) l v g (x 16 0 l).toNat)) = _
    rw [md_vecU, md_runC x y g f]
    rfl
theorem md_pcF (x y : St) : ∀ f l z, pcF (mgS x y) f l z = pcF x f l z
  | 0, _, _ => rfl
  | f + 1, l, z => by
    show (if l = -1 then z else pcF (mgS x y) f (x 19 0 l) (updI z.1 l (pcT x l z), pcT x l z)) = _
    rw [md_pcF x y f]
    rfl
theorem md_pvF (x y : St) (a : Int) : ∀ v, pvF (mgS x y) a v = pvF x a v
  | 0 => rfl
  | v + 1 => by
    show pcF (mgS x y) 6 a ((pvF (mgS x y) a v).1, (pvF (mgS x y) a v).1 a) = _
    rw [md_pvF x y a v, md_pcF]
    rfl
theorem md_kPlace (x y : St) (a t : Int) : kPlace (mgS x y) a t = kPlace x a t := by
  show (if (0 ≤ a ∧ a < x 14 0 0) ∧ 0 ≤ t ∧ t ≤ 5 then (if x 20 0 a = -1 ∧ lonF (mgS x y) t (x 14 0 0).toNat = -1 then 0 else 2) else 1) = _
  rw [md_lonF]
  rfl
theorem md_kRun (x y : St) (a : Int) : kRun (mgS x y) a = kRun x a := by
  show (if 0 ≤ a ∧ a < x 14 0 0 then (if chP (mgS x y) 6 a = 1 then 0 else 2) else 1) = _
  rw [md_chP]
  rfl
theorem md_kPipe (x y : St) (a w : Int) : kPipe (mgS x y) a w = kPipe x a w := by
  show (if 0 ≤ a ∧ a < x 14 0 0 then (if 1 ≤ w ∧ w ≤ 1000 then (if chP (mgS x y) 6 a = 1 then 0 else 3) else 2) else 1) = _
  rw [md_chP]
  rfl
theorem md_aRun (x y : St) (a : Int) (v : Nat) : aRun (mgS x y) a v = aRun x a v := by
  unfold aRun
  rw [md_kRun, md_runC]
theorem md_aRunI (x y : St) (a : Int) (v : Nat) : aRunI (mgS x y) a v = aRunI x a v := by
  unfold aRunI
  rw [md_runC]
  rfl
theorem md_aTrue (x y : St) (a : Int) : aTrue (mgS x y) a = aTrue x a := by
  show (if kLay x a = 0 ∧ x 20 0 a ≠ -1 then trU (mgS x y) a (16 * (x 15 0 a).toNat) else 0) = _
  rw [md_trU]
  rfl
theorem md_aCyc (x y : St) (a w : Int) : aCyc (mgS x y) a w = aCyc x a w := by
  unfold aCyc
  rw [md_kPipe, mg_ust, md_pvF]
theorem md_kWeight (x y : St) (a i o w : Int) : kWeight (mgS x y) a i o w = kWeight x a i o w := rfl
theorem md_aAns (x y : St) (a o : Int) (v : Nat) : aAns (mgS x y) a o v = aAns x a o v := rfl
theorem md_aIdl (x y : St) (a o : Int) (v : Nat) : aIdl (mgS x y) a o v = aIdl x a o v := rfl
theorem md_aBound (x y : St) (a o u : Int) : aBound (mgS x y) a o u = aBound x a o u := rfl
theorem md_fdV (x y : St) (a t : Int) : fdV (mgS x y) a t = fdV x a t := rfl
theorem md_aCell (x y : St) (t r d w : Int) : aCell (mgS x y) t r d w = aCell x t r d w := rfl
theorem md_aWear (x y : St) (t : Int) : aWear (mgS x y) t = aWear x t := rfl
theorem md_cShare (x y : St) (t : Int) : cShare (mgS x y) t = cShare x t := rfl
theorem fdV_0 (x : St) (v a t : Int) : fdV (ust x 0 0 0 v) a t = fdV x a t := rfl
/-! ===== what the relation doesn't speak of ===== -/
def rXX : List Nat := [0, 22, 23, 24, 34, 35, 36, 37, 38, 70, 71]
theorem RY_fr {x z : St} (h : ∀ (c o : Nat) (i : Int), c ∉ rXX → z c o i = x c o i) (hR : RY x) : RY z := by
  unfold RY at hR ⊢
  have e : ∀ c : Nat, c ∉ rXX → z c = x c := fun c hc => funext fun o => funext fun i => h c o i hc
  rw [e 33 (by decide), e 14 (by decide), e 30 (by decide), e 1 (by decide), e 31 (by decide), e 2 (by decide), e 32 (by decide), e 3 (by decide), e 60 (by decide), e 15 (by decide), e 61 (by decide), e 16 (by decide), e 64 (by decide), e 18 (by decide), e 65 (by decide), e 19 (by decide), e 66 (by decide), e 20 (by decide), e 62 (by decide), e 17 (by decide), e 63 (by decide), e 21 (by decide), e 40 (by decide), e 4 (by decide), e 41 (by decide), e 5 (by decide), e 42 (by decide), e 6 (by decide), e 43 (by decide), e 7 (by decide), e 44 (by decide), e 8 (by decide), e 46 (by decide), e 9 (by decide), e 47 (by decide), e 10 (by decide), e 48 (by decide), e 12 (by decide), e 49 (by decide), e 13 (by decide), e 45 (by decide), e 11 (by decide), e 50 (by decide)]
  exact hR
