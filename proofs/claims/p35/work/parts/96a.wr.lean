/-! ===== writes: what they leave, cell by cell ===== -/
theorem wrL_st {most want : Int} : ∀ (n : Nat) (s w : Int), (wrL most want n s w 1).1 = s ∧ (wrL most want n s w 1).2.2 = 1
  | 0, _, _ => ⟨rfl, rfl⟩
  | n + 1, s, w => by
    unfold wrL
    by_cases h : s = want
    · rw [if_pos h]; exact ⟨rfl, rfl⟩
    · rw [if_neg h, if_pos rfl]; exact wrL_st n s (w + 1)
theorem wrL_k0 {most want : Int} : ∀ (n : Nat) (s w k : Int), 0 ≤ k → 0 ≤ (wrL most want n s w k).2.2
  | 0, _, _, _, h => h
  | n + 1, s, w, k, h => by
    unfold wrL
    by_cases he : s = want
    · rw [if_pos he]; exact h
    · rw [if_neg he]
      by_cases hk : k = 1
      · rw [if_pos hk]; exact wrL_k0 n _ _ _ h
      · rw [if_neg hk]; exact wrL_k0 n _ _ _ (by split <;> decide)
/-- pulses enough from s to want -/
def wrD (s want : Int) : Int := if s < want then want - s else if s = want then 0 else (s - want + 1) / 2 + 1
theorem wrD_s (s want : Int) : (s < want ∧ wrD s want = want - s) ∨ (s = want ∧ wrD s want = 0) ∨ (want < s ∧ wrD s want = (s - want + 1) / 2 + 1) := by
  unfold wrD
  by_cases h : s < want
  · exact Or.inl ⟨h, if_pos h⟩
  · rw [if_neg h]
    by_cases h2 : s = want
    · exact Or.inr (Or.inl ⟨h2, if_pos h2⟩)
    · exact Or.inr (Or.inr ⟨by omega, if_neg h2⟩)
theorem wrL_hit {most want : Int} (hw : 0 ≤ want) : ∀ (n : Nat) (s w k : Int), 0 ≤ s → wrD s want ≤ (n : Int) → (wrL most want n s w k).1 = want ∨ (wrL most want n s w k).2.2 = 1
  | 0, s, w, k, hs, hd => by
    have h := wrD_s s want
    left
    show s = want
    omega
  | n + 1, s, w, k, hs, hd => by
    have h := wrD_s s want
    unfold wrL
    by_cases he : s = want
    · rw [if_pos he]; exact Or.inl he
    · rw [if_neg he]
      by_cases hk : k = 1
      · rw [if_pos hk, hk]; exact Or.inr (wrL_st n s (w + 1)).2
      · rw [if_neg hk]
        by_cases hl : s < want
        · rw [if_pos hl]
          have h2 := wrD_s (s + 1) want
          exact wrL_hit hw n _ _ _ (by omega) (by omega)
        · rw [if_neg hl]
          have h2 := wrD_s (max 0 (s - 2)) want
          exact wrL_hit hw n _ _ _ (by omega) (by omega)
theorem wrD_r {s want : Int} (hs : 0 ≤ s ∧ s ≤ 15) (hw : 0 ≤ want ∧ want ≤ 15) : wrD s want ≤ 16 := by
  have h := wrD_s s want
  omega
def wS (st : St) (o : Nat) (i want : Int) : Int := (wrL (st 32 0 0) want 16 (if st 43 o i = 1 then st 40 o i else conC st o i) (st 41 o i) (st 43 o i)).1
def wK (st : St) (o : Nat) (i want : Int) : Int := (wrL (st 32 0 0) want 16 (if st 43 o i = 1 then st 40 o i else conC st o i) (st 41 o i) (st 43 o i)).2.2
theorem wrC_40 (st : St) (o : Nat) (i want : Int) : wrC st o i want 40 o i = wS st o i want := setG_r0 _ _ _ _ _ _ _ _ _
theorem wrC_42 (st : St) (o : Nat) (i want : Int) : wrC st o i want 42 o i = if st 43 o i = 1 then st 42 o i else st 30 0 0 := setG_r2 40 _ _ _ _ _ _ _ _
theorem wrC_43 (st : St) (o : Nat) (i want : Int) : wrC st o i want 43 o i = wK st o i want := setG_r3 40 _ _ _ _ _ _ _ _
theorem wrC_44 (st : St) (o : Nat) (i want : Int) : wrC st o i want 44 o i = if st 44 o i = 1 ∨ wS st o i want ≠ want then 1 else 0 := setG_r4 40 _ _ _ _ _ _ _ _
theorem wrC_o {st : St} {o : Nat} {i want : Int} {c o' : Nat} {i' : Int} (h : ¬ (o' = o ∧ i' = i)) : wrC st o i want c o' i' = st c o' i' := by
  unfold wrC
  exact setG_o h
theorem wS_k {st : St} {o : Nat} {i : Int} (want : Int) (h : st 43 o i = 1) : wS st o i want = st 40 o i ∧ wK st o i want = 1 := by
  unfold wS wK
  rw [if_pos h, h]
  exact wrL_st _ _ _
theorem wS_cg {x y : St} {o : Nat} {i : Int} (h30 : x 30 0 0 = y 30 0 0) (h31 : x 31 0 0 = y 31 0 0) (h32 : x 32 0 0 = y 32 0 0) (hc : ∀ c, x c o i = y c o i) (want : Int) : wS x o i want = wS y o i want ∧ wK x o i want = wK y o i want := by
  unfold wS wK conC
  rw [h30, h31, h32, hc 40, hc 41, hc 42, hc 43]
  exact ⟨rfl, rfl⟩
theorem wrC_cg {x y : St} {o : Nat} {i : Int} (h30 : x 30 0 0 = y 30 0 0) (h31 : x 31 0 0 = y 31 0 0) (h32 : x 32 0 0 = y 32 0 0) (hc : ∀ c, x c o i = y c o i) (want : Int) (c : Nat) : wrC x o i want c o i = wrC y o i want c o i := by
  unfold wrC
  rw [h30, h31, h32, hc 40, hc 41, hc 42, hc 43, hc 44]
  unfold setG
  simp only [and_self, if_true, hc c]
theorem rwC_out (o : Nat) (c w : Nat → Int) (st : St) : ∀ (n : Nat) {c' o' : Nat} {i : Int} (_ : ∀ j, j < n → ¬ (o' = o ∧ i = c j)), (rwC o c w n st).1 c' o' i = st c' o' i
  | 0, _, _, _, _ => rfl
  | n + 1, _, _, _, h => by
    rw [rwC_s1, wrC_o (h n (Nat.lt_succ_self n))]
    exact rwC_out o c w st n (fun j hj => h j (by omega))
theorem rwC_own (o : Nat) (c w : Nat → Int) (st : St) {n : Nat} (hd : ∀ i j, i < j → j < n + 1 → c i ≠ c j) (c' : Nat) : wrC (rwC o c w n st).1 o (c n) (w n) c' o (c n) = wrC st o (c n) (w n) c' o (c n) := by
  refine wrC_cg (rwC_c o c w st n (by decide) 0) (rwC_c o c w st n (by decide) 0) (rwC_c o c w st n (by decide) 0) (fun c2 => rwC_out o c w st n (fun j hj z => hd j n hj (Nat.lt_succ_self n) z.2.symm)) _ _
theorem rwC_at (o : Nat) (c w : Nat → Int) (st : St) : ∀ (n : Nat) (_ : ∀ i j, i < j → j < n → c i ≠ c j) (j : Nat) (_ : j < n) (c' : Nat), (rwC o c w n st).1 c' o (c j) = wrC st o (c j) (w j) c' o (c j)
  | 0, _, j, hj, _ => absurd hj (Nat.not_lt_zero j)
  | n + 1, hd, j, hj, c' => by
    rw [rwC_s1]
    by_cases h : j = n
    · subst h
      exact rwC_own o c w st hd c'
    · rw [wrC_o (fun z => hd j n (by omega) (Nat.lt_succ_self n) z.2)]
      exact rwC_at o c w st n (fun a b h1 h2 => hd a b h1 (by omega)) j (by omega) c'
theorem rwC_sum (o : Nat) (c w : Nat → Int) (st : St) : ∀ (n : Nat) (_ : ∀ i j, i < j → j < n → c i ≠ c j), (rwC o c w n st).2 = sumN (fun j => if wS st o (c j) (w j) = w j then 0 else 1) n
  | 0, _ => rfl
  | n + 1, hd => by
    rw [rwC_s2, sumN_s, rwC_sum o c w st n (fun a b h1 h2 => hd a b h1 (by omega))]
    congr 1
    unfold wrCf
    rw [rwC_own o c w st hd 40, wrC_40]
theorem sumN_z {f : Nat → Int} (h : ∀ c, 0 ≤ f c) : ∀ n, 0 ≤ sumN f n ∧ (sumN f n = 0 → ∀ c, c < n → f c = 0)
  | 0 => ⟨Int.le_refl 0, fun _ c hc => absurd hc (Nat.not_lt_zero c)⟩
  | n + 1 => by
    have ih := sumN_z h n
    have h1 := h n
    rw [sumN_s]
    refine ⟨by omega, fun h0 c hc => ?_⟩
    by_cases he : c = n
    · subst he; omega
    · exact ih.2 (by omega) c (by omega)
theorem sumN_0 {f : Nat → Int} : ∀ n, (∀ c, c < n → f c = 0) → sumN f n = 0
  | 0, _ => rfl
  | n + 1, h => by
    rw [sumN_s, sumN_0 n (fun c hc => h c (by omega)), h n (Nat.lt_succ_self n)]
    rfl
theorem sumN_le {f g : Nat → Int} : ∀ n, (∀ c, c < n → f c ≤ g c) → sumN f n ≤ sumN g n
  | 0, _ => Int.le_refl _
  | n + 1, h => by
    have h1 := sumN_le n (fun c hc => h c (by omega))
    have h2 := h n (Nat.lt_succ_self n)
    rw [sumN_s, sumN_s]
    omega
/-! ===== a layer's cells are apart ===== -/
def rowsD (st : St) (q : Nat) : Prop := ∀ i j : Nat, i < j → (j : Int) < st 60 q 0 → st 63 q (i : Int) ≠ st 63 q (j : Int)
theorem lcC_d {st : St} {q : Nat} (hr : rowsD st q) (ho : 1 ≤ st 61 q 0 ∧ st 61 q 0 ≤ 4) : ∀ i j, i < j → j < 4 * (st 61 q 0).toNat * (st 60 q 0).toNat → lcC st q i ≠ lcC st q j := by
  intro i j hij hj
  unfold lcC
  obtain ⟨m, hm⟩ : ∃ m, m = 4 * (st 61 q 0).toNat := ⟨_, rfl⟩
  rw [← hm] at hj ⊢
  have hm1 : 0 < m ∧ m ≤ 16 := by omega
  have b1 := Nat.div_add_mod i m
  have b2 := Nat.div_add_mod j m
  have b3 := Nat.mod_lt i hm1.1
  have b4 := Nat.mod_lt j hm1.1
  have b5 : i / m ≤ j / m := Nat.div_le_div_right (by omega)
  have b6 : j / m < (st 60 q 0).toNat := by
    rw [Nat.div_lt_iff_lt_mul hm1.1, Nat.mul_comm]
    exact hj
  generalize i / m = ia at b1 b5 ⊢
  generalize j / m = ja at b2 b5 b6 ⊢
  generalize i % m = ic at b1 b3 ⊢
  generalize j % m = jc at b2 b4 ⊢
  intro he
  by_cases hab : ia = ja
  · rw [hab] at he b1
    omega
  · have := hr ia ja (by omega) (by omega)
    omega
/-! ===== a layer loaded is true if no write failed ===== -/
theorem okC_1 {st : St} {q o i c : Nat} : okC st q o i c = 1 ↔ conC st o (16 * st 63 q (i : Int) + (c : Int)) = needC st q (i : Int) (c : Int) := by
  unfold okC
  split
  · rename_i h; exact ⟨fun _ => h, fun _ => rfl⟩
  · rename_i h; exact ⟨fun z => absurd z (by decide), fun z => absurd z h⟩
theorem rowK_1 {st : St} {q o i : Nat} : ∀ n, rowK st q o i n = 1 ↔ ∀ c, c < n → okC st q o i c = 1
  | 0 => ⟨fun _ c hc => absurd hc (Nat.not_lt_zero c), fun _ => rfl⟩
  | n + 1 => by
    have ih := rowK_1 (st := st) (q := q) (o := o) (i := i) n
    rw [rowK_s]
    constructor
    · intro h c hc
      by_cases h0 : rowK st q o i n = 0
      · rw [if_pos h0] at h; exact absurd h (by decide)
      · rw [if_neg h0] at h
        by_cases he : c = n
        · rw [he]; exact h
        · refine ih.mp ?_ c (by omega)
          rcases rowK_r st q o i n with z | z
          · exact absurd z h0
          · exact z
    · intro h
      rw [ih.mpr (fun c hc => h c (by omega)), if_neg (by decide)]
      exact h n (Nat.lt_succ_self n)
theorem allK_1 {st : St} {q o : Nat} : ∀ n, allK st q o n = 1 ↔ ∀ i c, i < n → c < (4 * st 61 q 0).toNat → conC st o (16 * st 63 q (i : Int) + (c : Int)) = needC st q (i : Int) (c : Int)
  | 0 => ⟨fun _ i c hi => absurd hi (Nat.not_lt_zero i), fun _ => rfl⟩
  | n + 1 => by
    have ih := allK_1 (st := st) (q := q) (o := o) n
    rw [allK_s]
    constructor
    · intro h i c hi hc
      by_cases h0 : allK st q o n = 0
      · rw [if_pos h0] at h; exact absurd h (by decide)
      · rw [if_neg h0] at h
        by_cases he : i = n
        · rw [he]; exact okC_1.mp ((rowK_1 _).mp h c hc)
        · refine ih.mp ?_ i c (by omega) hc
          rcases allK_r st q o n with z | z
          · exact absurd z h0
          · exact z
    · intro h
      rw [ih.mpr (fun i c hi hc => h i c (by omega) hc), if_neg (by decide)]
      exact (rowK_1 _).mpr (fun c hc => okC_1.mpr (h n c (Nat.lt_succ_self n) hc))
theorem con_wr {wb : Int} {st : St} {o : Nat} {i want : Int} (h0 : 0 ≤ wS st o i want) : conV (st 30 0 0) (st 31 0 0) (wS st o i want) (if st 43 o i = 1 then st 42 o i else st 30 0 0) (wK st o i want) = wS st o i want := by
  unfold conV
  by_cases hk : st 43 o i = 1
  · rw [(wS_k want hk).2, if_pos (Or.inr rfl)]
  · rw [if_neg hk]
    split
    · rfl
    · rw [Int.sub_self, Int.zero_ediv]
      omega
theorem ld_con {wb : Int} {st : St} {q o : Nat} (hr : rowsD st q) (ho : 1 ≤ st 61 q 0 ∧ st 61 q 0 ≤ 4) (hI : GI wb (ldCS st q o)) {i c : Nat} (hi : i < (st 60 q 0).toNat) (hc : c < (4 * st 61 q 0).toNat) : conC (ldCS st q o) o (16 * st 63 q (i : Int) + (c : Int)) = wS st o (16 * st 63 q (i : Int) + (c : Int)) (needC st q (i : Int) (c : Int)) ∧ ldCS st q o 40 o (16 * st 63 q (i : Int) + (c : Int)) = wS st o (16 * st 63 q (i : Int) + (c : Int)) (needC st q (i : Int) (c : Int)) ∧ ldCS st q o 44 o (16 * st 63 q (i : Int) + (c : Int)) = (if st 44 o (16 * st 63 q (i : Int) + (c : Int)) = 1 ∨ wS st o (16 * st 63 q (i : Int) + (c : Int)) (needC st q (i : Int) (c : Int)) ≠ needC st q (i : Int) (c : Int) then 1 else 0) := by
  obtain ⟨m, hm⟩ : ∃ m, m = 4 * (st 61 q 0).toNat := ⟨_, rfl⟩
  have hcm : c < m := by omega
  have e1 : lcC st q (m * i + c) = 16 * st 63 q (i : Int) + (c : Int) := lcC_e (by rw [hm]) (by omega)
  have e2 : lwC st q (m * i + c) = needC st q (i : Int) (c : Int) := lwC_e (by rw [hm]) (by omega)
  have hj : m * i + c < 4 * (st 61 q 0).toNat * (st 60 q 0).toNat := by
    rw [← hm]
    have h1 : m * (i + 1) ≤ m * (st 60 q 0).toNat := Nat.mul_le_mul_left m (by omega)
    rw [Nat.mul_add] at h1
    omega
  have hat := rwC_at o (lcC st q) (lwC st q) st _ (lcC_d hr ho) (m * i + c) hj
  rw [e1, e2] at hat
  have h40 : ldCS st q o 40 o (16 * st 63 q (i : Int) + (c : Int)) = wS st o (16 * st 63 q (i : Int) + (c : Int)) (needC st q (i : Int) (c : Int)) := (hat 40).trans (wrC_40 _ _ _ _)
  have h42 : ldCS st q o 42 o (16 * st 63 q (i : Int) + (c : Int)) = _ := (hat 42).trans (wrC_42 _ _ _ _)
  have h43 : ldCS st q o 43 o (16 * st 63 q (i : Int) + (c : Int)) = _ := (hat 43).trans (wrC_43 _ _ _ _)
  have h44 : ldCS st q o 44 o (16 * st 63 q (i : Int) + (c : Int)) = _ := (hat 44).trans (wrC_44 _ _ _ _)
  have h30 : ldCS st q o 30 0 0 = st 30 0 0 := rwC_c o _ _ st _ (by decide) 0
  have h31 : ldCS st q o 31 0 0 = st 31 0 0 := rwC_c o _ _ st _ (by decide) 0
  have hz := (gI_40 hI o (16 * st 63 q (i : Int) + (c : Int))).1
  rw [h40] at hz
  refine ⟨?_, h40, h44⟩
  unfold conC
  rw [h30, h31, h40, h42, h43]
  exact con_wr (wb := wb) hz
theorem ld_c (st : St) (q o : Nat) {c o' : Nat} (i : Int) (h : c < 40 ∨ 44 < c) : ldCS st q o c o' i = st c o' i := rwC_c o _ _ st _ h i
theorem ld_need (st : St) (q o : Nat) (i d : Int) : needC (ldCS st q o) q i d = needC st q i d := by
  unfold needC
  rw [ld_c st q o _ (by decide)]
theorem ld_true {wb : Int} {st : St} {q o : Nat} (hr : rowsD st q) (ho : 1 ≤ st 61 q 0 ∧ st 61 q 0 ≤ 4) (hI : GI wb (ldCS st q o)) : allK (ldCS st q o) q o (st 60 q 0).toNat = 1 ↔ ldCF st q o = 0 := by
  have hs : ldCF st q o = sumN (fun j => if wS st o (lcC st q j) (lwC st q j) = lwC st q j then 0 else 1) (4 * (st 61 q 0).toNat * (st 60 q 0).toNat) := rwC_sum o _ _ st _ (lcC_d hr ho)
  have hz := sumN_z (f := fun j => if wS st o (lcC st q j) (lwC st q j) = lwC st q j then (0 : Int) else 1) (fun j => by split <;> decide) (4 * (st 61 q 0).toNat * (st 60 q 0).toNat)
  have h61 : ldCS st q o 61 q 0 = st 61 q 0 := ld_c st q o 0 (by decide)
  rw [allK_1, hs, h61]
  constructor
  · intro h
    refine sumN_0 _ (fun j hj => ?_)
    have hm1 : 0 < 4 * (st 61 q 0).toNat := by omega
    have b1 : j / (4 * (st 61 q 0).toNat) < (st 60 q 0).toNat := by
      rw [Nat.div_lt_iff_lt_mul hm1, Nat.mul_comm]
      exact hj
    have b2 := Nat.mod_lt j hm1
    have h1 := h (j / (4 * (st 61 q 0).toNat)) (j % (4 * (st 61 q 0).toNat)) b1 (by omega)
    rw [ld_c st q o _ (show 63 < 40 ∨ 44 < 63 by decide), (ld_con hr ho hI b1 (by omega)).1, ld_need] at h1
    show (if wS st o (lcC st q j) (lwC st q j) = lwC st q j then (0 : Int) else 1) = 0
    unfold lcC lwC
    rw [if_pos h1]
  · intro h i c hi hc
    rw [ld_c st q o _ (show 63 < 40 ∨ 44 < 63 by decide), (ld_con hr ho hI hi hc).1, ld_need]
    obtain ⟨m, hm⟩ : ∃ m, m = 4 * (st 61 q 0).toNat := ⟨_, rfl⟩
    have e1 : lcC st q (m * i + c) = 16 * st 63 q (i : Int) + (c : Int) := lcC_e (by rw [hm]) (by omega)
    have e2 : lwC st q (m * i + c) = needC st q (i : Int) (c : Int) := lwC_e (by rw [hm]) (by omega)
    have hj : m * i + c < 4 * (st 61 q 0).toNat * (st 60 q 0).toNat := by
      rw [← hm]
      have h1 : m * (i + 1) ≤ m * (st 60 q 0).toNat := Nat.mul_le_mul_left m (by omega)
      rw [Nat.mul_add] at h1
      omega
    have h2 : (if wS st o (lcC st q (m * i + c)) (lwC st q (m * i + c)) = lwC st q (m * i + c) then (0 : Int) else 1) = 0 := hz.2 h (m * i + c) hj
    rw [e1, e2] at h2
    by_cases hw : wS st o (16 * st 63 q (i : Int) + (c : Int)) (needC st q (i : Int) (c : Int)) = needC st q (i : Int) (c : Int)
    · exact hw
    · rw [if_neg hw] at h2
      exact absurd h2 (by decide)
/-- known cells stay stuck -/
theorem wr_ks {wb : Int} {st : St} {o : Nat} {i want : Int} (hI : GI wb st) (hs : st 42 o i ≤ st 30 0 0) (hw : 0 ≤ want ∧ want ≤ 15) (h : st 44 o i ≤ st 43 o i) : wrC st o i want 44 o i ≤ wrC st o i want 43 o i := by
  rw [wrC_44, wrC_43]
  have a43 := gI_43 hI o i
  have a44 := gI_44 hI o i
  by_cases hk : st 43 o i = 1
  · rw [(wS_k want hk).2]
    split <;> omega
  · have hn : ¬ st 44 o i = 1 := by omega
    have hc := conC_r hI o i hs
    have hh := wrL_hit (most := st 32 0 0) hw.1 16 (conC st o i) (st 41 o i) (st 43 o i) hc.1 (wrD_r hc hw)
    have e1 : wS st o i want = (wrL (st 32 0 0) want 16 (conC st o i) (st 41 o i) (st 43 o i)).1 := by unfold wS; rw [if_neg hk]
    have e2 : wK st o i want = (wrL (st 32 0 0) want 16 (conC st o i) (st 41 o i) (st 43 o i)).2.2 := by unfold wK; rw [if_neg hk]
    rw [← e1, ← e2] at hh
    have hz : 0 ≤ wK st o i want := by
      rw [e2]
      exact wrL_k0 16 _ _ _ a43.1
    by_cases hq : wS st o i want = want
    · rw [if_neg (fun z => z.elim hn (fun y => y hq))]
      exact hz
    · rw [if_pos (Or.inr hq)]
      rcases hh with z | z
      · exact absurd z hq
      · omega
