/-! ===== what the law's run keeps ===== -/
def rYY : List Nat := [0, 22, 23, 24, 34, 35, 36, 37, 38, 70, 71, 80, 81, 82, 83]
theorem RY_fr {x z : St} (h : ∀ (c o : Nat) (i : Int), c ∉ rYY → z c o i = x c o i) (hR : RY x) : RY z := by
  unfold RY at hR ⊢
  have e : ∀ c : Nat, c ∉ rYY → z c = x c := fun c hc => funext fun o => funext fun i => h c o i hc
  rw [e 33 (by decide), e 14 (by decide), e 30 (by decide), e 1 (by decide), e 31 (by decide), e 2 (by decide), e 32 (by decide), e 3 (by decide), e 60 (by decide), e 15 (by decide), e 61 (by decide), e 16 (by decide), e 64 (by decide), e 18 (by decide), e 65 (by decide), e 19 (by decide), e 66 (by decide), e 20 (by decide), e 62 (by decide), e 17 (by decide), e 63 (by decide), e 21 (by decide), e 40 (by decide), e 4 (by decide), e 41 (by decide), e 5 (by decide), e 42 (by decide), e 6 (by decide), e 43 (by decide), e 7 (by decide), e 44 (by decide), e 8 (by decide), e 46 (by decide), e 9 (by decide), e 47 (by decide), e 10 (by decide), e 48 (by decide), e 12 (by decide), e 49 (by decide), e 13 (by decide), e 45 (by decide), e 11 (by decide), e 50 (by decide)]
  exact hR
/-- layers, tiles, and the law's own rows -/
def PA (st : St) : Prop :=
  (st 33 0 0 = 2 ∧ st 60 0 0 ≤ 4)
  ∧ (st 80 0 0 = st 60 0 0 ∧ st 80 0 1 = st 60 1 0 ∧ st 81 0 0 = st 61 0 0 ∧ st 81 0 1 = st 61 1 0)
  ∧ (st 82 0 0 = st 66 0 0 ∧ st 82 0 1 = st 66 1 0 ∧ (0 ≤ st 66 0 0 ∧ st 66 0 0 ≤ 3) ∧ (0 ≤ st 66 1 0 ∧ st 66 1 0 ≤ 3) ∧ st 66 0 0 ≠ st 66 1 0)
  ∧ (∀ (q : Nat) (j : Int), q < 2 → 0 ≤ j ∧ j < 32 → st 83 0 (32 * (q : Int) + j) = st 62 q j)
  ∧ (∀ q i j : Nat, q < 2 → i < j → (j : Int) < st 60 q 0 → st 63 q (i : Int) ≠ st 63 q (j : Int))
  ∧ (st 65 0 0 = 1 ∧ st 65 1 0 = -1)
  ∧ (∀ t : Nat, t < 6 → (st 50 t 0 = 1 ∧ (st 66 0 0 = (t : Int) ∨ st 66 1 0 = (t : Int))) ∨ (st 50 t 0 = 0 ∧ st 66 0 0 ≠ (t : Int) ∧ st 66 1 0 ≠ (t : Int)))
  ∧ (∀ q : Nat, 2 ≤ q → q < 6 → (∀ j : Int, 0 ≤ j ∧ j < 32 → st 62 q j = 0) ∧ st 64 q 0 = 0 ∧ ∀ j : Int, 0 ≤ j ∧ j < 8 → st 63 q j = 0)
/-- cells -/
def PC (st : St) : Prop := (∀ (t : Nat) (i : Int), st 44 t i ≤ st 43 t i) ∧ ∀ (o : Nat) (j : Int), st 42 o j ≤ st 30 0 0
def pAA : List Nat := [33, 50, 60, 61, 62, 63, 64, 65, 66, 80, 81, 82, 83]
theorem PA_fr {x z : St} (h : ∀ (c o : Nat) (i : Int), c ∈ pAA → z c o i = x c o i) (hA : PA x) : PA z := by
  unfold PA at hA ⊢
  have e : ∀ c : Nat, c ∈ pAA → z c = x c := fun c hc => funext fun o => funext fun i => h c o i hc
  rw [e 33 (by decide), e 50 (by decide), e 60 (by decide), e 61 (by decide), e 62 (by decide), e 63 (by decide), e 64 (by decide), e 65 (by decide), e 66 (by decide), e 80 (by decide), e 81 (by decide), e 82 (by decide), e 83 (by decide)]
  exact hA
def pCC : List Nat := [30, 42, 43, 44]
theorem PC_fr {x z : St} (h : ∀ (c o : Nat) (i : Int), c ∈ pCC → z c o i = x c o i) (hC : PC x) : PC z := by
  unfold PC at hC ⊢
  have e : ∀ c : Nat, c ∈ pCC → z c = x c := fun c hc => funext fun o => funext fun i => h c o i hc
  rw [e 30 (by decide), e 42 (by decide), e 43 (by decide), e 44 (by decide)]
  exact hC
theorem PA_rows {st : St} (h : PA st) {q : Nat} (hq : q < 2) : rowsD st q := fun i j h1 h2 => h.2.2.2.2.1 q i j hq h1 h2
theorem CI_of {st : St} (hA : PA st) (hC : PC st) : CI st := by
  obtain ⟨⟨h33, -⟩, -, ⟨-, -, t0, t1, tn⟩, -, -, ⟨n0, n1⟩, ht, hf⟩ := hA
  refine ⟨fun t ht6 => ?_, hC.2, fun q hq => ?_, fun q1 q2 h1 h2 _ he => ?_, fun q hq h6 => hf q (by omega) h6⟩
  · rcases ht t ht6 with ⟨a, b⟩ | ⟨a, b, c⟩
    · refine Or.inl ⟨a, ?_⟩
      rcases b with b | b
      · exact ⟨0, by omega, b⟩
      · exact ⟨1, by omega, b⟩
    · refine Or.inr ⟨a, fun q hq => ?_⟩
      have hq2 : q = 0 ∨ q = 1 := by omega
      rcases hq2 with rfl | rfl
      · exact b
      · exact c
  · have hq2 : q = 0 ∨ q = 1 := by omega
    rcases hq2 with rfl | rfl
    · right; omega
    · left; exact n1
  · have a1 : q1 = 0 ∨ q1 = 1 := by omega
    have a2 : q2 = 0 ∨ q2 = 1 := by omega
    rcases a1 with rfl | rfl <;> rcases a2 with rfl | rfl
    · rfl
    · exact absurd he tn
    · exact absurd he.symm tn
    · rfl
def JS (wb : Int) (st : St) : Prop := GI wb st ∧ RY st ∧ PA st ∧ PC st
theorem pAA_25 : ∀ c ∈ pAA, 25 ≤ c := by decide
theorem pCC_25 : ∀ c ∈ pCC, 25 ≤ c := by decide
theorem JS_gh {wb : Int} {st : St} (hI : GI wb st) (hA : PA st) (hC : PC st) : JS wb (gh st) := ⟨GI_gh hI, RY_gh (CI_of hA hC) (by rw [hA.1.1]; decide), PA_fr (fun c o i hc => gh_c st (pAA_25 c hc)) hA, PC_fr (fun c o i hc => gh_c st (pCC_25 c hc)) hC⟩
/-- a change of what is only worked with -/
theorem JS_fr {wb wb' : Int} {x z : St} (h : ∀ (c o : Nat) (i : Int), (c < 34 ∨ 38 < c) → z c o i = x c o i) (hJ : JS wb x) (hI : GI wb' z) : JS wb' z := ⟨hI, RY_fr (fun c o i hc => h c o i (by
  simp only [rYY, List.mem_cons, List.not_mem_nil, or_false, not_or] at hc
  omega)) hJ.2.1, PA_fr (fun c o i hc => h c o i (by
  simp only [pAA, List.mem_cons, List.not_mem_nil, or_false] at hc
  omega)) hJ.2.2.1, PC_fr (fun c o i hc => h c o i (by
  simp only [pCC, List.mem_cons, List.not_mem_nil, or_false] at hc
  omega)) hJ.2.2.2⟩
theorem PC_ld {wb : Int} {st : St} {q o : Nat} (hr : rowsD st q) (ho : 1 ≤ st 61 q 0 ∧ st 61 q 0 ≤ 4) (hI : GI wb st) (hC : PC st) : PC (ldCS st q o) := by
  refine ⟨fun t i => ?_, fun t i => ?_⟩
  · have hs := hC.1 t i
    by_cases hj : ∃ j, j < 4 * (st 61 q 0).toNat * (st 60 q 0).toNat ∧ t = o ∧ i = lcC st q j
    · obtain ⟨j, hj1, rfl, rfl⟩ := hj
      have hat := rwC_at t (lcC st q) (lwC st q) st _ (lcC_d hr ho) j hj1
      have e44 : ldCS st q t 44 t (lcC st q j) = _ := hat 44
      have e43 : ldCS st q t 43 t (lcC st q j) = _ := hat 43
      rw [e44, e43]
      exact wr_ks hI (hC.2 t _) (needC_r hI q _ _) hs
    · have hout : ∀ c', ldCS st q o c' t i = st c' t i := fun c' => rwC_out o _ _ st _ (fun j hj2 z => hj ⟨j, hj2, z.1, z.2⟩)
      rw [hout 44, hout 43]
      exact hs
  · rw [ld_c st q o 0 (show 30 < 40 ∨ 44 < 30 by decide)]
    exact rwC_since hC.2 _ t i
theorem PA_ld {st : St} (q o : Nat) (hA : PA st) : PA (ldCS st q o) := PA_fr (fun c o' i hc => ld_c st q o i (by
  simp only [pAA, List.mem_cons, List.not_mem_nil, or_false] at hc
  omega)) hA
theorem bsC_c (st : St) (o : Nat) (i v : Int) {c o' : Nat} {i' : Int} (h : c ≠ 40 ∧ c ≠ 43) : bsC st o i v c o' i' = st c o' i' := by
  unfold bsC
  split
  · rfl
  · rw [ust_c h.1, ust_c h.2]
theorem PA_bs {st : St} (o : Nat) (i v : Int) (hA : PA st) : PA (bsC st o i v) := PA_fr (fun c o' i' hc => bsC_c st o i v (by
  simp only [pAA, List.mem_cons, List.not_mem_nil, or_false] at hc
  omega)) hA
theorem bsC_43 {wb : Int} {st : St} (hI : GI wb st) (o : Nat) (i v : Int) (t : Nat) (j : Int) : st 43 t j ≤ bsC st o i v 43 t j := by
  have h := gI_43 hI t j
  unfold bsC
  split
  · exact Int.le_refl _
  · rw [ust_c (by decide)]
    unfold ust
    rw [if_pos rfl]
    split
    · split
      · exact h.2
      · exact Int.le_refl _
    · exact Int.le_refl _
theorem PC_bs {wb : Int} {st : St} (hI : GI wb st) (o : Nat) (i v : Int) (hC : PC st) : PC (bsC st o i v) := ⟨fun t j => by
  rw [bsC_c st o i v (by decide)]
  exact Int.le_trans (hC.1 t j) (bsC_43 hI o i v t j), fun t j => by
  rw [bsC_c st o i v (by decide), bsC_c st o i v (by decide)]
  exact hC.2 t j⟩
theorem GI_bs {wb : Int} {st : St} (hI : GI wb st) (o : Nat) (i : Int) {v : Int} (hv : 0 ≤ v ∧ v ≤ 15) : GI wb (bsC st o i v) := by
  unfold bsC
  split
  · exact hI
  · exact gIu_40 (gIu_43 hI o i ⟨by decide, by decide⟩) o i hv
theorem J_csp {wb : Int} {st : St} {t : Nat} {x : Int} (hI : GI wb st) (hA : PA st) (hC : PC st) : ∀ n, GI wb (cspI t (st, 0, x) n).1 ∧ PA (cspI t (st, 0, x) n).1 ∧ PC (cspI t (st, 0, x) n).1
  | 0 => ⟨hI, hA, hC⟩
  | n + 1 => by
    obtain ⟨a, b, c⟩ := J_csp (t := t) (x := x) hI hA hC n
    rw [cspI_s]
    unfold cspStep
    exact ⟨GI_bs a _ _ (by have := drF_r (drF (cspI t (st, 0, x) n).2.2); omega), PA_bs _ _ _ b, PC_bs a _ _ _ c⟩
/-! ===== the share of stuck cells ===== -/
def shC (st : St) (t : Nat) : Nat → Int := sumN (fun k => st 43 t (k : Int))
theorem RY_sh {st : St} (h : RY st) {t : Nat} (ht : t < 6) {n : Nat} (hn : n ≤ 128) : shU st (t : Int) n = shC st t n := by
  unfold shU shC
  exact (sumN_e n (fun k hk => (h.2.2.2.2.1 t (k : Int) ht (by omega)).2.2.2.1)).symm
theorem sumN_u {f : Nat → Int} {i : Nat} {d : Int} : ∀ n, sumN (fun k => if k = i then f k + d else f k) n = sumN f n + (if i < n then d else 0)
  | 0 => by
    rw [if_neg (Nat.not_lt_zero i)]
    rfl
  | n + 1 => by
    rw [sumN_s, sumN_s, sumN_u n]
    by_cases h : n = i
    · subst h
      rw [if_pos rfl, if_neg (Nat.lt_irrefl n), if_pos (Nat.lt_succ_self n)]
      omega
    · rw [if_neg h]
      by_cases h2 : i < n
      · rw [if_pos h2, if_pos (by omega)]
        omega
      · rw [if_neg h2, if_neg (by omega)]
        omega
theorem shC_bs {wb : Int} {st : St} (hI : GI wb st) {t : Nat} {i : Int} (v : Int) (hi : 0 ≤ i ∧ i < 128) : shC (bsC st t i v) t 128 = shC st t 128 + (1 - st 43 t i) := by
  have h43 := gI_43 hI t i
  by_cases hk : st 43 t i = 1
  · unfold bsC
    rw [if_pos hk, hk]
    omega
  · have h0 : st 43 t i = 0 := by omega
    have e : shC (bsC st t i v) t 128 = sumN (fun k => if k = i.toNat then st 43 t (k : Int) + 1 else st 43 t (k : Int)) 128 := by
      unfold shC
      refine sumN_e 128 (fun k _ => ?_)
      unfold bsC
      rw [if_neg hk, ust_c (by decide), ust_if]
      by_cases he : (k : Int) = i
      · rw [if_pos he, if_pos (by omega), he, h0]
        rfl
      · rw [if_neg he, if_neg (by omega)]
    rw [e, sumN_u, if_pos (by omega), h0]
    rfl
theorem shC_csp {wb : Int} {st : St} {t : Nat} {x : Int} (hI : GI wb st) (hA : PA st) (hC : PC st) : ∀ n, shC (cspI t (st, 0, x) n).1 t 128 = shC st t 128 + (cspI t (st, 0, x) n).2.1
  | 0 => (Int.add_zero _).symm
  | n + 1 => by
    have ih := shC_csp (t := t) (x := x) hI hA hC n
    have hg := (J_csp (t := t) (x := x) hI hA hC n).1
    rw [cspI_s]
    unfold cspStep
    show shC (bsC _ _ _ _) t 128 = _ + ((cspI t (st, 0, x) n).2.1 + (1 - (cspI t (st, 0, x) n).1 43 t (drF (cspI t (st, 0, x) n).2.2 % 128)))
    rw [shC_bs hg _ (by omega), ih]
    omega
theorem csp_r {wb : Int} {st : St} {t : Nat} {x : Int} (hI : GI wb st) (hA : PA st) (hC : PC st) : ∀ n, 0 ≤ (cspI t (st, 0, x) n).2.1 ∧ (cspI t (st, 0, x) n).2.1 ≤ (n : Int)
  | 0 => ⟨Int.le_refl 0, Int.le_refl 0⟩
  | n + 1 => by
    have ih := csp_r (t := t) (x := x) hI hA hC n
    have hg := (J_csp (t := t) (x := x) hI hA hC n).1
    have h := gI_43 hg t (drF (cspI t (st, 0, x) n).2.2 % 128)
    rw [cspI_s]
    unfold cspStep
    show 0 ≤ (cspI t (st, 0, x) n).2.1 + (1 - (cspI t (st, 0, x) n).1 43 t (drF (cspI t (st, 0, x) n).2.2 % 128)) ∧ (cspI t (st, 0, x) n).2.1 + (1 - (cspI t (st, 0, x) n).1 43 t (drF (cspI t (st, 0, x) n).2.2 % 128)) ≤ _
    push_cast
    omega
theorem shC_r {wb : Int} {st : St} (hI : GI wb st) (t : Nat) : 0 ≤ shC st t 128 ∧ shC st t 128 ≤ 128 := by
  have h := sumN_r (B := 1) (fun k => gI_43 hI t (k : Int)) 128
  have h2 : shC st t 128 ≤ 1 * ((128 : Nat) : Int) := h.2
  exact ⟨h.1, by omega⟩
theorem fSh_add : ∀ a : Nat, a < 129 → ∀ k : Nat, k < 6 → FP.fadd (FP.fdiv (FP.i2f (iI (a : Int))) 1124073472) (FP.fdiv (FP.i2f (iI (k : Int))) 1124073472) = FP.fdiv (FP.i2f (iI ((a : Int) + (k : Int)))) 1124073472 := by decide +kernel
theorem fSh_cmp : ∀ a : Nat, a < 129 → Op.cmpValue (FP.fcmp (FP.fdiv (FP.i2f (iI (a : Int))) 1124073472) (FP.fdiv (FP.i2f (iI (a : Int))) 1124073472)) .l = 0 := by decide +kernel
