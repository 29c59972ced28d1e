theorem gk_0 {j : Nat} (h : (gk j).1 < 33) : (gk j).2 = 0 := by
  unfold gk at h ⊢
  by_cases h1 : j < 33
  · rw [if_pos h1]
  · rw [if_neg h1] at h
    by_cases h2 : j < 75
    · rw [if_pos h2] at h; have : 33 + (j - 33) % 7 < 33 := h; omega
    · rw [if_neg h2] at h; have : 40 + (j - 75) % 3 < 33 := h; omega
theorem gEU_0 (st : St) (ad : Nat → Nat) (cy : Nat → ClassId) (v : Int) (kd' o' : Nat) : gE (ust st 0 0 0 v) ad cy kd' o' = if kd' = 0 then .inr (6, (gOm st ad).set 0 (.int (iI v))) else gE st ad cy kd' o' := by
  have hc : gcp kd' ≠ 0 := gcp_ns 0 (by decide) (by decide) kd'
  by_cases hk : kd' = 0
  · subst hk
    rw [if_pos rfl]
    simp [gE, gOm, ust]
  · rw [if_neg (fun q => hk q)]
    simp [gE, gOm, gOx, gOs, gOp, gOt, gOl, ust, hk, hc]
theorem gU_0 (st : St) (ad : Nat → Nat) (cy : Nat → ClassId) (v : Int) (j : Nat) : gC (ust st 0 0 0 v) ad cy j = if j = 0 then .inr (6, (gOm st ad).set 0 (.int (iI v))) else gC st ad cy j := by
  unfold gC
  rw [gEU_0]
  by_cases hj : j = 0
  · subst hj; rfl
  · rw [if_neg hj, if_neg (fun q => hj (gk_inj (Prod.ext (q.trans rfl) (gk_0 (by rw [q]; decide)))))]
theorem gEU_1 (st : St) (ad : Nat → Nat) (cy : Nat → ClassId) (v : Int) (kd' o' : Nat) : gE (ust st 1 0 0 v) ad cy kd' o' = if kd' = 0 then .inr (6, (gOm st ad).set 1 (.int (iI v))) else gE st ad cy kd' o' := by
  have hc : gcp kd' ≠ 1 := gcp_ns 1 (by decide) (by decide) kd'
  by_cases hk : kd' = 0
  · subst hk
    rw [if_pos rfl]
    simp [gE, gOm, ust]
  · rw [if_neg (fun q => hk q)]
    simp [gE, gOm, gOx, gOs, gOp, gOt, gOl, ust, hk, hc]
theorem gU_1 (st : St) (ad : Nat → Nat) (cy : Nat → ClassId) (v : Int) (j : Nat) : gC (ust st 1 0 0 v) ad cy j = if j = 0 then .inr (6, (gOm st ad).set 1 (.int (iI v))) else gC st ad cy j := by
  unfold gC
  rw [gEU_1]
  by_cases hj : j = 0
  · subst hj; rfl
  · rw [if_neg hj, if_neg (fun q => hj (gk_inj (Prod.ext (q.trans rfl) (gk_0 (by rw [q]; decide)))))]
theorem gEU_2 (st : St) (ad : Nat → Nat) (cy : Nat → ClassId) (v : Int) (kd' o' : Nat) : gE (ust st 2 0 0 v) ad cy kd' o' = if kd' = 0 then .inr (6, (gOm st ad).set 2 (.int (iI v))) else gE st ad cy kd' o' := by
  have hc : gcp kd' ≠ 2 := gcp_ns 2 (by decide) (by decide) kd'
  by_cases hk : kd' = 0
  · subst hk
    rw [if_pos rfl]
    simp [gE, gOm, ust]
  · rw [if_neg (fun q => hk q)]
    simp [gE, gOm, gOx, gOs, gOp, gOt, gOl, ust, hk, hc]
theorem gU_2 (st : St) (ad : Nat → Nat) (cy : Nat → ClassId) (v : Int) (j : Nat) : gC (ust st 2 0 0 v) ad cy j = if j = 0 then .inr (6, (gOm st ad).set 2 (.int (iI v))) else gC st ad cy j := by
  unfold gC
  rw [gEU_2]
  by_cases hj : j = 0
  · subst hj; rfl
  · rw [if_neg hj, if_neg (fun q => hj (gk_inj (Prod.ext (q.trans rfl) (gk_0 (by rw [q]; decide)))))]
theorem gEU_3 (st : St) (ad : Nat → Nat) (cy : Nat → ClassId) (v : Int) (kd' o' : Nat) : gE (ust st 3 0 0 v) ad cy kd' o' = if kd' = 0 then .inr (6, (gOm st ad).set 3 (.int (iI v))) else gE st ad cy kd' o' := by
  have hc : gcp kd' ≠ 3 := gcp_ns 3 (by decide) (by decide) kd'
  by_cases hk : kd' = 0
  · subst hk
    rw [if_pos rfl]
    simp [gE, gOm, ust]
  · rw [if_neg (fun q => hk q)]
    simp [gE, gOm, gOx, gOs, gOp, gOt, gOl, ust, hk, hc]
theorem gU_3 (st : St) (ad : Nat → Nat) (cy : Nat → ClassId) (v : Int) (j : Nat) : gC (ust st 3 0 0 v) ad cy j = if j = 0 then .inr (6, (gOm st ad).set 3 (.int (iI v))) else gC st ad cy j := by
  unfold gC
  rw [gEU_3]
  by_cases hj : j = 0
  · subst hj; rfl
  · rw [if_neg hj, if_neg (fun q => hj (gk_inj (Prod.ext (q.trans rfl) (gk_0 (by rw [q]; decide)))))]
theorem gEU_14 (st : St) (ad : Nat → Nat) (cy : Nat → ClassId) (v : Int) (kd' o' : Nat) : gE (ust st 14 0 0 v) ad cy kd' o' = if kd' = 0 then .inr (6, (gOm st ad).set 14 (.int (iI v))) else gE st ad cy kd' o' := by
  have hc : gcp kd' ≠ 14 := gcp_ns 14 (by decide) (by decide) kd'
  by_cases hk : kd' = 0
  · subst hk
    rw [if_pos rfl]
    simp [gE, gOm, ust]
  · rw [if_neg (fun q => hk q)]
    simp [gE, gOm, gOx, gOs, gOp, gOt, gOl, ust, hk, hc]
theorem gU_14 (st : St) (ad : Nat → Nat) (cy : Nat → ClassId) (v : Int) (j : Nat) : gC (ust st 14 0 0 v) ad cy j = if j = 0 then .inr (6, (gOm st ad).set 14 (.int (iI v))) else gC st ad cy j := by
  unfold gC
  rw [gEU_14]
  by_cases hj : j = 0
  · subst hj; rfl
  · rw [if_neg hj, if_neg (fun q => hj (gk_inj (Prod.ext (q.trans rfl) (gk_0 (by rw [q]; decide)))))]
theorem gEU_30 (st : St) (ad : Nat → Nat) (cy : Nat → ClassId) (v : Int) (kd' o' : Nat) : gE (ust st 30 0 0 v) ad cy kd' o' = if kd' = 22 then .inr (3, (gOs st).set 0 (.int (iI v))) else gE st ad cy kd' o' := by
  have hc : gcp kd' ≠ 30 := gcp_ns 30 (by decide) (by decide) kd'
  by_cases hk : kd' = 22
  · subst hk
    rw [if_pos rfl]
    simp [gE, gOs, ust]
  · rw [if_neg (fun q => hk q)]
    simp [gE, gOm, gOx, gOs, gOp, gOt, gOl, ust, hk, hc]
theorem gU_30 (st : St) (ad : Nat → Nat) (cy : Nat → ClassId) (v : Int) (j : Nat) : gC (ust st 30 0 0 v) ad cy j = if j = 22 then .inr (3, (gOs st).set 0 (.int (iI v))) else gC st ad cy j := by
  unfold gC
  rw [gEU_30]
  by_cases hj : j = 22
  · subst hj; rfl
  · rw [if_neg hj, if_neg (fun q => hj (gk_inj (Prod.ext (q.trans rfl) (gk_0 (by rw [q]; decide)))))]
theorem gEU_31 (st : St) (ad : Nat → Nat) (cy : Nat → ClassId) (v : Int) (kd' o' : Nat) : gE (ust st 31 0 0 v) ad cy kd' o' = if kd' = 22 then .inr (3, (gOs st).set 1 (.int (iI v))) else gE st ad cy kd' o' := by
  have hc : gcp kd' ≠ 31 := gcp_ns 31 (by decide) (by decide) kd'
  by_cases hk : kd' = 22
  · subst hk
    rw [if_pos rfl]
    simp [gE, gOs, ust]
  · rw [if_neg (fun q => hk q)]
    simp [gE, gOm, gOx, gOs, gOp, gOt, gOl, ust, hk, hc]
theorem gU_31 (st : St) (ad : Nat → Nat) (cy : Nat → ClassId) (v : Int) (j : Nat) : gC (ust st 31 0 0 v) ad cy j = if j = 22 then .inr (3, (gOs st).set 1 (.int (iI v))) else gC st ad cy j := by
  unfold gC
  rw [gEU_31]
  by_cases hj : j = 22
  · subst hj; rfl
  · rw [if_neg hj, if_neg (fun q => hj (gk_inj (Prod.ext (q.trans rfl) (gk_0 (by rw [q]; decide)))))]
theorem gEU_32 (st : St) (ad : Nat → Nat) (cy : Nat → ClassId) (v : Int) (kd' o' : Nat) : gE (ust st 32 0 0 v) ad cy kd' o' = if kd' = 22 then .inr (3, (gOs st).set 2 (.int (iI v))) else gE st ad cy kd' o' := by
  have hc : gcp kd' ≠ 32 := gcp_ns 32 (by decide) (by decide) kd'
  by_cases hk : kd' = 22
  · subst hk
    rw [if_pos rfl]
    simp [gE, gOs, ust]
  · rw [if_neg (fun q => hk q)]
    simp [gE, gOm, gOx, gOs, gOp, gOt, gOl, ust, hk, hc]
theorem gU_32 (st : St) (ad : Nat → Nat) (cy : Nat → ClassId) (v : Int) (j : Nat) : gC (ust st 32 0 0 v) ad cy j = if j = 22 then .inr (3, (gOs st).set 2 (.int (iI v))) else gC st ad cy j := by
  unfold gC
  rw [gEU_32]
  by_cases hj : j = 22
  · subst hj; rfl
  · rw [if_neg hj, if_neg (fun q => hj (gk_inj (Prod.ext (q.trans rfl) (gk_0 (by rw [q]; decide)))))]
theorem gEU_36 (st : St) (ad : Nat → Nat) (cy : Nat → ClassId) (v : Int) (kd' o' : Nat) : gE (ust st 36 0 0 v) ad cy kd' o' = if kd' = 28 then .inr (1, (gOp st ad).set 2 (.int (iI v))) else gE st ad cy kd' o' := by
  have hc : gcp kd' ≠ 36 := gcp_ns 36 (by decide) (by decide) kd'
  by_cases hk : kd' = 28
  · subst hk
    rw [if_pos rfl]
    simp [gE, gOp, ust]
  · rw [if_neg (fun q => hk q)]
    simp [gE, gOm, gOx, gOs, gOp, gOt, gOl, ust, hk, hc]
theorem gU_36 (st : St) (ad : Nat → Nat) (cy : Nat → ClassId) (v : Int) (j : Nat) : gC (ust st 36 0 0 v) ad cy j = if j = 28 then .inr (1, (gOp st ad).set 2 (.int (iI v))) else gC st ad cy j := by
  unfold gC
  rw [gEU_36]
  by_cases hj : j = 28
  · subst hj; rfl
  · rw [if_neg hj, if_neg (fun q => hj (gk_inj (Prod.ext (q.trans rfl) (gk_0 (by rw [q]; decide)))))]
theorem gEU_46 (st : St) (ad : Nat → Nat) (cy : Nat → ClassId) (o : Nat) (v : Int) (kd' o' : Nat) : gE (ust st 46 o 0 v) ad cy kd' o' = if kd' = 33 ∧ o' = o then .inr (4, (gOt st ad o).set 7 (.int (iI v))) else gE st ad cy kd' o' := by
  have hc : gcp kd' ≠ 46 := gcp_ns 46 (by decide) (by decide) kd'
  by_cases hk : kd' = 33
  · subst hk
    by_cases ho : o' = o
    · subst ho
      rw [if_pos ⟨rfl, rfl⟩]
      simp [gE, gOt, ust]
    · rw [if_neg (fun q => ho q.2)]
      simp [gE, gOt, ust, ho]
  · rw [if_neg (fun q => hk q.1)]
    simp [gE, gOm, gOx, gOs, gOp, gOt, gOl, ust, hk, hc]
theorem gU_46 (st : St) (ad : Nat → Nat) (cy : Nat → ClassId) {o : Nat} (ho : o < 6) (v : Int) (j : Nat) : gC (ust st 46 o 0 v) ad cy j = if j = 33 + 7 * o then .inr (4, (gOt st ad o).set 7 (.int (iI v))) else gC st ad cy j := by
  have hg : gk (33 + 7 * o) = (33, o) := gk_t (j := 0) ho (by decide)
  unfold gC
  rw [gEU_46]
  by_cases hj : j = 33 + 7 * o
  · rw [hj, hg, if_pos ⟨rfl, rfl⟩, if_pos rfl]
  · rw [if_neg hj, if_neg (fun q => hj (gk_inj (by rw [hg]; exact Prod.ext q.1 q.2)))]
theorem gEU_47 (st : St) (ad : Nat → Nat) (cy : Nat → ClassId) (o : Nat) (v : Int) (kd' o' : Nat) : gE (ust st 47 o 0 v) ad cy kd' o' = if kd' = 33 ∧ o' = o then .inr (4, (gOt st ad o).set 8 (.int (iI v))) else gE st ad cy kd' o' := by
  have hc : gcp kd' ≠ 47 := gcp_ns 47 (by decide) (by decide) kd'
  by_cases hk : kd' = 33
  · subst hk
    by_cases ho : o' = o
    · subst ho
      rw [if_pos ⟨rfl, rfl⟩]
      simp [gE, gOt, ust]
    · rw [if_neg (fun q => ho q.2)]
      simp [gE, gOt, ust, ho]
  · rw [if_neg (fun q => hk q.1)]
    simp [gE, gOm, gOx, gOs, gOp, gOt, gOl, ust, hk, hc]
theorem gU_47 (st : St) (ad : Nat → Nat) (cy : Nat → ClassId) {o : Nat} (ho : o < 6) (v : Int) (j : Nat) : gC (ust st 47 o 0 v) ad cy j = if j = 33 + 7 * o then .inr (4, (gOt st ad o).set 8 (.int (iI v))) else gC st ad cy j := by
  have hg : gk (33 + 7 * o) = (33, o) := gk_t (j := 0) ho (by decide)
  unfold gC
  rw [gEU_47]
  by_cases hj : j = 33 + 7 * o
  · rw [hj, hg, if_pos ⟨rfl, rfl⟩, if_pos rfl]
  · rw [if_neg hj, if_neg (fun q => hj (gk_inj (by rw [hg]; exact Prod.ext q.1 q.2)))]
theorem gEU_48 (st : St) (ad : Nat → Nat) (cy : Nat → ClassId) (o : Nat) (v : Int) (kd' o' : Nat) : gE (ust st 48 o 0 v) ad cy kd' o' = if kd' = 33 ∧ o' = o then .inr (4, (gOt st ad o).set 9 (.int (iI v))) else gE st ad cy kd' o' := by
  have hc : gcp kd' ≠ 48 := gcp_ns 48 (by decide) (by decide) kd'
  by_cases hk : kd' = 33
  · subst hk
    by_cases ho : o' = o
    · subst ho
      rw [if_pos ⟨rfl, rfl⟩]
      simp [gE, gOt, ust]
    · rw [if_neg (fun q => ho q.2)]
      simp [gE, gOt, ust, ho]
  · rw [if_neg (fun q => hk q.1)]
    simp [gE, gOm, gOx, gOs, gOp, gOt, gOl, ust, hk, hc]
theorem gU_48 (st : St) (ad : Nat → Nat) (cy : Nat → ClassId) {o : Nat} (ho : o < 6) (v : Int) (j : Nat) : gC (ust st 48 o 0 v) ad cy j = if j = 33 + 7 * o then .inr (4, (gOt st ad o).set 9 (.int (iI v))) else gC st ad cy j := by
  have hg : gk (33 + 7 * o) = (33, o) := gk_t (j := 0) ho (by decide)
  unfold gC
  rw [gEU_48]
  by_cases hj : j = 33 + 7 * o
  · rw [hj, hg, if_pos ⟨rfl, rfl⟩, if_pos rfl]
  · rw [if_neg hj, if_neg (fun q => hj (gk_inj (by rw [hg]; exact Prod.ext q.1 q.2)))]
theorem gEU_49 (st : St) (ad : Nat → Nat) (cy : Nat → ClassId) (o : Nat) (v : Int) (kd' o' : Nat) : gE (ust st 49 o 0 v) ad cy kd' o' = if kd' = 33 ∧ o' = o then .inr (4, (gOt st ad o).set 10 (.int (iI v))) else gE st ad cy kd' o' := by
  have hc : gcp kd' ≠ 49 := gcp_ns 49 (by decide) (by decide) kd'
  by_cases hk : kd' = 33
  · subst hk
    by_cases ho : o' = o
    · subst ho
      rw [if_pos ⟨rfl, rfl⟩]
      simp [gE, gOt, ust]
    · rw [if_neg (fun q => ho q.2)]
      simp [gE, gOt, ust, ho]
  · rw [if_neg (fun q => hk q.1)]
    simp [gE, gOm, gOx, gOs, gOp, gOt, gOl, ust, hk, hc]
theorem gU_49 (st : St) (ad : Nat → Nat) (cy : Nat → ClassId) {o : Nat} (ho : o < 6) (v : Int) (j : Nat) : gC (ust st 49 o 0 v) ad cy j = if j = 33 + 7 * o then .inr (4, (gOt st ad o).set 10 (.int (iI v))) else gC st ad cy j := by
  have hg : gk (33 + 7 * o) = (33, o) := gk_t (j := 0) ho (by decide)
  unfold gC
  rw [gEU_49]
  by_cases hj : j = 33 + 7 * o
  · rw [hj, hg, if_pos ⟨rfl, rfl⟩, if_pos rfl]
  · rw [if_neg hj, if_neg (fun q => hj (gk_inj (by rw [hg]; exact Prod.ext q.1 q.2)))]
theorem gEU_50 (st : St) (ad : Nat → Nat) (cy : Nat → ClassId) (o : Nat) (v : Int) (kd' o' : Nat) : gE (ust st 50 o 0 v) ad cy kd' o' = if kd' = 33 ∧ o' = o then .inr (4, (gOt st ad o).set 11 (.int (iI v))) else gE st ad cy kd' o' := by
  have hc : gcp kd' ≠ 50 := gcp_ns 50 (by decide) (by decide) kd'
  by_cases hk : kd' = 33
  · subst hk
    by_cases ho : o' = o
    · subst ho
      rw [if_pos ⟨rfl, rfl⟩]
      simp [gE, gOt, ust]
    · rw [if_neg (fun q => ho q.2)]
      simp [gE, gOt, ust, ho]
  · rw [if_neg (fun q => hk q.1)]
    simp [gE, gOm, gOx, gOs, gOp, gOt, gOl, ust, hk, hc]
theorem gU_50 (st : St) (ad : Nat → Nat) (cy : Nat → ClassId) {o : Nat} (ho : o < 6) (v : Int) (j : Nat) : gC (ust st 50 o 0 v) ad cy j = if j = 33 + 7 * o then .inr (4, (gOt st ad o).set 11 (.int (iI v))) else gC st ad cy j := by
  have hg : gk (33 + 7 * o) = (33, o) := gk_t (j := 0) ho (by decide)
  unfold gC
  rw [gEU_50]
  by_cases hj : j = 33 + 7 * o
  · rw [hj, hg, if_pos ⟨rfl, rfl⟩, if_pos rfl]
  · rw [if_neg hj, if_neg (fun q => hj (gk_inj (by rw [hg]; exact Prod.ext q.1 q.2)))]
theorem gEU_64 (st : St) (ad : Nat → Nat) (cy : Nat → ClassId) (o : Nat) (v : Int) (kd' o' : Nat) : gE (ust st 64 o 0 v) ad cy kd' o' = if kd' = 40 ∧ o' = o then .inr (0, (gOl st ad o).set 5 (.int (iI v))) else gE st ad cy kd' o' := by
  have hc : gcp kd' ≠ 64 := gcp_ns 64 (by decide) (by decide) kd'
  by_cases hk : kd' = 40
  · subst hk
    by_cases ho : o' = o
    · subst ho
      rw [if_pos ⟨rfl, rfl⟩]
      simp [gE, gOl, ust]
    · rw [if_neg (fun q => ho q.2)]
      simp [gE, gOl, ust, ho]
  · rw [if_neg (fun q => hk q.1)]
    simp [gE, gOm, gOx, gOs, gOp, gOt, gOl, ust, hk, hc]
theorem gU_64 (st : St) (ad : Nat → Nat) (cy : Nat → ClassId) {o : Nat} (v : Int) (j : Nat) : gC (ust st 64 o 0 v) ad cy j = if j = 75 + 3 * o then .inr (0, (gOl st ad o).set 5 (.int (iI v))) else gC st ad cy j := by
  have hg : gk (75 + 3 * o) = (40, o) := gk_l (o := o) (j := 0) (by decide)
  unfold gC
  rw [gEU_64]
  by_cases hj : j = 75 + 3 * o
  · rw [hj, hg, if_pos ⟨rfl, rfl⟩, if_pos rfl]
  · rw [if_neg hj, if_neg (fun q => hj (gk_inj (by rw [hg]; exact Prod.ext q.1 q.2)))]
theorem gEU_65 (st : St) (ad : Nat → Nat) (cy : Nat → ClassId) (o : Nat) (v : Int) (kd' o' : Nat) : gE (ust st 65 o 0 v) ad cy kd' o' = if kd' = 40 ∧ o' = o then .inr (0, (gOl st ad o).set 6 (va_rf (gref ad 75 3 v))) else gE st ad cy kd' o' := by
  have hc : gcp kd' ≠ 65 := gcp_ns 65 (by decide) (by decide) kd'
  by_cases hk : kd' = 40
  · subst hk
    by_cases ho : o' = o
    · subst ho
      rw [if_pos ⟨rfl, rfl⟩]
      simp [gE, gOl, ust]
    · rw [if_neg (fun q => ho q.2)]
      simp [gE, gOl, ust, ho]
  · rw [if_neg (fun q => hk q.1)]
    simp [gE, gOm, gOx, gOs, gOp, gOt, gOl, ust, hk, hc]
theorem gU_65 (st : St) (ad : Nat → Nat) (cy : Nat → ClassId) {o : Nat} (v : Int) (j : Nat) : gC (ust st 65 o 0 v) ad cy j = if j = 75 + 3 * o then .inr (0, (gOl st ad o).set 6 (va_rf (gref ad 75 3 v))) else gC st ad cy j := by
  have hg : gk (75 + 3 * o) = (40, o) := gk_l (o := o) (j := 0) (by decide)
  unfold gC
  rw [gEU_65]
  by_cases hj : j = 75 + 3 * o
  · rw [hj, hg, if_pos ⟨rfl, rfl⟩, if_pos rfl]
  · rw [if_neg hj, if_neg (fun q => hj (gk_inj (by rw [hg]; exact Prod.ext q.1 q.2)))]
theorem gEU_66 (st : St) (ad : Nat → Nat) (cy : Nat → ClassId) (o : Nat) (v : Int) (kd' o' : Nat) : gE (ust st 66 o 0 v) ad cy kd' o' = if kd' = 40 ∧ o' = o then .inr (0, (gOl st ad o).set 7 (va_rf (gref ad 33 7 v))) else gE st ad cy kd' o' := by
  have hc : gcp kd' ≠ 66 := gcp_ns 66 (by decide) (by decide) kd'
  by_cases hk : kd' = 40
  · subst hk
    by_cases ho : o' = o
    · subst ho
      rw [if_pos ⟨rfl, rfl⟩]
      simp [gE, gOl, ust]
    · rw [if_neg (fun q => ho q.2)]
      simp [gE, gOl, ust, ho]
  · rw [if_neg (fun q => hk q.1)]
    simp [gE, gOm, gOx, gOs, gOp, gOt, gOl, ust, hk, hc]
theorem gU_66 (st : St) (ad : Nat → Nat) (cy : Nat → ClassId) {o : Nat} (v : Int) (j : Nat) : gC (ust st 66 o 0 v) ad cy j = if j = 75 + 3 * o then .inr (0, (gOl st ad o).set 7 (va_rf (gref ad 33 7 v))) else gC st ad cy j := by
  have hg : gk (75 + 3 * o) = (40, o) := gk_l (o := o) (j := 0) (by decide)
  unfold gC
  rw [gEU_66]
  by_cases hj : j = 75 + 3 * o
  · rw [hj, hg, if_pos ⟨rfl, rfl⟩, if_pos rfl]
  · rw [if_neg hj, if_neg (fun q => hj (gk_inj (by rw [hg]; exact Prod.ext q.1 q.2)))]
