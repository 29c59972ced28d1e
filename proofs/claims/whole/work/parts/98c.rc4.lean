/-! ===== the relation kept: place ===== -/
theorem plC_50 (st : St) (q t t' : Nat) : plC st q t 50 t' 0 = if t' = t then 1 else st 50 t' 0 := by
  unfold plC
  by_cases e : t' = t
  · subst e
    rw [ust_s, if_pos rfl]
  · rw [ust_o e, if_neg e, ust_c (by decide)]
    unfold stC
    rw [setQ_c _ _ _ (by decide), fsC_c _ _ (by omega), setW_c _ _ _ (by omega)]
theorem plC_66 (st : St) (q t q' : Nat) : plC st q t 66 q' 0 = if q' = q then (t : Int) else st 66 q' 0 := by
  unfold plC
  rw [ust_c (by decide)]
  by_cases e : q' = q
  · subst e
    rw [ust_s, if_pos rfl]
  · rw [ust_o e, if_neg e]
    unfold stC
    rw [setQ_c _ _ _ (by decide), fsC_c _ _ (by omega), setW_c _ _ _ (by omega)]
theorem plC_63 (st : St) (q t q' : Nat) (j : Int) : plC st q t 63 q' j = if q' = q ∧ 0 ≤ j ∧ j < ((st 60 q 0).toNat : Int) then pkN (csT (setW st (cwX st q t (8 * (st 60 q 0).toNat)) (st 35 0))) (st 60 q 0).toNat j.toNat (grS (csT (setW st (cwX st q t (8 * (st 60 q 0).toNat)) (st 35 0))) (st 60 q 0).toNat j.toNat) 0 else st 63 q' j := by
  unfold plC
  rw [ust_c (by decide), ust_c (by decide)]
  unfold stC
  rw [setW_c st _ _ (c := 60) (by omega)]
  by_cases e : q' = q
  · subst e
    show (if 63 = 63 ∧ q' = q' then _ else _) = _
    rw [if_pos ⟨rfl, rfl⟩]
    unfold rqX
    by_cases hj : 0 ≤ j ∧ j < ((st 60 q' 0).toNat : Int)
    · rw [if_pos hj, if_pos ⟨rfl, hj⟩]
    · rw [if_neg hj, if_neg (fun z => hj z.2), setW_c _ _ _ (by omega)]
  · show (if 63 = 63 ∧ q' = q then _ else _) = _
    rw [if_neg (fun z => e z.2), if_neg (fun z => e z.1), fsC_c _ _ (by omega), setW_c _ _ _ (by omega)]
theorem plS_c (y : St) (a t : Int) {c o : Nat} {i : Int} (h : c ≠ 20 ∧ c ≠ 21 ∧ c ≠ 22 ∧ c ≠ 23) : plS y a t c o i = y c o i := by
  unfold plS fdS
  rw [ust_c h.1, setR_c _ _ h.2.1, setF_c _ _ _ (by omega)]
theorem plS_20 (y : St) (a t x : Int) : plS y a t 20 0 x = if x = a then t else y 20 0 x := by
  unfold plS fdS
  rw [ust_if, setR_c _ _ (by decide), setF_c _ _ _ (by omega)]
theorem plS_21 (y : St) (a t x : Int) : plS y a t 21 0 x = if 8 * a ≤ x ∧ x < 8 * a + ((y 15 0 a).toNat : Int) then pkN (cst y a t) (y 15 0 a).toNat (x - 8 * a).toNat (grS (cst y a t) (y 15 0 a).toNat (x - 8 * a).toNat) 0 else y 21 0 x := by
  unfold plS fdS
  rw [ust_c (by decide)]
  show (if 21 = 21 ∧ 0 = 0 then rfX y _ _ _ _ x else _) = _
  rw [if_pos ⟨rfl, rfl⟩]
  rfl
theorem RY_place {wb : Int} {st y : St} {q t : Nat} (hR : RY st) (hI : GI wb st) (hyl : ∀ (c o : Nat) (i : Int), c < 30 → c ≠ 0 → y c o i = st c o i) (hcs : cst y (q : Int) (t : Int) = cst st (q : Int) (t : Int)) (hq : (q : Int) < st 14 0 0) (hq6 : q < 6) (ht : t < 6) (h20 : st 20 0 (q : Int) = -1) (hlon : ∀ z : Int, 0 ≤ z ∧ z < st 14 0 0 → st 20 0 z ≠ (t : Int)) : RY (mgS (plS y (q : Int) (t : Int)) (plC st q t)) := by
  obtain ⟨h1, h2, h3, h4, h5, h6, h7, h8, h9, h10, h11, h12, h13⟩ := id hR
  have ec : ∀ c : Nat, (c ≠ 34 ∧ c ≠ 35 ∧ c ≠ 50 ∧ c ≠ 63 ∧ c ≠ 66) → plC st q t c = st c := fun c hc => funext fun o => funext fun i => plC_c st q t o i hc
  have em : ∀ c : Nat, c < 30 → c ≠ 0 → (c ≠ 20 ∧ c ≠ 21 ∧ c ≠ 22 ∧ c ≠ 23) → plS y (q : Int) (t : Int) c = st c := fun c h30 h0 hc => funext fun o => funext fun i => by rw [plS_c y _ _ hc, hyl c o i h30 h0]
  have m20 : ∀ x : Int, plS y (q : Int) (t : Int) 20 0 x = if x = (q : Int) then (t : Int) else st 20 0 x := fun x => by rw [plS_20, hyl 20 0 x (by decide) (by decide)]
  have h60 := gI_60 hI q 0
  have h61 := gI_61 hI q 0
  have hl := h2 q hq
  have hrow : ∀ (q' : Nat) (j : Int), (q' : Int) < st 14 0 0 → 0 ≤ j ∧ j < 8 → plC st q t 63 q' j = plS y (q : Int) (t : Int) 21 0 (8 * (q' : Int) + j) := by
    intro q' j hq' hj
    rw [plC_63, plS_21, hcs, hyl 15 0 _ (by decide) (by decide), ← hl.1, hyl 21 0 _ (by decide) (by decide)]
    by_cases e : q' = q ∧ 0 ≤ j ∧ j < ((st 60 q 0).toNat : Int)
    · rw [if_pos e, if_pos (by omega)]
      obtain ⟨rfl, -, hjn⟩ := e
      rw [show 8 * (q' : Int) + j - 8 * (q' : Int) = j by omega]
      have hc : ∀ i r, i < (st 60 q' 0).toNat → r < 8 → cst st (q' : Int) (t : Int) i r = csT (setW st (cwX st q' t (8 * (st 60 q' 0).toNat)) (st 35 0)) i r := fun i r hi hr => (csT_w hR rfl hq ht hi h60.2 hr h61).symm
      have hg := grS_e (ni := (st 60 q' 0).toNat) (fun i r => cst_r hI (q' : Int) (t : Int) i r) (by omega) hc j.toNat (by omega)
      rw [← hg.1]
      exact (pkN_e hc (by omega) hg.2.1).symm
    · rw [if_neg e, if_neg (by omega)]
      exact h4 q' j hq' hj
  unfold RY
  show (plC st q t 33 0 0 = plS y (q : Int) (t : Int) 14 0 0 ∧ plC st q t 30 0 0 = plS y (q : Int) (t : Int) 1 0 0 ∧ plC st q t 31 0 0 = plS y (q : Int) (t : Int) 2 0 0 ∧ plC st q t 32 0 0 = plS y (q : Int) (t : Int) 3 0 0)
    ∧ (∀ q' : Nat, (q' : Int) < plS y (q : Int) (t : Int) 14 0 0 → plC st q t 60 q' 0 = plS y (q : Int) (t : Int) 15 0 (q' : Int) ∧ plC st q t 61 q' 0 = plS y (q : Int) (t : Int) 16 0 (q' : Int) ∧ plC st q t 64 q' 0 = plS y (q : Int) (t : Int) 18 0 (q' : Int) ∧ plC st q t 65 q' 0 = plS y (q : Int) (t : Int) 19 0 (q' : Int) ∧ plC st q t 66 q' 0 = plS y (q : Int) (t : Int) 20 0 (q' : Int))
    ∧ (∀ (q' : Nat) (j : Int), (q' : Int) < plS y (q : Int) (t : Int) 14 0 0 → 0 ≤ j ∧ j < 32 → plC st q t 62 q' j = plS y (q : Int) (t : Int) 17 0 (32 * (q' : Int) + j))
    ∧ (∀ (q' : Nat) (j : Int), (q' : Int) < plS y (q : Int) (t : Int) 14 0 0 → 0 ≤ j ∧ j < 8 → plC st q t 63 q' j = plS y (q : Int) (t : Int) 21 0 (8 * (q' : Int) + j))
    ∧ (∀ (t' : Nat) (i : Int), t' < 6 → 0 ≤ i ∧ i < 128 → plC st q t 40 t' i = plS y (q : Int) (t : Int) 4 0 (128 * (t' : Int) + i) ∧ plC st q t 41 t' i = plS y (q : Int) (t : Int) 5 0 (128 * (t' : Int) + i) ∧ plC st q t 42 t' i = plS y (q : Int) (t : Int) 6 0 (128 * (t' : Int) + i) ∧ plC st q t 43 t' i = plS y (q : Int) (t : Int) 7 0 (128 * (t' : Int) + i) ∧ plC st q t 44 t' i = plS y (q : Int) (t : Int) 8 0 (128 * (t' : Int) + i))
    ∧ (∀ t' : Nat, t' < 6 → plC st q t 46 t' 0 = plS y (q : Int) (t : Int) 9 0 (t' : Int) ∧ plC st q t 47 t' 0 = plS y (q : Int) (t : Int) 10 0 (t' : Int) ∧ plC st q t 48 t' 0 = plS y (q : Int) (t : Int) 12 0 (t' : Int) ∧ plC st q t 49 t' 0 = plS y (q : Int) (t : Int) 13 0 (t' : Int))
    ∧ (∀ (t' : Nat) (i : Int), t' < 6 → 0 ≤ i ∧ i < 16 → plC st q t 45 t' i = plS y (q : Int) (t : Int) 11 0 (16 * (t' : Int) + i))
    ∧ (∀ t' : Nat, t' < 6 → (plC st q t 50 t' 0 = 1 ∧ ∃ z : Int, (0 ≤ z ∧ z < plS y (q : Int) (t : Int) 14 0 0) ∧ plS y (q : Int) (t : Int) 20 0 z = (t' : Int)) ∨ (plC st q t 50 t' 0 = 0 ∧ ∀ z : Int, 0 ≤ z ∧ z < plS y (q : Int) (t : Int) 14 0 0 → plS y (q : Int) (t : Int) 20 0 z ≠ (t' : Int)))
    ∧ (∀ (o : Nat) (j : Int), plC st q t 42 o j ≤ plC st q t 30 0 0)
    ∧ (∀ j : Int, plS y (q : Int) (t : Int) 6 0 j ≤ plS y (q : Int) (t : Int) 1 0 0)
    ∧ (∀ z : Int, 0 ≤ z → z < plS y (q : Int) (t : Int) 14 0 0 → plS y (q : Int) (t : Int) 19 0 z = -1 ∨ (z < plS y (q : Int) (t : Int) 19 0 z ∧ plS y (q : Int) (t : Int) 19 0 z < plS y (q : Int) (t : Int) 14 0 0))
    ∧ (∀ q1 q2 : Int, (0 ≤ q1 ∧ q1 < plS y (q : Int) (t : Int) 14 0 0) → (0 ≤ q2 ∧ q2 < plS y (q : Int) (t : Int) 14 0 0) → plS y (q : Int) (t : Int) 20 0 q1 ≠ -1 → plS y (q : Int) (t : Int) 20 0 q1 = plS y (q : Int) (t : Int) 20 0 q2 → q1 = q2)
    ∧ (∀ z : Int, plS y (q : Int) (t : Int) 14 0 0 ≤ z ∧ z < 6 → (∀ j : Int, 0 ≤ j ∧ j < 32 → plS y (q : Int) (t : Int) 17 0 (32 * z + j) = 0) ∧ plS y (q : Int) (t : Int) 18 0 z = 0 ∧ ∀ j : Int, 0 ≤ j ∧ j < 8 → plS y (q : Int) (t : Int) 21 0 (8 * z + j) = 0)
  rw [ec 33 (by decide), em 14 (by decide) (by decide) (by decide), ec 30 (by decide), em 1 (by decide) (by decide) (by decide), ec 31 (by decide), em 2 (by decide) (by decide) (by decide), ec 32 (by decide), em 3 (by decide) (by decide) (by decide), ec 60 (by decide), em 15 (by decide) (by decide) (by decide), ec 61 (by decide), em 16 (by decide) (by decide) (by decide), ec 64 (by decide), em 18 (by decide) (by decide) (by decide), ec 65 (by decide), em 19 (by decide) (by decide) (by decide), ec 62 (by decide), em 17 (by decide) (by decide) (by decide), ec 40 (by decide), em 4 (by decide) (by decide) (by decide), ec 41 (by decide), em 5 (by decide) (by decide) (by decide), ec 42 (by decide), em 6 (by decide) (by decide) (by decide), ec 43 (by decide), em 7 (by decide) (by decide) (by decide), ec 44 (by decide), em 8 (by decide) (by decide) (by decide), ec 46 (by decide), em 9 (by decide) (by decide) (by decide), ec 47 (by decide), em 10 (by decide) (by decide) (by decide), ec 48 (by decide), em 12 (by decide) (by decide) (by decide), ec 49 (by decide), em 13 (by decide) (by decide) (by decide), ec 45 (by decide), em 11 (by decide) (by decide) (by decide)]
  refine ⟨h1, fun q' hq' => ?_, h3, hrow, h5, h6, h7, fun t' ht' => ?_, h9, h10, h11, fun q1 q2 hq1 hq2 hn he => ?_, fun z hz => ⟨(h13 z hz).1, (h13 z hz).2.1, fun j hj => ?_⟩⟩
  · obtain ⟨a1, a2, a3, a4, a5⟩ := h2 q' hq'
    refine ⟨a1, a2, a3, a4, ?_⟩
    rw [plC_66, m20]
    by_cases e : q' = q
    · rw [if_pos e, if_pos (by omega)]
    · rw [if_neg e, if_neg (by omega)]; exact a5
  · rw [plC_50]
    by_cases e : t' = t
    · rw [if_pos e]
      exact Or.inl ⟨rfl, (q : Int), ⟨by omega, hq⟩, by rw [m20, if_pos rfl, e]⟩
    · rw [if_neg e]
      rcases h8 t' ht' with ⟨b1, z, hz, hzt⟩ | ⟨b1, b2⟩
      · refine Or.inl ⟨b1, z, hz, ?_⟩
        rw [m20, if_neg (fun e2 => by subst e2; omega)]
        exact hzt
      · refine Or.inr ⟨b1, fun z hz => ?_⟩
        rw [m20]
        by_cases e2 : z = (q : Int)
        · rw [if_pos e2]; omega
        · rw [if_neg e2]; exact b2 z hz
  · rw [m20] at hn
    rw [m20, m20] at he
    by_cases e1 : q1 = (q : Int)
    · by_cases e2 : q2 = (q : Int)
      · omega
      · rw [if_pos e1, if_neg e2] at he
        exact absurd he.symm (hlon q2 hq2)
    · by_cases e2 : q2 = (q : Int)
      · rw [if_neg e1, if_pos e2] at he
        exact absurd he (hlon q1 hq1)
      · rw [if_neg e1] at hn
        rw [if_neg e1, if_neg e2] at he
        exact h12 q1 q2 hq1 hq2 hn he
  · rw [plS_21, if_neg (by rw [hyl 15 0 _ (by decide) (by decide), ← hl.1]; omega), hyl 21 0 _ (by decide) (by decide)]
    exact (h13 z hz).2.2 j hj
