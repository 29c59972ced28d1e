theorem ghi_W {W W' : Int} {c : Nat} (hc : c ∈ gcs) (h5 : c ≠ 5) (h41 : c ≠ 41) : ghi W c = ghi W' c := by
  simp only [gcs, List.mem_cons, List.not_mem_nil, or_false] at hc
  rcases hc with rfl | rfl | rfl | rfl | rfl | rfl | rfl | rfl | rfl | rfl | rfl | rfl | rfl | rfl | rfl | rfl | rfl | rfl | rfl | rfl | rfl | rfl | rfl | rfl | rfl | rfl | rfl | rfl | rfl | rfl | rfl | rfl | rfl | rfl | rfl | rfl | rfl | rfl | rfl | rfl | rfl | rfl | rfl | rfl | rfl | rfl | rfl | rfl | rfl | rfl | rfl | rfl <;> first | rfl | exact absurd rfl h5 | exact absurd rfl h41
theorem GI_tight {wb W : Int} {z : St} (h : GI W z) (hR : RY z) (h41 : ∀ (o : Nat) (i : Int), z 41 o i ≤ wb) (h5 : ∀ (o : Nat) (i : Int), ¬ (o = 0 ∧ 0 ≤ i ∧ i < 768) → z 5 o i ≤ wb) : GI wb z := by
  intro c hc o i
  have h0 := h c hc o i
  by_cases e5 : c = 5
  · subst e5
    refine ⟨h0.1, ?_⟩
    show z 5 o i ≤ wb
    by_cases hin : o = 0 ∧ 0 ≤ i ∧ i < 768
    · obtain ⟨rfl, h1, h2⟩ := hin
      have h9 := (hR.2.2.2.2.1 (i / 128).toNat (i % 128) (by omega) (by omega)).2.1
      rw [show 128 * (((i / 128).toNat : Nat) : Int) + i % 128 = i by omega] at h9
      rw [← h9]
      exact h41 _ _
    · exact h5 o i hin
  · by_cases e41 : c = 41
    · subst e41
      exact ⟨h0.1, h41 o i⟩
    · rw [ghi_W (W := wb) (W' := W) hc e5 e41]
      exact h0
theorem runW_out {c w : Nat → Int} {y : St} {k o : Nat} {i : Int} (h : ¬ (o = 0 ∧ 0 ≤ i ∧ i < 768)) : ∀ n, (∀ j, j < n → 0 ≤ c j ∧ c j < 768) → (runW c w n y).1 k o i = y k o i
  | 0, _ => rfl
  | n + 1, hj => by
    have hn := hj n (Nat.lt_succ_self n)
    rw [runW_s1]
    unfold wrM
    rw [setG_o (fun e => h ⟨e.1, by omega⟩)]
    exact runW_out h n (fun j hjn => hj j (by omega))
/-- loading, on both sides -/
theorem ld_core {x y : St} {q t : Nat} (hm : RY (mgS y x)) (hy : ∀ (c o : Nat) (i : Int), 30 ≤ c → c ≠ 70 → y c o i = ldCS x q t c o i) (hq : (q : Int) < y 14 0 0) (ht : t < 6) (h20 : y 20 0 (q : Int) = (t : Int)) (h60 : x 60 q 0 ≤ 8) (h61 : x 61 q 0 ≤ 4) (h63 : ∀ k : Int, 0 ≤ x 63 q k ∧ x 63 q k ≤ 7) : ldCF x q t = ldF y (q : Int) ∧ RY (ldS y (q : Int)) ∧ ∀ (k o : Nat) (i : Int), ¬ (o = 0 ∧ 0 ≤ i ∧ i < 768) → ldS y (q : Int) k o i = y k o i := by
  obtain ⟨h1, h2, h3, h4, h5, h6, h7, h8, h9, h10, h11, h12, h13⟩ := hm
  have hcr : CR x y := ⟨⟨h1.2.1, h1.2.2.1, h1.2.2.2⟩, h5⟩
  have hl := h2 q hq
  have e60 : x 60 q 0 = y 15 0 (q : Int) := hl.1
  have e61 : x 61 q 0 = y 16 0 (q : Int) := hl.2.1
  have hj : ∀ j, j < 4 * (x 61 q 0).toNat * (x 60 q 0).toNat → (0 ≤ lcC x q j ∧ lcC x q j < 128) ∧ ldc y (q : Int) j = 128 * (t : Int) + lcC x q j ∧ ldw y (q : Int) j = lwC x q j := by
    intro j hj
    have hpos : 0 < 4 * (x 61 q 0).toNat := by
      rcases Nat.eq_zero_or_pos (4 * (x 61 q 0).toNat) with e | e
      · rw [e, Nat.zero_mul] at hj; omega
      · exact e
    have hd : j / (4 * (x 61 q 0).toNat) < (x 60 q 0).toNat := Nat.div_lt_of_lt_mul hj
    have hmm : j % (4 * (x 61 q 0).toNat) < 4 * (x 61 q 0).toNat := Nat.mod_lt _ hpos
    unfold lcC ldc ldw lwC needC
    rw [← e61, h20]
    generalize j / (4 * (x 61 q 0).toNat) = u at *
    generalize j % (4 * (x 61 q 0).toNat) = v at *
    have e4 : x 63 q (u : Int) = y 21 0 (8 * (q : Int) + (u : Int)) := h4 q (u : Int) hq (by omega)
    have hr := h63 (u : Int)
    have e3 : x 62 q (4 * (u : Int) + (v : Int) / 4) = y 17 0 (32 * (q : Int) + (4 * (u : Int) + (v : Int) / 4)) := h3 q _ hq (by omega)
    rw [← e4, e3]
    refine ⟨by omega, by omega, ?_⟩
    rw [show ((v / 4 : Nat) : Int) = (v : Int) / 4 by omega, show ((v % 4 : Nat) : Int) = (v : Int) % 4 by omega, Int.add_assoc]
  obtain ⟨hC, hF⟩ := CR_run hcr ht (c := lcC x q) (w := lwC x q) (c' := ldc y (q : Int)) (w' := ldw y (q : Int)) _ hj
  have en : 4 * (y 16 0 (q : Int)).toNat * (y 15 0 (q : Int)).toNat = 4 * (x 61 q 0).toNat * (x 60 q 0).toNat := by rw [e60, e61]
  refine ⟨?_, ?_, ?_⟩
  · unfold ldCF ldF
    rw [en]
    exact hF
  · have hz : ldS y (q : Int) = (runW (ldc y (q : Int)) (ldw y (q : Int)) (4 * (x 61 q 0).toNat * (x 60 q 0).toNat) y).1 := by unfold ldS; rw [en]
    have hs : ldCS x q t = (rwC t (lcC x q) (lwC x q) (4 * (x 61 q 0).toNat * (x 60 q 0).toNat) x).1 := rfl
    rw [← hz, ← hs] at hC
    obtain ⟨z, hzz⟩ : ∃ z, z = ldS y (q : Int) := ⟨_, rfl⟩
    rw [← hzz] at hC ⊢
    have em : ∀ c : Nat, c < 4 ∨ (8 < c ∧ c < 30) → z c = y c := fun c hc => funext fun o => funext fun i => by rw [hzz, hz, runW_c _ _ _ _ (by omega)]
    have ec : ∀ c : Nat, 30 ≤ c → c ≠ 70 → z c = ldCS x q t c := fun c hc hc7 => funext fun o => funext fun i => by rw [hzz, hz, runW_c _ _ _ _ (by omega)]; exact hy c o i hc hc7
    have ex : ∀ c : Nat, (30 ≤ c ∧ c < 40) ∨ (44 < c ∧ c ≠ 70) → z c = x c := fun c hc => by
      rw [ec c (by omega) (by omega)]
      exact funext fun o => funext fun i => rwC_c _ _ _ _ _ (by omega) i
    have h42 : ∀ (o : Nat) (j : Int), z 42 o j ≤ x 30 0 0 := fun o j => by
      rw [ec 42 (by decide) (by decide)]
      exact rwC_since (st := x) (fun p j => h9 p j) _ o j
    have h6z : ∀ j : Int, z 6 0 j ≤ y 1 0 0 := fun j => by
      rw [hzz, hz]
      exact runW_since (st := y) (fun j => h10 j) _ j
    have h5z : ∀ (t' : Nat) (i : Int), t' < 6 → 0 ≤ i ∧ i < 128 → z 40 t' i = z 4 0 (128 * (t' : Int) + i) ∧ z 41 t' i = z 5 0 (128 * (t' : Int) + i) ∧ z 42 t' i = z 6 0 (128 * (t' : Int) + i) ∧ z 43 t' i = z 7 0 (128 * (t' : Int) + i) ∧ z 44 t' i = z 8 0 (128 * (t' : Int) + i) := fun t' i ht' hi => by
      rw [ec 40 (by decide) (by decide), ec 41 (by decide) (by decide), ec 42 (by decide) (by decide), ec 43 (by decide) (by decide), ec 44 (by decide) (by decide)]
      exact hC.2 t' i ht' hi
    unfold RY
    rw [ex 33 (by decide), em 14 (by decide), ex 30 (by decide), em 1 (by decide), ex 31 (by decide), em 2 (by decide), ex 32 (by decide), em 3 (by decide), ex 60 (by decide), em 15 (by decide), ex 61 (by decide), em 16 (by decide), ex 64 (by decide), em 18 (by decide), ex 65 (by decide), em 19 (by decide), ex 66 (by decide), em 20 (by decide), ex 62 (by decide), em 17 (by decide), ex 63 (by decide), em 21 (by decide), ex 46 (by decide), em 9 (by decide), ex 47 (by decide), em 10 (by decide), ex 48 (by decide), em 12 (by decide), ex 49 (by decide), em 13 (by decide), ex 45 (by decide), em 11 (by decide), ex 50 (by decide)]
    exact ⟨h1, h2, h3, h4, h5z, h6, h7, h8, h42, h6z, h11, h12, h13⟩
  · intro k o i hni
    unfold ldS
    rw [en]
    refine runW_out hni _ (fun j hjn => ?_)
    have := hj j hjn
    omega
