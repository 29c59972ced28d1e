theorem lyS_v (st : St) (q : Nat) (a b : Int) : (∀ q' : Nat, lyS st q a b 60 q' 0 = if q' = q then a else st 60 q' 0) ∧ (∀ q' : Nat, lyS st q a b 61 q' 0 = if q' = q then b else st 61 q' 0) ∧ (∀ (q' : Nat) (j : Int), lyS st q a b 62 q' j = if q' = q then 0 else st 62 q' j) ∧ (∀ (q' : Nat) (j : Int), lyS st q a b 63 q' j = if q' = q then 0 else st 63 q' j) ∧ (∀ q' : Nat, lyS st q a b 64 q' 0 = if q' = q then 0 else st 64 q' 0) ∧ (∀ q' : Nat, lyS st q a b 65 q' 0 = if q' = q then -1 else st 65 q' 0) ∧ (∀ q' : Nat, lyS st q a b 66 q' 0 = if q' = q then -1 else st 66 q' 0) := ⟨fun _ => rfl, fun _ => rfl, fun _ _ => rfl, fun _ _ => rfl, fun _ => rfl, fun _ => rfl, fun _ => rfl⟩
theorem rc_layer {wb : Int} {st st1 z : St} (a b : Int) {r b9 : Int32} (hR : RY st) (hI : GI wb st) (hL : r = iI (kLayer st a b) ∧ ((kLayer st a b = 0 ∧ st1 = ust (lyS st (st 33 0 0).toNat a b) 70 0 0 ((iI (st 33 0 0)).toInt64).toInt) ∨ (kLayer st a b ≠ 0 ∧ st1 = st)) ∧ GI wb st1) (hM : b9 = iI (aLayer st1 a b) ∧ z = sLayer st1 a b ∧ GI wb z) : RC wb st1 r b9.toInt64 z := by
  obtain ⟨hr, hc, -⟩ := hL
  obtain ⟨hb, hz, hIz⟩ := hM
  have hks := kLayer_s st a b
  rcases hc with ⟨hk, h1⟩ | ⟨hk, h1⟩
  · have h14 := gI_14 hI 0 0
    have e33 : st 33 0 0 = st 14 0 0 := hR.1.1
    obtain ⟨q, hq⟩ : ∃ q : Nat, q = (st 33 0 0).toNat := ⟨_, rfl⟩
    rw [← hq] at h1
    have hqm : st 14 0 0 = (q : Int) := by omega
    have hml : ∀ (c o : Nat) (i : Int), c < 30 → st1 c o i = st c o i := fun c o i hc => by
      rw [h1, ust_c (by omega)]
      refine lyS_c (fun h => ?_)
      simp only [List.mem_cons, List.not_mem_nil, or_false] at h
      omega
    have hmd : st1 = mgS st st1 := mg_of hml
    have hkk : kLayer st1 a b = 0 := (congrArg (fun y => kLayer y a b) hmd).trans hk
    unfold sLayer at hz
    unfold aLayer at hb
    rw [if_pos hkk, hkk, hml 14 0 0 (by decide)] at hz
    rw [if_pos hkk, hml 14 0 0 (by decide)] at hb
    rw [hqm] at hz hb
    have m14 : z 14 0 0 = (q : Int) + 1 := by rw [hz, ust_s]
    have mz : ∀ c : Nat, c < 30 → c ≠ 0 ∧ c ≠ 14 ∧ c ≠ 15 ∧ c ≠ 16 ∧ c ≠ 19 ∧ c ≠ 20 → z c = st c := fun c h30 hc => funext fun o => funext fun i => by
      rw [hz, ust_c hc.2.1, ust_c hc.2.2.2.2.2, ust_c hc.2.2.2.2.1, ust_c hc.2.2.2.1, ust_c hc.2.2.1, ust_c hc.1, hml c o i h30]
    have cz : ∀ c : Nat, 30 ≤ c → c ≠ 70 → z c = lyS st q a b c := fun c h30 hc => funext fun o => funext fun i => by
      rw [hz, ust_c (by omega), ust_c (by omega), ust_c (by omega), ust_c (by omega), ust_c (by omega), ust_c (by omega), h1, ust_c hc]
    have oz : ∀ c : Nat, 30 ≤ c → c ≠ 70 → c ∉ [33, 60, 61, 62, 63, 64, 65, 66] → z c = st c := fun c h30 hc hn => by
      rw [cz c h30 hc]
      exact funext fun o => funext fun i => lyS_c hn
    have m15 : ∀ x : Int, z 15 0 x = if x = (q : Int) then a else st 15 0 x := fun x => by
      rw [hz, ust_c (by decide), ust_c (by decide), ust_c (by decide), ust_c (by decide), ust_if, ust_c (by decide), hml 15 0 x (by decide)]
    have m16 : ∀ x : Int, z 16 0 x = if x = (q : Int) then b else st 16 0 x := fun x => by
      rw [hz, ust_c (by decide), ust_c (by decide), ust_c (by decide), ust_if, ust_c (by decide), ust_c (by decide), hml 16 0 x (by decide)]
    have m19 : ∀ x : Int, z 19 0 x = if x = (q : Int) then -1 else st 19 0 x := fun x => by
      rw [hz, ust_c (by decide), ust_c (by decide), ust_if, ust_c (by decide), ust_c (by decide), ust_c (by decide), hml 19 0 x (by decide)]
    have m20 : ∀ x : Int, z 20 0 x = if x = (q : Int) then -1 else st 20 0 x := fun x => by
      rw [hz, ust_c (by decide), ust_if, ust_c (by decide), ust_c (by decide), ust_c (by decide), ust_c (by decide), hml 20 0 x (by decide)]
    obtain ⟨v60, v61, v62, v63, v64, v65, v66⟩ := lyS_v st q a b
    have e330 : z 33 0 0 = (q : Int) + 1 := by rw [cz 33 (by decide) (by decide), lyS_33, e33, hqm]
    have hRz : RY z := by
      obtain ⟨g1, g2, g3, g4, g5, g6, g7, g8, g9, g10, g11, g12, g13⟩ := hR
      rw [hqm] at g2 g3 g4 g8 g11 g12 g13
      have f13 := g13 (q : Int) (by omega)
      unfold RY
      rw [e330, m14, oz 30 (by decide) (by decide) (by decide), mz 1 (by decide) (by decide), oz 31 (by decide) (by decide) (by decide), mz 2 (by decide) (by decide), oz 32 (by decide) (by decide) (by decide), mz 3 (by decide) (by decide), mz 17 (by decide) (by decide), mz 18 (by decide) (by decide), mz 21 (by decide) (by decide), oz 40 (by decide) (by decide) (by decide), mz 4 (by decide) (by decide), oz 41 (by decide) (by decide) (by decide), mz 5 (by decide) (by decide), oz 42 (by decide) (by decide) (by decide), mz 6 (by decide) (by decide), oz 43 (by decide) (by decide) (by decide), mz 7 (by decide) (by decide), oz 44 (by decide) (by decide) (by decide), mz 8 (by decide) (by decide), oz 46 (by decide) (by decide) (by decide), mz 9 (by decide) (by decide), oz 47 (by decide) (by decide) (by decide), mz 10 (by decide) (by decide), oz 48 (by decide) (by decide) (by decide), mz 12 (by decide) (by decide), oz 49 (by decide) (by decide) (by decide), mz 13 (by decide) (by decide), oz 45 (by decide) (by decide) (by decide), mz 11 (by decide) (by decide), oz 50 (by decide) (by decide) (by decide)]
      refine ⟨⟨rfl, g1.2⟩, fun q' hq' => ?_, fun q' j hq' hj => ?_, fun q' j hq' hj => ?_, g5, g6, g7, fun t' ht' => ?_, g9, g10, fun x hx0 hx => ?_, fun q1 q2 hq1 hq2 hn he => ?_, fun x hx => ⟨fun j hj => (g13 x (by omega)).1 j hj, (g13 x (by omega)).2.1, fun j hj => (g13 x (by omega)).2.2 j hj⟩⟩
      · rw [cz 60 (by decide) (by decide), cz 61 (by decide) (by decide), cz 64 (by decide) (by decide), cz 65 (by decide) (by decide), cz 66 (by decide) (by decide), v60, v61, v64, v65, v66, m15, m16, m19, m20]
        by_cases e : q' = q
        · subst e
          rw [if_pos rfl, if_pos rfl, if_pos rfl, if_pos rfl, if_pos rfl, if_pos rfl, if_pos rfl, if_pos rfl, if_pos rfl]
          exact ⟨rfl, rfl, f13.2.1.symm, rfl, rfl⟩
        · have en : ¬ (q' : Int) = (q : Int) := by omega
          rw [if_neg e, if_neg e, if_neg e, if_neg e, if_neg e, if_neg en, if_neg en, if_neg en, if_neg en]
          exact g2 q' (by omega)
      · rw [cz 62 (by decide) (by decide), v62]
        by_cases e : q' = q
        · subst e
          rw [if_pos rfl]
          exact (f13.1 j hj).symm
        · rw [if_neg e]
          exact g3 q' j (by omega) hj
      · rw [cz 63 (by decide) (by decide), v63]
        by_cases e : q' = q
        · subst e
          rw [if_pos rfl]
          exact (f13.2.2 j hj).symm
        · rw [if_neg e]
          exact g4 q' j (by omega) hj
      · rcases g8 t' ht' with ⟨b1, x, hx, hxt⟩ | ⟨b1, b2⟩
        · refine Or.inl ⟨b1, x, by omega, ?_⟩
          rw [m20, if_neg (by omega)]
          exact hxt
        · refine Or.inr ⟨b1, fun x hx => ?_⟩
          rw [m20]
          by_cases e2 : x = (q : Int)
          · rw [if_pos e2]; omega
          · rw [if_neg e2]; exact b2 x (by omega)
      · rw [m19]
        by_cases e2 : x = (q : Int)
        · rw [if_pos e2]; exact Or.inl rfl
        · rw [if_neg e2]
          have := g11 x hx0 (by omega)
          omega
      · rw [m20] at hn
        rw [m20, m20] at he
        by_cases e1 : q1 = (q : Int)
        · rw [if_pos e1] at hn
          exact absurd rfl hn
        · by_cases e2 : q2 = (q : Int)
          · rw [if_neg e1] at hn
            rw [if_neg e1, if_pos e2] at he
            exact absurd he hn
          · rw [if_neg e1] at hn
            rw [if_neg e1, if_neg e2] at he
            exact g12 q1 q2 (by omega) (by omega) hn he
    refine ⟨?_, fun _ => ?_, hRz, hIz, ?_⟩
    · rw [hz, ust_c (by decide), ust_c (by decide), ust_c (by decide), ust_c (by decide), ust_c (by decide), ust_s, hr, hk]
    · rw [hz, ust_c (by decide), ust_c (by decide), ust_c (by decide), ust_c (by decide), ust_c (by decide), ust_c (by decide), h1, ust_s, Int64.ofInt_toInt, hb, e33, hqm]
    · rw [e330, h1, ust_c (by decide), lyS_33, e33, hqm]
  · have hkk : kLayer st1 a b ≠ 0 := by rw [h1]; exact hk
    unfold sLayer at hz
    rw [if_neg hkk, h1] at hz
    rw [h1]
    exact rc_no hr hk (fun _ _ _ _ => rfl) hz hR hIz
