def RC (wb : Int) (st : St) (r : Int32) (B : Int64) (z : St) : Prop := r = iI (z 0 0 0) ∧ (z 0 0 0 = 0 → Int64.ofInt (z 70 0 0) = B) ∧ RY z ∧ GI wb z ∧ z 33 0 0 = st 33 0 0
theorem rc_no {wb K : Int} {st st1 z : St} {r : Int32} {B : Int64} (hr : r = iI K) (hK : K ≠ 0) (h1 : ∀ (c o : Nat) (i : Int), c ∉ rXX → st1 c o i = st c o i) (hz : z = ust st1 0 0 0 K) (hR : RY st) (hI : GI wb z) : RC wb st r B z := by
  refine ⟨by rw [hz, ust_s]; exact hr, fun h => absurd (by rw [hz, ust_s] at h; exact h) hK, RY_fr (x := st) (fun c o i hc => ?_) hR, hI, ?_⟩
  · rw [hz, ust_c (fun e => hc (by rw [e]; decide)), h1 c o i hc]
  · rw [hz, ust_c (by decide), h1 33 0 0 (by decide)]
theorem rc_yes {wb K : Int} {st core z : St} {r : Int32} {X B : Int64} (hr : r = iI K) (hK : K = 0) (h0 : z 0 0 0 = 0) (h70 : z 70 0 0 = X.toInt) (hX : X = B) (hc : ∀ (c o : Nat) (i : Int), c ∉ rXX → z c o i = core c o i) (hR : RY core) (hI : GI wb z) (h33 : core 33 0 0 = st 33 0 0) : RC wb st r B z := by
  refine ⟨by rw [h0, hr, hK], fun _ => by rw [h70, Int64.ofInt_toInt, hX], RY_fr hc hR, hI, ?_⟩
  rw [hc 33 0 0 (by decide), h33]
theorem rc_weight {wb : Int} {st st1 z : St} (a : Int) (i : Int) (o : Int) (w : Int) {r : Int32} {b9 : Int32} (hR : RY st) (hI : GI wb st) (hL : r = iI (kWeight st a i o w) ∧ ((kWeight st a i o w = 0 ∧ ∃ s1 : St, (s1 = ust st 62 (a).toNat (4 * i + o) w) ∧ st1 = ust s1 70 0 0 ((iI (st 62 (a).toNat (4 * i + o))).toInt64).toInt) ∨ (kWeight st a i o w ≠ 0 ∧ st1 = st)) ∧ GI wb st1) (hM : b9 = iI (aWeight st1 a i o w) ∧ z = sWeight st1 a i o w ∧ GI wb z) : RC wb st r b9.toInt64 z := by
  obtain ⟨hr, hc, -⟩ := hL
  obtain ⟨hb, hz, hIz⟩ := hM
  have hks := kWeight_s st a i o w
  rcases hc with ⟨hk, s1, hs1, h1⟩ | ⟨hk, h1⟩
  · have hmd : st1 = mgS st st1 := mg_of (fun c o i hc => by rw [h1, hs1, ust_c (by omega), ust_c (by omega)])
    have hkk : kWeight st1 a i o w = 0 := (congrArg (fun y => kWeight y a i o w) hmd).trans hk
    unfold sWeight at hz
    unfold aWeight at hb
    rw [if_pos hkk, hkk] at hz
    rw [if_pos hkk] at hb
    have h15 := gI_15 hI 0 a
    have h16 := gI_16 hI 0 a
    refine rc_yes (X := ((iI (st 62 (a).toNat (4 * i + o))).toInt64)) (core := ust (ust st 62 (a).toNat (4 * i + o) w) 17 0 (32 * a + 4 * i + o) w) hr hk ?_ ?_ ?_ (fun c o i hc => by
      have h0 : ¬ c = 0 := fun e => hc (by rw [e]; decide)
      have h70 : ¬ c = 70 := fun e => hc (by rw [e]; decide)
      rw [hz, h1, hs1]
      simp only [ust, if_neg h0, if_neg h70]) ?_ hIz ?_
    · rw [hz, ust_c (by decide), ust_s]
    · rw [hz, ust_c (by decide), ust_c (by decide), h1, ust_s]
    · rw [hb]
      try rw [h1, hs1]
      repeat rw [ust_c (by decide)]
      have h9 := hR.2.2.1 a.toNat (4 * i + o) (by omega) (by omega)
      rw [show 32 * ((a.toNat : Nat) : Int) + (4 * i + o) = 32 * a + 4 * i + o by omega] at h9
      rw [h9]
    · have h9 := RYp_17 hR (q := a.toNat) (j := 4 * i + o) (w := w) (by omega) (by omega)
      rw [show 32 * ((a.toNat : Nat) : Int) + (4 * i + o) = 32 * a + 4 * i + o by omega] at h9
      exact h9
    · rfl
  · have hkk : kWeight st1 a i o w ≠ 0 := by rw [h1]; exact hk
    unfold sWeight at hz
    rw [if_neg hkk] at hz
    rw [h1] at hz
    exact rc_no hr hk (fun _ _ _ _ => rfl) hz hR hIz
theorem rc_shift {wb : Int} {st st1 z : St} (a : Int) (b : Int) {r : Int32} {b9 : Int32} (hR : RY st) (hI : GI wb st) (hL : r = iI (kShift st a b) ∧ ((kShift st a b = 0 ∧ ∃ s1 : St, (s1 = ust st 64 (a).toNat 0 b) ∧ st1 = ust s1 70 0 0 ((iI (st 64 (a).toNat 0)).toInt64).toInt) ∨ (kShift st a b ≠ 0 ∧ st1 = st)) ∧ GI wb st1) (hM : b9 = iI (aShift st1 a b) ∧ z = sShift st1 a b ∧ GI wb z) : RC wb st r b9.toInt64 z := by
  obtain ⟨hr, hc, -⟩ := hL
  obtain ⟨hb, hz, hIz⟩ := hM
  have hks := kShift_s st a b
  rcases hc with ⟨hk, s1, hs1, h1⟩ | ⟨hk, h1⟩
  · have hmd : st1 = mgS st st1 := mg_of (fun c o i hc => by rw [h1, hs1, ust_c (by omega), ust_c (by omega)])
    have hkk : kShift st1 a b = 0 := (congrArg (fun y => kShift y a b) hmd).trans hk
    unfold sShift at hz
    unfold aShift at hb
    rw [if_pos hkk, hkk] at hz
    rw [if_pos hkk] at hb
    refine rc_yes (X := ((iI (st 64 (a).toNat 0)).toInt64)) (core := ust (ust st 64 (a).toNat 0 b) 18 0 a b) hr hk ?_ ?_ ?_ (fun c o i hc => by
      have h0 : ¬ c = 0 := fun e => hc (by rw [e]; decide)
      have h70 : ¬ c = 70 := fun e => hc (by rw [e]; decide)
      rw [hz, h1, hs1]
      simp only [ust, if_neg h0, if_neg h70]) ?_ hIz ?_
    · rw [hz, ust_c (by decide), ust_s]
    · rw [hz, ust_c (by decide), ust_c (by decide), h1, ust_s]
    · rw [hb]
      try rw [h1, hs1]
      repeat rw [ust_c (by decide)]
      have h9 := (hR.2.1 a.toNat (by omega)).2.2.1
      rw [show ((a.toNat : Nat) : Int) = a by omega] at h9
      rw [h9]
    · have h9 := RYp_18 hR (q := a.toNat) (w := b) (by omega)
      rw [show ((a.toNat : Nat) : Int) = a by omega] at h9
      exact h9
    · rfl
  · have hkk : kShift st1 a b ≠ 0 := by rw [h1]; exact hk
    unfold sShift at hz
    rw [if_neg hkk] at hz
    rw [h1] at hz
    exact rc_no hr hk (fun _ _ _ _ => rfl) hz hR hIz
theorem rc_next {wb : Int} {st st1 z : St} (a : Int) (b : Int) {r : Int32} {b9 : Int32} (hR : RY st) (hI : GI wb st) (hL : r = iI (kNext st a b) ∧ ((kNext st a b = 0 ∧ ∃ s1 : St, (s1 = ust st 65 (a).toNat 0 b) ∧ st1 = ust s1 70 0 0 ((iI (st 65 (a).toNat 0)).toInt64).toInt) ∨ (kNext st a b ≠ 0 ∧ st1 = st)) ∧ GI wb st1) (hM : b9 = iI (aNext st1 a b) ∧ z = sNext st1 a b ∧ GI wb z) : RC wb st r b9.toInt64 z := by
  obtain ⟨hr, hc, -⟩ := hL
  obtain ⟨hb, hz, hIz⟩ := hM
  have hks := kNext_s st a b
  rcases hc with ⟨hk, s1, hs1, h1⟩ | ⟨hk, h1⟩
  · have hmd : st1 = mgS st st1 := mg_of (fun c o i hc => by rw [h1, hs1, ust_c (by omega), ust_c (by omega)])
    have hkk : kNext st1 a b = 0 := (congrArg (fun y => kNext y a b) hmd).trans hk
    unfold sNext at hz
    unfold aNext at hb
    rw [if_pos hkk, hkk] at hz
    rw [if_pos hkk] at hb
    refine rc_yes (X := ((iI (st 65 (a).toNat 0)).toInt64)) (core := ust (ust st 65 (a).toNat 0 b) 19 0 a b) hr hk ?_ ?_ ?_ (fun c o i hc => by
      have h0 : ¬ c = 0 := fun e => hc (by rw [e]; decide)
      have h70 : ¬ c = 70 := fun e => hc (by rw [e]; decide)
      rw [hz, h1, hs1]
      simp only [ust, if_neg h0, if_neg h70]) ?_ hIz ?_
    · rw [hz, ust_c (by decide), ust_s]
    · rw [hz, ust_c (by decide), ust_c (by decide), h1, ust_s]
    · rw [hb]
      try rw [h1, hs1]
      repeat rw [ust_c (by decide)]
      have h9 := (hR.2.1 a.toNat (by omega)).2.2.2.1
      rw [show ((a.toNat : Nat) : Int) = a by omega] at h9
      rw [h9]
    · have h9 := RYp_19 hR (q := a.toNat) (w := b) (by omega)
      rw [show ((a.toNat : Nat) : Int) = a by omega] at h9
      exact h9
    · rfl
  · have hkk : kNext st1 a b ≠ 0 := by rw [h1]; exact hk
    unfold sNext at hz
    rw [if_neg hkk] at hz
    rw [h1] at hz
    exact rc_no hr hk (fun _ _ _ _ => rfl) hz hR hIz
theorem rc_lift {wb : Int} {st st1 z : St} (a : Int) {r : Int32} {b9 : Int32} (hR : RY st) (hI : GI wb st) (hL : r = iI (kPlaced st a) ∧ ((kPlaced st a = 0 ∧ ∃ s1 : St, (s1 = ust (ust st 66 (a).toNat 0 (-1)) 50 (st 66 (a).toNat 0).toNat 0 0) ∧ st1 = ust s1 70 0 0 ((iI (st 66 (a).toNat 0)).toInt64).toInt) ∨ (kPlaced st a ≠ 0 ∧ st1 = st)) ∧ GI wb st1) (hM : b9 = iI (aLift st1 a) ∧ z = sLift st1 a ∧ GI wb z) : RC wb st r b9.toInt64 z := by
  obtain ⟨hr, hc, -⟩ := hL
  obtain ⟨hb, hz, hIz⟩ := hM
  have hks := kPlaced_s st a
  rcases hc with ⟨hk, s1, hs1, h1⟩ | ⟨hk, h1⟩
  · have hmd : st1 = mgS st st1 := mg_of (fun c o i hc => by rw [h1, hs1, ust_c (by omega), ust_c (by omega), ust_c (by omega)])
    have hkk : kPlaced st1 a = 0 := (congrArg (fun y => kPlaced y a) hmd).trans hk
    unfold sLift at hz
    unfold aLift at hb
    rw [if_pos hkk, hkk] at hz
    rw [if_pos hkk] at hb
    refine rc_yes (X := ((iI (st 66 (a).toNat 0)).toInt64)) (core := ust (ust (ust st 66 (a).toNat 0 (-1)) 20 0 a (-1)) 50 (st 66 (a).toNat 0).toNat 0 0) hr hk ?_ ?_ ?_ (fun c o i hc => by
      have h0 : ¬ c = 0 := fun e => hc (by rw [e]; decide)
      have h70 : ¬ c = 70 := fun e => hc (by rw [e]; decide)
      rw [hz, h1, hs1]
      by_cases e20 : c = 20
      · subst e20; simp [ust]
      · by_cases e50 : c = 50
        · subst e50; simp [ust]
        · simp only [ust, if_neg h0, if_neg h70, if_neg e20, if_neg e50]) ?_ hIz ?_
    · rw [hz, ust_c (by decide), ust_s]
    · rw [hz, ust_c (by decide), ust_c (by decide), h1, ust_s]
    · rw [hb]
      try rw [h1, hs1]
      repeat rw [ust_c (by decide)]
      have h9 := (hR.2.1 a.toNat (by omega)).2.2.2.2
      rw [show ((a.toNat : Nat) : Int) = a by omega] at h9
      rw [h9]
    · have h8 := (hR.2.1 a.toNat (by omega)).2.2.2.2
      have h7 := gI_20 hI 0 a
      have h9 := RYp_lift hR (q := a.toNat) (t := (st 66 (a).toNat 0).toNat) (by omega) (by rw [show ((a.toNat : Nat) : Int) = a by omega] at h8 ⊢; omega)
      rw [show ((a.toNat : Nat) : Int) = a by omega] at h9
      exact h9
    · rfl
  · have hkk : kPlaced st1 a ≠ 0 := by rw [h1]; exact hk
    unfold sLift at hz
    rw [if_neg hkk] at hz
    rw [h1] at hz
    exact rc_no hr hk (fun _ _ _ _ => rfl) hz hR hIz
theorem rc_drift {wb : Int} {st st1 z : St} (v : Int) {r : Int32} {b9 : Int32} (hR : RY st) (hI : GI wb st) (hL : r = iI (kRange 0 1000 v) ∧ ((kRange 0 1000 v = 0 ∧ ∃ s1 : St, (s1 = ust st 31 0 0 v) ∧ st1 = ust s1 70 0 0 ((iI (st 31 0 0)).toInt64).toInt) ∨ (kRange 0 1000 v ≠ 0 ∧ st1 = st)) ∧ GI wb st1) (hM : b9 = iI (aDrift st1 v) ∧ z = sDrift st1 v ∧ GI wb z) : RC wb st r b9.toInt64 z := by
  obtain ⟨hr, hc, -⟩ := hL
  obtain ⟨hb, hz, hIz⟩ := hM
  have hks := kRange_s 0 1000 v
  rcases hc with ⟨hk, s1, hs1, h1⟩ | ⟨hk, h1⟩
  · have hmd : st1 = mgS st st1 := mg_of (fun c o i hc => by rw [h1, hs1, ust_c (by omega), ust_c (by omega)])
    have hkk : kRange 0 1000 v = 0 := hk
    unfold sDrift at hz
    unfold aDrift at hb
    rw [if_pos hkk, hkk] at hz
    rw [if_pos hkk] at hb
    refine rc_yes (X := ((iI (st 31 0 0)).toInt64)) (core := ust (ust st 31 0 0 v) 2 0 0 v) hr hk ?_ ?_ ?_ (fun c o i hc => by
      have h0 : ¬ c = 0 := fun e => hc (by rw [e]; decide)
      have h70 : ¬ c = 70 := fun e => hc (by rw [e]; decide)
      rw [hz, h1, hs1]
      simp only [ust, if_neg h0, if_neg h70]) ?_ hIz ?_
    · rw [hz, ust_c (by decide), ust_s]
    · rw [hz, ust_c (by decide), ust_c (by decide), h1, ust_s]
    · rw [hb]
      try rw [h1, hs1]
      repeat rw [ust_c (by decide)]
      rw [hR.1.2.2.1]
    · exact RYp_2 hR
    · rfl
  · have hkk : kRange 0 1000 v ≠ 0 := hk
    unfold sDrift at hz
    rw [if_neg hkk] at hz
    rw [h1] at hz
    exact rc_no hr hk (fun _ _ _ _ => rfl) hz hR hIz
theorem rc_endurance {wb : Int} {st st1 z : St} (v : Int) {r : Int32} {b9 : Int32} (hR : RY st) (hI : GI wb st) (hL : r = iI (kRange 1 100000 v) ∧ ((kRange 1 100000 v = 0 ∧ ∃ s1 : St, (s1 = ust st 32 0 0 v) ∧ st1 = ust s1 70 0 0 ((iI (st 32 0 0)).toInt64).toInt) ∨ (kRange 1 100000 v ≠ 0 ∧ st1 = st)) ∧ GI wb st1) (hM : b9 = iI (aEndur st1 v) ∧ z = sEndur st1 v ∧ GI wb z) : RC wb st r b9.toInt64 z := by
  obtain ⟨hr, hc, -⟩ := hL
  obtain ⟨hb, hz, hIz⟩ := hM
  have hks := kRange_s 1 100000 v
  rcases hc with ⟨hk, s1, hs1, h1⟩ | ⟨hk, h1⟩
  · have hmd : st1 = mgS st st1 := mg_of (fun c o i hc => by rw [h1, hs1, ust_c (by omega), ust_c (by omega)])
    have hkk : kRange 1 100000 v = 0 := hk
    unfold sEndur at hz
    unfold aEndur at hb
    rw [if_pos hkk, hkk] at hz
    rw [if_pos hkk] at hb
    refine rc_yes (X := ((iI (st 32 0 0)).toInt64)) (core := ust (ust st 32 0 0 v) 3 0 0 v) hr hk ?_ ?_ ?_ (fun c o i hc => by
      have h0 : ¬ c = 0 := fun e => hc (by rw [e]; decide)
      have h70 : ¬ c = 70 := fun e => hc (by rw [e]; decide)
      rw [hz, h1, hs1]
      simp only [ust, if_neg h0, if_neg h70]) ?_ hIz ?_
    · rw [hz, ust_c (by decide), ust_s]
    · rw [hz, ust_c (by decide), ust_c (by decide), h1, ust_s]
    · rw [hb]
      try rw [h1, hs1]
      repeat rw [ust_c (by decide)]
      rw [hR.1.2.2.2]
    · exact RYp_3 hR
    · rfl
  · have hkk : kRange 1 100000 v ≠ 0 := hk
    unfold sEndur at hz
    rw [if_neg hkk] at hz
    rw [h1] at hz
    exact rc_no hr hk (fun _ _ _ _ => rfl) hz hR hIz
theorem rc_pass {wb : Int} {st st1 z : St} (v : Int) {r : Int32} {b9 : Int32} (hR : RY st) (hI : GI wb st) (hL : r = iI (kPass st v) ∧ ((kPass st v = 0 ∧ ∃ s1 : St, (s1 = ust st 30 0 0 (st 30 0 0 + v)) ∧ st1 = ust s1 70 0 0 ((iI (st 30 0 0 + v)).toInt64).toInt) ∨ (kPass st v ≠ 0 ∧ st1 = st)) ∧ GI wb st1) (hM : b9 = iI (aPass st1 v) ∧ z = sPass st1 v ∧ GI wb z) : RC wb st r b9.toInt64 z := by
  obtain ⟨hr, hc, -⟩ := hL
  obtain ⟨hb, hz, hIz⟩ := hM
  have hks := kPass_s st v
  rcases hc with ⟨hk, s1, hs1, h1⟩ | ⟨hk, h1⟩
  · have hmd : st1 = mgS st st1 := mg_of (fun c o i hc => by rw [h1, hs1, ust_c (by omega), ust_c (by omega)])
    have hkk : kPass st1 v = 0 := (congrArg (fun y => kPass y v) hmd).trans hk
    unfold sPass at hz
    unfold aPass at hb
    rw [if_pos hkk, hkk] at hz
    rw [if_pos hkk] at hb
    rw [show st1 1 0 0 = st 30 0 0 from by rw [h1, hs1, ust_c (by decide), ust_c (by decide), hR.1.2.1]] at hz hb
    refine rc_yes (X := ((iI (st 30 0 0 + v)).toInt64)) (core := ust (ust st 30 0 0 (st 30 0 0 + v)) 1 0 0 (st 30 0 0 + v)) hr hk ?_ ?_ ?_ (fun c o i hc => by
      have h0 : ¬ c = 0 := fun e => hc (by rw [e]; decide)
      have h70 : ¬ c = 70 := fun e => hc (by rw [e]; decide)
      rw [hz, h1, hs1]
      simp only [ust, if_neg h0, if_neg h70]) ?_ hIz ?_
    · rw [hz, ust_c (by decide), ust_s]
    · rw [hz, ust_c (by decide), ust_c (by decide), h1, ust_s]
    · rw [hb]
    · have h9 := hR.1.2.1
      exact RYp_1 hR (by omega)
    · rfl
  · have hkk : kPass st1 v ≠ 0 := by rw [h1]; exact hk
    unfold sPass at hz
    rw [if_neg hkk] at hz
    rw [h1] at hz
    exact rc_no hr hk (fun _ _ _ _ => rfl) hz hR hIz
theorem rc_converter {wb : Int} {st st1 z : St} (t0 : Int) (a : Int) (b : Int) {r : Int32} {b9 : Int32} (hR : RY st) (hI : GI wb st) (hL : r = iI (kConv t0 a b) ∧ ((kConv t0 a b = 0 ∧ ∃ s1 : St, (s1 = ust (ust st 46 (t0).toNat 0 a) 47 (t0).toNat 0 b) ∧ st1 = ust s1 70 0 0 ((iI (1000 * st 46 (t0).toNat 0 + st 47 (t0).toNat 0)).toInt64).toInt) ∨ (kConv t0 a b ≠ 0 ∧ st1 = st)) ∧ GI wb st1) (hM : b9 = iI (aConv st1 t0 a b) ∧ z = sConv st1 t0 a b ∧ GI wb z) : RC wb st r b9.toInt64 z := by
  obtain ⟨hr, hc, -⟩ := hL
  obtain ⟨hb, hz, hIz⟩ := hM
  have hks := kConv_s t0 a b
  rcases hc with ⟨hk, s1, hs1, h1⟩ | ⟨hk, h1⟩
  · have hmd : st1 = mgS st st1 := mg_of (fun c o i hc => by rw [h1, hs1, ust_c (by omega), ust_c (by omega), ust_c (by omega)])
    have hkk : kConv t0 a b = 0 := hk
    unfold sConv at hz
    unfold aConv at hb
    rw [if_pos hkk, hkk] at hz
    rw [if_pos hkk] at hb
    refine rc_yes (X := ((iI (1000 * st 46 (t0).toNat 0 + st 47 (t0).toNat 0)).toInt64)) (core := ust (ust (ust (ust st 46 (t0).toNat 0 a) 9 0 t0 a) 47 (t0).toNat 0 b) 10 0 t0 b) hr hk ?_ ?_ ?_ (fun c o i hc => by
      have h0 : ¬ c = 0 := fun e => hc (by rw [e]; decide)
      have h70 : ¬ c = 70 := fun e => hc (by rw [e]; decide)
      rw [hz, h1, hs1]
      by_cases e9 : c = 9
      · subst e9; simp [ust]
      · by_cases e10 : c = 10
        · subst e10; simp [ust]
        · simp only [ust, if_neg h0, if_neg h70, if_neg e9, if_neg e10]) ?_ hIz ?_
    · rw [hz, ust_c (by decide), ust_c (by decide), ust_s]
    · rw [hz, ust_c (by decide), ust_c (by decide), ust_c (by decide), h1, ust_s]
    · rw [hb]
      try rw [h1, hs1]
      repeat rw [ust_c (by decide)]
      have h9 := hR.2.2.2.2.2.1 t0.toNat (by omega)
      rw [show ((t0.toNat : Nat) : Int) = t0 by omega] at h9
      rw [h9.1, h9.2.1]
    · have h9 := RYp_t (RYp_t hR (cc := 46) (cm := 9) (by omega) (t := t0.toNat) (w := a)) (cc := 47) (cm := 10) (by omega) (t := t0.toNat) (w := b)
      rw [show ((t0.toNat : Nat) : Int) = t0 by omega] at h9
      exact h9
    · rfl
  · have hkk : kConv t0 a b ≠ 0 := hk
    unfold sConv at hz
    rw [if_neg hkk] at hz
    rw [h1] at hz
    exact rc_no hr hk (fun _ _ _ _ => rfl) hz hR hIz
theorem rc_offset {wb : Int} {st st1 z : St} (t0 : Int) (d : Int) (v : Int) {r : Int32} {b9 : Int32} (hR : RY st) (hI : GI wb st) (hL : r = iI (kOffs t0 d v) ∧ ((kOffs t0 d v = 0 ∧ ∃ s1 : St, (s1 = ust st 45 (t0).toNat d v) ∧ st1 = ust s1 70 0 0 ((iI (st 45 (t0).toNat d)).toInt64).toInt) ∨ (kOffs t0 d v ≠ 0 ∧ st1 = st)) ∧ GI wb st1) (hM : b9 = iI (aOffs st1 t0 d v) ∧ z = sOffs st1 t0 d v ∧ GI wb z) : RC wb st r b9.toInt64 z := by
  obtain ⟨hr, hc, -⟩ := hL
  obtain ⟨hb, hz, hIz⟩ := hM
  have hks := kOffs_s t0 d v
  rcases hc with ⟨hk, s1, hs1, h1⟩ | ⟨hk, h1⟩
  · have hmd : st1 = mgS st st1 := mg_of (fun c o i hc => by rw [h1, hs1, ust_c (by omega), ust_c (by omega)])
    have hkk : kOffs t0 d v = 0 := hk
    unfold sOffs at hz
    unfold aOffs at hb
    rw [if_pos hkk, hkk] at hz
    rw [if_pos hkk] at hb
    refine rc_yes (X := ((iI (st 45 (t0).toNat d)).toInt64)) (core := ust (ust st 45 (t0).toNat d v) 11 0 (16 * t0 + d) v) hr hk ?_ ?_ ?_ (fun c o i hc => by
      have h0 : ¬ c = 0 := fun e => hc (by rw [e]; decide)
      have h70 : ¬ c = 70 := fun e => hc (by rw [e]; decide)
      rw [hz, h1, hs1]
      simp only [ust, if_neg h0, if_neg h70]) ?_ hIz ?_
    · rw [hz, ust_c (by decide), ust_s]
    · rw [hz, ust_c (by decide), ust_c (by decide), h1, ust_s]
    · rw [hb]
      try rw [h1, hs1]
      repeat rw [ust_c (by decide)]
      have h9 := hR.2.2.2.2.2.2.1 t0.toNat d (by omega) (by omega)
      rw [show ((t0.toNat : Nat) : Int) = t0 by omega] at h9
      rw [h9]
    · have h9 := RYp_11 hR (t := t0.toNat) (d := d) (w := v) (by omega)
      rw [show ((t0.toNat : Nat) : Int) = t0 by omega] at h9
      exact h9
    · rfl
  · have hkk : kOffs t0 d v ≠ 0 := hk
    unfold sOffs at hz
    rw [if_neg hkk] at hz
    rw [h1] at hz
    exact rc_no hr hk (fun _ _ _ _ => rfl) hz hR hIz
theorem rc_calibrate {wb : Int} {st st1 z : St} (t0 : Int) (v : Int) {r : Int32} {b9 : Int32} (hR : RY st) (hI : GI wb st) (hL : r = iI (kRange 0 5 t0) ∧ ((kRange 0 5 t0 = 0 ∧ ∃ s1 : St, (s1 = ust st 48 (t0).toNat 0 v) ∧ st1 = ust s1 70 0 0 ((if iI (st 48 (t0).toNat 0) = iI 0 then (0 : Int64) else 1)).toInt) ∨ (kRange 0 5 t0 ≠ 0 ∧ st1 = st)) ∧ GI wb st1) (hM : b9 = iI (aCal st1 t0) ∧ z = sCal st1 t0 v ∧ GI wb z) : RC wb st r (if b9 = iI 0 then (0 : Int64) else 1) z := by
  obtain ⟨hr, hc, -⟩ := hL
  obtain ⟨hb, hz, hIz⟩ := hM
  have hks := kRange_s 0 5 t0
  rcases hc with ⟨hk, s1, hs1, h1⟩ | ⟨hk, h1⟩
  · have hmd : st1 = mgS st st1 := mg_of (fun c o i hc => by rw [h1, hs1, ust_c (by omega), ust_c (by omega)])
    have hkk : kRange 0 5 t0 = 0 := hk
    unfold sCal at hz
    unfold aCal at hb
    rw [if_pos hkk, hkk] at hz
    rw [if_pos hkk] at hb
    refine rc_yes (X := ((if iI (st 48 (t0).toNat 0) = iI 0 then (0 : Int64) else 1))) (core := ust (ust st 48 (t0).toNat 0 v) 12 0 t0 v) hr hk ?_ ?_ ?_ (fun c o i hc => by
      have h0 : ¬ c = 0 := fun e => hc (by rw [e]; decide)
      have h70 : ¬ c = 70 := fun e => hc (by rw [e]; decide)
      rw [hz, h1, hs1]
      simp only [ust, if_neg h0, if_neg h70]) ?_ hIz ?_
    · rw [hz, ust_c (by decide), ust_s]
    · rw [hz, ust_c (by decide), ust_c (by decide), h1, ust_s]
    · rw [hb]
      try rw [h1, hs1]
      repeat rw [ust_c (by decide)]
      have h9 := (hR.2.2.2.2.2.1 t0.toNat (by omega)).2.2.1
      rw [show ((t0.toNat : Nat) : Int) = t0 by omega] at h9
      rw [h9]
    · have h9 := RYp_t hR (cc := 48) (cm := 12) (by omega) (t := t0.toNat) (w := v)
      rw [show ((t0.toNat : Nat) : Int) = t0 by omega] at h9
      exact h9
    · rfl
  · have hkk : kRange 0 5 t0 ≠ 0 := hk
    unfold sCal at hz
    rw [if_neg hkk] at hz
    rw [h1] at hz
    exact rc_no hr hk (fun _ _ _ _ => rfl) hz hR hIz
theorem rc_converters {wb : Int} {st st1 z : St} (t0 : Int) (v : Int) {r : Int32} {b9 : Int32} (hR : RY st) (hI : GI wb st) (hL : r = iI (kMany t0 v) ∧ ((kMany t0 v = 0 ∧ ∃ s1 : St, (s1 = ust st 49 (t0).toNat 0 v) ∧ st1 = ust s1 70 0 0 ((iI (st 49 (t0).toNat 0)).toInt64).toInt) ∨ (kMany t0 v ≠ 0 ∧ st1 = st)) ∧ GI wb st1) (hM : b9 = iI (aMany st1 t0 v) ∧ z = sMany st1 t0 v ∧ GI wb z) : RC wb st r b9.toInt64 z := by
  obtain ⟨hr, hc, -⟩ := hL
  obtain ⟨hb, hz, hIz⟩ := hM
  have hks := kMany_s t0 v
  rcases hc with ⟨hk, s1, hs1, h1⟩ | ⟨hk, h1⟩
  · have hmd : st1 = mgS st st1 := mg_of (fun c o i hc => by rw [h1, hs1, ust_c (by omega), ust_c (by omega)])
    have hkk : kMany t0 v = 0 := hk
    unfold sMany at hz
    unfold aMany at hb
    rw [if_pos hkk, hkk] at hz
    rw [if_pos hkk] at hb
    refine rc_yes (X := ((iI (st 49 (t0).toNat 0)).toInt64)) (core := ust (ust st 49 (t0).toNat 0 v) 13 0 t0 v) hr hk ?_ ?_ ?_ (fun c o i hc => by
      have h0 : ¬ c = 0 := fun e => hc (by rw [e]; decide)
      have h70 : ¬ c = 70 := fun e => hc (by rw [e]; decide)
      rw [hz, h1, hs1]
      simp only [ust, if_neg h0, if_neg h70]) ?_ hIz ?_
    · rw [hz, ust_c (by decide), ust_s]
    · rw [hz, ust_c (by decide), ust_c (by decide), h1, ust_s]
    · rw [hb]
      try rw [h1, hs1]
      repeat rw [ust_c (by decide)]
      have h9 := (hR.2.2.2.2.2.1 t0.toNat (by omega)).2.2.2
      rw [show ((t0.toNat : Nat) : Int) = t0 by omega] at h9
      rw [h9]
    · have h9 := RYp_t hR (cc := 49) (cm := 13) (by omega) (t := t0.toNat) (w := v)
      rw [show ((t0.toNat : Nat) : Int) = t0 by omega] at h9
      exact h9
    · rfl
  · have hkk : kMany t0 v ≠ 0 := hk
    unfold sMany at hz
    rw [if_neg hkk] at hz
    rw [h1] at hz
    exact rc_no hr hk (fun _ _ _ _ => rfl) hz hR hIz
