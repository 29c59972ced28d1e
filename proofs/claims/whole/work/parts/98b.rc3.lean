/-! ===== the relation kept: stick, layer, load ===== -/
theorem GI_0 {W wb K : Int} {st z : St} (h : GI W z) (hz : z = ust st 0 0 0 K) (hI : GI wb st) : GI wb z := by
  intro c hc o i
  by_cases e : c = 0
  · subst e
    exact h 0 hc o i
  · rw [hz, ust_c e]
    exact hI c hc o i
theorem ldS_c {y : St} {a : Int} {k o : Nat} {i : Int} (h : k < 4 ∨ 8 < k) : ldS y a k o i = y k o i := runW_c _ _ _ _ h i
theorem rc_stick {wb : Int} {st st1 z : St} (t0 r0 d v : Int) {r : Int32} (hR : RY st) (hI : GI wb st) (hL : r = iI (kStick st t0 r0 d v) ∧ ((kStick st t0 r0 d v = 0 ∧ ∃ s1 : St, (s1 = bsC st (t0).toNat (16 * r0 + d) v) ∧ st1 = s1) ∨ (kStick st t0 r0 d v ≠ 0 ∧ st1 = st)) ∧ GI wb st1) (hM : z = sStick st1 t0 r0 d v ∧ GI wb z) : RC wb st r (Int64.ofInt (z 70 0 0)) z := by
  obtain ⟨hr, hc, -⟩ := hL
  obtain ⟨hz, hIz⟩ := hM
  have hks := kStick_s st t0 r0 d v
  rcases hc with ⟨hk, s1, hs1, h1⟩ | ⟨hk, h1⟩
  · have hb43 : st 43 t0.toNat (16 * r0 + d) = 0 := by
      have h9 := (hR.2.2.2.2.1 t0.toNat (16 * r0 + d) (by omega) (by omega)).2.2.2.1
      rw [show 128 * ((t0.toNat : Nat) : Int) + (16 * r0 + d) = 128 * t0 + 16 * r0 + d by omega] at h9
      omega
    have hs : st1 = ust (ust st 43 t0.toNat (16 * r0 + d) 1) 40 t0.toNat (16 * r0 + d) v := by
      rw [h1, hs1]
      unfold bsC
      rw [if_neg (by omega)]
    have hmd : st1 = mgS st st1 := mg_of (fun c o i hc => by rw [hs, ust_c (by omega), ust_c (by omega)])
    have hkk : kStick st1 t0 r0 d v = 0 := (congrArg (fun y => kStick y t0 r0 d v) hmd).trans hk
    unfold sStick at hz
    rw [if_pos hkk, hkk] at hz
    unfold sSticks at hz
    have hC := RYp_cell (RYp_cell hR (cc := 43) (cm := 7) (by omega) (t := t0.toNat) (i := 16 * r0 + d) (w := 1) (by omega)) (cc := 40) (cm := 4) (by omega) (t := t0.toNat) (i := 16 * r0 + d) (w := v) (by omega)
    rw [show 128 * ((t0.toNat : Nat) : Int) + (16 * r0 + d) = 128 * t0 + 16 * r0 + d by omega] at hC
    refine ⟨?_, fun _ => rfl, RY_fr (fun c o i hc => ?_) hC, hIz, ?_⟩
    · rw [hz, ust_c (by decide), ust_c (by decide), ust_s, hr, hk]
    · have h0 : ¬ c = 0 := fun e => hc (by rw [e]; decide)
      rw [hz, hs]
      by_cases e4 : c = 4
      · subst e4; simp [ust]
      · by_cases e7 : c = 7
        · subst e7; simp [ust]
        · simp only [ust, if_neg h0, if_neg e4, if_neg e7]
    · rw [hz, hs, ust_c (by decide), ust_c (by decide), ust_c (by decide), ust_c (by decide), ust_c (by decide)]
  · have hkk : kStick st1 t0 r0 d v ≠ 0 := by rw [h1]; exact hk
    unfold sStick at hz
    rw [if_neg hkk, h1] at hz
    exact rc_no hr hk (fun _ _ _ _ => rfl) hz hR hIz
theorem rc_load {wb W : Int} {st st1 z : St} (a : Int) {r b9 : Int32} (hR : RY st) (hI : GI wb st) (hL : r = iI (kPlaced st a) ∧ ((kPlaced st a = 0 ∧ ∃ s1 : St, (s1 = ldCS st (a).toNat (st 66 (a).toNat 0).toNat) ∧ st1 = ust s1 70 0 0 ((iI (ldCF st (a).toNat (st 66 (a).toNat 0).toNat)).toInt64).toInt) ∨ (kPlaced st a ≠ 0 ∧ st1 = st)) ∧ GI (wb + 2048) st1) (hM : b9 = iI (if kPlaced st1 a = 0 then ldF (ust st1 0 0 0 (kPlaced st1 a)) a else 0) ∧ z = (if kPlaced st1 a = 0 then ldS (ust st1 0 0 0 (kPlaced st1 a)) a else ust st1 0 0 0 (kPlaced st1 a)) ∧ GI W z) : RC (wb + 2048) st r b9.toInt64 z := by
  obtain ⟨hr, hc, hI1⟩ := hL
  obtain ⟨hb, hz, hIz⟩ := hM
  have hks := kPlaced_s st a
  rcases hc with ⟨hk, s1, hs1, h1⟩ | ⟨hk, h1⟩
  · obtain ⟨q, hq⟩ : ∃ q : Nat, q = a.toNat := ⟨_, rfl⟩
    obtain ⟨t, ht⟩ : ∃ t : Nat, t = (st 66 a.toNat 0).toNat := ⟨_, rfl⟩
    rw [← ht, ← hq] at hs1 h1
    have hqa : (q : Int) = a := by omega
    have h66 := (hR.2.1 q (by omega)).2.2.2.2
    have h20r := gI_20 hI 0 a
    rw [hqa] at h66
    rw [← hq] at ht
    have hml : ∀ (c o : Nat) (i : Int), c < 30 → st1 c o i = st c o i := fun c o i hc => by
      rw [h1, hs1, ust_c (by omega)]
      exact rwC_c _ _ _ _ _ (by omega) i
    have hmd : st1 = mgS st st1 := mg_of hml
    have hkk : kPlaced st1 a = 0 := (congrArg (fun y => kPlaced y a) hmd).trans hk
    rw [if_pos hkk, hkk] at hz hb
    obtain ⟨y, hy⟩ : ∃ y, y = ust st1 0 0 0 0 := ⟨_, rfl⟩
    rw [← hy] at hz hb
    have hyl : ∀ (c o : Nat) (i : Int), c < 30 → c ≠ 0 → y c o i = st c o i := fun c o i hc h0 => by rw [hy, ust_c h0, hml c o i hc]
    have hm : RY (mgS y st) := RY_fr (x := st) (fun c o i hc => by
      unfold mgS
      split
      · rename_i h30
        exact hyl c o i h30 (fun e => hc (by rw [e]; decide))
      · rfl) hR
    have hlc := ld_core (x := st) (y := y) (q := q) (t := t) hm (fun c o i h30 h70 => by rw [hy, ust_c (by omega), h1, ust_c h70, hs1]) (by rw [hyl 14 0 0 (by decide) (by decide)]; omega) (by omega) (by rw [hyl 20 0 _ (by decide) (by decide), hqa]; omega) (gI_60 hI q 0).2 (gI_61 hI q 0).2 (fun k => gI_63 hI q k)
    rw [hqa] at hlc
    obtain ⟨l1, l2, l3⟩ := hlc
    rw [← hz] at l2 l3
    refine ⟨?_, fun _ => ?_, l2, GI_tight hIz l2 (fun o i => ?_) (fun o i hni => ?_), ?_⟩
    · rw [hz, ldS_c (by decide), hy, ust_s, hr, hk]
    · rw [hz, ldS_c (by decide), hy, ust_c (by decide), h1, ust_s, Int64.ofInt_toInt, hb, l1]
    · rw [hz, ldS_c (by decide), hy, ust_c (by decide)]
      exact (hI1 41 (by decide) o i).2
    · rw [l3 5 o i hni, hyl 5 o i (by decide) (by decide)]
      have := (hI 5 (by decide) o i).2
      have e : ghi wb 5 = wb := rfl
      omega
    · rw [hz, ldS_c (by decide), hy, ust_c (by decide), h1, ust_c (by decide), hs1]
      exact rwC_c _ _ _ _ _ (by decide) 0
  · have hkk : kPlaced st1 a ≠ 0 := by rw [h1]; exact hk
    rw [if_neg hkk, h1] at hz
    exact rc_no hr hk (fun _ _ _ _ => rfl) hz hR (GI_mono (by omega) (GI_0 hIz hz hI))
