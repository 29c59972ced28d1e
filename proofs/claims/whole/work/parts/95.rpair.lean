/-! ===== the relation under writes on both sides ===== -/
theorem us_n {st : St} {c1 c2 o1 o2 : Nat} {i1 i2 v1 v2 : Int} {c o : Nat} {i : Int} (h1 : c ≠ c1) (h2 : c ≠ c2) : ust (ust st c1 o1 i1 v1) c2 o2 i2 v2 c o i = st c o i := by rw [ust_c h2, ust_c h1]
theorem us_pair {st : St} {cc cm q : Nat} {j J w : Int} (hne : cc ≠ cm) {q' : Nat} {j' J' : Int} (h0 : st cc q' j' = st cm 0 J') (hiff : (q' = q ∧ j' = j) ↔ J' = J) : ust (ust st cc q j w) cm 0 J w cc q' j' = ust (ust st cc q j w) cm 0 J w cm 0 J' := by
  rw [ust_c hne, ust_if, ust_c (Ne.symm hne)]
  by_cases e : J' = J
  · obtain ⟨rfl, rfl⟩ := hiff.mpr e
    rw [if_pos e, ust_s]
  · rw [if_neg e, ← h0]
    by_cases e2 : q' = q
    · subst e2
      exact ust_i (fun z => e (hiff.mp ⟨rfl, z⟩))
    · exact ust_o e2
theorem RYp_17 {st : St} (hR : RY st) {q : Nat} {j w : Int} (hq : (q : Int) < st 14 0 0) (hj : 0 ≤ j ∧ j < 32) : RY (ust (ust st 62 q j w) 17 0 (32 * (q : Int) + j) w) := by
  obtain ⟨h1, h2, h3, h4, h5, h6, h7, h8, h9, h10, h11, h12, h13⟩ := hR
  refine ⟨h1, h2, fun q' j' hq' hj' => us_pair (by decide) (h3 q' j' hq' hj') (by omega), h4, h5, h6, h7, h8, h9, h10, h11, h12, fun q' hq' => ?_⟩
  have hq' : st 14 0 0 ≤ q' ∧ q' < 6 := hq'
  refine ⟨fun j' hj' => ?_, (h13 q' hq').2.1, (h13 q' hq').2.2⟩
  rw [ust_i (by omega), ust_c (by decide)]
  exact (h13 q' hq').1 j' hj'
theorem RYp_18 {st : St} (hR : RY st) {q : Nat} {w : Int} (hq : (q : Int) < st 14 0 0) : RY (ust (ust st 64 q 0 w) 18 0 (q : Int) w) := by
  obtain ⟨h1, h2, h3, h4, h5, h6, h7, h8, h9, h10, h11, h12, h13⟩ := hR
  refine ⟨h1, fun q' hq' => ?_, h3, h4, h5, h6, h7, h8, h9, h10, h11, h12, fun q' hq' => ?_⟩
  · obtain ⟨a, b, c, d, e⟩ := h2 q' hq'
    exact ⟨a, b, us_pair (by decide) c (by omega), d, e⟩
  · have hq' : st 14 0 0 ≤ q' ∧ q' < 6 := hq'
    refine ⟨(h13 q' hq').1, ?_, (h13 q' hq').2.2⟩
    rw [ust_i (by omega), ust_c (by decide)]
    exact (h13 q' hq').2.1
theorem RYp_19 {st : St} (hR : RY st) {q : Nat} {w : Int} (hw : w = -1 ∨ ((q : Int) < w ∧ w < st 14 0 0)) : RY (ust (ust st 65 q 0 w) 19 0 (q : Int) w) := by
  obtain ⟨h1, h2, h3, h4, h5, h6, h7, h8, h9, h10, h11, h12, h13⟩ := hR
  refine ⟨h1, fun q' hq' => ?_, h3, h4, h5, h6, h7, h8, h9, h10, fun q' hq0 hq' => ?_, h12, h13⟩
  · obtain ⟨a, b, c, d, e⟩ := h2 q' hq'
    exact ⟨a, b, c, us_pair (by decide) d (by omega), e⟩
  · have hq' : q' < st 14 0 0 := hq'
    have h0 := h11 q' hq0 hq'
    show ust _ 19 0 (q : Int) w 19 0 q' = -1 ∨ (q' < ust _ 19 0 (q : Int) w 19 0 q' ∧ ust _ 19 0 (q : Int) w 19 0 q' < st 14 0 0)
    rw [ust_if, ust_c (by decide)]
    by_cases e : q' = (q : Int)
    · rw [if_pos e, e]; exact hw
    · rw [if_neg e]; exact h0
theorem RYp_cell {st : St} (hR : RY st) {cc cm : Nat} (hp : (cc = 43 ∧ cm = 7) ∨ (cc = 40 ∧ cm = 4)) {t : Nat} {i w : Int} (hi : 0 ≤ i ∧ i < 128) : RY (ust (ust st cc t i w) cm 0 (128 * (t : Int) + i) w) := by
  obtain ⟨h1, h2, h3, h4, h5, h6, h7, h8, h9, h10, h11, h12, h13⟩ := hR
  rcases hp with ⟨rfl, rfl⟩ | ⟨rfl, rfl⟩
  · refine ⟨h1, h2, h3, h4, fun t' i' ht' hi' => ?_, h6, h7, h8, h9, h10, h11, h12, h13⟩
    obtain ⟨a, b, c, d, e⟩ := h5 t' i' ht' hi'
    exact ⟨a, b, c, us_pair (by decide) d (by omega), e⟩
  · refine ⟨h1, h2, h3, h4, fun t' i' ht' hi' => ?_, h6, h7, h8, h9, h10, h11, h12, h13⟩
    obtain ⟨a, b, c, d, e⟩ := h5 t' i' ht' hi'
    exact ⟨us_pair (by decide) a (by omega), b, c, d, e⟩
theorem RYp_2 {st : St} (hR : RY st) {w : Int} : RY (ust (ust st 31 0 0 w) 2 0 0 w) := by
  obtain ⟨⟨a, b, c, d⟩, h2, h3, h4, h5, h6, h7, h8, h9, h10, h11, h12, h13⟩ := hR
  exact ⟨⟨a, b, us_pair (by decide) c (by omega), d⟩, h2, h3, h4, h5, h6, h7, h8, h9, h10, h11, h12, h13⟩
theorem RYp_3 {st : St} (hR : RY st) {w : Int} : RY (ust (ust st 32 0 0 w) 3 0 0 w) := by
  obtain ⟨⟨a, b, c, d⟩, h2, h3, h4, h5, h6, h7, h8, h9, h10, h11, h12, h13⟩ := hR
  exact ⟨⟨a, b, c, us_pair (by decide) d (by omega)⟩, h2, h3, h4, h5, h6, h7, h8, h9, h10, h11, h12, h13⟩
theorem RYp_1 {st : St} (hR : RY st) {w : Int} (hw : st 1 0 0 ≤ w) : RY (ust (ust st 30 0 0 w) 1 0 0 w) := by
  obtain ⟨⟨a, b, c, d⟩, h2, h3, h4, h5, h6, h7, h8, h9, h10, h11, h12, h13⟩ := hR
  refine ⟨⟨a, us_pair (by decide) b (by omega), c, d⟩, h2, h3, h4, h5, h6, h7, h8, fun o j => ?_, fun j => ?_, h11, h12, h13⟩
  · have h0 := h9 o j
    show st 42 o j ≤ ust (ust st 30 0 0 w) 1 0 0 w 30 0 0
    rw [ust_c (by decide), ust_s]
    omega
  · have h0 := h10 j
    show st 6 0 j ≤ ust (ust st 30 0 0 w) 1 0 0 w 1 0 0
    rw [ust_s]
    omega
theorem RYp_t {st : St} (hR : RY st) {cc cm : Nat} (hp : (cc = 46 ∧ cm = 9) ∨ (cc = 47 ∧ cm = 10) ∨ (cc = 48 ∧ cm = 12) ∨ (cc = 49 ∧ cm = 13)) {t : Nat} {w : Int} : RY (ust (ust st cc t 0 w) cm 0 (t : Int) w) := by
  obtain ⟨h1, h2, h3, h4, h5, h6, h7, h8, h9, h10, h11, h12, h13⟩ := hR
  rcases hp with ⟨rfl, rfl⟩ | ⟨rfl, rfl⟩ | ⟨rfl, rfl⟩ | ⟨rfl, rfl⟩
  · refine ⟨h1, h2, h3, h4, h5, fun t' ht' => ?_, h7, h8, h9, h10, h11, h12, h13⟩
    obtain ⟨a, b, c, d⟩ := h6 t' ht'
    exact ⟨us_pair (by decide) a (by omega), b, c, d⟩
  · refine ⟨h1, h2, h3, h4, h5, fun t' ht' => ?_, h7, h8, h9, h10, h11, h12, h13⟩
    obtain ⟨a, b, c, d⟩ := h6 t' ht'
    exact ⟨a, us_pair (by decide) b (by omega), c, d⟩
  · refine ⟨h1, h2, h3, h4, h5, fun t' ht' => ?_, h7, h8, h9, h10, h11, h12, h13⟩
    obtain ⟨a, b, c, d⟩ := h6 t' ht'
    exact ⟨a, b, us_pair (by decide) c (by omega), d⟩
  · refine ⟨h1, h2, h3, h4, h5, fun t' ht' => ?_, h7, h8, h9, h10, h11, h12, h13⟩
    obtain ⟨a, b, c, d⟩ := h6 t' ht'
    exact ⟨a, b, c, us_pair (by decide) d (by omega)⟩
theorem RYp_11 {st : St} (hR : RY st) {t : Nat} {d w : Int} (hd : 0 ≤ d ∧ d < 16) : RY (ust (ust st 45 t d w) 11 0 (16 * (t : Int) + d) w) := by
  obtain ⟨h1, h2, h3, h4, h5, h6, h7, h8, h9, h10, h11, h12, h13⟩ := hR
  exact ⟨h1, h2, h3, h4, h5, h6, fun t' i' ht' hi' => us_pair (by decide) (h7 t' i' ht' hi') (by omega), h8, h9, h10, h11, h12, h13⟩
theorem RYp_lift {st : St} (hR : RY st) {q t : Nat} (hq : (q : Int) < st 14 0 0) (ht : st 20 0 (q : Int) = (t : Int)) : RY (ust (ust (ust st 66 q 0 (-1)) 20 0 (q : Int) (-1)) 50 t 0 0) := by
  obtain ⟨h1, h2, h3, h4, h5, h6, h7, h8, h9, h10, h11, h12, h13⟩ := hR
  refine ⟨h1, fun q' hq' => ?_, h3, h4, h5, h6, h7, fun t' ht' => ?_, h9, h10, h11, fun q1 q2 hq1 hq2 hn he => ?_, h13⟩
  · obtain ⟨a, b, c, d, e⟩ := h2 q' hq'
    exact ⟨a, b, c, d, (us_pair (st := st) (cc := 66) (cm := 20) (q := q) (j := 0) (J := (q : Int)) (w := -1) (by decide) e (by omega) : ust (ust st 66 q 0 (-1)) 20 0 (q : Int) (-1) 66 q' 0 = ust (ust st 66 q 0 (-1)) 20 0 (q : Int) (-1) 20 0 (q' : Int))⟩
  · show (ust (ust (ust st 66 q 0 (-1)) 20 0 (q : Int) (-1)) 50 t 0 0 50 t' 0 = 1 ∧ ∃ z : Int, (0 ≤ z ∧ z < st 14 0 0) ∧ ust (ust st 66 q 0 (-1)) 20 0 (q : Int) (-1) 20 0 z = (t' : Int)) ∨ (ust (ust (ust st 66 q 0 (-1)) 20 0 (q : Int) (-1)) 50 t 0 0 50 t' 0 = 0 ∧ ∀ z : Int, 0 ≤ z ∧ z < st 14 0 0 → ust (ust st 66 q 0 (-1)) 20 0 (q : Int) (-1) 20 0 z ≠ (t' : Int))
    by_cases e : t' = t
    · subst e
      refine Or.inr ⟨ust_s, fun z hz => ?_⟩
      rw [ust_if, ust_c (by decide)]
      by_cases e2 : z = (q : Int)
      · rw [if_pos e2]; omega
      · rw [if_neg e2]
        intro e3
        exact e2 (h12 z (q : Int) hz ⟨by omega, hq⟩ (by omega) (by omega))
    · have e9 : ust (ust (ust st 66 q 0 (-1)) 20 0 (q : Int) (-1)) 50 t 0 0 50 t' 0 = st 50 t' 0 := by rw [ust_o e, us_n (by decide) (by decide)]
      rw [e9]
      rcases h8 t' ht' with ⟨a, z, hz, hzt⟩ | ⟨a, b⟩
      · refine Or.inl ⟨a, z, hz, ?_⟩
        rw [ust_if, ust_c (by decide), if_neg (fun e2 => ?_)]
        · exact hzt
        · subst e2; omega
      · refine Or.inr ⟨a, fun z hz => ?_⟩
        rw [ust_if, ust_c (by decide)]
        by_cases e2 : z = (q : Int)
        · rw [if_pos e2]; omega
        · rw [if_neg e2]; exact b z hz
  · have hq1 : 0 ≤ q1 ∧ q1 < st 14 0 0 := hq1
    have hq2 : 0 ≤ q2 ∧ q2 < st 14 0 0 := hq2
    have hn : ust (ust st 66 q 0 (-1)) 20 0 (q : Int) (-1) 20 0 q1 ≠ -1 := hn
    have he : ust (ust st 66 q 0 (-1)) 20 0 (q : Int) (-1) 20 0 q1 = ust (ust st 66 q 0 (-1)) 20 0 (q : Int) (-1) 20 0 q2 := he
    rw [ust_if, ust_c (by decide)] at hn
    rw [ust_if, ust_c (by decide), ust_if, ust_c (by decide)] at he
    by_cases e1 : q1 = (q : Int)
    · rw [if_pos e1] at hn
      exact absurd rfl hn
    · rw [if_neg e1] at hn he
      by_cases e2 : q2 = (q : Int)
      · rw [if_pos e2] at he
        exact absurd he hn
      · rw [if_neg e2] at he
        exact h12 q1 q2 hq1 hq2 hn he
