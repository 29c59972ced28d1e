/-! ===== the relation kept: place, spoil, layer ===== -/
theorem rc_place {wb W : Int} {st st1 z : St} (a t0 : Int) {r b9 : Int32} (hR : RY st) (hI : GI wb st) (hL : r = iI (kPlace st a t0) ∧ ((kPlace st a t0 = 0 ∧ ∃ s1 : St, (s1 = ldCS (plC st (a).toNat (t0).toNat) (a).toNat (t0).toNat) ∧ st1 = ust s1 70 0 0 ((iI (ldCF (plC st (a).toNat (t0).toNat) (a).toNat (t0).toNat)).toInt64).toInt) ∨ (kPlace st a t0 ≠ 0 ∧ st1 = st)) ∧ GI (wb + 2048) st1) (hM : b9 = iI (aPlace st1 a t0) ∧ z = sPlace st1 a t0 ∧ GI W z) : RC (wb + 2048) st r b9.toInt64 z := by
  obtain ⟨hr, hc, hI1⟩ := hL
  obtain ⟨hb, hz, hIz⟩ := hM
  have hks := kPlace_s st a t0
  rcases hc with ⟨hk, s1, hs1, h1⟩ | ⟨hk, h1⟩
  · obtain ⟨q, hq⟩ : ∃ q : Nat, q = a.toNat := ⟨_, rfl⟩
    obtain ⟨t, ht⟩ : ∃ t : Nat, t = t0.toNat := ⟨_, rfl⟩
    rw [← ht, ← hq] at hs1 h1
    have h14 := gI_14 hI 0 0
    have hqa : (q : Int) = a := by omega
    have hta : (t : Int) = t0 := by omega
    have hml : ∀ (c o : Nat) (i : Int), c < 30 → st1 c o i = st c o i := fun c o i hc => by
      rw [h1, hs1, ust_c (by omega)]
      exact (rwC_c _ _ _ _ _ (by omega) i).trans (plC_c st q t o i (by omega))
    have hmd : st1 = mgS st st1 := mg_of hml
    have hkk : kPlace st1 a t0 = 0 := (congrArg (fun y => kPlace y a t0) hmd).trans ((md_kPlace st st1 a t0).trans hk)
    unfold aPlace at hb
    unfold sPlace at hz
    rw [if_pos hkk, hkk] at hz hb
    obtain ⟨y, hy⟩ : ∃ y, y = ust st1 0 0 0 0 := ⟨_, rfl⟩
    rw [← hy] at hz hb
    have hyl : ∀ (c o : Nat) (i : Int), c < 30 → c ≠ 0 → y c o i = st c o i := fun c o i hc h0 => by rw [hy, ust_c h0, hml c o i hc]
    have hcs : cst y (q : Int) (t : Int) = cst st (q : Int) (t : Int) := by
      have e1 : y = mgS (ust st 0 0 0 0) st1 := by
        rw [hy]
        exact (congrArg (fun w => ust w 0 0 0 0) hmd).trans (mg_ust st st1 0)
      rw [e1]
      rfl
    have hlon : ∀ x : Int, 0 ≤ x ∧ x < st 14 0 0 → st 20 0 x ≠ (t : Int) := fun x hx e => by
      have := lonF_y (st := st) (t := t0) (st 14 0 0).toNat ⟨x, by omega, by omega⟩
      omega
    have hm := RY_place hR hI hyl hcs (by omega) (by omega) (by omega) (by rw [hqa]; omega) hlon
    have h63 : ∀ k : Int, 0 ≤ plC st q t 63 q k ∧ plC st q t 63 q k ≤ 7 := fun k => by
      have h9 := gI_63 hI1 q k
      rw [h1, hs1, ust_c (by decide)] at h9
      have e : ldCS (plC st q t) q t 63 q k = plC st q t 63 q k := rwC_c _ _ _ _ _ (by decide) k
      rw [e] at h9
      exact h9
    have hlc := ld_core (x := plC st q t) (y := plS y (q : Int) (t : Int)) (q := q) (t := t) hm (fun c o i h30 h70 => by rw [plS_c y _ _ (by omega), hy, ust_c (by omega), h1, ust_c h70, hs1]) (by rw [plS_c y _ _ (by decide), hyl 14 0 0 (by decide) (by decide)]; omega) (by omega) (by rw [plS_20, if_pos rfl]) (by rw [plC_c st q t _ _ (by decide)]; exact (gI_60 hI q 0).2) (by rw [plC_c st q t _ _ (by decide)]; exact (gI_61 hI q 0).2) h63
    rw [hqa, hta] at hlc
    obtain ⟨l1, l2, l3⟩ := hlc
    rw [← hz] at l2 l3
    refine ⟨?_, fun _ => ?_, l2, GI_tight hIz l2 (fun o i => ?_) (fun o i hni => ?_), ?_⟩
    · rw [hz, ldS_c (by decide), plS_c _ _ _ (by decide), hy, ust_s, hr, hk]
    · rw [hz, ldS_c (by decide), plS_c _ _ _ (by decide), hy, ust_c (by decide), h1, ust_s, Int64.ofInt_toInt, hb, l1]
    · rw [hz, ldS_c (by decide), plS_c _ _ _ (by decide), hy, ust_c (by decide)]
      exact (hI1 41 (by decide) o i).2
    · rw [l3 5 o i hni, plS_c _ _ _ (by decide), hyl 5 o i (by decide) (by decide)]
      have := (hI 5 (by decide) o i).2
      have e : ghi wb 5 = wb := rfl
      omega
    · rw [hz, ldS_c (by decide), plS_c _ _ _ (by decide), hy, ust_c (by decide), h1, ust_c (by decide), hs1]
      exact (rwC_c _ _ _ _ _ (by decide) 0).trans (plC_c st q t 0 0 (by decide))
  · have hkk : kPlace st1 a t0 ≠ 0 := by rw [h1]; exact hk
    unfold sPlace at hz
    rw [if_neg hkk, h1] at hz
    exact rc_no hr hk (fun _ _ _ _ => rfl) hz hR (GI_mono (by omega) (GI_0 hIz hz hI))
/-! ===== spoil ===== -/
def SPr (X Y : St × Int × Int) : Prop := (∀ (t : Nat) (i : Int), t < 6 → 0 ≤ i ∧ i < 128 → X.1 40 t i = Y.1 4 0 (128 * (t : Int) + i) ∧ X.1 43 t i = Y.1 7 0 (128 * (t : Int) + i)) ∧ X.2 = Y.2 ∧ ∀ (o : Nat) (i : Int), 0 ≤ X.1 43 o i ∧ X.1 43 o i ≤ 1
theorem us_two {X Y : St} {cc cm q q' : Nat} {j J w j' J' : Int} (h0 : X cc q' j' = Y cm 0 J') (hiff : (q' = q ∧ j' = j) ↔ J' = J) : ust X cc q j w cc q' j' = ust Y cm 0 J w cm 0 J' := by
  rw [ust_if (st := Y)]
  by_cases e : J' = J
  · obtain ⟨rfl, rfl⟩ := hiff.mpr e
    rw [if_pos e, ust_s]
  · rw [if_neg e, ← h0]
    by_cases e2 : q' = q
    · subst e2
      exact ust_i (fun z => e (hiff.mp ⟨rfl, z⟩))
    · exact ust_o e2
theorem SPr_step {X Y : St × Int × Int} {t : Nat} (ht : t < 6) (h : SPr X Y) : SPr (cspStep t X) (spStep (t : Int) Y) := by
  obtain ⟨h1, h2, h3⟩ := h
  unfold cspStep spStep
  rw [← h2]
  have hi : 0 ≤ drF X.2.2 % 128 ∧ drF X.2.2 % 128 < 128 := by omega
  generalize drF X.2.2 % 128 = i at *
  generalize drF (drF X.2.2) = d
  have h0 := h1 t i ht hi
  have hr := h3 t i
  by_cases e : X.1 43 t i = 0
  · rw [if_pos (by rw [← h0.2]; exact e)]
    unfold bsC sSticks
    rw [if_neg (by omega), e]
    refine ⟨fun t' i' ht' hi' => ?_, rfl, fun o j => ?_⟩
    · have h9 := h1 t' i' ht' hi'
      dsimp only
      exact ⟨us_two (X := ust X.1 43 t i 1) (Y := ust Y.1 7 0 (128 * (t : Int) + i) 1) (by rw [ust_c (by decide), ust_c (by decide)]; exact h9.1) (by omega), (ust_c (by decide)).trans (Eq.trans (us_two h9.2 (by omega)) (ust_c (by decide)).symm)⟩
    · dsimp only
      rw [ust_c (by decide)]
      by_cases et : o = t
      · subst et
        rw [ust_if]
        split
        · omega
        · exact h3 _ _
      · rw [ust_o et]
        exact h3 _ _
  · rw [if_neg (by rw [← h0.2]; exact e)]
    unfold bsC
    rw [if_pos (by omega), show X.1 43 t i = 1 by omega]
    exact ⟨h1, by dsimp only; rw [show X.2.1 + (1 - 1) = X.2.1 by omega], h3⟩
theorem SPr_n {X Y : St × Int × Int} {t : Nat} (ht : t < 6) (h : SPr X Y) : ∀ n, SPr (cspI t X n) (spI (t : Int) Y n)
  | 0 => h
  | n + 1 => by
    rw [cspI_s, spI_s]
    exact SPr_step ht (SPr_n ht h n)
theorem cspI_c {t : Nat} {X : St × Int × Int} {c o : Nat} {i : Int} (h : c ≠ 40 ∧ c ≠ 43) : ∀ n, (cspI t X n).1 c o i = X.1 c o i
  | 0 => rfl
  | n + 1 => by
    rw [cspI_s]
    show (cspStep t (cspI t X n)).1 c o i = _
    unfold cspStep bsC
    dsimp only
    split
    · exact cspI_c h n
    · rw [ust_c h.1, ust_c h.2]
      exact cspI_c h n
theorem spI_c {t : Int} {X : St × Int × Int} {c o : Nat} {i : Int} (h : c ≠ 4 ∧ c ≠ 7) : ∀ n, (spI t X n).1 c o i = X.1 c o i
  | 0 => rfl
  | n + 1 => by
    rw [spI_s]
    show (spStep t (spI t X n)).1 c o i = _
    unfold spStep
    split
    · unfold sSticks
      dsimp only
      rw [ust_c h.1, ust_c h.2]
      exact spI_c h n
    · exact spI_c h n
theorem rc_spoil {wb : Int} {st st1 z : St} (t0 x y : Int) {r b9 : Int32} (hR : RY st) (hI : GI wb st) (hL : r = iI (kSpoil t0 x y) ∧ ((kSpoil t0 x y = 0 ∧ ∃ s1 : St, (s1 = (cspI (t0).toNat (st, 0, x) (y).toNat).1) ∧ st1 = ust s1 70 0 0 ((iI (cspI (t0).toNat (st, 0, x) (y).toNat).2.1).toInt64).toInt) ∨ (kSpoil t0 x y ≠ 0 ∧ st1 = st)) ∧ GI wb st1) (hM : b9 = iI (spX st1 t0 x y).2.1 ∧ z = (spX st1 t0 x y).1 ∧ GI wb z) : RC wb st r b9.toInt64 z := by
  obtain ⟨hr, hc, -⟩ := hL
  obtain ⟨hb, hz, hIz⟩ := hM
  have hks := kSpoil_s t0 x y
  rcases hc with ⟨hk, s1, hs1, h1⟩ | ⟨hk, h1⟩
  · unfold spX at hb hz
    rw [if_pos hk, hk] at hb hz
    obtain ⟨t, ht⟩ : ∃ t : Nat, t = t0.toNat := ⟨_, rfl⟩
    rw [← ht] at hs1 h1
    have hta : t0 = (t : Int) := by omega
    rw [hta] at hb hz
    have h5 := hR.2.2.2.2.1
    have hS := SPr_n (X := (st, 0, x)) (Y := (ust st1 0 0 0 0, 0, x)) (t := t) (by omega) ⟨fun t' i' ht' hi' => by
      have h9 := h5 t' i' ht' hi'
      dsimp only
      rw [ust_c (by decide), ust_c (by decide), h1, hs1, ust_c (by decide), ust_c (by decide), cspI_c (by decide), cspI_c (by decide)]
      exact ⟨h9.1, h9.2.2.2.1⟩, rfl, fun o i => gI_43 hI o i⟩ y.toNat
    have hzm : ∀ (c o : Nat) (i : Int), c < 30 → c ≠ 4 ∧ c ≠ 7 ∧ c ≠ 0 → z c o i = st c o i := fun c o i h30 hc => by
      rw [hz, spI_c ⟨hc.1, hc.2.1⟩]
      dsimp only
      rw [ust_c hc.2.2, h1, hs1, ust_c (by omega), cspI_c (by omega)]
    have hzc : ∀ (c o : Nat) (i : Int), 30 ≤ c → c ≠ 70 → z c o i = s1 c o i := fun c o i h30 hc => by
      rw [hz, spI_c (by omega)]
      dsimp only
      rw [ust_c (by omega), h1, ust_c hc]
    have em : ∀ c : Nat, c < 30 → c ≠ 4 ∧ c ≠ 7 ∧ c ≠ 0 → z c = st c := fun c h30 hc => funext fun o => funext fun i => hzm c o i h30 hc
    have ec : ∀ c : Nat, 30 ≤ c → c ≠ 70 ∧ c ≠ 40 ∧ c ≠ 43 → z c = st c := fun c h30 hc => funext fun o => funext fun i => by
      rw [hzc c o i h30 hc.1, hs1, cspI_c hc.2]
    have hRz : RY z := by
      obtain ⟨g1, g2, g3, g4, g5, g6, g7, g8, g9, g10, g11, g12, g13⟩ := hR
      unfold RY
      rw [ec 33 (by decide) (by decide), em 14 (by decide) (by decide), ec 30 (by decide) (by decide), em 1 (by decide) (by decide), ec 31 (by decide) (by decide), em 2 (by decide) (by decide), ec 32 (by decide) (by decide), em 3 (by decide) (by decide), ec 60 (by decide) (by decide), em 15 (by decide) (by decide), ec 61 (by decide) (by decide), em 16 (by decide) (by decide), ec 64 (by decide) (by decide), em 18 (by decide) (by decide), ec 65 (by decide) (by decide), em 19 (by decide) (by decide), ec 66 (by decide) (by decide), em 20 (by decide) (by decide), ec 62 (by decide) (by decide), em 17 (by decide) (by decide), ec 63 (by decide) (by decide), em 21 (by decide) (by decide), ec 41 (by decide) (by decide), em 5 (by decide) (by decide), ec 42 (by decide) (by decide), em 6 (by decide) (by decide), ec 44 (by decide) (by decide), em 8 (by decide) (by decide), ec 46 (by decide) (by decide), em 9 (by decide) (by decide), ec 47 (by decide) (by decide), em 10 (by decide) (by decide), ec 48 (by decide) (by decide), em 12 (by decide) (by decide), ec 49 (by decide) (by decide), em 13 (by decide) (by decide), ec 45 (by decide) (by decide), em 11 (by decide) (by decide), ec 50 (by decide) (by decide)]
      refine ⟨g1, g2, g3, g4, fun t' i' ht' hi' => ?_, g6, g7, g8, g9, g10, g11, g12, g13⟩
      have h9 := hS.1 t' i' ht' hi'
      have h8 := g5 t' i' ht' hi'
      rw [← hz] at h9
      rw [hzc 40 t' i' (by decide) (by decide), hzc 43 t' i' (by decide) (by decide), hs1]
      exact ⟨h9.1, h8.2.1, h8.2.2.1, h9.2, h8.2.2.2.2⟩
    refine ⟨?_, fun _ => ?_, hRz, hIz, ?_⟩
    · rw [hz, spI_c (by decide)]
      dsimp only
      rw [ust_s, hr, hk]
    · rw [hz, spI_c (by decide)]
      dsimp only
      rw [ust_c (by decide), h1, ust_s, Int64.ofInt_toInt, hb, hS.2.1]
    · rw [ec 33 (by decide) (by decide)]
  · unfold spX at hz
    rw [if_neg hk, h1] at hz
    exact rc_no hr hk (fun _ _ _ _ => rfl) hz hR hIz
