/-! ===== the law's start: its states ===== -/
def ZC (st : St) : Prop := (∀ (c o : Nat) (i : Int), 40 ≤ c ∧ c ≤ 44 → st c o i = 0) ∧ st 30 0 0 = 0 ∧ st 31 0 0 = 0
/-- L layers, with their next ones N, their tiles P, the tiles taken T; all weights and cells 0 -/
def ZI (L : Nat) (N P T : List Int) (st : St) : Prop :=
  ZC st ∧ (st 33 0 0 = (L : Int)) ∧ (∀ (o : Nat) (i : Int), st 62 o i = 0) ∧ (∀ o : Nat, L ≤ o → o < 6 → st 64 o 0 = 0 ∧ ∀ i : Int, st 63 o i = 0) ∧ (∀ o : Nat, o < L → st 65 o 0 = N.getD o 0 ∧ st 66 o 0 = P.getD o 0) ∧ ∀ t : Nat, t < 6 → st 50 t 0 = T.getD t 0
def ZK (L : Nat) (N P T : List Int) : Prop := (∀ t, t < 6 → (T.getD t 0 = 1 ∧ t < L ∧ P.getD t 0 = (t : Int)) ∨ (T.getD t 0 = 0 ∧ ∀ q, q < L → P.getD q 0 ≠ (t : Int))) ∧ (∀ q, q < L → N.getD q 0 = -1 ∨ ((q : Int) < N.getD q 0 ∧ N.getD q 0 < (L : Int))) ∧ (∀ q1, q1 < L → ∀ q2, q2 < L → P.getD q1 0 ≠ -1 → P.getD q1 0 = P.getD q2 0 → q1 = q2)
theorem ZK_0 : ZK 0 [] [] [] := by unfold ZK; decide
theorem ZK_1 : ZK 1 [-1] [-1] [] := by unfold ZK; decide
theorem ZK_2 : ZK 2 [-1, -1] [-1, -1] [] := by unfold ZK; decide
theorem ZK_3 : ZK 2 [1, -1] [-1, -1] [] := by unfold ZK; decide
theorem ZK_4 : ZK 2 [1, -1] [0, -1] [1] := by unfold ZK; decide
theorem ZK_5 : ZK 2 [1, -1] [0, 1] [1, 1] := by unfold ZK; decide
theorem ZI_CI {L : Nat} {N P T : List Int} {st : St} (h : ZI L N P T st) (hk : ZK L N P T) : CI st := by
  obtain ⟨⟨hc, h30, h31⟩, h33, h62, hf, hq, ht⟩ := h
  obtain ⟨k1, k2, k3⟩ := hk
  refine ⟨fun t ht6 => ?_, fun o j => ?_, fun q hq1 => ?_, fun q1 q2 h1 h2 h3 h4 => ?_, fun q h1 h2 => ?_⟩
  · rw [ht t ht6]
    rcases k1 t ht6 with ⟨a, b, c⟩ | ⟨a, b⟩
    · exact Or.inl ⟨a, t, by omega, by rw [(hq t b).2]; exact c⟩
    · exact Or.inr ⟨a, fun q h9 => by rw [(hq q (by omega)).2]; exact b q (by omega)⟩
  · rw [hc 42 o j (by decide), h30]
    decide
  · rw [(hq q (by omega)).1, h33]
    exact k2 q (by omega)
  · rw [(hq q1 (by omega)).2] at h3 h4
    rw [(hq q2 (by omega)).2] at h4
    exact k3 q1 (by omega) q2 (by omega) h3 h4
  · exact ⟨fun j _ => h62 q j, (hf q (by omega) h2).1, fun j _ => (hf q (by omega) h2).2 j⟩
theorem ZI_cg {L : Nat} {N P T : List Int} {x y : St} (h : ∀ (c o : Nat) (i : Int), 25 ≤ c → c < 80 → y c o i = x c o i) (hz : ZI L N P T x) : ZI L N P T y := by
  obtain ⟨⟨hc, h30, h31⟩, h33, h62, hf, hq, ht⟩ := hz
  refine ⟨⟨fun c o i h9 => ?_, ?_, ?_⟩, ?_, fun o i => ?_, fun o h9 h8 => ⟨?_, fun i => ?_⟩, fun o h9 => ⟨?_, ?_⟩, fun t h9 => ?_⟩
  · rw [h c o i (by omega) (by omega)]; exact hc c o i h9
  · rw [h 30 0 0 (by decide) (by decide)]; exact h30
  · rw [h 31 0 0 (by decide) (by decide)]; exact h31
  · rw [h 33 0 0 (by decide) (by decide)]; exact h33
  · rw [h 62 o i (by decide) (by decide)]; exact h62 o i
  · rw [h 64 o 0 (by decide) (by decide)]; exact (hf o h9 h8).1
  · rw [h 63 o i (by decide) (by decide)]; exact (hf o h9 h8).2 i
  · rw [h 65 o 0 (by decide) (by decide)]; exact (hq o h9).1
  · rw [h 66 o 0 (by decide) (by decide)]; exact (hq o h9).2
  · rw [h 50 t 0 (by decide) (by decide)]; exact ht t h9
theorem z_go {L : Nat} {N P T : List Int} {wb : Int} {D : va_G} {cy : Nat → ClassId} {ad : Nat → Nat} {n : Nat} {x : St} {A : Nat → Prop} {H0 H : Heap} {locs : List Loc} (hG : GH D cy ad n x A H0 H locs) (hI : GI wb x) (hz : ZI L N P T x) (hk : ZK L N P T) : ∃ z : St, GH D cy ad n z A H0 H locs ∧ GI wb z ∧ RY z ∧ ZI L N P T z ∧ ∀ (c o : Nat) (i : Int), 25 ≤ c → z c o i = x c o i :=
  ⟨gh x, GH_cg (fun c o i hc => (gh_c x hc).symm) hG, GI_gh hI, RY_gh (ZI_CI hz hk) (by rw [hz.2.1]; omega), ZI_cg (fun c o i hc _ => gh_c x hc) hz, fun c o i hc => gh_c x hc⟩
theorem ZI_ly {L : Nat} {N P N' P' T : List Int} {st : St} {a b : Int} (h : ZI L N P T st) (hN : ∀ o, o < L → N'.getD o 0 = N.getD o 0 ∧ P'.getD o 0 = P.getD o 0) (hL : N'.getD L 0 = -1 ∧ P'.getD L 0 = -1) : ZI (L + 1) N' P' T (lyS st L a b) := by
  obtain ⟨⟨hc, h30, h31⟩, h33, h62, hf, hq, ht⟩ := h
  have ec : ∀ (c o : Nat) (i : Int), c ∉ [33, 60, 61, 62, 63, 64, 65, 66] → lyS st L a b c o i = st c o i := fun c o i h9 => lyS_c h9
  refine ⟨⟨fun c o i h9 => ?_, ?_, ?_⟩, ?_, fun o i => ?_, fun o h9 h8 => ?_, fun o h9 => ?_, fun t h9 => ?_⟩
  · rw [ec c o i (by simp only [List.mem_cons, List.not_mem_nil, or_false]; omega)]; exact hc c o i h9
  · rw [ec 30 0 0 (by decide)]; exact h30
  · rw [ec 31 0 0 (by decide)]; exact h31
  · rw [lyS_33, h33]; omega
  · by_cases h9 : o = L
    · rw [h9]
      show (if L = L then (0 : Int) else st 62 L i) = 0
      rw [if_pos rfl]
    · rw [lyS_o (by decide) h9]; exact h62 o i
  · rw [lyS_o (by decide) (by omega)]
    exact ⟨(hf o (by omega) h8).1, fun i => by rw [lyS_o (by decide) (by omega)]; exact (hf o (by omega) h8).2 i⟩
  · by_cases h8 : o = L
    · rw [h8]
      refine ⟨?_, ?_⟩
      · show (if L = L then (-1 : Int) else st 65 L 0) = _
        rw [if_pos rfl, hL.1]
      · show (if L = L then (-1 : Int) else st 66 L 0) = _
        rw [if_pos rfl, hL.2]
    · rw [lyS_o (by decide) h8, lyS_o (by decide) h8, (hN o (by omega)).1, (hN o (by omega)).2]; exact hq o (by omega)
  · rw [ec 50 t 0 (by decide)]; exact ht t h9
theorem lyS_60 {st : St} {q : Nat} {a b : Int} : lyS st q a b 60 q 0 = a := by
  show (if q = q then a else st 60 q 0) = a
  rw [if_pos rfl]
theorem lyS_61 {st : St} {q : Nat} {a b : Int} : lyS st q a b 61 q 0 = b := by
  show (if q = q then b else st 61 q 0) = b
  rw [if_pos rfl]
theorem ZI_next {st : St} (h : ZI 2 [-1, -1] [-1, -1] [] st) : ZI 2 [1, -1] [-1, -1] [] (ust st 65 0 0 1) := by
  obtain ⟨⟨hc, h30, h31⟩, h33, h62, hf, hq, ht⟩ := h
  refine ⟨⟨fun c o i h9 => ?_, ?_, ?_⟩, ?_, fun o i => ?_, fun o h9 h8 => ⟨?_, fun i => ?_⟩, fun o h9 => ?_, fun t h9 => ?_⟩
  · rw [ust_c (by omega)]; exact hc c o i h9
  · rw [ust_c (by decide)]; exact h30
  · rw [ust_c (by decide)]; exact h31
  · rw [ust_c (by decide)]; exact h33
  · rw [ust_c (by decide)]; exact h62 o i
  · rw [ust_c (by decide)]; exact (hf o h9 h8).1
  · rw [ust_c (by decide)]; exact (hf o h9 h8).2 i
  · have h2 : o = 0 ∨ o = 1 := by omega
    rcases h2 with rfl | rfl
    · exact ⟨by rw [ust_s]; rfl, by rw [ust_c (by decide)]; exact (hq 0 (by decide)).2⟩
    · exact ⟨by rw [ust_o (by decide)]; exact (hq 1 (by decide)).1, by rw [ust_c (by decide)]; exact (hq 1 (by decide)).2⟩
  · rw [ust_c (by decide)]; exact ht t h9
theorem needV_0 (d : Int) : needV 0 d = 0 := by
  unfold needV absI
  split
  · split <;> rfl
  · rfl
theorem conC_0 {st : St} (h : ZC st) (o : Nat) (i : Int) : conC st o i = 0 := by
  unfold conC conV
  rw [h.2.2, if_pos (Or.inl rfl)]
  exact h.1 40 o i (by decide)
theorem wr_z {st : St} {o : Nat} {i : Int} (h : ZC st) : ZC (wrC st o i 0) ∧ wrCf st o i 0 = 0 := by
  have hcon := conC_0 h o i
  obtain ⟨hc, h30, h31⟩ := h
  have e40 := hc 40 o i (by decide)
  have e41 := hc 41 o i (by decide)
  have e43 := hc 43 o i (by decide)
  have e44 := hc 44 o i (by decide)
  have hwr : wrL (st 32 0 0) 0 16 (if st 43 o i = 1 then st 40 o i else conC st o i) (st 41 o i) (st 43 o i) = (0, 0, 0) := by
    rw [hcon, e40, e41, e43, if_neg (by decide)]
    unfold wrL
    rw [if_pos rfl]
  have heq := wrC_eq (kn := 0) hwr (by rw [e44]; rfl)
  rw [show (if st 43 o i = 1 then st 42 o i else st 30 0 0) = 0 by rw [e43, if_neg (by decide), h30]] at heq
  have hz : ∀ (c o' : Nat) (i' : Int), 40 ≤ c ∧ c ≤ 44 → wrC st o i 0 c o' i' = 0 := fun c o' i' h9 => by
    rw [heq]
    unfold setG
    have h8 := hc c o' i' h9
    split
    · split
      · rfl
      · split
        · rfl
        · split
          · rfl
          · split
            · rfl
            · split
              · rfl
              · exact h8
    · exact h8
  refine ⟨⟨hz, ?_, ?_⟩, ?_⟩
  · rw [wrC_c _ _ _ _ (by decide)]; exact h30
  · rw [wrC_c _ _ _ _ (by decide)]; exact h31
  · unfold wrCf
    rw [hz 40 o i (by decide), if_pos rfl]
theorem rwC_z (o : Nat) (c w : Nat → Int) {st : St} (h : ZC st) (hw : ∀ j, w j = 0) : ∀ n, ZC (rwC o c w n st).1 ∧ (rwC o c w n st).2 = 0
  | 0 => ⟨h, rfl⟩
  | n + 1 => by
    obtain ⟨a, b⟩ := rwC_z o c w h hw n
    rw [rwC_s1, rwC_s2, hw n, b, (wr_z a).2]
    exact ⟨(wr_z a).1, rfl⟩
theorem ZI_pl {L : Nat} {N P P' T T' : List Int} {st : St} {q t : Nat} (h : ZI L N P T st) (hq : q < L) (hP : ∀ o, o < L → P'.getD o 0 = if o = q then (t : Int) else P.getD o 0) (hT : ∀ u, u < 6 → T'.getD u 0 = if u = t then 1 else T.getD u 0) : ZI L N P' T' (ldCS (plC st q t) q t) ∧ ldCF (plC st q t) q t = 0 := by
  obtain ⟨⟨hc, h30, h31⟩, h33, h62, hf, hq9, ht⟩ := h
  have hzu : ZC (plC st q t) := ⟨fun c o i h9 => by rw [plC_c st q t o i (by omega)]; exact hc c o i h9, by rw [plC_c st q t 0 0 (by decide)]; exact h30, by rw [plC_c st q t 0 0 (by decide)]; exact h31⟩
  have hrw := rwC_z t (lcC (plC st q t) q) (lwC (plC st q t) q) hzu (fun j => by
    unfold lwC needC
    rw [plC_c st q t _ _ (by decide), h62]
    exact needV_0 _) (4 * (plC st q t 61 q 0).toNat * (plC st q t 60 q 0).toNat)
  refine ⟨⟨hrw.1, ?_, fun o i => ?_, fun o h9 h8 => ⟨?_, fun i => ?_⟩, fun o h9 => ⟨?_, ?_⟩, fun u h9 => ?_⟩, hrw.2⟩
  · rw [ld_c _ q t _ (by decide), plC_c st q t _ _ (by decide)]; exact h33
  · rw [ld_c _ q t _ (by decide), plC_c st q t _ _ (by decide)]; exact h62 o i
  · rw [ld_c _ q t _ (by decide), plC_c st q t _ _ (by decide)]; exact (hf o h9 h8).1
  · rw [ld_c _ q t _ (by decide), plC_rowo q t i (by omega)]; exact (hf o h9 h8).2 i
  · rw [ld_c _ q t _ (by decide), plC_c st q t _ _ (by decide)]; exact (hq9 o h9).1
  · rw [ld_c _ q t _ (by decide), plC_66, hP o h9, (hq9 o h9).2]
  · rw [ld_c _ q t _ (by decide), plC_50, hT u h9, ht u h9]
theorem rowsD_cg {x y : St} {q : Nat} (h : ∀ i : Int, y 63 q i = x 63 q i) (h60 : y 60 q 0 = x 60 q 0) (hr : rowsD x q) : rowsD y q := fun i j h1 h2 => by
  rw [h, h]
  exact hr i j h1 (by omega)
theorem ZI_PA {st : St} (h : ZI 2 [1, -1] [0, 1] [1, 1] st) (h60 : st 60 0 0 ≤ 4) (h80 : st 80 0 0 = st 60 0 0 ∧ st 80 0 1 = st 60 1 0 ∧ st 81 0 0 = st 61 0 0 ∧ st 81 0 1 = st 61 1 0) (h82 : st 82 0 0 = 0 ∧ st 82 0 1 = 1) (h83 : ∀ j : Int, st 83 0 j = 0) (r0 : rowsD st 0) (r1 : rowsD st 1) : PA st := by
  obtain ⟨⟨hc, h30, h31⟩, h33, h62, hf, hq, ht⟩ := h
  have n0 : st 65 0 0 = 1 := (hq 0 (by decide)).1
  have n1 : st 65 1 0 = -1 := (hq 1 (by decide)).1
  have p0 : st 66 0 0 = 0 := (hq 0 (by decide)).2
  have p1 : st 66 1 0 = 1 := (hq 1 (by decide)).2
  refine ⟨⟨h33, h60⟩, h80, ⟨by omega, by omega, by omega, by omega, by omega⟩, fun q j _ _ => by rw [h83, h62], fun q i j hq2 h1 h2 => ?_, ⟨n0, n1⟩, fun t h6 => ?_, fun q h2 h6 => ⟨fun j _ => h62 q j, (hf q h2 h6).1, fun j _ => (hf q h2 h6).2 j⟩⟩
  · have h9 : q = 0 ∨ q = 1 := by omega
    rcases h9 with rfl | rfl
    · exact r0 i j h1 h2
    · exact r1 i j h1 h2
  · rw [ht t h6, p0, p1]
    have h9 : t = 0 ∨ t = 1 ∨ t = 2 ∨ t = 3 ∨ t = 4 ∨ t = 5 := by omega
    rcases h9 with rfl | rfl | rfl | rfl | rfl | rfl <;> decide
theorem ZI_PC {L : Nat} {N P T : List Int} {st : St} (h : ZI L N P T st) : PC st := ⟨fun t i => by rw [h.1.1 44 t i (by decide), h.1.1 43 t i (by decide)]; decide, fun o j => by rw [h.1.1 42 o j (by decide), h.1.2.1]; decide⟩
theorem ZI_all {L : Nat} {N P T : List Int} {st : St} (h : ZI L N P T st) (q o n : Nat) : allK st q o n = 1 := (allK_1 n).mpr (fun i c _ _ => by
  rw [conC_0 h.1]
  unfold needC
  rw [h.2.2.1]
  exact (needV_0 _).symm)
theorem PA_64 {st : St} {q : Nat} {v : Int} (hq : q < 2) (hA : PA st) : PA (ust st 64 q 0 v) := by
  obtain ⟨a1, a2, a3, a4, a5, a6, a7, a8⟩ := hA
  have e : ∀ (c o : Nat) (i : Int), c ≠ 64 → ust st 64 q 0 v c o i = st c o i := fun c o i h => ust_c h
  have e' : ∀ c : Nat, c ≠ 64 → ust st 64 q 0 v c = st c := fun c h => funext fun o => funext fun i => e c o i h
  unfold PA
  rw [e' 33 (by decide), e' 50 (by decide), e' 60 (by decide), e' 61 (by decide), e' 62 (by decide), e' 63 (by decide), e' 65 (by decide), e' 66 (by decide), e' 80 (by decide), e' 81 (by decide), e' 82 (by decide), e' 83 (by decide)]
  refine ⟨a1, a2, a3, a4, a5, a6, a7, fun o h2 h6 => ⟨(a8 o h2 h6).1, ?_, (a8 o h2 h6).2.2⟩⟩
  rw [ust_o (by omega)]
  exact (a8 o h2 h6).2.1
