/-! ===== lemmas of the law's cases ===== -/
theorem PA_u {st : St} {c o : Nat} {i v : Int} (hc : c ∉ pAA) (h : PA st) : PA (ust st c o i v) := PA_fr (fun c' o' i' hc' => ust_c (fun e => hc (e ▸ hc'))) h
theorem PC_u {st : St} {c o : Nat} {i v : Int} (hc : c ∉ pCC) (h : PC st) : PC (ust st c o i v) := PC_fr (fun c' o' i' hc' => ust_c (fun e => hc (e ▸ hc'))) h
theorem PC_pass {st : St} {v : Int} (hv : 0 ≤ v) (h : PC st) : PC (ust st 30 0 0 (st 30 0 0 + v)) := ⟨fun t i => by
  rw [ust_c (by decide), ust_c (by decide)]
  exact h.1 t i, fun o j => by
  rw [ust_c (by decide), ust_s]
  have := h.2 o j
  omega⟩
theorem csp_c {st : St} {t : Nat} {x : Int} {c o : Nat} {i : Int} (h : c ≠ 40 ∧ c ≠ 43) : ∀ n, (cspI t (st, 0, x) n).1 c o i = st c o i
  | 0 => rfl
  | n + 1 => by
    rw [cspI_s]
    unfold cspStep
    show bsC _ _ _ _ c o i = _
    rw [bsC_c _ _ _ _ h]
    exact csp_c h n
theorem lN_ex (v : Int64) : ∃ vec : Nat, vec < 2 ^ 64 ∧ v = lN vec := ⟨v.toBitVec.toNat, v.toBitVec.isLt, by
  first
    | exact (Int64.toBitVec_inj.mp (by simp [lN]))
    | (unfold lN; simp)⟩
theorem fcmp0 {c : Int} (h : 0 ≤ c ∧ c ≤ 128) : Op.cmpValue (FP.fcmp (fShare c) (fShare c)) .l = iI 0 := by
  obtain ⟨k, rfl⟩ := Int.eq_ofNat_of_zero_le h.1
  exact fSh_cmp k (by omega)
theorem fadd_e {a k : Int} (ha : 0 ≤ a ∧ a ≤ 128) (hk : 0 ≤ k ∧ k ≤ 5) : FP.fadd (fShare a) (FP.fdiv (FP.i2f (iI k)) 1124073472) = fShare (a + k) := by
  obtain ⟨x, rfl⟩ := Int.eq_ofNat_of_zero_le ha.1
  obtain ⟨y, rfl⟩ := Int.eq_ofNat_of_zero_le hk.1
  exact fSh_add x (by omega) y (by omega)
theorem pw5 : ∀ k : Nat, k < 5 → (1 : Int) * 2 ^ k = 1 ∨ (1 : Int) * 2 ^ k = 2 ∨ (1 : Int) * 2 ^ k = 4 ∨ (1 : Int) * 2 ^ k = 8 ∨ (1 : Int) * 2 ^ k = 16 := by decide
theorem bs_1 {st : St} {o : Nat} {i v : Int} (h : st 43 o i = 0) : bsC st o i v 43 o i = 1 ∧ bsC st o i v 40 o i = v := by
  unfold bsC
  rw [if_neg (by omega)]
  exact ⟨by rw [ust_c (by decide), ust_s], ust_s⟩
theorem con_st {st : St} {o : Nat} {i : Int} (h : st 43 o i = 1) : conC st o i = st 40 o i := by
  unfold conC conV
  rw [if_pos (Or.inr h)]
theorem con_le {wb : Int} {st : St} (hI : GI wb st) {o : Nat} {i : Int} (h : st 42 o i ≤ st 30 0 0) : conC st o i ≤ st 40 o i := by
  have h40 := gI_40 hI o i
  have h31 := gI_31 hI 0 0
  unfold conC conV
  split
  · exact Int.le_refl _
  · have h2 : 0 ≤ (st 30 0 0 - st 42 o i) / st 31 0 0 := Int.ediv_nonneg (by omega) h31.1
    omega
theorem GI_pl {wb : Int} {x : St} {q t : Nat} (hI : GI wb x) (hz : GI (wb + 2048) (ldCS (plC x q t) q t)) : GI (wb + 2048) (plC x q t) := by
  intro c hc o i
  by_cases h : 40 ≤ c ∧ c ≤ 44
  · rw [plC_c x q t o i (by omega)]
    have h1 := GI_mono (W' := wb + 2048) (by omega) hI
    exact h1 c hc o i
  · have h1 := hz c hc o i
    rw [ld_c _ q t i (by omega)] at h1
    exact h1
theorem lmF_cg {x y : St} (h : ∀ (c o : Nat) (i : Int), 25 ≤ c → x c o i = y c o i) (q t : Nat) : lmF x q t = lmF y q t := by
  unfold lmF
  rw [h 60 q 0 (by decide), h 61 q 0 (by decide)]
  refine sumN_e _ (fun i _ => sumN_e _ (fun k _ => ?_))
  unfold mfC msC
  rw [h 63 q _ (by decide), h 44 t _ (by decide), h 40 t _ (by decide), needC_cg h]
theorem lmF_r {wb : Int} {st : St} (hI : GI wb st) (q t : Nat) : 0 ≤ lmF st q t ∧ lmF st q t ≤ 128 := by
  have h := sumN_r (f := fun i => sumN (mfC st q t (i : Int) (st 63 q (i : Int))) (4 * st 61 q 0).toNat) (B := 16) (fun i => mfC_r hI q t _ _) (st 60 q 0).toNat
  have h60 := gI_60 hI q 0
  unfold lmF
  omega
theorem fdV_r {wb : Int} {st : St} (hI : GI wb st) (a t : Int) : 0 ≤ fdV st a t ∧ fdV st a t ≤ 1000 := dpK_r (fun i r => (cst_r hI a t i r).1) _ _
theorem fdV_cg {x y : St} (h : ∀ (c o : Nat) (i : Int), c < 25 → x c o i = y c o i) (a t : Int) : fdV x a t = fdV y a t := by
  have e : cst x a t = cst y a t := by
    funext i r
    unfold cst
    rw [h 16 0 a (by decide)]
    refine sumN_e _ (fun c _ => ?_)
    unfold mfM
    rw [h 8 0 _ (by decide), h 4 0 _ (by decide), h 17 0 _ (by decide)]
  unfold fdV
  rw [e, h 15 0 a (by decide)]
/-! ===== cycles: the class's own rows are not looked at ===== -/
theorem chP_cg {x y : St} (h : ∀ (c o : Nat) (i : Int), c < 25 → x c o i = y c o i) : ∀ f l, chP x f l = chP y f l
  | 0, _ => rfl
  | f + 1, l => by rw [chP_s, chP_s, h 20 0 l (by decide), h 19 0 l (by decide), chP_cg h f]
theorem kPipe_cg {x y : St} (h : ∀ (c o : Nat) (i : Int), c < 25 → x c o i = y c o i) (a n : Int) : kPipe x a n = kPipe y a n := by
  unfold kPipe
  rw [h 14 0 0 (by decide), chP_cg h]
theorem pcF_cg {x y : St} (h : ∀ (c o : Nat) (i : Int), c < 25 → x c o i = y c o i) : ∀ f l z, pcF x f l z = pcF y f l z
  | 0, _, _ => rfl
  | f + 1, l, z => by
    have e : pcT x l z = pcT y l z := by
      unfold pcT cyL
      rw [h 19 0 l (by decide), h 16 0 l (by decide), h 20 0 l (by decide), h 13 0 _ (by decide)]
    rw [pcF_s, pcF_s, e, h 19 0 l (by decide), pcF_cg h f]
theorem pvF_cg {x y : St} (h : ∀ (c o : Nat) (i : Int), c < 25 → x c o i = y c o i) (a : Int) : ∀ v, pvF x a v = pvF y a v
  | 0 => by
    have e : lfA x 6 = lfA y 6 := by
      funext i
      unfold lfA
      rw [h 24 0 i (by decide)]
    show (lfA x 6, (0 : Int)) = (lfA y 6, 0)
    rw [e]
  | v + 1 => by rw [pvF_s, pvF_s, pvF_cg h a v, pcF_cg h]
theorem aCyc_cg {x y : St} (h : ∀ (c o : Nat) (i : Int), c < 25 → x c o i = y c o i) (a n : Int) : aCyc x a n = aCyc y a n := by
  unfold aCyc
  rw [kPipe_cg h]
  have h0 : ∀ (v : Int) (c o : Nat) (i : Int), c < 25 → ust x 0 0 0 v c o i = ust y 0 0 0 v c o i := fun v c o i hc => by
    unfold ust
    rw [h c o i hc]
  rw [pvF_cg (h0 _)]
theorem chP_J {wb : Int} {st : St} (hJ : JS wb st) {k : Nat} (hk : k < 2) : chP st 6 (k : Int) = 1 := by
  obtain ⟨⟨h14, -⟩, ⟨-, -, h20⟩, -, h66, -⟩ := JS_a hJ (a := 0) (by decide)
  obtain ⟨-, ⟨-, -, g20⟩, -, g66, -⟩ := JS_a hJ (a := 1) (by decide)
  have n0 := (hJ.2.1.2.1 0 (by omega)).2.2.2.1
  have n1 := (hJ.2.1.2.1 1 (by omega)).2.2.2.1
  have m0 := hJ.2.2.1.2.2.2.2.2.1
  have e0 : st 19 0 ((0 : Nat) : Int) = ((1 : Nat) : Int) := by rw [← n0]; exact m0.1
  have e1 : st 19 0 ((1 : Nat) : Int) = -1 := by rw [← n1]; exact m0.2
  have c1 : ∀ f, chP st (f + 2) ((1 : Nat) : Int) = 1 := fun f => by
    rw [chP_s, if_neg (by omega), if_neg (by omega), e1, chP_e]
  have hk2 : k = 0 ∨ k = 1 := by omega
  rcases hk2 with rfl | rfl
  · rw [chP_s, if_neg (by omega), if_neg (by omega), e0]
    exact c1 3
  · exact c1 4
theorem rowsD_ld {st : St} {q o : Nat} (h : rowsD st q) : rowsD (ldCS st q o) q := by
  intro i j hij hj
  rw [ld_c _ _ _ _ (by decide)] at hj
  rw [ld_c _ _ _ _ (by decide), ld_c _ _ _ _ (by decide)]
  exact h i j hij hj
/-- placed anew behind a lifting: all that the law asks -/
theorem place_back {wb : Int} {x y u z : St} {a a' : Nat} {ot : Int} (ha : (a = 0 ∧ a' = 1) ∨ (a = 1 ∧ a' = 0)) (hJ : JS wb x) (hy : ∀ (c o : Nat) (i : Int), 25 ≤ c → y c o i = ust (ust x 66 a 0 (-1)) 50 (x 66 a 0).toNat 0 0 c o i) (hu : u = ust y 82 0 (a : Int) ot) (hIu : GI wb u) (hz : z = ldCS (plC u a ot.toNat) a ot.toNat) (hIz : GI (wb + 2048) z) (hot : 0 ≤ ot ∧ ot ≤ 3) (hne : ot ≠ x 66 a' 0) :
    PA z ∧ PC z ∧ (z 66 a 0 = ot ∧ z 31 0 0 = x 31 0 0 ∧ z 30 0 0 = x 30 0 0) ∧ dpV (cstC x a ot.toNat) (x 60 a 0).toNat 0 ≤ lmF z a ot.toNat := by
  obtain ⟨hI, -, hA, hC⟩ := hJ
  have haa : a < 2 ∧ a' < 2 ∧ a ≠ a' := by rcases ha with ⟨rfl, rfl⟩ | ⟨rfl, rfl⟩ <;> decide
  have h61 := gI_61 hI a 0
  obtain ⟨t, ht⟩ : ∃ t : Nat, t = ot.toNat := ⟨_, rfl⟩
  have htI : (t : Int) = ot := by omega
  rw [← ht] at hz ⊢
  have ux : ∀ (c o : Nat) (i : Int), 25 ≤ c → c ≠ 50 → c ≠ 66 → c ≠ 82 → u c o i = x c o i := fun c o i h25 h1 h2 h3 => by rw [hu, ust_c h3, hy c o i h25, ust_c h1, ust_c h2]
  have zx : ∀ (c o : Nat) (i : Int), 25 ≤ c → c ≠ 34 → c ≠ 35 → c ≠ 50 → c ≠ 63 → c ≠ 66 → c ≠ 82 → (c < 40 ∨ 44 < c) → z c o i = x c o i := fun c o i h25 h1 h2 h3 h4 h5 h6 h7 => by
    rw [hz, ld_c _ _ _ _ h7, plC_c _ _ _ _ _ ⟨h1, h2, h3, h4, h5⟩, ux c o i h25 h3 h5 h6]
  have u66 : ∀ o : Nat, u 66 o 0 = if o = a then -1 else x 66 o 0 := fun o => by
    rw [hu, ust_c (by decide), hy 66 o 0 (by decide), ust_c (by decide)]
    by_cases h : o = a
    · subst h; rw [ust_s, if_pos rfl]
    · rw [ust_o h, if_neg h]
  have u50 : ∀ o : Nat, u 50 o 0 = if o = (x 66 a 0).toNat then 0 else x 50 o 0 := fun o => by
    rw [hu, ust_c (by decide), hy 50 o 0 (by decide)]
    by_cases h : o = (x 66 a 0).toNat
    · subst h; rw [ust_s, if_pos rfl]
    · rw [ust_o h, if_neg h, ust_c (by decide)]
  have hIp := GI_pl hIu (hz ▸ hIz)
  have p61 : plC u a t 61 a 0 = x 61 a 0 := by rw [plC_c _ _ _ _ _ (by decide), ux 61 a 0 (by decide) (by decide) (by decide) (by decide)]
  have z66 : z 66 a 0 = (t : Int) ∧ z 66 a' 0 = x 66 a' 0 := by
    constructor
    · rw [hz, ld_c _ _ _ _ (by decide), plC_66, if_pos rfl]
    · rw [hz, ld_c _ _ _ _ (by decide), plC_66, if_neg (fun e => haa.2.2 e.symm), u66, if_neg (fun e => haa.2.2 e.symm)]
  refine ⟨?_, ?_, ⟨by rw [z66.1, htI], zx 31 0 0 (by decide) (by decide) (by decide) (by decide) (by decide) (by decide) (by decide) (by decide), zx 30 0 0 (by decide) (by decide) (by decide) (by decide) (by decide) (by decide) (by decide) (by decide)⟩, ?_⟩
  · refine PA_place (t := t) ha hA (by omega) (by omega) (fun c o i hc => zx c o i (by omega) (by omega) (by omega) (by omega) (by omega) (by omega) (by omega) (by omega)) (fun o i ho => ?_) ?_ z66 ⟨?_, ?_⟩ (fun o => ?_)
    · rw [hz, ld_c _ _ _ _ (by decide), plC_rowo _ _ _ ho, ux 63 o i (by decide) (by decide) (by decide) (by decide)]
    · rw [hz]
      exact rowsD_ld (plC_d hIu a t)
    · rw [hz, ld_c _ _ _ _ (by decide), plC_c _ _ _ _ _ (by decide), hu, ust_s, htI]
    · rw [hz, ld_c _ _ _ _ (by decide), plC_c _ _ _ _ _ (by decide), hu, ust_i (by omega), hy 82 _ _ (by decide), ust_c (by decide), ust_c (by decide)]
    · rw [hz, ld_c _ _ _ _ (by decide), plC_50, u50]
  · rw [hz]
    refine PC_ld (plC_d hIu a t) (by rw [p61]; exact h61) hIp ⟨fun o i => ?_, fun o i => ?_⟩
    · rw [plC_c _ _ _ _ _ (by decide), plC_c _ _ _ _ _ (by decide), ux 44 o i (by decide) (by decide) (by decide) (by decide), ux 43 o i (by decide) (by decide) (by decide) (by decide)]
      exact hC.1 o i
    · rw [plC_c _ _ _ _ _ (by decide), plC_c _ _ _ _ _ (by decide), ux 42 o i (by decide) (by decide) (by decide) (by decide), ux 30 0 0 (by decide) (by decide) (by decide) (by decide)]
      exact hC.2 o i
  · have hCu : PC u := ⟨fun o i => by
      rw [ux 44 o i (by decide) (by decide) (by decide) (by decide), ux 43 o i (by decide) (by decide) (by decide) (by decide)]
      exact hC.1 o i, fun o i => by
      rw [ux 42 o i (by decide) (by decide) (by decide) (by decide), ux 30 0 0 (by decide) (by decide) (by decide) (by decide)]
      exact hC.2 o i⟩
    have hf := place_fit hIu hCu (hz ▸ hIz)
    rw [← hz, ux 60 a 0 (by decide) (by decide) (by decide) (by decide)] at hf
    have ec : cstC u a t = cstC x a t := by
      funext i r
      exact cstC_e (fun c o i hc => ux c o i (by omega) (by omega) (by omega) (by omega)) i r
    rw [ec] at hf
    exact hf
