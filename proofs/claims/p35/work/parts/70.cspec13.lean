/-! ===== bitCount's number ===== -/
def sr32 (x y : Int32) : Int32 := (x.toUInt32 >>> (y.toUInt32 &&& Int32.toUInt32 31)).toInt32
def bitC1 (i : Int32) : Int32 := i - (sr32 i 1 &&& 1431655765)
def bitC2 (i : Int32) : Int32 := (i &&& 858993459) + (sr32 i 2 &&& 858993459)
def bitC3 (i : Int32) : Int32 := (i + sr32 i 4) &&& 252645135
def bitC4 (i : Int32) : Int32 := i + sr32 i 8
def bitC5 (i : Int32) : Int32 := i + sr32 i 16
theorem bitC_e : ∀ S : Nat, S < 256 → bitC5 (bitC4 (bitC3 (bitC2 (bitC1 (iI (S : Int)))))) &&& 63 = iI ((onesU S 8 : Nat) : Int) := by decide +kernel
/-! ===== the class's least table ===== -/
theorem setW_34 (st : St) (cf ff : Int → Int) (i : Int) : setW st cf ff 34 0 i = cf i := by unfold setW; rw [if_pos ⟨rfl, rfl⟩]
theorem setW_35 (st : St) (cf ff : Int → Int) (i : Int) : setW st cf ff 35 0 i = ff i := by
  unfold setW
  rw [if_neg (fun h => by omega), if_pos ⟨rfl, rfl⟩]
def csT (st : St) (i r : Nat) : Int := st 34 0 ((8 * i + r : Nat) : Int)
theorem csT_r {wb : Int} {st : St} (hI : GI wb st) (i r : Nat) : 0 ≤ csT st i r ∧ csT st i r ≤ 16 := gI_34 hI 0 _
theorem csT_e {st st' : St} (h : ∀ j, st' 34 0 j = st 34 0 j) : csT st' = csT st := by
  funext i r
  exact h _
theorem dpV_0 {cs : Nat → Nat → Int} {ni S : Nat} (h : ni ≤ onesU S 8) : dpV cs ni S = 0 := by
  unfold dpV
  rw [show ni - onesU S 8 = 0 by omega]
  rfl
theorem dpV_r {cs : Nat → Nat → Int} (h1 : ∀ i r, 0 ≤ cs i r) (ni S : Nat) : 0 ≤ dpV cs ni S ∧ dpV cs ni S ≤ 1000 := dpK_r h1 _ _
theorem fromC_min {cs : Nat → Nat → Int} {g : Nat → Int} {st : St} {i : Int} {S : Nat} (hcs : ∀ r : Nat, r < 8 → st 34 0 (8 * i + (r : Int)) = cs (onesU S 8) r) (hg : ∀ r : Nat, r < 8 → S / 2 ^ r % 2 = 0 → st 35 0 ((S ||| 2 ^ r : Nat) : Int) = g (S ||| 2 ^ r)) : ∀ r, r ≤ 8 → fromC st i S r = min 128 (rowM cs g S r)
  | 0, _ => by unfold fromC rowM; omega
  | r + 1, h => by
    have ih := fromC_min hcs hg r (by omega)
    rw [fromC_s, rowM_s]
    by_cases hb : S / 2 ^ r % 2 = 0
    · rw [if_pos hb, if_neg (show ¬ S / 2 ^ r % 2 = 1 by omega), hcs r (by omega), hg r (by omega) hb, ih]
      split <;> omega
    · rw [if_neg hb, if_pos (show S / 2 ^ r % 2 = 1 by omega), ih]
      split <;> omega
theorem fromC_dp {cs : Nat → Nat → Int} {stc : St} {ni S : Nat} {i : Int} (h1 : ∀ i r, 0 ≤ cs i r ∧ cs i r ≤ 16) (hcs : ∀ i r, stc 34 0 ((8 * i + r : Nat) : Int) = cs i r) (h35 : ∀ T, S < T → T < 256 → stc 35 0 (T : Int) = dpV cs ni T) (hn : ni ≤ 8) (hS : S < 256) (hi : i = ((onesU S 8 : Nat) : Int)) (hl : onesU S 8 < ni) : fromC stc i S 8 = dpV cs ni S := by
  obtain ⟨k, hk⟩ : ∃ k, ni = onesU S 8 + (k + 1) := ⟨ni - onesU S 8 - 1, by omega⟩
  have hd : dpV cs ni S = rowM cs (dpK cs k) S 8 := by
    unfold dpV
    rw [show ni - onesU S 8 = k + 1 by omega]
    rfl
  have hb : dpV cs ni S ≤ 16 * ((k + 1 : Nat) : Int) := by
    unfold dpV
    rw [show ni - onesU S 8 = k + 1 by omega]
    exact dpK_b h1 (k + 1) S hS (by omega)
  rw [fromC_min (cs := cs) (g := dpK cs k) (fun r hr => by rw [hi, ← hcs]; congr 1) (fun r hr hf => by
    have ho := ones_or S hS r hr hf
    rw [h35 _ ho.2.1 ho.2.2]
    unfold dpV
    rw [ho.1, show ni - (onesU S 8 + 1) = k by omega]) 8 (Nat.le_refl 8), ← hd]
  omega
/-- the least table's state -/
def fsC (st : St) (ni : Nat) : St := setW st (st 34 0) (ffX (csT st) ni (st 35 0) 0)
theorem fsC_34 (st : St) (ni : Nat) (j : Int) : fsC st ni 34 0 j = st 34 0 j := setW_34 _ _ _ _
theorem fsC_35 (st : St) (ni : Nat) {T : Nat} (h : T < 256) : fsC st ni 35 0 (T : Int) = dpV (csT st) ni T := by
  unfold fsC
  rw [setW_35]
  exact ffX_v (Nat.zero_le _) h
theorem fsC_c (st : St) (ni : Nat) {c o : Nat} {i : Int} (h : c < 34 ∨ 35 < c) : fsC st ni c o i = st c o i := setW_c _ _ _ h
theorem pk_low {cs : Nat → Nat → Int} (h1 : ∀ i r, 0 ≤ cs i r ∧ cs i r ≤ 16) {ni i S : Nat} (hn : ni ≤ 8) (hi : i < ni) (hS : S < 256) (ho : onesU S 8 = i) (h : pkN cs ni i S 0 = pkN cs ni i S 7) : pkN cs ni i S 0 = 7 := by
  obtain ⟨q, hq, -, -⟩ := pk_found h1 hn hi hS ho
  rw [h, pk_s cs ni i S (by omega), pk_8] at hq
  rw [h, pk_s cs ni i S (by omega), pk_8]
  by_cases hc : S / 2 ^ 7 % 2 = 0 ∧ cs i 7 + dpV cs ni (S ||| 2 ^ 7) = dpV cs ni S
  · rw [if_pos hc]; rfl
  · rw [if_neg hc] at hq; omega
/-- a layer's rows, all anew -/
def setQ (st : St) (q : Nat) (rf : Int → Int) : St := fun c o i => if c = 63 ∧ o = q then rf i else st c o i
theorem setQ_c (st : St) (q : Nat) (rf : Int → Int) {c o : Nat} {i : Int} (h : c ≠ 63) : setQ st q rf c o i = st c o i := by
  unfold setQ
  rw [if_neg (fun z => h z.1)]
theorem setQ_u (st : St) (q : Nat) (rf : Int → Int) (i v : Int) : ust (setQ st q rf) 63 q i v = setQ st q (updI rf i v) := by
  funext c o j
  unfold ust setQ updI
  by_cases h1 : c = 63 <;> by_cases h2 : o = q <;> by_cases h3 : j = i <;> simp [h1, h2, h3]
def rqX (st : St) (q : Nat) (cs : Nat → Nat → Int) (ni : Nat) (n : Nat) : Int → Int := fun j => if 0 ≤ j ∧ j < (n : Int) then pkN cs ni j.toNat (grS cs ni j.toNat) 0 else st 63 q j
theorem rqX_0 (st : St) (q : Nat) (cs : Nat → Nat → Int) (ni : Nat) : setQ (fsC st ni) q (rqX st q cs ni 0) = fsC st ni := by
  funext c o j
  unfold setQ rqX
  by_cases h : c = 63 ∧ o = q
  · rw [if_pos h, if_neg (by omega), h.1, h.2, fsC_c _ _ (by omega)]
  · rw [if_neg h]
theorem rqX_s (st : St) (q : Nat) (cs : Nat → Nat → Int) (ni i : Nat) {x : Int} (hx : x = pkN cs ni i (grS cs ni i) 0) : updI (rqX st q cs ni i) (i : Int) x = rqX st q cs ni (i + 1) := by
  funext j
  unfold updI rqX
  by_cases h : j = (i : Int)
  · rw [if_pos h, if_pos (by omega), h, hx]
    rfl
  · rw [if_neg h]
    by_cases h2 : 0 ≤ j ∧ j < (i : Int)
    · rw [if_pos h2, if_pos (by omega)]
    · rw [if_neg h2, if_neg (by omega)]
def stC (st : St) (q : Nat) : St := setQ (fsC st (st 60 q 0).toNat) q (rqX st q (csT st) (st 60 q 0).toNat (st 60 q 0).toNat)
/-! ===== all ways ===== -/
def wyF (cs : Nat → Nat → Int) : Nat → Nat → Nat → Int → Nat → Int
  | 0, _, _, acc, _ => acc
  | k + 1, i, S, acc, w => if S / 2 ^ (w % 8) % 2 = 1 then 128 else wyF cs k (i + 1) (S ||| 2 ^ (w % 8)) (acc + cs i (w % 8)) (w / 8)
theorem wyF_t {cs : Nat → Nat → Int} {k i S w rr : Nat} {acc : Int} (hk : 0 < k) (hr : rr = w % 8) (hb : S / 2 ^ rr % 2 = 1) : wyF cs k i S acc w = 128 := by
  obtain ⟨k1, rfl⟩ : ∃ k1, k = k1 + 1 := ⟨k - 1, by omega⟩
  subst hr
  unfold wyF
  rw [if_pos hb]
theorem wyF_f {cs : Nat → Nat → Int} {k k1 i S w w1 rr : Nat} {acc acc1 : Int} (hk : k = k1 + 1) (hr : rr = w % 8) (hb : ¬ S / 2 ^ rr % 2 = 1) (hw : w1 = w / 8) (ha : acc1 = acc + cs i rr) : wyF cs k i S acc w = wyF cs k1 (i + 1) (S ||| 2 ^ rr) acc1 w1 := by
  subst hk; subst hr; subst hw; subst ha
  rw [wyF, if_neg hb]
theorem wyF_r {cs : Nat → Nat → Int} (h1 : ∀ i r, 0 ≤ cs i r ∧ cs i r ≤ 16) : ∀ (k i S : Nat) (acc : Int) (w : Nat), 0 ≤ acc → acc + 16 * (k : Int) ≤ 128 → 0 ≤ wyF cs k i S acc w ∧ wyF cs k i S acc w ≤ 128
  | 0, i, S, acc, w, ha, hb => by unfold wyF; omega
  | k + 1, i, S, acc, w, ha, hb => by
    have h := h1 i (w % 8)
    have ih := wyF_r h1 k (i + 1) (S ||| 2 ^ (w % 8)) (acc + cs i (w % 8)) (w / 8) (by omega) (by omega)
    rw [wyF]
    split <;> omega
theorem wyF_lo {cs : Nat → Nat → Int} (h1 : ∀ i r, 0 ≤ cs i r ∧ cs i r ≤ 16) : ∀ (k i S : Nat) (acc : Int) (w : Nat), S < 256 → onesU S 8 = i → min 128 (acc + dpK cs k S) ≤ wyF cs k i S acc w
  | 0, i, S, acc, w, hS, ho => by unfold wyF dpK; omega
  | k + 1, i, S, acc, w, hS, ho => by
    rw [wyF]
    by_cases hb : S / 2 ^ (w % 8) % 2 = 1
    · rw [if_pos hb]; omega
    · rw [if_neg hb]
      have hq := ones_or S hS (w % 8) (by omega) (by omega)
      have ih := wyF_lo h1 k (i + 1) (S ||| 2 ^ (w % 8)) (acc + cs i (w % 8)) (w / 8) hq.2.2 (by omega)
      have hl := rowM_le (cs := cs) (g := dpK cs k) S (w % 8) (by omega) 8 (by omega)
      have hd : dpK cs (k + 1) S = rowM cs (dpK cs k) S 8 := rfl
      rw [ho] at hl
      omega
theorem wyF_hi {cs : Nat → Nat → Int} (h1 : ∀ i r, 0 ≤ cs i r ∧ cs i r ≤ 16) : ∀ (k i S : Nat) (acc : Int), S < 256 → onesU S 8 = i → i + k ≤ 8 → ∃ w, w < 8 ^ k ∧ wyF cs k i S acc w = acc + dpK cs k S
  | 0, i, S, acc, hS, ho, hk => ⟨0, by decide, by unfold wyF dpK; omega⟩
  | k + 1, i, S, acc, hS, ho, hk => by
    have hd : dpK cs (k + 1) S = rowM cs (dpK cs k) S 8 := rfl
    have hb := dpK_b h1 (k + 1) S hS (by omega)
    rcases rowM_att (fun i r => (h1 i r).1) (fun T => (dpK_r (fun i r => (h1 i r).1) k T).1) S 8 with h | ⟨q, hq, hf, he⟩
    · rw [hd, h] at hb; omega
    · have hor := ones_or S hS q hq hf
      obtain ⟨w, hw, hv⟩ := wyF_hi h1 k (i + 1) (S ||| 2 ^ q) (acc + cs i q) hor.2.2 (by omega) (by omega)
      refine ⟨q + 8 * w, by rw [Nat.pow_succ]; omega, ?_⟩
      rw [wyF, show (q + 8 * w) % 8 = q by omega, show (q + 8 * w) / 8 = w by omega, if_neg (by omega), hv, hd, he, ho]
      omega
def mnW (cs : Nat → Nat → Int) (ni : Nat) : Nat → Int
  | 0 => 128
  | k + 1 => min (mnW cs ni k) (wyF cs ni 0 0 0 k)
theorem mnW_s (cs : Nat → Nat → Int) (ni k : Nat) : mnW cs ni (k + 1) = min (mnW cs ni k) (wyF cs ni 0 0 0 k) := rfl
theorem mnW_r {cs : Nat → Nat → Int} (h1 : ∀ i r, 0 ≤ cs i r ∧ cs i r ≤ 16) {ni : Nat} (hn : ni ≤ 8) : ∀ k, 0 ≤ mnW cs ni k ∧ mnW cs ni k ≤ 128
  | 0 => by unfold mnW; omega
  | k + 1 => by
    have a := mnW_r h1 hn k
    have b := wyF_r h1 ni 0 0 0 k (by omega) (by omega)
    rw [mnW_s]; omega
theorem mnW_lo {cs : Nat → Nat → Int} {ni : Nat} {b : Int} (hb : b ≤ 128) (h : ∀ w, b ≤ wyF cs ni 0 0 0 w) : ∀ k, b ≤ mnW cs ni k
  | 0 => by unfold mnW; omega
  | k + 1 => by
    have a := mnW_lo hb h k
    have c := h k
    rw [mnW_s]; omega
theorem mnW_le {cs : Nat → Nat → Int} {ni w : Nat} : ∀ k, w < k → mnW cs ni k ≤ wyF cs ni 0 0 0 w
  | 0, h => absurd h (Nat.not_lt_zero _)
  | k + 1, h => by
    rw [mnW_s]
    by_cases hw : w = k
    · subst hw; omega
    · have a := mnW_le (cs := cs) (ni := ni) (w := w) k (by omega)
      omega
theorem mnW_dp {cs : Nat → Nat → Int} (h1 : ∀ i r, 0 ≤ cs i r ∧ cs i r ≤ 16) {ni : Nat} (hn : ni ≤ 8) : mnW cs ni (8 ^ ni) = dpV cs ni 0 := by
  have h0 : onesU 0 8 = 0 := by decide
  have hd : dpV cs ni 0 = dpK cs ni 0 := by unfold dpV; rw [h0]; rfl
  have hb := dpK_b h1 ni 0 (by decide) (by rw [h0]; omega)
  obtain ⟨w, hw, hv⟩ := wyF_hi h1 ni 0 0 0 (by decide) h0 (by omega)
  have h2 := mnW_le (cs := cs) (ni := ni) (w := w) (8 ^ ni) hw
  have h3 := mnW_lo (cs := cs) (ni := ni) (b := dpK cs ni 0) (by omega) (fun w => by
    have := wyF_lo h1 ni 0 0 0 w (by decide) h0
    omega) (8 ^ ni)
  rw [hd]
  omega
theorem shr3 (w i : Nat) : ((w : Nat) : Int) / 2 ^ (3 * i) % 2 ^ 3 = ((w / 8 ^ i % 8 : Nat) : Int) := by
  rw [show (8 : Nat) ^ i = 2 ^ (3 * i) from by rw [Nat.pow_mul]]
  push_cast
  rfl
theorem pw8 : ∀ n : Nat, n ≤ 4 → (1 : Int) * 2 ^ (3 * n) = ((8 ^ n : Nat) : Int) ∧ 8 ^ n ≤ 4096 := by decide +kernel
theorem div8 (w i : Nat) : w / 8 ^ (i + 1) = w / 8 ^ i / 8 := by rw [Nat.pow_succ, Nat.div_div_eq_div_mul]
/-! ===== the pipeline, cycle by cycle ===== -/
theorem setP_q {st z : St} {g : Int → Int} (h : z = setP st g) : z = setP st (z 38 0) ∧ z 38 0 = g := by
  have e : z 38 0 = g := by rw [h]; funext i; exact setP_r _ _ _
  exact ⟨by rw [e]; exact h, e⟩
theorem setP_w {st z y : St} {g : Int → Int} {i v : Int} (h : z = setP st g) (hy : y = ust z 38 0 i v) : y = setP st (updI g i v) := by
  rw [hy, h, setP_u]
def mvS (tk : Int → Int) (S : Int) (k : Nat) (x : (Int → Int) × Int) : (Int → Int) × Int :=
  if x.1 (k : Int) ≠ 0 then x else if (k : Int) = S - 1 then (updI x.1 (k : Int) (-1), x.2 + 1) else if x.1 ((k : Int) + 1) = -1 then (updI (updI x.1 (k : Int) (-1)) ((k : Int) + 1) (tk ((k : Int) + 1)), x.2) else x
def mvF (tk : Int → Int) (S : Int) : Nat → (Int → Int) × Int → (Int → Int) × Int
  | 0, x => x
  | k + 1, x => mvF tk S k (mvS tk S k x)
theorem mvF_o {tk : Int → Int} {S i x1 y : Int} {k : Nat} {lf : Int → Int} (hi : i = (k : Int)) (h0 : lf i = 0) (hS : i = S - 1) (hy : y = x1 + 1) : mvF tk S (k + 1) (lf, x1) = mvF tk S k (updI lf i (-1), y) := by
  subst hi; subst hy
  show mvF tk S k (mvS tk S k (lf, x1)) = _
  unfold mvS
  rw [if_neg (fun h => h h0), if_pos hS]
theorem mvF_m {tk : Int → Int} {S i j v x1 : Int} {k : Nat} {lf : Int → Int} (hi : i = (k : Int)) (hj : j = i + 1) (h0 : lf i = 0) (hS : i ≠ S - 1) (h1 : lf j = -1) (hv : v = tk j) : mvF tk S (k + 1) (lf, x1) = mvF tk S k (updI (updI lf i (-1)) j v, x1) := by
  subst hi; subst hj; subst hv
  show mvF tk S k (mvS tk S k (lf, x1)) = _
  unfold mvS
  rw [if_neg (fun h => h h0), if_neg hS, if_pos h1]
theorem mvF_n {tk : Int → Int} {S i j x1 : Int} {k : Nat} {lf : Int → Int} (hi : i = (k : Int)) (hj : j = i + 1) (h : lf i ≠ 0 ∨ (i ≠ S - 1 ∧ lf j ≠ -1)) : mvF tk S (k + 1) (lf, x1) = mvF tk S k (lf, x1) := by
  subst hi; subst hj
  show mvF tk S k (mvS tk S k (lf, x1)) = _
  unfold mvS
  by_cases h0 : lf (k : Int) = 0
  · rcases h with h | h
    · exact absurd h0 h
    · rw [if_neg (fun z => z h0), if_neg h.1, if_neg h.2]
  · rw [if_pos h0]
theorem mvS_b (tk : Int → Int) (S : Int) (k : Nat) (x : (Int → Int) × Int) : x.2 ≤ (mvS tk S k x).2 ∧ (mvS tk S k x).2 ≤ x.2 + 1 := by
  unfold mvS
  split
  · omega
  · split
    · exact ⟨by show x.2 ≤ x.2 + 1; omega, Int.le_refl _⟩
    · split
      · exact ⟨Int.le_refl _, by show x.2 ≤ x.2 + 1; omega⟩
      · omega
theorem mvF_b (tk : Int → Int) (S : Int) : ∀ (k : Nat) (x : (Int → Int) × Int), x.2 ≤ (mvF tk S k x).2 ∧ (mvF tk S k x).2 ≤ x.2 + (k : Int)
  | 0, x => by show x.2 ≤ x.2 ∧ x.2 ≤ x.2 + 0; omega
  | k + 1, x => by
    have a := mvS_b tk S k x
    have b := mvF_b tk S k (mvS tk S k x)
    show x.2 ≤ (mvF tk S k (mvS tk S k x)).2 ∧ (mvF tk S k (mvS tk S k x)).2 ≤ _
    omega
def wkF (k : Nat) (lf : Int → Int) : Int → Int := fun j => if (0 ≤ j ∧ j < (k : Int)) ∧ 0 < lf j then lf j - 1 else lf j
theorem mv_back {st stb st2 : St} {lf : Int → Int} (h : stb = setP st lf) (h2 : st2 = setP stb (mvF (stb 37 0) (stb 36 0 0) (stb 36 0 0).toNat (stb 38 0, 0)).1) : st2 = setP st (mvF (st 37 0) (st 36 0 0) (st 36 0 0).toNat (lf, 0)).1 ∧ mvF (stb 37 0) (stb 36 0 0) (stb 36 0 0).toNat (stb 38 0, 0) = mvF (st 37 0) (st 36 0 0) (st 36 0 0).toNat (lf, 0) := by
  have e38 := (setP_q h).2
  have e37 : stb 37 0 = st 37 0 := by rw [h]; funext i; exact setP_c _ _ (by decide)
  have e36 : stb 36 0 0 = st 36 0 0 := by rw [h]; exact setP_c _ _ (by decide)
  rw [e36, e37, e38] at h2 ⊢
  refine ⟨?_, rfl⟩
  rw [h2, h]
  funext c o i
  unfold setP
  by_cases hc : c = 38 ∧ o = 0
  · rw [if_pos hc, if_pos hc]
  · rw [if_neg hc, if_neg hc, if_neg hc]
theorem wk_back {st z z2 : St} {g : Int → Int} (h : z = setP st g) (h2 : z2 = setP z (lfW z (z 36 0 0).toNat)) : z2 = setP st (wkF (st 36 0 0).toNat g) := by
  have e36 : z 36 0 0 = st 36 0 0 := by rw [h]; exact setP_c _ _ (by decide)
  have e38 := (setP_q h).2
  have hl : ∀ k, lfW z k = wkF k g := fun k => by unfold lfW wkF; rw [e38]
  rw [h2, hl, e36, h]
  funext c o i
  unfold setP
  by_cases hc : c = 38 ∧ o = 0
  · rw [if_pos hc, if_pos hc]
  · rw [if_neg hc, if_neg hc, if_neg hc]
def cyMx : Nat := 1000000
theorem cyMx_v : (cyMx : Int) = 1000000 := rfl
def enF (tk : Int → Int) (w en : Int) (lf : Int → Int) : Int → Int := if en < w ∧ lf 0 = -1 then updI lf 0 (tk 0) else lf
def enN (w en : Int) (lf : Int → Int) : Int := if en < w ∧ lf 0 = -1 then en + 1 else en
def cyC (tk : Int → Int) (S w : Int) : Nat → (Int → Int) → Int → Int → Int → Int
  | 0, _, _, _, _ => 1000000
  | f + 1, lf, en, dn, cyc => if w ≤ dn + (mvF tk S S.toNat (lf, 0)).2 then cyc else cyC tk S w f (wkF S.toNat (enF tk w en (mvF tk S S.toNat (lf, 0)).1)) (enN w en (mvF tk S S.toNat (lf, 0)).1) (dn + (mvF tk S S.toNat (lf, 0)).2) (cyc + 1)
theorem cyC_y {tk : Int → Int} {S w : Int} {f : Nat} {lf : Int → Int} {en dn cyc : Int} (h : w ≤ dn + (mvF tk S S.toNat (lf, 0)).2) : cyC tk S w (f + 1) lf en dn cyc = cyc := by
  rw [cyC, if_pos h]
theorem cyC_n {tk : Int → Int} {S w : Int} {f : Nat} {lf g : Int → Int} {en dn cyc en1 dn1 cyc1 : Int} (hd : ¬ w ≤ dn1) (hdn : dn1 = dn + (mvF tk S S.toNat (lf, 0)).2) (hc : cyc1 = cyc + 1)
    (he : (en < w ∧ (mvF tk S S.toNat (lf, 0)).1 0 = -1 ∧ en1 = en + 1 ∧ g = updI (mvF tk S S.toNat (lf, 0)).1 0 (tk 0)) ∨ (¬ (en < w ∧ (mvF tk S S.toNat (lf, 0)).1 0 = -1) ∧ en1 = en ∧ g = (mvF tk S S.toNat (lf, 0)).1)) : cyC tk S w f (wkF S.toNat g) en1 dn1 cyc1 = cyC tk S w (f + 1) lf en dn cyc := by
  subst hdn; subst hc
  rw [cyC, if_neg hd]
  unfold enF enN
  rcases he with ⟨h1, h2, rfl, rfl⟩ | ⟨h1, rfl, rfl⟩
  · rw [if_pos ⟨h1, h2⟩, if_pos ⟨h1, h2⟩]
  · rw [if_neg h1, if_neg h1]
/-- the stages, all made free -/
def lfN (st : St) (k : Nat) : Int → Int := fun j => if 0 ≤ j ∧ j < (k : Int) then -1 else st 38 0 j
theorem lfN_s (st : St) (k : Nat) : updI (lfN st k) (k : Int) (-1) = lfN st (k + 1) := by
  funext j
  unfold updI lfN
  by_cases h : j = (k : Int)
  · rw [if_pos h, if_pos (by omega)]
  · rw [if_neg h]
    by_cases h2 : 0 ≤ j ∧ j < (k : Int)
    · rw [if_pos h2, if_pos (by omega)]
    · rw [if_neg h2, if_neg (by omega)]
theorem lfN_0 (st : St) : setP st (lfN st 0) = st := by
  have h : lfN st 0 = st 38 0 := by
    funext j
    unfold lfN
    rw [if_neg (by omega)]
  rw [h]
  exact (setP_self st).symm
def cyV (st : St) (w : Int) : Int := cyC (st 37 0) (st 36 0 0) w cyMx (lfN st (st 36 0 0).toNat) 0 0 0
