/-! ===== the class's heavier answers, by the model's words ===== -/
def setT (st : St) (tf : Int → Int) (sg : Int) : St := fun c o i => if c = 37 ∧ o = 0 then tf i else if c = 36 ∧ o = 0 ∧ i = 0 then sg else st c o i
theorem setT_c (st : St) (tf : Int → Int) (sg : Int) {c o : Nat} {i : Int} (h : c < 36 ∨ 37 < c) : setT st tf sg c o i = st c o i := by
  unfold setT
  rw [if_neg (fun q => by omega), if_neg (fun q => by omega)]
theorem setT_36 (st : St) (tf : Int → Int) (sg : Int) : setT st tf sg 36 0 0 = sg := by
  unfold setT
  rw [if_neg (fun q => by omega), if_pos ⟨rfl, rfl, rfl⟩]
theorem setT_37 (st : St) (tf : Int → Int) (sg : Int) (i : Int) : setT st tf sg 37 0 i = tf i := by
  unfold setT
  rw [if_pos ⟨rfl, rfl⟩]
theorem setT_self (st : St) : st = setT st (st 37 0) (st 36 0 0) := by
  funext c o i
  unfold setT
  by_cases h : c = 37 ∧ o = 0
  · rw [if_pos h, h.1, h.2]
  · rw [if_neg h]
    by_cases h2 : c = 36 ∧ o = 0 ∧ i = 0
    · rw [if_pos h2, h2.1, h2.2.1, h2.2.2]
    · rw [if_neg h2]
theorem setT_u36 (st : St) (tf : Int → Int) (sg v : Int) : ust (setT st tf sg) 36 0 0 v = setT st tf v := by
  funext c o j
  unfold ust setT
  by_cases h1 : c = 36 <;> by_cases h2 : o = 0 <;> by_cases h3 : j = 0 <;> simp [h1, h2, h3]
theorem setT_u37 (st : St) (tf : Int → Int) (sg i v : Int) : ust (setT st tf sg) 37 0 i v = setT st (updI tf i v) sg := by
  funext c o j
  unfold ust setT updI
  by_cases h1 : c = 37 <;> by_cases h2 : o = 0 <;> by_cases h3 : j = i <;> simp [h1, h2, h3]
theorem setT_u0 (st : St) : ust st 36 0 0 0 = setT st (st 37 0) 0 := by
  have h := setT_u36 st (st 37 0) (st 36 0 0) 0
  rw [← setT_self st] at h
  exact h
/-- the stages are those of the chain from layer a on -/
def tpP (st : St) (a : Int) (st' : St) : Prop := ∃ S : Nat, (1 ≤ S ∧ S ≤ 6) ∧ chN st a S = -1 ∧ (∀ k, k < S → 0 ≤ chN st a k ∧ chN st a k < st 14 0 0 ∧ 0 ≤ st 20 0 (chN st a k)) ∧ (∀ j k, j < k → k < S → chN st a j < chN st a k) ∧ ∃ tf : Int → Int, (∀ k : Nat, k < S → tf (k : Int) = cyL st (chN st a k)) ∧ st' = setT st tf (S : Int)
theorem cyL_e {st : St} (h : RY st) {q t : Nat} (hq : (q : Int) < st 14 0 0) (ht : t < 6) (htq : st 20 0 (q : Int) = (t : Int)) (hm : 1 ≤ st 49 t 0) : 8 * quF (4 * st 61 q 0 + st 49 t 0 - 1) (st 49 t 0) = cyL st (q : Int) := by
  have h1 := (h.2.1 q hq).2.1
  have h2 := (h.2.2.2.2.2.1 t ht).2.2.2
  have h3 := quF_s (4 * st 61 q 0 + st 49 t 0 - 1) (st 49 t 0)
  unfold cyL cyF
  rw [htq, ← h1, ← h2]
  omega
theorem chN_0 (st : St) (v a : Int) : ∀ k, chN (ust st 0 0 0 v) a k = chN st a k
  | 0 => rfl
  | k + 1 => by
    show (if chN (ust st 0 0 0 v) a k = -1 then -1 else (ust st 0 0 0 v) 19 0 (chN (ust st 0 0 0 v) a k)) = (if chN st a k = -1 then -1 else st 19 0 (chN st a k))
    rw [chN_0 st v a k]
    rfl
theorem cyF_lo {o m : Int} (ho : 1 ≤ o) (hm : 1 ≤ m) : 8 ≤ cyF o m := by
  unfold cyF
  have h : 1 ≤ (4 * o + m - 1) / m := by
    rw [Int.le_ediv_iff_mul_le (by omega)]
    omega
  omega
theorem tp_cyc {wb : Int} {st st1 : St} {a w : Int} (hR : RY st) (hI : GI wb st) (hI1 : GI wb st1) (h : tpP st a st1) (hm : st 14 0 0 ≤ 6) (hw : 1 ≤ w ∧ w ≤ 1000) (hk : kPipe st a w = 0) : tkS st1 (st1 36 0 0).toNat + (w - 1) * tkM st1 (st1 36 0 0).toNat = aCyc st a w ∧ cyV st1 w = aCyc st a w := by
  obtain ⟨S, ⟨hS1, hS6⟩, hce, hcr, hcm, tf, htf, he⟩ := h
  have h36 : st1 36 0 0 = (S : Int) := by rw [he]; exact setT_36 _ _ _
  have h37 : ∀ i, st1 37 0 i = tf i := fun i => by rw [he]; exact setT_37 _ _ _ _
  obtain ⟨tk, htk⟩ : ∃ tk : Nat → Int, tk = fun l => if l < S then tf (l : Int) else 1 := ⟨_, rfl⟩
  have htl : ∀ l, l < S → tk l = tf (l : Int) := fun l hl => by
    rw [htk]
    show (if l < S then tf (l : Int) else 1) = _
    rw [if_pos hl]
  have hrg : ∀ l, 0 < tk l ∧ tk l ≤ 128 := fun l => by
    by_cases hl : l < S
    · rw [htl l hl, htf l hl]
      obtain ⟨c1, c2, c3⟩ := hcr l hl
      obtain ⟨q, hq⟩ : ∃ q : Nat, chN st a l = (q : Int) := ⟨(chN st a l).toNat, by omega⟩
      rw [hq] at c2 c3 ⊢
      have h61 := (hR.2.1 q c2).2.1
      have g61 := gI_61 hI q 0
      have g13 := gI_13 hI 0 (st 20 0 (q : Int))
      unfold cyL
      have a1 := cyF_lo (o := st 16 0 (q : Int)) (m := st 13 0 (st 20 0 (q : Int))) (by omega) (by omega)
      have a2 := cyF_r (o := st 16 0 (q : Int)) (m := st 13 0 (st 20 0 (q : Int))) (by omega) (by omega)
      omega
    · rw [htk]
      show 0 < (if l < S then tf (l : Int) else 1) ∧ (if l < S then tf (l : Int) else 1) ≤ 128
      rw [if_neg hl]
      decide
  obtain ⟨W, hW⟩ : ∃ W : Nat, w = (W : Int) := ⟨w.toNat, by omega⟩
  subst hW
  have hIe : ∀ l : Nat, l < S → st1 37 0 (l : Int) = tk l := fun l hl => by rw [h37, htl l hl]
  have e1 := reck_D (st := st1) (tk := tk) (w := W) (fun l => (gI_37 hI1 0 (l : Int)).1) (fun l => (hrg l).1) hIe hS1 (by omega)
  have hb := Dv_up (tk := tk) (S := S) (M := 128) (fun l => (hrg l).1) (fun l _ => (hrg l).2) (W - 1) (S - 1) (by omega)
  have hs := sumN_r (f := tk) (B := 128) (fun c => ⟨Int.le_of_lt (hrg c).1, (hrg c).2⟩) (S - 1 + 1)
  rw [show W - 1 + 1 = W by omega] at hb
  have e2 := cyV_D (st := st1) (tk := tk) (w := W) (fun l => (hrg l).1) hIe hS1 h36 (by omega) (by omega)
  have e3 : aCyc st a (W : Int) = Dv tk S W (S - 1) := by
    unfold aCyc
    rw [if_pos hk, Int.toNat_natCast]
    refine (pv_D (st := ust st 0 0 0 (kPipe st a (W : Int))) (tk := tk) hS1 hS6 (fun k hk => ?_) ?_ (fun j k hj hk e => ?_) (fun k hk => ?_) W).2 (by omega)
    · rw [chN_0]
      have := hcr k hk
      omega
    · rw [chN_0]; exact hce
    · rw [chN_0, chN_0] at e
      rcases Nat.lt_trichotomy j k with q | q | q
      · have := hcm j k q hk; omega
      · exact q
      · have := hcm k j q hj; omega
    · rw [chN_0, htl k hk, htf k hk]
      rfl
  rw [h36, Int.toNat_natCast, e1, e2, e3]
  exact ⟨rfl, rfl⟩
def cspStep (t : Nat) (x : St × Int × Int) : St × Int × Int := (bsC x.1 t (drF x.2.2 % 128) (drF (drF x.2.2) % 16), x.2.1 + (1 - x.1 43 t (drF x.2.2 % 128)), drF (drF x.2.2))
def cspI (t : Nat) (x : St × Int × Int) : Nat → St × Int × Int
  | 0 => x
  | n + 1 => cspStep t (cspI t x n)
theorem cspI_s (t : Nat) (x : St × Int × Int) (n : Nat) : cspI t x (n + 1) = cspStep t (cspI t x n) := rfl
theorem allK_r (st : St) (q o : Nat) : ∀ i, allK st q o i = 0 ∨ allK st q o i = 1
  | 0 => Or.inr rfl
  | i + 1 => by
    rw [allK_s]
    by_cases h : allK st q o i = 0
    · rw [if_pos h]; exact Or.inl rfl
    · rw [if_neg h]; exact rowK_r st q o i _
theorem csT_w {st st2 : St} {q t i r : Nat} {ff : Int → Int} (h : RY st) (hs : st2 = setW st (cwX st q t (8 * (st 60 q 0).toNat)) ff) (hq : (q : Int) < st 14 0 0) (ht : t < 6) (hi : i < (st 60 q 0).toNat) (h8 : st 60 q 0 ≤ 8) (hr : r < 8) (ho : 1 ≤ st 61 q 0 ∧ st 61 q 0 ≤ 4) : csT st2 i r = cst st (q : Int) (t : Int) i r := by
  unfold csT
  rw [hs, setW_34, ← RY_cost h hq ht (by omega) hr ho]
  unfold cwX
  rw [if_pos (by omega), Int.toNat_natCast, show (8 * i + r) / 8 = i by omega, show (8 * i + r) % 8 = r by omega]
theorem setW_W (st : St) (a b c d : Int → Int) : setW (setW st a b) c d = setW st c d := by
  funext x o i
  unfold setW
  by_cases h1 : x = 34 ∧ o = 0
  · rw [if_pos h1, if_pos h1]
  · rw [if_neg h1, if_neg h1]
    by_cases h2 : x = 35 ∧ o = 0
    · rw [if_pos h2, if_neg h1, if_pos h2]
    · rw [if_neg h2, if_neg h1, if_neg h2, if_neg h2]
theorem fsC_ex {st st2 st3 : St} {a b : Int → Int} {ni : Nat} (h : st2 = setW st a b) (h3 : st3 = fsC st2 ni) : ∃ cf ff, st3 = setW st cf ff := by
  subst h; subst h3
  exact ⟨_, _, setW_W _ _ _ _ _⟩
theorem lonF_n {st : St} {t : Int} : ∀ k : Nat, (∀ q : Int, 0 ≤ q ∧ q < (k : Int) → st 20 0 q ≠ t) → lonF st t k = -1
  | 0, _ => rfl
  | k + 1, h => by
    rw [lonF_s, if_neg (h (k : Int) (by omega))]
    exact lonF_n k (fun q hq => h q (by omega))
theorem lonF_y {st : St} {t : Int} : ∀ k : Nat, (∃ q : Int, (0 ≤ q ∧ q < (k : Int)) ∧ st 20 0 q = t) → 0 ≤ lonF st t k
  | 0, h => by obtain ⟨q, h1, -⟩ := h; omega
  | k + 1, h => by
    rw [lonF_s]
    by_cases hk : st 20 0 (k : Int) = t
    · rw [if_pos hk]; omega
    · rw [if_neg hk]
      obtain ⟨q, h1, h2⟩ := h
      refine lonF_y k ⟨q, ?_, h2⟩
      by_cases hqk : q = (k : Int)
      · subst hqk; exact absurd h2 hk
      · omega
theorem place_k {st : St} (h : RY st) {t : Nat} (ht : t < 6) : (st 50 t 0 = 0 ∧ lonF st (t : Int) (st 14 0 0).toNat = -1) ∨ (st 50 t 0 = 1 ∧ 0 ≤ lonF st (t : Int) (st 14 0 0).toNat) := by
  rcases h.2.2.2.2.2.2.2.1 t ht with ⟨a, q, hq, he⟩ | ⟨a, b⟩
  · exact Or.inr ⟨a, lonF_y _ ⟨q, by omega, he⟩⟩
  · exact Or.inl ⟨a, lonF_n _ (fun q hq => b q (by omega))⟩
/-- the class's state behind seating, ahead of the writes -/
def plC (st : St) (q t : Nat) : St := ust (ust (stC (setW st (cwX st q t (8 * (st 60 q 0).toNat)) (st 35 0)) q) 66 q 0 ((t : Nat) : Int)) 50 t 0 1
theorem plC_c (st : St) (q t : Nat) {c : Nat} (o : Nat) (i : Int) (h : c ≠ 34 ∧ c ≠ 35 ∧ c ≠ 50 ∧ c ≠ 63 ∧ c ≠ 66) : plC st q t c o i = st c o i := by
  unfold plC stC
  rw [ust_c h.2.2.1, ust_c h.2.2.2.2, setQ_c _ _ _ h.2.2.2.1, fsC_c _ _ (by omega), setW_c _ _ _ (by omega)]
theorem setT_q {st z : St} {g : Int → Int} {sg : Int} (h : z = setT st g sg) : z 37 0 = g ∧ z = setT st (z 37 0) sg := by
  have e : z 37 0 = g := by rw [h]; funext i; exact setT_37 _ _ _ _
  exact ⟨e, by rw [e]; exact h⟩
theorem tpP_ex {st st1 : St} {a : Int} (h : tpP st a st1) : ∃ tf sg, st1 = setT st tf sg := by
  obtain ⟨S, -, -, -, -, tf, -, h⟩ := h
  exact ⟨tf, _, h⟩
theorem cy_ex {st st1 st2 : St} {tf lf : Int → Int} {sg : Int} (h : st1 = setT st tf sg) (h2 : st2 = setP st1 lf) : ∃ tf sg lf, st2 = setP (setT st tf sg) lf := ⟨tf, sg, lf, by rw [h2, h]⟩
