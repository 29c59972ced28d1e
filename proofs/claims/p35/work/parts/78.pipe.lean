/-! ===== the pipeline: when the v-th vector leaves stage l ===== -/
def rowD (tk : Nat → Int) (S : Nat) (pv : Nat → Int) : Nat → Int
  | 0 => if 1 < S then max (pv 0 + tk 0) (pv 1) else pv 0 + tk 0
  | l + 1 => if l + 2 < S then max (rowD tk S pv l + tk (l + 1)) (pv (l + 2)) else rowD tk S pv l + tk (l + 1)
def Dv (tk : Nat → Int) (S : Nat) : Nat → Nat → Int
  | 0 => fun _ => 0
  | v + 1 => rowD tk S (Dv tk S v)
def En (tk : Nat → Int) (S : Nat) (v : Nat) : Nat → Int
  | 0 => Dv tk S (v - 1) 0
  | l + 1 => Dv tk S v l
theorem Dv_e (tk : Nat → Int) (S : Nat) {v : Nat} (hv : 1 ≤ v) (l : Nat) : Dv tk S v l = if l + 1 < S then max (En tk S v l + tk l) (Dv tk S (v - 1) (l + 1)) else En tk S v l + tk l := by
  obtain ⟨u, rfl⟩ : ∃ u, v = u + 1 := ⟨v - 1, by omega⟩
  cases l with
  | zero => rfl
  | succ l => rfl
theorem rowD_m {tk : Nat → Int} {S : Nat} {p q : Nat → Int} (h : ∀ l, p l ≤ q l) : ∀ l, rowD tk S p l ≤ rowD tk S q l
  | 0 => by
    have h0 := h 0
    have h1 := h 1
    unfold rowD
    split <;> omega
  | l + 1 => by
    have h0 := rowD_m (tk := tk) (S := S) h l
    have h1 := h (l + 2)
    unfold rowD
    split <;> omega
theorem rowD_0 {tk : Nat → Int} {S : Nat} {p : Nat → Int} (ht : ∀ l, 0 < tk l) (h : ∀ l, 0 ≤ p l) : ∀ l, 0 < rowD tk S p l
  | 0 => by
    have h0 := h 0
    have h2 := ht 0
    unfold rowD
    split <;> omega
  | l + 1 => by
    have h0 := rowD_0 (S := S) ht h l
    have h2 := ht (l + 1)
    unfold rowD
    split <;> omega
theorem Dv_0 {tk : Nat → Int} (S : Nat) (ht : ∀ l, 0 < tk l) : ∀ v l, 0 ≤ Dv tk S v l
  | 0, _ => Int.le_refl 0
  | v + 1, l => Int.le_of_lt (rowD_0 ht (Dv_0 S ht v) l)
theorem Dv_s {tk : Nat → Int} (S : Nat) (ht : ∀ l, 0 < tk l) : ∀ v l, Dv tk S v l ≤ Dv tk S (v + 1) l
  | 0, l => Dv_0 S ht 1 l
  | v + 1, l => rowD_m (Dv_s S ht v) l
theorem Dv_m {tk : Nat → Int} (S : Nat) (ht : ∀ l, 0 < tk l) {v : Nat} : ∀ k l, Dv tk S v l ≤ Dv tk S (v + k) l
  | 0, _ => Int.le_refl _
  | k + 1, l => Int.le_trans (Dv_m S ht k l) (Dv_s S ht (v + k) l)
theorem Dv_l {tk : Nat → Int} (S : Nat) {v : Nat} (hv : 1 ≤ v) (l : Nat) : Dv tk S v l + tk (l + 1) ≤ Dv tk S v (l + 1) := by
  rw [Dv_e tk S hv (l + 1)]
  show _ ≤ if l + 1 + 1 < S then max (Dv tk S v l + tk (l + 1)) _ else Dv tk S v l + tk (l + 1)
  split <;> omega
theorem Dv_ll {tk : Nat → Int} (S : Nat) (ht : ∀ l, 0 < tk l) {v : Nat} (hv : 1 ≤ v) (l : Nat) : ∀ k, Dv tk S v l ≤ Dv tk S v (l + k)
  | 0 => Int.le_refl _
  | k + 1 => by
    have a := Dv_ll S ht hv l k
    have b := Dv_l (tk := tk) S hv (l + k)
    have c := ht (l + k + 1)
    rw [← Nat.add_assoc]
    omega
theorem cM (v : Nat) (M : Int) : ((v + 1 : Nat) : Int) * M = (v : Int) * M + M := by
  push_cast
  rw [Int.add_mul, Int.one_mul]
theorem Dv_up {tk : Nat → Int} {S : Nat} {M : Int} (ht : ∀ l, 0 < tk l) (hM : ∀ l, l < S → tk l ≤ M) : ∀ v l, l < S → Dv tk S (v + 1) l ≤ sumN tk (l + 1) + (v : Int) * M
  | 0, 0, hl => by
    have h2 := ht 0
    show rowD tk S (fun _ => 0) 0 ≤ 0 + tk 0 + ((0 : Nat) : Int) * M
    rw [show ((0 : Nat) : Int) = 0 from rfl, Int.zero_mul]
    unfold rowD
    split <;> omega
  | 0, l + 1, hl => by
    have ih := Dv_up ht hM 0 l (by omega)
    have h1 := rowD_0 (S := S) (p := fun _ => 0) ht (fun _ => Int.le_refl 0) l
    have h2 := ht (l + 1)
    rw [show ((0 : Nat) : Int) = 0 from rfl, Int.zero_mul] at ih ⊢
    have ih : rowD tk S (fun _ => 0) l ≤ sumN tk (l + 1) + 0 := ih
    rw [sumN_s]
    show rowD tk S (fun _ => 0) (l + 1) ≤ _
    unfold rowD
    split <;> omega
  | v + 1, 0, hl => by
    have ih := Dv_up ht hM v 0 hl
    have h1 := hM 0 hl
    rw [cM]
    rw [Dv_e tk S (by omega) 0]
    show (if 0 + 1 < S then max (Dv tk S (v + 1) 0 + tk 0) (Dv tk S (v + 1) 1) else Dv tk S (v + 1) 0 + tk 0) ≤ _
    simp only [Nat.zero_add] at ih ⊢
    by_cases h : 1 < S
    · rw [if_pos h]
      have ih1 : Dv tk S (v + 1) 1 ≤ sumN tk 1 + tk 1 + (v : Int) * M := Dv_up ht hM v 1 h
      have h3 := hM 1 h
      omega
    · rw [if_neg h]
      omega
  | v + 1, l + 1, hl => by
    have ih := Dv_up ht hM (v + 1) l (by omega)
    rw [cM] at ih ⊢
    rw [Dv_e tk S (by omega) (l + 1), sumN_s]
    show (if l + 1 + 1 < S then max (Dv tk S (v + 2) l + tk (l + 1)) (Dv tk S (v + 1) (l + 2)) else Dv tk S (v + 2) l + tk (l + 1)) ≤ _
    by_cases h : l + 1 + 1 < S
    · rw [if_pos h]
      have ih1 := Dv_up ht hM v (l + 2) h
      have h3 := hM (l + 2) h
      rw [sumN_s, sumN_s] at ih1
      have ih : Dv tk S (v + 2) l ≤ _ := ih
      omega
    · rw [if_neg h]
      have ih : Dv tk S (v + 2) l ≤ _ := ih
      omega
theorem Dv_lo1 {tk : Nat → Int} {S : Nat} (ht : ∀ l, 0 < tk l) : ∀ l, sumN tk (l + 1) ≤ Dv tk S 1 l
  | 0 => by
    rw [Dv_e tk S (by omega) 0, sumN_s]
    show 0 + tk 0 ≤ if 0 + 1 < S then max (0 + tk 0) _ else 0 + tk 0
    split <;> omega
  | l + 1 => by
    have a := Dv_lo1 (S := S) ht l
    have b := Dv_l (tk := tk) S (v := 1) (by omega) l
    rw [sumN_s]
    omega
theorem Dv_lo {tk : Nat → Int} {S j : Nat} {M : Int} (ht : ∀ l, 0 < tk l) (hj : j < S) (hM : tk j = M) : ∀ (v k : Nat), j + k < S → sumN tk (j + k + 1) + (v : Int) * M ≤ Dv tk S (v + 1) (j + k)
  | 0, k, _ => by
    rw [show ((0 : Nat) : Int) = 0 from rfl, Int.zero_mul, Int.add_zero]
    exact Dv_lo1 ht _
  | v + 1, 0, h => by
    have ih := Dv_lo ht hj hM v 0 h
    rw [cM]
    simp only [Nat.add_zero] at ih ⊢
    have e := Dv_e tk S (v := v + 1 + 1) (by omega) j
    cases j with
    | zero =>
      have e : Dv tk S (v + 1 + 1) 0 = if 0 + 1 < S then max (Dv tk S (v + 1) 0 + tk 0) (Dv tk S (v + 1) 1) else Dv tk S (v + 1) 0 + tk 0 := e
      rw [e]
      split <;> omega
    | succ j =>
      have e2 := Dv_e tk S (v := v + 1 + 1) (by omega) j
      rw [if_pos hj] at e2
      have e2 : Dv tk S (v + 1 + 1) j = max _ (Dv tk S (v + 1) (j + 1)) := e2
      have e3 := Dv_l (tk := tk) S (v := v + 1 + 1) (by omega) j
      omega
  | v + 1, k + 1, h => by
    have ih := Dv_lo ht hj hM (v + 1) k (by omega)
    have e3 := Dv_l (tk := tk) S (v := v + 1 + 1) (by omega) (j + k)
    rw [show j + (k + 1) = j + k + 1 by omega, sumN_s]
    omega
theorem Dv_cl {tk : Nat → Int} {S j : Nat} {M : Int} (ht : ∀ l, 0 < tk l) (hM : ∀ l, l < S → tk l ≤ M) (hj : j < S) (hjm : tk j = M) (v : Nat) : Dv tk S (v + 1) (S - 1) = sumN tk S + (v : Int) * M := by
  have a := Dv_up ht hM v (S - 1) (by omega)
  have b := Dv_lo ht hj hjm v (S - 1 - j) (by omega)
  rw [show j + (S - 1 - j) = S - 1 by omega] at b
  rw [show S - 1 + 1 = S by omega] at a b
  omega
theorem tkM_x {st : St} (h0 : ∀ l : Nat, 0 ≤ st 37 0 (l : Int)) : ∀ S, 1 ≤ S → (∀ l : Nat, l < S → st 37 0 (l : Int) ≤ tkM st S) ∧ ∃ j, j < S ∧ st 37 0 ((j : Nat) : Int) = tkM st S
  | 0, h => absurd h (by decide)
  | S + 1, _ => by
    rw [tkM_s]
    by_cases hS : 1 ≤ S
    · obtain ⟨a, j, hj, e⟩ := tkM_x h0 S hS
      refine ⟨fun l hl => ?_, ?_⟩
      · by_cases hls : l = S
        · subst hls; omega
        · have := a l (by omega); omega
      · by_cases hm : st 37 0 (S : Int) ≤ tkM st S
        · exact ⟨j, by omega, by omega⟩
        · exact ⟨S, by omega, by omega⟩
    · obtain rfl : S = 0 := by omega
      have h1 := h0 0
      have h2 : tkM st 0 = 0 := rfl
      refine ⟨fun l hl => ?_, 0, by omega, by omega⟩
      obtain rfl : l = 0 := by omega
      omega
/-- the simple reckoning is the time of the last vector -/
theorem reck_D {st : St} {tk : Nat → Int} {S w : Nat} (h0 : ∀ l : Nat, 0 ≤ st 37 0 (l : Int)) (ht : ∀ l, 0 < tk l) (hI : ∀ l : Nat, l < S → st 37 0 (l : Int) = tk l) (hS : 1 ≤ S) (hw : 1 ≤ w) : tkS st S + ((w : Int) - 1) * tkM st S = Dv tk S w (S - 1) := by
  obtain ⟨a, j, hj, e⟩ := tkM_x (st := st) h0 S hS
  obtain ⟨v, rfl⟩ : ∃ v, w = v + 1 := ⟨w - 1, by omega⟩
  rw [Dv_cl (tk := tk) (M := tkM st S) ht (fun l hl => by rw [← hI l hl]; exact a l hl) hj (by rw [← hI j hj]; exact e) v, show ((v + 1 : Nat) : Int) - 1 = (v : Int) by omega]
  congr 1
  exact sumN_e S (fun k hk => hI k hk)
/-! ===== the model's reckoning along a chain ===== -/
def chN (st : St) (a : Int) : Nat → Int
  | 0 => a
  | k + 1 => if chN st a k = -1 then -1 else st 19 0 (chN st a k)
theorem chN_s {st : St} {a : Int} {k : Nat} (h : chN st a k ≠ -1) : chN st a (k + 1) = st 19 0 (chN st a k) := by
  show (if chN st a k = -1 then -1 else st 19 0 (chN st a k)) = _
  rw [if_neg h]
theorem pc_D {st : St} {a : Int} {S v : Nat} {tk : Nat → Int} (hc : ∀ k, k < S → chN st a k ≠ -1) (hS : chN st a S = -1) (hd : ∀ j k, j < S → k < S → chN st a j = chN st a k → j = k) (htk : ∀ k, k < S → cyL st (chN st a k) = tk k) : ∀ (f k : Nat) (lf : Int → Int) (x : Int), k ≤ S → S ≤ k + f → (∀ j, j < k → lf (chN st a j) = Dv tk S (v + 1) j) → (∀ j, k ≤ j → j < S → lf (chN st a j) = Dv tk S v j) → x = En tk S (v + 1) k → (∀ j, j < S → (pcF st f (chN st a k) (lf, x)).1 (chN st a j) = Dv tk S (v + 1) j) ∧ (pcF st f (chN st a k) (lf, x)).2 = En tk S (v + 1) S
  | 0, k, lf, x, h1, h2, h3, h4, h5 => by
    obtain rfl : k = S := by omega
    exact ⟨h3, h5⟩
  | f + 1, k, lf, x, h1, h2, h3, h4, h5 => by
    rw [pcF_s]
    by_cases hk : k = S
    · subst hk
      rw [if_pos hS]
      exact ⟨h3, h5⟩
    · have hkl : k < S := by omega
      rw [if_neg (hc k hkl)]
      have ht : pcT st (chN st a k) (lf, x) = Dv tk S (v + 1) k := by
        unfold pcT
        rw [htk k hkl, Dv_e tk S (by omega) k, h5, ← chN_s (hc k hkl)]
        show (if chN st a (k + 1) ≠ -1 ∧ En tk S (v + 1) k + tk k < lf (chN st a (k + 1)) then lf (chN st a (k + 1)) else En tk S (v + 1) k + tk k) = _
        by_cases hk2 : k + 1 < S
        · have e := h4 (k + 1) (by omega) hk2
          rw [if_pos hk2, e]
          have hne := hc (k + 1) hk2
          show _ = max _ (Dv tk S v (k + 1))
          by_cases hl : En tk S (v + 1) k + tk k < Dv tk S v (k + 1)
          · rw [if_pos ⟨hne, hl⟩]; omega
          · rw [if_neg (fun z => hl z.2)]; omega
        · have hkS : k + 1 = S := by omega
          rw [if_neg hk2, if_neg (fun z => z.1 (by rw [hkS]; exact hS))]
      rw [ht, ← chN_s (hc k hkl)]
      refine pc_D hc hS hd htk f (k + 1) _ _ (by omega) (by omega) (fun j hj => ?_) (fun j hj1 hj2 => ?_) rfl
      · by_cases hjk : j = k
        · subst hjk; exact updI_s _ _ _
        · rw [updI_n (fun e => hjk (hd j k (by omega) hkl e))]
          exact h3 j (by omega)
      · rw [updI_n (fun e => by have := hd j k hj2 hkl e; omega)]
        exact h4 j (by omega) hj2
theorem pv_D {st : St} {a : Int} {S : Nat} {tk : Nat → Int} (hS1 : 1 ≤ S) (hS6 : S ≤ 6) (hc : ∀ k, k < S → 0 ≤ chN st a k ∧ chN st a k < 6) (hS : chN st a S = -1) (hd : ∀ j k, j < S → k < S → chN st a j = chN st a k → j = k) (htk : ∀ k, k < S → cyL st (chN st a k) = tk k) : ∀ v, (∀ j, j < S → (pvF st a v).1 (chN st a j) = Dv tk S v j) ∧ (1 ≤ v → (pvF st a v).2 = Dv tk S v (S - 1))
  | 0 => ⟨fun j hj => by
      have h := hc j hj
      show lfA st 6 (chN st a j) = 0
      unfold lfA
      rw [if_pos (by omega)], fun h => absurd h (by decide)⟩
  | v + 1 => by
    obtain ⟨ih, -⟩ := pv_D hS1 hS6 hc hS hd htk v
    have h := pc_D (v := v) (fun k hk => by have := hc k hk; omega) hS hd htk 6 0 (pvF st a v).1 ((pvF st a v).1 a) (Nat.zero_le _) (by omega) (fun j hj => absurd hj (Nat.not_lt_zero j)) (fun j _ hj => ih j hj) (ih 0 (by omega))
    rw [pvF_s]
    refine ⟨h.1, fun _ => ?_⟩
    rw [show Dv tk S (v + 1) (S - 1) = En tk S (v + 1) S from by
      obtain ⟨s1, rfl⟩ : ∃ s1, S = s1 + 1 := ⟨S - 1, by omega⟩
      rfl]
    exact h.2
