/-! ===== cycle by cycle: vectors that have left each stage, K 0 how many entered, K (l + 1) how many left stage l ===== -/
/-- stage l at cycle c, its vectors not gone before c + b (b 1: behind the moves of cycle c; 0: ahead of them) -/
def stA (tk : Nat → Int) (S : Nat) (b c : Int) (K : Nat → Nat) (lf : Int → Int) (l : Nat) : Prop :=
  (K (l + 1) ≤ K l ∧ K l ≤ K (l + 1) + 1) ∧ Dv tk S (K (l + 1)) l ≤ c ∧ (K l = K (l + 1) + 1 → c + b ≤ Dv tk S (K l) l ∧ lf (l : Int) = max 0 (En tk S (K l) l + tk l - c)) ∧ (K l = K (l + 1) → lf (l : Int) = -1)
def updK (K : Nat → Nat) (j v : Nat) : Nat → Nat := fun i => if i = j then v else K i
theorem updK_s (K : Nat → Nat) (j v : Nat) : updK K j v j = v := by unfold updK; rw [if_pos rfl]
theorem updK_n {K : Nat → Nat} {j v i : Nat} (h : i ≠ j) : updK K j v i = K i := by unfold updK; rw [if_neg h]
/-- a stage reads its own place alone -/
theorem stA_e {tk : Nat → Int} {S : Nat} {b c : Int} {K K' : Nat → Nat} {lf lf' : Int → Int} {l : Nat} (h : stA tk S b c K lf l) (h1 : K' l = K l) (h2 : K' (l + 1) = K (l + 1)) (h3 : lf' (l : Int) = lf (l : Int)) : stA tk S b c K' lf' l := by
  unfold stA
  rw [h1, h2, h3]
  exact h
/-- the moves of cycle c, from stage j down -/
theorem sim_mv {tk : Nat → Int} {tI : Int → Int} {S : Nat} (ht : ∀ l, 0 < tk l) (hI : ∀ l : Nat, l < S → tI (l : Int) = tk l) {c : Int} {K0 : Nat → Nat} : ∀ (j : Nat) (K : Nat → Nat) (lf : Int → Int) (x : Int), j ≤ S → (∀ l, l < j → stA tk S 0 c K lf l) → (∀ l, j ≤ l → l < S → stA tk S 1 c K lf l) → (∀ l, l ≤ j → K l = K0 l) → (∀ l, l < S → K (l + 1) = K0 (l + 1) ∨ (K (l + 1) = K0 (l + 1) + 1 ∧ Dv tk S (K (l + 1)) l = c)) → x = (K S : Int) - (K0 S : Int) →
    ∃ K' : Nat → Nat, (∀ l, l < S → stA tk S 1 c K' (mvF tI (S : Int) j (lf, x)).1 l) ∧ K' 0 = K0 0 ∧ (∀ l, l < S → K' (l + 1) = K0 (l + 1) ∨ (K' (l + 1) = K0 (l + 1) + 1 ∧ Dv tk S (K' (l + 1)) l = c)) ∧ (mvF tI (S : Int) j (lf, x)).2 = (K' S : Int) - (K0 S : Int)
  | 0, K, lf, x, h1, h2, h3, h4, h5, h6 => ⟨K, fun l hl => h3 l (Nat.zero_le l) hl, h4 0 (Nat.le_refl 0), h5, h6⟩
  | i + 1, K, lf, x, h1, h2, h3, h4, h5, h6 => by
    have hB := h2 i (Nat.lt_succ_self i)
    obtain ⟨⟨ba1, ba2⟩, bb, bc, bd⟩ := id hB
    have hK1 := h4 (i + 1) (Nat.le_refl _)
    have e0 := Dv_e tk S (v := K i)
    by_cases hz : lf (i : Int) = 0
    · have hocc : K i = K (i + 1) + 1 := by
        rcases Nat.lt_or_ge (K (i + 1)) (K i) with q | q
        · omega
        · have := bd (by omega); omega
      obtain ⟨bc1, bc2⟩ := bc hocc
      have hge : En tk S (K i) i + tk i ≤ c := by omega
      have hD := e0 (by omega) i
      by_cases hlast : i + 1 = S
      · rw [if_neg (by omega)] at hD
        have hDc : Dv tk S (K i) i = c := by omega
        rw [mvF_o (i := (i : Int)) (y := x + 1) rfl hz (by omega) rfl]
        refine sim_mv ht hI i (updK K (i + 1) (K i)) (updI lf (i : Int) (-1)) (x + 1) (by omega) (fun l hl => ?_) (fun l hl1 hl2 => ?_) (fun l hl => ?_) (fun l hl => ?_) ?_
        · exact stA_e (h2 l (by omega)) (updK_n (by omega)) (updK_n (by omega)) (updI_n (by omega))
        · obtain rfl : l = i := by omega
          refine ⟨?_, ?_, fun q => ?_, fun _ => updI_s _ _ _⟩
          · rw [updK_s, updK_n (by omega)]; omega
          · rw [updK_s]; omega
          · rw [updK_s, updK_n (by omega)] at q; omega
        · rw [updK_n (by omega)]; exact h4 l (by omega)
        · by_cases hli : l = i
          · subst hli
            rw [updK_s]
            exact Or.inr ⟨by omega, hDc⟩
          · rw [updK_n (by omega)]; exact h5 l hl
        · rw [← hlast, updK_s]
          rw [← hlast] at h6
          omega
      · have hiS : i + 1 < S := by omega
        rw [if_pos hiS] at hD
        obtain ⟨⟨na1, na2⟩, nb, nc, nd⟩ := h3 (i + 1) (Nat.le_refl _) hiS
        by_cases hf : lf ((i : Int) + 1) = -1
        · have hf' : lf ((i + 1 : Nat) : Int) = -1 := by rw [← hf]; congr 1
          have hem : K (i + 1) = K (i + 1 + 1) := by
            rcases Nat.lt_or_ge (K (i + 1 + 1)) (K (i + 1)) with q | q
            · have := (nc (by omega)).2; omega
            · omega
          have hp : K i - 1 = K (i + 1 + 1) := by omega
          rw [hp] at hD
          have hDc : Dv tk S (K i) i = c := by omega
          rw [mvF_m (i := (i : Int)) (j := ((i + 1 : Nat) : Int)) (v := tk (i + 1)) rfl (by omega) hz (by omega) hf' (hI (i + 1) hiS).symm]
          refine sim_mv ht hI i (updK K (i + 1) (K i)) (updI (updI lf (i : Int) (-1)) ((i + 1 : Nat) : Int) (tk (i + 1))) x (by omega) (fun l hl => ?_) (fun l hl1 hl2 => ?_) (fun l hl => ?_) (fun l hl => ?_) ?_
          · exact stA_e (h2 l (by omega)) (updK_n (by omega)) (updK_n (by omega)) (by rw [updI_n (by omega), updI_n (by omega)])
          · by_cases hli : l = i
            · subst hli
              refine ⟨?_, ?_, fun q => ?_, fun _ => by rw [updI_n (by omega)]; exact updI_s _ _ _⟩
              · rw [updK_s, updK_n (by omega)]; omega
              · rw [updK_s]; omega
              · rw [updK_s, updK_n (by omega)] at q; omega
            · by_cases hli2 : l = i + 1
              · subst hli2
                have hE : En tk S (K i) (i + 1) = c := hDc
                have hD2 := Dv_e tk S (v := K i) (by omega) (i + 1)
                have h9 := ht (i + 1)
                refine ⟨?_, ?_, fun q => ?_, fun q => ?_⟩
                · rw [updK_s, updK_n (by omega)]; omega
                · rw [updK_n (by omega)]; exact nb
                · rw [updK_s, updI_s, hE]
                  refine ⟨?_, by omega⟩
                  rw [hD2, hE]
                  split <;> omega
                · rw [updK_s, updK_n (by omega)] at q; omega
              · exact stA_e (h3 l (by omega) hl2) (updK_n (by omega)) (updK_n (by omega)) (by rw [updI_n (by omega), updI_n (by omega)])
          · rw [updK_n (by omega)]; exact h4 l (by omega)
          · by_cases hli : l = i
            · subst hli
              rw [updK_s]
              exact Or.inr ⟨by omega, hDc⟩
            · rw [updK_n (by omega)]; exact h5 l hl
          · rw [updK_n (by omega)]; exact h6
        · have hoc2 : K (i + 1) = K (i + 1 + 1) + 1 := by
            rcases Nat.lt_or_ge (K (i + 1 + 1)) (K (i + 1)) with q | q
            · omega
            · exact absurd (by rw [← nd (by omega)]; congr 1) hf
          have hn := (nc hoc2).1
          rw [mvF_n (i := (i : Int)) (j := (i : Int) + 1) rfl rfl (Or.inr ⟨by omega, hf⟩)]
          refine sim_mv ht hI i K lf x (by omega) (fun l hl => h2 l (by omega)) (fun l hl1 hl2 => ?_) (fun l hl => h4 l (by omega)) h5 h6
          by_cases hli : l = i
          · subst hli
            refine ⟨⟨ba1, ba2⟩, bb, fun q => ⟨?_, bc2⟩, bd⟩
            rw [show K l - 1 = K (l + 1) by omega] at hD
            omega
          · exact h3 l (by omega) hl2
    · rw [mvF_n (i := (i : Int)) (j := (i : Int) + 1) rfl rfl (Or.inl hz)]
      refine sim_mv ht hI i K lf x (by omega) (fun l hl => h2 l (by omega)) (fun l hl1 hl2 => ?_) (fun l hl => h4 l (by omega)) h5 h6
      by_cases hli : l = i
      · subst hli
        refine ⟨⟨ba1, ba2⟩, bb, fun q => ⟨?_, (bc q).2⟩, bd⟩
        have h7 := (bc q).2
        have hD := e0 (by omega) l
        rw [hD]
        split <;> omega
      · exact h3 l (by omega) hl2
/-- who is still inside leaves the last stage later -/
theorem sim_late {tk : Nat → Int} {S : Nat} (ht : ∀ l, 0 < tk l) (hS : 1 ≤ S) {c : Int} {K : Nat → Nat} {lf : Int → Int} {w : Nat} (h : ∀ l, l < S → stA tk S 1 c K lf l) (he : K 0 = K 1 + 1 ∨ K 0 = w) (hw : K S < w) : c + 1 ≤ Dv tk S w (S - 1) := by
  have hmono : ∀ k, k ≤ S → K S ≤ K (S - k) := by
    intro k
    induction k with
    | zero => intro _; exact Nat.le_refl _
    | succ k ih =>
      intro hk
      have a := ih (by omega)
      have b := (h (S - (k + 1)) (by omega)).1.1
      rw [show S - (k + 1) + 1 = S - k by omega] at b
      omega
  have h0 : K S + 1 ≤ K 0 := by
    have a1 := hmono (S - 1) (by omega)
    rw [show S - (S - 1) = 1 by omega] at a1
    omega
  have hex : ∀ k, k ≤ S → (∃ l, l < S ∧ K l = K S + 1 ∧ K (l + 1) = K S) ∨ K S + 1 ≤ K k := by
    intro k
    induction k with
    | zero => intro _; exact Or.inr h0
    | succ k ih =>
      intro hk
      rcases ih (by omega) with q | q
      · exact Or.inl q
      · by_cases hq : K S + 1 ≤ K (k + 1)
        · exact Or.inr hq
        · have a := (h k (by omega)).1
          have b := hmono (S - (k + 1)) (by omega)
          rw [show S - (S - (k + 1)) = k + 1 by omega] at b
          exact Or.inl ⟨k, by omega, by omega, by omega⟩
  rcases hex S (Nat.le_refl S) with ⟨l, hl, e1, e2⟩ | q
  · have a := ((h l hl).2.2.1 (by omega)).1
    rw [e1] at a
    have b := Dv_ll (tk := tk) S ht (v := K S + 1) (by omega) l (S - 1 - l)
    rw [show l + (S - 1 - l) = S - 1 by omega] at b
    have d := Dv_m (tk := tk) S ht (v := K S + 1) (w - (K S + 1)) (S - 1)
    rw [show K S + 1 + (w - (K S + 1)) = w by omega] at d
    omega
  · omega
theorem sim_D {tk : Nat → Int} {tI : Int → Int} {S : Nat} (ht : ∀ l, 0 < tk l) (hS : 1 ≤ S) (hI : ∀ l : Nat, l < S → tI (l : Int) = tk l) {w : Nat} : ∀ (f : Nat) (K : Nat → Nat) (lf : Int → Int) (c : Int), (∀ l, l < S → stA tk S 0 c K lf l) → (K 0 = K 1 + 1 ∨ K 0 = w ∨ (c = 0 ∧ K 1 = 0 ∧ K 0 = 0)) → K 0 ≤ w → K S < w → c ≤ Dv tk S w (S - 1) → Dv tk S w (S - 1) < c + (f : Int) → cyC tI (S : Int) (w : Int) f lf (K 0 : Int) (K S : Int) c = Dv tk S w (S - 1)
  | 0, K, lf, c, h1, h2, h3, h4, h5, h6 => by omega
  | f + 1, K, lf, c, h1, h2, h3, h4, h5, h6 => by
    have hmv := sim_mv ht hI (c := c) (K0 := K) S K lf 0 (Nat.le_refl S) h1 (fun l hl1 hl2 => absurd hl2 (by omega)) (fun _ _ => rfl) (fun _ _ => Or.inl rfl) (by omega)
    obtain ⟨K', a, a0, ad, ax⟩ := hmv
    have hSn : ((S : Nat) : Int).toNat = S := Int.toNat_natCast S
    have hlastc := ad (S - 1) (by omega)
    rw [show S - 1 + 1 = S by omega] at hlastc
    by_cases hd : (w : Int) ≤ (K S : Int) + (mvF tI (S : Int) ((S : Nat) : Int).toNat (lf, 0)).2
    · rw [cyC_y hd]
      rw [hSn, ax] at hd
      rcases hlastc with q | ⟨q, q2⟩
      · omega
      · rw [show K' S = w by omega] at q2
        exact q2.symm
    · have hd2 := hd
      rw [hSn, ax] at hd2
      have hKS : K' S < w := by omega
      obtain ⟨s1, hs1⟩ : ∃ s1, S = s1 + 1 := ⟨S - 1, by omega⟩
      obtain ⟨⟨fa1, fa2⟩, fb, fc, fd⟩ := a 0 (by omega)
      simp only [Nat.zero_add] at fa1 fa2 fb fc fd
      have had0 := ad 0 (by omega)
      simp only [Nat.zero_add] at had0
      -- the state behind the entering
      have hent : ∃ (K2 : Nat → Nat) (g : Int → Int), (∀ l, l < S → stA tk S 1 c K2 g l) ∧ (K2 0 = K2 1 + 1 ∨ K2 0 = w) ∧ K2 0 ≤ w ∧ K2 S = K' S ∧ (((K 0 : Int) < (w : Int) ∧ (mvF tI (S : Int) ((S : Nat) : Int).toNat (lf, 0)).1 0 = -1 ∧ (K2 0 : Int) = (K 0 : Int) + 1 ∧ g = updI (mvF tI (S : Int) ((S : Nat) : Int).toNat (lf, 0)).1 0 (tI 0)) ∨ (¬ ((K 0 : Int) < (w : Int) ∧ (mvF tI (S : Int) ((S : Nat) : Int).toNat (lf, 0)).1 0 = -1) ∧ (K2 0 : Int) = (K 0 : Int) ∧ g = (mvF tI (S : Int) ((S : Nat) : Int).toNat (lf, 0)).1)) := by
        rw [hSn]
        by_cases hq : (K 0 : Int) < (w : Int) ∧ (mvF tI (S : Int) S (lf, 0)).1 0 = -1
        · have hem : K' 0 = K' 1 := by
            rcases Nat.lt_or_ge (K' 1) (K' 0) with z | z
            · have := (fc (by omega)).2
              have h9 := hq.2
              rw [show ((0 : Nat) : Int) = 0 from rfl] at this
              omega
            · omega
          have hDc : Dv tk S (K' 1) 0 = c := by
            rcases had0 with z | ⟨z, z2⟩
            · rcases h2 with y | y | ⟨y1, y2, y3⟩
              · omega
              · omega
              · rw [show K' 1 = 0 by omega, y1]
                rfl
            · exact z2
          refine ⟨updK K' 0 (K' 0 + 1), updI (mvF tI (S : Int) S (lf, 0)).1 0 (tI 0), fun l hl => ?_, ?_, ?_, ?_, Or.inl ⟨hq.1, hq.2, ?_, rfl⟩⟩
          · by_cases hl0 : l = 0
            · subst hl0
              have h9 := ht 0
              have hE : En tk S (K' 0 + 1) 0 = c := by
                show Dv tk S (K' 0 + 1 - 1) 0 = c
                rw [show K' 0 + 1 - 1 = K' 1 by omega]
                exact hDc
              unfold stA
              simp only [Nat.zero_add]
              refine ⟨?_, ?_, fun _ => ?_, fun z => ?_⟩
              · rw [updK_s, updK_n (by omega)]; omega
              · rw [updK_n (by omega)]; exact fb
              · rw [updK_s, Dv_e tk S (by omega) 0, hE]
                refine ⟨by split <;> omega, ?_⟩
                rw [show ((0 : Nat) : Int) = 0 from rfl, updI_s, ← hI 0 (by omega)]
                rw [← hI 0 (by omega)] at h9
                rw [show ((0 : Nat) : Int) = 0 from rfl] at h9 ⊢
                omega
              · rw [updK_s, updK_n (by omega)] at z; omega
            · exact stA_e (a l hl) (updK_n (by omega)) (updK_n (by omega)) (updI_n (by omega))
          · rw [updK_s, updK_n (by omega)]; omega
          · rw [updK_s]; omega
          · rw [updK_n (by omega)]
          · rw [updK_s]; omega
        · refine ⟨K', (mvF tI (S : Int) S (lf, 0)).1, a, ?_, by omega, rfl, Or.inr ⟨hq, by omega, rfl⟩⟩
          by_cases hw : K 0 < w
          · have hne : ¬ (mvF tI (S : Int) S (lf, 0)).1 0 = -1 := fun z => hq ⟨by omega, z⟩
            left
            rcases Nat.lt_or_ge (K' 1) (K' 0) with z | z
            · omega
            · exact absurd (fd (by omega)) hne
          · right; omega
      obtain ⟨K2, g, b, b0, bw, bS, bc⟩ := hent
      have hlate := sim_late ht hS b b0 (by omega)
      rw [← cyC_n (tk := tI) (S := (S : Int)) (w := (w : Int)) (f := f) (lf := lf) (g := g) (en := (K 0 : Int)) (dn := (K S : Int)) (cyc := c) (en1 := (K2 0 : Int)) (dn1 := (K2 S : Int)) (cyc1 := c + 1) (by omega) (by rw [hSn, ax]; omega) rfl bc]
      refine sim_D ht hS hI f K2 (wkF ((S : Nat) : Int).toNat g) (c + 1) (fun l hl => ?_) (by omega) bw (by omega) hlate (by omega)
      obtain ⟨p1, p2, p3, p4⟩ := b l hl
      rw [hSn]
      refine ⟨p1, by omega, fun z => ?_, fun z => ?_⟩
      · obtain ⟨q1, q2⟩ := p3 z
        refine ⟨by omega, ?_⟩
        unfold wkF
        by_cases hz : 0 < g (l : Int)
        · rw [if_pos ⟨⟨by omega, by omega⟩, hz⟩]; omega
        · rw [if_neg (fun y => hz y.2)]; omega
      · have q2 := p4 z
        unfold wkF
        rw [if_neg (fun y => by omega), q2]
/-- counted cycle by cycle, the same -/
theorem cyV_D {st : St} {tk : Nat → Int} {S w : Nat} (ht : ∀ l, 0 < tk l) (hI : ∀ l : Nat, l < S → st 37 0 (l : Int) = tk l) (hS : 1 ≤ S) (h36 : st 36 0 0 = (S : Int)) (hw : 1 ≤ w) (hlt : Dv tk S w (S - 1) < 1000000) : cyV st (w : Int) = Dv tk S w (S - 1) := by
  have h := sim_D (tk := tk) (tI := st 37 0) (S := S) (w := w) ht hS hI cyMx (fun _ => 0) (lfN st S) 0 (fun l hl => ⟨⟨Nat.le_refl _, Nat.zero_le _⟩, Int.le_refl 0, fun z => absurd (show (0 : Nat) = 0 + 1 from z) (by decide), fun _ => by
    unfold lfN
    rw [if_pos (by omega)]⟩) (Or.inr (Or.inr ⟨rfl, rfl, rfl⟩)) (Nat.zero_le _) (by omega) (Dv_0 S ht _ _) (by rw [cyMx_v]; omega)
  unfold cyV
  rw [h36, Int.toNat_natCast]
  exact h
