/-! ===== rows chosen: apart, and with the fewest misfits ===== -/
theorem bit_or1 : ∀ S, S < 256 → ∀ a, a < 8 → ∀ q, q < 8 → (S / 2 ^ a % 2 = 1 ∨ a = q) → (S ||| 2 ^ q) / 2 ^ a % 2 = 1 := by decide +kernel
theorem bit_or0 : ∀ S, S < 256 → ∀ a, a < 8 → ∀ q, q < 8 → S / 2 ^ a % 2 = 0 → (a = q ∨ (S ||| 2 ^ q) / 2 ^ a % 2 = 0) := by decide +kernel
theorem sumN_f (f : Nat → Int) : ∀ n, sumN f (n + 1) = f 0 + sumN (fun j => f (j + 1)) n
  | 0 => by show 0 + f 0 = f 0 + 0; omega
  | n + 1 => by
    rw [sumN_s, sumN_f f n, sumN_s]
    omega
theorem dp_low {cs : Nat → Nat → Int} {ro : Nat → Nat} : ∀ (k i S : Nat), S < 256 → onesU S 8 = i → (∀ j, i ≤ j → j < i + k → ro j < 8 ∧ S / 2 ^ (ro j) % 2 = 0) → (∀ a b, i ≤ a → a < b → b < i + k → ro a ≠ ro b) → dpK cs k S ≤ sumN (fun j => cs (i + j) (ro (i + j))) k
  | 0, _, _, _, _, _, _ => Int.le_refl 0
  | k + 1, i, S, hS, ho, h8, hd => by
    have h0 := h8 i (Nat.le_refl i) (by omega)
    have hor := ones_or S hS (ro i) h0.1 h0.2
    have hl := rowM_le (cs := cs) (g := dpK cs k) S (ro i) h0.2 8 h0.1
    have ih := dp_low (cs := cs) (ro := ro) k (i + 1) (S ||| 2 ^ (ro i)) hor.2.2 (by omega) (fun j h1 h2 => ⟨(h8 j (by omega) (by omega)).1, (bit_or0 S hS (ro j) (h8 j (by omega) (by omega)).1 (ro i) h0.1 (h8 j (by omega) (by omega)).2).resolve_left (fun e => hd i j (Nat.le_refl i) (by omega) (by omega) e.symm)⟩) (fun a b h1 h2 h3 => hd a b (by omega) h2 (by omega))
    have hk : dpK cs (k + 1) S = rowM cs (dpK cs k) S 8 := rfl
    rw [sumN_f]
    have e : sumN (fun j => cs (i + (j + 1)) (ro (i + (j + 1)))) k = sumN (fun j => cs (i + 1 + j) (ro (i + 1 + j))) k := sumN_e k (fun j _ => by rw [show i + (j + 1) = i + 1 + j by omega])
    rw [e, hk]
    rw [ho] at hl
    show rowM cs (dpK cs k) S 8 ≤ cs (i + 0) (ro (i + 0)) + _
    rw [Nat.add_zero]
    omega
theorem gr_row {cs : Nat → Nat → Int} (h1 : ∀ i r, 0 ≤ cs i r ∧ cs i r ≤ 16) {ni : Nat} (hn : ni ≤ 8) {i : Nat} (hi : i < ni) : ∃ q : Nat, pkN cs ni i (grS cs ni i) 0 = (q : Int) ∧ q < 8 ∧ grS cs ni i / 2 ^ q % 2 = 0 ∧ grS cs ni i < 256 ∧ grS cs ni (i + 1) = grS cs ni i ||| 2 ^ q := by
  obtain ⟨-, b, c⟩ := grS_e h1 hn (cs' := cs) (fun _ _ _ _ => rfl) i (by omega)
  obtain ⟨q, hq, hq8, hqf⟩ := pk_found h1 hn hi b c
  exact ⟨q, hq, hq8, hqf, b, by rw [grS_s, hq, Int.toNat_natCast]⟩
theorem gr_bit {cs : Nat → Nat → Int} (h1 : ∀ i r, 0 ≤ cs i r ∧ cs i r ≤ 16) {ni : Nat} (hn : ni ≤ 8) {i : Nat} : ∀ j, i < j → j ≤ ni → ∀ q : Nat, pkN cs ni i (grS cs ni i) 0 = (q : Int) → grS cs ni j / 2 ^ q % 2 = 1
  | 0, h, _, _, _ => absurd h (Nat.not_lt_zero i)
  | j + 1, h, hj, q, hq => by
    obtain ⟨q2, e2, h8, hf, hS, hs⟩ := gr_row h1 hn (show j < ni by omega)
    rw [hs]
    by_cases he : i = j
    · subst he
      have : q2 = q := by omega
      subst this
      exact bit_or1 _ hS q2 h8 q2 h8 (Or.inr rfl)
    · obtain ⟨q3, e3, g8, -⟩ := gr_row h1 hn (show i < ni by omega)
      have : q3 = q := by omega
      subst this
      exact bit_or1 _ hS q3 g8 q2 h8 (Or.inl (gr_bit h1 hn j (by omega) (by omega) q3 e3))
theorem gr_ne {cs : Nat → Nat → Int} (h1 : ∀ i r, 0 ≤ cs i r ∧ cs i r ≤ 16) {ni : Nat} (hn : ni ≤ 8) {i j : Nat} (hij : i < j) (hj : j < ni) : pkN cs ni i (grS cs ni i) 0 ≠ pkN cs ni j (grS cs ni j) 0 := by
  obtain ⟨q, e1, -⟩ := gr_row h1 hn (show i < ni by omega)
  obtain ⟨q2, e2, -, hf, -⟩ := gr_row h1 hn hj
  have hb := gr_bit h1 hn j hij (by omega) q e1
  intro he
  have : q2 = q := by omega
  subst this
  omega
/-! ===== the rows of a layer just seated ===== -/
def pcs (st : St) (q t : Nat) : Nat → Nat → Int := csT (setW st (cwX st q t (8 * (st 60 q 0).toNat)) (st 35 0))
theorem pcs_r {wb : Int} {st : St} (hI : GI wb st) (q t i r : Nat) : 0 ≤ pcs st q t i r ∧ pcs st q t i r ≤ 16 := by
  unfold pcs csT
  rw [setW_34]
  unfold cwX
  split
  · exact mfC_r hI q t _ _
  · exact gI_34 hI 0 _
theorem pcs_v {st : St} {q t i r : Nat} (hi : i < (st 60 q 0).toNat) (hr : r < 8) : pcs st q t i r = cstC st q t i r := by
  unfold pcs csT
  rw [setW_34]
  unfold cwX
  rw [if_pos (by omega), Int.toNat_natCast, show (8 * i + r) / 8 = i by omega, show (8 * i + r) % 8 = r by omega]
theorem plC_row {st : St} (q t : Nat) {i : Nat} (hi : i < (st 60 q 0).toNat) : plC st q t 63 q (i : Int) = pkN (pcs st q t) (st 60 q 0).toNat i (grS (pcs st q t) (st 60 q 0).toNat i) 0 := by
  have e60 : setW st (cwX st q t (8 * (st 60 q 0).toNat)) (st 35 0) 60 q 0 = st 60 q 0 := setW_c _ _ _ (by decide)
  unfold plC
  rw [ust_c (by decide), ust_c (by decide)]
  unfold stC setQ
  rw [if_pos ⟨rfl, rfl⟩, e60]
  unfold rqX
  rw [if_pos (by omega), Int.toNat_natCast]
  rfl
theorem plC_rowo {st : St} (q t : Nat) {o : Nat} (i : Int) (h : o ≠ q) : plC st q t 63 o i = st 63 o i := by
  unfold plC
  rw [ust_c (by decide), ust_c (by decide)]
  unfold stC setQ
  rw [if_neg (fun z => h z.2), fsC_c _ _ (by decide), setW_c _ _ _ (by decide)]
theorem plC_66 (st : St) (q t o : Nat) : plC st q t 66 o 0 = if o = q then (t : Int) else st 66 o 0 := by
  unfold plC
  rw [ust_c (by decide)]
  by_cases h : o = q
  · subst h
    rw [ust_s, if_pos rfl]
  · rw [ust_o h, if_neg h]
    unfold stC setQ
    rw [if_neg (fun z => h z.2), fsC_c _ _ (by decide), setW_c _ _ _ (by decide)]
theorem plC_50 (st : St) (q t o : Nat) : plC st q t 50 o 0 = if o = t then 1 else st 50 o 0 := by
  unfold plC
  by_cases h : o = t
  · subst h
    rw [ust_s, if_pos rfl]
  · rw [ust_o h, if_neg h, ust_c (by decide)]
    unfold stC setQ
    rw [if_neg (fun z => absurd z.1 (by decide)), fsC_c _ _ (by decide), setW_c _ _ _ (by decide)]
theorem plC_d {wb : Int} {st : St} (hI : GI wb st) (q t : Nat) : rowsD (plC st q t) q := by
  intro i j hij hj
  have e60 : plC st q t 60 q 0 = st 60 q 0 := plC_c st q t q 0 (by decide)
  have h60 := gI_60 hI q 0
  rw [e60] at hj
  rw [plC_row q t (show i < (st 60 q 0).toNat by omega), plC_row q t (show j < (st 60 q 0).toNat by omega)]
  exact gr_ne (pcs_r hI q t) (by omega) hij (by omega)
theorem ite_01 (p : Prop) [Decidable p] : (0 : Int) ≤ if p then 1 else 0 := by
  split <;> decide
/-- the misfits of a layer on tile t in its rows, as the law counts them -/
def lmF (st : St) (q t : Nat) : Int := sumN (fun i => sumN (mfC st q t (i : Int) (st 63 q (i : Int))) (4 * st 61 q 0).toNat) (st 60 q 0).toNat
theorem fd_cst {wb : Int} {st : St} (hR : RY st) (hI : GI wb st) {q t : Nat} (hq : (q : Int) < st 14 0 0) (ht : t < 6) : fdV st (q : Int) (t : Int) = dpV (cstC st q t) (st 60 q 0).toNat 0 := by
  unfold fdV
  have h60 := gI_60 hI q 0
  rw [← (hR.2.1 q hq).1]
  exact (dpV_e (fun i r hi hr => RY_cost hR hq ht (by omega) hr (gI_61 hI q 0)) (by decide)).symm
theorem cstC_e {x y : St} {q t : Nat} (h : ∀ (c o : Nat) (i : Int), c = 40 ∨ c = 44 ∨ c = 61 ∨ c = 62 → x c o i = y c o i) (i r : Nat) : cstC x q t i r = cstC y q t i r := by
  unfold cstC
  rw [h 61 q 0 (by decide)]
  refine sumN_e _ (fun k _ => ?_)
  unfold mfC msC needC
  rw [h 44 _ _ (by decide), h 40 _ _ (by decide), h 62 _ _ (by decide)]
theorem place_fit {wb : Int} {st : St} (hI : GI wb st) (hC : PC st) {q t : Nat} (hI2 : GI (wb + 2048) (ldCS (plC st q t) q t)) : dpV (cstC st q t) (st 60 q 0).toNat 0 ≤ lmF (ldCS (plC st q t) q t) q t := by
  have h60 := gI_60 hI q 0
  have h61 := gI_61 hI q 0
  have p60 : plC st q t 60 q 0 = st 60 q 0 := plC_c st q t q 0 (by decide)
  have p61 : plC st q t 61 q 0 = st 61 q 0 := plC_c st q t q 0 (by decide)
  have z60 : ldCS (plC st q t) q t 60 q 0 = st 60 q 0 := (ld_c _ q t 0 (by decide)).trans p60
  have z61 : ldCS (plC st q t) q t 61 q 0 = st 61 q 0 := (ld_c _ q t 0 (by decide)).trans p61
  have z63 : ∀ i : Int, ldCS (plC st q t) q t 63 q i = plC st q t 63 q i := fun i => ld_c _ q t i (by decide)
  have hd := plC_d hI q t
  obtain ⟨ni, hni⟩ : ∃ ni, ni = (st 60 q 0).toNat := ⟨_, rfl⟩
  have hrow : ∀ i, i < ni → ∃ r : Nat, plC st q t 63 q (i : Int) = (r : Int) ∧ r < 8 := fun i hi => by
    obtain ⟨r, e1, h8, -⟩ := gr_row (pcs_r hI q t) (show (st 60 q 0).toNat ≤ 8 by omega) (show i < (st 60 q 0).toNat by omega)
    exact ⟨r, (plC_row q t (by omega)).trans e1, h8⟩
  obtain ⟨ro, hro⟩ : ∃ ro : Nat → Nat, ro = fun i : Nat => (plC st q t 63 q (i : Int)).toNat := ⟨_, rfl⟩
  have hr8 : ∀ i, i < ni → plC st q t 63 q (i : Int) = (ro i : Int) ∧ ro i < 8 := fun i hi => by
    obtain ⟨r, e1, h8⟩ := hrow i hi
    rw [hro]
    show _ = (((plC st q t 63 q (i : Int)).toNat : Nat) : Int) ∧ (plC st q t 63 q (i : Int)).toNat < 8
    rw [e1, Int.toNat_natCast]
    exact ⟨rfl, h8⟩
  have h1 := dp_low (cs := cstC st q t) (ro := ro) ni 0 0 (by decide) (by decide) (fun j _ hj => ⟨(hr8 j (by omega)).2, by rw [Nat.zero_div]⟩) (fun a b _ hab hb => by
    have := hd a b hab (by rw [p60]; omega)
    rw [(hr8 a (by omega)).1, (hr8 b (by omega)).1] at this
    omega)
  have h2 : dpV (cstC st q t) (st 60 q 0).toNat 0 = dpK (cstC st q t) ni 0 := by
    unfold dpV
    rw [show onesU 0 8 = 0 by decide, hni]
    rfl
  rw [h2]
  refine Int.le_trans h1 ?_
  unfold lmF
  rw [z60, z61, ← hni]
  refine sumN_le ni (fun i hi => ?_)
  rw [Nat.zero_add, z63, (hr8 i hi).1]
  unfold cstC
  refine sumN_le _ (fun k hk => ?_)
  have hr := (hr8 i hi).1
  obtain ⟨-, h40, h44⟩ := ld_con hd (by rw [p61]; exact h61) hI2 (i := i) (c := k) (by rw [p60]; omega) (by rw [p61]; exact hk)
  rw [hr] at h40 h44
  unfold mfC msC
  rw [ld_need, h40, h44]
  have e44 : plC st q t 44 t (16 * (ro i : Int) + (k : Int)) = st 44 t (16 * (ro i : Int) + (k : Int)) := plC_c st q t t _ (by decide)
  have e43 : plC st q t 43 t (16 * (ro i : Int) + (k : Int)) = st 43 t (16 * (ro i : Int) + (k : Int)) := plC_c st q t t _ (by decide)
  have e40 : plC st q t 40 t (16 * (ro i : Int) + (k : Int)) = st 40 t (16 * (ro i : Int) + (k : Int)) := plC_c st q t t _ (by decide)
  have en : needC (plC st q t) q (i : Int) (k : Int) = needC st q (i : Int) (k : Int) := by
    unfold needC
    rw [plC_c st q t q _ (by decide)]
  rw [en, e44]
  by_cases hm : st 44 t (16 * (ro i : Int) + (k : Int)) = 1 ∧ st 40 t (16 * (ro i : Int) + (k : Int)) ≠ needC st q (i : Int) (k : Int)
  · have a := hC.1 t (16 * (ro i : Int) + (k : Int))
    have b := gI_43 hI t (16 * (ro i : Int) + (k : Int))
    have hk1 : plC st q t 43 t (16 * (ro i : Int) + (k : Int)) = 1 := by rw [e43]; omega
    rw [if_pos hm, (wS_k _ hk1).1, e40, if_pos ⟨if_pos (Or.inl hm.1), hm.2⟩]
    exact Int.le_refl _
  · rw [if_neg hm]
    exact ite_01 _
/-! ===== a layer lifted, and placed again ===== -/
theorem CI_lift {wb : Int} {x : St} {a a' : Nat} (ha : (a = 0 ∧ a' = 1) ∨ (a = 1 ∧ a' = 0)) (hI : GI wb x) (hA : PA x) (hC : PC x) : CI (ust (ust x 66 a 0 (-1)) 50 (x 66 a 0).toNat 0 0) := by
  obtain ⟨⟨h33, -⟩, -, ⟨-, -, t0, t1, tn⟩, -, -, ⟨n0, n1⟩, ht, hf⟩ := hA
  have e66 : ∀ o : Nat, ust (ust x 66 a 0 (-1)) 50 (x 66 a 0).toNat 0 0 66 o 0 = if o = a then -1 else x 66 o 0 := fun o => by
    rw [ust_c (by decide)]
    by_cases h : o = a
    · subst h; rw [ust_s, if_pos rfl]
    · rw [ust_o h, if_neg h]
  have e50 : ∀ o : Nat, ust (ust x 66 a 0 (-1)) 50 (x 66 a 0).toNat 0 0 50 o 0 = if o = (x 66 a 0).toNat then 0 else x 50 o 0 := fun o => by
    by_cases h : o = (x 66 a 0).toNat
    · subst h; rw [ust_s, if_pos rfl]
    · rw [ust_o h, if_neg h, ust_c (by decide)]
  have ec : ∀ (c o : Nat) (i : Int), c ≠ 50 → c ≠ 66 → ust (ust x 66 a 0 (-1)) 50 (x 66 a 0).toNat 0 0 c o i = x c o i := fun c o i h1 h2 => by rw [ust_c h1, ust_c h2]
  have haa : a < 2 ∧ a' < 2 ∧ a ≠ a' ∧ ∀ q : Nat, q < 2 → q = a ∨ q = a' := by
    rcases ha with ⟨rfl, rfl⟩ | ⟨rfl, rfl⟩ <;> exact ⟨by decide, by decide, by decide, fun q hq => by omega⟩
  have hta : 0 ≤ x 66 a 0 ∧ x 66 a 0 ≤ 3 ∧ 0 ≤ x 66 a' 0 ∧ x 66 a' 0 ≤ 3 ∧ x 66 a 0 ≠ x 66 a' 0 := by
    rcases ha with ⟨rfl, rfl⟩ | ⟨rfl, rfl⟩
    · exact ⟨t0.1, t0.2, t1.1, t1.2, tn⟩
    · exact ⟨t1.1, t1.2, t0.1, t0.2, fun e => tn e.symm⟩
  have hts : ∀ t : Nat, t < 6 → (x 50 t 0 = 1 ∧ (x 66 a 0 = (t : Int) ∨ x 66 a' 0 = (t : Int))) ∨ (x 50 t 0 = 0 ∧ x 66 a 0 ≠ (t : Int) ∧ x 66 a' 0 ≠ (t : Int)) := fun t h6 => by
    have h := ht t h6
    rcases ha with ⟨rfl, rfl⟩ | ⟨rfl, rfl⟩
    · exact h
    · rcases h with ⟨p, q⟩ | ⟨p, q, r⟩
      · exact Or.inl ⟨p, q.symm⟩
      · exact Or.inr ⟨p, r, q⟩
  refine ⟨fun t ht6 => ?_, fun o j => ?_, fun q hq => ?_, fun q1 q2 h1 h2 h3 he => ?_, fun q hq h6 => ?_⟩
  · rw [e50, ec 33 0 0 (by decide) (by decide), h33]
    by_cases h : t = (x 66 a 0).toNat
    · rw [if_pos h]
      refine Or.inr ⟨rfl, fun q hq => ?_⟩
      rw [e66]
      split
      · omega
      · rename_i hne
        rcases haa.2.2.2 q (by omega) with r | r
        · exact absurd r hne
        · subst r
          omega
    · rw [if_neg h]
      rcases hts t ht6 with ⟨p, r⟩ | ⟨p, r1, r2⟩
      · refine Or.inl ⟨p, a', by omega, ?_⟩
        rw [e66, if_neg (fun e => haa.2.2.1 e.symm)]
        omega
      · refine Or.inr ⟨p, fun q hq => ?_⟩
        rw [e66]
        split
        · omega
        · rename_i hne
          rcases haa.2.2.2 q (by omega) with r | r
          · exact absurd r hne
          · subst r
            exact r2
  · rw [ec 42 o j (by decide) (by decide), ec 30 0 0 (by decide) (by decide)]
    exact hC.2 o j
  · rw [ec 33 0 0 (by decide) (by decide), h33] at hq ⊢
    rw [ec 65 q 0 (by decide) (by decide)]
    have hq2 : q = 0 ∨ q = 1 := by omega
    rcases hq2 with rfl | rfl
    · right; omega
    · left; exact n1
  · rw [ec 33 0 0 (by decide) (by decide), h33] at h1 h2
    rw [e66] at h3
    rw [e66, e66] at he
    by_cases c1 : q1 = a
    · rw [if_pos c1] at h3
      exact absurd rfl h3
    · have d1 : q1 = a' := by
        rcases haa.2.2.2 q1 (by omega) with r | r
        · exact absurd r c1
        · exact r
      by_cases c2 : q2 = a
      · rw [if_neg c1, if_pos c2, d1] at he
        omega
      · have d2 : q2 = a' := by
          rcases haa.2.2.2 q2 (by omega) with r | r
          · exact absurd r c2
          · exact r
        rw [d1, d2]
  · rw [ec 33 0 0 (by decide) (by decide), h33] at hq
    rw [ec 64 q 0 (by decide) (by decide)]
    obtain ⟨f1, f2, f3⟩ := hf q (by omega) h6
    refine ⟨fun j hj => ?_, f2, fun j hj => ?_⟩
    · rw [ec 62 q j (by decide) (by decide)]; exact f1 j hj
    · rw [ec 63 q j (by decide) (by decide)]; exact f3 j hj
/-- placed anew: x ahead of the lifting, z behind the writes -/
theorem PA_place {x z : St} {a a' t : Nat} (ha : (a = 0 ∧ a' = 1) ∨ (a = 1 ∧ a' = 0)) (hA : PA x) (ht3 : t ≤ 3) (htn : x 66 a' 0 ≠ (t : Int))
    (hz : ∀ (c o : Nat) (i : Int), c = 33 ∨ c = 60 ∨ c = 61 ∨ c = 62 ∨ c = 64 ∨ c = 65 ∨ c = 80 ∨ c = 81 ∨ c = 83 → z c o i = x c o i) (h63 : ∀ (o : Nat) (i : Int), o ≠ a → z 63 o i = x 63 o i) (hd : rowsD z a)
    (h66 : z 66 a 0 = (t : Int) ∧ z 66 a' 0 = x 66 a' 0) (h82 : z 82 0 (a : Int) = (t : Int) ∧ z 82 0 (a' : Int) = x 82 0 (a' : Int)) (h50 : ∀ o : Nat, z 50 o 0 = if o = t then 1 else if o = (x 66 a 0).toNat then 0 else x 50 o 0) : PA z := by
  obtain ⟨⟨h33, h604⟩, ⟨i0, i1, o0, o1⟩, ⟨s0, s1, t0, t1, tn⟩, hw, hr, ⟨n0, n1⟩, ht, hf⟩ := hA
  have haa : a < 2 ∧ a' < 2 ∧ a ≠ a' ∧ ∀ q : Nat, q < 2 → q = a ∨ q = a' := by
    rcases ha with ⟨rfl, rfl⟩ | ⟨rfl, rfl⟩ <;> exact ⟨by decide, by decide, by decide, fun q hq => by omega⟩
  refine ⟨⟨by rw [hz 33 _ _ (by decide)]; exact h33, by rw [hz 60 _ _ (by decide)]; exact h604⟩, ⟨by rw [hz 80 _ _ (by decide), hz 60 _ _ (by decide)]; exact i0, by rw [hz 80 _ _ (by decide), hz 60 _ _ (by decide)]; exact i1, by rw [hz 81 _ _ (by decide), hz 61 _ _ (by decide)]; exact o0, by rw [hz 81 _ _ (by decide), hz 61 _ _ (by decide)]; exact o1⟩, ?_, fun q j hq hj => by rw [hz 83 _ _ (by decide), hz 62 _ _ (by decide)]; exact hw q j hq hj, fun q i j hq hij hj => ?_, ⟨by rw [hz 65 _ _ (by decide)]; exact n0, by rw [hz 65 _ _ (by decide)]; exact n1⟩, fun o h6 => ?_, fun q h2 h6 => ?_⟩
  · rcases ha with ⟨rfl, rfl⟩ | ⟨rfl, rfl⟩
    · refine ⟨by rw [h66.1]; exact h82.1, ?_, by rw [h66.1]; omega, by rw [h66.2]; exact t1, by rw [h66.1, h66.2]; exact fun e => htn e.symm⟩
      rw [h66.2, ← s1]
      exact h82.2
    · refine ⟨?_, by rw [h66.1]; exact h82.1, by rw [h66.2]; exact t0, by rw [h66.1]; omega, by rw [h66.1, h66.2]; exact htn⟩
      rw [h66.2, ← s0]
      exact h82.2
  · by_cases he : q = a
    · subst he
      exact hd i j hij hj
    · rw [h63 q _ he, h63 q _ he]
      rw [hz 60 _ _ (by decide)] at hj
      exact hr q i j hq hij hj
  · have hto := ht o h6
    rcases ha with ⟨rfl, rfl⟩ | ⟨rfl, rfl⟩
    · rw [h50, h66.1, h66.2]
      by_cases c1 : o = t
      · rw [if_pos c1]
        left
        exact ⟨rfl, Or.inl (by rw [c1])⟩
      · rw [if_neg c1]
        by_cases c2 : o = (x 66 0 0).toNat
        · rw [if_pos c2]
          right
          exact ⟨rfl, by omega, by omega⟩
        · rw [if_neg c2]
          rcases hto with ⟨p, r⟩ | ⟨p, r1, r2⟩
          · left; exact ⟨p, Or.inr (by omega)⟩
          · right; exact ⟨p, by omega, by omega⟩
    · rw [h50, h66.1, h66.2]
      by_cases c1 : o = t
      · rw [if_pos c1]
        left
        exact ⟨rfl, Or.inr (by rw [c1])⟩
      · rw [if_neg c1]
        by_cases c2 : o = (x 66 1 0).toNat
        · rw [if_pos c2]
          right
          exact ⟨rfl, by omega, by omega⟩
        · rw [if_neg c2]
          rcases hto with ⟨p, r⟩ | ⟨p, r1, r2⟩
          · left; exact ⟨p, Or.inl (by omega)⟩
          · right; exact ⟨p, by omega, by omega⟩
  · have hqa : q ≠ a := by omega
    obtain ⟨f1, f2, f3⟩ := hf q h2 h6
    refine ⟨fun j hj => by rw [hz 62 _ _ (by decide)]; exact f1 j hj, by rw [hz 64 _ _ (by decide)]; exact f2, fun j hj => by rw [h63 q _ hqa]; exact f3 j hj⟩
