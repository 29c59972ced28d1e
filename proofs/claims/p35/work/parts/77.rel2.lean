theorem RY_readE {st : St} (h : RY st) {q t : Nat} {d : Int} (ht : t < 6) (htq : st 20 0 (q : Int) = (t : Int)) (hd : 0 ≤ d ∧ d < 16) (cur : Int) : readC st t d cur = readE st (q : Int) d cur := by
  rw [RY_read h ht hd]
  unfold readE
  rw [htq]
theorem sum4 {f : Nat → Int} : sumN f 4 = f 0 + f 1 + f 2 + f 3 := by
  show 0 + f 0 + f 1 + f 2 + f 3 = _
  rw [Int.zero_add]
theorem RY_ans {st : St} (h : RY st) {q t : Nat} {d : Int} (hq : (q : Int) < st 14 0 0) (ht : t < 6) (h6 : (q : Int) < 6) (htq : st 20 0 (q : Int) = (t : Int)) (hd : 0 ≤ d ∧ d < 4) {vec : Nat} (hv : vec < 2 ^ 64) (hr : ∀ k : Int, 0 ≤ st 63 q k ∧ st 63 q k ≤ 7) (hin : st 60 q 0 ≤ 8) : anC st q t vec d 8 = ansU st (q : Int) d vec 8 := by
  unfold anC ansU
  refine sumN_e 8 (fun b hb => ?_)
  have hn := (h.2.1 q hq).1
  have hk : ∀ k : Nat, k < 4 → readC st t (d * 4 + (k : Int)) (curC st q t (asrN vec b) (d * 4 + (k : Int)) (st 60 q 0).toNat) = readE st (q : Int) (4 * d + (k : Int)) (curU st (q : Int) (4 * d + (k : Int)) vec b (st 15 0 (q : Int)).toNat) := fun k hk => by
    rw [RY_cur h hq ht h6 htq (by omega) hv hb hr (by omega), RY_readE h ht htq (by omega), hn, show d * 4 + (k : Int) = 4 * d + (k : Int) by omega]
  unfold anI
  rw [sum4, sum4, hk 0 (by decide), hk 1 (by decide), hk 2 (by decide), hk 3 (by decide)]
  have q0 : tW st (q : Int) d vec b 0 = readE st (q : Int) (4 * d + ((0 : Nat) : Int)) (curU st (q : Int) (4 * d + ((0 : Nat) : Int)) vec b (st 15 0 (q : Int)).toNat) * 1 := by
    unfold tW
    rw [if_pos (by decide), if_pos (by decide)]
  have q1 : tW st (q : Int) d vec b 1 = readE st (q : Int) (4 * d + ((1 : Nat) : Int)) (curU st (q : Int) (4 * d + ((1 : Nat) : Int)) vec b (st 15 0 (q : Int)).toNat) * 16 := by
    unfold tW
    rw [if_pos (by decide), if_neg (by decide)]
  have q2 : tW st (q : Int) d vec b 2 = -(readE st (q : Int) (4 * d + ((2 : Nat) : Int)) (curU st (q : Int) (4 * d + ((2 : Nat) : Int)) vec b (st 15 0 (q : Int)).toNat) * 1) := by
    unfold tW
    rw [if_neg (by decide), if_pos (by decide)]
  have q3 : tW st (q : Int) d vec b 3 = -(readE st (q : Int) (4 * d + ((3 : Nat) : Int)) (curU st (q : Int) (4 * d + ((3 : Nat) : Int)) vec b (st 15 0 (q : Int)).toNat) * 16) := by
    unfold tW
    rw [if_neg (by decide), if_neg (by decide)]
  rw [q0, q1, q2, q3]
  generalize readE st (q : Int) (4 * d + ((0 : Nat) : Int)) (curU st (q : Int) (4 * d + ((0 : Nat) : Int)) vec b (st 15 0 (q : Int)).toNat) = r0
  generalize readE st (q : Int) (4 * d + ((1 : Nat) : Int)) (curU st (q : Int) (4 * d + ((1 : Nat) : Int)) vec b (st 15 0 (q : Int)).toNat) = r1
  generalize readE st (q : Int) (4 * d + ((2 : Nat) : Int)) (curU st (q : Int) (4 * d + ((2 : Nat) : Int)) vec b (st 15 0 (q : Int)).toNat) = r2
  generalize readE st (q : Int) (4 * d + ((3 : Nat) : Int)) (curU st (q : Int) (4 * d + ((3 : Nat) : Int)) vec b (st 15 0 (q : Int)).toNat) = r3
  rw [show fcF ((0 : Nat) : Int) = 1 from rfl, show fcF ((1 : Nat) : Int) = 16 from rfl, show fcF ((2 : Nat) : Int) = -1 from rfl, show fcF ((3 : Nat) : Int) = -16 from rfl]
  generalize (2 : Int) ^ b = p
  have e1 : (16 : Int) * r1 = r1 * 16 := Int.mul_comm _ _
  have e2 : (-16 : Int) * r3 = -(r3 * 16) := by rw [Int.neg_mul, Int.mul_comm]
  have e3 : (-1 : Int) * r2 = -(r2 * 1) := by rw [Int.neg_mul, Int.mul_comm]
  rw [e1, e2, e3, Int.one_mul, Int.add_mul, Int.add_mul, Int.add_mul, Int.mul_one, Int.mul_one]
theorem RY_no {st : St} (h : RY st) {q : Nat} {d : Int} {k : Nat} (hq : (q : Int) < st 14 0 0) (hd : 0 ≤ d ∧ d < 4) (hk : k < 4) {n : Nat} (hn : n ≤ 8) : noC st q (d * 4 + (k : Int)) n = neU st (q : Int) d (k : Int) n := by
  unfold noC neU
  refine sumN_e n (fun j hj => ?_)
  rw [RY_need h hq (by omega) (by omega), show (d * 4 + (k : Int)) / 4 = d by omega, show (d * 4 + (k : Int)) % 4 = (k : Int) by omega]
theorem RY_err {st : St} (h : RY st) {q t : Nat} {d g : Int} {k : Nat} (hq : (q : Int) < st 14 0 0) (ht : t < 6) (htq : st 20 0 (q : Int) = (t : Int)) (hd : 0 ≤ d ∧ d < 4) (hk : k < 4) (hin : st 60 q 0 ≤ 8) : bestU (readC st t (d * 4 + (k : Int))) g (noC st q (d * 4 + (k : Int)) (st 60 q 0).toNat).toNat = errF st (q : Int) d (k : Int) g := by
  unfold errF
  have e : readC st t (d * 4 + (k : Int)) = readE st (q : Int) (4 * d + (k : Int)) := funext fun cur => by
    rw [RY_readE h ht htq (by omega), show d * 4 + (k : Int) = 4 * d + (k : Int) by omega]
  rw [RY_no h hq hd hk (by omega), e, (h.2.1 q hq).1]
theorem RY_bound {st : St} (h : RY st) {q t : Nat} {d u : Int} (hq : (q : Int) < st 14 0 0) (ht : t < 6) (htq : st 20 0 (q : Int) = (t : Int)) (hd : 0 ≤ d ∧ d < 4) (hu : u = 0 ∨ u = 1) (hin : st 60 q 0 ≤ 8) : 255 * sumN (bnT st q t d u) 4 = 255 * (errF st (q : Int) d 0 u + 16 * errF st (q : Int) d 1 u - (errF st (q : Int) d 2 (1 - u) + 16 * errF st (q : Int) d 3 (1 - u))) := by
  congr 1
  rw [sum4]
  unfold bnT bnE
  rw [RY_err h hq ht htq hd (by decide) hin, RY_err h hq ht htq hd (by decide) hin, RY_err h hq ht htq hd (by decide) hin, RY_err h hq ht htq hd (by decide) hin]
  rw [show fcF ((0 : Nat) : Int) = 1 from rfl, show fcF ((1 : Nat) : Int) = 16 from rfl, show fcF ((2 : Nat) : Int) = -1 from rfl, show fcF ((3 : Nat) : Int) = -16 from rfl]
  have c0 : ((0 : Nat) : Int) = 0 := rfl
  have c1 : ((1 : Nat) : Int) = 1 := rfl
  have c2 : ((2 : Nat) : Int) = 2 := rfl
  have c3 : ((3 : Nat) : Int) = 3 := rfl
  rw [c0, c1, c2, c3]
  rcases hu with rfl | rfl
  · rw [if_neg (by decide), if_neg (by decide), if_pos (by decide), if_pos (by decide), show (1 : Int) - 0 = 1 from rfl]
    omega
  · rw [if_pos (by decide), if_pos (by decide), if_neg (by decide), if_neg (by decide), show (1 : Int) - 1 = 0 from rfl]
    omega
theorem rowK_r (st : St) (q t i : Nat) : ∀ c, rowK st q t i c = 0 ∨ rowK st q t i c = 1
  | 0 => Or.inr rfl
  | c + 1 => by
    rw [rowK_s]
    by_cases h : rowK st q t i c = 0
    · rw [if_pos h]; exact Or.inl rfl
    · rw [if_neg h]
      unfold okC
      split
      · exact Or.inr rfl
      · exact Or.inl rfl
theorem RY_row {st : St} (h : RY st) {q t i : Nat} (hq : (q : Int) < st 14 0 0) (ht : t < 6) (htq : st 20 0 (q : Int) = (t : Int)) (hi : (i : Int) < 8) (hr : ∀ k : Int, 0 ≤ st 63 q k ∧ st 63 q k ≤ 7) (ho : 1 ≤ st 61 q 0 ∧ st 61 q 0 ≤ 4) (e : allK st q t i = trU st (q : Int) (16 * i)) : ∀ c, c ≤ 16 → trU st (q : Int) (16 * i + c) = if allK st q t i = 0 then 0 else rowK st q t i (min c (4 * st 61 q 0).toNat)
  | 0, _ => by
    rw [Nat.add_zero, ← e, Nat.zero_min]
    have h1 := trU_r st (q : Int) (16 * i)
    rw [← e] at h1
    rcases h1 with h1 | h1
    · rw [if_pos h1, h1]
    · rw [if_neg (by omega), h1]
      rfl
  | c + 1, hc => by
    have ih := RY_row h hq ht htq hi hr ho e c (by omega)
    rw [← Nat.add_assoc, trU_s, ih]
    by_cases ha : allK st q t i = 0
    · rw [if_pos ha, if_pos ha, if_pos rfl]
    · rw [if_neg ha, if_neg ha]
      have hou := (h.2.1 q hq).2.1
      have hri := hr (i : Int)
      by_cases hcm : c < (4 * st 61 q 0).toNat
      · rw [Nat.min_eq_left (by omega), Nat.min_eq_left (by omega), rowK_s]
        have hok : okF st (q : Int) (16 * i + c) = okC st q t i c := by
          unfold okF okC
          rw [show ((16 * i + c : Nat) : Int) % 16 = (c : Int) by omega, show ((16 * i + c : Nat) : Int) / 16 = (i : Int) by omega, RY_con h ht (by omega), RY_need h hq (by omega) (by omega), h.2.2.2.1 q (i : Int) hq (by omega), htq, Int.add_assoc]
          by_cases hz : conM st (128 * (t : Int) + (16 * st 21 0 (8 * (q : Int) + (i : Int)) + (c : Int))) = needV (st 17 0 (32 * (q : Int) + 4 * (i : Int) + (c : Int) / 4)) ((c : Int) % 4)
          · rw [if_pos (fun _ => hz), if_pos hz]
          · rw [if_neg (fun z => hz (z (by omega))), if_neg hz]
        rw [hok]
      · rw [Nat.min_eq_right (by omega), Nat.min_eq_right (by omega)]
        have hok : okF st (q : Int) (16 * i + c) = 1 := by
          unfold okF
          rw [if_pos (fun z => absurd z (by omega))]
        rw [hok]
        rcases rowK_r st q t i (4 * st 61 q 0).toNat with h1 | h1
        · rw [h1, if_pos rfl]
        · rw [h1, if_neg (by decide)]
theorem RY_true {st : St} (h : RY st) {q t : Nat} (hq : (q : Int) < st 14 0 0) (ht : t < 6) (htq : st 20 0 (q : Int) = (t : Int)) (hr : ∀ k : Int, 0 ≤ st 63 q k ∧ st 63 q k ≤ 7) (ho : 1 ≤ st 61 q 0 ∧ st 61 q 0 ≤ 4) : ∀ i, i ≤ 8 → allK st q t i = trU st (q : Int) (16 * i)
  | 0, _ => rfl
  | i + 1, hi => by
    have ih := RY_true h hq ht htq hr ho i (by omega)
    have h1 := RY_row h hq ht htq (by omega) hr ho ih 16 (Nat.le_refl 16)
    rw [allK_s, show 16 * (i + 1) = 16 * i + 16 by omega, h1, Nat.min_eq_right (by omega)]
/-! ===== the fewest misfits ===== -/
theorem RY_cost {st : St} (h : RY st) {q t i r : Nat} (hq : (q : Int) < st 14 0 0) (ht : t < 6) (hi : i < 8) (hr : r < 8) (ho : 1 ≤ st 61 q 0 ∧ st 61 q 0 ≤ 4) : cstC st q t i r = cst st (q : Int) (t : Int) i r := by
  unfold cstC cst
  have hou := (h.2.1 q hq).2.1
  rw [show (4 * st 61 q 0).toNat = 4 * (st 16 0 (q : Int)).toNat by omega]
  refine sumN_e _ (fun c hc => ?_)
  obtain ⟨c0, -, -, -, c4⟩ := h.2.2.2.2.1 t (16 * (r : Int) + (c : Int)) ht (by omega)
  unfold mfC mfM msC
  rw [c0, c4, RY_need h hq (by omega) (by omega), ← Int.add_assoc, show ((c / 4 : Nat) : Int) = (c : Int) / 4 by omega, show ((c % 4 : Nat) : Int) = (c : Int) % 4 by omega]
theorem rowM_e {cs cs' : Nat → Nat → Int} {h h' : Nat → Int} {S : Nat} (hc : ∀ r, r < 8 → cs (onesU S 8) r = cs' (onesU S 8) r) (hg : ∀ r, r < 8 → S / 2 ^ r % 2 = 0 → h (S ||| 2 ^ r) = h' (S ||| 2 ^ r)) : ∀ r, r ≤ 8 → rowM cs h S r = rowM cs' h' S r
  | 0, _ => rfl
  | r + 1, hr => by
    rw [rowM_s, rowM_s, rowM_e hc hg r (by omega)]
    by_cases hb : S / 2 ^ r % 2 = 1
    · rw [if_pos hb, if_pos hb]
    · rw [if_neg hb, if_neg hb, hc r (by omega), hg r (by omega) (by omega)]
theorem dpK_e {cs cs' : Nat → Nat → Int} {ni : Nat} (hc : ∀ i r, i < ni → r < 8 → cs i r = cs' i r) : ∀ k S, S < 256 → onesU S 8 + k ≤ ni → dpK cs k S = dpK cs' k S
  | 0, _, _, _ => rfl
  | k + 1, S, hS, ho => by
    show rowM cs (dpK cs k) S 8 = rowM cs' (dpK cs' k) S 8
    refine rowM_e (fun r hr => hc _ r (by omega) hr) (fun r hr hf => ?_) 8 (Nat.le_refl 8)
    have hor := ones_or S hS r hr hf
    exact dpK_e hc k _ hor.2.2 (by omega)
theorem dpV_e {cs cs' : Nat → Nat → Int} {ni : Nat} (hc : ∀ i r, i < ni → r < 8 → cs i r = cs' i r) {S : Nat} (hS : S < 256) : dpV cs ni S = dpV cs' ni S := by
  unfold dpV
  by_cases h : onesU S 8 ≤ ni
  · exact dpK_e hc _ S hS (by omega)
  · rw [show ni - onesU S 8 = 0 by omega]
    rfl
theorem pkJ_e {cs cs' : Nat → Nat → Int} {ni i S : Nat} (hc : ∀ i r, i < ni → r < 8 → cs i r = cs' i r) (hi : i < ni) (hS : S < 256) : ∀ j, j ≤ 8 → pkJ cs ni i S j = pkJ cs' ni i S j
  | 0, _ => rfl
  | j + 1, hj => by
    unfold pkJ
    rw [pkJ_e hc hi hS j (by omega), hc i (7 - j) hi (by omega), dpV_e hc hS, dpV_e hc (or_b S hS (7 - j) (by omega))]
theorem pkN_e {cs cs' : Nat → Nat → Int} {ni i S m : Nat} (hc : ∀ i r, i < ni → r < 8 → cs i r = cs' i r) (hi : i < ni) (hS : S < 256) : pkN cs ni i S m = pkN cs' ni i S m := pkJ_e hc hi hS _ (by omega)
theorem grS_e {cs cs' : Nat → Nat → Int} {ni : Nat} (h1 : ∀ i r, 0 ≤ cs i r ∧ cs i r ≤ 16) (hn : ni ≤ 8) (hc : ∀ i r, i < ni → r < 8 → cs i r = cs' i r) : ∀ i, i ≤ ni → grS cs ni i = grS cs' ni i ∧ grS cs ni i < 256 ∧ onesU (grS cs ni i) 8 = i
  | 0, _ => ⟨rfl, show (0 : Nat) < 256 by decide, show onesU 0 8 = 0 by decide⟩
  | i + 1, hi => by
    obtain ⟨a, b, c⟩ := grS_e h1 hn hc i (by omega)
    obtain ⟨q, hq, hq8, hqf⟩ := pk_found h1 hn (show i < ni by omega) b c
    have hor := ones_or _ b q hq8 hqf
    rw [grS_s, grS_s, ← a, ← pkN_e hc (by omega) b, hq]
    exact ⟨rfl, hor.2.2, by show onesU (grS cs ni i ||| 2 ^ q) 8 = i + 1; omega⟩
/-! ===== writes ===== -/
theorem setG_o {b o : Nat} {st : St} {i s w si k kn : Int} {c o' : Nat} {i' : Int} (h : ¬ (o' = o ∧ i' = i)) : setG b o st i s w si k kn c o' i' = st c o' i' := by
  unfold setG
  rw [if_neg h]
/-- the cells of the class in x are those of the model in y -/
def CR (x y : St) : Prop := (x 30 0 0 = y 1 0 0 ∧ x 31 0 0 = y 2 0 0 ∧ x 32 0 0 = y 3 0 0) ∧ ∀ (t : Nat) (i : Int), t < 6 → 0 ≤ i ∧ i < 128 → x 40 t i = y 4 0 (128 * (t : Int) + i) ∧ x 41 t i = y 5 0 (128 * (t : Int) + i) ∧ x 42 t i = y 6 0 (128 * (t : Int) + i) ∧ x 43 t i = y 7 0 (128 * (t : Int) + i) ∧ x 44 t i = y 8 0 (128 * (t : Int) + i)
theorem CR_set {x y : St} (h : CR x y) {t : Nat} {i : Int} (ht : t < 6) (hi : 0 ≤ i ∧ i < 128) (s w si k kn : Int) : CR (setG 40 t x i s w si k kn) (setG 4 0 y (128 * (t : Int) + i) s w si k kn) := by
  obtain ⟨⟨h1, h2, h3⟩, hc⟩ := h
  refine ⟨⟨by rw [setG_c _ _ _ _ _ _ _ _ _ (by decide), setG_c _ _ _ _ _ _ _ _ _ (by decide)]; exact h1, by rw [setG_c _ _ _ _ _ _ _ _ _ (by decide), setG_c _ _ _ _ _ _ _ _ _ (by decide)]; exact h2, by rw [setG_c _ _ _ _ _ _ _ _ _ (by decide), setG_c _ _ _ _ _ _ _ _ _ (by decide)]; exact h3⟩, fun t' i' ht' hi' => ?_⟩
  have hc' := hc t' i' ht' hi'
  by_cases e : t' = t ∧ i' = i
  · obtain ⟨rfl, rfl⟩ := e
    exact ⟨by rw [setG_r0, setG_r0], by rw [setG_r1 40, setG_r1 4], by rw [setG_r2 40, setG_r2 4], by rw [setG_r3 40, setG_r3 4], by rw [setG_r4 40, setG_r4 4]⟩
  · have e2 : ¬ ((0 : Nat) = 0 ∧ 128 * (t' : Int) + i' = 128 * (t : Int) + i) := fun z => e (by omega)
    obtain ⟨d0, d1, d2, d3, d4⟩ := hc'
    exact ⟨by rw [setG_o e, setG_o e2]; exact d0, by rw [setG_o e, setG_o e2]; exact d1, by rw [setG_o e, setG_o e2]; exact d2, by rw [setG_o e, setG_o e2]; exact d3, by rw [setG_o e, setG_o e2]; exact d4⟩
theorem CR_wr {x y : St} (h : CR x y) {t : Nat} {i want : Int} (ht : t < 6) (hi : 0 ≤ i ∧ i < 128) : CR (wrC x t i want) (wrM y (128 * (t : Int) + i) want) ∧ wrCf x t i want = wrMf y (128 * (t : Int) + i) want := by
  obtain ⟨⟨h1, h2, h3⟩, hc⟩ := id h
  obtain ⟨c0, c1, c2, c3, c4⟩ := hc t i ht hi
  have e : CR (wrC x t i want) (wrM y (128 * (t : Int) + i) want) := by
    unfold wrC wrM
    rw [h1, h2, h3, c0, c1, c2, c3, c4]
    exact CR_set h ht hi _ _ _ _ _
  refine ⟨e, ?_⟩
  unfold wrCf wrMf
  rw [(e.2 t i ht hi).1]
theorem CR_run {x y : St} (h : CR x y) {t : Nat} (ht : t < 6) {c w c' w' : Nat → Int} : ∀ n, (∀ j, j < n → (0 ≤ c j ∧ c j < 128) ∧ c' j = 128 * (t : Int) + c j ∧ w' j = w j) → CR (rwC t c w n x).1 (runW c' w' n y).1 ∧ (rwC t c w n x).2 = (runW c' w' n y).2
  | 0, _ => ⟨h, rfl⟩
  | n + 1, hj => by
    obtain ⟨a, b⟩ := CR_run h ht n (fun j hn => hj j (by omega))
    obtain ⟨p, q, r⟩ := hj n (Nat.lt_succ_self n)
    obtain ⟨e, f⟩ := CR_wr (want := w n) a ht p
    rw [rwC_s1, runW_s1, rwC_s2, runW_s2, q, r, b, f]
    exact ⟨e, rfl⟩
