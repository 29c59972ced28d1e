/-! ===== one world for both classes: cells by numbered keys; what they hold is one function of integers ===== -/
abbrev St : Type := Nat → Nat → Int → Int
/-- st with component c of object o at place i set -/
def ust (st : St) (c o : Nat) (i v : Int) : St := fun c' o' i' => if c' = c then (if o' = o then (if i' = i then v else st c' o' i') else st c' o' i') else st c' o' i'
theorem ust_s {st : St} {c o : Nat} {i v : Int} : ust st c o i v c o i = v := by simp [ust]
theorem ust_c {st : St} {c o c' o' : Nat} {i v i' : Int} (h : c' ≠ c) : ust st c o i v c' o' i' = st c' o' i' := by simp [ust, h]
theorem ust_o {st : St} {c o c' o' : Nat} {i v i' : Int} (h : o' ≠ o) : ust st c o i v c' o' i' = st c' o' i' := by simp [ust, h]
theorem ust_i {st : St} {c o c' o' : Nat} {i v i' : Int} (h : i' ≠ i) : ust st c o i v c' o' i' = st c' o' i' := by simp [ust, h]
theorem ust_if {st : St} {c o : Nat} {i v : Int} {j : Int} : ust st c o i v c o j = if j = i then v else st c o j := by simp [ust]
/-- the world: the cells of the keys from 19 on -/
def gw (n : Nat) (ad : Nat → Nat) (ct : Nat → va_E) : va_W := (List.range (n - 19)).map (fun k => (ad (k + 19), ct (k + 19)))
theorem gw_at {n : Nat} {ad : Nat → Nat} {ct : Nat → va_E} {k : Nat} (h : 19 ≤ k ∧ k < n) : (gw n ad ct)[k - 19]? = some (ad k, ct k) := by
  unfold gw
  rw [List.getElem?_map, List.getElem?_range (by omega)]
  show some (ad (k - 19 + 19), ct (k - 19 + 19)) = _
  rw [Nat.sub_add_cancel h.1]
theorem gw_len {n : Nat} {ad : Nat → Nat} {ct : Nat → va_E} : (gw n ad ct).length = n - 19 := by
  unfold gw
  rw [List.length_map, List.length_range]
theorem gw_in {n : Nat} {ad : Nat → Nat} {ct : Nat → va_E} {k : Nat} {q : Nat × va_E} (h : (gw n ad ct)[k]? = some q) : ∃ k', (19 ≤ k' ∧ k' < n) ∧ k = k' - 19 ∧ q = (ad k', ct k') := by
  by_cases hk : k < n - 19
  · have h1 := gw_at (n := n) (ad := ad) (ct := ct) (k := k + 19) (by omega)
    rw [Nat.add_sub_cancel, h] at h1
    exact ⟨k + 19, by omega, by omega, Option.some.inj h1⟩
  · rw [List.getElem?_eq_none (by rw [gw_len]; omega)] at h
    cases h
theorem gw_set {n : Nat} {ad : Nat → Nat} {ct ct' : Nat → va_E} {k : Nat} {e : va_E} (hc : ∀ j, j < n → ct' j = if j = k then e else ct j) (hk : 19 ≤ k ∧ k < n) : (gw n ad ct).set (k - 19) (ad k, e) = gw n ad ct' := by
  apply List.ext_getElem?
  intro j
  by_cases hj : j < n - 19
  · have h1 := fun c => gw_at (n := n) (ad := ad) (ct := c) (k := j + 19) (by omega)
    simp only [Nat.add_sub_cancel] at h1
    rw [h1, List.getElem?_set]
    by_cases hjk : k - 19 = j
    · have hkj : j + 19 = k := by omega
      rw [if_pos hjk, if_pos (by rw [gw_len]; omega), hc _ (by omega), if_pos hkj, hkj]
    · rw [if_neg hjk, h1, hc _ (by omega), if_neg (by omega)]
  · rw [List.getElem?_eq_none (by rw [List.length_set, gw_len]; omega), List.getElem?_eq_none (by rw [gw_len]; omega)]
theorem gw_D {A : Nat → Prop} {n : Nat} {ad : Nat → Nat} {f g : Nat → va_E} (h : va_D A (gw n ad f)) : va_D A (gw n ad g) := by
  refine ⟨fun i j x y hi hj hxy => ?_, fun k q hk => ?_⟩
  · obtain ⟨i', h1, rfl, rfl⟩ := gw_in hi
    obtain ⟨j', h2, rfl, rfl⟩ := gw_in hj
    exact h.1 _ _ _ _ (gw_at h1) (gw_at h2) hxy
  · obtain ⟨k', h1, rfl, rfl⟩ := gw_in hk
    exact h.2 _ (ad k', f k') (gw_at h1)
/-- the addresses that a method over the one world may change -/
def gA (n : Nat) (ad : Nat → Nat) (sz : Nat) : Nat → Prop := fun q => (∃ k, (19 ≤ k ∧ k < n) ∧ q = ad k) ∨ sz ≤ q
theorem gw_A {n : Nat} {ad : Nat → Nat} {f : Nat → va_E} {sz : Nat} {B : Nat → Prop} (h : va_D B (gw n ad f)) : va_D (gA n ad sz) (gw n ad f) := ⟨h.1, fun k q hk => by
  obtain ⟨k', h1, rfl, rfl⟩ := gw_in hk
  exact Or.inl ⟨k', h1, rfl⟩⟩
/-! ===== the tables: kinds of cells ===== -/
def gct : List (Nat × Nat × Nat) := [(9, 999, 0), (9, 999, 0), (9, 999, 0), (9, 999, 0), (9, 999, 0), (9, 999, 0), (9, 999, 0), (9, 999, 0), (9, 999, 0), (9, 999, 0), (9, 999, 0), (9, 999, 0), (9, 999, 0), (9, 999, 0), (9, 999, 0), (9, 999, 0), (9, 999, 0), (9, 999, 0), (9, 999, 0), (0, 80, 2), (0, 81, 2), (9, 999, 0), (9, 999, 0), (9, 999, 0), (9, 999, 0), (9, 999, 0), (0, 34, 64), (0, 35, 256), (9, 999, 0), (0, 37, 6), (0, 38, 6), (0, 82, 2), (0, 83, 64), (9, 999, 0), (0, 40, 128), (0, 41, 128), (0, 42, 128), (1, 43, 128), (1, 44, 128), (0, 45, 16), (9, 999, 0), (0, 62, 32), (0, 63, 8)]
def gty (kd : Nat) : Nat := (gct.getD kd (9, 999, 0)).1
def gcp (kd : Nat) : Nat := (gct.getD kd (9, 999, 0)).2.1
def gln (kd : Nat) : Nat := (gct.getD kd (9, 999, 0)).2.2
/-- the components that objects' own fields hold -/
def gsc : List Nat := [0, 1, 2, 3, 14, 30, 31, 32, 33, 36, 46, 47, 48, 49, 50, 60, 61, 64, 65, 66, 70, 71, 999]
theorem gty_2 : ∀ kd, kd < 43 → gty kd ≠ 9 → ∀ kd', kd' < 43 → gcp kd' = gcp kd → kd' = kd := by decide +kernel
theorem gty_s : ∀ kd, kd < 43 → gty kd ≠ 9 → ∀ c ∈ gsc, c ≠ gcp kd := by decide +kernel
theorem gty_big {kd : Nat} (h : 43 ≤ kd) : gty kd = 9 ∧ gcp kd = 999 := by
  have : gct[kd]? = none := List.getElem?_eq_none h
  unfold gty gcp
  rw [List.getD_eq_getElem?_getD, this]
  exact ⟨rfl, rfl⟩
def gref (ad : Nat → Nat) (b w : Nat) (z : Int) : Option Nat := if z < 0 then none else some (ad (b + w * z.toNat))
def gOm (st : St) (ad : Nat → Nat) : List Value := [.int (iI (st 0 0 0)), .int (iI (st 1 0 0)), .int (iI (st 2 0 0)), .int (iI (st 3 0 0)), .ref (ad 1), .ref (ad 2), .ref (ad 3), .ref (ad 4), .ref (ad 5), .ref (ad 6), .ref (ad 7), .ref (ad 8), .ref (ad 9), .ref (ad 10), .int (iI (st 14 0 0)), .ref (ad 11), .ref (ad 12), .ref (ad 13), .ref (ad 14), .ref (ad 15), .ref (ad 16), .ref (ad 17), .ref (ad 18), .ref (ad 19), .ref (ad 20)]
def gOx (st : St) (ad : Nat → Nat) : List Value := [.ref (ad 22), .ref (ad 23), .ref (ad 24), .ref (ad 25), .ref (ad 28), .int (iI (st 33 0 0))]
def gOs (st : St) : List Value := [.int (iI (st 30 0 0)), .int (iI (st 31 0 0)), .int (iI (st 32 0 0))]
def gOp (st : St) (ad : Nat → Nat) : List Value := [.ref (ad 29), .ref (ad 30), .int (iI (st 36 0 0))]
def gOt (st : St) (ad : Nat → Nat) (o : Nat) : List Value := [.int (iI (o : Int)), .ref (ad (34 + 7 * o)), .ref (ad (35 + 7 * o)), .ref (ad (36 + 7 * o)), .ref (ad (37 + 7 * o)), .ref (ad (38 + 7 * o)), .ref (ad (39 + 7 * o)), .int (iI (st 46 o 0)), .int (iI (st 47 o 0)), .int (iI (st 48 o 0)), .int (iI (st 49 o 0)), .int (iI (st 50 o 0))]
def gOl (st : St) (ad : Nat → Nat) (o : Nat) : List Value := [.int (iI (o : Int)), .int (iI (st 60 o 0)), .int (iI (st 61 o 0)), .ref (ad (76 + 3 * o)), .ref (ad (77 + 3 * o)), .int (iI (st 64 o 0)), va_rf (gref ad 75 3 (st 65 o 0)), va_rf (gref ad 33 7 (st 66 o 0))]
def gE (st : St) (ad : Nat → Nat) (cy : Nat → ClassId) (kd o : Nat) : va_E :=
  if kd = 0 then .inr (6, gOm st ad)
  else if kd = 21 then .inr (5, gOx st ad)
  else if kd = 22 then .inr (3, gOs st)
  else if kd = 23 then .inl (cy 3, 6, .inr (.inr (.inr (.inr (fun j => some (ad (33 + 7 * j)))))))
  else if kd = 24 then .inl (cy 2, 6, .inr (.inr (.inr (.inr (fun j => if (j : Int) < st 33 0 0 then some (ad (75 + 3 * j)) else none)))))
  else if kd = 25 then .inr (2, [.ref (ad 26), .ref (ad 27)])
  else if kd = 28 then .inr (1, gOp st ad)
  else if kd = 33 then .inr (4, gOt st ad o)
  else if kd = 40 then .inr (0, gOl st ad o)
  else .inl (cy (gty kd), gln kd, .inl (fun j => iI (st (gcp kd) o (j : Int))))
def gk (k : Nat) : Nat × Nat := if k < 33 then (k, 0) else if k < 75 then (33 + (k - 33) % 7, (k - 33) / 7) else (40 + (k - 75) % 3, (k - 75) / 3)
def gC (st : St) (ad : Nat → Nat) (cy : Nat → ClassId) (k : Nat) : va_E := gE st ad cy (gk k).1 (gk k).2
theorem gk_inj {k j : Nat} (h : gk k = gk j) : k = j := by
  unfold gk at h
  by_cases h1 : k < 33
  · rw [if_pos h1] at h
    by_cases h2 : j < 33
    · rw [if_pos h2] at h; cases h; rfl
    · rw [if_neg h2] at h
      by_cases h3 : j < 75
      · rw [if_pos h3] at h; have := (Prod.mk.inj h).1; omega
      · rw [if_neg h3] at h; have := (Prod.mk.inj h).1; omega
  · rw [if_neg h1] at h
    by_cases h2 : j < 33
    · rw [if_pos h2] at h
      by_cases h4 : k < 75
      · rw [if_pos h4] at h; have := (Prod.mk.inj h).1; omega
      · rw [if_neg h4] at h; have := (Prod.mk.inj h).1; omega
    · rw [if_neg h2] at h
      by_cases h3 : j < 75
      · rw [if_pos h3] at h
        by_cases h4 : k < 75
        · rw [if_pos h4] at h; have a := (Prod.mk.inj h).1; have b := (Prod.mk.inj h).2; omega
        · rw [if_neg h4] at h; have := (Prod.mk.inj h).1; omega
      · rw [if_neg h3] at h
        by_cases h4 : k < 75
        · rw [if_pos h4] at h; have := (Prod.mk.inj h).1; omega
        · rw [if_neg h4] at h; have a := (Prod.mk.inj h).1; have b := (Prod.mk.inj h).2; omega
theorem gk_t {o j : Nat} (ho : o < 6) (hj : j < 7) : gk (33 + j + 7 * o) = (33 + j, o) := by
  unfold gk
  rw [if_neg (by omega), if_pos (by omega)]
  exact Prod.ext (by show 33 + (33 + j + 7 * o - 33) % 7 = 33 + j; omega) (by show (33 + j + 7 * o - 33) / 7 = o; omega)
theorem gk_l {o j : Nat} (hj : j < 3) : gk (75 + j + 3 * o) = (40 + j, o) := by
  unfold gk
  rw [if_neg (by omega), if_neg (by omega)]
  exact Prod.ext (by show 40 + (75 + j + 3 * o - 75) % 3 = 40 + j; omega) (by show (75 + j + 3 * o - 75) / 3 = o; omega)
/-- the kinds of integer rows -/
theorem gE_a {kd : Nat} (h : gty kd ≠ 9) (st : St) (ad : Nat → Nat) (cy : Nat → ClassId) (o : Nat) : gE st ad cy kd o = .inl (cy (gty kd), gln kd, .inl (fun j => iI (st (gcp kd) o (j : Int)))) := by
  unfold gE
  have n1 : kd ≠ 0 := fun e => h (by rw [e]; rfl)
  have n2 : kd ≠ 21 := fun e => h (by rw [e]; rfl)
  have n3 : kd ≠ 22 := fun e => h (by rw [e]; rfl)
  have n4 : kd ≠ 23 := fun e => h (by rw [e]; rfl)
  have n5 : kd ≠ 24 := fun e => h (by rw [e]; rfl)
  have n6 : kd ≠ 25 := fun e => h (by rw [e]; rfl)
  have n7 : kd ≠ 28 := fun e => h (by rw [e]; rfl)
  have n10 : kd ≠ 33 := fun e => h (by rw [e]; rfl)
  have n11 : kd ≠ 40 := fun e => h (by rw [e]; rfl)
  rw [if_neg n1, if_neg n2, if_neg n3, if_neg n4, if_neg n5, if_neg n6, if_neg n7, if_neg n10, if_neg n11]
/-- a write into an integer row changes that cell alone -/
theorem gE_u {kd : Nat} (h : gty kd ≠ 9) (st : St) (ad : Nat → Nat) (cy : Nat → ClassId) (o : Nat) {i v : Int} (hi : 0 ≤ i) (kd' o' : Nat) : gE (ust st (gcp kd) o i v) ad cy kd' o' = if kd' = kd ∧ o' = o then .inl (cy (gty kd), gln kd, .inl (upd (fun j => iI (st (gcp kd) o (j : Int))) i.toNat (iI v))) else gE st ad cy kd' o' := by
  have hlt : kd < 43 := by
    rcases Nat.lt_or_ge kd 43 with q | q
    · exact q
    · exact absurd (gty_big q).1 h
  have hs := gty_s kd hlt h
  by_cases hk : kd' = kd
  · subst hk
    by_cases ho : o' = o
    · subst ho
      rw [if_pos ⟨rfl, rfl⟩, gE_a h]
      congr 4
      funext j
      rw [ust_if]
      unfold upd
      by_cases hj : (j : Int) = i
      · rw [if_pos hj, if_pos (by omega)]
      · rw [if_neg hj, if_neg (by omega)]
    · rw [if_neg (fun q => ho q.2), gE_a h, gE_a h]
      congr 4
      funext j
      rw [ust_o ho]
  · rw [if_neg (fun q => hk q.1)]
    by_cases h9 : gty kd' = 9
    · unfold gE gOm gOx gOs gOp gOt gOl
      rw [ust_c (hs 0 (by decide)), ust_c (hs 1 (by decide)), ust_c (hs 2 (by decide)), ust_c (hs 3 (by decide)), ust_c (hs 14 (by decide)), ust_c (hs 30 (by decide)), ust_c (hs 31 (by decide)), ust_c (hs 32 (by decide)), ust_c (hs 36 (by decide)), ust_c (hs 46 (by decide)), ust_c (hs 47 (by decide)), ust_c (hs 48 (by decide)), ust_c (hs 49 (by decide)), ust_c (hs 50 (by decide)), ust_c (hs 60 (by decide)), ust_c (hs 61 (by decide)), ust_c (hs 64 (by decide)), ust_c (hs 65 (by decide)), ust_c (hs 66 (by decide)), ust_c (hs 33 (by decide))]
      have hc : gcp kd' ≠ gcp kd := by
        rcases Nat.lt_or_ge kd' 43 with q | q
        · exact fun e => hk (gty_2 kd hlt h kd' q e)
        · rw [(gty_big q).2]; exact hs 999 (by decide)
      simp only [ust_c hc, ust_c (hs 33 (by decide))]
    · have hlt' : kd' < 43 := by
        rcases Nat.lt_or_ge kd' 43 with q | q
        · exact q
        · exact absurd (gty_big q).1 h9
      rw [gE_a h9, gE_a h9]
      congr 4
      funext j
      rw [ust_c (fun e => hk (gty_2 kd hlt h kd' hlt' e))]
theorem gC_u {key kd o : Nat} (hg : gk key = (kd, o)) (h : gty kd ≠ 9) (st : St) (ad : Nat → Nat) (cy : Nat → ClassId) {i v : Int} (hi : 0 ≤ i) (j : Nat) : gC (ust st (gcp kd) o i v) ad cy j = if j = key then .inl (cy (gty kd), gln kd, .inl (upd (fun j => iI (st (gcp kd) o (j : Int))) i.toNat (iI v))) else gC st ad cy j := by
  unfold gC
  rw [gE_u h st ad cy o hi]
  by_cases hj : j = key
  · subst hj
    rw [if_pos rfl, hg, if_pos ⟨rfl, rfl⟩]
  · rw [if_neg hj, if_neg (fun q => hj (gk_inj (by rw [hg]; exact Prod.ext q.1 q.2)))]
theorem gC_a {key kd o : Nat} (hg : gk key = (kd, o)) (h : gty kd ≠ 9) (st : St) (ad : Nat → Nat) (cy : Nat → ClassId) : gC st ad cy key = .inl (cy (gty kd), gln kd, .inl (fun j => iI (st (gcp kd) o (j : Int)))) := by
  unfold gC
  rw [hg]
  exact gE_a h st ad cy o
def gtys (cy : Nat → ClassId) : List (ClassId × FieldType) := [(cy 0, .int), (cy 1, .boolean), (cy 2, .object RX0), (cy 3, .object RX4)]
/-- the world in the heap H, at a point of a method's body -/
def GH (D : va_G) (cy : Nat → ClassId) (ad : Nat → Nat) (n : Nat) (st : St) (A : Nat → Prop) (H0 H : Heap) (locs : List Loc) : Prop := va_P D vwCl (gw n ad (gC st ad cy)) H ∧ va_D A (gw n ad (gC st ad cy)) ∧ va_S A H0 H locs
