/-! ===== a new layer in the one world ===== -/
def lyS (st : St) (q : Nat) (a b : Int) : St := fun c o i =>
  if c = 33 then (if o = 0 then (if i = 0 then st 33 0 0 + 1 else st 33 o i) else st 33 o i)
  else if c = 60 then (if o = q then a else st 60 o i)
  else if c = 61 then (if o = q then b else st 61 o i)
  else if c = 62 then (if o = q then 0 else st 62 o i)
  else if c = 63 then (if o = q then 0 else st 63 o i)
  else if c = 64 then (if o = q then 0 else st 64 o i)
  else if c = 65 then (if o = q then -1 else st 65 o i)
  else if c = 66 then (if o = q then -1 else st 66 o i)
  else st c o i
theorem lyS_c {st : St} {q : Nat} {a b : Int} {c o : Nat} {i : Int} (h : c ∉ [33, 60, 61, 62, 63, 64, 65, 66]) : lyS st q a b c o i = st c o i := by
  simp only [List.mem_cons, List.not_mem_nil, or_false, not_or] at h
  obtain ⟨h1, h2, h3, h4, h5, h6, h7, h8⟩ := h
  unfold lyS
  rw [if_neg h1, if_neg h2, if_neg h3, if_neg h4, if_neg h5, if_neg h6, if_neg h7, if_neg h8]
theorem lyS_o {st : St} {q : Nat} {a b : Int} {c o : Nat} {i : Int} (h : c ≠ 33) (ho : o ≠ q) : lyS st q a b c o i = st c o i := by
  unfold lyS
  rw [if_neg h]
  simp only [if_neg ho]
  split <;> (try (rename_i h1; subst h1; rfl)) <;> split <;> (try (rename_i h1; subst h1; rfl)) <;> split <;> (try (rename_i h1; subst h1; rfl)) <;> split <;> (try (rename_i h1; subst h1; rfl)) <;> split <;> (try (rename_i h1; subst h1; rfl)) <;> split <;> (try (rename_i h1; subst h1; rfl)) <;> split <;> (try (rename_i h1; subst h1; rfl)) <;> rfl
theorem lyS_33 {st : St} {q : Nat} {a b : Int} : lyS st q a b 33 0 0 = st 33 0 0 + 1 := rfl
theorem GI_ly {wb : Int} {st : St} {q : Nat} {a b : Int} (h : GI wb st) (ha : 1 ≤ a ∧ a ≤ 8) (hb : 1 ≤ b ∧ b ≤ 4) (h33 : st 33 0 0 < 6) : GI wb (lyS st q a b) := by
  intro c hc o i
  have h0 := h c hc o i
  unfold lyS
  by_cases h1 : c = 33
  · subst h1
    rw [if_pos rfl]
    have h2 := h 33 hc 0 0
    have e1 : glo 33 = 0 := rfl
    have e2 : ghi wb 33 = 6 := rfl
    rw [e1, e2] at h2
    rw [e1, e2] at h0 ⊢
    split
    · split
      · omega
      · exact h0
    · exact h0
  · rw [if_neg h1]
    by_cases h2 : c = 60
    · subst h2
      rw [if_pos rfl]
      split
      · exact ha
      · exact h0
    · rw [if_neg h2]
      by_cases h3 : c = 61
      · subst h3
        rw [if_pos rfl]
        split
        · exact hb
        · exact h0
      · rw [if_neg h3]
        by_cases h4 : c = 62
        · subst h4
          rw [if_pos rfl]
          split
          · exact ⟨by decide, (by decide : (0 : Int) ≤ 255)⟩
          · exact h0
        · rw [if_neg h4]
          by_cases h5 : c = 63
          · subst h5
            rw [if_pos rfl]
            split
            · exact ⟨by decide, (by decide : (0 : Int) ≤ 7)⟩
            · exact h0
          · rw [if_neg h5]
            by_cases h6 : c = 64
            · subst h6
              rw [if_pos rfl]
              split
              · exact ⟨by decide, (by decide : (0 : Int) ≤ 20)⟩
              · exact h0
            · rw [if_neg h6]
              by_cases h7 : c = 65
              · subst h7
                rw [if_pos rfl]
                split
                · exact ⟨by decide, (by decide : (-1 : Int) ≤ 5)⟩
                · exact h0
              · rw [if_neg h7]
                by_cases h8 : c = 66
                · subst h8
                  rw [if_pos rfl]
                  split
                  · exact ⟨by decide, (by decide : (-1 : Int) ≤ 5)⟩
                  · exact h0
                · rw [if_neg h8]
                  exact h0
theorem gcp_l : ∀ kd, kd < 40 → gcp kd ∉ [33, 60, 61, 62, 63, 64, 65, 66] := by decide +kernel
theorem gty_sp : ∀ k, k < 33 → gty k = 9 → k = 21 ∨ k = 22 ∨ k = 23 ∨ k = 24 ∨ k = 25 ∨ k = 28 ∨ k < 19 := by decide +kernel
theorem gk_s {k : Nat} (h : k < 33) : gk k = (k, 0) := by unfold gk; rw [if_pos h]
theorem gC_ly {n q : Nat} {st : St} {a b : Int} {ad ad' : Nat → Nat} {cy : Nat → ClassId} (hn : n = 75 + 3 * q) (had : ∀ j, j < n → ad' j = ad j) (hnx : ∀ o : Nat, o < q → st 65 o 0 < (q : Int)) (h66 : ∀ (o : Nat), st 66 o 0 ≤ 5) {k : Nat} (hk : 19 ≤ k ∧ k < n) (h21 : k ≠ 21) (h23 : k ≠ 23) (h24 : k ≠ 24) : gC (lyS st q a b) ad' cy k = gC st ad cy k := by
  rcases Nat.lt_or_ge k 33 with h1 | h1
  · by_cases h9 : gty k = 9
    · rcases gty_sp k h1 h9 with rfl | rfl | rfl | rfl | rfl | rfl | h0
      · exact absurd rfl h21
      · rfl
      · exact absurd rfl h23
      · exact absurd rfl h24
      · rw [gC_25, gC_25, had 26 (by omega), had 27 (by omega)]
      · rw [gC_28, gC_28]
        unfold gOp
        rw [had 29 (by omega), had 30 (by omega)]
        rfl
      · omega
    · rw [gC_a (gk_s h1) h9, gC_a (gk_s h1) h9]
      congr 4
      funext j
      rw [lyS_c (gcp_l k (by omega))]
  · rcases Nat.lt_or_ge k 75 with h2 | h2
    · obtain ⟨o, j, ho, hj, rfl⟩ : ∃ o j : Nat, o < 6 ∧ j < 7 ∧ k = 33 + j + 7 * o := ⟨(k - 33) / 7, (k - 33) % 7, by omega, by omega, by omega⟩
      by_cases h9 : gty (33 + j) = 9
      · have hj0 : j = 0 := (by decide +kernel : ∀ j, j < 7 → gty (33 + j) = 9 → j = 0) j hj h9
        subst hj0
        rw [show 33 + 0 + 7 * o = 33 + 7 * o by omega, gC_t _ _ _ ho, gC_t _ _ _ ho]
        unfold gOt
        rw [had (34 + 7 * o) (by omega), had (35 + 7 * o) (by omega), had (36 + 7 * o) (by omega), had (37 + 7 * o) (by omega), had (38 + 7 * o) (by omega), had (39 + 7 * o) (by omega)]
        rfl
      · rw [gC_a (gk_t ho hj) h9, gC_a (gk_t ho hj) h9]
        congr 4
        funext i
        rw [lyS_c (gcp_l _ (by omega))]
    · obtain ⟨o, j, hj, rfl⟩ : ∃ o j : Nat, j < 3 ∧ k = 75 + j + 3 * o := ⟨(k - 75) / 3, (k - 75) % 3, by omega, by omega⟩
      have ho : o < q := by omega
      by_cases h9 : gty (40 + j) = 9
      · have hj0 : j = 0 := (by decide +kernel : ∀ j, j < 3 → gty (40 + j) = 9 → j = 0) j hj h9
        subst hj0
        rw [show 75 + 0 + 3 * o = 75 + 3 * o by omega, gC_l, gC_l]
        unfold gOl
        rw [had (76 + 3 * o) (by omega), had (77 + 3 * o) (by omega)]
        have e : ∀ c : Nat, c ≠ 33 → lyS st q a b c o 0 = st c o 0 := fun c hc => lyS_o hc (by omega)
        rw [e 60 (by decide), e 61 (by decide), e 64 (by decide), e 65 (by decide), e 66 (by decide)]
        have g1 : gref ad' 75 3 (st 65 o 0) = gref ad 75 3 (st 65 o 0) := by
          unfold gref
          split
          · rfl
          · have := hnx o ho
            rw [had _ (by omega)]
        have g2 : gref ad' 33 7 (st 66 o 0) = gref ad 33 7 (st 66 o 0) := by
          unfold gref
          split
          · rfl
          · have := h66 o
            rw [had _ (by omega)]
        rw [g1, g2]
      · rw [gC_a (gk_l hj) h9, gC_a (gk_l hj) h9]
        congr 4
        funext i
        rw [lyS_o ((by decide +kernel : ∀ j, j < 3 → gty (40 + j) ≠ 9 → gcp (40 + j) ≠ 33) j hj h9) (by omega)]
theorem arrV_ext (cA : ClassId) (n : Nat) {f g : Nat → Value} (h : ∀ j, j < n → f j = g j) : arrV cA n f = arrV cA n g := by
  unfold arrV
  congr 1
  have e : (fun j : Fin n => f j.val) = fun j => g j.val := funext fun j => h j.val j.isLt
  rw [e]
theorem gw_3 {n : Nat} {ad : Nat → Nat} {ct : Nat → va_E} (h19 : 19 ≤ n) : gw (n + 3) ad ct = gw n ad ct ++ [(ad n, ct n), (ad (n + 1), ct (n + 1)), (ad (n + 2), ct (n + 2))] := by
  unfold gw
  rw [show n + 3 - 19 = n - 19 + 1 + 1 + 1 by omega, List.range_succ, List.range_succ, List.range_succ]
  simp [Nat.sub_add_cancel h19, show n - 19 + 1 + 19 = n + 1 by omega, show n - 19 + 1 + 1 + 19 = n + 2 by omega]
theorem gw_cg {n : Nat} {ad ad' : Nat → Nat} {ct ct' : Nat → va_E} (ha : ∀ k, k < n → ad' k = ad k) (hc : ∀ k, k < n → ct' k = ct k) : gw n ad' ct' = gw n ad ct := by
  unfold gw
  refine List.map_congr_left (fun k hk => ?_)
  have := List.mem_range.mp hk
  rw [ha (k + 19) (by omega), hc (k + 19) (by omega)]
def lyA (n : Nat) (ad : Nat → Nat) (h w0 w1 : Nat) : Nat → Nat := fun k => if k < n then ad k else if k = n then h else if k = n + 1 then w0 else w1
theorem lyA_lt {n : Nat} {ad : Nat → Nat} {h w0 w1 k : Nat} (hk : k < n) : lyA n ad h w0 w1 k = ad k := by unfold lyA; rw [if_pos hk]
def lyT (cy : Nat → ClassId) (q : Nat) (a b : Int) (h w0 w1 : Nat) : va_W := [(h, .inr (0, [.int (iI (q : Int)), .int (iI a), .int (iI b), .ref w0, .ref w1, .int (iI 0), .null, .null])), (w0, .inl (cy 0, 32, .inl (fun _ => iI 0))), (w1, .inl (cy 0, 8, .inl (fun _ => iI 0)))]
def lyE (st : St) (ad : Nat → Nat) (cy : Nat → ClassId) (q h : Nat) : Nat → va_E := fun k => if k = 21 then .inr (5, (gOx st ad).set 5 (.int (iI ((q : Int) + 1)))) else if k = 24 then .inl (cy 2, 6, .inr (.inr (.inr (.inr (va_up (fun j => if (j : Int) < st 33 0 0 then some (ad (75 + 3 * j)) else none) q (some h)))))) else gC st ad cy k
theorem ly_P {D : va_G} {cy : Nat → ClassId} {n q h w0 w1 : Nat} {st : St} {a b : Int} {ad : Nat → Nat} {A : Nat → Prop} {H : Heap} (hn : n = 75 + 3 * q) (hq : st 33 0 0 = (q : Int)) (hnx : ∀ o : Nat, o < q → st 65 o 0 < (q : Int)) (h66 : ∀ (o : Nat), st 66 o 0 ≤ 5)
    (hP : va_P D vwCl (gw n ad (lyE st ad cy q h) ++ lyT cy q a b h w0 w1) H) (hD : va_D A (gw n ad (lyE st ad cy q h) ++ lyT cy q a b h w0 w1)) : va_P D vwCl (gw (n + 3) (lyA n ad h w0 w1) (gC (lyS st q a b) (lyA n ad h w0 w1) cy)) H ∧ va_D A (gw (n + 3) (lyA n ad h w0 w1) (gC (lyS st q a b) (lyA n ad h w0 w1) cy)) := by
  obtain ⟨ad', had'⟩ : ∃ z, z = lyA n ad h w0 w1 := ⟨_, rfl⟩
  have had : ∀ j, j < n → ad' j = ad j := fun j hj => by rw [had']; exact lyA_lt hj
  have a0 : ad' n = h := by rw [had']; unfold lyA; rw [if_neg (by omega), if_pos rfl]
  have a1 : ad' (n + 1) = w0 := by rw [had']; unfold lyA; rw [if_neg (by omega), if_neg (by omega), if_pos rfl]
  have a2 : ad' (n + 2) = w1 := by rw [had']; unfold lyA; rw [if_neg (by omega), if_neg (by omega), if_neg (by omega)]
  rw [← had']
  have e0 : gC (lyS st q a b) ad' cy n = .inr (0, [.int (iI (q : Int)), .int (iI a), .int (iI b), .ref w0, .ref w1, .int (iI 0), .null, .null]) := by
    rw [hn, gC_l]
    unfold gOl
    rw [show 76 + 3 * q = n + 1 by omega, show 77 + 3 * q = n + 2 by omega, a1, a2]
    have r1 : lyS st q a b 65 q 0 = -1 := by unfold lyS; simp
    have r2 : lyS st q a b 66 q 0 = -1 := by unfold lyS; simp
    have r3 : lyS st q a b 60 q 0 = a := by unfold lyS; simp
    have r4 : lyS st q a b 61 q 0 = b := by unfold lyS; simp
    have r5 : lyS st q a b 64 q 0 = 0 := by unfold lyS; simp
    rw [r1, r2, r3, r4, r5]
    rfl
  have e1 : gC (lyS st q a b) ad' cy (n + 1) = .inl (cy 0, 32, .inl (fun _ => iI 0)) := by
    rw [show n + 1 = 75 + 1 + 3 * q by omega, gC_a (gk_l (by decide)) (by decide)]
    show _ = Sum.inl (cy 0, 32, Sum.inl _)
    congr 4
    funext j
    have : lyS st q a b 62 q (j : Int) = 0 := by unfold lyS; simp
    exact congrArg iI this
  have e2 : gC (lyS st q a b) ad' cy (n + 2) = .inl (cy 0, 8, .inl (fun _ => iI 0)) := by
    rw [show n + 2 = 75 + 2 + 3 * q by omega, gC_a (gk_l (by decide)) (by decide)]
    show _ = Sum.inl (cy 0, 8, Sum.inl _)
    congr 4
    funext j
    have : lyS st q a b 63 q (j : Int) = 0 := by unfold lyS; simp
    exact congrArg iI this
  have eL : gw n ad (lyE st ad cy q h) ++ lyT cy q a b h w0 w1 = gw (n + 3) ad' (fun k => if k < n then lyE st ad cy q h k else gC (lyS st q a b) ad' cy k) := by
    rw [gw_3 (by omega), gw_cg (ad := ad) (ct := lyE st ad cy q h) had (fun k hk => if_pos hk)]
    congr 1
    rw [if_neg (by omega), if_neg (by omega), if_neg (by omega), e0, e1, e2, a0, a1, a2]
    rfl
  rw [eL] at hP hD
  refine ⟨?_, gw_D hD⟩
  intro k x hx
  obtain ⟨k, hk, rfl, rfl⟩ := gw_in hx
  have hat := hP _ _ (gw_at hk)
  by_cases hkn : k < n
  · rw [if_pos hkn] at hat
    unfold lyE at hat
    by_cases h21 : k = 21
    · subst h21
      rw [if_pos rfl] at hat
      rw [gC_21]
      unfold gOx
      rw [had 22 (by omega), had 23 (by omega), had 24 (by omega), had 25 (by omega), had 28 (by omega), lyS_33, hq]
      exact hat
    · rw [if_neg h21] at hat
      by_cases h24 : k = 24
      · subst h24
        rw [if_pos rfl] at hat
        rw [gC_24, lyS_33, hq]
        have ef : (fun j : Nat => if (j : Int) < (q : Int) + 1 then some (ad' (75 + 3 * j)) else none) = va_up (fun j => if (j : Int) < st 33 0 0 then some (ad (75 + 3 * j)) else none) q (some h) := by
          funext j
          unfold va_up
          by_cases hj : j = q
          · subst hj
            rw [if_pos rfl, if_pos (by omega), ← hn, a0]
          · rw [if_neg hj, hq]
            dsimp only
            by_cases hjq : (j : Int) < (q : Int)
            · rw [if_pos (by omega), if_pos hjq, had _ (by omega)]
            · rw [if_neg (by omega), if_neg hjq]
        rw [ef]
        exact hat
      · rw [if_neg h24] at hat
        by_cases h23 : k = 23
        · subst h23
          rw [gC_23] at hat ⊢
          show H[ad' 23]? = some (vp_cell _ _)
          have hat : H[ad' 23]? = some (vp_cell _ _) := hat
          rw [hat, vp_cell_q, vp_cell_q, arrV_ext _ _ (fun j hj => by show va_rf (some (ad (33 + 7 * j))) = va_rf (some (ad' (33 + 7 * j))); rw [had _ (by omega)])]
        · rw [gC_ly hn had hnx h66 ⟨hk.1, hkn⟩ h21 h23 h24]
          exact hat
  · rw [if_neg hkn] at hat
    exact hat
