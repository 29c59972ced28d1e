/-! ===== ranges of all components ===== -/
def gcs : List Nat := [0, 1, 2, 3, 4, 5, 6, 7, 8, 9, 10, 11, 12, 13, 14, 15, 16, 17, 18, 19, 20, 21, 22, 23, 24, 30, 31, 32, 33, 34, 35, 36, 37, 38, 40, 41, 42, 43, 44, 45, 46, 47, 48, 49, 50, 60, 61, 62, 63, 64, 65, 66]
def glo : Nat → Int := fun c => match c with
  | 3 => 1
  | 9 => 1
  | 10 => 1
  | 11 => -3
  | 13 => 1
  | 17 => -255
  | 19 => -1
  | 20 => -1
  | 32 => 1
  | 38 => -1
  | 45 => -3
  | 46 => 1
  | 47 => 1
  | 49 => 1
  | 60 => 1
  | 61 => 1
  | 62 => -255
  | 65 => -1
  | 66 => -1
  | _ => 0
def ghi (W : Int) : Nat → Int := fun c => match c with
  | 0 => 3
  | 1 => 1000000
  | 2 => 1000
  | 3 => 100000
  | 4 => 15
  | 5 => W
  | 6 => 1000000
  | 9 => 16
  | 10 => 127
  | 11 => 3
  | 13 => 16
  | 14 => 6
  | 15 => 8
  | 16 => 4
  | 17 => 255
  | 18 => 20
  | 19 => 5
  | 20 => 5
  | 21 => 7
  | 22 => 16
  | 23 => 1000
  | 24 => 2000000
  | 30 => 1000000
  | 31 => 1000
  | 32 => 100000
  | 33 => 6
  | 34 => 16
  | 35 => 1000
  | 36 => 6
  | 37 => 128
  | 38 => 128
  | 40 => 15
  | 41 => W
  | 42 => 1000000
  | 45 => 3
  | 46 => 16
  | 47 => 127
  | 49 => 16
  | 60 => 8
  | 61 => 4
  | 62 => 255
  | 63 => 7
  | 64 => 20
  | 65 => 5
  | 66 => 5
  | _ => 1
def GI (W : Int) (st : St) : Prop := ∀ c ∈ gcs, ∀ (o : Nat) (i : Int), glo c ≤ st c o i ∧ st c o i ≤ ghi W c
theorem GI_u {W : Int} {st : St} (h : GI W st) {c o : Nat} {i v : Int} (hv : glo c ≤ v ∧ v ≤ ghi W c) : GI W (ust st c o i v) := by
  intro c' hc o' i'
  by_cases h1 : c' = c
  · subst h1
    by_cases h2 : o' = o
    · subst h2
      rw [ust_if]
      by_cases h3 : i' = i
      · rw [if_pos h3]; exact hv
      · rw [if_neg h3]; exact h c' hc o' i'
    · rw [ust_o h2]; exact h c' hc o' i'
  · rw [ust_c h1]; exact h c' hc o' i'
theorem ghi_mono {W W' : Int} (h : W ≤ W') (c : Nat) : ghi W c ≤ ghi W' c := by
  unfold ghi
  split <;> first | exact Int.le_refl _ | exact h
theorem GI_mono {W W' : Int} {st : St} (h : W ≤ W') (hI : GI W st) : GI W' st := fun c hc o i => ⟨(hI c hc o i).1, Int.le_trans (hI c hc o i).2 (ghi_mono h c)⟩
theorem gI_0 {W : Int} {st : St} (h : GI W st) (o : Nat) (i : Int) : 0 ≤ st 0 o i ∧ st 0 o i ≤ 3 := h 0 (by decide) o i
theorem gIu_0 {W : Int} {st : St} (h : GI W st) (o : Nat) (i : Int) {v : Int} (hv : 0 ≤ v ∧ v ≤ 3) : GI W (ust st 0 o i v) := GI_u h hv
theorem gI_1 {W : Int} {st : St} (h : GI W st) (o : Nat) (i : Int) : 0 ≤ st 1 o i ∧ st 1 o i ≤ 1000000 := h 1 (by decide) o i
theorem gIu_1 {W : Int} {st : St} (h : GI W st) (o : Nat) (i : Int) {v : Int} (hv : 0 ≤ v ∧ v ≤ 1000000) : GI W (ust st 1 o i v) := GI_u h hv
theorem gI_2 {W : Int} {st : St} (h : GI W st) (o : Nat) (i : Int) : 0 ≤ st 2 o i ∧ st 2 o i ≤ 1000 := h 2 (by decide) o i
theorem gIu_2 {W : Int} {st : St} (h : GI W st) (o : Nat) (i : Int) {v : Int} (hv : 0 ≤ v ∧ v ≤ 1000) : GI W (ust st 2 o i v) := GI_u h hv
theorem gI_3 {W : Int} {st : St} (h : GI W st) (o : Nat) (i : Int) : 1 ≤ st 3 o i ∧ st 3 o i ≤ 100000 := h 3 (by decide) o i
theorem gIu_3 {W : Int} {st : St} (h : GI W st) (o : Nat) (i : Int) {v : Int} (hv : 1 ≤ v ∧ v ≤ 100000) : GI W (ust st 3 o i v) := GI_u h hv
theorem gI_4 {W : Int} {st : St} (h : GI W st) (o : Nat) (i : Int) : 0 ≤ st 4 o i ∧ st 4 o i ≤ 15 := h 4 (by decide) o i
theorem gIu_4 {W : Int} {st : St} (h : GI W st) (o : Nat) (i : Int) {v : Int} (hv : 0 ≤ v ∧ v ≤ 15) : GI W (ust st 4 o i v) := GI_u h hv
theorem gI_5 {W : Int} {st : St} (h : GI W st) (o : Nat) (i : Int) : 0 ≤ st 5 o i ∧ st 5 o i ≤ W := h 5 (by decide) o i
theorem gIu_5 {W : Int} {st : St} (h : GI W st) (o : Nat) (i : Int) {v : Int} (hv : 0 ≤ v ∧ v ≤ W) : GI W (ust st 5 o i v) := GI_u h hv
theorem gI_6 {W : Int} {st : St} (h : GI W st) (o : Nat) (i : Int) : 0 ≤ st 6 o i ∧ st 6 o i ≤ 1000000 := h 6 (by decide) o i
theorem gIu_6 {W : Int} {st : St} (h : GI W st) (o : Nat) (i : Int) {v : Int} (hv : 0 ≤ v ∧ v ≤ 1000000) : GI W (ust st 6 o i v) := GI_u h hv
theorem gI_7 {W : Int} {st : St} (h : GI W st) (o : Nat) (i : Int) : 0 ≤ st 7 o i ∧ st 7 o i ≤ 1 := h 7 (by decide) o i
theorem gIu_7 {W : Int} {st : St} (h : GI W st) (o : Nat) (i : Int) {v : Int} (hv : 0 ≤ v ∧ v ≤ 1) : GI W (ust st 7 o i v) := GI_u h hv
theorem gI_8 {W : Int} {st : St} (h : GI W st) (o : Nat) (i : Int) : 0 ≤ st 8 o i ∧ st 8 o i ≤ 1 := h 8 (by decide) o i
theorem gIu_8 {W : Int} {st : St} (h : GI W st) (o : Nat) (i : Int) {v : Int} (hv : 0 ≤ v ∧ v ≤ 1) : GI W (ust st 8 o i v) := GI_u h hv
theorem gI_9 {W : Int} {st : St} (h : GI W st) (o : Nat) (i : Int) : 1 ≤ st 9 o i ∧ st 9 o i ≤ 16 := h 9 (by decide) o i
theorem gIu_9 {W : Int} {st : St} (h : GI W st) (o : Nat) (i : Int) {v : Int} (hv : 1 ≤ v ∧ v ≤ 16) : GI W (ust st 9 o i v) := GI_u h hv
theorem gI_10 {W : Int} {st : St} (h : GI W st) (o : Nat) (i : Int) : 1 ≤ st 10 o i ∧ st 10 o i ≤ 127 := h 10 (by decide) o i
theorem gIu_10 {W : Int} {st : St} (h : GI W st) (o : Nat) (i : Int) {v : Int} (hv : 1 ≤ v ∧ v ≤ 127) : GI W (ust st 10 o i v) := GI_u h hv
theorem gI_11 {W : Int} {st : St} (h : GI W st) (o : Nat) (i : Int) : -3 ≤ st 11 o i ∧ st 11 o i ≤ 3 := h 11 (by decide) o i
theorem gIu_11 {W : Int} {st : St} (h : GI W st) (o : Nat) (i : Int) {v : Int} (hv : -3 ≤ v ∧ v ≤ 3) : GI W (ust st 11 o i v) := GI_u h hv
theorem gI_12 {W : Int} {st : St} (h : GI W st) (o : Nat) (i : Int) : 0 ≤ st 12 o i ∧ st 12 o i ≤ 1 := h 12 (by decide) o i
theorem gIu_12 {W : Int} {st : St} (h : GI W st) (o : Nat) (i : Int) {v : Int} (hv : 0 ≤ v ∧ v ≤ 1) : GI W (ust st 12 o i v) := GI_u h hv
theorem gI_13 {W : Int} {st : St} (h : GI W st) (o : Nat) (i : Int) : 1 ≤ st 13 o i ∧ st 13 o i ≤ 16 := h 13 (by decide) o i
theorem gIu_13 {W : Int} {st : St} (h : GI W st) (o : Nat) (i : Int) {v : Int} (hv : 1 ≤ v ∧ v ≤ 16) : GI W (ust st 13 o i v) := GI_u h hv
theorem gI_14 {W : Int} {st : St} (h : GI W st) (o : Nat) (i : Int) : 0 ≤ st 14 o i ∧ st 14 o i ≤ 6 := h 14 (by decide) o i
theorem gIu_14 {W : Int} {st : St} (h : GI W st) (o : Nat) (i : Int) {v : Int} (hv : 0 ≤ v ∧ v ≤ 6) : GI W (ust st 14 o i v) := GI_u h hv
theorem gI_15 {W : Int} {st : St} (h : GI W st) (o : Nat) (i : Int) : 0 ≤ st 15 o i ∧ st 15 o i ≤ 8 := h 15 (by decide) o i
theorem gIu_15 {W : Int} {st : St} (h : GI W st) (o : Nat) (i : Int) {v : Int} (hv : 0 ≤ v ∧ v ≤ 8) : GI W (ust st 15 o i v) := GI_u h hv
theorem gI_16 {W : Int} {st : St} (h : GI W st) (o : Nat) (i : Int) : 0 ≤ st 16 o i ∧ st 16 o i ≤ 4 := h 16 (by decide) o i
theorem gIu_16 {W : Int} {st : St} (h : GI W st) (o : Nat) (i : Int) {v : Int} (hv : 0 ≤ v ∧ v ≤ 4) : GI W (ust st 16 o i v) := GI_u h hv
theorem gI_17 {W : Int} {st : St} (h : GI W st) (o : Nat) (i : Int) : -255 ≤ st 17 o i ∧ st 17 o i ≤ 255 := h 17 (by decide) o i
theorem gIu_17 {W : Int} {st : St} (h : GI W st) (o : Nat) (i : Int) {v : Int} (hv : -255 ≤ v ∧ v ≤ 255) : GI W (ust st 17 o i v) := GI_u h hv
theorem gI_18 {W : Int} {st : St} (h : GI W st) (o : Nat) (i : Int) : 0 ≤ st 18 o i ∧ st 18 o i ≤ 20 := h 18 (by decide) o i
theorem gIu_18 {W : Int} {st : St} (h : GI W st) (o : Nat) (i : Int) {v : Int} (hv : 0 ≤ v ∧ v ≤ 20) : GI W (ust st 18 o i v) := GI_u h hv
theorem gI_19 {W : Int} {st : St} (h : GI W st) (o : Nat) (i : Int) : -1 ≤ st 19 o i ∧ st 19 o i ≤ 5 := h 19 (by decide) o i
theorem gIu_19 {W : Int} {st : St} (h : GI W st) (o : Nat) (i : Int) {v : Int} (hv : -1 ≤ v ∧ v ≤ 5) : GI W (ust st 19 o i v) := GI_u h hv
theorem gI_20 {W : Int} {st : St} (h : GI W st) (o : Nat) (i : Int) : -1 ≤ st 20 o i ∧ st 20 o i ≤ 5 := h 20 (by decide) o i
theorem gIu_20 {W : Int} {st : St} (h : GI W st) (o : Nat) (i : Int) {v : Int} (hv : -1 ≤ v ∧ v ≤ 5) : GI W (ust st 20 o i v) := GI_u h hv
theorem gI_21 {W : Int} {st : St} (h : GI W st) (o : Nat) (i : Int) : 0 ≤ st 21 o i ∧ st 21 o i ≤ 7 := h 21 (by decide) o i
theorem gIu_21 {W : Int} {st : St} (h : GI W st) (o : Nat) (i : Int) {v : Int} (hv : 0 ≤ v ∧ v ≤ 7) : GI W (ust st 21 o i v) := GI_u h hv
theorem gI_22 {W : Int} {st : St} (h : GI W st) (o : Nat) (i : Int) : 0 ≤ st 22 o i ∧ st 22 o i ≤ 16 := h 22 (by decide) o i
theorem gIu_22 {W : Int} {st : St} (h : GI W st) (o : Nat) (i : Int) {v : Int} (hv : 0 ≤ v ∧ v ≤ 16) : GI W (ust st 22 o i v) := GI_u h hv
theorem gI_23 {W : Int} {st : St} (h : GI W st) (o : Nat) (i : Int) : 0 ≤ st 23 o i ∧ st 23 o i ≤ 1000 := h 23 (by decide) o i
theorem gIu_23 {W : Int} {st : St} (h : GI W st) (o : Nat) (i : Int) {v : Int} (hv : 0 ≤ v ∧ v ≤ 1000) : GI W (ust st 23 o i v) := GI_u h hv
theorem gI_24 {W : Int} {st : St} (h : GI W st) (o : Nat) (i : Int) : 0 ≤ st 24 o i ∧ st 24 o i ≤ 2000000 := h 24 (by decide) o i
theorem gIu_24 {W : Int} {st : St} (h : GI W st) (o : Nat) (i : Int) {v : Int} (hv : 0 ≤ v ∧ v ≤ 2000000) : GI W (ust st 24 o i v) := GI_u h hv
theorem gI_30 {W : Int} {st : St} (h : GI W st) (o : Nat) (i : Int) : 0 ≤ st 30 o i ∧ st 30 o i ≤ 1000000 := h 30 (by decide) o i
theorem gIu_30 {W : Int} {st : St} (h : GI W st) (o : Nat) (i : Int) {v : Int} (hv : 0 ≤ v ∧ v ≤ 1000000) : GI W (ust st 30 o i v) := GI_u h hv
theorem gI_31 {W : Int} {st : St} (h : GI W st) (o : Nat) (i : Int) : 0 ≤ st 31 o i ∧ st 31 o i ≤ 1000 := h 31 (by decide) o i
theorem gIu_31 {W : Int} {st : St} (h : GI W st) (o : Nat) (i : Int) {v : Int} (hv : 0 ≤ v ∧ v ≤ 1000) : GI W (ust st 31 o i v) := GI_u h hv
theorem gI_32 {W : Int} {st : St} (h : GI W st) (o : Nat) (i : Int) : 1 ≤ st 32 o i ∧ st 32 o i ≤ 100000 := h 32 (by decide) o i
theorem gIu_32 {W : Int} {st : St} (h : GI W st) (o : Nat) (i : Int) {v : Int} (hv : 1 ≤ v ∧ v ≤ 100000) : GI W (ust st 32 o i v) := GI_u h hv
theorem gI_33 {W : Int} {st : St} (h : GI W st) (o : Nat) (i : Int) : 0 ≤ st 33 o i ∧ st 33 o i ≤ 6 := h 33 (by decide) o i
theorem gIu_33 {W : Int} {st : St} (h : GI W st) (o : Nat) (i : Int) {v : Int} (hv : 0 ≤ v ∧ v ≤ 6) : GI W (ust st 33 o i v) := GI_u h hv
theorem gI_34 {W : Int} {st : St} (h : GI W st) (o : Nat) (i : Int) : 0 ≤ st 34 o i ∧ st 34 o i ≤ 16 := h 34 (by decide) o i
theorem gIu_34 {W : Int} {st : St} (h : GI W st) (o : Nat) (i : Int) {v : Int} (hv : 0 ≤ v ∧ v ≤ 16) : GI W (ust st 34 o i v) := GI_u h hv
theorem gI_35 {W : Int} {st : St} (h : GI W st) (o : Nat) (i : Int) : 0 ≤ st 35 o i ∧ st 35 o i ≤ 1000 := h 35 (by decide) o i
theorem gIu_35 {W : Int} {st : St} (h : GI W st) (o : Nat) (i : Int) {v : Int} (hv : 0 ≤ v ∧ v ≤ 1000) : GI W (ust st 35 o i v) := GI_u h hv
theorem gI_36 {W : Int} {st : St} (h : GI W st) (o : Nat) (i : Int) : 0 ≤ st 36 o i ∧ st 36 o i ≤ 6 := h 36 (by decide) o i
theorem gIu_36 {W : Int} {st : St} (h : GI W st) (o : Nat) (i : Int) {v : Int} (hv : 0 ≤ v ∧ v ≤ 6) : GI W (ust st 36 o i v) := GI_u h hv
theorem gI_37 {W : Int} {st : St} (h : GI W st) (o : Nat) (i : Int) : 0 ≤ st 37 o i ∧ st 37 o i ≤ 128 := h 37 (by decide) o i
theorem gIu_37 {W : Int} {st : St} (h : GI W st) (o : Nat) (i : Int) {v : Int} (hv : 0 ≤ v ∧ v ≤ 128) : GI W (ust st 37 o i v) := GI_u h hv
theorem gI_38 {W : Int} {st : St} (h : GI W st) (o : Nat) (i : Int) : -1 ≤ st 38 o i ∧ st 38 o i ≤ 128 := h 38 (by decide) o i
theorem gIu_38 {W : Int} {st : St} (h : GI W st) (o : Nat) (i : Int) {v : Int} (hv : -1 ≤ v ∧ v ≤ 128) : GI W (ust st 38 o i v) := GI_u h hv
theorem gI_40 {W : Int} {st : St} (h : GI W st) (o : Nat) (i : Int) : 0 ≤ st 40 o i ∧ st 40 o i ≤ 15 := h 40 (by decide) o i
theorem gIu_40 {W : Int} {st : St} (h : GI W st) (o : Nat) (i : Int) {v : Int} (hv : 0 ≤ v ∧ v ≤ 15) : GI W (ust st 40 o i v) := GI_u h hv
theorem gI_41 {W : Int} {st : St} (h : GI W st) (o : Nat) (i : Int) : 0 ≤ st 41 o i ∧ st 41 o i ≤ W := h 41 (by decide) o i
theorem gIu_41 {W : Int} {st : St} (h : GI W st) (o : Nat) (i : Int) {v : Int} (hv : 0 ≤ v ∧ v ≤ W) : GI W (ust st 41 o i v) := GI_u h hv
theorem gI_42 {W : Int} {st : St} (h : GI W st) (o : Nat) (i : Int) : 0 ≤ st 42 o i ∧ st 42 o i ≤ 1000000 := h 42 (by decide) o i
theorem gIu_42 {W : Int} {st : St} (h : GI W st) (o : Nat) (i : Int) {v : Int} (hv : 0 ≤ v ∧ v ≤ 1000000) : GI W (ust st 42 o i v) := GI_u h hv
theorem gI_43 {W : Int} {st : St} (h : GI W st) (o : Nat) (i : Int) : 0 ≤ st 43 o i ∧ st 43 o i ≤ 1 := h 43 (by decide) o i
theorem gIu_43 {W : Int} {st : St} (h : GI W st) (o : Nat) (i : Int) {v : Int} (hv : 0 ≤ v ∧ v ≤ 1) : GI W (ust st 43 o i v) := GI_u h hv
theorem gI_44 {W : Int} {st : St} (h : GI W st) (o : Nat) (i : Int) : 0 ≤ st 44 o i ∧ st 44 o i ≤ 1 := h 44 (by decide) o i
theorem gIu_44 {W : Int} {st : St} (h : GI W st) (o : Nat) (i : Int) {v : Int} (hv : 0 ≤ v ∧ v ≤ 1) : GI W (ust st 44 o i v) := GI_u h hv
theorem gI_45 {W : Int} {st : St} (h : GI W st) (o : Nat) (i : Int) : -3 ≤ st 45 o i ∧ st 45 o i ≤ 3 := h 45 (by decide) o i
theorem gIu_45 {W : Int} {st : St} (h : GI W st) (o : Nat) (i : Int) {v : Int} (hv : -3 ≤ v ∧ v ≤ 3) : GI W (ust st 45 o i v) := GI_u h hv
theorem gI_46 {W : Int} {st : St} (h : GI W st) (o : Nat) (i : Int) : 1 ≤ st 46 o i ∧ st 46 o i ≤ 16 := h 46 (by decide) o i
theorem gIu_46 {W : Int} {st : St} (h : GI W st) (o : Nat) (i : Int) {v : Int} (hv : 1 ≤ v ∧ v ≤ 16) : GI W (ust st 46 o i v) := GI_u h hv
theorem gI_47 {W : Int} {st : St} (h : GI W st) (o : Nat) (i : Int) : 1 ≤ st 47 o i ∧ st 47 o i ≤ 127 := h 47 (by decide) o i
theorem gIu_47 {W : Int} {st : St} (h : GI W st) (o : Nat) (i : Int) {v : Int} (hv : 1 ≤ v ∧ v ≤ 127) : GI W (ust st 47 o i v) := GI_u h hv
theorem gI_48 {W : Int} {st : St} (h : GI W st) (o : Nat) (i : Int) : 0 ≤ st 48 o i ∧ st 48 o i ≤ 1 := h 48 (by decide) o i
theorem gIu_48 {W : Int} {st : St} (h : GI W st) (o : Nat) (i : Int) {v : Int} (hv : 0 ≤ v ∧ v ≤ 1) : GI W (ust st 48 o i v) := GI_u h hv
theorem gI_49 {W : Int} {st : St} (h : GI W st) (o : Nat) (i : Int) : 1 ≤ st 49 o i ∧ st 49 o i ≤ 16 := h 49 (by decide) o i
theorem gIu_49 {W : Int} {st : St} (h : GI W st) (o : Nat) (i : Int) {v : Int} (hv : 1 ≤ v ∧ v ≤ 16) : GI W (ust st 49 o i v) := GI_u h hv
theorem gI_50 {W : Int} {st : St} (h : GI W st) (o : Nat) (i : Int) : 0 ≤ st 50 o i ∧ st 50 o i ≤ 1 := h 50 (by decide) o i
theorem gIu_50 {W : Int} {st : St} (h : GI W st) (o : Nat) (i : Int) {v : Int} (hv : 0 ≤ v ∧ v ≤ 1) : GI W (ust st 50 o i v) := GI_u h hv
theorem gI_60 {W : Int} {st : St} (h : GI W st) (o : Nat) (i : Int) : 1 ≤ st 60 o i ∧ st 60 o i ≤ 8 := h 60 (by decide) o i
theorem gIu_60 {W : Int} {st : St} (h : GI W st) (o : Nat) (i : Int) {v : Int} (hv : 1 ≤ v ∧ v ≤ 8) : GI W (ust st 60 o i v) := GI_u h hv
theorem gI_61 {W : Int} {st : St} (h : GI W st) (o : Nat) (i : Int) : 1 ≤ st 61 o i ∧ st 61 o i ≤ 4 := h 61 (by decide) o i
theorem gIu_61 {W : Int} {st : St} (h : GI W st) (o : Nat) (i : Int) {v : Int} (hv : 1 ≤ v ∧ v ≤ 4) : GI W (ust st 61 o i v) := GI_u h hv
theorem gI_62 {W : Int} {st : St} (h : GI W st) (o : Nat) (i : Int) : -255 ≤ st 62 o i ∧ st 62 o i ≤ 255 := h 62 (by decide) o i
theorem gIu_62 {W : Int} {st : St} (h : GI W st) (o : Nat) (i : Int) {v : Int} (hv : -255 ≤ v ∧ v ≤ 255) : GI W (ust st 62 o i v) := GI_u h hv
theorem gI_63 {W : Int} {st : St} (h : GI W st) (o : Nat) (i : Int) : 0 ≤ st 63 o i ∧ st 63 o i ≤ 7 := h 63 (by decide) o i
theorem gIu_63 {W : Int} {st : St} (h : GI W st) (o : Nat) (i : Int) {v : Int} (hv : 0 ≤ v ∧ v ≤ 7) : GI W (ust st 63 o i v) := GI_u h hv
theorem gI_64 {W : Int} {st : St} (h : GI W st) (o : Nat) (i : Int) : 0 ≤ st 64 o i ∧ st 64 o i ≤ 20 := h 64 (by decide) o i
theorem gIu_64 {W : Int} {st : St} (h : GI W st) (o : Nat) (i : Int) {v : Int} (hv : 0 ≤ v ∧ v ≤ 20) : GI W (ust st 64 o i v) := GI_u h hv
theorem gI_65 {W : Int} {st : St} (h : GI W st) (o : Nat) (i : Int) : -1 ≤ st 65 o i ∧ st 65 o i ≤ 5 := h 65 (by decide) o i
theorem gIu_65 {W : Int} {st : St} (h : GI W st) (o : Nat) (i : Int) {v : Int} (hv : -1 ≤ v ∧ v ≤ 5) : GI W (ust st 65 o i v) := GI_u h hv
theorem gI_66 {W : Int} {st : St} (h : GI W st) (o : Nat) (i : Int) : -1 ≤ st 66 o i ∧ st 66 o i ≤ 5 := h 66 (by decide) o i
theorem gIu_66 {W : Int} {st : St} (h : GI W st) (o : Nat) (i : Int) {v : Int} (hv : -1 ≤ v ∧ v ≤ 5) : GI W (ust st 66 o i v) := GI_u h hv
theorem narZ {v : Int} (h : v = 0 ∨ v = 1) : narrow .boolean (.int (iI v)) = .int (iI v) := by
  rcases h with rfl | rfl <;> decide +kernel
theorem iI_max {x y : Int} (h : (-2147483648 ≤ x ∧ x < 2147483648) ∧ -2147483648 ≤ y ∧ y < 2147483648) : (if iI x < iI y then iI y else iI x) = iI (max x y) := by
  have q := iI_lt h.1.1 h.1.2 h.2.1 h.2.2
  by_cases hq : x < y
  · rw [if_pos (q.mpr hq)]; congr 1; omega
  · rw [if_neg (fun z => hq (q.mp z))]; congr 1; omega
theorem iI_min {x y : Int} (h : (-2147483648 ≤ x ∧ x < 2147483648) ∧ -2147483648 ≤ y ∧ y < 2147483648) : (if iI y < iI x then iI y else iI x) = iI (min x y) := by
  have q := iI_lt h.2.1 h.2.2 h.1.1 h.1.2
  by_cases hq : y < x
  · rw [if_pos (q.mpr hq)]; congr 1; omega
  · rw [if_neg (fun z => hq (q.mp z))]; congr 1; omega
