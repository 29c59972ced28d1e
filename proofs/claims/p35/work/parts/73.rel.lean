/-! ===== how the class's state and the model's belong together ===== -/
def RY (st : St) : Prop :=
  (st 33 0 0 = st 14 0 0 ∧ st 30 0 0 = st 1 0 0 ∧ st 31 0 0 = st 2 0 0 ∧ st 32 0 0 = st 3 0 0)
  ∧ (∀ q : Nat, (q : Int) < st 14 0 0 → st 60 q 0 = st 15 0 (q : Int) ∧ st 61 q 0 = st 16 0 (q : Int) ∧ st 64 q 0 = st 18 0 (q : Int) ∧ st 65 q 0 = st 19 0 (q : Int) ∧ st 66 q 0 = st 20 0 (q : Int))
  ∧ (∀ (q : Nat) (j : Int), (q : Int) < st 14 0 0 → 0 ≤ j ∧ j < 32 → st 62 q j = st 17 0 (32 * (q : Int) + j))
  ∧ (∀ (q : Nat) (j : Int), (q : Int) < st 14 0 0 → 0 ≤ j ∧ j < 8 → st 63 q j = st 21 0 (8 * (q : Int) + j))
  ∧ (∀ (t : Nat) (i : Int), t < 6 → 0 ≤ i ∧ i < 128 → st 40 t i = st 4 0 (128 * (t : Int) + i) ∧ st 41 t i = st 5 0 (128 * (t : Int) + i) ∧ st 42 t i = st 6 0 (128 * (t : Int) + i) ∧ st 43 t i = st 7 0 (128 * (t : Int) + i) ∧ st 44 t i = st 8 0 (128 * (t : Int) + i))
  ∧ (∀ t : Nat, t < 6 → st 46 t 0 = st 9 0 (t : Int) ∧ st 47 t 0 = st 10 0 (t : Int) ∧ st 48 t 0 = st 12 0 (t : Int) ∧ st 49 t 0 = st 13 0 (t : Int))
  ∧ (∀ (t : Nat) (i : Int), t < 6 → 0 ≤ i ∧ i < 16 → st 45 t i = st 11 0 (16 * (t : Int) + i))
  ∧ (∀ t : Nat, t < 6 → (st 50 t 0 = 1 ∧ ∃ q : Int, (0 ≤ q ∧ q < st 14 0 0) ∧ st 20 0 q = (t : Int)) ∨ (st 50 t 0 = 0 ∧ ∀ q : Int, 0 ≤ q ∧ q < st 14 0 0 → st 20 0 q ≠ (t : Int)))
  ∧ (∀ (o : Nat) (j : Int), st 42 o j ≤ st 30 0 0)
  ∧ (∀ j : Int, st 6 0 j ≤ st 1 0 0)
  ∧ (∀ q : Int, 0 ≤ q → q < st 14 0 0 → st 19 0 q = -1 ∨ (q < st 19 0 q ∧ st 19 0 q < st 14 0 0))
  ∧ (∀ q1 q2 : Int, (0 ≤ q1 ∧ q1 < st 14 0 0) → (0 ≤ q2 ∧ q2 < st 14 0 0) → st 20 0 q1 ≠ -1 → st 20 0 q1 = st 20 0 q2 → q1 = q2)
  ∧ (∀ q : Int, st 14 0 0 ≤ q ∧ q < 6 → (∀ j : Int, 0 ≤ j ∧ j < 32 → st 17 0 (32 * q + j) = 0) ∧ st 18 0 q = 0 ∧ ∀ j : Int, 0 ≤ j ∧ j < 8 → st 21 0 (8 * q + j) = 0)
/-- the class that was thrown is the one that the code tells -/
def xE (es : List String) (E : String) (k : Int) : Prop := ∃ j : Nat, es[j]? = some E ∧ k = (j : Int) + 1
theorem rf_n {ad : Nat → Nat} {b w : Nat} {z : Int} (h : z < 0) : va_rf (gref ad b w z) = .null := by
  unfold gref
  rw [if_pos h]
  rfl
theorem rf_t {ad : Nat → Nat} {b w t : Nat} {z : Int} (h : z = (t : Int)) : va_rf (gref ad b w z) = .ref (ad (b + w * t)) := by
  unfold gref
  rw [if_neg (by omega), h, Int.toNat_natCast]
  rfl
theorem gU_65n (st : St) (ad : Nat → Nat) (cy : Nat → ClassId) {o : Nat} (j : Nat) : gC (ust st 65 o 0 (-1)) ad cy j = if j = 75 + 3 * o then .inr (0, (gOl st ad o).set 6 .null) else gC st ad cy j := by
  rw [gU_65, rf_n (by decide)]
theorem gU_65r (st : St) (ad : Nat → Nat) (cy : Nat → ClassId) {o : Nat} (t j : Nat) : gC (ust st 65 o 0 ((t : Nat) : Int)) ad cy j = if j = 75 + 3 * o then .inr (0, (gOl st ad o).set 6 (.ref (ad (75 + 3 * t)))) else gC st ad cy j := by
  rw [gU_65, rf_t rfl]
theorem gU_66n (st : St) (ad : Nat → Nat) (cy : Nat → ClassId) {o : Nat} (j : Nat) : gC (ust st 66 o 0 (-1)) ad cy j = if j = 75 + 3 * o then .inr (0, (gOl st ad o).set 7 .null) else gC st ad cy j := by
  rw [gU_66, rf_n (by decide)]
theorem gU_66r (st : St) (ad : Nat → Nat) (cy : Nat → ClassId) {o : Nat} (t j : Nat) : gC (ust st 66 o 0 ((t : Nat) : Int)) ad cy j = if j = 75 + 3 * o then .inr (0, (gOl st ad o).set 7 (.ref (ad (33 + 7 * t)))) else gC st ad cy j := by
  rw [gU_66, rf_t rfl]
theorem bitP : ∀ v : Nat, v < 17 → (onesU v 8 = 1 ↔ v = 1 ∨ v = 2 ∨ v = 4 ∨ v = 8 ∨ v = 16) := by decide +kernel
/-! ===== one number under both ===== -/
theorem RY_con {st : St} (h : RY st) {t : Nat} {i : Int} (ht : t < 6) (hi : 0 ≤ i ∧ i < 128) : conC st t i = conM st (128 * (t : Int) + i) := by
  obtain ⟨⟨-, h1, h2, -⟩, -, -, -, hc, -⟩ := h
  obtain ⟨c0, c1, c2, c3, c4⟩ := hc t i ht hi
  unfold conC conM
  rw [h1, h2, c0, c2, c3]
theorem RY_need {st : St} (h : RY st) {q : Nat} {i d : Int} (hq : (q : Int) < st 14 0 0) (hi : 0 ≤ i ∧ i < 8) (hd : 0 ≤ d ∧ d < 16) : needC st q i d = needV (st 17 0 (32 * (q : Int) + 4 * i + d / 4)) (d % 4) := by
  unfold needC
  rw [h.2.2.1 q (4 * i + d / 4) hq (by omega), ← Int.add_assoc]
theorem RY_read {st : St} (h : RY st) {t : Nat} {d : Int} (ht : t < 6) (hd : 0 ≤ d ∧ d < 16) (cur : Int) : readC st t d cur = readV (st 9 0 (t : Int)) (st 10 0 (t : Int)) (st 12 0 (t : Int)) (st 11 0 (16 * (t : Int) + d)) cur := by
  obtain ⟨-, -, -, -, -, hr, ho, -⟩ := h
  obtain ⟨a, b, c, -⟩ := hr t ht
  unfold readC
  rw [a, b, c, ho t d ht hd]
theorem sumN_e {f g : Nat → Int} : ∀ n : Nat, (∀ k, k < n → f k = g k) → sumN f n = sumN g n
  | 0, _ => rfl
  | n + 1, h => by rw [sumN_s, sumN_s, sumN_e n (fun k hk => h k (by omega)), h n (by omega)]
theorem RY_ideal {st : St} (h : RY st) {q : Nat} {d : Int} (hq : (q : Int) < st 14 0 0) (hd : 0 ≤ d ∧ d < 4) (vec : Nat) {n : Nat} (hn : n ≤ 8) : idC st q d vec n = idU st (q : Int) d vec n := by
  unfold idC idU
  refine sumN_e n (fun k hk => ?_)
  rw [h.2.2.1 q (4 * (k : Int) + d) hq (by omega), ← Int.add_assoc]
theorem asr_b1 {vec b k : Nat} (hv : vec < 2 ^ 64) (hb : b < 8) (hk : k < 8) : asrN vec b / 2 ^ (8 * k) % 2 = vec / 2 ^ (b + 8 * k) % 2 := by
  have h := asr_tb (n := vec) (k := b) (j := 8 * k) hv (by omega) (by omega)
  rw [Nat.testBit_eq_decide_div_mod_eq, Nat.testBit_eq_decide_div_mod_eq] at h
  have a1 : asrN vec b / 2 ^ (8 * k) % 2 < 2 := Nat.mod_lt _ (by decide)
  have a2 : vec / 2 ^ (b + 8 * k) % 2 < 2 := Nat.mod_lt _ (by decide)
  by_cases h2 : vec / 2 ^ (b + 8 * k) % 2 = 1
  · rw [h2] at h ⊢
    exact of_decide_eq_true (by rw [h]; rfl)
  · rw [decide_eq_false h2] at h
    have h3 := of_decide_eq_false h
    omega
theorem asr_b2 (w : Nat) {b : Nat} (hb : b < 8) : w % 256 / 2 ^ b % 2 = w / 2 ^ b % 2 := by
  have e : 256 = 2 ^ b * 2 ^ (8 - b) := by
    rw [← Nat.pow_add, show b + (8 - b) = 8 by omega]
  rw [e, Nat.mod_mul_right_div_self, Nat.mod_mod_of_dvd]
  exact ⟨2 ^ (8 - b - 1), by rw [← Nat.pow_succ', show (8 - b - 1).succ = 8 - b by omega]⟩
theorem asr_bit {vec b k : Nat} (hv : vec < 2 ^ 64) (hb : b < 8) (hk : k < 8) : inpF (asrN vec b) k % 2 = bitI vec k b := by
  unfold bitI inpF
  have h1 := asr_b1 hv hb hk
  have h2 := asr_b2 (vec / 2 ^ (8 * k)) hb
  rw [Nat.div_div_eq_div_mul, ← Nat.pow_add, Nat.add_comm (8 * k) b] at h2
  have e1 : ((asrN vec b / 2 ^ (8 * k) % 256 : Nat) : Int) % 2 = ((asrN vec b / 2 ^ (8 * k) % 2 : Nat) : Int) := by omega
  have e2 : ∀ z : Nat, ((z : Nat) : Int) / 2 ^ b % 2 = ((z / 2 ^ b % 2 : Nat) : Int) := fun z => by push_cast; rfl
  rw [e1, e2, h1, h2]
theorem RY_cur {st : St} (h : RY st) {q t : Nat} {d : Int} (hq : (q : Int) < st 14 0 0) (ht : t < 6) (h6 : (q : Int) < 6) (htq : st 20 0 (q : Int) = (t : Int)) (hd : 0 ≤ d ∧ d < 16) {vec b : Nat} (hv : vec < 2 ^ 64) (hb : b < 8) (hr : ∀ k : Int, 0 ≤ st 63 q k ∧ st 63 q k ≤ 7) {n : Nat} (hn : n ≤ 8) : curC st q t (asrN vec b) d n = curU st (q : Int) d vec b n := by
  unfold curC curU
  refine sumN_e n (fun k hk => ?_)
  have hrk := hr (k : Int)
  rw [asr_bit hv hb (by omega), RY_con h ht (by omega), htq, h.2.2.2.1 q (k : Int) hq (by omega), Int.add_assoc]
