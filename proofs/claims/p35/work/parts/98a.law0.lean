/-! ===== the law's context ===== -/
def LC (p : Program) (l : Launch) (s : State) (m : MethodId) (c : Code) (b L : Nat) (xs : Nat → Int32) (D : va_G) (cy : Nat → ClassId) (fz : Nat) (A : Nat → Prop) : Prop := (p.tables.exec = Jvm.exec) ∧ (c.code = cL_law) ∧ (c.maxLocals = 22) ∧ (s.vm.findClass RL = some m.cls) ∧ (∀ w ∈ wsL_law, w.before #[Value.ref b] s = true) ∧ (va_X b L xs s s.heap) ∧ (b < s.heap.size) ∧ (¬ A b) ∧ (∀ q, s.heap.size ≤ q → A q) ∧ (va_K D vwCl (gtys cy) s) ∧ (gN s) ∧ (gZ fz A s s.heap) ∧ (l.stackTraces = false) ∧ (L ≤ 260)

theorem GI_o {W : Int} {st : St} (h : GI W st) {c o : Nat} {i v : Int} (hc : c ∉ gcs) : GI W (ust st c o i v) := fun c' hc' o' i' => by
  have hne : c' ≠ c := fun e => hc (by rw [← e]; exact hc')
  rw [ust_c hne]
  exact h c' hc' o' i'
/-- locals at the loop's head, but the first -/
def llB (b : Nat) (ad : Nat → Nat) (v dd mm : Int) (t : Nat) : List (Nat × Value) := [(7, .int (iI 1)), (8, .int (iI dd)), (9, .int (iI mm)), (10, .int (iI (t : Int))), (0, .ref b), (1, .ref (ad 21)), (2, .int (iI v)), (3, .ref (ad 19)), (4, .ref (ad 20)), (5, .ref (ad 31)), (6, .ref (ad 32))]
/-- and behind the cases -/
def llC (b : Nat) (ad : Nat → Nat) (v dd mm : Int) (t : Nat) (w tl : Int) : List (Nat × Value) := [(7, .int (iI 1)), (8, .int (iI dd)), (9, .int (iI mm)), (10, .int (iI (t : Int))), (11, .int (iI w)), (14, .int (iI tl)), (0, .ref b), (1, .ref (ad 21)), (2, .int (iI v)), (3, .ref (ad 19)), (4, .ref (ad 20)), (5, .ref (ad 31)), (6, .ref (ad 32))]
/-- where a case goes on -/
def KKs (p : Program) (l : Launch) (e : Env) (s : State) (m : MethodId) (below : List Frame) (meth : Method) (c : Code) (b : Nat) (D : va_G) (cy : Nat → ClassId) (A : Nat → Prop) (Q : State → Prop) (ad : Nat → Nat) (n : Nat) (v mm : Int) (t : Nat) (w tl : Int) (wb now : Int) (cells slots : Nat) : Prop :=
  ∀ (st' : St) (dd' : Int) (H : Heap) (locs : List Loc) (ls : Array Slot), GH D cy ad n st' A s.heap H locs → JS (wb + 2048) st' → st' 31 0 0 = dd' → st' 30 0 0 ≤ now + 60 → lv_has ls 22 (llC b ad v dd' mm t w tl) → W p l e room_1 s m #[Value.ref b] below meth c H locs (cells + 2000) (slots + 12000) Q (F0 m 1066 ls [])
theorem JS_mono {wb wb' : Int} {st : St} (h : wb ≤ wb') (hJ : JS wb st) : JS wb' st := ⟨GI_mono h hJ.1, hJ.2⟩
theorem JS_a {wb : Int} {st : St} (hJ : JS wb st) {a : Nat} (ha : a < 2) : (st 14 0 0 = 2 ∧ st 33 0 0 = 2) ∧ (st 15 0 (a : Int) = st 60 a 0 ∧ st 16 0 (a : Int) = st 61 a 0 ∧ st 20 0 (a : Int) = st 66 a 0) ∧ (st 80 0 (a : Int) = st 60 a 0 ∧ st 81 0 (a : Int) = st 61 a 0 ∧ st 82 0 (a : Int) = st 66 a 0) ∧ (0 ≤ st 66 a 0 ∧ st 66 a 0 ≤ 3) ∧ ((1 ≤ st 60 a 0 ∧ st 60 a 0 ≤ 8) ∧ 1 ≤ st 61 a 0 ∧ st 61 a 0 ≤ 4) ∧ ∀ j : Int, 0 ≤ j ∧ j < 32 → st 83 0 (32 * (a : Int) + j) = st 62 a j := by
  obtain ⟨hI, hR, hA, -⟩ := hJ
  have h33 := hA.1.1
  have h14 : st 14 0 0 = 2 := by rw [← hR.1.1]; exact h33
  have hl := hR.2.1 a (by omega)
  refine ⟨⟨h14, h33⟩, ⟨hl.1.symm, hl.2.1.symm, hl.2.2.2.2.symm⟩, ?_, ?_, ⟨gI_60 hI a 0, gI_61 hI a 0⟩, fun j hj => hA.2.2.2.1 a j ha hj⟩
  · have h2 : a = 0 ∨ a = 1 := by omega
    rcases h2 with rfl | rfl
    · exact ⟨hA.2.1.1, hA.2.1.2.2.1, hA.2.2.1.1⟩
    · exact ⟨hA.2.1.2.1, hA.2.1.2.2.2, hA.2.2.1.2.1⟩
  · have h2 : a = 0 ∨ a = 1 := by omega
    rcases h2 with rfl | rfl
    · exact hA.2.2.1.2.2.1
    · exact hA.2.2.1.2.2.2.1
/-- the same state but the model's words, made anew -/
theorem gh_go {wb : Int} {D : va_G} {cy : Nat → ClassId} {ad : Nat → Nat} {n : Nat} {st : St} {A : Nat → Prop} {H0 H : Heap} {locs : List Loc} (hG : GH D cy ad n st A H0 H locs) (hI : GI wb st) (hA : PA st) (hC : PC st) : ∃ z : St, GH D cy ad n z A H0 H locs ∧ JS wb z ∧ ∀ (c o : Nat) (i : Int), 25 ≤ c → z c o i = st c o i :=
  ⟨gh st, GH_cg (fun c o i hc => (gh_c st hc).symm) hG, JS_gh hI hA hC, fun c o i hc => gh_c st hc⟩
theorem PA_wt {st : St} {a : Nat} {j w : Int} (ha : a < 2) (hj : 0 ≤ j ∧ j < 32) (hA : PA st) : PA (ust (ust st 62 a j w) 83 0 (32 * (a : Int) + j) w) := by
  obtain ⟨⟨h33, h604⟩, ⟨i0, i1, o0, o1⟩, hs, hw, hr, hn, ht, hf⟩ := hA
  have ec : ∀ (c o : Nat) (i : Int), c ≠ 62 → c ≠ 83 → ust (ust st 62 a j w) 83 0 (32 * (a : Int) + j) w c o i = st c o i := fun c o i h1 h2 => by rw [ust_c h2, ust_c h1]
  refine ⟨⟨h33, h604⟩, ⟨i0, i1, o0, o1⟩, hs, fun q i hq hi => ?_, hr, hn, ht, fun q h2 h6 => ?_⟩
  · rw [ust_if, ust_c (show 62 ≠ 83 by decide)]
    have h9 := hw q i hq hi
    by_cases hqa : q = a
    · subst hqa
      rw [ust_if, ust_c (show 83 ≠ 62 by decide)]
      by_cases hij : i = j
      · subst hij
        rw [if_pos rfl, if_pos rfl]
      · rw [if_neg (by omega), if_neg hij]
        exact h9
    · rw [if_neg (by omega), ust_o hqa, ust_c (show 83 ≠ 62 by decide)]
      exact h9
  · obtain ⟨f1, f2, f3⟩ := hf q h2 h6
    refine ⟨fun i hi => ?_, f2, f3⟩
    rw [ust_c (show 62 ≠ 83 by decide), ust_o (by omega)]
    exact f1 i hi
theorem conC_cg {x y : St} (h : ∀ (c o : Nat) (i : Int), 25 ≤ c → x c o i = y c o i) (o : Nat) (i : Int) : conC x o i = conC y o i := by
  unfold conC
  rw [h 30 0 0 (by decide), h 31 0 0 (by decide), h 40 o i (by decide), h 42 o i (by decide), h 43 o i (by decide)]
theorem needC_cg {x y : St} (h : ∀ (c o : Nat) (i : Int), 25 ≤ c → x c o i = y c o i) (q : Nat) (i d : Int) : needC x q i d = needC y q i d := by
  unfold needC
  rw [h 62 q _ (by decide)]
theorem allK_cg {x y : St} (h : ∀ (c o : Nat) (i : Int), 25 ≤ c → x c o i = y c o i) (q o n : Nat) : allK x q o n = 1 ↔ allK y q o n = 1 := by
  rw [allK_1, allK_1, h 61 q 0 (by decide)]
  constructor
  · intro h1 i c hi hc
    rw [← h 63 q (i : Int) (by decide), ← conC_cg h, ← needC_cg h]
    exact h1 i c hi hc
  · intro h1 i c hi hc
    rw [h 63 q (i : Int) (by decide), conC_cg h, needC_cg h]
    exact h1 i c hi hc
/-- what isTrue answers of a layer that is placed -/
theorem true_v {wb : Int} {st : St} (hJ : JS wb st) {a : Nat} (ha : a < 2) : (if st 20 0 (a : Int) = -1 then 0 else trU st (a : Int) (16 * (st 15 0 (a : Int)).toNat)) = allK st a (st 66 a 0).toNat (st 60 a 0).toNat := by
  obtain ⟨⟨h14, -⟩, ⟨h15, h16, h20⟩, -, h66, ⟨h60, h61⟩, -⟩ := JS_a hJ ha
  rw [if_neg (by omega), h15]
  exact (RY_true hJ.2.1 (by omega) (by omega) (by rw [h20]; omega) (fun k => gI_63 hJ.1 a k) h61 _ (by omega)).symm
theorem ldF_r {st : St} {q o : Nat} (hr : rowsD st q) (ho : 1 ≤ st 61 q 0 ∧ st 61 q 0 ≤ 4) (hi : 1 ≤ st 60 q 0 ∧ st 60 q 0 ≤ 8) : 0 ≤ ldCF st q o ∧ ldCF st q o ≤ 128 := by
  have hs : ldCF st q o = sumN (fun j => if wS st o (lcC st q j) (lwC st q j) = lwC st q j then 0 else 1) (4 * (st 61 q 0).toNat * (st 60 q 0).toNat) := rwC_sum o _ _ st _ (lcC_d hr ho)
  rw [hs]
  have h := sumN_r (f := fun j => if wS st o (lcC st q j) (lwC st q j) = lwC st q j then (0 : Int) else 1) (B := 1) (fun j => by
    show 0 ≤ (if wS st o (lcC st q j) (lwC st q j) = lwC st q j then (0 : Int) else 1) ∧ (if wS st o (lcC st q j) (lwC st q j) = lwC st q j then (0 : Int) else 1) ≤ 1
    split <;> decide) (4 * (st 61 q 0).toNat * (st 60 q 0).toNat)
  have hm : 4 * (st 61 q 0).toNat * (st 60 q 0).toNat ≤ 16 * 8 := Nat.mul_le_mul (by omega) (by omega)
  omega
