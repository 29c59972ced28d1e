/-! ===== the law's cases ===== -/
def LC (p : Program) (l : Launch) (s : State) (m : MethodId) (meth : Method) (c : Code) (b L : Nat) (xs : Nat → Int32) (D : va_G) (cy : Nat → ClassId) (fz : Nat) (A : Nat → Prop) : Prop := (p.tables.exec = Jvm.exec) ∧ (c.code = cL_law) ∧ (c.maxLocals = 9) ∧ (s.vm.findClass RL = some m.cls) ∧ (∀ w ∈ wsL_law, w.before #[Value.ref b] s = true) ∧ (va_X b L xs s s.heap) ∧ (b < s.heap.size) ∧ (¬ A b) ∧ (∀ q, s.heap.size ≤ q → A q) ∧ (va_K D vwCl (gtys cy) s) ∧ (gN s) ∧ (gZ fz A s s.heap) ∧ (l.stackTraces = false) ∧ (L ≤ 2560)
theorem LC.hx {p : Program} {l : Launch} {s : State} {m : MethodId} {meth : Method} {c : Code} {b L : Nat} {xs : Nat → Int32} {D : va_G} {cy : Nat → ClassId} {fz : Nat} {A : Nat → Prop} (C : LC p l s m meth c b L xs D cy fz A) : p.tables.exec = Jvm.exec := C.1
theorem LC.hb {p : Program} {l : Launch} {s : State} {m : MethodId} {meth : Method} {c : Code} {b L : Nat} {xs : Nat → Int32} {D : va_G} {cy : Nat → ClassId} {fz : Nat} {A : Nat → Prop} (C : LC p l s m meth c b L xs D cy fz A) : c.code = cL_law := C.2.1
theorem LC.hml {p : Program} {l : Launch} {s : State} {m : MethodId} {meth : Method} {c : Code} {b L : Nat} {xs : Nat → Int32} {D : va_G} {cy : Nat → ClassId} {fz : Nat} {A : Nat → Prop} (C : LC p l s m meth c b L xs D cy fz A) : c.maxLocals = 9 := C.2.2.1
theorem LC.hown {p : Program} {l : Launch} {s : State} {m : MethodId} {meth : Method} {c : Code} {b L : Nat} {xs : Nat → Int32} {D : va_G} {cy : Nat → ClassId} {fz : Nat} {A : Nat → Prop} (C : LC p l s m meth c b L xs D cy fz A) : s.vm.findClass RL = some m.cls := C.2.2.2.1
theorem LC.hts {p : Program} {l : Launch} {s : State} {m : MethodId} {meth : Method} {c : Code} {b L : Nat} {xs : Nat → Int32} {D : va_G} {cy : Nat → ClassId} {fz : Nat} {A : Nat → Prop} (C : LC p l s m meth c b L xs D cy fz A) : ∀ w ∈ wsL_law, w.before #[Value.ref b] s = true := C.2.2.2.2.1
theorem LC.hX {p : Program} {l : Launch} {s : State} {m : MethodId} {meth : Method} {c : Code} {b L : Nat} {xs : Nat → Int32} {D : va_G} {cy : Nat → ClassId} {fz : Nat} {A : Nat → Prop} (C : LC p l s m meth c b L xs D cy fz A) : va_X b L xs s s.heap := C.2.2.2.2.2.1
theorem LC.hbl {p : Program} {l : Launch} {s : State} {m : MethodId} {meth : Method} {c : Code} {b L : Nat} {xs : Nat → Int32} {D : va_G} {cy : Nat → ClassId} {fz : Nat} {A : Nat → Prop} (C : LC p l s m meth c b L xs D cy fz A) : b < s.heap.size := C.2.2.2.2.2.2.1
theorem LC.hbA {p : Program} {l : Launch} {s : State} {m : MethodId} {meth : Method} {c : Code} {b L : Nat} {xs : Nat → Int32} {D : va_G} {cy : Nat → ClassId} {fz : Nat} {A : Nat → Prop} (C : LC p l s m meth c b L xs D cy fz A) : ¬ A b := C.2.2.2.2.2.2.2.1
theorem LC.hA {p : Program} {l : Launch} {s : State} {m : MethodId} {meth : Method} {c : Code} {b L : Nat} {xs : Nat → Int32} {D : va_G} {cy : Nat → ClassId} {fz : Nat} {A : Nat → Prop} (C : LC p l s m meth c b L xs D cy fz A) : ∀ q, s.heap.size ≤ q → A q := C.2.2.2.2.2.2.2.2.1
theorem LC.hK {p : Program} {l : Launch} {s : State} {m : MethodId} {meth : Method} {c : Code} {b L : Nat} {xs : Nat → Int32} {D : va_G} {cy : Nat → ClassId} {fz : Nat} {A : Nat → Prop} (C : LC p l s m meth c b L xs D cy fz A) : va_K D vwCl (gtys cy) s := C.2.2.2.2.2.2.2.2.2.1
theorem LC.hN {p : Program} {l : Launch} {s : State} {m : MethodId} {meth : Method} {c : Code} {b L : Nat} {xs : Nat → Int32} {D : va_G} {cy : Nat → ClassId} {fz : Nat} {A : Nat → Prop} (C : LC p l s m meth c b L xs D cy fz A) : gN s := C.2.2.2.2.2.2.2.2.2.2.1
theorem LC.hZ {p : Program} {l : Launch} {s : State} {m : MethodId} {meth : Method} {c : Code} {b L : Nat} {xs : Nat → Int32} {D : va_G} {cy : Nat → ClassId} {fz : Nat} {A : Nat → Prop} (C : LC p l s m meth c b L xs D cy fz A) : gZ fz A s s.heap := C.2.2.2.2.2.2.2.2.2.2.2.1
theorem LC.hlf {p : Program} {l : Launch} {s : State} {m : MethodId} {meth : Method} {c : Code} {b L : Nat} {xs : Nat → Int32} {D : va_G} {cy : Nat → ClassId} {fz : Nat} {A : Nat → Prop} (C : LC p l s m meth c b L xs D cy fz A) : l.stackTraces = false := C.2.2.2.2.2.2.2.2.2.2.2.2.1
theorem LC.hL {p : Program} {l : Launch} {s : State} {m : MethodId} {meth : Method} {c : Code} {b L : Nat} {xs : Nat → Int32} {D : va_G} {cy : Nat → ClassId} {fz : Nat} {A : Nat → Prop} (C : LC p l s m meth c b L xs D cy fz A) : L ≤ 2560 := C.2.2.2.2.2.2.2.2.2.2.2.2.2
/-- the j-th int of the script -/
def sA (xs : Nat → Int32) (j : Nat) : Int := (xs j).toInt
theorem sA_r (xs : Nat → Int32) (j : Nat) : -2147483648 ≤ sA xs j ∧ sA xs j < 2147483648 := by
  unfold sA
  have h1 := Int32.le_toInt (xs j)
  have h2 := Int32.toInt_lt (xs j)
  omega
theorem iI_sA (xs : Nat → Int32) (j : Nat) : xs j = iI (sA xs j) := (Int32.ofInt_toInt (xs j)).symm
theorem lN_ex (v : Int64) : ∃ vec : Nat, vec < 2 ^ 64 ∧ v = lN vec := ⟨v.toBitVec.toNat, v.toBitVec.isLt, by
  first
    | exact (Int64.toBitVec_inj.mp (by simp [lN]))
    | (unfold lN; simp)⟩
section LROW
variable {p : Program} {l : Launch} {e : Env} {R : Room} {s : State} {m : MethodId} {below : List Frame} {meth : Method} {c : Code} {H : Heap} {locs : List Loc} {cells slots : Nat} {Q : State → Prop}
variable {pc : Nat} {ls : Array Slot} {rest : List Value} {D : va_G} {cy : Nat → ClassId} {b L fz : Nat} {xs : Nat → Int32} {A : Nat → Prop}
/-- script[i + q] -/
theorem law_ld (C : LC p l s m meth c b L xs D cy fz A) {k q : Nat} (hk : 5 * k + 5 ≤ L) (hq : q < 5) (hS : va_S A s.heap H locs) {lv : List (Nat × Value)} (hl : lv_has ls 9 lv) (j0 j5 : Nat) (h0 : lv[j0]? = some (0, .ref b)) (h5 : lv[j5]? = some (5, .int (iI (5 * (k : Int)))))
    (d0 : decode cL_law pc = .ok (.aload_n 0, 1)) (d1 : decode cL_law (pc + 1) = .ok (.iload 5, 2)) (d3 : decode cL_law (pc + 3) = .ok (.iconst (q : Int), 1)) (d4 : decode cL_law (pc + 4) = .ok (.iadd, 1)) (d5 : decode cL_law (pc + 5) = .ok (.iaload, 1))
    (kk : W p l e R s m #[Value.ref b] below meth c H locs cells slots Q (F0 m (pc + 6) ls (.int (iI (sA xs (5 * k + q))) :: rest))) : W p l e R s m #[Value.ref b] below meth c H locs cells slots Q (F0 m pc ls rest) := by
  have hL := C.hL
  refine lv_aload_n C.hx C.hb d0 rfl (lv_at hl j0 h0) ?_
  refine lv_iload C.hx C.hb d1 (lv_at hl j5 h5) ?_
  refine lv_iconst (v := iI (q : Int)) C.hx C.hb d3 rfl ?_
  refine r_iadd C.hx C.hb d4 ?_
  refine va_sld C.hx C.hb C.hX C.hbl C.hbA hS (iI_in (by omega) (by omega) (by omega)) d5 ?_
  rw [iI_cl (by omega) (by omega), show (5 * (k : Int) + (q : Int)).toNat = 5 * k + q by omega, iI_sA xs (5 * k + q)]
  exact kk
theorem r_lcz {x y : Int64} (h : x = y) (hx : p.tables.exec = Jvm.exec) (hb : c.code = cL_law) {args : Array Value} (d : decode cL_law pc = .ok (.lcmp, 1)) (kk : W p l e R s m args below meth c H locs cells slots Q (F0 m (pc + 1) ls (.int (iI 0) :: rest))) : W p l e R s m args below meth c H locs cells slots Q (F0 m pc ls (.long y :: .long x :: rest)) := by
  refine W.lcmp hx hb d ?_
  rw [(lg_cmp_eq x y).mpr h]
  exact kk
end LROW
section LROW2
variable {p : Program} {l : Launch} {e : Env} {R : Room} {s : State} {m : MethodId} {below : List Frame} {meth : Method} {c : Code} {H : Heap} {locs : List Loc} {cells slots : Nat} {Q : State → Prop}
variable {pc : Nat} {ls : Array Slot} {rest : List Value} {args : Array Value}
theorem law_bool {x : Int} (hx : p.tables.exec = Jvm.exec) (hb : c.code = cL_law) (hr : -2147483648 ≤ x ∧ x < 2147483648) (d0 : decode cL_law pc = .ok (.ifCond .eq 7, 3)) (d3 : decode cL_law (pc + 3) = .ok (.iconst 1, 1)) (d4 : decode cL_law (pc + 4) = .ok (.goto 4, 3)) (d7 : decode cL_law (pc + 7) = .ok (.iconst 0, 1))
    (kk : W p l e R s m args below meth c H locs cells slots Q (F0 m (pc + 8) ls (.int (iI (if x = 0 then 0 else 1)) :: rest))) : W p l e R s m args below meth c H locs cells slots Q (F0 m pc ls (.int (iI x) :: rest)) := by
  refine r_if_eq (tgt := pc + 7) hx hb hr d0 (by omega) (fun h => ?_) (fun h => ?_)
  · refine lv_iconst (v := iI 0) hx hb d7 rfl ?_
    rw [if_pos h] at kk
    exact kk
  · refine lv_iconst (v := iI 1) hx hb d3 rfl ?_
    refine lv_goto (tgt := pc + 8) hx hb d4 (by omega) ?_
    rw [if_neg h] at kk
    exact kk
end LROW2
theorem bR {x : Int} : -2147483648 ≤ (if x = 0 then (0 : Int) else 1) ∧ (if x = 0 then (0 : Int) else 1) < 2147483648 := by split <;> omega
theorem bZ {x : Int} : (if x = 0 then (0 : Int) else 1) = 0 ∨ (if x = 0 then (0 : Int) else 1) = 1 := by
  split
  · exact Or.inl rfl
  · exact Or.inr rfl
abbrev llv (b : Nat) (ad : Nat → Nat) (k : Nat) : List (Nat × Value) := [(0, .ref b), (1, .ref (ad 21)), (2, .ref (ad 0)), (3, .ref (ad 31)), (4, .ref (ad 32)), (5, .int (iI (5 * (k : Int))))]
def LKK (p : Program) (l : Launch) (e : Env) (s : State) (m : MethodId) (below : List Frame) (meth : Method) (c : Code) (b : Nat) (D : va_G) (cy : Nat → ClassId) (A : Nat → Prop) (Q : State → Prop) (k cells slots : Nat) : Prop := ∀ (st' : St) (ad' : Nat → Nat) (n' : Nat) (H : Heap) (locs : List Loc) (ls : Array Slot), GH D cy ad' n' st' A s.heap H locs → RY st' → GI (2048 * ((k + 1 : Nat) : Int)) st' → (n' : Int) = 75 + 3 * st' 33 0 0 → lv_has ls 9 (llv b ad' k) → W p l e room_1 s m #[Value.ref b] below meth c H locs (cells + 8) (slots + 60) Q (F0 m 2518 ls [])
theorem law_b01 {p : Program} {l : Launch} {e : Env} {R : Room} {s : State} {m : MethodId} {below : List Frame} {meth : Method} {c : Code} {H : Heap} {locs : List Loc} {cells slots : Nat} {Q : State → Prop} {pc : Nat} {ls : Array Slot} {rest : List Value} {args : Array Value} {x : Int32} (hx : p.tables.exec = Jvm.exec) (hb : c.code = cL_law) (d0 : decode cL_law pc = .ok (.ifCond .eq 7, 3)) (d3 : decode cL_law (pc + 3) = .ok (.lconst 1, 1)) (d4 : decode cL_law (pc + 4) = .ok (.goto 4, 3)) (d7 : decode cL_law (pc + 7) = .ok (.lconst 0, 1))
    (kk : W p l e R s m args below meth c H locs cells slots Q (F0 m (pc + 8) ls (.long (if x = iI 0 then (0 : Int64) else 1) :: rest))) : W p l e R s m args below meth c H locs cells slots Q (F0 m pc ls (.int x :: rest)) := by
  refine r_asI (y := x.toInt) (Int32.ofInt_toInt x).symm ?_
  have h1 := Int32.le_toInt x
  have h2 := Int32.toInt_lt x
  refine r_if_eq (tgt := pc + 7) hx hb (by omega) d0 (by omega) (fun h => ?_) (fun h => ?_)
  · refine lv_lconst (v := 0) hx hb d7 rfl ?_
    rw [if_pos (by rw [← Int32.ofInt_toInt x, h]; rfl)] at kk
    exact kk
  · refine lv_lconst (v := 1) hx hb d3 rfl ?_
    refine lv_goto (tgt := pc + 8) hx hb d4 (by omega) ?_
    rw [if_neg (fun e => h (by rw [e]; rfl))] at kk
    exact kk
theorem cSh_r {wb : Int} {st : St} (hI : GI wb st) (t : Int) : 0 ≤ cShare st t ∧ cShare st t ≤ 128 := by
  unfold cShare
  split
  · unfold shU
    have h : ∀ n : Nat, 0 ≤ sumN (fun k => st 7 0 (128 * t + (k : Int))) n ∧ sumN (fun k => st 7 0 (128 * t + (k : Int))) n ≤ (n : Int) := by
      intro n
      induction n with
      | zero => exact ⟨Int.le_refl _, Int.le_refl _⟩
      | succ n ih =>
        have h7 := gI_7 hI 0 (128 * t + (n : Int))
        show 0 ≤ sumN _ n + st 7 0 (128 * t + (n : Int)) ∧ sumN _ n + st 7 0 (128 * t + (n : Int)) ≤ _
        omega
    exact h 128
  · omega
theorem dcmp_tab : ∀ k : Nat, k < 129 → Op.cmpValue (FP.dcmp (FP.f2d (fShare (k : Int))) (FP.f2d (fShare (k : Int)))) .l = 0 := by decide +kernel
theorem dcmp_rf {x : Int} {b9 : UInt32} (h : 0 ≤ x ∧ x ≤ 128) (hb : b9 = fShare x) : Op.cmpValue (FP.dcmp (FP.f2d b9) (FP.f2d b9)) .l = iI 0 := by
  obtain ⟨k, rfl⟩ : ∃ k : Nat, x = (k : Int) := ⟨x.toNat, by omega⟩
  rw [hb]
  exact dcmp_tab k (by omega)
