def lW5 (cy : Nat → ClassId) (x : Nat) (w5 : Nat → Nat) : va_W := (x, .inr (5, [.ref (w5 22), .ref (w5 23), .ref (w5 24), .ref (w5 25), .ref (w5 28), .int (iI (0))])) :: ([((w5 22), .inr (3, [.int (iI 0), .int (iI 0), .int (iI 1000)])), ((w5 23), .inl (cy 3, 6, .inr (.inr (.inr (.inr (va_up (va_up (va_up (va_up (va_up (va_up (fun _ => none) 0 (some (w5 33))) 1 (some (w5 40))) 2 (some (w5 47))) 3 (some (w5 54))) 4 (some (w5 61))) 5 (some (w5 68)))))))), ((w5 24), .inl (cy 2, 6, .inr (.inr (.inr (.inr (fun _ => none)))))), ((w5 25), .inr (2, [.ref (w5 26), .ref (w5 27)])), ((w5 26), .inl (cy 0, 64, .inl (fun _ => iI 0))), ((w5 27), .inl (cy 0, 256, .inl (fun _ => iI 0))), ((w5 28), .inr (1, [.ref (w5 29), .ref (w5 30), .int (iI 0)])), ((w5 29), .inl (cy 0, 6, .inl (fun _ => iI 0))), ((w5 30), .inl (cy 0, 6, .inl (fun _ => iI 0)))] ++ tlC cy (w5 33) 0 (fun k => w5 (34 + k)) ++ tlC cy (w5 40) 1 (fun k => w5 (41 + k)) ++ tlC cy (w5 47) 2 (fun k => w5 (48 + k)) ++ tlC cy (w5 54) 3 (fun k => w5 (55 + k)) ++ tlC cy (w5 61) 4 (fun k => w5 (62 + k)) ++ tlC cy (w5 68) 5 (fun k => w5 (69 + k)))
def lf5 : List Value := [.null, .null, .null, .null, .null, .int (iI 0)]
def lf6 : List Value := [.int (iI 0), .int (iI 0), .int (iI 0), .int (iI 0), .null, .null, .null, .null, .null, .null, .null, .null, .null, .null, .int (iI 0), .null, .null, .null, .null, .null, .null, .null, .null, .null, .null]
def lF6 (w6 : Nat → Nat) : List Value := [.int (iI 0), .int (iI 0), .int (iI 0), .int (iI (1000)), .ref (w6 1), .ref (w6 2), .ref (w6 3), .ref (w6 4), .ref (w6 5), .ref (w6 6), .ref (w6 7), .ref (w6 8), .ref (w6 9), .ref (w6 10), .int (iI 0), .ref (w6 11), .ref (w6 12), .ref (w6 13), .ref (w6 14), .ref (w6 15), .ref (w6 16), .ref (w6 17), .ref (w6 18), .ref (w6 19), .ref (w6 20)]
def lX6 (cy : Nat → ClassId) (w6 : Nat → Nat) : va_W := [((w6 1), .inl (cy 0, 768, .inl (fun _ => iI 0))), ((w6 2), .inl (cy 0, 768, .inl (fun _ => iI 0))), ((w6 3), .inl (cy 0, 768, .inl (fun _ => iI 0))), ((w6 4), .inl (cy 1, 768, .inl (fun _ => iI 0))), ((w6 5), .inl (cy 1, 768, .inl (fun _ => iI 0))), ((w6 6), .inl (cy 0, 6, .inl (c6i (iI (1))))), ((w6 7), .inl (cy 0, 6, .inl (c6i (iI (127))))), ((w6 8), .inl (cy 0, 96, .inl (fun _ => iI 0))), ((w6 9), .inl (cy 1, 6, .inl (fun _ => iI 0))), ((w6 10), .inl (cy 0, 6, .inl (c6i (iI (4))))), ((w6 11), .inl (cy 0, 6, .inl (fun _ => iI 0))), ((w6 12), .inl (cy 0, 6, .inl (fun _ => iI 0))), ((w6 13), .inl (cy 0, 192, .inl (fun _ => iI 0))), ((w6 14), .inl (cy 0, 6, .inl (fun _ => iI 0))), ((w6 15), .inl (cy 0, 6, .inl (fun _ => iI 0))), ((w6 16), .inl (cy 0, 6, .inl (fun _ => iI 0))), ((w6 17), .inl (cy 0, 48, .inl (fun _ => iI 0))), ((w6 18), .inl (cy 0, 64, .inl (fun _ => iI 0))), ((w6 19), .inl (cy 0, 256, .inl (fun _ => iI 0))), ((w6 20), .inl (cy 0, 6, .inl (fun _ => iI 0)))]
theorem cwl_two {G : va_W} {n m ci : Nat} {f0 F : List Value} {X : va_W} (hn : G.length = n) : cwl (cwl (G ++ [(m, .inr (ci, f0))]) n m ci f0 []) n m ci F X = G ++ (m, .inr (ci, F)) :: X := by
  subst hn
  unfold cwl
  simp
set_option maxHeartbeats 4000000 in
set_option maxRecDepth 100000 in
theorem law_start {p : Program} {e : Env} {s : State} {m : MethodId} {below : List Frame} {meth : Method} {c : Code} {b L : Nat} {xs : Nat → Int32} {Q : State → Prop} (l : Launch) (hlf : l.stackTraces = false) (hL : L ≤ 2560) (hx : p.tables.exec = Jvm.exec) (hb : c.code = cL_law) (hml : c.maxLocals = 9) (hown : s.vm.findClass RL = some m.cls) (hts0 : ∀ w ∈ lw_tbl, w.before #[Value.ref b] s = true) (hX : va_X b L xs s s.heap) (hbl : b < s.heap.size) (hgv : (Jvm.Cond.and given_1 narrow_1).before #[Value.ref b] s = true)
    (hE : ∀ (H : Heap) (ls : Array Slot), W p l e room_1 s m #[Value.ref b] below meth c H [] 601024 7293034 Q (F0 m 2525 ls [.int (iI 1)])) : W p l e room_1 s m #[Value.ref b] below meth c s.heap [] 0 0 Q (entryFrame m ([Value.ref b] : List Value).toArray 9) := by
  obtain ⟨D, cy, hK, hO4, hO0⟩ := lw_K hts0
  obtain ⟨A, hAe⟩ : ∃ A : Nat → Prop, A = fun q => s.heap.size ≤ q := ⟨_, rfl⟩
  have hA : ∀ q, s.heap.size ≤ q → A q := fun q h => by rw [hAe]; exact h
  have hA0 : ∀ q, A q → s.heap.size ≤ q := fun q h => by rw [hAe] at h; exact h
  clear hAe
  obtain ⟨fz, hZ⟩ := lw_gZ (A := A) hts0 hgv (fun a ha h => by have := hA0 a h; omega)
  have hN : gN s := lw_gN ((hK.1 5 _ rfl).2.1) hts0 hgv
  have hts : ∀ w ∈ wsL_law, w.before #[Value.ref b] s = true := fun w hw => hts0 w (wsL_law_in w hw)
  have C : LC p l s m meth c b L xs D cy fz A := ⟨hx, hb, hml, hown, hts, hX, hbl, fun h => by have := hA0 b h; omega, hA, hK, hN, hZ, hlf, hL⟩
  have hl := lv_entry ([.ref b]) (n := 9) (Nat.le_of_ble_eq_true rfl)
  rw [lg_entry_eq]
  generalize (lg_sl ([.ref b]) ++ List.replicate (9 - (lg_sl ([.ref b])).length) Slot.unset).toArray = ls at hl ⊢
  have hl : lv_has ls 9 [(0, .ref b)] := hl
  have hP : va_P D vwCl [] s.heap := fun k q hq => by simp at hq
  have hD : va_D A [] := ⟨fun i j p q hi => by simp at hi, fun k q hq => by simp at hq⟩
  have hS : va_S A s.heap s.heap [] := va_S.rf
  refine va_new hx hb hts0 inX5 tyX5 tyX5_ok hown (hts (.classLink RL 8 RX5) (by decide +kernel)) (hts (.instantiable RX5 6) (by decide +kernel)) (hts (.initialized RX5) (by decide +kernel)) hK hP hD hS hA (ci := 5) rfl (fs := lf5) (by decide +kernel) (Nat.le_of_ble_eq_true rfl) (Nat.le_of_ble_eq_true rfl) dL_law_0 (fun x H hP hD hS => ?_)
  refine lv_dup hx hb dL_law_3 rfl ?_
  have hat5 : ([] ++ [(x, Sum.inr (5, lf5))] : va_W)[0]? = some (x, Sum.inr (5, lf5)) := rfl
  have hC : CG D A s.heap ([] ++ [(x, Sum.inr (5, lf5))]) 0 x 5 lf5 [] H [] := ⟨(List.getElem?_eq_some_iff.mp hat5).1, by rw [cwl_self hat5]; exact hP, by rw [cwl_self hat5]; exact hD, hS⟩
  refine c_gov hC hA (va_runI (As := []) (rest := [.ref x]) ⟨hx, hb, hml, hown, hts⟩ (mX5_init l D cy (cwl ([] ++ [(x, Sum.inr (5, lf5))]) 0 x 5 lf5 []) 0 x H.size (cwl_at hC.1)) (cwI 0 hts gL_law_X5_init rfl rfl rfl (hts (.initialized RX5) (by decide +kernel)) (hts (.methodLink RL 120 yX5_init) (by decide +kernel)) (hts (.instanceMethod yX5_init) (by decide +kernel)) rfl (by decide +kernel) ⟨Nat.le_of_ble_eq_true rfl, Nat.le_of_ble_eq_true rfl⟩) ⟨c_blind5, fun U hU hW => ⟨(c_pre (vs := [.ref x]) hK hC U hU hW).1, (c_pre (vs := [.ref x]) hK hC U hU hW).2, hO4.moved hW.alike, hO0.moved hW.alike, fun w hw => by
    have h1 := va_Nw.of (cnw_t w hw) (hts0 w (cnw_in w hw))
    simp only [cnw, List.mem_cons, List.not_mem_nil, or_false] at hw
    rcases hw with rfl | rfl | rfl
    · exact va_Nw.warmM hW h1
    · exact va_Nw.warmM hW h1
    · exact va_Nw.warmM hW h1⟩⟩ rfl rfl hl.1 rfl (lv_room (Nat.le_of_ble_eq_true rfl)) dL_law_4 ⟨Nat.le_of_ble_eq_true rfl, Nat.le_of_ble_eq_true rfl⟩) (fun w5 H locs hP hD hS => ?_)
  have e5 := cwl_two (G := []) (n := 0) (m := x) (ci := 5) (f0 := lf5) (F := [.ref (w5 22), .ref (w5 23), .ref (w5 24), .ref (w5 25), .ref (w5 28), .int (iI (0))]) (X := [((w5 22), .inr (3, [.int (iI 0), .int (iI 0), .int (iI 1000)])), ((w5 23), .inl (cy 3, 6, .inr (.inr (.inr (.inr (va_up (va_up (va_up (va_up (va_up (va_up (fun _ => none) 0 (some (w5 33))) 1 (some (w5 40))) 2 (some (w5 47))) 3 (some (w5 54))) 4 (some (w5 61))) 5 (some (w5 68)))))))), ((w5 24), .inl (cy 2, 6, .inr (.inr (.inr (.inr (fun _ => none)))))), ((w5 25), .inr (2, [.ref (w5 26), .ref (w5 27)])), ((w5 26), .inl (cy 0, 64, .inl (fun _ => iI 0))), ((w5 27), .inl (cy 0, 256, .inl (fun _ => iI 0))), ((w5 28), .inr (1, [.ref (w5 29), .ref (w5 30), .int (iI 0)])), ((w5 29), .inl (cy 0, 6, .inl (fun _ => iI 0))), ((w5 30), .inl (cy 0, 6, .inl (fun _ => iI 0)))] ++ tlC cy (w5 33) 0 (fun k => w5 (34 + k)) ++ tlC cy (w5 40) 1 (fun k => w5 (41 + k)) ++ tlC cy (w5 47) 2 (fun k => w5 (48 + k)) ++ tlC cy (w5 54) 3 (fun k => w5 (55 + k)) ++ tlC cy (w5 61) 4 (fun k => w5 (62 + k)) ++ tlC cy (w5 68) 5 (fun k => w5 (69 + k))) rfl
  have hP : va_P D vwCl (lW5 cy x w5) H := Eq.mp (congrArg (fun z => va_P D vwCl z H) e5) hP
  have hD : va_D A (lW5 cy x w5) := Eq.mp (congrArg (fun z => va_D A z) e5) hD
  clear e5 hC hat5
  have hlen : (lW5 cy x w5).length = 52 := rfl
  refine lv_astore_n (lv' := [(1, .ref x), (0, .ref b)]) hx hb dL_law_7 rfl hl (by decide) rfl (fun ls hl => ?_)
  refine va_new hx hb hts0 inX6 tyX6 tyX6_ok hown (hts (.classLink RL 121 RX6) (by decide +kernel)) (hts (.instantiable RX6 25) (by decide +kernel)) (hts (.initialized RX6) (by decide +kernel)) hK hP hD hS hA (ci := 6) rfl (fs := lf6) (by decide +kernel) (Nat.le_of_ble_eq_true rfl) (Nat.le_of_ble_eq_true rfl) dL_law_8 (fun mm H hP hD hS => ?_)
  refine lv_dup hx hb dL_law_11 rfl ?_
  have hat6 : (lW5 cy x w5 ++ [(mm, Sum.inr (6, lf6))])[52]? = some (mm, Sum.inr (6, lf6)) := by
    rw [List.getElem?_append_right (Nat.le_of_eq hlen), hlen]
    rfl
  have hC : CG D A s.heap (lW5 cy x w5 ++ [(mm, Sum.inr (6, lf6))]) 52 mm 6 lf6 [] H locs := ⟨(List.getElem?_eq_some_iff.mp hat6).1, by rw [cwl_self hat6]; exact hP, by rw [cwl_self hat6]; exact hD, hS⟩
  refine c_gov hC hA (va_runI (As := []) (rest := [.ref mm]) ⟨hx, hb, hml, hown, hts⟩ (mX6_init l D cy (cwl (lW5 cy x w5 ++ [(mm, Sum.inr (6, lf6))]) 52 mm 6 lf6 []) 52 mm H.size (cwl_at hC.1)) (cwI 0 hts gL_law_X6_init rfl rfl rfl (hts (.initialized RX6) (by decide +kernel)) (hts (.methodLink RL 123 yX6_init) (by decide +kernel)) (hts (.instanceMethod yX6_init) (by decide +kernel)) rfl (by decide +kernel) ⟨Nat.le_of_ble_eq_true rfl, Nat.le_of_ble_eq_true rfl⟩) ⟨c_blind, c_pre hK hC⟩ rfl rfl hl.1 rfl (lv_room (Nat.le_of_ble_eq_true rfl)) dL_law_12 ⟨Nat.le_of_ble_eq_true rfl, Nat.le_of_ble_eq_true rfl⟩) (fun w6 H locs hP hD hS => ?_)
  have hC : CG D A s.heap (cwl (lW5 cy x w5 ++ [(mm, Sum.inr (6, lf6))]) 52 mm 6 lf6 []) 52 mm 6 (lF6 w6) (lX6 cy w6) H locs := ⟨(List.getElem?_eq_some_iff.mp (cwl_at hC.1)).1, hP, hD, hS⟩
  refine lv_astore_n (lv' := [(2, .ref mm), (1, .ref x), (0, .ref b)]) hx hb dL_law_15 rfl hl (by decide) rfl (fun ls hl => ?_)
  refine lv_iconst (v := iI (1)) hx hb dL_law_16 rfl ?_
  refine c_newa (atype := .long) hx hb (hts (.arrayClass .long) (by decide +kernel)) 4 (ty := .long) rfl rfl hK hC hA (N' := 1) (a0 := (1, .inr (.inl (fun _ => Int64.ofInt 0)))) (fun cA => rfl) (by decide +kernel) (by decide +kernel) (by decide +kernel) (Nat.le_of_ble_eq_true rfl) (Nat.le_of_ble_eq_true rfl) dL_law_17 (fun o1 H hC => ?_)
  refine lv_astore_n (lv' := [(3, .ref o1), (2, .ref mm), (1, .ref x), (0, .ref b)]) hx hb dL_law_19 rfl hl (by decide) rfl (fun ls hl => ?_)
  refine lv_iconst (v := iI (1)) hx hb dL_law_20 rfl ?_
  refine c_newa (atype := .double) hx hb (hts (.arrayClass .double) (by decide +kernel)) 5 (ty := .double) rfl rfl hK hC hA (N' := 1) (a0 := (1, .inr (.inr (.inr (.inl (fun _ => UInt64.ofNat (0 : Int).toNat)))))) (fun cA => rfl) (by decide +kernel) (by decide +kernel) (by decide +kernel) (Nat.le_of_ble_eq_true rfl) (Nat.le_of_ble_eq_true rfl) dL_law_21 (fun o2 H hC => ?_)
  refine lv_astore (lv' := [(4, .ref o2), (3, .ref o1), (2, .ref mm), (1, .ref x), (0, .ref b)]) hx hb dL_law_23 hl (by decide) rfl (fun ls hl => ?_)
  refine lv_iconst (v := iI (0)) hx hb dL_law_25 rfl ?_
  refine lv_istore (lv' := [(5, .int (iI 0)), (4, .ref o2), (3, .ref o1), (2, .ref mm), (1, .ref x), (0, .ref b)]) hx hb dL_law_26 hl (by decide) rfl (fun ls hl => ?_)
  obtain ⟨-, hP, hD, hS⟩ := hC
  rw [cwl_two hlen] at hP hD
  have eW : lW5 cy x w5 ++ (mm, Sum.inr (6, lF6 w6)) :: (lX6 cy w6 ++ [(o1, Sum.inl (cy 4, 1, Sum.inr (Sum.inl (fun _ => Int64.ofInt 0))))] ++ [(o2, Sum.inl (cy 5, 1, Sum.inr (Sum.inr (Sum.inr (Sum.inl (fun _ => UInt64.ofNat (0 : Int).toNat))))))]) = lW cy x mm o1 o2 w5 w6 := rfl
  have hG := lW_G (Eq.mp (congrArg (fun z => va_P D vwCl z H) eW) hP) (Eq.mp (congrArg (fun z => va_D A z) eW) hD) hS
  exact law_loop C hA0 hE 512 0 (by omega) (by omega) hG RY_0 GI_st rfl (lv_sub hl [5, 4, 3, 2, 1, 0] rfl) ⟨by decide, by decide⟩
