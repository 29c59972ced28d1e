set_option maxHeartbeats 1000000 in
set_option maxRecDepth 100000 in
theorem mX3_init (l : Launch) (D : va_G) (cy : Nat → ClassId) (ws : va_W) (q0 a sz : Nat)  (hq : ws[q0]? = some (a, .inr (3, [.int (iI 0), .int (iI 0), .int (iI 0)]))) : Met l yX3_init wsX3_init ({ frames := 1, cells := 0, slots := 0, locals := 12 }) (va_Pc [.ref a] (cB D cy ws sz)) (va_Qv (fun _ => True) (cQ D ws sz (fun w => cwl ws q0 a 3 [.int (iI 0), .int (iI 0), .int (iI 1000)] [])) (va_A ws sz)) 0 0 (va_A ws sz) := by
  refine Met.ofW (cc := cX3_init) (maxL := 1) (ret := none) (by decide) rfl ?_
  intro p e s m args below meth c s₁ B hml hv
  obtain ⟨rfl, hsz, hP, hK, hD0⟩ := hv
  have hx := B.exec
  have hb := B.bytes
  have hr := B.returns
  have hts := atoms_spec (ws := wsX3_init) B.pre
  have hown : s.vm.findClass RX3 = some m.cls := findClass_of_methodNamed B.named
  have hlocks := B.notSynchronized
  have hin9 : meth.name = "<init>" := (name_of_methodNamed B.named B.method).1
  subst hsz
  have hA : ∀ q : Nat, s.heap.size ≤ q → va_A ws s.heap.size q := fun q h => Or.inr h
  have hG := c_start hq hP hD0
  have hl := lv_entry ([.ref a]) (n := 1) (Nat.le_of_ble_eq_true rfl)
  rw [lg_entry_eq]
  generalize (lg_sl ([.ref a]) ++ List.replicate (1 - (lg_sl ([.ref a])).length) Slot.unset).toArray = ls at hl ⊢
  have hl : lv_has ls 1 [(0, .ref a)] := hl
  have hinX3 : ∀ w ∈ u_ws RX3 TX3 3, w ∈ wsX3_init := by decide +kernel
  refine lv_aload_n hx hb dX3_init_0 rfl (lv_at hl 0 rfl) ?_
  refine W.objInit hx hb hown (hts (.methodLink RX3 1 objectInit) (List.mem_of_getElem? (i := 1) rfl)) (hts (.instanceMethod objectInit) (List.mem_of_getElem? (i := 2) rfl)) (hts _ (List.mem_of_getElem? (i := 3) rfl)) rfl (by rw [hml]; exact hl.1) rfl dX3_init_1 (Nat.le_of_ble_eq_true rfl) (Nat.le_of_ble_eq_true rfl) ?_
  refine lv_aload_n hx hb dX3_init_4 rfl (lv_at hl 0 rfl) ?_
  refine lv_iconst (v := iI (0)) hx hb dX3_init_5 rfl ?_
  refine c_put hx hb hts hinX3 tyX3 tyX3_ok nmX3 hown hK hG rfl 0 (by decide) (hts (.fieldLink RX3 7 "Crossbarry$Setting" "now" "I") (by decide +kernel)) (fun _ h9 => h9) rfl (ty := .int) (by decide +kernel) rfl rfl (Nat.le_of_ble_eq_true rfl) dX3_init_6 (fun H locs hG => ?_)
  have hG : CG D (va_A ws s.heap.size) s.heap ws q0 a 3 [.int (iI 0), .int (iI 0), .int (iI 0)] [] H locs := hG
  refine lv_aload_n hx hb dX3_init_9 rfl (lv_at hl 0 rfl) ?_
  refine lv_iconst (v := iI (0)) hx hb dX3_init_10 rfl ?_
  refine c_put hx hb hts hinX3 tyX3 tyX3_ok nmX3 hown hK hG rfl 1 (by decide) (hts (.fieldLink RX3 13 "Crossbarry$Setting" "driftHours" "I") (by decide +kernel)) (fun _ h9 => h9) rfl (ty := .int) (by decide +kernel) rfl rfl (Nat.le_of_ble_eq_true rfl) dX3_init_11 (fun H locs hG => ?_)
  have hG : CG D (va_A ws s.heap.size) s.heap ws q0 a 3 [.int (iI 0), .int (iI 0), .int (iI 0)] [] H locs := hG
  refine lv_aload_n hx hb dX3_init_14 rfl (lv_at hl 0 rfl) ?_
  refine lv_sipush (v := iI (1000)) hx hb dX3_init_15 (by decide +kernel) ?_
  refine c_put hx hb hts hinX3 tyX3 tyX3_ok nmX3 hown hK hG rfl 2 (by decide) (hts (.fieldLink RX3 16 "Crossbarry$Setting" "mostWear" "I") (by decide +kernel)) (fun _ h9 => h9) rfl (ty := .int) (by decide +kernel) rfl rfl (Nat.le_of_ble_eq_true rfl) dX3_init_18 (fun H locs hG => ?_)
  have hG : CG D (va_A ws s.heap.size) s.heap ws q0 a 3 [.int (iI 0), .int (iI 0), .int (iI 1000)] [] H locs := hG
  exact c_vret hx hb hr hlocks (B := fun w => cwl ws q0 a 3 [.int (iI 0), .int (iI 0), .int (iI 1000)] []) hG (fun k => [].getD k 0) rfl dX3_init_21
set_option maxHeartbeats 1000000 in
set_option maxRecDepth 100000 in
theorem mX1_init (l : Launch) (D : va_G) (cy : Nat → ClassId) (ws : va_W) (q0 a sz : Nat)  (hq : ws[q0]? = some (a, .inr (1, [.null, .null, .int (iI 0)]))) : Met l yX1_init wsX1_init ({ frames := 1, cells := 2, slots := 12, locals := 12 }) (va_Pc [.ref a] (cB D cy ws sz)) (va_Qv (fun _ => True) (cQ D ws sz (fun w => cwl ws q0 a 1 [.ref (w 0), .ref (w 1), .int (iI 0)] [((w 0), .inl (cy 0, 6, .inl (fun _ => iI 0))), ((w 1), .inl (cy 0, 6, .inl (fun _ => iI 0)))])) (va_A ws sz)) 2 12 (va_A ws sz) := by
  refine Met.ofW (cc := cX1_init) (maxL := 1) (ret := none) (by decide) rfl ?_
  intro p e s m args below meth c s₁ B hml hv
  obtain ⟨rfl, hsz, hP, hK, hD0⟩ := hv
  have hx := B.exec
  have hb := B.bytes
  have hr := B.returns
  have hts := atoms_spec (ws := wsX1_init) B.pre
  have hown : s.vm.findClass RX1 = some m.cls := findClass_of_methodNamed B.named
  have hlocks := B.notSynchronized
  have hin9 : meth.name = "<init>" := (name_of_methodNamed B.named B.method).1
  subst hsz
  have hA : ∀ q : Nat, s.heap.size ≤ q → va_A ws s.heap.size q := fun q h => Or.inr h
  have hG := c_start hq hP hD0
  have hl := lv_entry ([.ref a]) (n := 1) (Nat.le_of_ble_eq_true rfl)
  rw [lg_entry_eq]
  generalize (lg_sl ([.ref a]) ++ List.replicate (1 - (lg_sl ([.ref a])).length) Slot.unset).toArray = ls at hl ⊢
  have hl : lv_has ls 1 [(0, .ref a)] := hl
  have hinX1 : ∀ w ∈ u_ws RX1 TX1 3, w ∈ wsX1_init := by decide +kernel
  refine lv_aload_n hx hb dX1_init_0 rfl (lv_at hl 0 rfl) ?_
  refine W.objInit hx hb hown (hts (.methodLink RX1 3 objectInit) (List.mem_of_getElem? (i := 1) rfl)) (hts (.instanceMethod objectInit) (List.mem_of_getElem? (i := 2) rfl)) (hts _ (List.mem_of_getElem? (i := 3) rfl)) rfl (by rw [hml]; exact hl.1) rfl dX1_init_1 (Nat.le_of_ble_eq_true rfl) (Nat.le_of_ble_eq_true rfl) ?_
  refine lv_aload_n hx hb dX1_init_4 rfl (lv_at hl 0 rfl) ?_
  refine lv_bipush (v := iI (6)) hx hb dX1_init_5 (by decide +kernel) ?_
  refine c_newa (atype := .int) hx hb (hts (.arrayClass .int) (by decide +kernel)) 0 (ty := .int) rfl rfl hK hG hA (N' := 6) (c_defi 6) (by decide +kernel) (by decide +kernel) (by decide +kernel) (Nat.le_of_ble_eq_true rfl) (Nat.le_of_ble_eq_true rfl) dX1_init_7 (fun q1 H hG => ?_)
  have hG : CG D (va_A ws s.heap.size) s.heap ws q0 a 1 [.null, .null, .int (iI 0)] [(q1, .inl (cy 0, 6, .inl (fun _ => iI 0)))] H [] := hG
  refine c_putF hx hb hts hinX1 tyX1 tyX1_ok nmX1 hown hK hG rfl 0 (by decide) (hts (.fieldLink RX1 9 "Crossbarry$Pipeline" "takes" "[I") (by decide +kernel)) (fun _ h9 => h9) rfl hin9 rfl (ty := .array .int) (by decide +kernel) rfl rfl (Nat.le_of_ble_eq_true rfl) dX1_init_9 (fun H locs hG => ?_)
  have hG : CG D (va_A ws s.heap.size) s.heap ws q0 a 1 [.ref q1, .null, .int (iI 0)] [(q1, .inl (cy 0, 6, .inl (fun _ => iI 0)))] H locs := hG
  refine lv_aload_n hx hb dX1_init_12 rfl (lv_at hl 0 rfl) ?_
  refine lv_bipush (v := iI (6)) hx hb dX1_init_13 (by decide +kernel) ?_
  refine c_newa (atype := .int) hx hb (hts (.arrayClass .int) (by decide +kernel)) 0 (ty := .int) rfl rfl hK hG hA (N' := 6) (c_defi 6) (by decide +kernel) (by decide +kernel) (by decide +kernel) (Nat.le_of_ble_eq_true rfl) (Nat.le_of_ble_eq_true rfl) dX1_init_15 (fun q2 H hG => ?_)
  have hG : CG D (va_A ws s.heap.size) s.heap ws q0 a 1 [.ref q1, .null, .int (iI 0)] [(q1, .inl (cy 0, 6, .inl (fun _ => iI 0))), (q2, .inl (cy 0, 6, .inl (fun _ => iI 0)))] H locs := hG
  refine c_putF hx hb hts hinX1 tyX1 tyX1_ok nmX1 hown hK hG rfl 1 (by decide) (hts (.fieldLink RX1 15 "Crossbarry$Pipeline" "left" "[I") (by decide +kernel)) (fun _ h9 => h9) rfl hin9 rfl (ty := .array .int) (by decide +kernel) rfl rfl (Nat.le_of_ble_eq_true rfl) dX1_init_17 (fun H locs hG => ?_)
  have hG : CG D (va_A ws s.heap.size) s.heap ws q0 a 1 [.ref q1, .ref q2, .int (iI 0)] [(q1, .inl (cy 0, 6, .inl (fun _ => iI 0))), (q2, .inl (cy 0, 6, .inl (fun _ => iI 0)))] H locs := hG
  refine lv_aload_n hx hb dX1_init_20 rfl (lv_at hl 0 rfl) ?_
  refine lv_iconst (v := iI (0)) hx hb dX1_init_21 rfl ?_
  refine c_put hx hb hts hinX1 tyX1 tyX1_ok nmX1 hown hK hG rfl 2 (by decide) (hts (.fieldLink RX1 18 "Crossbarry$Pipeline" "stages" "I") (by decide +kernel)) (fun _ h9 => h9) rfl (ty := .int) (by decide +kernel) rfl rfl (Nat.le_of_ble_eq_true rfl) dX1_init_22 (fun H locs hG => ?_)
  have hG : CG D (va_A ws s.heap.size) s.heap ws q0 a 1 [.ref q1, .ref q2, .int (iI 0)] [(q1, .inl (cy 0, 6, .inl (fun _ => iI 0))), (q2, .inl (cy 0, 6, .inl (fun _ => iI 0)))] H locs := hG
  exact c_vret hx hb hr hlocks (B := fun w => cwl ws q0 a 1 [.ref (w 0), .ref (w 1), .int (iI 0)] [((w 0), .inl (cy 0, 6, .inl (fun _ => iI 0))), ((w 1), .inl (cy 0, 6, .inl (fun _ => iI 0)))]) hG (fun k => [q1, q2].getD k 0) rfl dX1_init_25
set_option maxHeartbeats 1000000 in
set_option maxRecDepth 100000 in
theorem mX2_init (l : Launch) (D : va_G) (cy : Nat → ClassId) (ws : va_W) (q0 a sz : Nat)  (hq : ws[q0]? = some (a, .inr (2, [.null, .null]))) : Met l yX2_init wsX2_init ({ frames := 1, cells := 2, slots := 320, locals := 12 }) (va_Pc [.ref a] (cB D cy ws sz)) (va_Qv (fun _ => True) (cQ D ws sz (fun w => cwl ws q0 a 2 [.ref (w 0), .ref (w 1)] [((w 0), .inl (cy 0, 64, .inl (fun _ => iI 0))), ((w 1), .inl (cy 0, 256, .inl (fun _ => iI 0)))])) (va_A ws sz)) 2 320 (va_A ws sz) := by
  refine Met.ofW (cc := cX2_init) (maxL := 1) (ret := none) (by decide) rfl ?_
  intro p e s m args below meth c s₁ B hml hv
  obtain ⟨rfl, hsz, hP, hK, hD0⟩ := hv
  have hx := B.exec
  have hb := B.bytes
  have hr := B.returns
  have hts := atoms_spec (ws := wsX2_init) B.pre
  have hown : s.vm.findClass RX2 = some m.cls := findClass_of_methodNamed B.named
  have hlocks := B.notSynchronized
  have hin9 : meth.name = "<init>" := (name_of_methodNamed B.named B.method).1
  subst hsz
  have hA : ∀ q : Nat, s.heap.size ≤ q → va_A ws s.heap.size q := fun q h => Or.inr h
  have hG := c_start hq hP hD0
  have hl := lv_entry ([.ref a]) (n := 1) (Nat.le_of_ble_eq_true rfl)
  rw [lg_entry_eq]
  generalize (lg_sl ([.ref a]) ++ List.replicate (1 - (lg_sl ([.ref a])).length) Slot.unset).toArray = ls at hl ⊢
  have hl : lv_has ls 1 [(0, .ref a)] := hl
  have hinX2 : ∀ w ∈ u_ws RX2 TX2 2, w ∈ wsX2_init := by decide +kernel
  refine lv_aload_n hx hb dX2_init_0 rfl (lv_at hl 0 rfl) ?_
  refine W.objInit hx hb hown (hts (.methodLink RX2 3 objectInit) (List.mem_of_getElem? (i := 1) rfl)) (hts (.instanceMethod objectInit) (List.mem_of_getElem? (i := 2) rfl)) (hts _ (List.mem_of_getElem? (i := 3) rfl)) rfl (by rw [hml]; exact hl.1) rfl dX2_init_1 (Nat.le_of_ble_eq_true rfl) (Nat.le_of_ble_eq_true rfl) ?_
  refine lv_aload_n hx hb dX2_init_4 rfl (lv_at hl 0 rfl) ?_
  refine lv_bipush (v := iI (64)) hx hb dX2_init_5 (by decide +kernel) ?_
  refine c_newa (atype := .int) hx hb (hts (.arrayClass .int) (by decide +kernel)) 0 (ty := .int) rfl rfl hK hG hA (N' := 64) (c_defi 64) (by decide +kernel) (by decide +kernel) (by decide +kernel) (Nat.le_of_ble_eq_true rfl) (Nat.le_of_ble_eq_true rfl) dX2_init_7 (fun q1 H hG => ?_)
  have hG : CG D (va_A ws s.heap.size) s.heap ws q0 a 2 [.null, .null] [(q1, .inl (cy 0, 64, .inl (fun _ => iI 0)))] H [] := hG
  refine c_putF hx hb hts hinX2 tyX2 tyX2_ok nmX2 hown hK hG rfl 0 (by decide) (hts (.fieldLink RX2 9 "Crossbarry$Seating" "misfitTable" "[I") (by decide +kernel)) (fun _ h9 => h9) rfl hin9 rfl (ty := .array .int) (by decide +kernel) rfl rfl (Nat.le_of_ble_eq_true rfl) dX2_init_9 (fun H locs hG => ?_)
  have hG : CG D (va_A ws s.heap.size) s.heap ws q0 a 2 [.ref q1, .null] [(q1, .inl (cy 0, 64, .inl (fun _ => iI 0)))] H locs := hG
  refine lv_aload_n hx hb dX2_init_12 rfl (lv_at hl 0 rfl) ?_
  refine lv_sipush (v := iI (256)) hx hb dX2_init_13 (by decide +kernel) ?_
  refine c_newa (atype := .int) hx hb (hts (.arrayClass .int) (by decide +kernel)) 0 (ty := .int) rfl rfl hK hG hA (N' := 256) (c_defi 256) (by decide +kernel) (by decide +kernel) (by decide +kernel) (Nat.le_of_ble_eq_true rfl) (Nat.le_of_ble_eq_true rfl) dX2_init_16 (fun q2 H hG => ?_)
  have hG : CG D (va_A ws s.heap.size) s.heap ws q0 a 2 [.ref q1, .null] [(q1, .inl (cy 0, 64, .inl (fun _ => iI 0))), (q2, .inl (cy 0, 256, .inl (fun _ => iI 0)))] H locs := hG
  refine c_putF hx hb hts hinX2 tyX2 tyX2_ok nmX2 hown hK hG rfl 1 (by decide) (hts (.fieldLink RX2 15 "Crossbarry$Seating" "fewest" "[I") (by decide +kernel)) (fun _ h9 => h9) rfl hin9 rfl (ty := .array .int) (by decide +kernel) rfl rfl (Nat.le_of_ble_eq_true rfl) dX2_init_18 (fun H locs hG => ?_)
  have hG : CG D (va_A ws s.heap.size) s.heap ws q0 a 2 [.ref q1, .ref q2] [(q1, .inl (cy 0, 64, .inl (fun _ => iI 0))), (q2, .inl (cy 0, 256, .inl (fun _ => iI 0)))] H locs := hG
  exact c_vret hx hb hr hlocks (B := fun w => cwl ws q0 a 2 [.ref (w 0), .ref (w 1)] [((w 0), .inl (cy 0, 64, .inl (fun _ => iI 0))), ((w 1), .inl (cy 0, 256, .inl (fun _ => iI 0)))]) hG (fun k => [q1, q2].getD k 0) rfl dX2_init_21
set_option maxHeartbeats 1000000 in
set_option maxRecDepth 100000 in
theorem mX0_init (l : Launch) (D : va_G) (cy : Nat → ClassId) (ws : va_W) (q0 a sz : Nat) (x0 : Int) (x1 : Int) (x2 : Int) (hq : ws[q0]? = some (a, .inr (0, [.int (iI 0), .int (iI 0), .int (iI 0), .null, .null, .int (iI 0), .null, .null]))) : Met l yX0_init wsX0_init ({ frames := 1, cells := 2, slots := 40, locals := 12 }) (va_Pc [.ref a, .int (iI x0), .int (iI x1), .int (iI x2)] (cB D cy ws sz)) (va_Qv (fun _ => True) (cQ D ws sz (fun w => cwl ws q0 a 0 [.int (iI x0), .int (iI x1), .int (iI x2), .ref (w 0), .ref (w 1), .int (iI 0), .null, .null] [((w 0), .inl (cy 0, 32, .inl (fun _ => iI 0))), ((w 1), .inl (cy 0, 8, .inl (fun _ => iI 0)))])) (va_A ws sz)) 2 40 (va_A ws sz) := by
  refine Met.ofW (cc := cX0_init) (maxL := 4) (ret := none) (by decide) rfl ?_
  intro p e s m args below meth c s₁ B hml hv
  obtain ⟨rfl, hsz, hP, hK, hD0⟩ := hv
  have hx := B.exec
  have hb := B.bytes
  have hr := B.returns
  have hts := atoms_spec (ws := wsX0_init) B.pre
  have hown : s.vm.findClass RX0 = some m.cls := findClass_of_methodNamed B.named
  have hlocks := B.notSynchronized
  have hin9 : meth.name = "<init>" := (name_of_methodNamed B.named B.method).1
  subst hsz
  have hA : ∀ q : Nat, s.heap.size ≤ q → va_A ws s.heap.size q := fun q h => Or.inr h
  have hG := c_start hq hP hD0
  have hl := lv_entry ([.ref a, .int (iI x0), .int (iI x1), .int (iI x2)]) (n := 4) (Nat.le_of_ble_eq_true rfl)
  rw [lg_entry_eq]
  generalize (lg_sl ([.ref a, .int (iI x0), .int (iI x1), .int (iI x2)]) ++ List.replicate (4 - (lg_sl ([.ref a, .int (iI x0), .int (iI x1), .int (iI x2)])).length) Slot.unset).toArray = ls at hl ⊢
  have hl : lv_has ls 4 [(0, .ref a), (1, .int (iI x0)), (2, .int (iI x1)), (3, .int (iI x2))] := hl
  have hinX0 : ∀ w ∈ u_ws RX0 TX0 8, w ∈ wsX0_init := by decide +kernel
  refine lv_aload_n hx hb dX0_init_0 rfl (lv_at hl 0 rfl) ?_
  refine W.objInit hx hb hown (hts (.methodLink RX0 3 objectInit) (List.mem_of_getElem? (i := 1) rfl)) (hts (.instanceMethod objectInit) (List.mem_of_getElem? (i := 2) rfl)) (hts _ (List.mem_of_getElem? (i := 3) rfl)) rfl (by rw [hml]; exact hl.1) rfl dX0_init_1 (Nat.le_of_ble_eq_true rfl) (Nat.le_of_ble_eq_true rfl) ?_
  refine lv_aload_n hx hb dX0_init_4 rfl (lv_at hl 0 rfl) ?_
  refine lv_bipush (v := iI (32)) hx hb dX0_init_5 (by decide +kernel) ?_
  refine c_newa (atype := .int) hx hb (hts (.arrayClass .int) (by decide +kernel)) 0 (ty := .int) rfl rfl hK hG hA (N' := 32) (c_defi 32) (by decide +kernel) (by decide +kernel) (by decide +kernel) (Nat.le_of_ble_eq_true rfl) (Nat.le_of_ble_eq_true rfl) dX0_init_7 (fun q1 H hG => ?_)
  have hG : CG D (va_A ws s.heap.size) s.heap ws q0 a 0 [.int (iI 0), .int (iI 0), .int (iI 0), .null, .null, .int (iI 0), .null, .null] [(q1, .inl (cy 0, 32, .inl (fun _ => iI 0)))] H [] := hG
  refine c_putF hx hb hts hinX0 tyX0 tyX0_ok nmX0 hown hK hG rfl 3 (by decide) (hts (.fieldLink RX0 9 "Crossbarry$Layer" "weights" "[I") (by decide +kernel)) (fun _ h9 => h9) rfl hin9 rfl (ty := .array .int) (by decide +kernel) rfl rfl (Nat.le_of_ble_eq_true rfl) dX0_init_9 (fun H locs hG => ?_)
  have hG : CG D (va_A ws s.heap.size) s.heap ws q0 a 0 [.int (iI 0), .int (iI 0), .int (iI 0), .ref q1, .null, .int (iI 0), .null, .null] [(q1, .inl (cy 0, 32, .inl (fun _ => iI 0)))] H locs := hG
  refine lv_aload_n hx hb dX0_init_12 rfl (lv_at hl 0 rfl) ?_
  refine lv_bipush (v := iI (8)) hx hb dX0_init_13 (by decide +kernel) ?_
  refine c_newa (atype := .int) hx hb (hts (.arrayClass .int) (by decide +kernel)) 0 (ty := .int) rfl rfl hK hG hA (N' := 8) (c_defi 8) (by decide +kernel) (by decide +kernel) (by decide +kernel) (Nat.le_of_ble_eq_true rfl) (Nat.le_of_ble_eq_true rfl) dX0_init_15 (fun q2 H hG => ?_)
  have hG : CG D (va_A ws s.heap.size) s.heap ws q0 a 0 [.int (iI 0), .int (iI 0), .int (iI 0), .ref q1, .null, .int (iI 0), .null, .null] [(q1, .inl (cy 0, 32, .inl (fun _ => iI 0))), (q2, .inl (cy 0, 8, .inl (fun _ => iI 0)))] H locs := hG
  refine c_putF hx hb hts hinX0 tyX0 tyX0_ok nmX0 hown hK hG rfl 4 (by decide) (hts (.fieldLink RX0 15 "Crossbarry$Layer" "rows" "[I") (by decide +kernel)) (fun _ h9 => h9) rfl hin9 rfl (ty := .array .int) (by decide +kernel) rfl rfl (Nat.le_of_ble_eq_true rfl) dX0_init_17 (fun H locs hG => ?_)
  have hG : CG D (va_A ws s.heap.size) s.heap ws q0 a 0 [.int (iI 0), .int (iI 0), .int (iI 0), .ref q1, .ref q2, .int (iI 0), .null, .null] [(q1, .inl (cy 0, 32, .inl (fun _ => iI 0))), (q2, .inl (cy 0, 8, .inl (fun _ => iI 0)))] H locs := hG
  refine lv_aload_n hx hb dX0_init_20 rfl (lv_at hl 0 rfl) ?_
  refine lv_iconst (v := iI (0)) hx hb dX0_init_21 rfl ?_
  refine c_put hx hb hts hinX0 tyX0 tyX0_ok nmX0 hown hK hG rfl 5 (by decide) (hts (.fieldLink RX0 18 "Crossbarry$Layer" "shiftBy" "I") (by decide +kernel)) (fun _ h9 => h9) rfl (ty := .int) (by decide +kernel) rfl rfl (Nat.le_of_ble_eq_true rfl) dX0_init_22 (fun H locs hG => ?_)
  have hG : CG D (va_A ws s.heap.size) s.heap ws q0 a 0 [.int (iI 0), .int (iI 0), .int (iI 0), .ref q1, .ref q2, .int (iI 0), .null, .null] [(q1, .inl (cy 0, 32, .inl (fun _ => iI 0))), (q2, .inl (cy 0, 8, .inl (fun _ => iI 0)))] H locs := hG
  refine lv_aload_n hx hb dX0_init_25 rfl (lv_at hl 0 rfl) ?_
  refine lv_null hx hb dX0_init_26 ?_
  refine c_put hx hb hts hinX0 tyX0 tyX0_ok nmX0 hown hK hG rfl 6 (by decide) (hts (.fieldLink RX0 22 "Crossbarry$Layer" "nextLayer" "LCrossbarry$Layer;") (by decide +kernel)) (fun _ h9 => h9) rfl (ty := .object "Crossbarry$Layer") (by decide +kernel) rfl rfl (Nat.le_of_ble_eq_true rfl) dX0_init_27 (fun H locs hG => ?_)
  have hG : CG D (va_A ws s.heap.size) s.heap ws q0 a 0 [.int (iI 0), .int (iI 0), .int (iI 0), .ref q1, .ref q2, .int (iI 0), .null, .null] [(q1, .inl (cy 0, 32, .inl (fun _ => iI 0))), (q2, .inl (cy 0, 8, .inl (fun _ => iI 0)))] H locs := hG
  refine lv_aload_n hx hb dX0_init_30 rfl (lv_at hl 0 rfl) ?_
  refine lv_null hx hb dX0_init_31 ?_
  refine c_put hx hb hts hinX0 tyX0 tyX0_ok nmX0 hown hK hG rfl 7 (by decide) (hts (.fieldLink RX0 26 "Crossbarry$Layer" "ground" "LCrossbarry$Tile;") (by decide +kernel)) (fun _ h9 => h9) rfl (ty := .object "Crossbarry$Tile") (by decide +kernel) rfl rfl (Nat.le_of_ble_eq_true rfl) dX0_init_32 (fun H locs hG => ?_)
  have hG : CG D (va_A ws s.heap.size) s.heap ws q0 a 0 [.int (iI 0), .int (iI 0), .int (iI 0), .ref q1, .ref q2, .int (iI 0), .null, .null] [(q1, .inl (cy 0, 32, .inl (fun _ => iI 0))), (q2, .inl (cy 0, 8, .inl (fun _ => iI 0)))] H locs := hG
  refine lv_aload_n hx hb dX0_init_35 rfl (lv_at hl 0 rfl) ?_
  refine lv_iload_n hx hb dX0_init_36 rfl (lv_at hl 1 rfl) ?_
  refine c_putF hx hb hts hinX0 tyX0 tyX0_ok nmX0 hown hK hG rfl 0 (by decide) (hts (.fieldLink RX0 30 "Crossbarry$Layer" "number" "I") (by decide +kernel)) (fun _ h9 => h9) rfl hin9 rfl (ty := .int) (by decide +kernel) rfl rfl (Nat.le_of_ble_eq_true rfl) dX0_init_37 (fun H locs hG => ?_)
  have hG : CG D (va_A ws s.heap.size) s.heap ws q0 a 0 [.int (iI x0), .int (iI 0), .int (iI 0), .ref q1, .ref q2, .int (iI 0), .null, .null] [(q1, .inl (cy 0, 32, .inl (fun _ => iI 0))), (q2, .inl (cy 0, 8, .inl (fun _ => iI 0)))] H locs := hG
  refine lv_aload_n hx hb dX0_init_40 rfl (lv_at hl 0 rfl) ?_
  refine lv_iload_n hx hb dX0_init_41 rfl (lv_at hl 2 rfl) ?_
  refine c_putF hx hb hts hinX0 tyX0 tyX0_ok nmX0 hown hK hG rfl 1 (by decide) (hts (.fieldLink RX0 33 "Crossbarry$Layer" "inputs" "I") (by decide +kernel)) (fun _ h9 => h9) rfl hin9 rfl (ty := .int) (by decide +kernel) rfl rfl (Nat.le_of_ble_eq_true rfl) dX0_init_42 (fun H locs hG => ?_)
  have hG : CG D (va_A ws s.heap.size) s.heap ws q0 a 0 [.int (iI x0), .int (iI x1), .int (iI 0), .ref q1, .ref q2, .int (iI 0), .null, .null] [(q1, .inl (cy 0, 32, .inl (fun _ => iI 0))), (q2, .inl (cy 0, 8, .inl (fun _ => iI 0)))] H locs := hG
  refine lv_aload_n hx hb dX0_init_45 rfl (lv_at hl 0 rfl) ?_
  refine lv_iload_n hx hb dX0_init_46 rfl (lv_at hl 3 rfl) ?_
  refine c_putF hx hb hts hinX0 tyX0 tyX0_ok nmX0 hown hK hG rfl 2 (by decide) (hts (.fieldLink RX0 36 "Crossbarry$Layer" "outputs" "I") (by decide +kernel)) (fun _ h9 => h9) rfl hin9 rfl (ty := .int) (by decide +kernel) rfl rfl (Nat.le_of_ble_eq_true rfl) dX0_init_47 (fun H locs hG => ?_)
  have hG : CG D (va_A ws s.heap.size) s.heap ws q0 a 0 [.int (iI x0), .int (iI x1), .int (iI x2), .ref q1, .ref q2, .int (iI 0), .null, .null] [(q1, .inl (cy 0, 32, .inl (fun _ => iI 0))), (q2, .inl (cy 0, 8, .inl (fun _ => iI 0)))] H locs := hG
  exact c_vret hx hb hr hlocks (B := fun w => cwl ws q0 a 0 [.int (iI x0), .int (iI x1), .int (iI x2), .ref (w 0), .ref (w 1), .int (iI 0), .null, .null] [((w 0), .inl (cy 0, 32, .inl (fun _ => iI 0))), ((w 1), .inl (cy 0, 8, .inl (fun _ => iI 0)))]) hG (fun k => [q1, q2].getD k 0) rfl dX0_init_50
set_option maxHeartbeats 1000000 in
set_option maxRecDepth 100000 in
theorem mX4_init (l : Launch) (D : va_G) (cy : Nat → ClassId) (ws : va_W) (q0 a sz : Nat) (x0 : Int) (hq : ws[q0]? = some (a, .inr (4, [.int (iI 0), .null, .null, .null, .null, .null, .null, .int (iI 0), .int (iI 0), .int (iI 0), .int (iI 0), .int (iI 0)]))) : Met l yX4_init wsX4_init ({ frames := 1, cells := 6, slots := 656, locals := 12 }) (va_Pc [.ref a, .int (iI x0)] (cB D cy ws sz)) (va_Qv (fun _ => True) (cQ D ws sz (fun w => cwl ws q0 a 4 [.int (iI x0), .ref (w 0), .ref (w 1), .ref (w 2), .ref (w 3), .ref (w 4), .ref (w 5), .int (iI 1), .int (iI 127), .int (iI 0), .int (iI 4), .int (iI 0)] [((w 0), .inl (cy 0, 128, .inl (fun _ => iI 0))), ((w 1), .inl (cy 0, 128, .inl (fun _ => iI 0))), ((w 2), .inl (cy 0, 128, .inl (fun _ => iI 0))), ((w 3), .inl (cy 1, 128, .inl (fun _ => iI 0))), ((w 4), .inl (cy 1, 128, .inl (fun _ => iI 0))), ((w 5), .inl (cy 0, 16, .inl (fun _ => iI 0)))])) (va_A ws sz)) 6 656 (va_A ws sz) := by
  refine Met.ofW (cc := cX4_init) (maxL := 2) (ret := none) (by decide) rfl ?_
  intro p e s m args below meth c s₁ B hml hv
  obtain ⟨rfl, hsz, hP, hK, hD0⟩ := hv
  have hx := B.exec
  have hb := B.bytes
  have hr := B.returns
  have hts := atoms_spec (ws := wsX4_init) B.pre
  have hown : s.vm.findClass RX4 = some m.cls := findClass_of_methodNamed B.named
  have hlocks := B.notSynchronized
  have hin9 : meth.name = "<init>" := (name_of_methodNamed B.named B.method).1
  subst hsz
  have hA : ∀ q : Nat, s.heap.size ≤ q → va_A ws s.heap.size q := fun q h => Or.inr h
  have hG := c_start hq hP hD0
  have hl := lv_entry ([.ref a, .int (iI x0)]) (n := 2) (Nat.le_of_ble_eq_true rfl)
  rw [lg_entry_eq]
  generalize (lg_sl ([.ref a, .int (iI x0)]) ++ List.replicate (2 - (lg_sl ([.ref a, .int (iI x0)])).length) Slot.unset).toArray = ls at hl ⊢
  have hl : lv_has ls 2 [(0, .ref a), (1, .int (iI x0))] := hl
  have hinX4 : ∀ w ∈ u_ws RX4 TX4 12, w ∈ wsX4_init := by decide +kernel
  refine lv_aload_n hx hb dX4_init_0 rfl (lv_at hl 0 rfl) ?_
  refine W.objInit hx hb hown (hts (.methodLink RX4 3 objectInit) (List.mem_of_getElem? (i := 1) rfl)) (hts (.instanceMethod objectInit) (List.mem_of_getElem? (i := 2) rfl)) (hts _ (List.mem_of_getElem? (i := 3) rfl)) rfl (by rw [hml]; exact hl.1) rfl dX4_init_1 (Nat.le_of_ble_eq_true rfl) (Nat.le_of_ble_eq_true rfl) ?_
  refine lv_aload_n hx hb dX4_init_4 rfl (lv_at hl 0 rfl) ?_
  refine lv_sipush (v := iI (128)) hx hb dX4_init_5 (by decide +kernel) ?_
  refine c_newa (atype := .int) hx hb (hts (.arrayClass .int) (by decide +kernel)) 0 (ty := .int) rfl rfl hK hG hA (N' := 128) (c_defi 128) (by decide +kernel) (by decide +kernel) (by decide +kernel) (Nat.le_of_ble_eq_true rfl) (Nat.le_of_ble_eq_true rfl) dX4_init_8 (fun q1 H hG => ?_)
  have hG : CG D (va_A ws s.heap.size) s.heap ws q0 a 4 [.int (iI 0), .null, .null, .null, .null, .null, .null, .int (iI 0), .int (iI 0), .int (iI 0), .int (iI 0), .int (iI 0)] [(q1, .inl (cy 0, 128, .inl (fun _ => iI 0)))] H [] := hG
  refine c_putF hx hb hts hinX4 tyX4 tyX4_ok nmX4 hown hK hG rfl 1 (by decide) (hts (.fieldLink RX4 9 "Crossbarry$Tile" "states" "[I") (by decide +kernel)) (fun _ h9 => h9) rfl hin9 rfl (ty := .array .int) (by decide +kernel) rfl rfl (Nat.le_of_ble_eq_true rfl) dX4_init_10 (fun H locs hG => ?_)
  have hG : CG D (va_A ws s.heap.size) s.heap ws q0 a 4 [.int (iI 0), .ref q1, .null, .null, .null, .null, .null, .int (iI 0), .int (iI 0), .int (iI 0), .int (iI 0), .int (iI 0)] [(q1, .inl (cy 0, 128, .inl (fun _ => iI 0)))] H locs := hG
  refine lv_aload_n hx hb dX4_init_13 rfl (lv_at hl 0 rfl) ?_
  refine lv_sipush (v := iI (128)) hx hb dX4_init_14 (by decide +kernel) ?_
  refine c_newa (atype := .int) hx hb (hts (.arrayClass .int) (by decide +kernel)) 0 (ty := .int) rfl rfl hK hG hA (N' := 128) (c_defi 128) (by decide +kernel) (by decide +kernel) (by decide +kernel) (Nat.le_of_ble_eq_true rfl) (Nat.le_of_ble_eq_true rfl) dX4_init_17 (fun q2 H hG => ?_)
  have hG : CG D (va_A ws s.heap.size) s.heap ws q0 a 4 [.int (iI 0), .ref q1, .null, .null, .null, .null, .null, .int (iI 0), .int (iI 0), .int (iI 0), .int (iI 0), .int (iI 0)] [(q1, .inl (cy 0, 128, .inl (fun _ => iI 0))), (q2, .inl (cy 0, 128, .inl (fun _ => iI 0)))] H locs := hG
  refine c_putF hx hb hts hinX4 tyX4 tyX4_ok nmX4 hown hK hG rfl 2 (by decide) (hts (.fieldLink RX4 15 "Crossbarry$Tile" "wears" "[I") (by decide +kernel)) (fun _ h9 => h9) rfl hin9 rfl (ty := .array .int) (by decide +kernel) rfl rfl (Nat.le_of_ble_eq_true rfl) dX4_init_19 (fun H locs hG => ?_)
  have hG : CG D (va_A ws s.heap.size) s.heap ws q0 a 4 [.int (iI 0), .ref q1, .ref q2, .null, .null, .null, .null, .int (iI 0), .int (iI 0), .int (iI 0), .int (iI 0), .int (iI 0)] [(q1, .inl (cy 0, 128, .inl (fun _ => iI 0))), (q2, .inl (cy 0, 128, .inl (fun _ => iI 0)))] H locs := hG
  refine lv_aload_n hx hb dX4_init_22 rfl (lv_at hl 0 rfl) ?_
  refine lv_sipush (v := iI (128)) hx hb dX4_init_23 (by decide +kernel) ?_
  refine c_newa (atype := .int) hx hb (hts (.arrayClass .int) (by decide +kernel)) 0 (ty := .int) rfl rfl hK hG hA (N' := 128) (c_defi 128) (by decide +kernel) (by decide +kernel) (by decide +kernel) (Nat.le_of_ble_eq_true rfl) (Nat.le_of_ble_eq_true rfl) dX4_init_26 (fun q3 H hG => ?_)
  have hG : CG D (va_A ws s.heap.size) s.heap ws q0 a 4 [.int (iI 0), .ref q1, .ref q2, .null, .null, .null, .null, .int (iI 0), .int (iI 0), .int (iI 0), .int (iI 0), .int (iI 0)] [(q1, .inl (cy 0, 128, .inl (fun _ => iI 0))), (q2, .inl (cy 0, 128, .inl (fun _ => iI 0))), (q3, .inl (cy 0, 128, .inl (fun _ => iI 0)))] H locs := hG
  refine c_putF hx hb hts hinX4 tyX4 tyX4_ok nmX4 hown hK hG rfl 3 (by decide) (hts (.fieldLink RX4 18 "Crossbarry$Tile" "hours" "[I") (by decide +kernel)) (fun _ h9 => h9) rfl hin9 rfl (ty := .array .int) (by decide +kernel) rfl rfl (Nat.le_of_ble_eq_true rfl) dX4_init_28 (fun H locs hG => ?_)
  have hG : CG D (va_A ws s.heap.size) s.heap ws q0 a 4 [.int (iI 0), .ref q1, .ref q2, .ref q3, .null, .null, .null, .int (iI 0), .int (iI 0), .int (iI 0), .int (iI 0), .int (iI 0)] [(q1, .inl (cy 0, 128, .inl (fun _ => iI 0))), (q2, .inl (cy 0, 128, .inl (fun _ => iI 0))), (q3, .inl (cy 0, 128, .inl (fun _ => iI 0)))] H locs := hG
  refine lv_aload_n hx hb dX4_init_31 rfl (lv_at hl 0 rfl) ?_
  refine lv_sipush (v := iI (128)) hx hb dX4_init_32 (by decide +kernel) ?_
  refine c_newa (atype := .boolean) hx hb (hts (.arrayClass .boolean) (by decide +kernel)) 1 (ty := .boolean) rfl rfl hK hG hA (N' := 128) (c_defz 128) (by decide +kernel) (by decide +kernel) (by decide +kernel) (Nat.le_of_ble_eq_true rfl) (Nat.le_of_ble_eq_true rfl) dX4_init_35 (fun q4 H hG => ?_)
  have hG : CG D (va_A ws s.heap.size) s.heap ws q0 a 4 [.int (iI 0), .ref q1, .ref q2, .ref q3, .null, .null, .null, .int (iI 0), .int (iI 0), .int (iI 0), .int (iI 0), .int (iI 0)] [(q1, .inl (cy 0, 128, .inl (fun _ => iI 0))), (q2, .inl (cy 0, 128, .inl (fun _ => iI 0))), (q3, .inl (cy 0, 128, .inl (fun _ => iI 0))), (q4, .inl (cy 1, 128, .inl (fun _ => iI 0)))] H locs := hG
  refine c_putF hx hb hts hinX4 tyX4 tyX4_ok nmX4 hown hK hG rfl 4 (by decide) (hts (.fieldLink RX4 21 "Crossbarry$Tile" "isStuck" "[Z") (by decide +kernel)) (fun _ h9 => h9) rfl hin9 rfl (ty := .array .boolean) (by decide +kernel) rfl rfl (Nat.le_of_ble_eq_true rfl) dX4_init_37 (fun H locs hG => ?_)
  have hG : CG D (va_A ws s.heap.size) s.heap ws q0 a 4 [.int (iI 0), .ref q1, .ref q2, .ref q3, .ref q4, .null, .null, .int (iI 0), .int (iI 0), .int (iI 0), .int (iI 0), .int (iI 0)] [(q1, .inl (cy 0, 128, .inl (fun _ => iI 0))), (q2, .inl (cy 0, 128, .inl (fun _ => iI 0))), (q3, .inl (cy 0, 128, .inl (fun _ => iI 0))), (q4, .inl (cy 1, 128, .inl (fun _ => iI 0)))] H locs := hG
  refine lv_aload_n hx hb dX4_init_40 rfl (lv_at hl 0 rfl) ?_
  refine lv_sipush (v := iI (128)) hx hb dX4_init_41 (by decide +kernel) ?_
  refine c_newa (atype := .boolean) hx hb (hts (.arrayClass .boolean) (by decide +kernel)) 1 (ty := .boolean) rfl rfl hK hG hA (N' := 128) (c_defz 128) (by decide +kernel) (by decide +kernel) (by decide +kernel) (Nat.le_of_ble_eq_true rfl) (Nat.le_of_ble_eq_true rfl) dX4_init_44 (fun q5 H hG => ?_)
  have hG : CG D (va_A ws s.heap.size) s.heap ws q0 a 4 [.int (iI 0), .ref q1, .ref q2, .ref q3, .ref q4, .null, .null, .int (iI 0), .int (iI 0), .int (iI 0), .int (iI 0), .int (iI 0)] [(q1, .inl (cy 0, 128, .inl (fun _ => iI 0))), (q2, .inl (cy 0, 128, .inl (fun _ => iI 0))), (q3, .inl (cy 0, 128, .inl (fun _ => iI 0))), (q4, .inl (cy 1, 128, .inl (fun _ => iI 0))), (q5, .inl (cy 1, 128, .inl (fun _ => iI 0)))] H locs := hG
  refine c_putF hx hb hts hinX4 tyX4 tyX4_ok nmX4 hown hK hG rfl 5 (by decide) (hts (.fieldLink RX4 25 "Crossbarry$Tile" "isKnown" "[Z") (by decide +kernel)) (fun _ h9 => h9) rfl hin9 rfl (ty := .array .boolean) (by decide +kernel) rfl rfl (Nat.le_of_ble_eq_true rfl) dX4_init_46 (fun H locs hG => ?_)
  have hG : CG D (va_A ws s.heap.size) s.heap ws q0 a 4 [.int (iI 0), .ref q1, .ref q2, .ref q3, .ref q4, .ref q5, .null, .int (iI 0), .int (iI 0), .int (iI 0), .int (iI 0), .int (iI 0)] [(q1, .inl (cy 0, 128, .inl (fun _ => iI 0))), (q2, .inl (cy 0, 128, .inl (fun _ => iI 0))), (q3, .inl (cy 0, 128, .inl (fun _ => iI 0))), (q4, .inl (cy 1, 128, .inl (fun _ => iI 0))), (q5, .inl (cy 1, 128, .inl (fun _ => iI 0)))] H locs := hG
  refine lv_aload_n hx hb dX4_init_49 rfl (lv_at hl 0 rfl) ?_
  refine lv_bipush (v := iI (16)) hx hb dX4_init_50 (by decide +kernel) ?_
  refine c_newa (atype := .int) hx hb (hts (.arrayClass .int) (by decide +kernel)) 0 (ty := .int) rfl rfl hK hG hA (N' := 16) (c_defi 16) (by decide +kernel) (by decide +kernel) (by decide +kernel) (Nat.le_of_ble_eq_true rfl) (Nat.le_of_ble_eq_true rfl) dX4_init_52 (fun q6 H hG => ?_)
  have hG : CG D (va_A ws s.heap.size) s.heap ws q0 a 4 [.int (iI 0), .ref q1, .ref q2, .ref q3, .ref q4, .ref q5, .null, .int (iI 0), .int (iI 0), .int (iI 0), .int (iI 0), .int (iI 0)] [(q1, .inl (cy 0, 128, .inl (fun _ => iI 0))), (q2, .inl (cy 0, 128, .inl (fun _ => iI 0))), (q3, .inl (cy 0, 128, .inl (fun _ => iI 0))), (q4, .inl (cy 1, 128, .inl (fun _ => iI 0))), (q5, .inl (cy 1, 128, .inl (fun _ => iI 0))), (q6, .inl (cy 0, 16, .inl (fun _ => iI 0)))] H locs := hG
  refine c_putF hx hb hts hinX4 tyX4 tyX4_ok nmX4 hown hK hG rfl 6 (by decide) (hts (.fieldLink RX4 28 "Crossbarry$Tile" "offsets" "[I") (by decide +kernel)) (fun _ h9 => h9) rfl hin9 rfl (ty := .array .int) (by decide +kernel) rfl rfl (Nat.le_of_ble_eq_true rfl) dX4_init_54 (fun H locs hG => ?_)
  have hG : CG D (va_A ws s.heap.size) s.heap ws q0 a 4 [.int (iI 0), .ref q1, .ref q2, .ref q3, .ref q4, .ref q5, .ref q6, .int (iI 0), .int (iI 0), .int (iI 0), .int (iI 0), .int (iI 0)] [(q1, .inl (cy 0, 128, .inl (fun _ => iI 0))), (q2, .inl (cy 0, 128, .inl (fun _ => iI 0))), (q3, .inl (cy 0, 128, .inl (fun _ => iI 0))), (q4, .inl (cy 1, 128, .inl (fun _ => iI 0))), (q5, .inl (cy 1, 128, .inl (fun _ => iI 0))), (q6, .inl (cy 0, 16, .inl (fun _ => iI 0)))] H locs := hG
  refine lv_aload_n hx hb dX4_init_57 rfl (lv_at hl 0 rfl) ?_
  refine lv_iconst (v := iI (1)) hx hb dX4_init_58 rfl ?_
  refine c_put hx hb hts hinX4 tyX4 tyX4_ok nmX4 hown hK hG rfl 7 (by decide) (hts (.fieldLink RX4 31 "Crossbarry$Tile" "readStep" "I") (by decide +kernel)) (fun _ h9 => h9) rfl (ty := .int) (by decide +kernel) rfl rfl (Nat.le_of_ble_eq_true rfl) dX4_init_59 (fun H locs hG => ?_)
  have hG : CG D (va_A ws s.heap.size) s.heap ws q0 a 4 [.int (iI 0), .ref q1, .ref q2, .ref q3, .ref q4, .ref q5, .ref q6, .int (iI 1), .int (iI 0), .int (iI 0), .int (iI 0), .int (iI 0)] [(q1, .inl (cy 0, 128, .inl (fun _ => iI 0))), (q2, .inl (cy 0, 128, .inl (fun _ => iI 0))), (q3, .inl (cy 0, 128, .inl (fun _ => iI 0))), (q4, .inl (cy 1, 128, .inl (fun _ => iI 0))), (q5, .inl (cy 1, 128, .inl (fun _ => iI 0))), (q6, .inl (cy 0, 16, .inl (fun _ => iI 0)))] H locs := hG
  refine lv_aload_n hx hb dX4_init_62 rfl (lv_at hl 0 rfl) ?_
  refine lv_bipush (v := iI (127)) hx hb dX4_init_63 (by decide +kernel) ?_
  refine c_put hx hb hts hinX4 tyX4 tyX4_ok nmX4 hown hK hG rfl 8 (by decide) (hts (.fieldLink RX4 35 "Crossbarry$Tile" "readTop" "I") (by decide +kernel)) (fun _ h9 => h9) rfl (ty := .int) (by decide +kernel) rfl rfl (Nat.le_of_ble_eq_true rfl) dX4_init_65 (fun H locs hG => ?_)
  have hG : CG D (va_A ws s.heap.size) s.heap ws q0 a 4 [.int (iI 0), .ref q1, .ref q2, .ref q3, .ref q4, .ref q5, .ref q6, .int (iI 1), .int (iI 127), .int (iI 0), .int (iI 0), .int (iI 0)] [(q1, .inl (cy 0, 128, .inl (fun _ => iI 0))), (q2, .inl (cy 0, 128, .inl (fun _ => iI 0))), (q3, .inl (cy 0, 128, .inl (fun _ => iI 0))), (q4, .inl (cy 1, 128, .inl (fun _ => iI 0))), (q5, .inl (cy 1, 128, .inl (fun _ => iI 0))), (q6, .inl (cy 0, 16, .inl (fun _ => iI 0)))] H locs := hG
  refine lv_aload_n hx hb dX4_init_68 rfl (lv_at hl 0 rfl) ?_
  refine lv_iconst (v := iI (0)) hx hb dX4_init_69 rfl ?_
  refine c_put hx hb hts hinX4 tyX4 tyX4_ok nmX4 hown hK hG rfl 9 (by decide) (hts (.fieldLink RX4 38 "Crossbarry$Tile" "isCalibrated" "Z") (by decide +kernel)) (fun _ h9 => h9) rfl (ty := .boolean) (by decide +kernel) rfl rfl (Nat.le_of_ble_eq_true rfl) dX4_init_70 (fun H locs hG => ?_)
  have hG : CG D (va_A ws s.heap.size) s.heap ws q0 a 4 [.int (iI 0), .ref q1, .ref q2, .ref q3, .ref q4, .ref q5, .ref q6, .int (iI 1), .int (iI 127), .int (iI 0), .int (iI 0), .int (iI 0)] [(q1, .inl (cy 0, 128, .inl (fun _ => iI 0))), (q2, .inl (cy 0, 128, .inl (fun _ => iI 0))), (q3, .inl (cy 0, 128, .inl (fun _ => iI 0))), (q4, .inl (cy 1, 128, .inl (fun _ => iI 0))), (q5, .inl (cy 1, 128, .inl (fun _ => iI 0))), (q6, .inl (cy 0, 16, .inl (fun _ => iI 0)))] H locs := hG
  refine lv_aload_n hx hb dX4_init_73 rfl (lv_at hl 0 rfl) ?_
  refine lv_iconst (v := iI (4)) hx hb dX4_init_74 rfl ?_
  refine c_put hx hb hts hinX4 tyX4 tyX4_ok nmX4 hown hK hG rfl 10 (by decide) (hts (.fieldLink RX4 42 "Crossbarry$Tile" "converterCount" "I") (by decide +kernel)) (fun _ h9 => h9) rfl (ty := .int) (by decide +kernel) rfl rfl (Nat.le_of_ble_eq_true rfl) dX4_init_75 (fun H locs hG => ?_)
  have hG : CG D (va_A ws s.heap.size) s.heap ws q0 a 4 [.int (iI 0), .ref q1, .ref q2, .ref q3, .ref q4, .ref q5, .ref q6, .int (iI 1), .int (iI 127), .int (iI 0), .int (iI 4), .int (iI 0)] [(q1, .inl (cy 0, 128, .inl (fun _ => iI 0))), (q2, .inl (cy 0, 128, .inl (fun _ => iI 0))), (q3, .inl (cy 0, 128, .inl (fun _ => iI 0))), (q4, .inl (cy 1, 128, .inl (fun _ => iI 0))), (q5, .inl (cy 1, 128, .inl (fun _ => iI 0))), (q6, .inl (cy 0, 16, .inl (fun _ => iI 0)))] H locs := hG
  refine lv_aload_n hx hb dX4_init_78 rfl (lv_at hl 0 rfl) ?_
  refine lv_iconst (v := iI (0)) hx hb dX4_init_79 rfl ?_
  refine c_put hx hb hts hinX4 tyX4 tyX4_ok nmX4 hown hK hG rfl 11 (by decide) (hts (.fieldLink RX4 45 "Crossbarry$Tile" "isTaken" "Z") (by decide +kernel)) (fun _ h9 => h9) rfl (ty := .boolean) (by decide +kernel) rfl rfl (Nat.le_of_ble_eq_true rfl) dX4_init_80 (fun H locs hG => ?_)
  have hG : CG D (va_A ws s.heap.size) s.heap ws q0 a 4 [.int (iI 0), .ref q1, .ref q2, .ref q3, .ref q4, .ref q5, .ref q6, .int (iI 1), .int (iI 127), .int (iI 0), .int (iI 4), .int (iI 0)] [(q1, .inl (cy 0, 128, .inl (fun _ => iI 0))), (q2, .inl (cy 0, 128, .inl (fun _ => iI 0))), (q3, .inl (cy 0, 128, .inl (fun _ => iI 0))), (q4, .inl (cy 1, 128, .inl (fun _ => iI 0))), (q5, .inl (cy 1, 128, .inl (fun _ => iI 0))), (q6, .inl (cy 0, 16, .inl (fun _ => iI 0)))] H locs := hG
  refine lv_aload_n hx hb dX4_init_83 rfl (lv_at hl 0 rfl) ?_
  refine lv_iload_n hx hb dX4_init_84 rfl (lv_at hl 1 rfl) ?_
  refine c_putF hx hb hts hinX4 tyX4 tyX4_ok nmX4 hown hK hG rfl 0 (by decide) (hts (.fieldLink RX4 48 "Crossbarry$Tile" "number" "I") (by decide +kernel)) (fun _ h9 => h9) rfl hin9 rfl (ty := .int) (by decide +kernel) rfl rfl (Nat.le_of_ble_eq_true rfl) dX4_init_85 (fun H locs hG => ?_)
  have hG : CG D (va_A ws s.heap.size) s.heap ws q0 a 4 [.int (iI x0), .ref q1, .ref q2, .ref q3, .ref q4, .ref q5, .ref q6, .int (iI 1), .int (iI 127), .int (iI 0), .int (iI 4), .int (iI 0)] [(q1, .inl (cy 0, 128, .inl (fun _ => iI 0))), (q2, .inl (cy 0, 128, .inl (fun _ => iI 0))), (q3, .inl (cy 0, 128, .inl (fun _ => iI 0))), (q4, .inl (cy 1, 128, .inl (fun _ => iI 0))), (q5, .inl (cy 1, 128, .inl (fun _ => iI 0))), (q6, .inl (cy 0, 16, .inl (fun _ => iI 0)))] H locs := hG
  exact c_vret hx hb hr hlocks (B := fun w => cwl ws q0 a 4 [.int (iI x0), .ref (w 0), .ref (w 1), .ref (w 2), .ref (w 3), .ref (w 4), .ref (w 5), .int (iI 1), .int (iI 127), .int (iI 0), .int (iI 4), .int (iI 0)] [((w 0), .inl (cy 0, 128, .inl (fun _ => iI 0))), ((w 1), .inl (cy 0, 128, .inl (fun _ => iI 0))), ((w 2), .inl (cy 0, 128, .inl (fun _ => iI 0))), ((w 3), .inl (cy 1, 128, .inl (fun _ => iI 0))), ((w 4), .inl (cy 1, 128, .inl (fun _ => iI 0))), ((w 5), .inl (cy 0, 16, .inl (fun _ => iI 0)))]) hG (fun k => [q1, q2, q3, q4, q5, q6].getD k 0) rfl dX4_init_88
