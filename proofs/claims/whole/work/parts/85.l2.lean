set_option maxHeartbeats 400000 in
set_option maxRecDepth 100000 in
theorem mL_converter (l : Launch) (D : va_G) (cy : Nat → ClassId) (ad : Nat → Nat) (n : Nat) (st : St) (sz fz : Nat) (wb : Int) (hn : 75 ≤ n) (hI : GI wb st) (hW : wb ≤ 2000000) (t0 : Int) (a : Int) (b : Int) (ht0 : -2147483648 ≤ t0 ∧ t0 < 2147483648) (ha : -2147483648 ≤ a ∧ a < 2147483648) (hb : -2147483648 ≤ b ∧ b < 2147483648) (hlf : l.stackTraces = false) (hnl : (n : Int) = 75 + 3 * st 33 0 0) (hR : RY st) : vx_Met l yL_converter wsL_converter ({ frames := 8, cells := 3, slots := 18, locals := 137 }) (va_Pc [.ref (ad 21), .int (iI (t0)), .int (iI (a)), .int (iI (b)), .ref (ad 31)] (gB D cy ad n st sz fz)) (va_Qi (fun (r : Int32) (st' : St) => r = iI (kConv t0 a b) ∧ ((kConv t0 a b = 0 ∧ ∃ st1 : St, (st1 = ust (ust st 46 (t0).toNat 0 a) 47 (t0).toNat 0 b) ∧ st' = ust st1 70 0 0 ((iI (1000 * st 46 (t0).toNat 0 + st 47 (t0).toNat 0)).toInt64).toInt) ∨ (kConv t0 a b ≠ 0 ∧ st' = st)) ∧ GI wb st') (gP D cy ad n) (gA n ad sz)) (gX D cy ad n (fun (E : String) (st' : St) => False) (gA n ad sz)) 3 18 (gA n ad sz) := by
  refine vx_ofWH (cc := cL_converter) (maxL := 6) (ret := (some .int)) (hh := [(0, 12, 15, 21), (0, 12, 19, 13)]) (by decide) rfl ?_
  intro p e s m args below meth c s₁ B hml hv
  obtain ⟨rfl, hsz, hP, hK, hD0, hN, hZ⟩ := hv
  have hx := B.exec
  have hb := B.bytes
  have hr := B.returns
  have hts := atoms_spec (ws := wsL_converter) B.pre
  have hown : s.vm.findClass RL = some m.cls := findClass_of_methodNamed B.named
  have hlocks := B.notSynchronized
  have htab : c.exceptionTable.toList = [⟨0, 12, 15, 21⟩, ⟨0, 12, 19, 13⟩] := vx_table (x := yL_converter) B (hts (.codeWith yL_converter cL_converter 6 (some .int) [(0, 12, 15, 21), (0, 12, 19, 13)]) (by decide +kernel))
  subst hsz
  have hA : ∀ q : Nat, s.heap.size ≤ q → gA n ad s.heap.size q := fun q h => Or.inr h
  have hG : GH D cy ad n st (gA n ad s.heap.size) s.heap s.heap [] := ⟨hP, gw_A hD0, va_S.rf⟩
  have hl := lv_entry ([.ref (ad 21), .int (iI (t0)), .int (iI (a)), .int (iI (b)), .ref (ad 31)]) (n := 6) (Nat.le_of_ble_eq_true rfl)
  rw [lg_entry_eq]
  generalize (lg_sl ([.ref (ad 21), .int (iI (t0)), .int (iI (a)), .int (iI (b)), .ref (ad 31)]) ++ List.replicate (6 - (lg_sl ([.ref (ad 21), .int (iI (t0)), .int (iI (a)), .int (iI (b)), .ref (ad 31)])).length) Slot.unset).toArray = ls at hl ⊢
  have hl : lv_has ls 6 [(0, .ref (ad 21)), (1, .int (iI (t0))), (2, .int (iI (a))), (3, .int (iI (b))), (4, .ref (ad 31))] := hl
  have LnA := hts (.classLink RL 13 xA) (by decide +kernel)
  have LnI := hts (.classLink RL 21 xI) (by decide +kernel)
  have hI0 := hI
  refine lv_aload hx hb dL_converter_0 (lv_at hl 4 rfl) ?_
  refine lv_iconst (v := iI (0)) hx hb dL_converter_2 rfl ?_
  refine lv_aload_n hx hb dL_converter_3 rfl (lv_at hl 0 rfl) ?_
  refine lv_iload_n hx hb dL_converter_4 rfl (lv_at hl 1 rfl) ?_
  refine lv_iload_n hx hb dL_converter_5 rfl (lv_at hl 2 rfl) ?_
  refine lv_iload_n hx hb dL_converter_6 rfl (lv_at hl 3 rfl) ?_
  refine gx_goi hG hA (vx_runV (As := [.int (iI (t0)), .int (iI (a)), .int (iI (b))]) (rest := [.int (iI (0)), .ref (ad 31)]) ⟨hx, hb, hml, hown, hts⟩ (mX5_converter l D cy ad n st _ fz wb hn hI (by omega) (t0) (a) (b) (by omega) (by omega) (by omega) hlf hnl hR) (cwV 3 hts gL_converter_X5_converter rfl rfl rfl (by decide +kernel) ⟨Nat.le_of_ble_eq_true rfl, Nat.le_of_ble_eq_true rfl⟩) ⟨g_blind, va_recv hK hG.1 (q0 := 21) (ci := 5) rfl ((gw_at (by omega)).trans (by rw [gC_21 st ad cy])), g_pre hK hG hA hN hZ⟩ rfl rfl hl.1 rfl (lv_room (Nat.le_of_ble_eq_true rfl)) dL_converter_7 ⟨Nat.le_of_ble_eq_true rfl, Nat.le_of_ble_eq_true rfl⟩) (fun E9 st9 H locs ce9 q9 hp hG hce hcv hcl => ?_) (fun r9 st9 H locs hp hG => ?_)
  · skip
    obtain ⟨hxe, hs9⟩ := hp
    rw [hs9] at hG
    clear hs9
    rcases xE2 hxe with ⟨rfl, hk9⟩ | ⟨rfl, hk9⟩
    · skip
      refine g_c0 hown htab (by decide) (by decide) LnI hN (xcIn _ (by simp)) hce hcv hcl ?_
      refine lv_astore (lv' := [(5, .ref (q9)), (0, .ref (ad 21)), (1, .int (iI (t0))), (2, .int (iI (a))), (3, .int (iI (b))), (4, .ref (ad 31))]) hx hb dL_converter_15 hl (by decide) rfl (fun ls hl => ?_)
      refine lv_iconst (v := iI (1)) hx hb dL_converter_17 rfl ?_
      refine W.widen (k := 3) (n := 18) (by omega) (by omega) ?_
      refine vx_ret ?_
      exact g_iret hx hb hr hlocks hG (by
        refine ⟨by rw [hk9], Or.inr ⟨by omega, rfl⟩, GI_mono (by omega) hI⟩) dL_converter_18
    · skip
      refine g_c1 hown htab (by decide) (by decide) LnA hN (xcIn _ (by simp)) hce hcv hcl (by decide) LnI xnAI ?_
      refine lv_astore (lv' := [(5, .ref (q9)), (0, .ref (ad 21)), (1, .int (iI (t0))), (2, .int (iI (a))), (3, .int (iI (b))), (4, .ref (ad 31))]) hx hb dL_converter_19 hl (by decide) rfl (fun ls hl => ?_)
      refine lv_iconst (v := iI (2)) hx hb dL_converter_21 rfl ?_
      refine W.widen (k := 3) (n := 18) (by omega) (by omega) ?_
      refine vx_ret ?_
      exact g_iret hx hb hr hlocks hG (by
        refine ⟨by rw [hk9], Or.inr ⟨by omega, rfl⟩, GI_mono (by omega) hI⟩) dL_converter_22
  · skip
    obtain ⟨hk0, hpo, hI⟩ := hp
    obtain ⟨rfl, hs1⟩ := hpo
    refine lv_i2l (v := (iI ((1000 * st 46 (t0).toNat 0 + st 47 (t0).toNat 0))).toInt64) hx hb dL_converter_10 rfl ?_
    refine g_last hx hb hn hK hG dL_converter_11 (fun H locs hG => ?_)
    obtain ⟨st2, hst2⟩ : ∃ z : St, z = ust st9 70 0 0 (((iI ((1000 * st 46 (t0).toNat 0 + st 47 (t0).toNat 0))).toInt64) : Int64).toInt := ⟨_, rfl⟩
    rw [← hst2] at hG
    replace hI := hst2 ▸ GI_o hI (c := 70) (o := 0) (i := 0) (v := (((iI ((1000 * st 46 (t0).toNat 0 + st 47 (t0).toNat 0))).toInt64) : Int64).toInt) (by decide)
    refine lv_goto (tgt := 23) hx hb dL_converter_12 (by decide) ?_
    refine lv_iconst (v := iI (0)) hx hb dL_converter_23 rfl ?_
    refine W.widen (k := 3) (n := 18) (by omega) (by omega) ?_
    refine vx_ret ?_
    exact g_iret hx hb hr hlocks hG (by
      refine ⟨by rw [hk0], Or.inl ⟨hk0, _, hs1, ?_⟩, GI_mono (by omega) hI⟩
      rw [hst2]) dL_converter_24
set_option maxHeartbeats 400000 in
set_option maxRecDepth 100000 in
theorem mL_offset (l : Launch) (D : va_G) (cy : Nat → ClassId) (ad : Nat → Nat) (n : Nat) (st : St) (sz fz : Nat) (wb : Int) (hn : 75 ≤ n) (hI : GI wb st) (hW : wb ≤ 2000000) (t0 : Int) (d : Int) (v : Int) (ht0 : -2147483648 ≤ t0 ∧ t0 < 2147483648) (hd : -2147483648 ≤ d ∧ d < 2147483648) (hv0 : -2147483648 ≤ v ∧ v < 2147483648) (hlf : l.stackTraces = false) (hnl : (n : Int) = 75 + 3 * st 33 0 0) (hR : RY st) : vx_Met l yL_offset wsL_offset ({ frames := 8, cells := 3, slots := 18, locals := 137 }) (va_Pc [.ref (ad 21), .int (iI (t0)), .int (iI (d)), .int (iI (v)), .ref (ad 31)] (gB D cy ad n st sz fz)) (va_Qi (fun (r : Int32) (st' : St) => r = iI (kOffs t0 d v) ∧ ((kOffs t0 d v = 0 ∧ ∃ st1 : St, (st1 = ust st 45 (t0).toNat d v) ∧ st' = ust st1 70 0 0 ((iI (st 45 (t0).toNat d)).toInt64).toInt) ∨ (kOffs t0 d v ≠ 0 ∧ st' = st)) ∧ GI wb st') (gP D cy ad n) (gA n ad sz)) (gX D cy ad n (fun (E : String) (st' : St) => False) (gA n ad sz)) 3 18 (gA n ad sz) := by
  refine vx_ofWH (cc := cL_offset) (maxL := 6) (ret := (some .int)) (hh := [(0, 12, 15, 21), (0, 12, 19, 13)]) (by decide) rfl ?_
  intro p e s m args below meth c s₁ B hml hv
  obtain ⟨rfl, hsz, hP, hK, hD0, hN, hZ⟩ := hv
  have hx := B.exec
  have hb := B.bytes
  have hr := B.returns
  have hts := atoms_spec (ws := wsL_offset) B.pre
  have hown : s.vm.findClass RL = some m.cls := findClass_of_methodNamed B.named
  have hlocks := B.notSynchronized
  have htab : c.exceptionTable.toList = [⟨0, 12, 15, 21⟩, ⟨0, 12, 19, 13⟩] := vx_table (x := yL_offset) B (hts (.codeWith yL_offset cL_offset 6 (some .int) [(0, 12, 15, 21), (0, 12, 19, 13)]) (by decide +kernel))
  subst hsz
  have hA : ∀ q : Nat, s.heap.size ≤ q → gA n ad s.heap.size q := fun q h => Or.inr h
  have hG : GH D cy ad n st (gA n ad s.heap.size) s.heap s.heap [] := ⟨hP, gw_A hD0, va_S.rf⟩
  have hl := lv_entry ([.ref (ad 21), .int (iI (t0)), .int (iI (d)), .int (iI (v)), .ref (ad 31)]) (n := 6) (Nat.le_of_ble_eq_true rfl)
  rw [lg_entry_eq]
  generalize (lg_sl ([.ref (ad 21), .int (iI (t0)), .int (iI (d)), .int (iI (v)), .ref (ad 31)]) ++ List.replicate (6 - (lg_sl ([.ref (ad 21), .int (iI (t0)), .int (iI (d)), .int (iI (v)), .ref (ad 31)])).length) Slot.unset).toArray = ls at hl ⊢
  have hl : lv_has ls 6 [(0, .ref (ad 21)), (1, .int (iI (t0))), (2, .int (iI (d))), (3, .int (iI (v))), (4, .ref (ad 31))] := hl
  have LnA := hts (.classLink RL 13 xA) (by decide +kernel)
  have LnI := hts (.classLink RL 21 xI) (by decide +kernel)
  have hI0 := hI
  refine lv_aload hx hb dL_offset_0 (lv_at hl 4 rfl) ?_
  refine lv_iconst (v := iI (0)) hx hb dL_offset_2 rfl ?_
  refine lv_aload_n hx hb dL_offset_3 rfl (lv_at hl 0 rfl) ?_
  refine lv_iload_n hx hb dL_offset_4 rfl (lv_at hl 1 rfl) ?_
  refine lv_iload_n hx hb dL_offset_5 rfl (lv_at hl 2 rfl) ?_
  refine lv_iload_n hx hb dL_offset_6 rfl (lv_at hl 3 rfl) ?_
  refine gx_goi hG hA (vx_runV (As := [.int (iI (t0)), .int (iI (d)), .int (iI (v))]) (rest := [.int (iI (0)), .ref (ad 31)]) ⟨hx, hb, hml, hown, hts⟩ (mX5_offset l D cy ad n st _ fz wb hn hI (by omega) (t0) (d) (v) (by omega) (by omega) (by omega) hlf hnl hR) (cwV 3 hts gL_offset_X5_offset rfl rfl rfl (by decide +kernel) ⟨Nat.le_of_ble_eq_true rfl, Nat.le_of_ble_eq_true rfl⟩) ⟨g_blind, va_recv hK hG.1 (q0 := 21) (ci := 5) rfl ((gw_at (by omega)).trans (by rw [gC_21 st ad cy])), g_pre hK hG hA hN hZ⟩ rfl rfl hl.1 rfl (lv_room (Nat.le_of_ble_eq_true rfl)) dL_offset_7 ⟨Nat.le_of_ble_eq_true rfl, Nat.le_of_ble_eq_true rfl⟩) (fun E9 st9 H locs ce9 q9 hp hG hce hcv hcl => ?_) (fun r9 st9 H locs hp hG => ?_)
  · skip
    obtain ⟨hxe, hs9⟩ := hp
    rw [hs9] at hG
    clear hs9
    rcases xE2 hxe with ⟨rfl, hk9⟩ | ⟨rfl, hk9⟩
    · skip
      refine g_c0 hown htab (by decide) (by decide) LnI hN (xcIn _ (by simp)) hce hcv hcl ?_
      refine lv_astore (lv' := [(5, .ref (q9)), (0, .ref (ad 21)), (1, .int (iI (t0))), (2, .int (iI (d))), (3, .int (iI (v))), (4, .ref (ad 31))]) hx hb dL_offset_15 hl (by decide) rfl (fun ls hl => ?_)
      refine lv_iconst (v := iI (1)) hx hb dL_offset_17 rfl ?_
      refine W.widen (k := 3) (n := 18) (by omega) (by omega) ?_
      refine vx_ret ?_
      exact g_iret hx hb hr hlocks hG (by
        refine ⟨by rw [hk9], Or.inr ⟨by omega, rfl⟩, GI_mono (by omega) hI⟩) dL_offset_18
    · skip
      refine g_c1 hown htab (by decide) (by decide) LnA hN (xcIn _ (by simp)) hce hcv hcl (by decide) LnI xnAI ?_
      refine lv_astore (lv' := [(5, .ref (q9)), (0, .ref (ad 21)), (1, .int (iI (t0))), (2, .int (iI (d))), (3, .int (iI (v))), (4, .ref (ad 31))]) hx hb dL_offset_19 hl (by decide) rfl (fun ls hl => ?_)
      refine lv_iconst (v := iI (2)) hx hb dL_offset_21 rfl ?_
      refine W.widen (k := 3) (n := 18) (by omega) (by omega) ?_
      refine vx_ret ?_
      exact g_iret hx hb hr hlocks hG (by
        refine ⟨by rw [hk9], Or.inr ⟨by omega, rfl⟩, GI_mono (by omega) hI⟩) dL_offset_22
  · skip
    obtain ⟨hk0, hpo, hI⟩ := hp
    obtain ⟨rfl, hs1⟩ := hpo
    refine lv_i2l (v := (iI ((st 45 (t0).toNat d))).toInt64) hx hb dL_offset_10 rfl ?_
    refine g_last hx hb hn hK hG dL_offset_11 (fun H locs hG => ?_)
    obtain ⟨st2, hst2⟩ : ∃ z : St, z = ust st9 70 0 0 (((iI ((st 45 (t0).toNat d))).toInt64) : Int64).toInt := ⟨_, rfl⟩
    rw [← hst2] at hG
    replace hI := hst2 ▸ GI_o hI (c := 70) (o := 0) (i := 0) (v := (((iI ((st 45 (t0).toNat d))).toInt64) : Int64).toInt) (by decide)
    refine lv_goto (tgt := 23) hx hb dL_offset_12 (by decide) ?_
    refine lv_iconst (v := iI (0)) hx hb dL_offset_23 rfl ?_
    refine W.widen (k := 3) (n := 18) (by omega) (by omega) ?_
    refine vx_ret ?_
    exact g_iret hx hb hr hlocks hG (by
      refine ⟨by rw [hk0], Or.inl ⟨hk0, _, hs1, ?_⟩, GI_mono (by omega) hI⟩
      rw [hst2]) dL_offset_24
set_option maxHeartbeats 400000 in
set_option maxRecDepth 100000 in
theorem mL_calibrate (l : Launch) (D : va_G) (cy : Nat → ClassId) (ad : Nat → Nat) (n : Nat) (st : St) (sz fz : Nat) (wb : Int) (hn : 75 ≤ n) (hI : GI wb st) (hW : wb ≤ 2000000) (t0 : Int) (v : Int) (ht0 : -2147483648 ≤ t0 ∧ t0 < 2147483648) (hv0 : -2147483648 ≤ v ∧ v < 2147483648) (hlf : l.stackTraces = false) (hnl : (n : Int) = 75 + 3 * st 33 0 0) (hR : RY st) (hvz : v = 0 ∨ v = 1) : vx_Met l yL_calibrate wsL_calibrate ({ frames := 8, cells := 1, slots := 6, locals := 135 }) (va_Pc [.ref (ad 21), .int (iI (t0)), .int (iI (v)), .ref (ad 31)] (gB D cy ad n st sz fz)) (va_Qi (fun (r : Int32) (st' : St) => r = iI (kRange 0 5 t0) ∧ ((kRange 0 5 t0 = 0 ∧ ∃ st1 : St, (st1 = ust st 48 (t0).toNat 0 v) ∧ st' = ust st1 70 0 0 ((if iI (st 48 (t0).toNat 0) = iI 0 then (0 : Int64) else 1)).toInt) ∨ (kRange 0 5 t0 ≠ 0 ∧ st' = st)) ∧ GI wb st') (gP D cy ad n) (gA n ad sz)) (gX D cy ad n (fun (E : String) (st' : St) => False) (gA n ad sz)) 1 6 (gA n ad sz) := by
  refine vx_ofWH (cc := cL_calibrate) (maxL := 5) (ret := (some .int)) (hh := [(0, 17, 20, 21)]) (by decide) rfl ?_
  intro p e s m args below meth c s₁ B hml hv
  obtain ⟨rfl, hsz, hP, hK, hD0, hN, hZ⟩ := hv
  have hx := B.exec
  have hb := B.bytes
  have hr := B.returns
  have hts := atoms_spec (ws := wsL_calibrate) B.pre
  have hown : s.vm.findClass RL = some m.cls := findClass_of_methodNamed B.named
  have hlocks := B.notSynchronized
  have htab : c.exceptionTable.toList = [⟨0, 17, 20, 21⟩] := vx_table (x := yL_calibrate) B (hts (.codeWith yL_calibrate cL_calibrate 5 (some .int) [(0, 17, 20, 21)]) (by decide +kernel))
  subst hsz
  have hA : ∀ q : Nat, s.heap.size ≤ q → gA n ad s.heap.size q := fun q h => Or.inr h
  have hG : GH D cy ad n st (gA n ad s.heap.size) s.heap s.heap [] := ⟨hP, gw_A hD0, va_S.rf⟩
  have hl := lv_entry ([.ref (ad 21), .int (iI (t0)), .int (iI (v)), .ref (ad 31)]) (n := 5) (Nat.le_of_ble_eq_true rfl)
  rw [lg_entry_eq]
  generalize (lg_sl ([.ref (ad 21), .int (iI (t0)), .int (iI (v)), .ref (ad 31)]) ++ List.replicate (5 - (lg_sl ([.ref (ad 21), .int (iI (t0)), .int (iI (v)), .ref (ad 31)])).length) Slot.unset).toArray = ls at hl ⊢
  have hl : lv_has ls 5 [(0, .ref (ad 21)), (1, .int (iI (t0))), (2, .int (iI (v))), (3, .ref (ad 31))] := hl
  have LnI := hts (.classLink RL 21 xI) (by decide +kernel)
  have hI0 := hI
  have hA9 := gI_48 hI (t0).toNat 0
  refine lv_aload_n hx hb dL_calibrate_0 rfl (lv_at hl 3 rfl) ?_
  refine lv_iconst (v := iI (0)) hx hb dL_calibrate_1 rfl ?_
  refine lv_aload_n hx hb dL_calibrate_2 rfl (lv_at hl 0 rfl) ?_
  refine lv_iload_n hx hb dL_calibrate_3 rfl (lv_at hl 1 rfl) ?_
  refine lv_iload_n hx hb dL_calibrate_4 rfl (lv_at hl 2 rfl) ?_
  refine gx_goi hG hA (vx_runV (As := [.int (iI (t0)), .int (iI (v))]) (rest := [.int (iI (0)), .ref (ad 31)]) ⟨hx, hb, hml, hown, hts⟩ (mX5_calibrate l D cy ad n st _ fz wb hn hI (by omega) (t0) (v) (by omega) (by omega) hlf hnl hR (by omega)) (cwV 2 hts gL_calibrate_X5_calibrate rfl rfl rfl (by decide +kernel) ⟨Nat.le_of_ble_eq_true rfl, Nat.le_of_ble_eq_true rfl⟩) ⟨g_blind, va_recv hK hG.1 (q0 := 21) (ci := 5) rfl ((gw_at (by omega)).trans (by rw [gC_21 st ad cy])), g_pre hK hG hA hN hZ⟩ rfl rfl hl.1 rfl (lv_room (Nat.le_of_ble_eq_true rfl)) dL_calibrate_5 ⟨Nat.le_of_ble_eq_true rfl, Nat.le_of_ble_eq_true rfl⟩) (fun E9 st9 H locs ce9 q9 hp hG hce hcv hcl => ?_) (fun r9 st9 H locs hp hG => ?_)
  · skip
    obtain ⟨hxe, hs9⟩ := hp
    rw [hs9] at hG
    clear hs9
    obtain ⟨rfl, hk9⟩ := xE1 hxe
    refine g_c0 hown htab (by decide) (by decide) LnI hN (xcIn _ (by simp)) hce hcv hcl ?_
    refine lv_astore (lv' := [(4, .ref (q9)), (0, .ref (ad 21)), (1, .int (iI (t0))), (2, .int (iI (v))), (3, .ref (ad 31))]) hx hb dL_calibrate_20 hl (by decide) rfl (fun ls hl => ?_)
    refine lv_iconst (v := iI (1)) hx hb dL_calibrate_22 rfl ?_
    refine W.widen (k := 1) (n := 6) (by omega) (by omega) ?_
    refine vx_ret ?_
    exact g_iret hx hb hr hlocks hG (by
      refine ⟨by rw [hk9], Or.inr ⟨by omega, rfl⟩, GI_mono (by omega) hI⟩) dL_calibrate_23
  · skip
    obtain ⟨hk0, hpo, hI⟩ := hp
    obtain ⟨rfl, hs1⟩ := hpo
    refine r_if_eq (tgt := 15) hx hb (by omega) dL_calibrate_8 (by decide) (fun c2 => ?_) (fun c2 => ?_)
    · skip
      refine lv_lconst (v := 0) hx hb dL_calibrate_15 rfl ?_
      refine g_last hx hb hn hK hG dL_calibrate_16 (fun H locs hG => ?_)
      obtain ⟨st3, hst3⟩ : ∃ z : St, z = ust st9 70 0 0 ((0) : Int64).toInt := ⟨_, rfl⟩
      rw [← hst3] at hG
      replace hI := hst3 ▸ GI_o hI (c := 70) (o := 0) (i := 0) (v := ((0) : Int64).toInt) (by decide)
      refine lv_goto (tgt := 24) hx hb dL_calibrate_17 (by decide) ?_
      refine lv_iconst (v := iI (0)) hx hb dL_calibrate_24 rfl ?_
      refine W.widen (k := 1) (n := 6) (by omega) (by omega) ?_
      refine vx_ret ?_
      exact g_iret hx hb hr hlocks hG (by
        refine ⟨by rw [hk0], Or.inl ⟨hk0, _, hs1, ?_⟩, GI_mono (by omega) hI⟩
        rw [hst3]
        first
          | rw [if_pos (by rw [iI_eq (by omega) (by omega) (by omega) (by omega)]; omega)]
          | rw [if_neg (by rw [iI_eq (by omega) (by omega) (by omega) (by omega)]; omega)]) dL_calibrate_25
    · skip
      refine lv_lconst (v := 1) hx hb dL_calibrate_11 rfl ?_
      refine lv_goto (tgt := 16) hx hb dL_calibrate_12 (by decide) ?_
      refine g_last hx hb hn hK hG dL_calibrate_16 (fun H locs hG => ?_)
      obtain ⟨st4, hst4⟩ : ∃ z : St, z = ust st9 70 0 0 ((1) : Int64).toInt := ⟨_, rfl⟩
      rw [← hst4] at hG
      replace hI := hst4 ▸ GI_o hI (c := 70) (o := 0) (i := 0) (v := ((1) : Int64).toInt) (by decide)
      refine lv_goto (tgt := 24) hx hb dL_calibrate_17 (by decide) ?_
      refine lv_iconst (v := iI (0)) hx hb dL_calibrate_24 rfl ?_
      refine W.widen (k := 1) (n := 6) (by omega) (by omega) ?_
      refine vx_ret ?_
      exact g_iret hx hb hr hlocks hG (by
        refine ⟨by rw [hk0], Or.inl ⟨hk0, _, hs1, ?_⟩, GI_mono (by omega) hI⟩
        rw [hst4]
        first
          | rw [if_pos (by rw [iI_eq (by omega) (by omega) (by omega) (by omega)]; omega)]
          | rw [if_neg (by rw [iI_eq (by omega) (by omega) (by omega) (by omega)]; omega)]) dL_calibrate_25
set_option maxHeartbeats 400000 in
set_option maxRecDepth 100000 in
theorem mL_converters (l : Launch) (D : va_G) (cy : Nat → ClassId) (ad : Nat → Nat) (n : Nat) (st : St) (sz fz : Nat) (wb : Int) (hn : 75 ≤ n) (hI : GI wb st) (hW : wb ≤ 2000000) (t0 : Int) (v : Int) (ht0 : -2147483648 ≤ t0 ∧ t0 < 2147483648) (hv0 : -2147483648 ≤ v ∧ v < 2147483648) (hlf : l.stackTraces = false) (hnl : (n : Int) = 75 + 3 * st 33 0 0) (hR : RY st) : vx_Met l yL_converters wsL_converters ({ frames := 8, cells := 3, slots := 18, locals := 136 }) (va_Pc [.ref (ad 21), .int (iI (t0)), .int (iI (v)), .ref (ad 31)] (gB D cy ad n st sz fz)) (va_Qi (fun (r : Int32) (st' : St) => r = iI (kMany t0 v) ∧ ((kMany t0 v = 0 ∧ ∃ st1 : St, (st1 = ust st 49 (t0).toNat 0 v) ∧ st' = ust st1 70 0 0 ((iI (st 49 (t0).toNat 0)).toInt64).toInt) ∨ (kMany t0 v ≠ 0 ∧ st' = st)) ∧ GI wb st') (gP D cy ad n) (gA n ad sz)) (gX D cy ad n (fun (E : String) (st' : St) => False) (gA n ad sz)) 3 18 (gA n ad sz) := by
  refine vx_ofWH (cc := cL_converters) (maxL := 5) (ret := (some .int)) (hh := [(0, 10, 13, 21), (0, 10, 17, 13)]) (by decide) rfl ?_
  intro p e s m args below meth c s₁ B hml hv
  obtain ⟨rfl, hsz, hP, hK, hD0, hN, hZ⟩ := hv
  have hx := B.exec
  have hb := B.bytes
  have hr := B.returns
  have hts := atoms_spec (ws := wsL_converters) B.pre
  have hown : s.vm.findClass RL = some m.cls := findClass_of_methodNamed B.named
  have hlocks := B.notSynchronized
  have htab : c.exceptionTable.toList = [⟨0, 10, 13, 21⟩, ⟨0, 10, 17, 13⟩] := vx_table (x := yL_converters) B (hts (.codeWith yL_converters cL_converters 5 (some .int) [(0, 10, 13, 21), (0, 10, 17, 13)]) (by decide +kernel))
  subst hsz
  have hA : ∀ q : Nat, s.heap.size ≤ q → gA n ad s.heap.size q := fun q h => Or.inr h
  have hG : GH D cy ad n st (gA n ad s.heap.size) s.heap s.heap [] := ⟨hP, gw_A hD0, va_S.rf⟩
  have hl := lv_entry ([.ref (ad 21), .int (iI (t0)), .int (iI (v)), .ref (ad 31)]) (n := 5) (Nat.le_of_ble_eq_true rfl)
  rw [lg_entry_eq]
  generalize (lg_sl ([.ref (ad 21), .int (iI (t0)), .int (iI (v)), .ref (ad 31)]) ++ List.replicate (5 - (lg_sl ([.ref (ad 21), .int (iI (t0)), .int (iI (v)), .ref (ad 31)])).length) Slot.unset).toArray = ls at hl ⊢
  have hl : lv_has ls 5 [(0, .ref (ad 21)), (1, .int (iI (t0))), (2, .int (iI (v))), (3, .ref (ad 31))] := hl
  have LnA := hts (.classLink RL 13 xA) (by decide +kernel)
  have LnI := hts (.classLink RL 21 xI) (by decide +kernel)
  have hI0 := hI
  refine lv_aload_n hx hb dL_converters_0 rfl (lv_at hl 3 rfl) ?_
  refine lv_iconst (v := iI (0)) hx hb dL_converters_1 rfl ?_
  refine lv_aload_n hx hb dL_converters_2 rfl (lv_at hl 0 rfl) ?_
  refine lv_iload_n hx hb dL_converters_3 rfl (lv_at hl 1 rfl) ?_
  refine lv_iload_n hx hb dL_converters_4 rfl (lv_at hl 2 rfl) ?_
  refine gx_goi hG hA (vx_runV (As := [.int (iI (t0)), .int (iI (v))]) (rest := [.int (iI (0)), .ref (ad 31)]) ⟨hx, hb, hml, hown, hts⟩ (mX5_converters l D cy ad n st _ fz wb hn hI (by omega) (t0) (v) (by omega) (by omega) hlf hnl hR) (cwV 2 hts gL_converters_X5_converters rfl rfl rfl (by decide +kernel) ⟨Nat.le_of_ble_eq_true rfl, Nat.le_of_ble_eq_true rfl⟩) ⟨g_blind, va_recv hK hG.1 (q0 := 21) (ci := 5) rfl ((gw_at (by omega)).trans (by rw [gC_21 st ad cy])), g_pre hK hG hA hN hZ⟩ rfl rfl hl.1 rfl (lv_room (Nat.le_of_ble_eq_true rfl)) dL_converters_5 ⟨Nat.le_of_ble_eq_true rfl, Nat.le_of_ble_eq_true rfl⟩) (fun E9 st9 H locs ce9 q9 hp hG hce hcv hcl => ?_) (fun r9 st9 H locs hp hG => ?_)
  · skip
    obtain ⟨hxe, hs9⟩ := hp
    rw [hs9] at hG
    clear hs9
    rcases xE2 hxe with ⟨rfl, hk9⟩ | ⟨rfl, hk9⟩
    · skip
      refine g_c0 hown htab (by decide) (by decide) LnI hN (xcIn _ (by simp)) hce hcv hcl ?_
      refine lv_astore (lv' := [(4, .ref (q9)), (0, .ref (ad 21)), (1, .int (iI (t0))), (2, .int (iI (v))), (3, .ref (ad 31))]) hx hb dL_converters_13 hl (by decide) rfl (fun ls hl => ?_)
      refine lv_iconst (v := iI (1)) hx hb dL_converters_15 rfl ?_
      refine W.widen (k := 3) (n := 18) (by omega) (by omega) ?_
      refine vx_ret ?_
      exact g_iret hx hb hr hlocks hG (by
        refine ⟨by rw [hk9], Or.inr ⟨by omega, rfl⟩, GI_mono (by omega) hI⟩) dL_converters_16
    · skip
      refine g_c1 hown htab (by decide) (by decide) LnA hN (xcIn _ (by simp)) hce hcv hcl (by decide) LnI xnAI ?_
      refine lv_astore (lv' := [(4, .ref (q9)), (0, .ref (ad 21)), (1, .int (iI (t0))), (2, .int (iI (v))), (3, .ref (ad 31))]) hx hb dL_converters_17 hl (by decide) rfl (fun ls hl => ?_)
      refine lv_iconst (v := iI (2)) hx hb dL_converters_19 rfl ?_
      refine W.widen (k := 3) (n := 18) (by omega) (by omega) ?_
      refine vx_ret ?_
      exact g_iret hx hb hr hlocks hG (by
        refine ⟨by rw [hk9], Or.inr ⟨by omega, rfl⟩, GI_mono (by omega) hI⟩) dL_converters_20
  · skip
    obtain ⟨hk0, hpo, hI⟩ := hp
    obtain ⟨rfl, hs1⟩ := hpo
    refine lv_i2l (v := (iI ((st 49 (t0).toNat 0))).toInt64) hx hb dL_converters_8 rfl ?_
    refine g_last hx hb hn hK hG dL_converters_9 (fun H locs hG => ?_)
    obtain ⟨st2, hst2⟩ : ∃ z : St, z = ust st9 70 0 0 (((iI ((st 49 (t0).toNat 0))).toInt64) : Int64).toInt := ⟨_, rfl⟩
    rw [← hst2] at hG
    replace hI := hst2 ▸ GI_o hI (c := 70) (o := 0) (i := 0) (v := (((iI ((st 49 (t0).toNat 0))).toInt64) : Int64).toInt) (by decide)
    refine lv_goto (tgt := 21) hx hb dL_converters_10 (by decide) ?_
    refine lv_iconst (v := iI (0)) hx hb dL_converters_21 rfl ?_
    refine W.widen (k := 3) (n := 18) (by omega) (by omega) ?_
    refine vx_ret ?_
    exact g_iret hx hb hr hlocks hG (by
      refine ⟨by rw [hk0], Or.inl ⟨hk0, _, hs1, ?_⟩, GI_mono (by omega) hI⟩
      rw [hst2]) dL_converters_22
set_option maxHeartbeats 400000 in
set_option maxRecDepth 100000 in
theorem mL_cell (l : Launch) (D : va_G) (cy : Nat → ClassId) (ad : Nat → Nat) (n : Nat) (st : St) (sz fz : Nat) (wb : Int) (hn : 75 ≤ n) (hI : GI wb st) (hW : wb ≤ 2000000) (t0 : Int) (r0 : Int) (d : Int) (w : Int) (ht0 : -2147483648 ≤ t0 ∧ t0 < 2147483648) (hr0 : -2147483648 ≤ r0 ∧ r0 < 2147483648) (hd : -2147483648 ≤ d ∧ d < 2147483648) (hw : -2147483648 ≤ w ∧ w < 2147483648) (hlf : l.stackTraces = false) (hnl : (n : Int) = 75 + 3 * st 33 0 0) (hR : RY st) : vx_Met l yL_cell wsL_cell ({ frames := 8, cells := 4, slots := 24, locals := 137 }) (va_Pc [.ref (ad 21), .int (iI (t0)), .int (iI (r0)), .int (iI (d)), .int (iI (w)), .ref (ad 31)] (gB D cy ad n st sz fz)) (va_Qi (fun (r : Int32) (st' : St) => r = iI (kCell t0 r0 d w) ∧ ((kCell t0 r0 d w = 0 ∧ ∃ st1 : St, (st1 = st) ∧ st' = ust st1 70 0 0 ((iI (aCellC st (t0).toNat (16 * r0 + d) w)).toInt64).toInt) ∨ (kCell t0 r0 d w ≠ 0 ∧ st' = st)) ∧ GI wb st') (gP D cy ad n) (gA n ad sz)) (gX D cy ad n (fun (E : String) (st' : St) => False) (gA n ad sz)) 4 24 (gA n ad sz) := by
  refine vx_ofWH (cc := cL_cell) (maxL := 7) (ret := (some .int)) (hh := [(0, 14, 17, 21)]) (by decide) rfl ?_
  intro p e s m args below meth c s₁ B hml hv
  obtain ⟨rfl, hsz, hP, hK, hD0, hN, hZ⟩ := hv
  have hx := B.exec
  have hb := B.bytes
  have hr := B.returns
  have hts := atoms_spec (ws := wsL_cell) B.pre
  have hown : s.vm.findClass RL = some m.cls := findClass_of_methodNamed B.named
  have hlocks := B.notSynchronized
  have htab : c.exceptionTable.toList = [⟨0, 14, 17, 21⟩] := vx_table (x := yL_cell) B (hts (.codeWith yL_cell cL_cell 7 (some .int) [(0, 14, 17, 21)]) (by decide +kernel))
  subst hsz
  have hA : ∀ q : Nat, s.heap.size ≤ q → gA n ad s.heap.size q := fun q h => Or.inr h
  have hG : GH D cy ad n st (gA n ad s.heap.size) s.heap s.heap [] := ⟨hP, gw_A hD0, va_S.rf⟩
  have hl := lv_entry ([.ref (ad 21), .int (iI (t0)), .int (iI (r0)), .int (iI (d)), .int (iI (w)), .ref (ad 31)]) (n := 7) (Nat.le_of_ble_eq_true rfl)
  rw [lg_entry_eq]
  generalize (lg_sl ([.ref (ad 21), .int (iI (t0)), .int (iI (r0)), .int (iI (d)), .int (iI (w)), .ref (ad 31)]) ++ List.replicate (7 - (lg_sl ([.ref (ad 21), .int (iI (t0)), .int (iI (r0)), .int (iI (d)), .int (iI (w)), .ref (ad 31)])).length) Slot.unset).toArray = ls at hl ⊢
  have hl : lv_has ls 7 [(0, .ref (ad 21)), (1, .int (iI (t0))), (2, .int (iI (r0))), (3, .int (iI (d))), (4, .int (iI (w))), (5, .ref (ad 31))] := hl
  have LnI := hts (.classLink RL 21 xI) (by decide +kernel)
  have hI0 := hI
  refine lv_aload hx hb dL_cell_0 (lv_at hl 5 rfl) ?_
  refine lv_iconst (v := iI (0)) hx hb dL_cell_2 rfl ?_
  refine lv_aload_n hx hb dL_cell_3 rfl (lv_at hl 0 rfl) ?_
  refine lv_iload_n hx hb dL_cell_4 rfl (lv_at hl 1 rfl) ?_
  refine lv_iload_n hx hb dL_cell_5 rfl (lv_at hl 2 rfl) ?_
  refine lv_iload_n hx hb dL_cell_6 rfl (lv_at hl 3 rfl) ?_
  refine lv_iload hx hb dL_cell_7 (lv_at hl 4 rfl) ?_
  refine gx_goi hG hA (vx_runV (As := [.int (iI (t0)), .int (iI (r0)), .int (iI (d)), .int (iI (w))]) (rest := [.int (iI (0)), .ref (ad 31)]) ⟨hx, hb, hml, hown, hts⟩ (mX5_cell l D cy ad n st _ fz wb hn hI (by omega) (t0) (r0) (d) (w) (by omega) (by omega) (by omega) (by omega) hlf hnl hR) (cwV 4 hts gL_cell_X5_cell rfl rfl rfl (by decide +kernel) ⟨Nat.le_of_ble_eq_true rfl, Nat.le_of_ble_eq_true rfl⟩) ⟨g_blind, va_recv hK hG.1 (q0 := 21) (ci := 5) rfl ((gw_at (by omega)).trans (by rw [gC_21 st ad cy])), g_pre hK hG hA hN hZ⟩ rfl rfl hl.1 rfl (lv_room (Nat.le_of_ble_eq_true rfl)) dL_cell_9 ⟨Nat.le_of_ble_eq_true rfl, Nat.le_of_ble_eq_true rfl⟩) (fun E9 st9 H locs ce9 q9 hp hG hce hcv hcl => ?_) (fun r9 st9 H locs hp hG => ?_)
  · skip
    obtain ⟨hxe, hs9⟩ := hp
    rw [hs9] at hG
    clear hs9
    obtain ⟨rfl, hk9⟩ := xE1 hxe
    refine g_c0 hown htab (by decide) (by decide) LnI hN (xcIn _ (by simp)) hce hcv hcl ?_
    refine lv_astore (lv' := [(6, .ref (q9)), (0, .ref (ad 21)), (1, .int (iI (t0))), (2, .int (iI (r0))), (3, .int (iI (d))), (4, .int (iI (w))), (5, .ref (ad 31))]) hx hb dL_cell_17 hl (by decide) rfl (fun ls hl => ?_)
    refine lv_iconst (v := iI (1)) hx hb dL_cell_19 rfl ?_
    refine W.widen (k := 4) (n := 24) (by omega) (by omega) ?_
    refine vx_ret ?_
    exact g_iret hx hb hr hlocks hG (by
      refine ⟨by rw [hk9], Or.inr ⟨by omega, rfl⟩, GI_mono (by omega) hI⟩) dL_cell_20
  · skip
    obtain ⟨hk0, hpo, hI⟩ := hp
    obtain ⟨rfl, hs1⟩ := hpo
    refine lv_i2l (v := (iI ((aCellC st (t0).toNat (16 * r0 + d) w))).toInt64) hx hb dL_cell_12 rfl ?_
    refine g_last hx hb hn hK hG dL_cell_13 (fun H locs hG => ?_)
    obtain ⟨st2, hst2⟩ : ∃ z : St, z = ust st9 70 0 0 (((iI ((aCellC st (t0).toNat (16 * r0 + d) w))).toInt64) : Int64).toInt := ⟨_, rfl⟩
    rw [← hst2] at hG
    replace hI := hst2 ▸ GI_o hI (c := 70) (o := 0) (i := 0) (v := (((iI ((aCellC st (t0).toNat (16 * r0 + d) w))).toInt64) : Int64).toInt) (by decide)
    refine lv_goto (tgt := 21) hx hb dL_cell_14 (by decide) ?_
    refine lv_iconst (v := iI (0)) hx hb dL_cell_21 rfl ?_
    refine W.widen (k := 4) (n := 24) (by omega) (by omega) ?_
    refine vx_ret ?_
    exact g_iret hx hb hr hlocks hG (by
      refine ⟨by rw [hk0], Or.inl ⟨hk0, _, hs1, ?_⟩, GI_mono (by omega) hI⟩
      rw [hst2]) dL_cell_22
set_option maxHeartbeats 400000 in
set_option maxRecDepth 100000 in
theorem mL_rowOf (l : Launch) (D : va_G) (cy : Nat → ClassId) (ad : Nat → Nat) (n : Nat) (st : St) (sz fz : Nat) (wb : Int) (hn : 75 ≤ n) (hI : GI wb st) (hW : wb ≤ 2000000) (a : Int) (i : Int) (ha : -2147483648 ≤ a ∧ a < 2147483648) (hi : -2147483648 ≤ i ∧ i < 2147483648) (hlf : l.stackTraces = false) (hnl : (n : Int) = 75 + 3 * st 33 0 0) (hR : RY st) : vx_Met l yL_rowOf wsL_rowOf ({ frames := 8, cells := 2, slots := 12, locals := 134 }) (va_Pc [.ref (ad 21), .int (iI (a)), .int (iI (i)), .ref (ad 31)] (gB D cy ad n st sz fz)) (va_Qi (fun (r : Int32) (st' : St) => r = iI (kRow st a i) ∧ ((kRow st a i = 0 ∧ ∃ st1 : St, (st1 = st) ∧ st' = ust st1 70 0 0 ((iI (if st 66 (a).toNat 0 < 0 then -1 else st 63 (a).toNat i)).toInt64).toInt) ∨ (kRow st a i ≠ 0 ∧ st' = st)) ∧ GI wb st') (gP D cy ad n) (gA n ad sz)) (gX D cy ad n (fun (E : String) (st' : St) => False) (gA n ad sz)) 2 12 (gA n ad sz) := by
  refine vx_ofWH (cc := cL_rowOf) (maxL := 5) (ret := (some .int)) (hh := [(0, 10, 13, 21)]) (by decide) rfl ?_
  intro p e s m args below meth c s₁ B hml hv
  obtain ⟨rfl, hsz, hP, hK, hD0, hN, hZ⟩ := hv
  have hx := B.exec
  have hb := B.bytes
  have hr := B.returns
  have hts := atoms_spec (ws := wsL_rowOf) B.pre
  have hown : s.vm.findClass RL = some m.cls := findClass_of_methodNamed B.named
  have hlocks := B.notSynchronized
  have htab : c.exceptionTable.toList = [⟨0, 10, 13, 21⟩] := vx_table (x := yL_rowOf) B (hts (.codeWith yL_rowOf cL_rowOf 5 (some .int) [(0, 10, 13, 21)]) (by decide +kernel))
  subst hsz
  have hA : ∀ q : Nat, s.heap.size ≤ q → gA n ad s.heap.size q := fun q h => Or.inr h
  have hG : GH D cy ad n st (gA n ad s.heap.size) s.heap s.heap [] := ⟨hP, gw_A hD0, va_S.rf⟩
  have hl := lv_entry ([.ref (ad 21), .int (iI (a)), .int (iI (i)), .ref (ad 31)]) (n := 5) (Nat.le_of_ble_eq_true rfl)
  rw [lg_entry_eq]
  generalize (lg_sl ([.ref (ad 21), .int (iI (a)), .int (iI (i)), .ref (ad 31)]) ++ List.replicate (5 - (lg_sl ([.ref (ad 21), .int (iI (a)), .int (iI (i)), .ref (ad 31)])).length) Slot.unset).toArray = ls at hl ⊢
  have hl : lv_has ls 5 [(0, .ref (ad 21)), (1, .int (iI (a))), (2, .int (iI (i))), (3, .ref (ad 31))] := hl
  have LnI := hts (.classLink RL 21 xI) (by decide +kernel)
  have hI0 := hI
  refine lv_aload_n hx hb dL_rowOf_0 rfl (lv_at hl 3 rfl) ?_
  refine lv_iconst (v := iI (0)) hx hb dL_rowOf_1 rfl ?_
  refine lv_aload_n hx hb dL_rowOf_2 rfl (lv_at hl 0 rfl) ?_
  refine lv_iload_n hx hb dL_rowOf_3 rfl (lv_at hl 1 rfl) ?_
  refine lv_iload_n hx hb dL_rowOf_4 rfl (lv_at hl 2 rfl) ?_
  refine gx_goi hG hA (vx_runV (As := [.int (iI (a)), .int (iI (i))]) (rest := [.int (iI (0)), .ref (ad 31)]) ⟨hx, hb, hml, hown, hts⟩ (mX5_rowOf l D cy ad n st _ fz wb hn hI (by omega) (a) (i) (by omega) (by omega) hlf hnl hR) (cwV 2 hts gL_rowOf_X5_rowOf rfl rfl rfl (by decide +kernel) ⟨Nat.le_of_ble_eq_true rfl, Nat.le_of_ble_eq_true rfl⟩) ⟨g_blind, va_recv hK hG.1 (q0 := 21) (ci := 5) rfl ((gw_at (by omega)).trans (by rw [gC_21 st ad cy])), g_pre hK hG hA hN hZ⟩ rfl rfl hl.1 rfl (lv_room (Nat.le_of_ble_eq_true rfl)) dL_rowOf_5 ⟨Nat.le_of_ble_eq_true rfl, Nat.le_of_ble_eq_true rfl⟩) (fun E9 st9 H locs ce9 q9 hp hG hce hcv hcl => ?_) (fun r9 st9 H locs hp hG => ?_)
  · skip
    obtain ⟨hxe, hs9⟩ := hp
    rw [hs9] at hG
    clear hs9
    obtain ⟨rfl, hk9⟩ := xE1 hxe
    refine g_c0 hown htab (by decide) (by decide) LnI hN (xcIn _ (by simp)) hce hcv hcl ?_
    refine lv_astore (lv' := [(4, .ref (q9)), (0, .ref (ad 21)), (1, .int (iI (a))), (2, .int (iI (i))), (3, .ref (ad 31))]) hx hb dL_rowOf_13 hl (by decide) rfl (fun ls hl => ?_)
    refine lv_iconst (v := iI (1)) hx hb dL_rowOf_15 rfl ?_
    refine W.widen (k := 2) (n := 12) (by omega) (by omega) ?_
    refine vx_ret ?_
    exact g_iret hx hb hr hlocks hG (by
      refine ⟨by rw [hk9], Or.inr ⟨by omega, rfl⟩, GI_mono (by omega) hI⟩) dL_rowOf_16
  · skip
    obtain ⟨hk0, hpo, hI⟩ := hp
    obtain ⟨rfl, hs1⟩ := hpo
    refine lv_i2l (v := (iI ((if st 66 (a).toNat 0 < 0 then -1 else st 63 (a).toNat i))).toInt64) hx hb dL_rowOf_8 rfl ?_
    refine g_last hx hb hn hK hG dL_rowOf_9 (fun H locs hG => ?_)
    obtain ⟨st2, hst2⟩ : ∃ z : St, z = ust st9 70 0 0 (((iI ((if st 66 (a).toNat 0 < 0 then -1 else st 63 (a).toNat i))).toInt64) : Int64).toInt := ⟨_, rfl⟩
    rw [← hst2] at hG
    replace hI := hst2 ▸ GI_o hI (c := 70) (o := 0) (i := 0) (v := (((iI ((if st 66 (a).toNat 0 < 0 then -1 else st 63 (a).toNat i))).toInt64) : Int64).toInt) (by decide)
    refine lv_goto (tgt := 17) hx hb dL_rowOf_10 (by decide) ?_
    refine lv_iconst (v := iI (0)) hx hb dL_rowOf_17 rfl ?_
    refine W.widen (k := 2) (n := 12) (by omega) (by omega) ?_
    refine vx_ret ?_
    exact g_iret hx hb hr hlocks hG (by
      refine ⟨by rw [hk0], Or.inl ⟨hk0, _, hs1, ?_⟩, GI_mono (by omega) hI⟩
      rw [hst2]) dL_rowOf_18
set_option maxHeartbeats 400000 in
set_option maxRecDepth 100000 in
theorem mL_tileOf (l : Launch) (D : va_G) (cy : Nat → ClassId) (ad : Nat → Nat) (n : Nat) (st : St) (sz fz : Nat) (wb : Int) (hn : 75 ≤ n) (hI : GI wb st) (hW : wb ≤ 2000000) (a : Int) (ha : -2147483648 ≤ a ∧ a < 2147483648) (hlf : l.stackTraces = false) (hnl : (n : Int) = 75 + 3 * st 33 0 0) (hR : RY st) : vx_Met l yL_tileOf wsL_tileOf ({ frames := 8, cells := 1, slots := 6, locals := 133 }) (va_Pc [.ref (ad 21), .int (iI (a)), .ref (ad 31)] (gB D cy ad n st sz fz)) (va_Qi (fun (r : Int32) (st' : St) => r = iI (kLay st a) ∧ ((kLay st a = 0 ∧ ∃ st1 : St, (st1 = st) ∧ st' = ust st1 70 0 0 ((iI (st 66 (a).toNat 0)).toInt64).toInt) ∨ (kLay st a ≠ 0 ∧ st' = st)) ∧ GI wb st') (gP D cy ad n) (gA n ad sz)) (gX D cy ad n (fun (E : String) (st' : St) => False) (gA n ad sz)) 1 6 (gA n ad sz) := by
  refine vx_ofWH (cc := cL_tileOf) (maxL := 4) (ret := (some .int)) (hh := [(0, 9, 12, 21)]) (by decide) rfl ?_
  intro p e s m args below meth c s₁ B hml hv
  obtain ⟨rfl, hsz, hP, hK, hD0, hN, hZ⟩ := hv
  have hx := B.exec
  have hb := B.bytes
  have hr := B.returns
  have hts := atoms_spec (ws := wsL_tileOf) B.pre
  have hown : s.vm.findClass RL = some m.cls := findClass_of_methodNamed B.named
  have hlocks := B.notSynchronized
  have htab : c.exceptionTable.toList = [⟨0, 9, 12, 21⟩] := vx_table (x := yL_tileOf) B (hts (.codeWith yL_tileOf cL_tileOf 4 (some .int) [(0, 9, 12, 21)]) (by decide +kernel))
  subst hsz
  have hA : ∀ q : Nat, s.heap.size ≤ q → gA n ad s.heap.size q := fun q h => Or.inr h
  have hG : GH D cy ad n st (gA n ad s.heap.size) s.heap s.heap [] := ⟨hP, gw_A hD0, va_S.rf⟩
  have hl := lv_entry ([.ref (ad 21), .int (iI (a)), .ref (ad 31)]) (n := 4) (Nat.le_of_ble_eq_true rfl)
  rw [lg_entry_eq]
  generalize (lg_sl ([.ref (ad 21), .int (iI (a)), .ref (ad 31)]) ++ List.replicate (4 - (lg_sl ([.ref (ad 21), .int (iI (a)), .ref (ad 31)])).length) Slot.unset).toArray = ls at hl ⊢
  have hl : lv_has ls 4 [(0, .ref (ad 21)), (1, .int (iI (a))), (2, .ref (ad 31))] := hl
  have LnI := hts (.classLink RL 21 xI) (by decide +kernel)
  have hI0 := hI
  refine lv_aload_n hx hb dL_tileOf_0 rfl (lv_at hl 2 rfl) ?_
  refine lv_iconst (v := iI (0)) hx hb dL_tileOf_1 rfl ?_
  refine lv_aload_n hx hb dL_tileOf_2 rfl (lv_at hl 0 rfl) ?_
  refine lv_iload_n hx hb dL_tileOf_3 rfl (lv_at hl 1 rfl) ?_
  refine gx_goi hG hA (vx_runV (As := [.int (iI (a))]) (rest := [.int (iI (0)), .ref (ad 31)]) ⟨hx, hb, hml, hown, hts⟩ (mX5_tileOf l D cy ad n st _ fz wb hn hI (by omega) (a) (by omega) hlf hnl hR) (cwV 1 hts gL_tileOf_X5_tileOf rfl rfl rfl (by decide +kernel) ⟨Nat.le_of_ble_eq_true rfl, Nat.le_of_ble_eq_true rfl⟩) ⟨g_blind, va_recv hK hG.1 (q0 := 21) (ci := 5) rfl ((gw_at (by omega)).trans (by rw [gC_21 st ad cy])), g_pre hK hG hA hN hZ⟩ rfl rfl hl.1 rfl (lv_room (Nat.le_of_ble_eq_true rfl)) dL_tileOf_4 ⟨Nat.le_of_ble_eq_true rfl, Nat.le_of_ble_eq_true rfl⟩) (fun E9 st9 H locs ce9 q9 hp hG hce hcv hcl => ?_) (fun r9 st9 H locs hp hG => ?_)
  · skip
    obtain ⟨hxe, hs9⟩ := hp
    rw [hs9] at hG
    clear hs9
    obtain ⟨rfl, hk9⟩ := xE1 hxe
    refine g_c0 hown htab (by decide) (by decide) LnI hN (xcIn _ (by simp)) hce hcv hcl ?_
    refine lv_astore_n (lv' := [(3, .ref (q9)), (0, .ref (ad 21)), (1, .int (iI (a))), (2, .ref (ad 31))]) hx hb dL_tileOf_12 rfl hl (by decide) rfl (fun ls hl => ?_)
    refine lv_iconst (v := iI (1)) hx hb dL_tileOf_13 rfl ?_
    refine W.widen (k := 1) (n := 6) (by omega) (by omega) ?_
    refine vx_ret ?_
    exact g_iret hx hb hr hlocks hG (by
      refine ⟨by rw [hk9], Or.inr ⟨by omega, rfl⟩, GI_mono (by omega) hI⟩) dL_tileOf_14
  · skip
    obtain ⟨hk0, hpo, hI⟩ := hp
    obtain ⟨rfl, hs1⟩ := hpo
    refine lv_i2l (v := (iI ((st 66 (a).toNat 0))).toInt64) hx hb dL_tileOf_7 rfl ?_
    refine g_last hx hb hn hK hG dL_tileOf_8 (fun H locs hG => ?_)
    obtain ⟨st2, hst2⟩ : ∃ z : St, z = ust st9 70 0 0 (((iI ((st 66 (a).toNat 0))).toInt64) : Int64).toInt := ⟨_, rfl⟩
    rw [← hst2] at hG
    replace hI := hst2 ▸ GI_o hI (c := 70) (o := 0) (i := 0) (v := (((iI ((st 66 (a).toNat 0))).toInt64) : Int64).toInt) (by decide)
    refine lv_goto (tgt := 15) hx hb dL_tileOf_9 (by decide) ?_
    refine lv_iconst (v := iI (0)) hx hb dL_tileOf_15 rfl ?_
    refine W.widen (k := 1) (n := 6) (by omega) (by omega) ?_
    refine vx_ret ?_
    exact g_iret hx hb hr hlocks hG (by
      refine ⟨by rw [hk0], Or.inl ⟨hk0, _, hs1, ?_⟩, GI_mono (by omega) hI⟩
      rw [hst2]) dL_tileOf_16
set_option maxHeartbeats 400000 in
set_option maxRecDepth 100000 in
theorem mL_misfits (l : Launch) (D : va_G) (cy : Nat → ClassId) (ad : Nat → Nat) (n : Nat) (st : St) (sz fz : Nat) (wb : Int) (hn : 75 ≤ n) (hI : GI wb st) (hW : wb ≤ 2000000) (a : Int) (t0 : Int) (ha : -2147483648 ≤ a ∧ a < 2147483648) (ht0 : -2147483648 ≤ t0 ∧ t0 < 2147483648) (hlf : l.stackTraces = false) (hnl : (n : Int) = 75 + 3 * st 33 0 0) (hR : RY st) : vx_Met l yL_misfits wsL_misfits ({ frames := 8, cells := 2, slots := 12, locals := 134 }) (va_Pc [.ref (ad 21), .int (iI (a)), .int (iI (t0)), .ref (ad 31)] (gB D cy ad n st sz fz)) (va_Qi (fun (r : Int32) (st' : St) => r = iI (kMis st a t0) ∧ ((kMis st a t0 = 0 ∧ ∃ st1 : St, (∃ cf ff, st1 = setW st cf ff) ∧ st' = ust st1 70 0 0 ((iI (fdV st a t0)).toInt64).toInt) ∨ (kMis st a t0 ≠ 0 ∧ st' = st)) ∧ GI wb st') (gP D cy ad n) (gA n ad sz)) (gX D cy ad n (fun (E : String) (st' : St) => False) (gA n ad sz)) 2 12 (gA n ad sz) := by
  refine vx_ofWH (cc := cL_misfits) (maxL := 5) (ret := (some .int)) (hh := [(0, 10, 13, 21)]) (by decide) rfl ?_
  intro p e s m args below meth c s₁ B hml hv
  obtain ⟨rfl, hsz, hP, hK, hD0, hN, hZ⟩ := hv
  have hx := B.exec
  have hb := B.bytes
  have hr := B.returns
  have hts := atoms_spec (ws := wsL_misfits) B.pre
  have hown : s.vm.findClass RL = some m.cls := findClass_of_methodNamed B.named
  have hlocks := B.notSynchronized
  have htab : c.exceptionTable.toList = [⟨0, 10, 13, 21⟩] := vx_table (x := yL_misfits) B (hts (.codeWith yL_misfits cL_misfits 5 (some .int) [(0, 10, 13, 21)]) (by decide +kernel))
  subst hsz
  have hA : ∀ q : Nat, s.heap.size ≤ q → gA n ad s.heap.size q := fun q h => Or.inr h
  have hG : GH D cy ad n st (gA n ad s.heap.size) s.heap s.heap [] := ⟨hP, gw_A hD0, va_S.rf⟩
  have hl := lv_entry ([.ref (ad 21), .int (iI (a)), .int (iI (t0)), .ref (ad 31)]) (n := 5) (Nat.le_of_ble_eq_true rfl)
  rw [lg_entry_eq]
  generalize (lg_sl ([.ref (ad 21), .int (iI (a)), .int (iI (t0)), .ref (ad 31)]) ++ List.replicate (5 - (lg_sl ([.ref (ad 21), .int (iI (a)), .int (iI (t0)), .ref (ad 31)])).length) Slot.unset).toArray = ls at hl ⊢
  have hl : lv_has ls 5 [(0, .ref (ad 21)), (1, .int (iI (a))), (2, .int (iI (t0))), (3, .ref (ad 31))] := hl
  have LnI := hts (.classLink RL 21 xI) (by decide +kernel)
  have hI0 := hI
  refine lv_aload_n hx hb dL_misfits_0 rfl (lv_at hl 3 rfl) ?_
  refine lv_iconst (v := iI (0)) hx hb dL_misfits_1 rfl ?_
  refine lv_aload_n hx hb dL_misfits_2 rfl (lv_at hl 0 rfl) ?_
  refine lv_iload_n hx hb dL_misfits_3 rfl (lv_at hl 1 rfl) ?_
  refine lv_iload_n hx hb dL_misfits_4 rfl (lv_at hl 2 rfl) ?_
  refine gx_goi hG hA (vx_runV (As := [.int (iI (a)), .int (iI (t0))]) (rest := [.int (iI (0)), .ref (ad 31)]) ⟨hx, hb, hml, hown, hts⟩ (mX5_misfits l D cy ad n st _ fz wb hn hI (by omega) (a) (t0) (by omega) (by omega) hlf hnl hR) (cwV 2 hts gL_misfits_X5_misfits rfl rfl rfl (by decide +kernel) ⟨Nat.le_of_ble_eq_true rfl, Nat.le_of_ble_eq_true rfl⟩) ⟨g_blind, va_recv hK hG.1 (q0 := 21) (ci := 5) rfl ((gw_at (by omega)).trans (by rw [gC_21 st ad cy])), g_pre hK hG hA hN hZ⟩ rfl rfl hl.1 rfl (lv_room (Nat.le_of_ble_eq_true rfl)) dL_misfits_5 ⟨Nat.le_of_ble_eq_true rfl, Nat.le_of_ble_eq_true rfl⟩) (fun E9 st9 H locs ce9 q9 hp hG hce hcv hcl => ?_) (fun r9 st9 H locs hp hG => ?_)
  · skip
    obtain ⟨hxe, hs9⟩ := hp
    rw [hs9] at hG
    clear hs9
    obtain ⟨rfl, hk9⟩ := xE1 hxe
    refine g_c0 hown htab (by decide) (by decide) LnI hN (xcIn _ (by simp)) hce hcv hcl ?_
    refine lv_astore (lv' := [(4, .ref (q9)), (0, .ref (ad 21)), (1, .int (iI (a))), (2, .int (iI (t0))), (3, .ref (ad 31))]) hx hb dL_misfits_13 hl (by decide) rfl (fun ls hl => ?_)
    refine lv_iconst (v := iI (1)) hx hb dL_misfits_15 rfl ?_
    refine W.widen (k := 2) (n := 12) (by omega) (by omega) ?_
    refine vx_ret ?_
    exact g_iret hx hb hr hlocks hG (by
      refine ⟨by rw [hk9], Or.inr ⟨by omega, rfl⟩, GI_mono (by omega) hI⟩) dL_misfits_16
  · skip
    obtain ⟨hk0, hpo, hI⟩ := hp
    obtain ⟨rfl, hs1⟩ := hpo
    refine lv_i2l (v := (iI ((fdV st a t0))).toInt64) hx hb dL_misfits_8 rfl ?_
    refine g_last hx hb hn hK hG dL_misfits_9 (fun H locs hG => ?_)
    obtain ⟨st2, hst2⟩ : ∃ z : St, z = ust st9 70 0 0 (((iI ((fdV st a t0))).toInt64) : Int64).toInt := ⟨_, rfl⟩
    rw [← hst2] at hG
    replace hI := hst2 ▸ GI_o hI (c := 70) (o := 0) (i := 0) (v := (((iI ((fdV st a t0))).toInt64) : Int64).toInt) (by decide)
    refine lv_goto (tgt := 17) hx hb dL_misfits_10 (by decide) ?_
    refine lv_iconst (v := iI (0)) hx hb dL_misfits_17 rfl ?_
    refine W.widen (k := 2) (n := 12) (by omega) (by omega) ?_
    refine vx_ret ?_
    exact g_iret hx hb hr hlocks hG (by
      refine ⟨by rw [hk0], Or.inl ⟨hk0, _, hs1, ?_⟩, GI_mono (by omega) hI⟩
      rw [hst2]) dL_misfits_18
set_option maxHeartbeats 400000 in
set_option maxRecDepth 100000 in
theorem mL_misfitsAnew (l : Launch) (D : va_G) (cy : Nat → ClassId) (ad : Nat → Nat) (n : Nat) (st : St) (sz fz : Nat) (wb : Int) (hn : 75 ≤ n) (hI : GI wb st) (hW : wb ≤ 2000000) (a : Int) (t0 : Int) (ha : -2147483648 ≤ a ∧ a < 2147483648) (ht0 : -2147483648 ≤ t0 ∧ t0 < 2147483648) (hlf : l.stackTraces = false) (hnl : (n : Int) = 75 + 3 * st 33 0 0) (hR : RY st) : vx_Met l yL_misfitsAnew wsL_misfitsAnew ({ frames := 8, cells := 3, slots := 18, locals := 135 }) (va_Pc [.ref (ad 21), .int (iI (a)), .int (iI (t0)), .ref (ad 31)] (gB D cy ad n st sz fz)) (va_Qi (fun (r : Int32) (st' : St) => r = iI (kMisA st a t0) ∧ ((kMisA st a t0 = 0 ∧ ∃ st1 : St, (∃ cf ff, st1 = setW st cf ff) ∧ st' = ust st1 70 0 0 ((iI (fdV st a t0)).toInt64).toInt) ∨ (kMisA st a t0 ≠ 0 ∧ st' = st)) ∧ GI wb st') (gP D cy ad n) (gA n ad sz)) (gX D cy ad n (fun (E : String) (st' : St) => False) (gA n ad sz)) 3 18 (gA n ad sz) := by
  refine vx_ofWH (cc := cL_misfitsAnew) (maxL := 5) (ret := (some .int)) (hh := [(0, 10, 13, 21), (0, 10, 17, 15)]) (by decide) rfl ?_
  intro p e s m args below meth c s₁ B hml hv
  obtain ⟨rfl, hsz, hP, hK, hD0, hN, hZ⟩ := hv
  have hx := B.exec
  have hb := B.bytes
  have hr := B.returns
  have hts := atoms_spec (ws := wsL_misfitsAnew) B.pre
  have hown : s.vm.findClass RL = some m.cls := findClass_of_methodNamed B.named
  have hlocks := B.notSynchronized
  have htab : c.exceptionTable.toList = [⟨0, 10, 13, 21⟩, ⟨0, 10, 17, 15⟩] := vx_table (x := yL_misfitsAnew) B (hts (.codeWith yL_misfitsAnew cL_misfitsAnew 5 (some .int) [(0, 10, 13, 21), (0, 10, 17, 15)]) (by decide +kernel))
  subst hsz
  have hA : ∀ q : Nat, s.heap.size ≤ q → gA n ad s.heap.size q := fun q h => Or.inr h
  have hG : GH D cy ad n st (gA n ad s.heap.size) s.heap s.heap [] := ⟨hP, gw_A hD0, va_S.rf⟩
  have hl := lv_entry ([.ref (ad 21), .int (iI (a)), .int (iI (t0)), .ref (ad 31)]) (n := 5) (Nat.le_of_ble_eq_true rfl)
  rw [lg_entry_eq]
  generalize (lg_sl ([.ref (ad 21), .int (iI (a)), .int (iI (t0)), .ref (ad 31)]) ++ List.replicate (5 - (lg_sl ([.ref (ad 21), .int (iI (a)), .int (iI (t0)), .ref (ad 31)])).length) Slot.unset).toArray = ls at hl ⊢
  have hl : lv_has ls 5 [(0, .ref (ad 21)), (1, .int (iI (a))), (2, .int (iI (t0))), (3, .ref (ad 31))] := hl
  have LnI := hts (.classLink RL 21 xI) (by decide +kernel)
  have LnS := hts (.classLink RL 15 xS) (by decide +kernel)
  have hI0 := hI
  refine lv_aload_n hx hb dL_misfitsAnew_0 rfl (lv_at hl 3 rfl) ?_
  refine lv_iconst (v := iI (0)) hx hb dL_misfitsAnew_1 rfl ?_
  refine lv_aload_n hx hb dL_misfitsAnew_2 rfl (lv_at hl 0 rfl) ?_
  refine lv_iload_n hx hb dL_misfitsAnew_3 rfl (lv_at hl 1 rfl) ?_
  refine lv_iload_n hx hb dL_misfitsAnew_4 rfl (lv_at hl 2 rfl) ?_
  refine gx_goi hG hA (vx_runV (As := [.int (iI (a)), .int (iI (t0))]) (rest := [.int (iI (0)), .ref (ad 31)]) ⟨hx, hb, hml, hown, hts⟩ (mX5_misfitsAnew l D cy ad n st _ fz wb hn hI (by omega) (a) (t0) (by omega) (by omega) hlf hnl hR) (cwV 2 hts gL_misfitsAnew_X5_misfitsAnew rfl rfl rfl (by decide +kernel) ⟨Nat.le_of_ble_eq_true rfl, Nat.le_of_ble_eq_true rfl⟩) ⟨g_blind, va_recv hK hG.1 (q0 := 21) (ci := 5) rfl ((gw_at (by omega)).trans (by rw [gC_21 st ad cy])), g_pre hK hG hA hN hZ⟩ rfl rfl hl.1 rfl (lv_room (Nat.le_of_ble_eq_true rfl)) dL_misfitsAnew_5 ⟨Nat.le_of_ble_eq_true rfl, Nat.le_of_ble_eq_true rfl⟩) (fun E9 st9 H locs ce9 q9 hp hG hce hcv hcl => ?_) (fun r9 st9 H locs hp hG => ?_)
  · skip
    obtain ⟨hxe, hs9⟩ := hp
    rw [hs9] at hG
    clear hs9
    rcases xE2 hxe with ⟨rfl, hk9⟩ | ⟨rfl, hk9⟩
    · skip
      refine g_c0 hown htab (by decide) (by decide) LnI hN (xcIn _ (by simp)) hce hcv hcl ?_
      refine lv_astore (lv' := [(4, .ref (q9)), (0, .ref (ad 21)), (1, .int (iI (a))), (2, .int (iI (t0))), (3, .ref (ad 31))]) hx hb dL_misfitsAnew_13 hl (by decide) rfl (fun ls hl => ?_)
      refine lv_iconst (v := iI (1)) hx hb dL_misfitsAnew_15 rfl ?_
      refine W.widen (k := 3) (n := 18) (by omega) (by omega) ?_
      refine vx_ret ?_
      exact g_iret hx hb hr hlocks hG (by
        refine ⟨by rw [hk9], Or.inr ⟨by omega, rfl⟩, GI_mono (by omega) hI⟩) dL_misfitsAnew_16
    · skip
      refine g_c1 hown htab (by decide) (by decide) LnS hN (xcIn _ (by simp)) hce hcv hcl (by decide) LnI xnSI ?_
      refine lv_astore (lv' := [(4, .ref (q9)), (0, .ref (ad 21)), (1, .int (iI (a))), (2, .int (iI (t0))), (3, .ref (ad 31))]) hx hb dL_misfitsAnew_17 hl (by decide) rfl (fun ls hl => ?_)
      refine lv_iconst (v := iI (2)) hx hb dL_misfitsAnew_19 rfl ?_
      refine W.widen (k := 3) (n := 18) (by omega) (by omega) ?_
      refine vx_ret ?_
      exact g_iret hx hb hr hlocks hG (by
        refine ⟨by rw [hk9], Or.inr ⟨by omega, rfl⟩, GI_mono (by omega) hI⟩) dL_misfitsAnew_20
  · skip
    obtain ⟨hk0, hpo, hI⟩ := hp
    obtain ⟨rfl, hs1⟩ := hpo
    refine lv_i2l (v := (iI ((fdV st a t0))).toInt64) hx hb dL_misfitsAnew_8 rfl ?_
    refine g_last hx hb hn hK hG dL_misfitsAnew_9 (fun H locs hG => ?_)
    obtain ⟨st2, hst2⟩ : ∃ z : St, z = ust st9 70 0 0 (((iI ((fdV st a t0))).toInt64) : Int64).toInt := ⟨_, rfl⟩
    rw [← hst2] at hG
    replace hI := hst2 ▸ GI_o hI (c := 70) (o := 0) (i := 0) (v := (((iI ((fdV st a t0))).toInt64) : Int64).toInt) (by decide)
    refine lv_goto (tgt := 21) hx hb dL_misfitsAnew_10 (by decide) ?_
    refine lv_iconst (v := iI (0)) hx hb dL_misfitsAnew_21 rfl ?_
    refine W.widen (k := 3) (n := 18) (by omega) (by omega) ?_
    refine vx_ret ?_
    exact g_iret hx hb hr hlocks hG (by
      refine ⟨by rw [hk0], Or.inl ⟨hk0, _, hs1, ?_⟩, GI_mono (by omega) hI⟩
      rw [hst2]) dL_misfitsAnew_22
set_option maxHeartbeats 400000 in
set_option maxRecDepth 100000 in
theorem mL_answer (l : Launch) (D : va_G) (cy : Nat → ClassId) (ad : Nat → Nat) (n : Nat) (st : St) (sz fz : Nat) (wb : Int) (hn : 75 ≤ n) (hI : GI wb st) (hW : wb ≤ 2000000) (a : Int) (vec : Nat) (o : Int) (ha : -2147483648 ≤ a ∧ a < 2147483648) (ho : -2147483648 ≤ o ∧ o < 2147483648) (hlf : l.stackTraces = false) (hnl : (n : Int) = 75 + 3 * st 33 0 0) (hR : RY st) (hvec : vec < 2 ^ 64) : vx_Met l yL_answer wsL_answer ({ frames := 8, cells := 3, slots := 18, locals := 136 }) (va_Pc [.ref (ad 21), .int (iI (a)), .long (lN vec), .int (iI (o)), .ref (ad 31)] (gB D cy ad n st sz fz)) (va_Qi (fun (r : Int32) (st' : St) => r = iI (kAns st a o) ∧ ((kAns st a o = 0 ∧ ∃ st1 : St, (st1 = st) ∧ st' = ust st1 70 0 0 ((iI (ansU st a o vec 8)).toInt64).toInt) ∨ (kAns st a o ≠ 0 ∧ st' = st)) ∧ GI wb st') (gP D cy ad n) (gA n ad sz)) (gX D cy ad n (fun (E : String) (st' : St) => False) (gA n ad sz)) 3 18 (gA n ad sz) := by
  refine vx_ofWH (cc := cL_answer) (maxL := 7) (ret := (some .int)) (hh := [(0, 13, 16, 21), (0, 13, 20, 15)]) (by decide) rfl ?_
  intro p e s m args below meth c s₁ B hml hv
  obtain ⟨rfl, hsz, hP, hK, hD0, hN, hZ⟩ := hv
  have hx := B.exec
  have hb := B.bytes
  have hr := B.returns
  have hts := atoms_spec (ws := wsL_answer) B.pre
  have hown : s.vm.findClass RL = some m.cls := findClass_of_methodNamed B.named
  have hlocks := B.notSynchronized
  have htab : c.exceptionTable.toList = [⟨0, 13, 16, 21⟩, ⟨0, 13, 20, 15⟩] := vx_table (x := yL_answer) B (hts (.codeWith yL_answer cL_answer 7 (some .int) [(0, 13, 16, 21), (0, 13, 20, 15)]) (by decide +kernel))
  subst hsz
  have hA : ∀ q : Nat, s.heap.size ≤ q → gA n ad s.heap.size q := fun q h => Or.inr h
  have hG : GH D cy ad n st (gA n ad s.heap.size) s.heap s.heap [] := ⟨hP, gw_A hD0, va_S.rf⟩
  have hl := lv_entry ([.ref (ad 21), .int (iI (a)), .long (lN vec), .int (iI (o)), .ref (ad 31)]) (n := 7) (Nat.le_of_ble_eq_true rfl)
  rw [lg_entry_eq]
  generalize (lg_sl ([.ref (ad 21), .int (iI (a)), .long (lN vec), .int (iI (o)), .ref (ad 31)]) ++ List.replicate (7 - (lg_sl ([.ref (ad 21), .int (iI (a)), .long (lN vec), .int (iI (o)), .ref (ad 31)])).length) Slot.unset).toArray = ls at hl ⊢
  have hl : lv_has ls 7 [(0, .ref (ad 21)), (1, .int (iI (a))), (2, .long (lN vec)), (4, .int (iI (o))), (5, .ref (ad 31))] := hl
  have LnI := hts (.classLink RL 21 xI) (by decide +kernel)
  have LnS := hts (.classLink RL 15 xS) (by decide +kernel)
  have hI0 := hI
  refine lv_aload hx hb dL_answer_0 (lv_at hl 4 rfl) ?_
  refine lv_iconst (v := iI (0)) hx hb dL_answer_2 rfl ?_
  refine lv_aload_n hx hb dL_answer_3 rfl (lv_at hl 0 rfl) ?_
  refine lv_iload_n hx hb dL_answer_4 rfl (lv_at hl 1 rfl) ?_
  refine lv_lload_n hx hb dL_answer_5 rfl (lv_at hl 2 rfl) ?_
  refine lv_iload hx hb dL_answer_6 (lv_at hl 3 rfl) ?_
  refine gx_goi hG hA (vx_runV (As := [.int (iI (a)), .long (lN vec), .int (iI (o))]) (rest := [.int (iI (0)), .ref (ad 31)]) ⟨hx, hb, hml, hown, hts⟩ (mX5_answer l D cy ad n st _ fz wb hn hI (by omega) (a) vec (o) (by omega) (by omega) hlf hnl hR (by omega)) (cwV 3 hts gL_answer_X5_answer rfl rfl rfl (by decide +kernel) ⟨Nat.le_of_ble_eq_true rfl, Nat.le_of_ble_eq_true rfl⟩) ⟨g_blind, va_recv hK hG.1 (q0 := 21) (ci := 5) rfl ((gw_at (by omega)).trans (by rw [gC_21 st ad cy])), g_pre hK hG hA hN hZ⟩ rfl rfl hl.1 rfl (lv_room (Nat.le_of_ble_eq_true rfl)) dL_answer_8 ⟨Nat.le_of_ble_eq_true rfl, Nat.le_of_ble_eq_true rfl⟩) (fun E9 st9 H locs ce9 q9 hp hG hce hcv hcl => ?_) (fun r9 st9 H locs hp hG => ?_)
  · skip
    obtain ⟨hxe, hs9⟩ := hp
    rw [hs9] at hG
    clear hs9
    rcases xE2 hxe with ⟨rfl, hk9⟩ | ⟨rfl, hk9⟩
    · skip
      refine g_c0 hown htab (by decide) (by decide) LnI hN (xcIn _ (by simp)) hce hcv hcl ?_
      refine lv_astore (lv' := [(6, .ref (q9)), (0, .ref (ad 21)), (1, .int (iI (a))), (2, .long (lN vec)), (4, .int (iI (o))), (5, .ref (ad 31))]) hx hb dL_answer_16 hl (by decide) rfl (fun ls hl => ?_)
      refine lv_iconst (v := iI (1)) hx hb dL_answer_18 rfl ?_
      refine W.widen (k := 3) (n := 18) (by omega) (by omega) ?_
      refine vx_ret ?_
      exact g_iret hx hb hr hlocks hG (by
        refine ⟨by rw [hk9], Or.inr ⟨by omega, rfl⟩, GI_mono (by omega) hI⟩) dL_answer_19
    · skip
      refine g_c1 hown htab (by decide) (by decide) LnS hN (xcIn _ (by simp)) hce hcv hcl (by decide) LnI xnSI ?_
      refine lv_astore (lv' := [(6, .ref (q9)), (0, .ref (ad 21)), (1, .int (iI (a))), (2, .long (lN vec)), (4, .int (iI (o))), (5, .ref (ad 31))]) hx hb dL_answer_20 hl (by decide) rfl (fun ls hl => ?_)
      refine lv_iconst (v := iI (2)) hx hb dL_answer_22 rfl ?_
      refine W.widen (k := 3) (n := 18) (by omega) (by omega) ?_
      refine vx_ret ?_
      exact g_iret hx hb hr hlocks hG (by
        refine ⟨by rw [hk9], Or.inr ⟨by omega, rfl⟩, GI_mono (by omega) hI⟩) dL_answer_23
  · skip
    obtain ⟨hk0, hpo, hI⟩ := hp
    obtain ⟨rfl, hs1⟩ := hpo
    refine lv_i2l (v := (iI ((ansU st a o vec 8))).toInt64) hx hb dL_answer_11 rfl ?_
    refine g_last hx hb hn hK hG dL_answer_12 (fun H locs hG => ?_)
    obtain ⟨st2, hst2⟩ : ∃ z : St, z = ust st9 70 0 0 (((iI ((ansU st a o vec 8))).toInt64) : Int64).toInt := ⟨_, rfl⟩
    rw [← hst2] at hG
    replace hI := hst2 ▸ GI_o hI (c := 70) (o := 0) (i := 0) (v := (((iI ((ansU st a o vec 8))).toInt64) : Int64).toInt) (by decide)
    refine lv_goto (tgt := 24) hx hb dL_answer_13 (by decide) ?_
    refine lv_iconst (v := iI (0)) hx hb dL_answer_24 rfl ?_
    refine W.widen (k := 3) (n := 18) (by omega) (by omega) ?_
    refine vx_ret ?_
    exact g_iret hx hb hr hlocks hG (by
      refine ⟨by rw [hk0], Or.inl ⟨hk0, _, hs1, ?_⟩, GI_mono (by omega) hI⟩
      rw [hst2]) dL_answer_25
set_option maxHeartbeats 400000 in
set_option maxRecDepth 100000 in
theorem mL_ideal (l : Launch) (D : va_G) (cy : Nat → ClassId) (ad : Nat → Nat) (n : Nat) (st : St) (sz fz : Nat) (wb : Int) (hn : 75 ≤ n) (hI : GI wb st) (hW : wb ≤ 2000000) (a : Int) (vec : Nat) (o : Int) (ha : -2147483648 ≤ a ∧ a < 2147483648) (ho : -2147483648 ≤ o ∧ o < 2147483648) (hlf : l.stackTraces = false) (hnl : (n : Int) = 75 + 3 * st 33 0 0) (hR : RY st) (hvec : vec < 2 ^ 64) : vx_Met l yL_ideal wsL_ideal ({ frames := 8, cells := 2, slots := 12, locals := 136 }) (va_Pc [.ref (ad 21), .int (iI (a)), .long (lN vec), .int (iI (o)), .ref (ad 31)] (gB D cy ad n st sz fz)) (va_Qi (fun (r : Int32) (st' : St) => r = iI (kIdl st a o) ∧ ((kIdl st a o = 0 ∧ ∃ st1 : St, (st1 = st) ∧ st' = ust st1 70 0 0 ((iI (idU st a o vec (st 15 0 a).toNat)).toInt64).toInt) ∨ (kIdl st a o ≠ 0 ∧ st' = st)) ∧ GI wb st') (gP D cy ad n) (gA n ad sz)) (gX D cy ad n (fun (E : String) (st' : St) => False) (gA n ad sz)) 2 12 (gA n ad sz) := by
  refine vx_ofWH (cc := cL_ideal) (maxL := 7) (ret := (some .int)) (hh := [(0, 13, 16, 21)]) (by decide) rfl ?_
  intro p e s m args below meth c s₁ B hml hv
  obtain ⟨rfl, hsz, hP, hK, hD0, hN, hZ⟩ := hv
  have hx := B.exec
  have hb := B.bytes
  have hr := B.returns
  have hts := atoms_spec (ws := wsL_ideal) B.pre
  have hown : s.vm.findClass RL = some m.cls := findClass_of_methodNamed B.named
  have hlocks := B.notSynchronized
  have htab : c.exceptionTable.toList = [⟨0, 13, 16, 21⟩] := vx_table (x := yL_ideal) B (hts (.codeWith yL_ideal cL_ideal 7 (some .int) [(0, 13, 16, 21)]) (by decide +kernel))
  subst hsz
  have hA : ∀ q : Nat, s.heap.size ≤ q → gA n ad s.heap.size q := fun q h => Or.inr h
  have hG : GH D cy ad n st (gA n ad s.heap.size) s.heap s.heap [] := ⟨hP, gw_A hD0, va_S.rf⟩
  have hl := lv_entry ([.ref (ad 21), .int (iI (a)), .long (lN vec), .int (iI (o)), .ref (ad 31)]) (n := 7) (Nat.le_of_ble_eq_true rfl)
  rw [lg_entry_eq]
  generalize (lg_sl ([.ref (ad 21), .int (iI (a)), .long (lN vec), .int (iI (o)), .ref (ad 31)]) ++ List.replicate (7 - (lg_sl ([.ref (ad 21), .int (iI (a)), .long (lN vec), .int (iI (o)), .ref (ad 31)])).length) Slot.unset).toArray = ls at hl ⊢
  have hl : lv_has ls 7 [(0, .ref (ad 21)), (1, .int (iI (a))), (2, .long (lN vec)), (4, .int (iI (o))), (5, .ref (ad 31))] := hl
  have LnI := hts (.classLink RL 21 xI) (by decide +kernel)
  have hI0 := hI
  refine lv_aload hx hb dL_ideal_0 (lv_at hl 4 rfl) ?_
  refine lv_iconst (v := iI (0)) hx hb dL_ideal_2 rfl ?_
  refine lv_aload_n hx hb dL_ideal_3 rfl (lv_at hl 0 rfl) ?_
  refine lv_iload_n hx hb dL_ideal_4 rfl (lv_at hl 1 rfl) ?_
  refine lv_lload_n hx hb dL_ideal_5 rfl (lv_at hl 2 rfl) ?_
  refine lv_iload hx hb dL_ideal_6 (lv_at hl 3 rfl) ?_
  refine gx_goi hG hA (vx_runV (As := [.int (iI (a)), .long (lN vec), .int (iI (o))]) (rest := [.int (iI (0)), .ref (ad 31)]) ⟨hx, hb, hml, hown, hts⟩ (mX5_ideal l D cy ad n st _ fz wb hn hI (by omega) (a) vec (o) (by omega) (by omega) hlf hnl hR (by omega)) (cwV 3 hts gL_ideal_X5_ideal rfl rfl rfl (by decide +kernel) ⟨Nat.le_of_ble_eq_true rfl, Nat.le_of_ble_eq_true rfl⟩) ⟨g_blind, va_recv hK hG.1 (q0 := 21) (ci := 5) rfl ((gw_at (by omega)).trans (by rw [gC_21 st ad cy])), g_pre hK hG hA hN hZ⟩ rfl rfl hl.1 rfl (lv_room (Nat.le_of_ble_eq_true rfl)) dL_ideal_8 ⟨Nat.le_of_ble_eq_true rfl, Nat.le_of_ble_eq_true rfl⟩) (fun E9 st9 H locs ce9 q9 hp hG hce hcv hcl => ?_) (fun r9 st9 H locs hp hG => ?_)
  · skip
    obtain ⟨hxe, hs9⟩ := hp
    rw [hs9] at hG
    clear hs9
    obtain ⟨rfl, hk9⟩ := xE1 hxe
    refine g_c0 hown htab (by decide) (by decide) LnI hN (xcIn _ (by simp)) hce hcv hcl ?_
    refine lv_astore (lv' := [(6, .ref (q9)), (0, .ref (ad 21)), (1, .int (iI (a))), (2, .long (lN vec)), (4, .int (iI (o))), (5, .ref (ad 31))]) hx hb dL_ideal_16 hl (by decide) rfl (fun ls hl => ?_)
    refine lv_iconst (v := iI (1)) hx hb dL_ideal_18 rfl ?_
    refine W.widen (k := 2) (n := 12) (by omega) (by omega) ?_
    refine vx_ret ?_
    exact g_iret hx hb hr hlocks hG (by
      refine ⟨by rw [hk9], Or.inr ⟨by omega, rfl⟩, GI_mono (by omega) hI⟩) dL_ideal_19
  · skip
    obtain ⟨hk0, hpo, hI⟩ := hp
    obtain ⟨rfl, hs1⟩ := hpo
    refine lv_i2l (v := (iI ((idU st a o vec (st 15 0 a).toNat))).toInt64) hx hb dL_ideal_11 rfl ?_
    refine g_last hx hb hn hK hG dL_ideal_12 (fun H locs hG => ?_)
    obtain ⟨st2, hst2⟩ : ∃ z : St, z = ust st9 70 0 0 (((iI ((idU st a o vec (st 15 0 a).toNat))).toInt64) : Int64).toInt := ⟨_, rfl⟩
    rw [← hst2] at hG
    replace hI := hst2 ▸ GI_o hI (c := 70) (o := 0) (i := 0) (v := (((iI ((idU st a o vec (st 15 0 a).toNat))).toInt64) : Int64).toInt) (by decide)
    refine lv_goto (tgt := 20) hx hb dL_ideal_13 (by decide) ?_
    refine lv_iconst (v := iI (0)) hx hb dL_ideal_20 rfl ?_
    refine W.widen (k := 2) (n := 12) (by omega) (by omega) ?_
    refine vx_ret ?_
    exact g_iret hx hb hr hlocks hG (by
      refine ⟨by rw [hk0], Or.inl ⟨hk0, _, hs1, ?_⟩, GI_mono (by omega) hI⟩
      rw [hst2]) dL_ideal_21
set_option maxHeartbeats 400000 in
set_option maxRecDepth 100000 in
theorem mL_bound (l : Launch) (D : va_G) (cy : Nat → ClassId) (ad : Nat → Nat) (n : Nat) (st : St) (sz fz : Nat) (wb : Int) (hn : 75 ≤ n) (hI : GI wb st) (hW : wb ≤ 2000000) (a : Int) (o : Int) (u : Int) (ha : -2147483648 ≤ a ∧ a < 2147483648) (ho : -2147483648 ≤ o ∧ o < 2147483648) (hu : -2147483648 ≤ u ∧ u < 2147483648) (hlf : l.stackTraces = false) (hnl : (n : Int) = 75 + 3 * st 33 0 0) (hR : RY st) (huz : u = 0 ∨ u = 1) : vx_Met l yL_bound wsL_bound ({ frames := 8, cells := 3, slots := 18, locals := 135 }) (va_Pc [.ref (ad 21), .int (iI (a)), .int (iI (o)), .int (iI (u)), .ref (ad 31)] (gB D cy ad n st sz fz)) (va_Qi (fun (r : Int32) (st' : St) => r = iI (kAns st a o) ∧ ((kAns st a o = 0 ∧ ∃ st1 : St, (st1 = st) ∧ st' = ust st1 70 0 0 ((iI (255 * (errF st a o 0 u + 16 * errF st a o 1 u - (errF st a o 2 (1 - u) + 16 * errF st a o 3 (1 - u))))).toInt64).toInt) ∨ (kAns st a o ≠ 0 ∧ st' = st)) ∧ GI wb st') (gP D cy ad n) (gA n ad sz)) (gX D cy ad n (fun (E : String) (st' : St) => False) (gA n ad sz)) 3 18 (gA n ad sz) := by
  refine vx_ofWH (cc := cL_bound) (maxL := 6) (ret := (some .int)) (hh := [(0, 12, 15, 21), (0, 12, 19, 15)]) (by decide) rfl ?_
  intro p e s m args below meth c s₁ B hml hv
  obtain ⟨rfl, hsz, hP, hK, hD0, hN, hZ⟩ := hv
  have hx := B.exec
  have hb := B.bytes
  have hr := B.returns
  have hts := atoms_spec (ws := wsL_bound) B.pre
  have hown : s.vm.findClass RL = some m.cls := findClass_of_methodNamed B.named
  have hlocks := B.notSynchronized
  have htab : c.exceptionTable.toList = [⟨0, 12, 15, 21⟩, ⟨0, 12, 19, 15⟩] := vx_table (x := yL_bound) B (hts (.codeWith yL_bound cL_bound 6 (some .int) [(0, 12, 15, 21), (0, 12, 19, 15)]) (by decide +kernel))
  subst hsz
  have hA : ∀ q : Nat, s.heap.size ≤ q → gA n ad s.heap.size q := fun q h => Or.inr h
  have hG : GH D cy ad n st (gA n ad s.heap.size) s.heap s.heap [] := ⟨hP, gw_A hD0, va_S.rf⟩
  have hl := lv_entry ([.ref (ad 21), .int (iI (a)), .int (iI (o)), .int (iI (u)), .ref (ad 31)]) (n := 6) (Nat.le_of_ble_eq_true rfl)
  rw [lg_entry_eq]
  generalize (lg_sl ([.ref (ad 21), .int (iI (a)), .int (iI (o)), .int (iI (u)), .ref (ad 31)]) ++ List.replicate (6 - (lg_sl ([.ref (ad 21), .int (iI (a)), .int (iI (o)), .int (iI (u)), .ref (ad 31)])).length) Slot.unset).toArray = ls at hl ⊢
  have hl : lv_has ls 6 [(0, .ref (ad 21)), (1, .int (iI (a))), (2, .int (iI (o))), (3, .int (iI (u))), (4, .ref (ad 31))] := hl
  have LnI := hts (.classLink RL 21 xI) (by decide +kernel)
  have LnS := hts (.classLink RL 15 xS) (by decide +kernel)
  have hI0 := hI
  refine lv_aload hx hb dL_bound_0 (lv_at hl 4 rfl) ?_
  refine lv_iconst (v := iI (0)) hx hb dL_bound_2 rfl ?_
  refine lv_aload_n hx hb dL_bound_3 rfl (lv_at hl 0 rfl) ?_
  refine lv_iload_n hx hb dL_bound_4 rfl (lv_at hl 1 rfl) ?_
  refine lv_iload_n hx hb dL_bound_5 rfl (lv_at hl 2 rfl) ?_
  refine lv_iload_n hx hb dL_bound_6 rfl (lv_at hl 3 rfl) ?_
  refine gx_goi hG hA (vx_runV (As := [.int (iI (a)), .int (iI (o)), .int (iI (u))]) (rest := [.int (iI (0)), .ref (ad 31)]) ⟨hx, hb, hml, hown, hts⟩ (mX5_bound l D cy ad n st _ fz wb hn hI (by omega) (a) (o) (u) (by omega) (by omega) (by omega) hlf hnl hR (by omega)) (cwV 3 hts gL_bound_X5_bound rfl rfl rfl (by decide +kernel) ⟨Nat.le_of_ble_eq_true rfl, Nat.le_of_ble_eq_true rfl⟩) ⟨g_blind, va_recv hK hG.1 (q0 := 21) (ci := 5) rfl ((gw_at (by omega)).trans (by rw [gC_21 st ad cy])), g_pre hK hG hA hN hZ⟩ rfl rfl hl.1 rfl (lv_room (Nat.le_of_ble_eq_true rfl)) dL_bound_7 ⟨Nat.le_of_ble_eq_true rfl, Nat.le_of_ble_eq_true rfl⟩) (fun E9 st9 H locs ce9 q9 hp hG hce hcv hcl => ?_) (fun r9 st9 H locs hp hG => ?_)
  · skip
    obtain ⟨hxe, hs9⟩ := hp
    rw [hs9] at hG
    clear hs9
    rcases xE2 hxe with ⟨rfl, hk9⟩ | ⟨rfl, hk9⟩
    · skip
      refine g_c0 hown htab (by decide) (by decide) LnI hN (xcIn _ (by simp)) hce hcv hcl ?_
      refine lv_astore (lv' := [(5, .ref (q9)), (0, .ref (ad 21)), (1, .int (iI (a))), (2, .int (iI (o))), (3, .int (iI (u))), (4, .ref (ad 31))]) hx hb dL_bound_15 hl (by decide) rfl (fun ls hl => ?_)
      refine lv_iconst (v := iI (1)) hx hb dL_bound_17 rfl ?_
      refine W.widen (k := 3) (n := 18) (by omega) (by omega) ?_
      refine vx_ret ?_
      exact g_iret hx hb hr hlocks hG (by
        refine ⟨by rw [hk9], Or.inr ⟨by omega, rfl⟩, GI_mono (by omega) hI⟩) dL_bound_18
    · skip
      refine g_c1 hown htab (by decide) (by decide) LnS hN (xcIn _ (by simp)) hce hcv hcl (by decide) LnI xnSI ?_
      refine lv_astore (lv' := [(5, .ref (q9)), (0, .ref (ad 21)), (1, .int (iI (a))), (2, .int (iI (o))), (3, .int (iI (u))), (4, .ref (ad 31))]) hx hb dL_bound_19 hl (by decide) rfl (fun ls hl => ?_)
      refine lv_iconst (v := iI (2)) hx hb dL_bound_21 rfl ?_
      refine W.widen (k := 3) (n := 18) (by omega) (by omega) ?_
      refine vx_ret ?_
      exact g_iret hx hb hr hlocks hG (by
        refine ⟨by rw [hk9], Or.inr ⟨by omega, rfl⟩, GI_mono (by omega) hI⟩) dL_bound_22
  · skip
    obtain ⟨hk0, hpo, hI⟩ := hp
    obtain ⟨rfl, hs1⟩ := hpo
    refine lv_i2l (v := (iI ((255 * (errF st a o 0 u + 16 * errF st a o 1 u - (errF st a o 2 (1 - u) + 16 * errF st a o 3 (1 - u)))))).toInt64) hx hb dL_bound_10 rfl ?_
    refine g_last hx hb hn hK hG dL_bound_11 (fun H locs hG => ?_)
    obtain ⟨st2, hst2⟩ : ∃ z : St, z = ust st9 70 0 0 (((iI ((255 * (errF st a o 0 u + 16 * errF st a o 1 u - (errF st a o 2 (1 - u) + 16 * errF st a o 3 (1 - u)))))).toInt64) : Int64).toInt := ⟨_, rfl⟩
    rw [← hst2] at hG
    replace hI := hst2 ▸ GI_o hI (c := 70) (o := 0) (i := 0) (v := (((iI ((255 * (errF st a o 0 u + 16 * errF st a o 1 u - (errF st a o 2 (1 - u) + 16 * errF st a o 3 (1 - u)))))).toInt64) : Int64).toInt) (by decide)
    refine lv_goto (tgt := 23) hx hb dL_bound_12 (by decide) ?_
    refine lv_iconst (v := iI (0)) hx hb dL_bound_23 rfl ?_
    refine W.widen (k := 3) (n := 18) (by omega) (by omega) ?_
    refine vx_ret ?_
    exact g_iret hx hb hr hlocks hG (by
      refine ⟨by rw [hk0], Or.inl ⟨hk0, _, hs1, ?_⟩, GI_mono (by omega) hI⟩
      rw [hst2]) dL_bound_24
set_option maxHeartbeats 400000 in
set_option maxRecDepth 100000 in
theorem mL_run (l : Launch) (D : va_G) (cy : Nat → ClassId) (ad : Nat → Nat) (n : Nat) (st : St) (sz fz : Nat) (wb : Int) (hn : 75 ≤ n) (hI : GI wb st) (hW : wb ≤ 2000000) (a : Int) (vec : Nat) (ha : -2147483648 ≤ a ∧ a < 2147483648) (hlf : l.stackTraces = false) (hnl : (n : Int) = 75 + 3 * st 33 0 0) (hR : RY st) (hvec : vec < 2 ^ 64) : vx_Met l yL_run wsL_run ({ frames := 8, cells := 7, slots := 42, locals := 158 }) (va_Pc [.ref (ad 21), .int (iI (a)), .long (lN vec), .ref (ad 31)] (gB D cy ad n st sz fz)) (va_Qi (fun (r : Int32) (st' : St) => r = iI (kRun st a) ∧ ((kRun st a = 0 ∧ ∃ st1 : St, (st1 = st) ∧ st' = ust st1 70 0 0 (lN (runC st 0 6 a vec)).toInt) ∨ (kRun st a ≠ 0 ∧ st' = st)) ∧ GI wb st') (gP D cy ad n) (gA n ad sz)) (gX D cy ad n (fun (E : String) (st' : St) => False) (gA n ad sz)) 7 42 (gA n ad sz) := by
  refine vx_ofWH (cc := cL_run) (maxL := 6) (ret := (some .int)) (hh := [(0, 10, 13, 21), (0, 10, 17, 15)]) (by decide) rfl ?_
  intro p e s m args below meth c s₁ B hml hv
  obtain ⟨rfl, hsz, hP, hK, hD0, hN, hZ⟩ := hv
  have hx := B.exec
  have hb := B.bytes
  have hr := B.returns
  have hts := atoms_spec (ws := wsL_run) B.pre
  have hown : s.vm.findClass RL = some m.cls := findClass_of_methodNamed B.named
  have hlocks := B.notSynchronized
  have htab : c.exceptionTable.toList = [⟨0, 10, 13, 21⟩, ⟨0, 10, 17, 15⟩] := vx_table (x := yL_run) B (hts (.codeWith yL_run cL_run 6 (some .int) [(0, 10, 13, 21), (0, 10, 17, 15)]) (by decide +kernel))
  subst hsz
  have hA : ∀ q : Nat, s.heap.size ≤ q → gA n ad s.heap.size q := fun q h => Or.inr h
  have hG : GH D cy ad n st (gA n ad s.heap.size) s.heap s.heap [] := ⟨hP, gw_A hD0, va_S.rf⟩
  have hl := lv_entry ([.ref (ad 21), .int (iI (a)), .long (lN vec), .ref (ad 31)]) (n := 6) (Nat.le_of_ble_eq_true rfl)
  rw [lg_entry_eq]
  generalize (lg_sl ([.ref (ad 21), .int (iI (a)), .long (lN vec), .ref (ad 31)]) ++ List.replicate (6 - (lg_sl ([.ref (ad 21), .int (iI (a)), .long (lN vec), .ref (ad 31)])).length) Slot.unset).toArray = ls at hl ⊢
  have hl : lv_has ls 6 [(0, .ref (ad 21)), (1, .int (iI (a))), (2, .long (lN vec)), (4, .ref (ad 31))] := hl
  have LnI := hts (.classLink RL 21 xI) (by decide +kernel)
  have LnS := hts (.classLink RL 15 xS) (by decide +kernel)
  have hI0 := hI
  refine lv_aload hx hb dL_run_0 (lv_at hl 3 rfl) ?_
  refine lv_iconst (v := iI (0)) hx hb dL_run_2 rfl ?_
  refine lv_aload_n hx hb dL_run_3 rfl (lv_at hl 0 rfl) ?_
  refine lv_iload_n hx hb dL_run_4 rfl (lv_at hl 1 rfl) ?_
  refine lv_lload_n hx hb dL_run_5 rfl (lv_at hl 2 rfl) ?_
  refine gx_gol hG hA (vx_runV (As := [.int (iI (a)), .long (lN vec)]) (rest := [.int (iI (0)), .ref (ad 31)]) ⟨hx, hb, hml, hown, hts⟩ (mX5_run l D cy ad n st _ fz wb hn hI (by omega) (a) vec (by omega) hlf hnl hR (by omega)) (cwV 2 hts gL_run_X5_run rfl rfl rfl (by decide +kernel) ⟨Nat.le_of_ble_eq_true rfl, Nat.le_of_ble_eq_true rfl⟩) ⟨g_blind, va_recv hK hG.1 (q0 := 21) (ci := 5) rfl ((gw_at (by omega)).trans (by rw [gC_21 st ad cy])), g_pre hK hG hA hN hZ⟩ rfl rfl hl.1 rfl (lv_room (Nat.le_of_ble_eq_true rfl)) dL_run_6 ⟨Nat.le_of_ble_eq_true rfl, Nat.le_of_ble_eq_true rfl⟩) (fun E9 st9 H locs ce9 q9 hp hG hce hcv hcl => ?_) (fun r9 st9 H locs hp hG => ?_)
  · skip
    obtain ⟨hxe, hs9⟩ := hp
    rw [hs9] at hG
    clear hs9
    rcases xE2 hxe with ⟨rfl, hk9⟩ | ⟨rfl, hk9⟩
    · skip
      refine g_c0 hown htab (by decide) (by decide) LnI hN (xcIn _ (by simp)) hce hcv hcl ?_
      refine lv_astore (lv' := [(5, .ref (q9)), (0, .ref (ad 21)), (1, .int (iI (a))), (2, .long (lN vec)), (4, .ref (ad 31))]) hx hb dL_run_13 hl (by decide) rfl (fun ls hl => ?_)
      refine lv_iconst (v := iI (1)) hx hb dL_run_15 rfl ?_
      refine W.widen (k := 7) (n := 42) (by omega) (by omega) ?_
      refine vx_ret ?_
      exact g_iret hx hb hr hlocks hG (by
        refine ⟨by rw [hk9], Or.inr ⟨by omega, rfl⟩, GI_mono (by omega) hI⟩) dL_run_16
    · skip
      refine g_c1 hown htab (by decide) (by decide) LnS hN (xcIn _ (by simp)) hce hcv hcl (by decide) LnI xnSI ?_
      refine lv_astore (lv' := [(5, .ref (q9)), (0, .ref (ad 21)), (1, .int (iI (a))), (2, .long (lN vec)), (4, .ref (ad 31))]) hx hb dL_run_17 hl (by decide) rfl (fun ls hl => ?_)
      refine lv_iconst (v := iI (2)) hx hb dL_run_19 rfl ?_
      refine W.widen (k := 7) (n := 42) (by omega) (by omega) ?_
      refine vx_ret ?_
      exact g_iret hx hb hr hlocks hG (by
        refine ⟨by rw [hk9], Or.inr ⟨by omega, rfl⟩, GI_mono (by omega) hI⟩) dL_run_20
  · skip
    obtain ⟨hk0, hpo, hI⟩ := hp
    obtain ⟨rfl, hs1⟩ := hpo
    refine g_last hx hb hn hK hG dL_run_9 (fun H locs hG => ?_)
    obtain ⟨st2, hst2⟩ : ∃ z : St, z = ust st9 70 0 0 ((lN (runC st 0 6 a vec)) : Int64).toInt := ⟨_, rfl⟩
    rw [← hst2] at hG
    replace hI := hst2 ▸ GI_o hI (c := 70) (o := 0) (i := 0) (v := ((lN (runC st 0 6 a vec)) : Int64).toInt) (by decide)
    refine lv_goto (tgt := 21) hx hb dL_run_10 (by decide) ?_
    refine lv_iconst (v := iI (0)) hx hb dL_run_21 rfl ?_
    refine W.widen (k := 7) (n := 42) (by omega) (by omega) ?_
    refine vx_ret ?_
    exact g_iret hx hb hr hlocks hG (by
      refine ⟨by rw [hk0], Or.inl ⟨hk0, _, hs1, ?_⟩, GI_mono (by omega) hI⟩
      rw [hst2]) dL_run_22
set_option maxHeartbeats 400000 in
set_option maxRecDepth 100000 in
theorem mL_runIdeal (l : Launch) (D : va_G) (cy : Nat → ClassId) (ad : Nat → Nat) (n : Nat) (st : St) (sz fz : Nat) (wb : Int) (hn : 75 ≤ n) (hI : GI wb st) (hW : wb ≤ 2000000) (a : Int) (vec : Nat) (ha : -2147483648 ≤ a ∧ a < 2147483648) (hlf : l.stackTraces = false) (hnl : (n : Int) = 75 + 3 * st 33 0 0) (hR : RY st) (hvec : vec < 2 ^ 64) : vx_Met l yL_runIdeal wsL_runIdeal ({ frames := 8, cells := 1, slots := 6, locals := 158 }) (va_Pc [.ref (ad 21), .int (iI (a)), .long (lN vec), .ref (ad 31)] (gB D cy ad n st sz fz)) (va_Qi (fun (r : Int32) (st' : St) => r = iI (kLay st a) ∧ ((kLay st a = 0 ∧ ∃ st1 : St, (st1 = st) ∧ st' = ust st1 70 0 0 (lN (runC st 1 6 a vec)).toInt) ∨ (kLay st a ≠ 0 ∧ st' = st)) ∧ GI wb st') (gP D cy ad n) (gA n ad sz)) (gX D cy ad n (fun (E : String) (st' : St) => False) (gA n ad sz)) 1 6 (gA n ad sz) := by
  refine vx_ofWH (cc := cL_runIdeal) (maxL := 6) (ret := (some .int)) (hh := [(0, 10, 13, 21)]) (by decide) rfl ?_
  intro p e s m args below meth c s₁ B hml hv
  obtain ⟨rfl, hsz, hP, hK, hD0, hN, hZ⟩ := hv
  have hx := B.exec
  have hb := B.bytes
  have hr := B.returns
  have hts := atoms_spec (ws := wsL_runIdeal) B.pre
  have hown : s.vm.findClass RL = some m.cls := findClass_of_methodNamed B.named
  have hlocks := B.notSynchronized
  have htab : c.exceptionTable.toList = [⟨0, 10, 13, 21⟩] := vx_table (x := yL_runIdeal) B (hts (.codeWith yL_runIdeal cL_runIdeal 6 (some .int) [(0, 10, 13, 21)]) (by decide +kernel))
  subst hsz
  have hA : ∀ q : Nat, s.heap.size ≤ q → gA n ad s.heap.size q := fun q h => Or.inr h
  have hG : GH D cy ad n st (gA n ad s.heap.size) s.heap s.heap [] := ⟨hP, gw_A hD0, va_S.rf⟩
  have hl := lv_entry ([.ref (ad 21), .int (iI (a)), .long (lN vec), .ref (ad 31)]) (n := 6) (Nat.le_of_ble_eq_true rfl)
  rw [lg_entry_eq]
  generalize (lg_sl ([.ref (ad 21), .int (iI (a)), .long (lN vec), .ref (ad 31)]) ++ List.replicate (6 - (lg_sl ([.ref (ad 21), .int (iI (a)), .long (lN vec), .ref (ad 31)])).length) Slot.unset).toArray = ls at hl ⊢
  have hl : lv_has ls 6 [(0, .ref (ad 21)), (1, .int (iI (a))), (2, .long (lN vec)), (4, .ref (ad 31))] := hl
  have LnI := hts (.classLink RL 21 xI) (by decide +kernel)
  have hI0 := hI
  refine lv_aload hx hb dL_runIdeal_0 (lv_at hl 3 rfl) ?_
  refine lv_iconst (v := iI (0)) hx hb dL_runIdeal_2 rfl ?_
  refine lv_aload_n hx hb dL_runIdeal_3 rfl (lv_at hl 0 rfl) ?_
  refine lv_iload_n hx hb dL_runIdeal_4 rfl (lv_at hl 1 rfl) ?_
  refine lv_lload_n hx hb dL_runIdeal_5 rfl (lv_at hl 2 rfl) ?_
  refine gx_gol hG hA (vx_runV (As := [.int (iI (a)), .long (lN vec)]) (rest := [.int (iI (0)), .ref (ad 31)]) ⟨hx, hb, hml, hown, hts⟩ (mX5_runIdeal l D cy ad n st _ fz wb hn hI (by omega) (a) vec (by omega) hlf hnl hR (by omega)) (cwV 2 hts gL_runIdeal_X5_runIdeal rfl rfl rfl (by decide +kernel) ⟨Nat.le_of_ble_eq_true rfl, Nat.le_of_ble_eq_true rfl⟩) ⟨g_blind, va_recv hK hG.1 (q0 := 21) (ci := 5) rfl ((gw_at (by omega)).trans (by rw [gC_21 st ad cy])), g_pre hK hG hA hN hZ⟩ rfl rfl hl.1 rfl (lv_room (Nat.le_of_ble_eq_true rfl)) dL_runIdeal_6 ⟨Nat.le_of_ble_eq_true rfl, Nat.le_of_ble_eq_true rfl⟩) (fun E9 st9 H locs ce9 q9 hp hG hce hcv hcl => ?_) (fun r9 st9 H locs hp hG => ?_)
  · skip
    obtain ⟨hxe, hs9⟩ := hp
    rw [hs9] at hG
    clear hs9
    obtain ⟨rfl, hk9⟩ := xE1 hxe
    refine g_c0 hown htab (by decide) (by decide) LnI hN (xcIn _ (by simp)) hce hcv hcl ?_
    refine lv_astore (lv' := [(5, .ref (q9)), (0, .ref (ad 21)), (1, .int (iI (a))), (2, .long (lN vec)), (4, .ref (ad 31))]) hx hb dL_runIdeal_13 hl (by decide) rfl (fun ls hl => ?_)
    refine lv_iconst (v := iI (1)) hx hb dL_runIdeal_15 rfl ?_
    refine W.widen (k := 1) (n := 6) (by omega) (by omega) ?_
    refine vx_ret ?_
    exact g_iret hx hb hr hlocks hG (by
      refine ⟨by rw [hk9], Or.inr ⟨by omega, rfl⟩, GI_mono (by omega) hI⟩) dL_runIdeal_16
  · skip
    obtain ⟨hk0, hpo, hI⟩ := hp
    obtain ⟨rfl, hs1⟩ := hpo
    refine g_last hx hb hn hK hG dL_runIdeal_9 (fun H locs hG => ?_)
    obtain ⟨st2, hst2⟩ : ∃ z : St, z = ust st9 70 0 0 ((lN (runC st 1 6 a vec)) : Int64).toInt := ⟨_, rfl⟩
    rw [← hst2] at hG
    replace hI := hst2 ▸ GI_o hI (c := 70) (o := 0) (i := 0) (v := ((lN (runC st 1 6 a vec)) : Int64).toInt) (by decide)
    refine lv_goto (tgt := 17) hx hb dL_runIdeal_10 (by decide) ?_
    refine lv_iconst (v := iI (0)) hx hb dL_runIdeal_17 rfl ?_
    refine W.widen (k := 1) (n := 6) (by omega) (by omega) ?_
    refine vx_ret ?_
    exact g_iret hx hb hr hlocks hG (by
      refine ⟨by rw [hk0], Or.inl ⟨hk0, _, hs1, ?_⟩, GI_mono (by omega) hI⟩
      rw [hst2]) dL_runIdeal_18
set_option maxHeartbeats 400000 in
set_option maxRecDepth 100000 in
theorem mL_cyclesAnew (l : Launch) (D : va_G) (cy : Nat → ClassId) (ad : Nat → Nat) (n : Nat) (st : St) (sz fz : Nat) (wb : Int) (hn : 75 ≤ n) (hI : GI wb st) (hW : wb ≤ 2000000) (a : Int) (w : Int) (ha : -2147483648 ≤ a ∧ a < 2147483648) (hw : -2147483648 ≤ w ∧ w < 2147483648) (hlf : l.stackTraces = false) (hnl : (n : Int) = 75 + 3 * st 33 0 0) (hR : RY st) : vx_Met l yL_cyclesAnew wsL_cyclesAnew ({ frames := 9, cells := 8, slots := 48, locals := 155 }) (va_Pc [.ref (ad 21), .int (iI (a)), .int (iI (w)), .ref (ad 31)] (gB D cy ad n st sz fz)) (va_Qi (fun (r : Int32) (st' : St) => r = iI (kPipe st a w) ∧ ((kPipe st a w = 0 ∧ ∃ st1 : St, (∃ tf sg lf, st1 = setP (setT st tf sg) lf) ∧ st' = ust st1 70 0 0 ((iI (aCyc st a w)).toInt64).toInt) ∨ (kPipe st a w ≠ 0 ∧ ∃ tf sg, st' = setT st tf sg)) ∧ GI wb st') (gP D cy ad n) (gA n ad sz)) (gX D cy ad n (fun (E : String) (st' : St) => False) (gA n ad sz)) 8 48 (gA n ad sz) := by
  refine vx_ofWH (cc := cL_cyclesAnew) (maxL := 5) (ret := (some .int)) (hh := [(0, 10, 13, 21), (0, 10, 17, 13), (0, 10, 21, 15)]) (by decide) rfl ?_
  intro p e s m args below meth c s₁ B hml hv
  obtain ⟨rfl, hsz, hP, hK, hD0, hN, hZ⟩ := hv
  have hx := B.exec
  have hb := B.bytes
  have hr := B.returns
  have hts := atoms_spec (ws := wsL_cyclesAnew) B.pre
  have hown : s.vm.findClass RL = some m.cls := findClass_of_methodNamed B.named
  have hlocks := B.notSynchronized
  have htab : c.exceptionTable.toList = [⟨0, 10, 13, 21⟩, ⟨0, 10, 17, 13⟩, ⟨0, 10, 21, 15⟩] := vx_table (x := yL_cyclesAnew) B (hts (.codeWith yL_cyclesAnew cL_cyclesAnew 5 (some .int) [(0, 10, 13, 21), (0, 10, 17, 13), (0, 10, 21, 15)]) (by decide +kernel))
  subst hsz
  have hA : ∀ q : Nat, s.heap.size ≤ q → gA n ad s.heap.size q := fun q h => Or.inr h
  have hG : GH D cy ad n st (gA n ad s.heap.size) s.heap s.heap [] := ⟨hP, gw_A hD0, va_S.rf⟩
  have hl := lv_entry ([.ref (ad 21), .int (iI (a)), .int (iI (w)), .ref (ad 31)]) (n := 5) (Nat.le_of_ble_eq_true rfl)
  rw [lg_entry_eq]
  generalize (lg_sl ([.ref (ad 21), .int (iI (a)), .int (iI (w)), .ref (ad 31)]) ++ List.replicate (5 - (lg_sl ([.ref (ad 21), .int (iI (a)), .int (iI (w)), .ref (ad 31)])).length) Slot.unset).toArray = ls at hl ⊢
  have hl : lv_has ls 5 [(0, .ref (ad 21)), (1, .int (iI (a))), (2, .int (iI (w))), (3, .ref (ad 31))] := hl
  have LnA := hts (.classLink RL 13 xA) (by decide +kernel)
  have LnI := hts (.classLink RL 21 xI) (by decide +kernel)
  have LnS := hts (.classLink RL 15 xS) (by decide +kernel)
  have hI0 := hI
  refine lv_aload_n hx hb dL_cyclesAnew_0 rfl (lv_at hl 3 rfl) ?_
  refine lv_iconst (v := iI (0)) hx hb dL_cyclesAnew_1 rfl ?_
  refine lv_aload_n hx hb dL_cyclesAnew_2 rfl (lv_at hl 0 rfl) ?_
  refine lv_iload_n hx hb dL_cyclesAnew_3 rfl (lv_at hl 1 rfl) ?_
  refine lv_iload_n hx hb dL_cyclesAnew_4 rfl (lv_at hl 2 rfl) ?_
  refine gx_goi hG hA (vx_runV (As := [.int (iI (a)), .int (iI (w))]) (rest := [.int (iI (0)), .ref (ad 31)]) ⟨hx, hb, hml, hown, hts⟩ (mX5_cyclesAnew l D cy ad n st _ fz wb hn hI (by omega) (a) (w) (by omega) (by omega) hlf hnl hR) (cwV 2 hts gL_cyclesAnew_X5_cyclesAnew rfl rfl rfl (by decide +kernel) ⟨Nat.le_of_ble_eq_true rfl, Nat.le_of_ble_eq_true rfl⟩) ⟨g_blind, va_recv hK hG.1 (q0 := 21) (ci := 5) rfl ((gw_at (by omega)).trans (by rw [gC_21 st ad cy])), g_pre hK hG hA hN hZ⟩ rfl rfl hl.1 rfl (lv_room (Nat.le_of_ble_eq_true rfl)) dL_cyclesAnew_5 ⟨Nat.le_of_ble_eq_true rfl, Nat.le_of_ble_eq_true rfl⟩) (fun E9 st9 H locs ce9 q9 hp hG hce hcv hcl => ?_) (fun r9 st9 H locs hp hG => ?_)
  · skip
    obtain ⟨hxe, hs9, hI⟩ := hp
    rcases xE3 hxe with ⟨rfl, hk9⟩ | ⟨rfl, hk9⟩ | ⟨rfl, hk9⟩
    · skip
      refine g_c0 hown htab (by decide) (by decide) LnI hN (xcIn _ (by simp)) hce hcv hcl ?_
      refine lv_astore (lv' := [(4, .ref (q9)), (0, .ref (ad 21)), (1, .int (iI (a))), (2, .int (iI (w))), (3, .ref (ad 31))]) hx hb dL_cyclesAnew_13 hl (by decide) rfl (fun ls hl => ?_)
      refine lv_iconst (v := iI (1)) hx hb dL_cyclesAnew_15 rfl ?_
      refine W.widen (k := 8) (n := 48) (by omega) (by omega) ?_
      refine vx_ret ?_
      exact g_iret hx hb hr hlocks hG (by
        refine ⟨by rw [hk9], Or.inr ⟨by omega, hs9⟩, GI_mono (by omega) hI⟩) dL_cyclesAnew_16
    · skip
      refine g_c1 hown htab (by decide) (by decide) LnA hN (xcIn _ (by simp)) hce hcv hcl (by decide) LnI xnAI ?_
      refine lv_astore (lv' := [(4, .ref (q9)), (0, .ref (ad 21)), (1, .int (iI (a))), (2, .int (iI (w))), (3, .ref (ad 31))]) hx hb dL_cyclesAnew_17 hl (by decide) rfl (fun ls hl => ?_)
      refine lv_iconst (v := iI (2)) hx hb dL_cyclesAnew_19 rfl ?_
      refine W.widen (k := 8) (n := 48) (by omega) (by omega) ?_
      refine vx_ret ?_
      exact g_iret hx hb hr hlocks hG (by
        refine ⟨by rw [hk9], Or.inr ⟨by omega, hs9⟩, GI_mono (by omega) hI⟩) dL_cyclesAnew_20
    · skip
      refine g_c2 hown htab (by decide) (by decide) LnS hN (xcIn _ (by simp)) hce hcv hcl (by decide) LnI xnSI (by decide) LnA xnSA ?_
      refine lv_astore (lv' := [(4, .ref (q9)), (0, .ref (ad 21)), (1, .int (iI (a))), (2, .int (iI (w))), (3, .ref (ad 31))]) hx hb dL_cyclesAnew_21 hl (by decide) rfl (fun ls hl => ?_)
      refine lv_iconst (v := iI (3)) hx hb dL_cyclesAnew_23 rfl ?_
      refine W.widen (k := 8) (n := 48) (by omega) (by omega) ?_
      refine vx_ret ?_
      exact g_iret hx hb hr hlocks hG (by
        refine ⟨by rw [hk9], Or.inr ⟨by omega, hs9⟩, GI_mono (by omega) hI⟩) dL_cyclesAnew_24
  · skip
    obtain ⟨hk0, hpo, hI⟩ := hp
    obtain ⟨rfl, hs1⟩ := hpo
    refine lv_i2l (v := (iI ((aCyc st a w))).toInt64) hx hb dL_cyclesAnew_8 rfl ?_
    refine g_last hx hb hn hK hG dL_cyclesAnew_9 (fun H locs hG => ?_)
    obtain ⟨st2, hst2⟩ : ∃ z : St, z = ust st9 70 0 0 (((iI ((aCyc st a w))).toInt64) : Int64).toInt := ⟨_, rfl⟩
    rw [← hst2] at hG
    replace hI := hst2 ▸ GI_o hI (c := 70) (o := 0) (i := 0) (v := (((iI ((aCyc st a w))).toInt64) : Int64).toInt) (by decide)
    refine lv_goto (tgt := 25) hx hb dL_cyclesAnew_10 (by decide) ?_
    refine lv_iconst (v := iI (0)) hx hb dL_cyclesAnew_25 rfl ?_
    refine W.widen (k := 8) (n := 48) (by omega) (by omega) ?_
    refine vx_ret ?_
    exact g_iret hx hb hr hlocks hG (by
      refine ⟨by rw [hk0], Or.inl ⟨hk0, _, hs1, ?_⟩, GI_mono (by omega) hI⟩
      rw [hst2]) dL_cyclesAnew_26
