set_option maxHeartbeats 400000 in
set_option maxRecDepth 100000 in
theorem mL_weight (l : Launch) (D : va_G) (cy : Nat → ClassId) (ad : Nat → Nat) (n : Nat) (st : St) (sz fz : Nat) (wb : Int) (hn : 75 ≤ n) (hI : GI wb st) (hW : wb ≤ 2000000) (a : Int) (i : Int) (o : Int) (w : Int) (ha : -2147483648 ≤ a ∧ a < 2147483648) (hi : -2147483648 ≤ i ∧ i < 2147483648) (ho : -2147483648 ≤ o ∧ o < 2147483648) (hw : -2147483648 ≤ w ∧ w < 2147483648) (hlf : l.stackTraces = false) (hnl : (n : Int) = 75 + 3 * st 33 0 0) (hR : RY st) : vx_Met l yL_weight wsL_weight ({ frames := 8, cells := 4, slots := 24, locals := 138 }) (va_Pc [.ref (ad 21), .int (iI (a)), .int (iI (i)), .int (iI (o)), .int (iI (w)), .ref (ad 31)] (gB D cy ad n st sz fz)) (va_Qi (fun (r : Int32) (st' : St) => r = iI (kWeight st a i o w) ∧ ((kWeight st a i o w = 0 ∧ ∃ st1 : St, (st1 = ust st 62 (a).toNat (4 * i + o) w) ∧ st' = ust st1 70 0 0 ((iI (st 62 (a).toNat (4 * i + o))).toInt64).toInt) ∨ (kWeight st a i o w ≠ 0 ∧ st' = st)) ∧ GI wb st') (gP D cy ad n) (gA n ad sz)) (gX D cy ad n (fun (E : String) (st' : St) => False) (gA n ad sz)) 4 24 (gA n ad sz) := by
  refine vx_ofWH (cc := cL_weight) (maxL := 7) (ret := (some .int)) (hh := [(0, 14, 17, 21), (0, 14, 21, 13)]) (by decide) rfl ?_
  intro p e s m args below meth c s₁ B hml hv
  obtain ⟨rfl, hsz, hP, hK, hD0, hN, hZ⟩ := hv
  have hx := B.exec
  have hb := B.bytes
  have hr := B.returns
  have hts := atoms_spec (ws := wsL_weight) B.pre
  have hown : s.vm.findClass RL = some m.cls := findClass_of_methodNamed B.named
  have hlocks := B.notSynchronized
  have htab : c.exceptionTable.toList = [⟨0, 14, 17, 21⟩, ⟨0, 14, 21, 13⟩] := vx_table (x := yL_weight) B (hts (.codeWith yL_weight cL_weight 7 (some .int) [(0, 14, 17, 21), (0, 14, 21, 13)]) (by decide +kernel))
  subst hsz
  have hA : ∀ q : Nat, s.heap.size ≤ q → gA n ad s.heap.size q := fun q h => Or.inr h
  have hG : GH D cy ad n st (gA n ad s.heap.size) s.heap s.heap [] := ⟨hP, gw_A hD0, va_S.rf⟩
  have hl := lv_entry ([.ref (ad 21), .int (iI (a)), .int (iI (i)), .int (iI (o)), .int (iI (w)), .ref (ad 31)]) (n := 7) (Nat.le_of_ble_eq_true rfl)
  rw [lg_entry_eq]
  generalize (lg_sl ([.ref (ad 21), .int (iI (a)), .int (iI (i)), .int (iI (o)), .int (iI (w)), .ref (ad 31)]) ++ List.replicate (7 - (lg_sl ([.ref (ad 21), .int (iI (a)), .int (iI (i)), .int (iI (o)), .int (iI (w)), .ref (ad 31)])).length) Slot.unset).toArray = ls at hl ⊢
  have hl : lv_has ls 7 [(0, .ref (ad 21)), (1, .int (iI (a))), (2, .int (iI (i))), (3, .int (iI (o))), (4, .int (iI (w))), (5, .ref (ad 31))] := hl
  have LnA := hts (.classLink RL 13 xA) (by decide +kernel)
  have LnI := hts (.classLink RL 21 xI) (by decide +kernel)
  have hI0 := hI
  refine lv_aload hx hb dL_weight_0 (lv_at hl 5 rfl) ?_
  refine lv_iconst (v := iI (0)) hx hb dL_weight_2 rfl ?_
  refine lv_aload_n hx hb dL_weight_3 rfl (lv_at hl 0 rfl) ?_
  refine lv_iload_n hx hb dL_weight_4 rfl (lv_at hl 1 rfl) ?_
  refine lv_iload_n hx hb dL_weight_5 rfl (lv_at hl 2 rfl) ?_
  refine lv_iload_n hx hb dL_weight_6 rfl (lv_at hl 3 rfl) ?_
  refine lv_iload hx hb dL_weight_7 (lv_at hl 4 rfl) ?_
  refine gx_goi hG hA (vx_runV (As := [.int (iI (a)), .int (iI (i)), .int (iI (o)), .int (iI (w))]) (rest := [.int (iI (0)), .ref (ad 31)]) ⟨hx, hb, hml, hown, hts⟩ (mX5_weight l D cy ad n st _ fz wb hn hI (by omega) (a) (i) (o) (w) (by omega) (by omega) (by omega) (by omega) hlf hnl hR) (cwV 4 hts gL_weight_X5_weight rfl rfl rfl (by decide +kernel) ⟨Nat.le_of_ble_eq_true rfl, Nat.le_of_ble_eq_true rfl⟩) ⟨g_blind, va_recv hK hG.1 (q0 := 21) (ci := 5) rfl ((gw_at (by omega)).trans (by rw [gC_21 st ad cy])), g_pre hK hG hA hN hZ⟩ rfl rfl hl.1 rfl (lv_room (Nat.le_of_ble_eq_true rfl)) dL_weight_9 ⟨Nat.le_of_ble_eq_true rfl, Nat.le_of_ble_eq_true rfl⟩) (fun E9 st9 H locs ce9 q9 hp hG hce hcv hcl => ?_) (fun r9 st9 H locs hp hG => ?_)
  · skip
    obtain ⟨hxe, hs9⟩ := hp
    rw [hs9] at hG
    clear hs9
    rcases xE2 hxe with ⟨rfl, hk9⟩ | ⟨rfl, hk9⟩
    · skip
      refine g_c0 hown htab (by decide) (by decide) LnI hN (xcIn _ (by simp)) hce hcv hcl ?_
      refine lv_astore (lv' := [(6, .ref (q9)), (0, .ref (ad 21)), (1, .int (iI (a))), (2, .int (iI (i))), (3, .int (iI (o))), (4, .int (iI (w))), (5, .ref (ad 31))]) hx hb dL_weight_17 hl (by decide) rfl (fun ls hl => ?_)
      refine lv_iconst (v := iI (1)) hx hb dL_weight_19 rfl ?_
      refine W.widen (k := 4) (n := 24) (by omega) (by omega) ?_
      refine vx_ret ?_
      exact g_iret hx hb hr hlocks hG (by
        refine ⟨by rw [hk9], Or.inr ⟨by omega, rfl⟩, GI_mono (by omega) hI⟩) dL_weight_20
    · skip
      refine g_c1 hown htab (by decide) (by decide) LnA hN (xcIn _ (by simp)) hce hcv hcl (by decide) LnI xnAI ?_
      refine lv_astore (lv' := [(6, .ref (q9)), (0, .ref (ad 21)), (1, .int (iI (a))), (2, .int (iI (i))), (3, .int (iI (o))), (4, .int (iI (w))), (5, .ref (ad 31))]) hx hb dL_weight_21 hl (by decide) rfl (fun ls hl => ?_)
      refine lv_iconst (v := iI (2)) hx hb dL_weight_23 rfl ?_
      refine W.widen (k := 4) (n := 24) (by omega) (by omega) ?_
      refine vx_ret ?_
      exact g_iret hx hb hr hlocks hG (by
        refine ⟨by rw [hk9], Or.inr ⟨by omega, rfl⟩, GI_mono (by omega) hI⟩) dL_weight_24
  · skip
    obtain ⟨hk0, hpo, hI⟩ := hp
    obtain ⟨rfl, hs1⟩ := hpo
    refine lv_i2l (v := (iI ((st 62 (a).toNat (4 * i + o)))).toInt64) hx hb dL_weight_12 rfl ?_
    refine g_last hx hb hn hK hG dL_weight_13 (fun H locs hG => ?_)
    obtain ⟨st2, hst2⟩ : ∃ z : St, z = ust st9 70 0 0 (((iI ((st 62 (a).toNat (4 * i + o)))).toInt64) : Int64).toInt := ⟨_, rfl⟩
    rw [← hst2] at hG
    replace hI := hst2 ▸ GI_o hI (c := 70) (o := 0) (i := 0) (v := (((iI ((st 62 (a).toNat (4 * i + o)))).toInt64) : Int64).toInt) (by decide)
    refine lv_goto (tgt := 25) hx hb dL_weight_14 (by decide) ?_
    refine lv_iconst (v := iI (0)) hx hb dL_weight_25 rfl ?_
    refine W.widen (k := 4) (n := 24) (by omega) (by omega) ?_
    refine vx_ret ?_
    exact g_iret hx hb hr hlocks hG (by
      refine ⟨by rw [hk0], Or.inl ⟨hk0, _, hs1, ?_⟩, GI_mono (by omega) hI⟩
      rw [hst2]) dL_weight_26
set_option maxHeartbeats 400000 in
set_option maxRecDepth 100000 in
theorem mL_shift (l : Launch) (D : va_G) (cy : Nat → ClassId) (ad : Nat → Nat) (n : Nat) (st : St) (sz fz : Nat) (wb : Int) (hn : 75 ≤ n) (hI : GI wb st) (hW : wb ≤ 2000000) (a : Int) (b : Int) (ha : -2147483648 ≤ a ∧ a < 2147483648) (hb : -2147483648 ≤ b ∧ b < 2147483648) (hlf : l.stackTraces = false) (hnl : (n : Int) = 75 + 3 * st 33 0 0) (hR : RY st) : vx_Met l yL_shift wsL_shift ({ frames := 8, cells := 2, slots := 12, locals := 136 }) (va_Pc [.ref (ad 21), .int (iI (a)), .int (iI (b)), .ref (ad 31)] (gB D cy ad n st sz fz)) (va_Qi (fun (r : Int32) (st' : St) => r = iI (kShift st a b) ∧ ((kShift st a b = 0 ∧ ∃ st1 : St, (st1 = ust st 64 (a).toNat 0 b) ∧ st' = ust st1 70 0 0 ((iI (st 64 (a).toNat 0)).toInt64).toInt) ∨ (kShift st a b ≠ 0 ∧ st' = st)) ∧ GI wb st') (gP D cy ad n) (gA n ad sz)) (gX D cy ad n (fun (E : String) (st' : St) => False) (gA n ad sz)) 2 12 (gA n ad sz) := by
  refine vx_ofWH (cc := cL_shift) (maxL := 5) (ret := (some .int)) (hh := [(0, 10, 13, 21), (0, 10, 17, 13)]) (by decide) rfl ?_
  intro p e s m args below meth c s₁ B hml hv
  obtain ⟨rfl, hsz, hP, hK, hD0, hN, hZ⟩ := hv
  have hx := B.exec
  have hb := B.bytes
  have hr := B.returns
  have hts := atoms_spec (ws := wsL_shift) B.pre
  have hown : s.vm.findClass RL = some m.cls := findClass_of_methodNamed B.named
  have hlocks := B.notSynchronized
  have htab : c.exceptionTable.toList = [⟨0, 10, 13, 21⟩, ⟨0, 10, 17, 13⟩] := vx_table (x := yL_shift) B (hts (.codeWith yL_shift cL_shift 5 (some .int) [(0, 10, 13, 21), (0, 10, 17, 13)]) (by decide +kernel))
  subst hsz
  have hA : ∀ q : Nat, s.heap.size ≤ q → gA n ad s.heap.size q := fun q h => Or.inr h
  have hG : GH D cy ad n st (gA n ad s.heap.size) s.heap s.heap [] := ⟨hP, gw_A hD0, va_S.rf⟩
  have hl := lv_entry ([.ref (ad 21), .int (iI (a)), .int (iI (b)), .ref (ad 31)]) (n := 5) (Nat.le_of_ble_eq_true rfl)
  rw [lg_entry_eq]
  generalize (lg_sl ([.ref (ad 21), .int (iI (a)), .int (iI (b)), .ref (ad 31)]) ++ List.replicate (5 - (lg_sl ([.ref (ad 21), .int (iI (a)), .int (iI (b)), .ref (ad 31)])).length) Slot.unset).toArray = ls at hl ⊢
  have hl : lv_has ls 5 [(0, .ref (ad 21)), (1, .int (iI (a))), (2, .int (iI (b))), (3, .ref (ad 31))] := hl
  have LnA := hts (.classLink RL 13 xA) (by decide +kernel)
  have LnI := hts (.classLink RL 21 xI) (by decide +kernel)
  have hI0 := hI
  refine lv_aload_n hx hb dL_shift_0 rfl (lv_at hl 3 rfl) ?_
  refine lv_iconst (v := iI (0)) hx hb dL_shift_1 rfl ?_
  refine lv_aload_n hx hb dL_shift_2 rfl (lv_at hl 0 rfl) ?_
  refine lv_iload_n hx hb dL_shift_3 rfl (lv_at hl 1 rfl) ?_
  refine lv_iload_n hx hb dL_shift_4 rfl (lv_at hl 2 rfl) ?_
  refine gx_goi hG hA (vx_runV (As := [.int (iI (a)), .int (iI (b))]) (rest := [.int (iI (0)), .ref (ad 31)]) ⟨hx, hb, hml, hown, hts⟩ (mX5_shift l D cy ad n st _ fz wb hn hI (by omega) (a) (b) (by omega) (by omega) hlf hnl hR) (cwV 2 hts gL_shift_X5_shift rfl rfl rfl (by decide +kernel) ⟨Nat.le_of_ble_eq_true rfl, Nat.le_of_ble_eq_true rfl⟩) ⟨g_blind, va_recv hK hG.1 (q0 := 21) (ci := 5) rfl ((gw_at (by omega)).trans (by rw [gC_21 st ad cy])), g_pre hK hG hA hN hZ⟩ rfl rfl hl.1 rfl (lv_room (Nat.le_of_ble_eq_true rfl)) dL_shift_5 ⟨Nat.le_of_ble_eq_true rfl, Nat.le_of_ble_eq_true rfl⟩) (fun E9 st9 H locs ce9 q9 hp hG hce hcv hcl => ?_) (fun r9 st9 H locs hp hG => ?_)
  · skip
    obtain ⟨hxe, hs9⟩ := hp
    rw [hs9] at hG
    clear hs9
    rcases xE2 hxe with ⟨rfl, hk9⟩ | ⟨rfl, hk9⟩
    · skip
      refine g_c0 hown htab (by decide) (by decide) LnI hN (xcIn _ (by simp)) hce hcv hcl ?_
      refine lv_astore (lv' := [(4, .ref (q9)), (0, .ref (ad 21)), (1, .int (iI (a))), (2, .int (iI (b))), (3, .ref (ad 31))]) hx hb dL_shift_13 hl (by decide) rfl (fun ls hl => ?_)
      refine lv_iconst (v := iI (1)) hx hb dL_shift_15 rfl ?_
      refine W.widen (k := 2) (n := 12) (by omega) (by omega) ?_
      refine vx_ret ?_
      exact g_iret hx hb hr hlocks hG (by
        refine ⟨by rw [hk9], Or.inr ⟨by omega, rfl⟩, GI_mono (by omega) hI⟩) dL_shift_16
    · skip
      refine g_c1 hown htab (by decide) (by decide) LnA hN (xcIn _ (by simp)) hce hcv hcl (by decide) LnI xnAI ?_
      refine lv_astore (lv' := [(4, .ref (q9)), (0, .ref (ad 21)), (1, .int (iI (a))), (2, .int (iI (b))), (3, .ref (ad 31))]) hx hb dL_shift_17 hl (by decide) rfl (fun ls hl => ?_)
      refine lv_iconst (v := iI (2)) hx hb dL_shift_19 rfl ?_
      refine W.widen (k := 2) (n := 12) (by omega) (by omega) ?_
      refine vx_ret ?_
      exact g_iret hx hb hr hlocks hG (by
        refine ⟨by rw [hk9], Or.inr ⟨by omega, rfl⟩, GI_mono (by omega) hI⟩) dL_shift_20
  · skip
    obtain ⟨hk0, hpo, hI⟩ := hp
    obtain ⟨rfl, hs1⟩ := hpo
    refine lv_i2l (v := (iI ((st 64 (a).toNat 0))).toInt64) hx hb dL_shift_8 rfl ?_
    refine g_last hx hb hn hK hG dL_shift_9 (fun H locs hG => ?_)
    obtain ⟨st2, hst2⟩ : ∃ z : St, z = ust st9 70 0 0 (((iI ((st 64 (a).toNat 0))).toInt64) : Int64).toInt := ⟨_, rfl⟩
    rw [← hst2] at hG
    replace hI := hst2 ▸ GI_o hI (c := 70) (o := 0) (i := 0) (v := (((iI ((st 64 (a).toNat 0))).toInt64) : Int64).toInt) (by decide)
    refine lv_goto (tgt := 21) hx hb dL_shift_10 (by decide) ?_
    refine lv_iconst (v := iI (0)) hx hb dL_shift_21 rfl ?_
    refine W.widen (k := 2) (n := 12) (by omega) (by omega) ?_
    refine vx_ret ?_
    exact g_iret hx hb hr hlocks hG (by
      refine ⟨by rw [hk0], Or.inl ⟨hk0, _, hs1, ?_⟩, GI_mono (by omega) hI⟩
      rw [hst2]) dL_shift_22
set_option maxHeartbeats 400000 in
set_option maxRecDepth 100000 in
theorem mL_stick (l : Launch) (D : va_G) (cy : Nat → ClassId) (ad : Nat → Nat) (n : Nat) (st : St) (sz fz : Nat) (wb : Int) (hn : 75 ≤ n) (hI : GI wb st) (hW : wb ≤ 2000000) (t0 : Int) (r0 : Int) (d : Int) (v : Int) (ht0 : -2147483648 ≤ t0 ∧ t0 < 2147483648) (hr0 : -2147483648 ≤ r0 ∧ r0 < 2147483648) (hd : -2147483648 ≤ d ∧ d < 2147483648) (hv0 : -2147483648 ≤ v ∧ v < 2147483648) (hlf : l.stackTraces = false) (hnl : (n : Int) = 75 + 3 * st 33 0 0) (hR : RY st) : vx_Met l yL_stick wsL_stick ({ frames := 8, cells := 5, slots := 30, locals := 137 }) (va_Pc [.ref (ad 21), .int (iI (t0)), .int (iI (r0)), .int (iI (d)), .int (iI (v))] (gB D cy ad n st sz fz)) (va_Qi (fun (r : Int32) (st' : St) => r = iI (kStick st t0 r0 d v) ∧ ((kStick st t0 r0 d v = 0 ∧ ∃ st1 : St, (st1 = bsC st (t0).toNat (16 * r0 + d) v) ∧ st' = st1) ∨ (kStick st t0 r0 d v ≠ 0 ∧ st' = st)) ∧ GI wb st') (gP D cy ad n) (gA n ad sz)) (gX D cy ad n (fun (E : String) (st' : St) => False) (gA n ad sz)) 5 30 (gA n ad sz) := by
  refine vx_ofWH (cc := cL_stick) (maxL := 6) (ret := (some .int)) (hh := [(0, 9, 12, 21), (0, 9, 16, 13), (0, 9, 20, 15)]) (by decide) rfl ?_
  intro p e s m args below meth c s₁ B hml hv
  obtain ⟨rfl, hsz, hP, hK, hD0, hN, hZ⟩ := hv
  have hx := B.exec
  have hb := B.bytes
  have hr := B.returns
  have hts := atoms_spec (ws := wsL_stick) B.pre
  have hown : s.vm.findClass RL = some m.cls := findClass_of_methodNamed B.named
  have hlocks := B.notSynchronized
  have htab : c.exceptionTable.toList = [⟨0, 9, 12, 21⟩, ⟨0, 9, 16, 13⟩, ⟨0, 9, 20, 15⟩] := vx_table (x := yL_stick) B (hts (.codeWith yL_stick cL_stick 6 (some .int) [(0, 9, 12, 21), (0, 9, 16, 13), (0, 9, 20, 15)]) (by decide +kernel))
  subst hsz
  have hA : ∀ q : Nat, s.heap.size ≤ q → gA n ad s.heap.size q := fun q h => Or.inr h
  have hG : GH D cy ad n st (gA n ad s.heap.size) s.heap s.heap [] := ⟨hP, gw_A hD0, va_S.rf⟩
  have hl := lv_entry ([.ref (ad 21), .int (iI (t0)), .int (iI (r0)), .int (iI (d)), .int (iI (v))]) (n := 6) (Nat.le_of_ble_eq_true rfl)
  rw [lg_entry_eq]
  generalize (lg_sl ([.ref (ad 21), .int (iI (t0)), .int (iI (r0)), .int (iI (d)), .int (iI (v))]) ++ List.replicate (6 - (lg_sl ([.ref (ad 21), .int (iI (t0)), .int (iI (r0)), .int (iI (d)), .int (iI (v))])).length) Slot.unset).toArray = ls at hl ⊢
  have hl : lv_has ls 6 [(0, .ref (ad 21)), (1, .int (iI (t0))), (2, .int (iI (r0))), (3, .int (iI (d))), (4, .int (iI (v)))] := hl
  have LnA := hts (.classLink RL 13 xA) (by decide +kernel)
  have LnI := hts (.classLink RL 21 xI) (by decide +kernel)
  have LnS := hts (.classLink RL 15 xS) (by decide +kernel)
  have hI0 := hI
  refine lv_aload_n hx hb dL_stick_0 rfl (lv_at hl 0 rfl) ?_
  refine lv_iload_n hx hb dL_stick_1 rfl (lv_at hl 1 rfl) ?_
  refine lv_iload_n hx hb dL_stick_2 rfl (lv_at hl 2 rfl) ?_
  refine lv_iload_n hx hb dL_stick_3 rfl (lv_at hl 3 rfl) ?_
  refine lv_iload hx hb dL_stick_4 (lv_at hl 4 rfl) ?_
  refine gx_gov hG hA (vx_runV (As := [.int (iI (t0)), .int (iI (r0)), .int (iI (d)), .int (iI (v))]) (rest := []) ⟨hx, hb, hml, hown, hts⟩ (mX5_stick l D cy ad n st _ fz wb hn hI (by omega) (t0) (r0) (d) (v) (by omega) (by omega) (by omega) (by omega) hlf hnl hR) (cwV 4 hts gL_stick_X5_stick rfl rfl rfl (by decide +kernel) ⟨Nat.le_of_ble_eq_true rfl, Nat.le_of_ble_eq_true rfl⟩) ⟨g_blind, va_recv hK hG.1 (q0 := 21) (ci := 5) rfl ((gw_at (by omega)).trans (by rw [gC_21 st ad cy])), g_pre hK hG hA hN hZ⟩ rfl rfl hl.1 rfl (lv_room (Nat.le_of_ble_eq_true rfl)) dL_stick_6 ⟨Nat.le_of_ble_eq_true rfl, Nat.le_of_ble_eq_true rfl⟩) (fun E9 st9 H locs ce9 q9 hp hG hce hcv hcl => ?_) (fun st9 H locs hp hG => ?_)
  · skip
    obtain ⟨hxe, hs9⟩ := hp
    rw [hs9] at hG
    clear hs9
    rcases xE3 hxe with ⟨rfl, hk9⟩ | ⟨rfl, hk9⟩ | ⟨rfl, hk9⟩
    · skip
      refine g_c0 hown htab (by decide) (by decide) LnI hN (xcIn _ (by simp)) hce hcv hcl ?_
      refine lv_astore (lv' := [(5, .ref (q9)), (0, .ref (ad 21)), (1, .int (iI (t0))), (2, .int (iI (r0))), (3, .int (iI (d))), (4, .int (iI (v)))]) hx hb dL_stick_12 hl (by decide) rfl (fun ls hl => ?_)
      refine lv_iconst (v := iI (1)) hx hb dL_stick_14 rfl ?_
      refine W.widen (k := 5) (n := 30) (by omega) (by omega) ?_
      refine vx_ret ?_
      exact g_iret hx hb hr hlocks hG (by
        refine ⟨by rw [hk9], Or.inr ⟨by omega, rfl⟩, GI_mono (by omega) hI⟩) dL_stick_15
    · skip
      refine g_c1 hown htab (by decide) (by decide) LnA hN (xcIn _ (by simp)) hce hcv hcl (by decide) LnI xnAI ?_
      refine lv_astore (lv' := [(5, .ref (q9)), (0, .ref (ad 21)), (1, .int (iI (t0))), (2, .int (iI (r0))), (3, .int (iI (d))), (4, .int (iI (v)))]) hx hb dL_stick_16 hl (by decide) rfl (fun ls hl => ?_)
      refine lv_iconst (v := iI (2)) hx hb dL_stick_18 rfl ?_
      refine W.widen (k := 5) (n := 30) (by omega) (by omega) ?_
      refine vx_ret ?_
      exact g_iret hx hb hr hlocks hG (by
        refine ⟨by rw [hk9], Or.inr ⟨by omega, rfl⟩, GI_mono (by omega) hI⟩) dL_stick_19
    · skip
      refine g_c2 hown htab (by decide) (by decide) LnS hN (xcIn _ (by simp)) hce hcv hcl (by decide) LnI xnSI (by decide) LnA xnSA ?_
      refine lv_astore (lv' := [(5, .ref (q9)), (0, .ref (ad 21)), (1, .int (iI (t0))), (2, .int (iI (r0))), (3, .int (iI (d))), (4, .int (iI (v)))]) hx hb dL_stick_20 hl (by decide) rfl (fun ls hl => ?_)
      refine lv_iconst (v := iI (3)) hx hb dL_stick_22 rfl ?_
      refine W.widen (k := 5) (n := 30) (by omega) (by omega) ?_
      refine vx_ret ?_
      exact g_iret hx hb hr hlocks hG (by
        refine ⟨by rw [hk9], Or.inr ⟨by omega, rfl⟩, GI_mono (by omega) hI⟩) dL_stick_23
  · skip
    obtain ⟨hk0, hpo, hI⟩ := hp
    have hs1 := hpo
    refine lv_goto (tgt := 24) hx hb dL_stick_9 (by decide) ?_
    refine lv_iconst (v := iI (0)) hx hb dL_stick_24 rfl ?_
    refine W.widen (k := 5) (n := 30) (by omega) (by omega) ?_
    refine vx_ret ?_
    exact g_iret hx hb hr hlocks hG (by
      exact ⟨by rw [hk0], Or.inl ⟨hk0, _, hs1, rfl⟩, hI⟩) dL_stick_25
set_option maxHeartbeats 400000 in
set_option maxRecDepth 100000 in
theorem mL_cycles (l : Launch) (D : va_G) (cy : Nat → ClassId) (ad : Nat → Nat) (n : Nat) (st : St) (sz fz : Nat) (wb : Int) (hn : 75 ≤ n) (hI : GI wb st) (hW : wb ≤ 2000000) (a : Int) (w : Int) (ha : -2147483648 ≤ a ∧ a < 2147483648) (hw : -2147483648 ≤ w ∧ w < 2147483648) (hlf : l.stackTraces = false) (hnl : (n : Int) = 75 + 3 * st 33 0 0) (hR : RY st) : vx_Met l yL_cycles wsL_cycles ({ frames := 9, cells := 8, slots := 48, locals := 155 }) (va_Pc [.ref (ad 21), .int (iI (a)), .int (iI (w)), .ref (ad 31)] (gB D cy ad n st sz fz)) (va_Qi (fun (r : Int32) (st' : St) => r = iI (kPipe st a w) ∧ ((kPipe st a w = 0 ∧ ∃ st1 : St, (∃ tf sg, st1 = setT st tf sg) ∧ st' = ust st1 70 0 0 ((iI (aCyc st a w)).toInt64).toInt) ∨ (kPipe st a w ≠ 0 ∧ ∃ tf sg, st' = setT st tf sg)) ∧ GI wb st') (gP D cy ad n) (gA n ad sz)) (gX D cy ad n (fun (E : String) (st' : St) => False) (gA n ad sz)) 8 48 (gA n ad sz) := by
  refine vx_ofWH (cc := cL_cycles) (maxL := 5) (ret := (some .int)) (hh := [(0, 10, 13, 21), (0, 10, 17, 13), (0, 10, 21, 15)]) (by decide) rfl ?_
  intro p e s m args below meth c s₁ B hml hv
  obtain ⟨rfl, hsz, hP, hK, hD0, hN, hZ⟩ := hv
  have hx := B.exec
  have hb := B.bytes
  have hr := B.returns
  have hts := atoms_spec (ws := wsL_cycles) B.pre
  have hown : s.vm.findClass RL = some m.cls := findClass_of_methodNamed B.named
  have hlocks := B.notSynchronized
  have htab : c.exceptionTable.toList = [⟨0, 10, 13, 21⟩, ⟨0, 10, 17, 13⟩, ⟨0, 10, 21, 15⟩] := vx_table (x := yL_cycles) B (hts (.codeWith yL_cycles cL_cycles 5 (some .int) [(0, 10, 13, 21), (0, 10, 17, 13), (0, 10, 21, 15)]) (by decide +kernel))
  subst hsz
  have hA : ∀ q : Nat, s.heap.size ≤ q → gA n ad s.heap.size q := fun q h => Or.inr h
  have hG : GH D cy ad n st (gA n ad s.heap.size) s.heap s.heap [] := ⟨hP, gw_A hD0, va_S.rf⟩
  have hl := lv_entry ([.ref (ad 21), .int (iI (a)), .int (iI (w)), .ref (ad 31)]) (n := 5) (Nat.le_of_ble_eq_true rfl)
  rw [lg_entry_eq]
  generalize (lg_sl ([.ref (ad 21), .int (iI (a)), .int (iI (w)), .ref (ad 31)]) ++ List.replicate (5 - (lg_sl ([.ref (ad 21), .int (iI (a)), .int (iI (w)), .ref (ad 31)])).length) Slot.unset).toArray = ls at hl ⊢
  have hl : lv_has ls 5 [(0, .ref (ad 21)), (1, .int (iI (a))), (2, .int (iI (w))), (3, .ref (ad 31))] := hl
  have LnA := hts (.classLink RL 13 xA) (by decide +kernel)
  have LnI := hts (.classLink RL 21 xI) (by decide +kernel)
  have LnS := hts (.classLink RL 15 xS) (by decide +kernel)
  have hI0 := hI
  refine lv_aload_n hx hb dL_cycles_0 rfl (lv_at hl 3 rfl) ?_
  refine lv_iconst (v := iI (0)) hx hb dL_cycles_1 rfl ?_
  refine lv_aload_n hx hb dL_cycles_2 rfl (lv_at hl 0 rfl) ?_
  refine lv_iload_n hx hb dL_cycles_3 rfl (lv_at hl 1 rfl) ?_
  refine lv_iload_n hx hb dL_cycles_4 rfl (lv_at hl 2 rfl) ?_
  refine gx_goi hG hA (vx_runV (As := [.int (iI (a)), .int (iI (w))]) (rest := [.int (iI (0)), .ref (ad 31)]) ⟨hx, hb, hml, hown, hts⟩ (mX5_cycles l D cy ad n st _ fz wb hn hI (by omega) (a) (w) (by omega) (by omega) hlf hnl hR) (cwV 2 hts gL_cycles_X5_cycles rfl rfl rfl (by decide +kernel) ⟨Nat.le_of_ble_eq_true rfl, Nat.le_of_ble_eq_true rfl⟩) ⟨g_blind, va_recv hK hG.1 (q0 := 21) (ci := 5) rfl ((gw_at (by omega)).trans (by rw [gC_21 st ad cy])), g_pre hK hG hA hN hZ⟩ rfl rfl hl.1 rfl (lv_room (Nat.le_of_ble_eq_true rfl)) dL_cycles_5 ⟨Nat.le_of_ble_eq_true rfl, Nat.le_of_ble_eq_true rfl⟩) (fun E9 st9 H locs ce9 q9 hp hG hce hcv hcl => ?_) (fun r9 st9 H locs hp hG => ?_)
  · skip
    obtain ⟨hxe, hs9, hI⟩ := hp
    rcases xE3 hxe with ⟨rfl, hk9⟩ | ⟨rfl, hk9⟩ | ⟨rfl, hk9⟩
    · skip
      refine g_c0 hown htab (by decide) (by decide) LnI hN (xcIn _ (by simp)) hce hcv hcl ?_
      refine lv_astore (lv' := [(4, .ref (q9)), (0, .ref (ad 21)), (1, .int (iI (a))), (2, .int (iI (w))), (3, .ref (ad 31))]) hx hb dL_cycles_13 hl (by decide) rfl (fun ls hl => ?_)
      refine lv_iconst (v := iI (1)) hx hb dL_cycles_15 rfl ?_
      refine W.widen (k := 8) (n := 48) (by omega) (by omega) ?_
      refine vx_ret ?_
      exact g_iret hx hb hr hlocks hG (by
        refine ⟨by rw [hk9], Or.inr ⟨by omega, hs9⟩, GI_mono (by omega) hI⟩) dL_cycles_16
    · skip
      refine g_c1 hown htab (by decide) (by decide) LnA hN (xcIn _ (by simp)) hce hcv hcl (by decide) LnI xnAI ?_
      refine lv_astore (lv' := [(4, .ref (q9)), (0, .ref (ad 21)), (1, .int (iI (a))), (2, .int (iI (w))), (3, .ref (ad 31))]) hx hb dL_cycles_17 hl (by decide) rfl (fun ls hl => ?_)
      refine lv_iconst (v := iI (2)) hx hb dL_cycles_19 rfl ?_
      refine W.widen (k := 8) (n := 48) (by omega) (by omega) ?_
      refine vx_ret ?_
      exact g_iret hx hb hr hlocks hG (by
        refine ⟨by rw [hk9], Or.inr ⟨by omega, hs9⟩, GI_mono (by omega) hI⟩) dL_cycles_20
    · skip
      refine g_c2 hown htab (by decide) (by decide) LnS hN (xcIn _ (by simp)) hce hcv hcl (by decide) LnI xnSI (by decide) LnA xnSA ?_
      refine lv_astore (lv' := [(4, .ref (q9)), (0, .ref (ad 21)), (1, .int (iI (a))), (2, .int (iI (w))), (3, .ref (ad 31))]) hx hb dL_cycles_21 hl (by decide) rfl (fun ls hl => ?_)
      refine lv_iconst (v := iI (3)) hx hb dL_cycles_23 rfl ?_
      refine W.widen (k := 8) (n := 48) (by omega) (by omega) ?_
      refine vx_ret ?_
      exact g_iret hx hb hr hlocks hG (by
        refine ⟨by rw [hk9], Or.inr ⟨by omega, hs9⟩, GI_mono (by omega) hI⟩) dL_cycles_24
  · skip
    obtain ⟨hk0, hpo, hI⟩ := hp
    obtain ⟨rfl, hs1⟩ := hpo
    refine lv_i2l (v := (iI ((aCyc st a w))).toInt64) hx hb dL_cycles_8 rfl ?_
    refine g_last hx hb hn hK hG dL_cycles_9 (fun H locs hG => ?_)
    obtain ⟨st2, hst2⟩ : ∃ z : St, z = ust st9 70 0 0 (((iI ((aCyc st a w))).toInt64) : Int64).toInt := ⟨_, rfl⟩
    rw [← hst2] at hG
    replace hI := hst2 ▸ GI_o hI (c := 70) (o := 0) (i := 0) (v := (((iI ((aCyc st a w))).toInt64) : Int64).toInt) (by decide)
    refine lv_goto (tgt := 25) hx hb dL_cycles_10 (by decide) ?_
    refine lv_iconst (v := iI (0)) hx hb dL_cycles_25 rfl ?_
    refine W.widen (k := 8) (n := 48) (by omega) (by omega) ?_
    refine vx_ret ?_
    exact g_iret hx hb hr hlocks hG (by
      refine ⟨by rw [hk0], Or.inl ⟨hk0, _, hs1, ?_⟩, GI_mono (by omega) hI⟩
      rw [hst2]) dL_cycles_26
set_option maxHeartbeats 400000 in
set_option maxRecDepth 100000 in
theorem mL_wear (l : Launch) (D : va_G) (cy : Nat → ClassId) (ad : Nat → Nat) (n : Nat) (st : St) (sz fz : Nat) (wb : Int) (hn : 75 ≤ n) (hI : GI wb st) (hW : wb ≤ 2000000) (t0 : Int) (ht0 : -2147483648 ≤ t0 ∧ t0 < 2147483648) (hlf : l.stackTraces = false) (hnl : (n : Int) = 75 + 3 * st 33 0 0) (hR : RY st) : vx_Met l yL_wear wsL_wear ({ frames := 8, cells := 1, slots := 6, locals := 136 }) (va_Pc [.ref (ad 21), .int (iI (t0)), .ref (ad 31)] (gB D cy ad n st sz fz)) (va_Qi (fun (r : Int32) (st' : St) => r = iI (kRange 0 5 t0) ∧ ((kRange 0 5 t0 = 0 ∧ ∃ st1 : St, (st1 = st) ∧ st' = ust st1 70 0 0 (lI (weU st t0 128)).toInt) ∨ (kRange 0 5 t0 ≠ 0 ∧ st' = st)) ∧ GI wb st') (gP D cy ad n) (gA n ad sz)) (gX D cy ad n (fun (E : String) (st' : St) => False) (gA n ad sz)) 1 6 (gA n ad sz) := by
  refine vx_ofWH (cc := cL_wear) (maxL := 4) (ret := (some .int)) (hh := [(0, 8, 11, 21)]) (by decide) rfl ?_
  intro p e s m args below meth c s₁ B hml hv
  obtain ⟨rfl, hsz, hP, hK, hD0, hN, hZ⟩ := hv
  have hx := B.exec
  have hb := B.bytes
  have hr := B.returns
  have hts := atoms_spec (ws := wsL_wear) B.pre
  have hown : s.vm.findClass RL = some m.cls := findClass_of_methodNamed B.named
  have hlocks := B.notSynchronized
  have htab : c.exceptionTable.toList = [⟨0, 8, 11, 21⟩] := vx_table (x := yL_wear) B (hts (.codeWith yL_wear cL_wear 4 (some .int) [(0, 8, 11, 21)]) (by decide +kernel))
  subst hsz
  have hA : ∀ q : Nat, s.heap.size ≤ q → gA n ad s.heap.size q := fun q h => Or.inr h
  have hG : GH D cy ad n st (gA n ad s.heap.size) s.heap s.heap [] := ⟨hP, gw_A hD0, va_S.rf⟩
  have hl := lv_entry ([.ref (ad 21), .int (iI (t0)), .ref (ad 31)]) (n := 4) (Nat.le_of_ble_eq_true rfl)
  rw [lg_entry_eq]
  generalize (lg_sl ([.ref (ad 21), .int (iI (t0)), .ref (ad 31)]) ++ List.replicate (4 - (lg_sl ([.ref (ad 21), .int (iI (t0)), .ref (ad 31)])).length) Slot.unset).toArray = ls at hl ⊢
  have hl : lv_has ls 4 [(0, .ref (ad 21)), (1, .int (iI (t0))), (2, .ref (ad 31))] := hl
  have LnI := hts (.classLink RL 21 xI) (by decide +kernel)
  have hI0 := hI
  refine lv_aload_n hx hb dL_wear_0 rfl (lv_at hl 2 rfl) ?_
  refine lv_iconst (v := iI (0)) hx hb dL_wear_1 rfl ?_
  refine lv_aload_n hx hb dL_wear_2 rfl (lv_at hl 0 rfl) ?_
  refine lv_iload_n hx hb dL_wear_3 rfl (lv_at hl 1 rfl) ?_
  refine gx_gol hG hA (vx_runV (As := [.int (iI (t0))]) (rest := [.int (iI (0)), .ref (ad 31)]) ⟨hx, hb, hml, hown, hts⟩ (mX5_wear l D cy ad n st _ fz wb hn hI (by omega) (t0) (by omega) hlf hnl hR) (cwV 1 hts gL_wear_X5_wear rfl rfl rfl (by decide +kernel) ⟨Nat.le_of_ble_eq_true rfl, Nat.le_of_ble_eq_true rfl⟩) ⟨g_blind, va_recv hK hG.1 (q0 := 21) (ci := 5) rfl ((gw_at (by omega)).trans (by rw [gC_21 st ad cy])), g_pre hK hG hA hN hZ⟩ rfl rfl hl.1 rfl (lv_room (Nat.le_of_ble_eq_true rfl)) dL_wear_4 ⟨Nat.le_of_ble_eq_true rfl, Nat.le_of_ble_eq_true rfl⟩) (fun E9 st9 H locs ce9 q9 hp hG hce hcv hcl => ?_) (fun r9 st9 H locs hp hG => ?_)
  · skip
    obtain ⟨hxe, hs9⟩ := hp
    rw [hs9] at hG
    clear hs9
    obtain ⟨rfl, hk9⟩ := xE1 hxe
    refine g_c0 hown htab (by decide) (by decide) LnI hN (xcIn _ (by simp)) hce hcv hcl ?_
    refine lv_astore_n (lv' := [(3, .ref (q9)), (0, .ref (ad 21)), (1, .int (iI (t0))), (2, .ref (ad 31))]) hx hb dL_wear_11 rfl hl (by decide) rfl (fun ls hl => ?_)
    refine lv_iconst (v := iI (1)) hx hb dL_wear_12 rfl ?_
    refine W.widen (k := 1) (n := 6) (by omega) (by omega) ?_
    refine vx_ret ?_
    exact g_iret hx hb hr hlocks hG (by
      refine ⟨by rw [hk9], Or.inr ⟨by omega, rfl⟩, GI_mono (by omega) hI⟩) dL_wear_13
  · skip
    obtain ⟨hk0, hpo, hI⟩ := hp
    obtain ⟨rfl, hs1⟩ := hpo
    refine g_last hx hb hn hK hG dL_wear_7 (fun H locs hG => ?_)
    obtain ⟨st2, hst2⟩ : ∃ z : St, z = ust st9 70 0 0 ((lI (weU st t0 128)) : Int64).toInt := ⟨_, rfl⟩
    rw [← hst2] at hG
    replace hI := hst2 ▸ GI_o hI (c := 70) (o := 0) (i := 0) (v := ((lI (weU st t0 128)) : Int64).toInt) (by decide)
    refine lv_goto (tgt := 14) hx hb dL_wear_8 (by decide) ?_
    refine lv_iconst (v := iI (0)) hx hb dL_wear_14 rfl ?_
    refine W.widen (k := 1) (n := 6) (by omega) (by omega) ?_
    refine vx_ret ?_
    exact g_iret hx hb hr hlocks hG (by
      refine ⟨by rw [hk0], Or.inl ⟨hk0, _, hs1, ?_⟩, GI_mono (by omega) hI⟩
      rw [hst2]) dL_wear_15
set_option maxHeartbeats 400000 in
set_option maxRecDepth 100000 in
theorem mL_isTrue (l : Launch) (D : va_G) (cy : Nat → ClassId) (ad : Nat → Nat) (n : Nat) (st : St) (sz fz : Nat) (wb : Int) (hn : 75 ≤ n) (hI : GI wb st) (hW : wb ≤ 2000000) (a : Int) (ha : -2147483648 ≤ a ∧ a < 2147483648) (hlf : l.stackTraces = false) (hnl : (n : Int) = 75 + 3 * st 33 0 0) (hR : RY st) : vx_Met l yL_isTrue wsL_isTrue ({ frames := 8, cells := 1, slots := 6, locals := 133 }) (va_Pc [.ref (ad 21), .int (iI (a)), .ref (ad 31)] (gB D cy ad n st sz fz)) (va_Qi (fun (r : Int32) (st' : St) => r = iI (kLay st a) ∧ ((kLay st a = 0 ∧ ∃ st1 : St, (st1 = st) ∧ st' = ust st1 70 0 0 ((if iI (if st 20 0 a = -1 then 0 else trU st a (16 * (st 15 0 a).toNat)) = iI 0 then (0 : Int64) else 1)).toInt) ∨ (kLay st a ≠ 0 ∧ st' = st)) ∧ GI wb st') (gP D cy ad n) (gA n ad sz)) (gX D cy ad n (fun (E : String) (st' : St) => False) (gA n ad sz)) 1 6 (gA n ad sz) := by
  refine vx_ofWH (cc := cL_isTrue) (maxL := 4) (ret := (some .int)) (hh := [(0, 16, 19, 21)]) (by decide) rfl ?_
  intro p e s m args below meth c s₁ B hml hv
  obtain ⟨rfl, hsz, hP, hK, hD0, hN, hZ⟩ := hv
  have hx := B.exec
  have hb := B.bytes
  have hr := B.returns
  have hts := atoms_spec (ws := wsL_isTrue) B.pre
  have hown : s.vm.findClass RL = some m.cls := findClass_of_methodNamed B.named
  have hlocks := B.notSynchronized
  have htab : c.exceptionTable.toList = [⟨0, 16, 19, 21⟩] := vx_table (x := yL_isTrue) B (hts (.codeWith yL_isTrue cL_isTrue 4 (some .int) [(0, 16, 19, 21)]) (by decide +kernel))
  subst hsz
  have hA : ∀ q : Nat, s.heap.size ≤ q → gA n ad s.heap.size q := fun q h => Or.inr h
  have hG : GH D cy ad n st (gA n ad s.heap.size) s.heap s.heap [] := ⟨hP, gw_A hD0, va_S.rf⟩
  have hl := lv_entry ([.ref (ad 21), .int (iI (a)), .ref (ad 31)]) (n := 4) (Nat.le_of_ble_eq_true rfl)
  rw [lg_entry_eq]
  generalize (lg_sl ([.ref (ad 21), .int (iI (a)), .ref (ad 31)]) ++ List.replicate (4 - (lg_sl ([.ref (ad 21), .int (iI (a)), .ref (ad 31)])).length) Slot.unset).toArray = ls at hl ⊢
  have hl : lv_has ls 4 [(0, .ref (ad 21)), (1, .int (iI (a))), (2, .ref (ad 31))] := hl
  have LnI := hts (.classLink RL 21 xI) (by decide +kernel)
  have hI0 := hI
  have htr := trU_r st a (16 * (st 15 0 a).toNat)
  have hA9 : (if st 20 0 a = -1 then 0 else trU st a (16 * (st 15 0 a).toNat)) = 0 ∨ (if st 20 0 a = -1 then 0 else trU st a (16 * (st 15 0 a).toNat)) = 1 := by split <;> omega
  refine lv_aload_n hx hb dL_isTrue_0 rfl (lv_at hl 2 rfl) ?_
  refine lv_iconst (v := iI (0)) hx hb dL_isTrue_1 rfl ?_
  refine lv_aload_n hx hb dL_isTrue_2 rfl (lv_at hl 0 rfl) ?_
  refine lv_iload_n hx hb dL_isTrue_3 rfl (lv_at hl 1 rfl) ?_
  refine gx_goi hG hA (vx_runV (As := [.int (iI (a))]) (rest := [.int (iI (0)), .ref (ad 31)]) ⟨hx, hb, hml, hown, hts⟩ (mX5_isTrue l D cy ad n st _ fz wb hn hI (by omega) (a) (by omega) hlf hnl hR) (cwV 1 hts gL_isTrue_X5_isTrue rfl rfl rfl (by decide +kernel) ⟨Nat.le_of_ble_eq_true rfl, Nat.le_of_ble_eq_true rfl⟩) ⟨g_blind, va_recv hK hG.1 (q0 := 21) (ci := 5) rfl ((gw_at (by omega)).trans (by rw [gC_21 st ad cy])), g_pre hK hG hA hN hZ⟩ rfl rfl hl.1 rfl (lv_room (Nat.le_of_ble_eq_true rfl)) dL_isTrue_4 ⟨Nat.le_of_ble_eq_true rfl, Nat.le_of_ble_eq_true rfl⟩) (fun E9 st9 H locs ce9 q9 hp hG hce hcv hcl => ?_) (fun r9 st9 H locs hp hG => ?_)
  · skip
    obtain ⟨hxe, hs9⟩ := hp
    rw [hs9] at hG
    clear hs9
    obtain ⟨rfl, hk9⟩ := xE1 hxe
    refine g_c0 hown htab (by decide) (by decide) LnI hN (xcIn _ (by simp)) hce hcv hcl ?_
    refine lv_astore_n (lv' := [(3, .ref (q9)), (0, .ref (ad 21)), (1, .int (iI (a))), (2, .ref (ad 31))]) hx hb dL_isTrue_19 rfl hl (by decide) rfl (fun ls hl => ?_)
    refine lv_iconst (v := iI (1)) hx hb dL_isTrue_20 rfl ?_
    refine W.widen (k := 1) (n := 6) (by omega) (by omega) ?_
    refine vx_ret ?_
    exact g_iret hx hb hr hlocks hG (by
      refine ⟨by rw [hk9], Or.inr ⟨by omega, rfl⟩, GI_mono (by omega) hI⟩) dL_isTrue_21
  · skip
    obtain ⟨hk0, hpo, hI⟩ := hp
    obtain ⟨rfl, hs1⟩ := hpo
    refine r_if_eq (tgt := 14) hx hb (by omega) dL_isTrue_7 (by decide) (fun c2 => ?_) (fun c2 => ?_)
    · skip
      refine lv_lconst (v := 0) hx hb dL_isTrue_14 rfl ?_
      refine g_last hx hb hn hK hG dL_isTrue_15 (fun H locs hG => ?_)
      obtain ⟨st3, hst3⟩ : ∃ z : St, z = ust st9 70 0 0 ((0) : Int64).toInt := ⟨_, rfl⟩
      rw [← hst3] at hG
      replace hI := hst3 ▸ GI_o hI (c := 70) (o := 0) (i := 0) (v := ((0) : Int64).toInt) (by decide)
      refine lv_goto (tgt := 22) hx hb dL_isTrue_16 (by decide) ?_
      refine lv_iconst (v := iI (0)) hx hb dL_isTrue_22 rfl ?_
      refine W.widen (k := 1) (n := 6) (by omega) (by omega) ?_
      refine vx_ret ?_
      exact g_iret hx hb hr hlocks hG (by
        refine ⟨by rw [hk0], Or.inl ⟨hk0, _, hs1, ?_⟩, GI_mono (by omega) hI⟩
        rw [hst3]
        first
          | rw [if_pos (by rw [iI_eq (by omega) (by omega) (by omega) (by omega)]; omega)]
          | rw [if_neg (by rw [iI_eq (by omega) (by omega) (by omega) (by omega)]; omega)]) dL_isTrue_23
    · skip
      refine lv_lconst (v := 1) hx hb dL_isTrue_10 rfl ?_
      refine lv_goto (tgt := 15) hx hb dL_isTrue_11 (by decide) ?_
      refine g_last hx hb hn hK hG dL_isTrue_15 (fun H locs hG => ?_)
      obtain ⟨st4, hst4⟩ : ∃ z : St, z = ust st9 70 0 0 ((1) : Int64).toInt := ⟨_, rfl⟩
      rw [← hst4] at hG
      replace hI := hst4 ▸ GI_o hI (c := 70) (o := 0) (i := 0) (v := ((1) : Int64).toInt) (by decide)
      refine lv_goto (tgt := 22) hx hb dL_isTrue_16 (by decide) ?_
      refine lv_iconst (v := iI (0)) hx hb dL_isTrue_22 rfl ?_
      refine W.widen (k := 1) (n := 6) (by omega) (by omega) ?_
      refine vx_ret ?_
      exact g_iret hx hb hr hlocks hG (by
        refine ⟨by rw [hk0], Or.inl ⟨hk0, _, hs1, ?_⟩, GI_mono (by omega) hI⟩
        rw [hst4]
        first
          | rw [if_pos (by rw [iI_eq (by omega) (by omega) (by omega) (by omega)]; omega)]
          | rw [if_neg (by rw [iI_eq (by omega) (by omega) (by omega) (by omega)]; omega)]) dL_isTrue_23
set_option maxHeartbeats 400000 in
set_option maxRecDepth 100000 in
theorem mL_share (l : Launch) (D : va_G) (cy : Nat → ClassId) (ad : Nat → Nat) (n : Nat) (st : St) (sz fz : Nat) (wb : Int) (hn : 75 ≤ n) (hI : GI wb st) (hW : wb ≤ 2000000) (t0 : Int) (ht0 : -2147483648 ≤ t0 ∧ t0 < 2147483648) (hlf : l.stackTraces = false) (hnl : (n : Int) = 75 + 3 * st 33 0 0) (hR : RY st) : vx_Met l yL_share wsL_share ({ frames := 8, cells := 1, slots := 6, locals := 135 }) (va_Pc [.ref (ad 21), .int (iI (t0)), .ref (ad 32)] (gB D cy ad n st sz fz)) (va_Qi (fun (r : Int32) (st' : St) => r = iI (kRange 0 5 t0) ∧ ((kRange 0 5 t0 = 0 ∧ ∃ st1 : St, (st1 = st) ∧ st' = ust st1 71 0 0 ((FP.f2d (fShare (shU st t0 128))).toNat : Int)) ∨ (kRange 0 5 t0 ≠ 0 ∧ st' = st)) ∧ GI wb st') (gP D cy ad n) (gA n ad sz)) (gX D cy ad n (fun (E : String) (st' : St) => False) (gA n ad sz)) 1 6 (gA n ad sz) := by
  refine vx_ofWH (cc := cL_share) (maxL := 4) (ret := (some .int)) (hh := [(0, 9, 12, 21)]) (by decide) rfl ?_
  intro p e s m args below meth c s₁ B hml hv
  obtain ⟨rfl, hsz, hP, hK, hD0, hN, hZ⟩ := hv
  have hx := B.exec
  have hb := B.bytes
  have hr := B.returns
  have hts := atoms_spec (ws := wsL_share) B.pre
  have hown : s.vm.findClass RL = some m.cls := findClass_of_methodNamed B.named
  have hlocks := B.notSynchronized
  have htab : c.exceptionTable.toList = [⟨0, 9, 12, 21⟩] := vx_table (x := yL_share) B (hts (.codeWith yL_share cL_share 4 (some .int) [(0, 9, 12, 21)]) (by decide +kernel))
  subst hsz
  have hA : ∀ q : Nat, s.heap.size ≤ q → gA n ad s.heap.size q := fun q h => Or.inr h
  have hG : GH D cy ad n st (gA n ad s.heap.size) s.heap s.heap [] := ⟨hP, gw_A hD0, va_S.rf⟩
  have hl := lv_entry ([.ref (ad 21), .int (iI (t0)), .ref (ad 32)]) (n := 4) (Nat.le_of_ble_eq_true rfl)
  rw [lg_entry_eq]
  generalize (lg_sl ([.ref (ad 21), .int (iI (t0)), .ref (ad 32)]) ++ List.replicate (4 - (lg_sl ([.ref (ad 21), .int (iI (t0)), .ref (ad 32)])).length) Slot.unset).toArray = ls at hl ⊢
  have hl : lv_has ls 4 [(0, .ref (ad 21)), (1, .int (iI (t0))), (2, .ref (ad 32))] := hl
  have LnI := hts (.classLink RL 21 xI) (by decide +kernel)
  have hI0 := hI
  refine lv_aload_n hx hb dL_share_0 rfl (lv_at hl 2 rfl) ?_
  refine lv_iconst (v := iI (0)) hx hb dL_share_1 rfl ?_
  refine lv_aload_n hx hb dL_share_2 rfl (lv_at hl 0 rfl) ?_
  refine lv_iload_n hx hb dL_share_3 rfl (lv_at hl 1 rfl) ?_
  refine gx_gof hG hA (vx_runV (As := [.int (iI (t0))]) (rest := [.int (iI (0)), .ref (ad 32)]) ⟨hx, hb, hml, hown, hts⟩ (mX5_share l D cy ad n st _ fz wb hn hI (by omega) (t0) (by omega) hlf hnl hR) (cwV 1 hts gL_share_X5_share rfl rfl rfl (by decide +kernel) ⟨Nat.le_of_ble_eq_true rfl, Nat.le_of_ble_eq_true rfl⟩) ⟨g_blind, va_recv hK hG.1 (q0 := 21) (ci := 5) rfl ((gw_at (by omega)).trans (by rw [gC_21 st ad cy])), g_pre hK hG hA hN hZ⟩ rfl rfl hl.1 rfl (lv_room (Nat.le_of_ble_eq_true rfl)) dL_share_4 ⟨Nat.le_of_ble_eq_true rfl, Nat.le_of_ble_eq_true rfl⟩) (fun E9 st9 H locs ce9 q9 hp hG hce hcv hcl => ?_) (fun r9 st9 H locs hp hG => ?_)
  · skip
    obtain ⟨hxe, hs9⟩ := hp
    rw [hs9] at hG
    clear hs9
    obtain ⟨rfl, hk9⟩ := xE1 hxe
    refine g_c0 hown htab (by decide) (by decide) LnI hN (xcIn _ (by simp)) hce hcv hcl ?_
    refine lv_astore_n (lv' := [(3, .ref (q9)), (0, .ref (ad 21)), (1, .int (iI (t0))), (2, .ref (ad 32))]) hx hb dL_share_12 rfl hl (by decide) rfl (fun ls hl => ?_)
    refine lv_iconst (v := iI (1)) hx hb dL_share_13 rfl ?_
    refine W.widen (k := 1) (n := 6) (by omega) (by omega) ?_
    refine vx_ret ?_
    exact g_iret hx hb hr hlocks hG (by
      refine ⟨by rw [hk9], Or.inr ⟨by omega, rfl⟩, GI_mono (by omega) hI⟩) dL_share_14
  · skip
    obtain ⟨hk0, hpo, hI⟩ := hp
    obtain ⟨rfl, hs1⟩ := hpo
    refine lv_f2d hx hb dL_share_7 (by exact fShD_n2 (by have := shU_r hI0 t0 128; omega)) ?_
    refine g_dast hx hb hn hK hG dL_share_8 (fun H locs hG => ?_)
    obtain ⟨st2, hst2⟩ : ∃ z : St, z = ust st9 71 0 0 ((FP.f2d (fShare (shU st t0 128))).toNat : Int) := ⟨_, rfl⟩
    rw [← hst2] at hG
    replace hI := hst2 ▸ GI_o hI (c := 71) (o := 0) (i := 0) (v := ((FP.f2d (fShare (shU st t0 128))).toNat : Int)) (by decide)
    refine lv_goto (tgt := 15) hx hb dL_share_9 (by decide) ?_
    refine lv_iconst (v := iI (0)) hx hb dL_share_15 rfl ?_
    refine W.widen (k := 1) (n := 6) (by omega) (by omega) ?_
    refine vx_ret ?_
    exact g_iret hx hb hr hlocks hG (by
      refine ⟨by rw [hk0], Or.inl ⟨hk0, _, hs1, ?_⟩, GI_mono (by omega) hI⟩
      rw [hst2]) dL_share_16
set_option maxHeartbeats 400000 in
set_option maxRecDepth 100000 in
theorem mL_next (l : Launch) (D : va_G) (cy : Nat → ClassId) (ad : Nat → Nat) (n : Nat) (st : St) (sz fz : Nat) (wb : Int) (hn : 75 ≤ n) (hI : GI wb st) (hW : wb ≤ 2000000) (a : Int) (b : Int) (ha : -2147483648 ≤ a ∧ a < 2147483648) (hb : -2147483648 ≤ b ∧ b < 2147483648) (hlf : l.stackTraces = false) (hnl : (n : Int) = 75 + 3 * st 33 0 0) (hR : RY st) : vx_Met l yL_next wsL_next ({ frames := 8, cells := 3, slots := 18, locals := 136 }) (va_Pc [.ref (ad 21), .int (iI (a)), .int (iI (b)), .ref (ad 31)] (gB D cy ad n st sz fz)) (va_Qi (fun (r : Int32) (st' : St) => r = iI (kNext st a b) ∧ ((kNext st a b = 0 ∧ ∃ st1 : St, (st1 = ust st 65 (a).toNat 0 b) ∧ st' = ust st1 70 0 0 ((iI (st 65 (a).toNat 0)).toInt64).toInt) ∨ (kNext st a b ≠ 0 ∧ st' = st)) ∧ GI wb st') (gP D cy ad n) (gA n ad sz)) (gX D cy ad n (fun (E : String) (st' : St) => False) (gA n ad sz)) 3 18 (gA n ad sz) := by
  refine vx_ofWH (cc := cL_next) (maxL := 5) (ret := (some .int)) (hh := [(0, 10, 13, 21), (0, 10, 17, 13)]) (by decide) rfl ?_
  intro p e s m args below meth c s₁ B hml hv
  obtain ⟨rfl, hsz, hP, hK, hD0, hN, hZ⟩ := hv
  have hx := B.exec
  have hb := B.bytes
  have hr := B.returns
  have hts := atoms_spec (ws := wsL_next) B.pre
  have hown : s.vm.findClass RL = some m.cls := findClass_of_methodNamed B.named
  have hlocks := B.notSynchronized
  have htab : c.exceptionTable.toList = [⟨0, 10, 13, 21⟩, ⟨0, 10, 17, 13⟩] := vx_table (x := yL_next) B (hts (.codeWith yL_next cL_next 5 (some .int) [(0, 10, 13, 21), (0, 10, 17, 13)]) (by decide +kernel))
  subst hsz
  have hA : ∀ q : Nat, s.heap.size ≤ q → gA n ad s.heap.size q := fun q h => Or.inr h
  have hG : GH D cy ad n st (gA n ad s.heap.size) s.heap s.heap [] := ⟨hP, gw_A hD0, va_S.rf⟩
  have hl := lv_entry ([.ref (ad 21), .int (iI (a)), .int (iI (b)), .ref (ad 31)]) (n := 5) (Nat.le_of_ble_eq_true rfl)
  rw [lg_entry_eq]
  generalize (lg_sl ([.ref (ad 21), .int (iI (a)), .int (iI (b)), .ref (ad 31)]) ++ List.replicate (5 - (lg_sl ([.ref (ad 21), .int (iI (a)), .int (iI (b)), .ref (ad 31)])).length) Slot.unset).toArray = ls at hl ⊢
  have hl : lv_has ls 5 [(0, .ref (ad 21)), (1, .int (iI (a))), (2, .int (iI (b))), (3, .ref (ad 31))] := hl
  have LnA := hts (.classLink RL 13 xA) (by decide +kernel)
  have LnI := hts (.classLink RL 21 xI) (by decide +kernel)
  have hI0 := hI
  refine lv_aload_n hx hb dL_next_0 rfl (lv_at hl 3 rfl) ?_
  refine lv_iconst (v := iI (0)) hx hb dL_next_1 rfl ?_
  refine lv_aload_n hx hb dL_next_2 rfl (lv_at hl 0 rfl) ?_
  refine lv_iload_n hx hb dL_next_3 rfl (lv_at hl 1 rfl) ?_
  refine lv_iload_n hx hb dL_next_4 rfl (lv_at hl 2 rfl) ?_
  refine gx_goi hG hA (vx_runV (As := [.int (iI (a)), .int (iI (b))]) (rest := [.int (iI (0)), .ref (ad 31)]) ⟨hx, hb, hml, hown, hts⟩ (mX5_next l D cy ad n st _ fz wb hn hI (by omega) (a) (b) (by omega) (by omega) hlf hnl hR) (cwV 2 hts gL_next_X5_next rfl rfl rfl (by decide +kernel) ⟨Nat.le_of_ble_eq_true rfl, Nat.le_of_ble_eq_true rfl⟩) ⟨g_blind, va_recv hK hG.1 (q0 := 21) (ci := 5) rfl ((gw_at (by omega)).trans (by rw [gC_21 st ad cy])), g_pre hK hG hA hN hZ⟩ rfl rfl hl.1 rfl (lv_room (Nat.le_of_ble_eq_true rfl)) dL_next_5 ⟨Nat.le_of_ble_eq_true rfl, Nat.le_of_ble_eq_true rfl⟩) (fun E9 st9 H locs ce9 q9 hp hG hce hcv hcl => ?_) (fun r9 st9 H locs hp hG => ?_)
  · skip
    obtain ⟨hxe, hs9⟩ := hp
    rw [hs9] at hG
    clear hs9
    rcases xE2 hxe with ⟨rfl, hk9⟩ | ⟨rfl, hk9⟩
    · skip
      refine g_c0 hown htab (by decide) (by decide) LnI hN (xcIn _ (by simp)) hce hcv hcl ?_
      refine lv_astore (lv' := [(4, .ref (q9)), (0, .ref (ad 21)), (1, .int (iI (a))), (2, .int (iI (b))), (3, .ref (ad 31))]) hx hb dL_next_13 hl (by decide) rfl (fun ls hl => ?_)
      refine lv_iconst (v := iI (1)) hx hb dL_next_15 rfl ?_
      refine W.widen (k := 3) (n := 18) (by omega) (by omega) ?_
      refine vx_ret ?_
      exact g_iret hx hb hr hlocks hG (by
        refine ⟨by rw [hk9], Or.inr ⟨by omega, rfl⟩, GI_mono (by omega) hI⟩) dL_next_16
    · skip
      refine g_c1 hown htab (by decide) (by decide) LnA hN (xcIn _ (by simp)) hce hcv hcl (by decide) LnI xnAI ?_
      refine lv_astore (lv' := [(4, .ref (q9)), (0, .ref (ad 21)), (1, .int (iI (a))), (2, .int (iI (b))), (3, .ref (ad 31))]) hx hb dL_next_17 hl (by decide) rfl (fun ls hl => ?_)
      refine lv_iconst (v := iI (2)) hx hb dL_next_19 rfl ?_
      refine W.widen (k := 3) (n := 18) (by omega) (by omega) ?_
      refine vx_ret ?_
      exact g_iret hx hb hr hlocks hG (by
        refine ⟨by rw [hk9], Or.inr ⟨by omega, rfl⟩, GI_mono (by omega) hI⟩) dL_next_20
  · skip
    obtain ⟨hk0, hpo, hI⟩ := hp
    obtain ⟨rfl, hs1⟩ := hpo
    refine lv_i2l (v := (iI ((st 65 (a).toNat 0))).toInt64) hx hb dL_next_8 rfl ?_
    refine g_last hx hb hn hK hG dL_next_9 (fun H locs hG => ?_)
    obtain ⟨st2, hst2⟩ : ∃ z : St, z = ust st9 70 0 0 (((iI ((st 65 (a).toNat 0))).toInt64) : Int64).toInt := ⟨_, rfl⟩
    rw [← hst2] at hG
    replace hI := hst2 ▸ GI_o hI (c := 70) (o := 0) (i := 0) (v := (((iI ((st 65 (a).toNat 0))).toInt64) : Int64).toInt) (by decide)
    refine lv_goto (tgt := 21) hx hb dL_next_10 (by decide) ?_
    refine lv_iconst (v := iI (0)) hx hb dL_next_21 rfl ?_
    refine W.widen (k := 3) (n := 18) (by omega) (by omega) ?_
    refine vx_ret ?_
    exact g_iret hx hb hr hlocks hG (by
      refine ⟨by rw [hk0], Or.inl ⟨hk0, _, hs1, ?_⟩, GI_mono (by omega) hI⟩
      rw [hst2]) dL_next_22
set_option maxHeartbeats 400000 in
set_option maxRecDepth 100000 in
theorem mL_place (l : Launch) (D : va_G) (cy : Nat → ClassId) (ad : Nat → Nat) (n : Nat) (st : St) (sz fz : Nat) (wb : Int) (hn : 75 ≤ n) (hI : GI wb st) (hW : wb ≤ 1900000) (a : Int) (t0 : Int) (ha : -2147483648 ≤ a ∧ a < 2147483648) (ht0 : -2147483648 ≤ t0 ∧ t0 < 2147483648) (hlf : l.stackTraces = false) (hnl : (n : Int) = 75 + 3 * st 33 0 0) (hR : RY st) : vx_Met l yL_place wsL_place ({ frames := 8, cells := 3, slots := 18, locals := 135 }) (va_Pc [.ref (ad 21), .int (iI (a)), .int (iI (t0)), .ref (ad 31)] (gB D cy ad n st sz fz)) (va_Qi (fun (r : Int32) (st' : St) => r = iI (kPlace st a t0) ∧ ((kPlace st a t0 = 0 ∧ ∃ st1 : St, (st1 = ldCS (plC st (a).toNat (t0).toNat) (a).toNat (t0).toNat) ∧ st' = ust st1 70 0 0 ((iI (ldCF (plC st (a).toNat (t0).toNat) (a).toNat (t0).toNat)).toInt64).toInt) ∨ (kPlace st a t0 ≠ 0 ∧ st' = st)) ∧ GI (wb + 2048) st') (gP D cy ad n) (gA n ad sz)) (gX D cy ad n (fun (E : String) (st' : St) => False) (gA n ad sz)) 3 18 (gA n ad sz) := by
  refine vx_ofWH (cc := cL_place) (maxL := 5) (ret := (some .int)) (hh := [(0, 10, 13, 21), (0, 10, 17, 15)]) (by decide) rfl ?_
  intro p e s m args below meth c s₁ B hml hv
  obtain ⟨rfl, hsz, hP, hK, hD0, hN, hZ⟩ := hv
  have hx := B.exec
  have hb := B.bytes
  have hr := B.returns
  have hts := atoms_spec (ws := wsL_place) B.pre
  have hown : s.vm.findClass RL = some m.cls := findClass_of_methodNamed B.named
  have hlocks := B.notSynchronized
  have htab : c.exceptionTable.toList = [⟨0, 10, 13, 21⟩, ⟨0, 10, 17, 15⟩] := vx_table (x := yL_place) B (hts (.codeWith yL_place cL_place 5 (some .int) [(0, 10, 13, 21), (0, 10, 17, 15)]) (by decide +kernel))
  subst hsz
  have hA : ∀ q : Nat, s.heap.size ≤ q → gA n ad s.heap.size q := fun q h => Or.inr h
  have hG : GH D cy ad n st (gA n ad s.heap.size) s.heap s.heap [] := ⟨hP, gw_A hD0, va_S.rf⟩
  have hl := lv_entry ([.ref (ad 21), .int (iI (a)), .int (iI (t0)), .ref (ad 31)]) (n := 5) (Nat.le_of_ble_eq_true rfl)
  rw [lg_entry_eq]
  generalize (lg_sl ([.ref (ad 21), .int (iI (a)), .int (iI (t0)), .ref (ad 31)]) ++ List.replicate (5 - (lg_sl ([.ref (ad 21), .int (iI (a)), .int (iI (t0)), .ref (ad 31)])).length) Slot.unset).toArray = ls at hl ⊢
  have hl : lv_has ls 5 [(0, .ref (ad 21)), (1, .int (iI (a))), (2, .int (iI (t0))), (3, .ref (ad 31))] := hl
  have LnI := hts (.classLink RL 21 xI) (by decide +kernel)
  have LnS := hts (.classLink RL 15 xS) (by decide +kernel)
  have hI0 := hI
  refine lv_aload_n hx hb dL_place_0 rfl (lv_at hl 3 rfl) ?_
  refine lv_iconst (v := iI (0)) hx hb dL_place_1 rfl ?_
  refine lv_aload_n hx hb dL_place_2 rfl (lv_at hl 0 rfl) ?_
  refine lv_iload_n hx hb dL_place_3 rfl (lv_at hl 1 rfl) ?_
  refine lv_iload_n hx hb dL_place_4 rfl (lv_at hl 2 rfl) ?_
  refine gx_goi hG hA (vx_runV (As := [.int (iI (a)), .int (iI (t0))]) (rest := [.int (iI (0)), .ref (ad 31)]) ⟨hx, hb, hml, hown, hts⟩ (mX5_place l D cy ad n st _ fz wb hn hI (by omega) (a) (t0) (by omega) (by omega) hlf hnl hR) (cwV 2 hts gL_place_X5_place rfl rfl rfl (by decide +kernel) ⟨Nat.le_of_ble_eq_true rfl, Nat.le_of_ble_eq_true rfl⟩) ⟨g_blind, va_recv hK hG.1 (q0 := 21) (ci := 5) rfl ((gw_at (by omega)).trans (by rw [gC_21 st ad cy])), g_pre hK hG hA hN hZ⟩ rfl rfl hl.1 rfl (lv_room (Nat.le_of_ble_eq_true rfl)) dL_place_5 ⟨Nat.le_of_ble_eq_true rfl, Nat.le_of_ble_eq_true rfl⟩) (fun E9 st9 H locs ce9 q9 hp hG hce hcv hcl => ?_) (fun r9 st9 H locs hp hG => ?_)
  · skip
    obtain ⟨hxe, hs9⟩ := hp
    rw [hs9] at hG
    clear hs9
    rcases xE2 hxe with ⟨rfl, hk9⟩ | ⟨rfl, hk9⟩
    · skip
      refine g_c0 hown htab (by decide) (by decide) LnI hN (xcIn _ (by simp)) hce hcv hcl ?_
      refine lv_astore (lv' := [(4, .ref (q9)), (0, .ref (ad 21)), (1, .int (iI (a))), (2, .int (iI (t0))), (3, .ref (ad 31))]) hx hb dL_place_13 hl (by decide) rfl (fun ls hl => ?_)
      refine lv_iconst (v := iI (1)) hx hb dL_place_15 rfl ?_
      refine W.widen (k := 3) (n := 18) (by omega) (by omega) ?_
      refine vx_ret ?_
      exact g_iret hx hb hr hlocks hG (by
        refine ⟨by rw [hk9], Or.inr ⟨by omega, rfl⟩, GI_mono (by omega) hI⟩) dL_place_16
    · skip
      refine g_c1 hown htab (by decide) (by decide) LnS hN (xcIn _ (by simp)) hce hcv hcl (by decide) LnI xnSI ?_
      refine lv_astore (lv' := [(4, .ref (q9)), (0, .ref (ad 21)), (1, .int (iI (a))), (2, .int (iI (t0))), (3, .ref (ad 31))]) hx hb dL_place_17 hl (by decide) rfl (fun ls hl => ?_)
      refine lv_iconst (v := iI (2)) hx hb dL_place_19 rfl ?_
      refine W.widen (k := 3) (n := 18) (by omega) (by omega) ?_
      refine vx_ret ?_
      exact g_iret hx hb hr hlocks hG (by
        refine ⟨by rw [hk9], Or.inr ⟨by omega, rfl⟩, GI_mono (by omega) hI⟩) dL_place_20
  · skip
    obtain ⟨hk0, hpo, hI⟩ := hp
    obtain ⟨rfl, hs1⟩ := hpo
    refine lv_i2l (v := (iI ((ldCF (plC st (a).toNat (t0).toNat) (a).toNat (t0).toNat))).toInt64) hx hb dL_place_8 rfl ?_
    refine g_last hx hb hn hK hG dL_place_9 (fun H locs hG => ?_)
    obtain ⟨st2, hst2⟩ : ∃ z : St, z = ust st9 70 0 0 (((iI ((ldCF (plC st (a).toNat (t0).toNat) (a).toNat (t0).toNat))).toInt64) : Int64).toInt := ⟨_, rfl⟩
    rw [← hst2] at hG
    replace hI := hst2 ▸ GI_o hI (c := 70) (o := 0) (i := 0) (v := (((iI ((ldCF (plC st (a).toNat (t0).toNat) (a).toNat (t0).toNat))).toInt64) : Int64).toInt) (by decide)
    refine lv_goto (tgt := 21) hx hb dL_place_10 (by decide) ?_
    refine lv_iconst (v := iI (0)) hx hb dL_place_21 rfl ?_
    refine W.widen (k := 3) (n := 18) (by omega) (by omega) ?_
    refine vx_ret ?_
    exact g_iret hx hb hr hlocks hG (by
      refine ⟨by rw [hk0], Or.inl ⟨hk0, _, hs1, ?_⟩, GI_mono (by omega) hI⟩
      rw [hst2]) dL_place_22
set_option maxHeartbeats 400000 in
set_option maxRecDepth 100000 in
theorem mL_load (l : Launch) (D : va_G) (cy : Nat → ClassId) (ad : Nat → Nat) (n : Nat) (st : St) (sz fz : Nat) (wb : Int) (hn : 75 ≤ n) (hI : GI wb st) (hW : wb ≤ 1900000) (a : Int) (ha : -2147483648 ≤ a ∧ a < 2147483648) (hlf : l.stackTraces = false) (hnl : (n : Int) = 75 + 3 * st 33 0 0) (hR : RY st) : vx_Met l yL_load wsL_load ({ frames := 8, cells := 2, slots := 12, locals := 133 }) (va_Pc [.ref (ad 21), .int (iI (a)), .ref (ad 31)] (gB D cy ad n st sz fz)) (va_Qi (fun (r : Int32) (st' : St) => r = iI (kPlaced st a) ∧ ((kPlaced st a = 0 ∧ ∃ st1 : St, (st1 = ldCS st (a).toNat (st 66 (a).toNat 0).toNat) ∧ st' = ust st1 70 0 0 ((iI (ldCF st (a).toNat (st 66 (a).toNat 0).toNat)).toInt64).toInt) ∨ (kPlaced st a ≠ 0 ∧ st' = st)) ∧ GI (wb + 2048) st') (gP D cy ad n) (gA n ad sz)) (gX D cy ad n (fun (E : String) (st' : St) => False) (gA n ad sz)) 2 12 (gA n ad sz) := by
  refine vx_ofWH (cc := cL_load) (maxL := 4) (ret := (some .int)) (hh := [(0, 9, 12, 21), (0, 9, 15, 15)]) (by decide) rfl ?_
  intro p e s m args below meth c s₁ B hml hv
  obtain ⟨rfl, hsz, hP, hK, hD0, hN, hZ⟩ := hv
  have hx := B.exec
  have hb := B.bytes
  have hr := B.returns
  have hts := atoms_spec (ws := wsL_load) B.pre
  have hown : s.vm.findClass RL = some m.cls := findClass_of_methodNamed B.named
  have hlocks := B.notSynchronized
  have htab : c.exceptionTable.toList = [⟨0, 9, 12, 21⟩, ⟨0, 9, 15, 15⟩] := vx_table (x := yL_load) B (hts (.codeWith yL_load cL_load 4 (some .int) [(0, 9, 12, 21), (0, 9, 15, 15)]) (by decide +kernel))
  subst hsz
  have hA : ∀ q : Nat, s.heap.size ≤ q → gA n ad s.heap.size q := fun q h => Or.inr h
  have hG : GH D cy ad n st (gA n ad s.heap.size) s.heap s.heap [] := ⟨hP, gw_A hD0, va_S.rf⟩
  have hl := lv_entry ([.ref (ad 21), .int (iI (a)), .ref (ad 31)]) (n := 4) (Nat.le_of_ble_eq_true rfl)
  rw [lg_entry_eq]
  generalize (lg_sl ([.ref (ad 21), .int (iI (a)), .ref (ad 31)]) ++ List.replicate (4 - (lg_sl ([.ref (ad 21), .int (iI (a)), .ref (ad 31)])).length) Slot.unset).toArray = ls at hl ⊢
  have hl : lv_has ls 4 [(0, .ref (ad 21)), (1, .int (iI (a))), (2, .ref (ad 31))] := hl
  have LnI := hts (.classLink RL 21 xI) (by decide +kernel)
  have LnS := hts (.classLink RL 15 xS) (by decide +kernel)
  have hI0 := hI
  refine lv_aload_n hx hb dL_load_0 rfl (lv_at hl 2 rfl) ?_
  refine lv_iconst (v := iI (0)) hx hb dL_load_1 rfl ?_
  refine lv_aload_n hx hb dL_load_2 rfl (lv_at hl 0 rfl) ?_
  refine lv_iload_n hx hb dL_load_3 rfl (lv_at hl 1 rfl) ?_
  refine gx_goi hG hA (vx_runV (As := [.int (iI (a))]) (rest := [.int (iI (0)), .ref (ad 31)]) ⟨hx, hb, hml, hown, hts⟩ (mX5_load l D cy ad n st _ fz wb hn hI (by omega) (a) (by omega) hlf hnl hR) (cwV 1 hts gL_load_X5_load rfl rfl rfl (by decide +kernel) ⟨Nat.le_of_ble_eq_true rfl, Nat.le_of_ble_eq_true rfl⟩) ⟨g_blind, va_recv hK hG.1 (q0 := 21) (ci := 5) rfl ((gw_at (by omega)).trans (by rw [gC_21 st ad cy])), g_pre hK hG hA hN hZ⟩ rfl rfl hl.1 rfl (lv_room (Nat.le_of_ble_eq_true rfl)) dL_load_4 ⟨Nat.le_of_ble_eq_true rfl, Nat.le_of_ble_eq_true rfl⟩) (fun E9 st9 H locs ce9 q9 hp hG hce hcv hcl => ?_) (fun r9 st9 H locs hp hG => ?_)
  · skip
    obtain ⟨hxe, hs9⟩ := hp
    rw [hs9] at hG
    clear hs9
    rcases xE2 hxe with ⟨rfl, hk9⟩ | ⟨rfl, hk9⟩
    · skip
      refine g_c0 hown htab (by decide) (by decide) LnI hN (xcIn _ (by simp)) hce hcv hcl ?_
      refine lv_astore_n (lv' := [(3, .ref (q9)), (0, .ref (ad 21)), (1, .int (iI (a))), (2, .ref (ad 31))]) hx hb dL_load_12 rfl hl (by decide) rfl (fun ls hl => ?_)
      refine lv_iconst (v := iI (1)) hx hb dL_load_13 rfl ?_
      refine W.widen (k := 2) (n := 12) (by omega) (by omega) ?_
      refine vx_ret ?_
      exact g_iret hx hb hr hlocks hG (by
        refine ⟨by rw [hk9], Or.inr ⟨by omega, rfl⟩, GI_mono (by omega) hI⟩) dL_load_14
    · skip
      refine g_c1 hown htab (by decide) (by decide) LnS hN (xcIn _ (by simp)) hce hcv hcl (by decide) LnI xnSI ?_
      refine lv_astore_n (lv' := [(3, .ref (q9)), (0, .ref (ad 21)), (1, .int (iI (a))), (2, .ref (ad 31))]) hx hb dL_load_15 rfl hl (by decide) rfl (fun ls hl => ?_)
      refine lv_iconst (v := iI (2)) hx hb dL_load_16 rfl ?_
      refine W.widen (k := 2) (n := 12) (by omega) (by omega) ?_
      refine vx_ret ?_
      exact g_iret hx hb hr hlocks hG (by
        refine ⟨by rw [hk9], Or.inr ⟨by omega, rfl⟩, GI_mono (by omega) hI⟩) dL_load_17
  · skip
    obtain ⟨hk0, hpo, hI⟩ := hp
    obtain ⟨rfl, hs1⟩ := hpo
    refine lv_i2l (v := (iI ((ldCF st (a).toNat (st 66 (a).toNat 0).toNat))).toInt64) hx hb dL_load_7 rfl ?_
    refine g_last hx hb hn hK hG dL_load_8 (fun H locs hG => ?_)
    obtain ⟨st2, hst2⟩ : ∃ z : St, z = ust st9 70 0 0 (((iI ((ldCF st (a).toNat (st 66 (a).toNat 0).toNat))).toInt64) : Int64).toInt := ⟨_, rfl⟩
    rw [← hst2] at hG
    replace hI := hst2 ▸ GI_o hI (c := 70) (o := 0) (i := 0) (v := (((iI ((ldCF st (a).toNat (st 66 (a).toNat 0).toNat))).toInt64) : Int64).toInt) (by decide)
    refine lv_goto (tgt := 18) hx hb dL_load_9 (by decide) ?_
    refine lv_iconst (v := iI (0)) hx hb dL_load_18 rfl ?_
    refine W.widen (k := 2) (n := 12) (by omega) (by omega) ?_
    refine vx_ret ?_
    exact g_iret hx hb hr hlocks hG (by
      refine ⟨by rw [hk0], Or.inl ⟨hk0, _, hs1, ?_⟩, GI_mono (by omega) hI⟩
      rw [hst2]) dL_load_19
set_option maxHeartbeats 400000 in
set_option maxRecDepth 100000 in
theorem mL_lift (l : Launch) (D : va_G) (cy : Nat → ClassId) (ad : Nat → Nat) (n : Nat) (st : St) (sz fz : Nat) (wb : Int) (hn : 75 ≤ n) (hI : GI wb st) (hW : wb ≤ 2000000) (a : Int) (ha : -2147483648 ≤ a ∧ a < 2147483648) (hlf : l.stackTraces = false) (hnl : (n : Int) = 75 + 3 * st 33 0 0) (hR : RY st) : vx_Met l yL_lift wsL_lift ({ frames := 8, cells := 2, slots := 12, locals := 134 }) (va_Pc [.ref (ad 21), .int (iI (a)), .ref (ad 31)] (gB D cy ad n st sz fz)) (va_Qi (fun (r : Int32) (st' : St) => r = iI (kPlaced st a) ∧ ((kPlaced st a = 0 ∧ ∃ st1 : St, (st1 = ust (ust st 66 (a).toNat 0 (-1)) 50 (st 66 (a).toNat 0).toNat 0 0) ∧ st' = ust st1 70 0 0 ((iI (st 66 (a).toNat 0)).toInt64).toInt) ∨ (kPlaced st a ≠ 0 ∧ st' = st)) ∧ GI wb st') (gP D cy ad n) (gA n ad sz)) (gX D cy ad n (fun (E : String) (st' : St) => False) (gA n ad sz)) 2 12 (gA n ad sz) := by
  refine vx_ofWH (cc := cL_lift) (maxL := 4) (ret := (some .int)) (hh := [(0, 9, 12, 21), (0, 9, 15, 15)]) (by decide) rfl ?_
  intro p e s m args below meth c s₁ B hml hv
  obtain ⟨rfl, hsz, hP, hK, hD0, hN, hZ⟩ := hv
  have hx := B.exec
  have hb := B.bytes
  have hr := B.returns
  have hts := atoms_spec (ws := wsL_lift) B.pre
  have hown : s.vm.findClass RL = some m.cls := findClass_of_methodNamed B.named
  have hlocks := B.notSynchronized
  have htab : c.exceptionTable.toList = [⟨0, 9, 12, 21⟩, ⟨0, 9, 15, 15⟩] := vx_table (x := yL_lift) B (hts (.codeWith yL_lift cL_lift 4 (some .int) [(0, 9, 12, 21), (0, 9, 15, 15)]) (by decide +kernel))
  subst hsz
  have hA : ∀ q : Nat, s.heap.size ≤ q → gA n ad s.heap.size q := fun q h => Or.inr h
  have hG : GH D cy ad n st (gA n ad s.heap.size) s.heap s.heap [] := ⟨hP, gw_A hD0, va_S.rf⟩
  have hl := lv_entry ([.ref (ad 21), .int (iI (a)), .ref (ad 31)]) (n := 4) (Nat.le_of_ble_eq_true rfl)
  rw [lg_entry_eq]
  generalize (lg_sl ([.ref (ad 21), .int (iI (a)), .ref (ad 31)]) ++ List.replicate (4 - (lg_sl ([.ref (ad 21), .int (iI (a)), .ref (ad 31)])).length) Slot.unset).toArray = ls at hl ⊢
  have hl : lv_has ls 4 [(0, .ref (ad 21)), (1, .int (iI (a))), (2, .ref (ad 31))] := hl
  have LnI := hts (.classLink RL 21 xI) (by decide +kernel)
  have LnS := hts (.classLink RL 15 xS) (by decide +kernel)
  have hI0 := hI
  refine lv_aload_n hx hb dL_lift_0 rfl (lv_at hl 2 rfl) ?_
  refine lv_iconst (v := iI (0)) hx hb dL_lift_1 rfl ?_
  refine lv_aload_n hx hb dL_lift_2 rfl (lv_at hl 0 rfl) ?_
  refine lv_iload_n hx hb dL_lift_3 rfl (lv_at hl 1 rfl) ?_
  refine gx_goi hG hA (vx_runV (As := [.int (iI (a))]) (rest := [.int (iI (0)), .ref (ad 31)]) ⟨hx, hb, hml, hown, hts⟩ (mX5_lift l D cy ad n st _ fz wb hn hI (by omega) (a) (by omega) hlf hnl hR) (cwV 1 hts gL_lift_X5_lift rfl rfl rfl (by decide +kernel) ⟨Nat.le_of_ble_eq_true rfl, Nat.le_of_ble_eq_true rfl⟩) ⟨g_blind, va_recv hK hG.1 (q0 := 21) (ci := 5) rfl ((gw_at (by omega)).trans (by rw [gC_21 st ad cy])), g_pre hK hG hA hN hZ⟩ rfl rfl hl.1 rfl (lv_room (Nat.le_of_ble_eq_true rfl)) dL_lift_4 ⟨Nat.le_of_ble_eq_true rfl, Nat.le_of_ble_eq_true rfl⟩) (fun E9 st9 H locs ce9 q9 hp hG hce hcv hcl => ?_) (fun r9 st9 H locs hp hG => ?_)
  · skip
    obtain ⟨hxe, hs9⟩ := hp
    rw [hs9] at hG
    clear hs9
    rcases xE2 hxe with ⟨rfl, hk9⟩ | ⟨rfl, hk9⟩
    · skip
      refine g_c0 hown htab (by decide) (by decide) LnI hN (xcIn _ (by simp)) hce hcv hcl ?_
      refine lv_astore_n (lv' := [(3, .ref (q9)), (0, .ref (ad 21)), (1, .int (iI (a))), (2, .ref (ad 31))]) hx hb dL_lift_12 rfl hl (by decide) rfl (fun ls hl => ?_)
      refine lv_iconst (v := iI (1)) hx hb dL_lift_13 rfl ?_
      refine W.widen (k := 2) (n := 12) (by omega) (by omega) ?_
      refine vx_ret ?_
      exact g_iret hx hb hr hlocks hG (by
        refine ⟨by rw [hk9], Or.inr ⟨by omega, rfl⟩, GI_mono (by omega) hI⟩) dL_lift_14
    · skip
      refine g_c1 hown htab (by decide) (by decide) LnS hN (xcIn _ (by simp)) hce hcv hcl (by decide) LnI xnSI ?_
      refine lv_astore_n (lv' := [(3, .ref (q9)), (0, .ref (ad 21)), (1, .int (iI (a))), (2, .ref (ad 31))]) hx hb dL_lift_15 rfl hl (by decide) rfl (fun ls hl => ?_)
      refine lv_iconst (v := iI (2)) hx hb dL_lift_16 rfl ?_
      refine W.widen (k := 2) (n := 12) (by omega) (by omega) ?_
      refine vx_ret ?_
      exact g_iret hx hb hr hlocks hG (by
        refine ⟨by rw [hk9], Or.inr ⟨by omega, rfl⟩, GI_mono (by omega) hI⟩) dL_lift_17
  · skip
    obtain ⟨hk0, hpo, hI⟩ := hp
    obtain ⟨rfl, hs1⟩ := hpo
    refine lv_i2l (v := (iI ((st 66 (a).toNat 0))).toInt64) hx hb dL_lift_7 rfl ?_
    refine g_last hx hb hn hK hG dL_lift_8 (fun H locs hG => ?_)
    obtain ⟨st2, hst2⟩ : ∃ z : St, z = ust st9 70 0 0 (((iI ((st 66 (a).toNat 0))).toInt64) : Int64).toInt := ⟨_, rfl⟩
    rw [← hst2] at hG
    replace hI := hst2 ▸ GI_o hI (c := 70) (o := 0) (i := 0) (v := (((iI ((st 66 (a).toNat 0))).toInt64) : Int64).toInt) (by decide)
    refine lv_goto (tgt := 18) hx hb dL_lift_9 (by decide) ?_
    refine lv_iconst (v := iI (0)) hx hb dL_lift_18 rfl ?_
    refine W.widen (k := 2) (n := 12) (by omega) (by omega) ?_
    refine vx_ret ?_
    exact g_iret hx hb hr hlocks hG (by
      refine ⟨by rw [hk0], Or.inl ⟨hk0, _, hs1, ?_⟩, GI_mono (by omega) hI⟩
      rw [hst2]) dL_lift_19
set_option maxHeartbeats 400000 in
set_option maxRecDepth 100000 in
theorem mL_spoil (l : Launch) (D : va_G) (cy : Nat → ClassId) (ad : Nat → Nat) (n : Nat) (st : St) (sz fz : Nat) (wb : Int) (hn : 75 ≤ n) (hI : GI wb st) (hW : wb ≤ 2000000) (t0 : Int) (x : Int) (y : Int) (ht0 : -2147483648 ≤ t0 ∧ t0 < 2147483648) (hx : -2147483648 ≤ x ∧ x < 2147483648) (hy : -2147483648 ≤ y ∧ y < 2147483648) (hlf : l.stackTraces = false) (hnl : (n : Int) = 75 + 3 * st 33 0 0) (hR : RY st) : vx_Met l yL_spoil wsL_spoil ({ frames := 8, cells := 3, slots := 18, locals := 140 }) (va_Pc [.ref (ad 21), .int (iI (t0)), .int (iI (x)), .int (iI (y)), .ref (ad 31)] (gB D cy ad n st sz fz)) (va_Qi (fun (r : Int32) (st' : St) => r = iI (kSpoil t0 x y) ∧ ((kSpoil t0 x y = 0 ∧ ∃ st1 : St, (st1 = (cspI (t0).toNat (st, 0, x) (y).toNat).1) ∧ st' = ust st1 70 0 0 ((iI (cspI (t0).toNat (st, 0, x) (y).toNat).2.1).toInt64).toInt) ∨ (kSpoil t0 x y ≠ 0 ∧ st' = st)) ∧ GI wb st') (gP D cy ad n) (gA n ad sz)) (gX D cy ad n (fun (E : String) (st' : St) => False) (gA n ad sz)) 3 18 (gA n ad sz) := by
  refine vx_ofWH (cc := cL_spoil) (maxL := 6) (ret := (some .int)) (hh := [(0, 12, 15, 21), (0, 12, 19, 13)]) (by decide) rfl ?_
  intro p e s m args below meth c s₁ B hml hv
  obtain ⟨rfl, hsz, hP, hK, hD0, hN, hZ⟩ := hv
  have hx := B.exec
  have hb := B.bytes
  have hr := B.returns
  have hts := atoms_spec (ws := wsL_spoil) B.pre
  have hown : s.vm.findClass RL = some m.cls := findClass_of_methodNamed B.named
  have hlocks := B.notSynchronized
  have htab : c.exceptionTable.toList = [⟨0, 12, 15, 21⟩, ⟨0, 12, 19, 13⟩] := vx_table (x := yL_spoil) B (hts (.codeWith yL_spoil cL_spoil 6 (some .int) [(0, 12, 15, 21), (0, 12, 19, 13)]) (by decide +kernel))
  subst hsz
  have hA : ∀ q : Nat, s.heap.size ≤ q → gA n ad s.heap.size q := fun q h => Or.inr h
  have hG : GH D cy ad n st (gA n ad s.heap.size) s.heap s.heap [] := ⟨hP, gw_A hD0, va_S.rf⟩
  have hl := lv_entry ([.ref (ad 21), .int (iI (t0)), .int (iI (x)), .int (iI (y)), .ref (ad 31)]) (n := 6) (Nat.le_of_ble_eq_true rfl)
  rw [lg_entry_eq]
  generalize (lg_sl ([.ref (ad 21), .int (iI (t0)), .int (iI (x)), .int (iI (y)), .ref (ad 31)]) ++ List.replicate (6 - (lg_sl ([.ref (ad 21), .int (iI (t0)), .int (iI (x)), .int (iI (y)), .ref (ad 31)])).length) Slot.unset).toArray = ls at hl ⊢
  have hl : lv_has ls 6 [(0, .ref (ad 21)), (1, .int (iI (t0))), (2, .int (iI (x))), (3, .int (iI (y))), (4, .ref (ad 31))] := hl
  have LnA := hts (.classLink RL 13 xA) (by decide +kernel)
  have LnI := hts (.classLink RL 21 xI) (by decide +kernel)
  have hI0 := hI
  refine lv_aload hx hb dL_spoil_0 (lv_at hl 4 rfl) ?_
  refine lv_iconst (v := iI (0)) hx hb dL_spoil_2 rfl ?_
  refine lv_aload_n hx hb dL_spoil_3 rfl (lv_at hl 0 rfl) ?_
  refine lv_iload_n hx hb dL_spoil_4 rfl (lv_at hl 1 rfl) ?_
  refine lv_iload_n hx hb dL_spoil_5 rfl (lv_at hl 2 rfl) ?_
  refine lv_iload_n hx hb dL_spoil_6 rfl (lv_at hl 3 rfl) ?_
  refine gx_goi hG hA (vx_runV (As := [.int (iI (t0)), .int (iI (x)), .int (iI (y))]) (rest := [.int (iI (0)), .ref (ad 31)]) ⟨hx, hb, hml, hown, hts⟩ (mX5_spoil l D cy ad n st _ fz wb hn hI (by omega) (t0) (x) (y) (by omega) (by omega) (by omega) hlf hnl hR) (cwV 3 hts gL_spoil_X5_spoil rfl rfl rfl (by decide +kernel) ⟨Nat.le_of_ble_eq_true rfl, Nat.le_of_ble_eq_true rfl⟩) ⟨g_blind, va_recv hK hG.1 (q0 := 21) (ci := 5) rfl ((gw_at (by omega)).trans (by rw [gC_21 st ad cy])), g_pre hK hG hA hN hZ⟩ rfl rfl hl.1 rfl (lv_room (Nat.le_of_ble_eq_true rfl)) dL_spoil_7 ⟨Nat.le_of_ble_eq_true rfl, Nat.le_of_ble_eq_true rfl⟩) (fun E9 st9 H locs ce9 q9 hp hG hce hcv hcl => ?_) (fun r9 st9 H locs hp hG => ?_)
  · skip
    obtain ⟨hxe, hs9⟩ := hp
    rw [hs9] at hG
    clear hs9
    rcases xE2 hxe with ⟨rfl, hk9⟩ | ⟨rfl, hk9⟩
    · skip
      refine g_c0 hown htab (by decide) (by decide) LnI hN (xcIn _ (by simp)) hce hcv hcl ?_
      refine lv_astore (lv' := [(5, .ref (q9)), (0, .ref (ad 21)), (1, .int (iI (t0))), (2, .int (iI (x))), (3, .int (iI (y))), (4, .ref (ad 31))]) hx hb dL_spoil_15 hl (by decide) rfl (fun ls hl => ?_)
      refine lv_iconst (v := iI (1)) hx hb dL_spoil_17 rfl ?_
      refine W.widen (k := 3) (n := 18) (by omega) (by omega) ?_
      refine vx_ret ?_
      exact g_iret hx hb hr hlocks hG (by
        refine ⟨by rw [hk9], Or.inr ⟨by omega, rfl⟩, GI_mono (by omega) hI⟩) dL_spoil_18
    · skip
      refine g_c1 hown htab (by decide) (by decide) LnA hN (xcIn _ (by simp)) hce hcv hcl (by decide) LnI xnAI ?_
      refine lv_astore (lv' := [(5, .ref (q9)), (0, .ref (ad 21)), (1, .int (iI (t0))), (2, .int (iI (x))), (3, .int (iI (y))), (4, .ref (ad 31))]) hx hb dL_spoil_19 hl (by decide) rfl (fun ls hl => ?_)
      refine lv_iconst (v := iI (2)) hx hb dL_spoil_21 rfl ?_
      refine W.widen (k := 3) (n := 18) (by omega) (by omega) ?_
      refine vx_ret ?_
      exact g_iret hx hb hr hlocks hG (by
        refine ⟨by rw [hk9], Or.inr ⟨by omega, rfl⟩, GI_mono (by omega) hI⟩) dL_spoil_22
  · skip
    obtain ⟨hk0, hpo, hI⟩ := hp
    obtain ⟨rfl, hs1⟩ := hpo
    refine lv_i2l (v := (iI ((cspI (t0).toNat (st, 0, x) (y).toNat).2.1)).toInt64) hx hb dL_spoil_10 rfl ?_
    refine g_last hx hb hn hK hG dL_spoil_11 (fun H locs hG => ?_)
    obtain ⟨st2, hst2⟩ : ∃ z : St, z = ust st9 70 0 0 (((iI ((cspI (t0).toNat (st, 0, x) (y).toNat).2.1)).toInt64) : Int64).toInt := ⟨_, rfl⟩
    rw [← hst2] at hG
    replace hI := hst2 ▸ GI_o hI (c := 70) (o := 0) (i := 0) (v := (((iI ((cspI (t0).toNat (st, 0, x) (y).toNat).2.1)).toInt64) : Int64).toInt) (by decide)
    refine lv_goto (tgt := 23) hx hb dL_spoil_12 (by decide) ?_
    refine lv_iconst (v := iI (0)) hx hb dL_spoil_23 rfl ?_
    refine W.widen (k := 3) (n := 18) (by omega) (by omega) ?_
    refine vx_ret ?_
    exact g_iret hx hb hr hlocks hG (by
      refine ⟨by rw [hk0], Or.inl ⟨hk0, _, hs1, ?_⟩, GI_mono (by omega) hI⟩
      rw [hst2]) dL_spoil_24
set_option maxHeartbeats 400000 in
set_option maxRecDepth 100000 in
theorem mL_drift (l : Launch) (D : va_G) (cy : Nat → ClassId) (ad : Nat → Nat) (n : Nat) (st : St) (sz fz : Nat) (wb : Int) (hn : 75 ≤ n) (hI : GI wb st) (hW : wb ≤ 2000000) (v : Int) (hv0 : -2147483648 ≤ v ∧ v < 2147483648) (hlf : l.stackTraces = false) (hnl : (n : Int) = 75 + 3 * st 33 0 0) (hR : RY st) : vx_Met l yL_drift wsL_drift ({ frames := 8, cells := 1, slots := 6, locals := 134 }) (va_Pc [.ref (ad 21), .int (iI (v)), .ref (ad 31)] (gB D cy ad n st sz fz)) (va_Qi (fun (r : Int32) (st' : St) => r = iI (kRange 0 1000 v) ∧ ((kRange 0 1000 v = 0 ∧ ∃ st1 : St, (st1 = ust st 31 0 0 v) ∧ st' = ust st1 70 0 0 ((iI (st 31 0 0)).toInt64).toInt) ∨ (kRange 0 1000 v ≠ 0 ∧ st' = st)) ∧ GI wb st') (gP D cy ad n) (gA n ad sz)) (gX D cy ad n (fun (E : String) (st' : St) => False) (gA n ad sz)) 1 6 (gA n ad sz) := by
  refine vx_ofWH (cc := cL_drift) (maxL := 4) (ret := (some .int)) (hh := [(0, 9, 12, 13)]) (by decide) rfl ?_
  intro p e s m args below meth c s₁ B hml hv
  obtain ⟨rfl, hsz, hP, hK, hD0, hN, hZ⟩ := hv
  have hx := B.exec
  have hb := B.bytes
  have hr := B.returns
  have hts := atoms_spec (ws := wsL_drift) B.pre
  have hown : s.vm.findClass RL = some m.cls := findClass_of_methodNamed B.named
  have hlocks := B.notSynchronized
  have htab : c.exceptionTable.toList = [⟨0, 9, 12, 13⟩] := vx_table (x := yL_drift) B (hts (.codeWith yL_drift cL_drift 4 (some .int) [(0, 9, 12, 13)]) (by decide +kernel))
  subst hsz
  have hA : ∀ q : Nat, s.heap.size ≤ q → gA n ad s.heap.size q := fun q h => Or.inr h
  have hG : GH D cy ad n st (gA n ad s.heap.size) s.heap s.heap [] := ⟨hP, gw_A hD0, va_S.rf⟩
  have hl := lv_entry ([.ref (ad 21), .int (iI (v)), .ref (ad 31)]) (n := 4) (Nat.le_of_ble_eq_true rfl)
  rw [lg_entry_eq]
  generalize (lg_sl ([.ref (ad 21), .int (iI (v)), .ref (ad 31)]) ++ List.replicate (4 - (lg_sl ([.ref (ad 21), .int (iI (v)), .ref (ad 31)])).length) Slot.unset).toArray = ls at hl ⊢
  have hl : lv_has ls 4 [(0, .ref (ad 21)), (1, .int (iI (v))), (2, .ref (ad 31))] := hl
  have LnA := hts (.classLink RL 13 xA) (by decide +kernel)
  have hI0 := hI
  refine lv_aload_n hx hb dL_drift_0 rfl (lv_at hl 2 rfl) ?_
  refine lv_iconst (v := iI (0)) hx hb dL_drift_1 rfl ?_
  refine lv_aload_n hx hb dL_drift_2 rfl (lv_at hl 0 rfl) ?_
  refine lv_iload_n hx hb dL_drift_3 rfl (lv_at hl 1 rfl) ?_
  refine gx_goi hG hA (vx_runV (As := [.int (iI (v))]) (rest := [.int (iI (0)), .ref (ad 31)]) ⟨hx, hb, hml, hown, hts⟩ (mX5_drift l D cy ad n st _ fz wb hn hI (by omega) (v) (by omega) hlf hnl hR) (cwV 1 hts gL_drift_X5_drift rfl rfl rfl (by decide +kernel) ⟨Nat.le_of_ble_eq_true rfl, Nat.le_of_ble_eq_true rfl⟩) ⟨g_blind, va_recv hK hG.1 (q0 := 21) (ci := 5) rfl ((gw_at (by omega)).trans (by rw [gC_21 st ad cy])), g_pre hK hG hA hN hZ⟩ rfl rfl hl.1 rfl (lv_room (Nat.le_of_ble_eq_true rfl)) dL_drift_4 ⟨Nat.le_of_ble_eq_true rfl, Nat.le_of_ble_eq_true rfl⟩) (fun E9 st9 H locs ce9 q9 hp hG hce hcv hcl => ?_) (fun r9 st9 H locs hp hG => ?_)
  · skip
    obtain ⟨hxe, hs9⟩ := hp
    rw [hs9] at hG
    clear hs9
    obtain ⟨rfl, hk9⟩ := xE1 hxe
    refine g_c0 hown htab (by decide) (by decide) LnA hN (xcIn _ (by simp)) hce hcv hcl ?_
    refine lv_astore_n (lv' := [(3, .ref (q9)), (0, .ref (ad 21)), (1, .int (iI (v))), (2, .ref (ad 31))]) hx hb dL_drift_12 rfl hl (by decide) rfl (fun ls hl => ?_)
    refine lv_iconst (v := iI (1)) hx hb dL_drift_13 rfl ?_
    refine W.widen (k := 1) (n := 6) (by omega) (by omega) ?_
    refine vx_ret ?_
    exact g_iret hx hb hr hlocks hG (by
      refine ⟨by rw [hk9], Or.inr ⟨by omega, rfl⟩, GI_mono (by omega) hI⟩) dL_drift_14
  · skip
    obtain ⟨hk0, hpo, hI⟩ := hp
    obtain ⟨rfl, hs1⟩ := hpo
    refine lv_i2l (v := (iI ((st 31 0 0))).toInt64) hx hb dL_drift_7 rfl ?_
    refine g_last hx hb hn hK hG dL_drift_8 (fun H locs hG => ?_)
    obtain ⟨st2, hst2⟩ : ∃ z : St, z = ust st9 70 0 0 (((iI ((st 31 0 0))).toInt64) : Int64).toInt := ⟨_, rfl⟩
    rw [← hst2] at hG
    replace hI := hst2 ▸ GI_o hI (c := 70) (o := 0) (i := 0) (v := (((iI ((st 31 0 0))).toInt64) : Int64).toInt) (by decide)
    refine lv_goto (tgt := 15) hx hb dL_drift_9 (by decide) ?_
    refine lv_iconst (v := iI (0)) hx hb dL_drift_15 rfl ?_
    refine W.widen (k := 1) (n := 6) (by omega) (by omega) ?_
    refine vx_ret ?_
    exact g_iret hx hb hr hlocks hG (by
      refine ⟨by rw [hk0], Or.inl ⟨hk0, _, hs1, ?_⟩, GI_mono (by omega) hI⟩
      rw [hst2]) dL_drift_16
set_option maxHeartbeats 400000 in
set_option maxRecDepth 100000 in
theorem mL_endurance (l : Launch) (D : va_G) (cy : Nat → ClassId) (ad : Nat → Nat) (n : Nat) (st : St) (sz fz : Nat) (wb : Int) (hn : 75 ≤ n) (hI : GI wb st) (hW : wb ≤ 2000000) (v : Int) (hv0 : -2147483648 ≤ v ∧ v < 2147483648) (hlf : l.stackTraces = false) (hnl : (n : Int) = 75 + 3 * st 33 0 0) (hR : RY st) : vx_Met l yL_endurance wsL_endurance ({ frames := 8, cells := 1, slots := 6, locals := 134 }) (va_Pc [.ref (ad 21), .int (iI (v)), .ref (ad 31)] (gB D cy ad n st sz fz)) (va_Qi (fun (r : Int32) (st' : St) => r = iI (kRange 1 100000 v) ∧ ((kRange 1 100000 v = 0 ∧ ∃ st1 : St, (st1 = ust st 32 0 0 v) ∧ st' = ust st1 70 0 0 ((iI (st 32 0 0)).toInt64).toInt) ∨ (kRange 1 100000 v ≠ 0 ∧ st' = st)) ∧ GI wb st') (gP D cy ad n) (gA n ad sz)) (gX D cy ad n (fun (E : String) (st' : St) => False) (gA n ad sz)) 1 6 (gA n ad sz) := by
  refine vx_ofWH (cc := cL_endurance) (maxL := 4) (ret := (some .int)) (hh := [(0, 9, 12, 13)]) (by decide) rfl ?_
  intro p e s m args below meth c s₁ B hml hv
  obtain ⟨rfl, hsz, hP, hK, hD0, hN, hZ⟩ := hv
  have hx := B.exec
  have hb := B.bytes
  have hr := B.returns
  have hts := atoms_spec (ws := wsL_endurance) B.pre
  have hown : s.vm.findClass RL = some m.cls := findClass_of_methodNamed B.named
  have hlocks := B.notSynchronized
  have htab : c.exceptionTable.toList = [⟨0, 9, 12, 13⟩] := vx_table (x := yL_endurance) B (hts (.codeWith yL_endurance cL_endurance 4 (some .int) [(0, 9, 12, 13)]) (by decide +kernel))
  subst hsz
  have hA : ∀ q : Nat, s.heap.size ≤ q → gA n ad s.heap.size q := fun q h => Or.inr h
  have hG : GH D cy ad n st (gA n ad s.heap.size) s.heap s.heap [] := ⟨hP, gw_A hD0, va_S.rf⟩
  have hl := lv_entry ([.ref (ad 21), .int (iI (v)), .ref (ad 31)]) (n := 4) (Nat.le_of_ble_eq_true rfl)
  rw [lg_entry_eq]
  generalize (lg_sl ([.ref (ad 21), .int (iI (v)), .ref (ad 31)]) ++ List.replicate (4 - (lg_sl ([.ref (ad 21), .int (iI (v)), .ref (ad 31)])).length) Slot.unset).toArray = ls at hl ⊢
  have hl : lv_has ls 4 [(0, .ref (ad 21)), (1, .int (iI (v))), (2, .ref (ad 31))] := hl
  have LnA := hts (.classLink RL 13 xA) (by decide +kernel)
  have hI0 := hI
  refine lv_aload_n hx hb dL_endurance_0 rfl (lv_at hl 2 rfl) ?_
  refine lv_iconst (v := iI (0)) hx hb dL_endurance_1 rfl ?_
  refine lv_aload_n hx hb dL_endurance_2 rfl (lv_at hl 0 rfl) ?_
  refine lv_iload_n hx hb dL_endurance_3 rfl (lv_at hl 1 rfl) ?_
  refine gx_goi hG hA (vx_runV (As := [.int (iI (v))]) (rest := [.int (iI (0)), .ref (ad 31)]) ⟨hx, hb, hml, hown, hts⟩ (mX5_endurance l D cy ad n st _ fz wb hn hI (by omega) (v) (by omega) hlf hnl hR) (cwV 1 hts gL_endurance_X5_endurance rfl rfl rfl (by decide +kernel) ⟨Nat.le_of_ble_eq_true rfl, Nat.le_of_ble_eq_true rfl⟩) ⟨g_blind, va_recv hK hG.1 (q0 := 21) (ci := 5) rfl ((gw_at (by omega)).trans (by rw [gC_21 st ad cy])), g_pre hK hG hA hN hZ⟩ rfl rfl hl.1 rfl (lv_room (Nat.le_of_ble_eq_true rfl)) dL_endurance_4 ⟨Nat.le_of_ble_eq_true rfl, Nat.le_of_ble_eq_true rfl⟩) (fun E9 st9 H locs ce9 q9 hp hG hce hcv hcl => ?_) (fun r9 st9 H locs hp hG => ?_)
  · skip
    obtain ⟨hxe, hs9⟩ := hp
    rw [hs9] at hG
    clear hs9
    obtain ⟨rfl, hk9⟩ := xE1 hxe
    refine g_c0 hown htab (by decide) (by decide) LnA hN (xcIn _ (by simp)) hce hcv hcl ?_
    refine lv_astore_n (lv' := [(3, .ref (q9)), (0, .ref (ad 21)), (1, .int (iI (v))), (2, .ref (ad 31))]) hx hb dL_endurance_12 rfl hl (by decide) rfl (fun ls hl => ?_)
    refine lv_iconst (v := iI (1)) hx hb dL_endurance_13 rfl ?_
    refine W.widen (k := 1) (n := 6) (by omega) (by omega) ?_
    refine vx_ret ?_
    exact g_iret hx hb hr hlocks hG (by
      refine ⟨by rw [hk9], Or.inr ⟨by omega, rfl⟩, GI_mono (by omega) hI⟩) dL_endurance_14
  · skip
    obtain ⟨hk0, hpo, hI⟩ := hp
    obtain ⟨rfl, hs1⟩ := hpo
    refine lv_i2l (v := (iI ((st 32 0 0))).toInt64) hx hb dL_endurance_7 rfl ?_
    refine g_last hx hb hn hK hG dL_endurance_8 (fun H locs hG => ?_)
    obtain ⟨st2, hst2⟩ : ∃ z : St, z = ust st9 70 0 0 (((iI ((st 32 0 0))).toInt64) : Int64).toInt := ⟨_, rfl⟩
    rw [← hst2] at hG
    replace hI := hst2 ▸ GI_o hI (c := 70) (o := 0) (i := 0) (v := (((iI ((st 32 0 0))).toInt64) : Int64).toInt) (by decide)
    refine lv_goto (tgt := 15) hx hb dL_endurance_9 (by decide) ?_
    refine lv_iconst (v := iI (0)) hx hb dL_endurance_15 rfl ?_
    refine W.widen (k := 1) (n := 6) (by omega) (by omega) ?_
    refine vx_ret ?_
    exact g_iret hx hb hr hlocks hG (by
      refine ⟨by rw [hk0], Or.inl ⟨hk0, _, hs1, ?_⟩, GI_mono (by omega) hI⟩
      rw [hst2]) dL_endurance_16
set_option maxHeartbeats 400000 in
set_option maxRecDepth 100000 in
theorem mL_pass (l : Launch) (D : va_G) (cy : Nat → ClassId) (ad : Nat → Nat) (n : Nat) (st : St) (sz fz : Nat) (wb : Int) (hn : 75 ≤ n) (hI : GI wb st) (hW : wb ≤ 2000000) (v : Int) (hv0 : -2147483648 ≤ v ∧ v < 2147483648) (hlf : l.stackTraces = false) (hnl : (n : Int) = 75 + 3 * st 33 0 0) (hR : RY st) : vx_Met l yL_pass wsL_pass ({ frames := 8, cells := 2, slots := 12, locals := 133 }) (va_Pc [.ref (ad 21), .int (iI (v)), .ref (ad 31)] (gB D cy ad n st sz fz)) (va_Qi (fun (r : Int32) (st' : St) => r = iI (kPass st v) ∧ ((kPass st v = 0 ∧ ∃ st1 : St, (st1 = ust st 30 0 0 (st 30 0 0 + v)) ∧ st' = ust st1 70 0 0 ((iI (st 30 0 0 + v)).toInt64).toInt) ∨ (kPass st v ≠ 0 ∧ st' = st)) ∧ GI wb st') (gP D cy ad n) (gA n ad sz)) (gX D cy ad n (fun (E : String) (st' : St) => False) (gA n ad sz)) 2 12 (gA n ad sz) := by
  refine vx_ofWH (cc := cL_pass) (maxL := 4) (ret := (some .int)) (hh := [(0, 9, 12, 13), (0, 9, 15, 15)]) (by decide) rfl ?_
  intro p e s m args below meth c s₁ B hml hv
  obtain ⟨rfl, hsz, hP, hK, hD0, hN, hZ⟩ := hv
  have hx := B.exec
  have hb := B.bytes
  have hr := B.returns
  have hts := atoms_spec (ws := wsL_pass) B.pre
  have hown : s.vm.findClass RL = some m.cls := findClass_of_methodNamed B.named
  have hlocks := B.notSynchronized
  have htab : c.exceptionTable.toList = [⟨0, 9, 12, 13⟩, ⟨0, 9, 15, 15⟩] := vx_table (x := yL_pass) B (hts (.codeWith yL_pass cL_pass 4 (some .int) [(0, 9, 12, 13), (0, 9, 15, 15)]) (by decide +kernel))
  subst hsz
  have hA : ∀ q : Nat, s.heap.size ≤ q → gA n ad s.heap.size q := fun q h => Or.inr h
  have hG : GH D cy ad n st (gA n ad s.heap.size) s.heap s.heap [] := ⟨hP, gw_A hD0, va_S.rf⟩
  have hl := lv_entry ([.ref (ad 21), .int (iI (v)), .ref (ad 31)]) (n := 4) (Nat.le_of_ble_eq_true rfl)
  rw [lg_entry_eq]
  generalize (lg_sl ([.ref (ad 21), .int (iI (v)), .ref (ad 31)]) ++ List.replicate (4 - (lg_sl ([.ref (ad 21), .int (iI (v)), .ref (ad 31)])).length) Slot.unset).toArray = ls at hl ⊢
  have hl : lv_has ls 4 [(0, .ref (ad 21)), (1, .int (iI (v))), (2, .ref (ad 31))] := hl
  have LnA := hts (.classLink RL 13 xA) (by decide +kernel)
  have LnS := hts (.classLink RL 15 xS) (by decide +kernel)
  have hI0 := hI
  refine lv_aload_n hx hb dL_pass_0 rfl (lv_at hl 2 rfl) ?_
  refine lv_iconst (v := iI (0)) hx hb dL_pass_1 rfl ?_
  refine lv_aload_n hx hb dL_pass_2 rfl (lv_at hl 0 rfl) ?_
  refine lv_iload_n hx hb dL_pass_3 rfl (lv_at hl 1 rfl) ?_
  refine gx_goi hG hA (vx_runV (As := [.int (iI (v))]) (rest := [.int (iI (0)), .ref (ad 31)]) ⟨hx, hb, hml, hown, hts⟩ (mX5_pass l D cy ad n st _ fz wb hn hI (by omega) (v) (by omega) hlf hnl hR) (cwV 1 hts gL_pass_X5_pass rfl rfl rfl (by decide +kernel) ⟨Nat.le_of_ble_eq_true rfl, Nat.le_of_ble_eq_true rfl⟩) ⟨g_blind, va_recv hK hG.1 (q0 := 21) (ci := 5) rfl ((gw_at (by omega)).trans (by rw [gC_21 st ad cy])), g_pre hK hG hA hN hZ⟩ rfl rfl hl.1 rfl (lv_room (Nat.le_of_ble_eq_true rfl)) dL_pass_4 ⟨Nat.le_of_ble_eq_true rfl, Nat.le_of_ble_eq_true rfl⟩) (fun E9 st9 H locs ce9 q9 hp hG hce hcv hcl => ?_) (fun r9 st9 H locs hp hG => ?_)
  · skip
    obtain ⟨hxe, hs9⟩ := hp
    rw [hs9] at hG
    clear hs9
    rcases xE2 hxe with ⟨rfl, hk9⟩ | ⟨rfl, hk9⟩
    · skip
      refine g_c0 hown htab (by decide) (by decide) LnA hN (xcIn _ (by simp)) hce hcv hcl ?_
      refine lv_astore_n (lv' := [(3, .ref (q9)), (0, .ref (ad 21)), (1, .int (iI (v))), (2, .ref (ad 31))]) hx hb dL_pass_12 rfl hl (by decide) rfl (fun ls hl => ?_)
      refine lv_iconst (v := iI (1)) hx hb dL_pass_13 rfl ?_
      refine W.widen (k := 2) (n := 12) (by omega) (by omega) ?_
      refine vx_ret ?_
      exact g_iret hx hb hr hlocks hG (by
        refine ⟨by rw [hk9], Or.inr ⟨by omega, rfl⟩, GI_mono (by omega) hI⟩) dL_pass_14
    · skip
      refine g_c1 hown htab (by decide) (by decide) LnS hN (xcIn _ (by simp)) hce hcv hcl (by decide) LnA xnSA ?_
      refine lv_astore_n (lv' := [(3, .ref (q9)), (0, .ref (ad 21)), (1, .int (iI (v))), (2, .ref (ad 31))]) hx hb dL_pass_15 rfl hl (by decide) rfl (fun ls hl => ?_)
      refine lv_iconst (v := iI (2)) hx hb dL_pass_16 rfl ?_
      refine W.widen (k := 2) (n := 12) (by omega) (by omega) ?_
      refine vx_ret ?_
      exact g_iret hx hb hr hlocks hG (by
        refine ⟨by rw [hk9], Or.inr ⟨by omega, rfl⟩, GI_mono (by omega) hI⟩) dL_pass_17
  · skip
    obtain ⟨hk0, hpo, hI⟩ := hp
    obtain ⟨rfl, hs1⟩ := hpo
    refine lv_i2l (v := (iI ((st 30 0 0 + v))).toInt64) hx hb dL_pass_7 rfl ?_
    refine g_last hx hb hn hK hG dL_pass_8 (fun H locs hG => ?_)
    obtain ⟨st2, hst2⟩ : ∃ z : St, z = ust st9 70 0 0 (((iI ((st 30 0 0 + v))).toInt64) : Int64).toInt := ⟨_, rfl⟩
    rw [← hst2] at hG
    replace hI := hst2 ▸ GI_o hI (c := 70) (o := 0) (i := 0) (v := (((iI ((st 30 0 0 + v))).toInt64) : Int64).toInt) (by decide)
    refine lv_goto (tgt := 18) hx hb dL_pass_9 (by decide) ?_
    refine lv_iconst (v := iI (0)) hx hb dL_pass_18 rfl ?_
    refine W.widen (k := 2) (n := 12) (by omega) (by omega) ?_
    refine vx_ret ?_
    exact g_iret hx hb hr hlocks hG (by
      refine ⟨by rw [hk0], Or.inl ⟨hk0, _, hs1, ?_⟩, GI_mono (by omega) hI⟩
      rw [hst2]) dL_pass_19
