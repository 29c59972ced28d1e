set_option maxHeartbeats 400000 in
set_option maxRecDepth 100000 in
theorem mX0_weightOf (l : Launch) (D : va_G) (cy : Nat → ClassId) (ad : Nat → Nat) (n : Nat) (st : St) (sz fz : Nat) (wb : Int) (hn : 75 ≤ n) (hI : GI wb st) (hW : wb ≤ 2000000) (q : Nat) (b : Int) (d : Int) (hq : 77 + 3 * q < n) (hb0 : 0 ≤ b ∧ b < 8) (hd : 0 ≤ d ∧ d < 4) : Met l yX0_weightOf wsX0_weightOf ({ frames := 0, cells := 0, slots := 0, locals := 0 }) (va_Pc [.ref (ad (75 + 3 * q)), .int (iI (b)), .int (iI (d))] (gB D cy ad n st sz fz)) (va_Qi (fun (r : Int32) (st' : St) => r = iI (st 62 q (4 * b + d)) ∧ st' = st) (gP D cy ad n) (gA n ad sz)) 0 0 (gA n ad sz) := by
  refine Met.ofW (cc := cX0_weightOf) (maxL := 3) (ret := (some .int)) (by decide) rfl ?_
  intro p e s m args below meth c s₁ B hml hv
  obtain ⟨rfl, hsz, hP, hK, hD0, hN, hZ⟩ := hv
  have hx := B.exec
  have hb := B.bytes
  have hr := B.returns
  have hts := atoms_spec (ws := wsX0_weightOf) B.pre
  have hown : s.vm.findClass RX0 = some m.cls := findClass_of_methodNamed B.named
  have hlocks := B.notSynchronized
  subst hsz
  have hA : ∀ q : Nat, s.heap.size ≤ q → gA n ad s.heap.size q := fun q h => Or.inr h
  have hG : GH D cy ad n st (gA n ad s.heap.size) s.heap s.heap [] := ⟨hP, gw_A hD0, va_S.rf⟩
  have hl := lv_entry ([.ref (ad (75 + 3 * q)), .int (iI (b)), .int (iI (d))]) (n := 3) (Nat.le_of_ble_eq_true rfl)
  rw [lg_entry_eq]
  generalize (lg_sl ([.ref (ad (75 + 3 * q)), .int (iI (b)), .int (iI (d))]) ++ List.replicate (3 - (lg_sl ([.ref (ad (75 + 3 * q)), .int (iI (b)), .int (iI (d))])).length) Slot.unset).toArray = ls at hl ⊢
  have hl : lv_has ls 3 [(0, .ref (ad (75 + 3 * q))), (1, .int (iI (b))), (2, .int (iI (d)))] := hl
  have hin0 : ∀ w ∈ u_ws RX0 TX0 8, w ∈ wsX0_weightOf := by decide +kernel
  have L_9 := hts (.fieldLink RX0 9 "Crossbarry$Layer" "weights" "[I") (by decide +kernel)
  refine lv_aload_n hx hb dX0_weightOf_0 rfl (lv_at hl 0 rfl) ?_
  refine g_get hx hb hts hin0 hown hK hG (key := 75 + 3 * q) (by omega) (gC_l st ad cy q) rfl 3 (by decide) L_9 (fun _ h9 => h9) rfl dX0_weightOf_1 ?_
  refine lv_iload_n hx hb dX0_weightOf_4 rfl (lv_at hl 1 rfl) ?_
  refine lv_iconst (v := iI (4)) hx hb dX0_weightOf_5 rfl ?_
  refine r_imul hx hb dX0_weightOf_6 ?_
  refine r_nm (fun v1 ev1 => ?_)
  refine lv_iload_n hx hb dX0_weightOf_7 rfl (lv_at hl 2 rfl) ?_
  refine r_iadd hx hb dX0_weightOf_8 ?_
  refine r_nm (fun v2 ev2 => ?_)
  refine g_iald hx hb hK hG (76 + 3 * q) (kd := 41) (o := q) (gk_l (o := q) (j := 1) (by decide)) rfl (by omega) (cp := 62) (ln := 32) rfl rfl (by omega) dX0_weightOf_9 ?_
  have hr3 := gI_62 hI (q) (v2)
  refine r_nm (fun v4 ev4 => ?_)
  rw [← ev4] at hr3
  exact g_iret hx hb hr hlocks hG (by
    refine ⟨?_, rfl⟩
    congr 1
    subst_vars
    rw [Int.mul_comm b 4]) dX0_weightOf_10
set_option maxHeartbeats 400000 in
set_option maxRecDepth 100000 in
theorem mX0_tellWeight (l : Launch) (D : va_G) (cy : Nat → ClassId) (ad : Nat → Nat) (n : Nat) (st : St) (sz fz : Nat) (wb : Int) (hn : 75 ≤ n) (hI : GI wb st) (hW : wb ≤ 2000000) (q : Nat) (b : Int) (d : Int) (v : Int) (hq : 77 + 3 * q < n) (hb0 : 0 ≤ b ∧ b < 8) (hd : 0 ≤ d ∧ d < 4) (hv0 : -255 ≤ v ∧ v ≤ 255) : Met l yX0_tellWeight wsX0_tellWeight ({ frames := 0, cells := 0, slots := 0, locals := 0 }) (va_Pc [.ref (ad (75 + 3 * q)), .int (iI (b)), .int (iI (d)), .int (iI (v))] (gB D cy ad n st sz fz)) (va_Qv (fun (st' : St) => st' = ust st 62 q (4 * b + d) v ∧ GI wb st') (gP D cy ad n) (gA n ad sz)) 0 0 (gA n ad sz) := by
  refine Met.ofW (cc := cX0_tellWeight) (maxL := 4) (ret := none) (by decide) rfl ?_
  intro p e s m args below meth c s₁ B hml hv
  obtain ⟨rfl, hsz, hP, hK, hD0, hN, hZ⟩ := hv
  have hx := B.exec
  have hb := B.bytes
  have hr := B.returns
  have hts := atoms_spec (ws := wsX0_tellWeight) B.pre
  have hown : s.vm.findClass RX0 = some m.cls := findClass_of_methodNamed B.named
  have hlocks := B.notSynchronized
  subst hsz
  have hA : ∀ q : Nat, s.heap.size ≤ q → gA n ad s.heap.size q := fun q h => Or.inr h
  have hG : GH D cy ad n st (gA n ad s.heap.size) s.heap s.heap [] := ⟨hP, gw_A hD0, va_S.rf⟩
  have hl := lv_entry ([.ref (ad (75 + 3 * q)), .int (iI (b)), .int (iI (d)), .int (iI (v))]) (n := 4) (Nat.le_of_ble_eq_true rfl)
  rw [lg_entry_eq]
  generalize (lg_sl ([.ref (ad (75 + 3 * q)), .int (iI (b)), .int (iI (d)), .int (iI (v))]) ++ List.replicate (4 - (lg_sl ([.ref (ad (75 + 3 * q)), .int (iI (b)), .int (iI (d)), .int (iI (v))])).length) Slot.unset).toArray = ls at hl ⊢
  have hl : lv_has ls 4 [(0, .ref (ad (75 + 3 * q))), (1, .int (iI (b))), (2, .int (iI (d))), (3, .int (iI (v)))] := hl
  have hin0 : ∀ w ∈ u_ws RX0 TX0 8, w ∈ wsX0_tellWeight := by decide +kernel
  have L_9 := hts (.fieldLink RX0 9 "Crossbarry$Layer" "weights" "[I") (by decide +kernel)
  refine lv_aload_n hx hb dX0_tellWeight_0 rfl (lv_at hl 0 rfl) ?_
  refine g_get hx hb hts hin0 hown hK hG (key := 75 + 3 * q) (by omega) (gC_l st ad cy q) rfl 3 (by decide) L_9 (fun _ h9 => h9) rfl dX0_tellWeight_1 ?_
  refine lv_iload_n hx hb dX0_tellWeight_4 rfl (lv_at hl 1 rfl) ?_
  refine lv_iconst (v := iI (4)) hx hb dX0_tellWeight_5 rfl ?_
  refine r_imul hx hb dX0_tellWeight_6 ?_
  refine r_nm (fun v1 ev1 => ?_)
  refine lv_iload_n hx hb dX0_tellWeight_7 rfl (lv_at hl 2 rfl) ?_
  refine r_iadd hx hb dX0_tellWeight_8 ?_
  refine r_nm (fun v2 ev2 => ?_)
  refine lv_iload_n hx hb dX0_tellWeight_9 rfl (lv_at hl 3 rfl) ?_
  refine g_iast hx hb hK hG (76 + 3 * q) (kd := 41) (o := q) (gk_l (o := q) (j := 1) (by decide)) rfl (by omega) (cp := 62) (ln := 32) rfl rfl (by omega) dX0_tellWeight_10 (fun H locs hG => ?_)
  obtain ⟨st3, hst3⟩ : ∃ z : St, z = ust st 62 (q) (v2) (v) := ⟨_, rfl⟩
  rw [← hst3] at hG
  replace hI := hst3 ▸ gIu_62 hI (q) (v2) (v := v) (by omega)
  exact g_vret hx hb hr hlocks hG (by
    refine ⟨?_, hI⟩
    subst_vars
    rw [Int.mul_comm b 4]) dX0_tellWeight_11
set_option maxHeartbeats 400000 in
set_option maxRecDepth 100000 in
theorem mX0_columns (l : Launch) (D : va_G) (cy : Nat → ClassId) (ad : Nat → Nat) (n : Nat) (st : St) (sz fz : Nat) (wb : Int) (hn : 75 ≤ n) (hI : GI wb st) (hW : wb ≤ 2000000) (q : Nat) (hq : 77 + 3 * q < n) : Met l yX0_columns wsX0_columns ({ frames := 0, cells := 0, slots := 0, locals := 0 }) (va_Pc [.ref (ad (75 + 3 * q))] (gB D cy ad n st sz fz)) (va_Qi (fun (r : Int32) (st' : St) => r = iI (4 * st 61 q 0) ∧ st' = st) (gP D cy ad n) (gA n ad sz)) 0 0 (gA n ad sz) := by
  refine Met.ofW (cc := cX0_columns) (maxL := 1) (ret := (some .int)) (by decide) rfl ?_
  intro p e s m args below meth c s₁ B hml hv
  obtain ⟨rfl, hsz, hP, hK, hD0, hN, hZ⟩ := hv
  have hx := B.exec
  have hb := B.bytes
  have hr := B.returns
  have hts := atoms_spec (ws := wsX0_columns) B.pre
  have hown : s.vm.findClass RX0 = some m.cls := findClass_of_methodNamed B.named
  have hlocks := B.notSynchronized
  subst hsz
  have hA : ∀ q : Nat, s.heap.size ≤ q → gA n ad s.heap.size q := fun q h => Or.inr h
  have hG : GH D cy ad n st (gA n ad s.heap.size) s.heap s.heap [] := ⟨hP, gw_A hD0, va_S.rf⟩
  have hl := lv_entry ([.ref (ad (75 + 3 * q))]) (n := 1) (Nat.le_of_ble_eq_true rfl)
  rw [lg_entry_eq]
  generalize (lg_sl ([.ref (ad (75 + 3 * q))]) ++ List.replicate (1 - (lg_sl ([.ref (ad (75 + 3 * q))])).length) Slot.unset).toArray = ls at hl ⊢
  have hl : lv_has ls 1 [(0, .ref (ad (75 + 3 * q)))] := hl
  have hin0 : ∀ w ∈ u_ws RX0 TX0 8, w ∈ wsX0_columns := by decide +kernel
  have L_36 := hts (.fieldLink RX0 36 "Crossbarry$Layer" "outputs" "I") (by decide +kernel)
  refine lv_iconst (v := iI (4)) hx hb dX0_columns_0 rfl ?_
  refine lv_aload_n hx hb dX0_columns_1 rfl (lv_at hl 0 rfl) ?_
  refine g_get hx hb hts hin0 hown hK hG (key := 75 + 3 * q) (by omega) (gC_l st ad cy q) rfl 2 (by decide) L_36 (fun _ h9 => h9) rfl dX0_columns_2 ?_
  have hr1 := gI_61 hI (q) (0)
  refine r_nm (fun v2 ev2 => ?_)
  rw [← ev2] at hr1
  refine r_imul hx hb dX0_columns_5 ?_
  refine r_nm (fun v3 ev3 => ?_)
  exact g_iret hx hb hr hlocks hG (by
    refine ⟨?_, rfl⟩
    congr 1
    omega) dX0_columns_6
set_option maxHeartbeats 400000 in
set_option maxRecDepth 100000 in
theorem mX0_needed (l : Launch) (D : va_G) (cy : Nat → ClassId) (ad : Nat → Nat) (n : Nat) (st : St) (sz fz : Nat) (wb : Int) (hn : 75 ≤ n) (hI : GI wb st) (hW : wb ≤ 2000000) (q : Nat) (b : Int) (d : Int) (hq : 77 + 3 * q < n) (hb0 : 0 ≤ b ∧ b < 8) (hd : 0 ≤ d ∧ d < 16) : Met l yX0_needed wsX0_needed ({ frames := 1, cells := 0, slots := 0, locals := 22 }) (va_Pc [.ref (ad (75 + 3 * q)), .int (iI (b)), .int (iI (d))] (gB D cy ad n st sz fz)) (va_Qi (fun (r : Int32) (st' : St) => r = iI (needC st q b d) ∧ st' = st) (gP D cy ad n) (gA n ad sz)) 0 0 (gA n ad sz) := by
  refine Met.ofW (cc := cX0_needed) (maxL := 4) (ret := (some .int)) (by decide) rfl ?_
  intro p e s m args below meth c s₁ B hml hv
  obtain ⟨rfl, hsz, hP, hK, hD0, hN, hZ⟩ := hv
  have hx := B.exec
  have hb := B.bytes
  have hr := B.returns
  have hts := atoms_spec (ws := wsX0_needed) B.pre
  have hown : s.vm.findClass RX0 = some m.cls := findClass_of_methodNamed B.named
  have hlocks := B.notSynchronized
  subst hsz
  have hA : ∀ q : Nat, s.heap.size ≤ q → gA n ad s.heap.size q := fun q h => Or.inr h
  have hG : GH D cy ad n st (gA n ad s.heap.size) s.heap s.heap [] := ⟨hP, gw_A hD0, va_S.rf⟩
  have hl := lv_entry ([.ref (ad (75 + 3 * q)), .int (iI (b)), .int (iI (d))]) (n := 4) (Nat.le_of_ble_eq_true rfl)
  rw [lg_entry_eq]
  generalize (lg_sl ([.ref (ad (75 + 3 * q)), .int (iI (b)), .int (iI (d))]) ++ List.replicate (4 - (lg_sl ([.ref (ad (75 + 3 * q)), .int (iI (b)), .int (iI (d))])).length) Slot.unset).toArray = ls at hl ⊢
  have hl : lv_has ls 4 [(0, .ref (ad (75 + 3 * q))), (1, .int (iI (b))), (2, .int (iI (d)))] := hl
  have hin0 : ∀ w ∈ u_ws RX0 TX0 8, w ∈ wsX0_needed := by decide +kernel
  refine lv_aload_n hx hb dX0_needed_0 rfl (lv_at hl 0 rfl) ?_
  refine lv_iload_n hx hb dX0_needed_1 rfl (lv_at hl 1 rfl) ?_
  refine lv_iload_n hx hb dX0_needed_2 rfl (lv_at hl 2 rfl) ?_
  refine lv_iconst (v := iI (4)) hx hb dX0_needed_3 rfl ?_
  refine r_idiv hx hb (by omega) dX0_needed_4 ?_
  refine r_nm (fun v1 ev1 => ?_)
  refine g_goi hG hA (va_runV (As := [.int (iI (b)), .int (iI (v1))]) (rest := []) ⟨hx, hb, hml, hown, hts⟩ (mX0_weightOf l D cy ad n st _ fz wb hn hI (by omega) (q) (b) (v1) (by omega) (by omega) (by omega)) (cwV 2 hts gX0_needed_X0_weightOf rfl rfl rfl (by decide +kernel) ⟨Nat.le_of_ble_eq_true rfl, Nat.le_of_ble_eq_true rfl⟩) ⟨g_blind, va_recv hK hG.1 (q0 := (75 + 3 * q) - 19) (ci := 0) rfl ((gw_at (k := 75 + 3 * q) (by omega)).trans (by rw [gC_l st ad cy q])), g_pre hK hG hA hN hZ⟩ rfl rfl hl.1 rfl (lv_room (Nat.le_of_ble_eq_true rfl)) dX0_needed_5 ⟨Nat.zero_le _, Nat.zero_le _⟩) (fun r9 s9 H locs hp hG => ?_)
  obtain ⟨rfl, hs9⟩ := hp
  rw [hs9] at hG
  clear hs9
  refine r_nm (fun v2 ev2 => ?_)
  have hr3 := gI_62 hI (q) (4 * (b) + (v1))
  rw [← ev2] at hr3
  obtain ⟨wv, hwv⟩ : ∃ z9 : Int, z9 = v2 := ⟨_, rfl⟩
  have hwe : wv = st 62 q (4 * b + d / 4) := by subst_vars; rfl
  have hwr := absI_s wv
  have hlab23 : ∀ (fs : Int) (H : Heap) (locs : List Loc) (ls : Array Slot), ((fs = -1 ∧ 2 ≤ d % 4) ∨ (fs = 1 ∧ d % 4 < 2)) →  GH D cy ad n st (gA n ad s.heap.size) s.heap H locs → lv_has ls 4 [(0, .ref (ad (75 + 3 * q))), (1, .int (iI (b))), (2, .int (iI (d)))] → W p l e (headSpec wsX0_needed { frames := 1, cells := 0, slots := 0, locals := 22 }).room s m (#[.ref (ad (75 + 3 * q)), .int (iI (b)), .int (iI (d))] : Array Value) below meth c H locs 0 0 (MQ below (va_Qi (fun (r : Int32) (st' : St) => r = iI (needC st q b d) ∧ st' = st) (gP D cy ad n) (gA n ad s.heap.size)) (#[.ref (ad (75 + 3 * q)), .int (iI (b)), .int (iI (d))] : Array Value) s 0 0 (gA n ad s.heap.size)) (F0 m 23 ls [.int (iI (fs)), .int (iI (v2))]) := by
    intro fs H locs ls hfs hG hl
    refine r_imul hx hb dX0_needed_23 ?_
    refine r_nm (fun v4 ev4 => ?_)
    have hpv : (2 ≤ d % 4 ∧ v4 = -wv) ∨ (d % 4 < 2 ∧ v4 = wv) := by rcases hfs with h | h <;> rw [ev4, h.1] <;> omega
    refine lv_istore_n (lv' := [(3, .int (iI (v4))), (0, .ref (ad (75 + 3 * q))), (1, .int (iI (b))), (2, .int (iI (d)))]) hx hb dX0_needed_24 rfl hl (by decide) rfl (fun ls hl => ?_)
    refine lv_iload_n hx hb dX0_needed_25 rfl (lv_at hl 0 rfl) ?_
    refine r_if_ge (tgt := 31) hx hb (by omega) dX0_needed_26 (by decide) (fun c5 => ?_) (fun c5 => ?_)
    · skip
      refine lv_iload_n hx hb dX0_needed_31 rfl (lv_at hl 3 rfl) ?_
      refine lv_iconst (v := iI (2)) hx hb dX0_needed_32 rfl ?_
      refine r_irem hx hb (by omega) dX0_needed_33 ?_
      refine r_nm (fun v6 ev6 => ?_)
      refine r_if_ne (tgt := 44) hx hb (by omega) dX0_needed_34 (by decide) (fun c7 => ?_) (fun c7 => ?_)
      · skip
        refine lv_iload_n hx hb dX0_needed_44 rfl (lv_at hl 0 rfl) ?_
        refine lv_bipush (v := iI (16)) hx hb dX0_needed_45 (by decide +kernel) ?_
        refine r_idiv hx hb (by omega) dX0_needed_47 ?_
        refine r_nm (fun v8 ev8 => ?_)
        exact g_iret hx hb hr hlocks hG (by
          refine ⟨?_, rfl⟩
          congr 1
          unfold needC
          rw [← hwe]
          unfold needV
          split
          · split <;> omega
          · omega) dX0_needed_48
      · skip
        refine lv_iload_n hx hb dX0_needed_37 rfl (lv_at hl 0 rfl) ?_
        refine lv_bipush (v := iI (16)) hx hb dX0_needed_38 (by decide +kernel) ?_
        refine r_irem hx hb (by omega) dX0_needed_40 ?_
        refine r_nm (fun v9 ev9 => ?_)
        refine lv_goto (tgt := 48) hx hb dX0_needed_41 (by decide) ?_
        exact g_iret hx hb hr hlocks hG (by
          refine ⟨?_, rfl⟩
          congr 1
          unfold needC
          rw [← hwe]
          unfold needV
          split
          · split <;> omega
          · omega) dX0_needed_48
    · skip
      refine lv_iconst (v := iI (0)) hx hb dX0_needed_29 rfl ?_
      exact g_iret hx hb hr hlocks hG (by
        refine ⟨?_, rfl⟩
        congr 1
        unfold needC
        rw [← hwe]
        unfold needV
        split
        · split <;> omega
        · omega) dX0_needed_30
  refine va_getsN hx hb hZ.1 hG.2.2 hown (va_Nw.use rfl (hN.1 (.fieldLinkNest RX0 43 RX5 "FACTORS" "[I" RX5) (by decide +kernel))) (fun _ h9 => h9) dX0_needed_8 ?_
  refine lv_iload_n hx hb dX0_needed_11 rfl (lv_at hl 2 rfl) ?_
  refine lv_iconst (v := iI (4)) hx hb dX0_needed_12 rfl ?_
  refine r_irem hx hb (by omega) dX0_needed_13 ?_
  refine r_nm (fun v10 ev10 => ?_)
  refine g_fac hx hb hZ hG (by omega) dX0_needed_14 ?_
  have hr11 := fcF_s (i := v10) (by omega)
  refine r_nm (fun v12 ev12 => ?_)
  rw [← ev12] at hr11
  refine r_if_ge (tgt := 22) hx hb (by omega) dX0_needed_15 (by decide) (fun c13 => ?_) (fun c13 => ?_)
  · skip
    refine lv_iconst (v := iI (1)) hx hb dX0_needed_22 rfl ?_
    exact hlab23 (1)  _ _ _ (by omega) hG (lv_sub hl [0, 1, 2] rfl)
  · skip
    refine lv_iconst (v := iI (-1)) hx hb dX0_needed_18 rfl ?_
    refine lv_goto (tgt := 23) hx hb dX0_needed_19 (by decide) ?_
    exact hlab23 (-1)  _ _ _ (by omega) hG (lv_sub hl [0, 1, 2] rfl)
