set_option maxHeartbeats 400000 in
set_option maxRecDepth 100000 in
theorem mX5_indexOf (l : Launch) (D : va_G) (cy : Nat → ClassId) (ad : Nat → Nat) (n : Nat) (st : St) (sz fz : Nat) (wb : Int) (hn : 75 ≤ n) (hI : GI wb st) (hW : wb ≤ 2000000) (a : Int) (b : Int)  : Met l yX5_indexOf wsX5_indexOf ({ frames := 0, cells := 0, slots := 0, locals := 0 }) (va_Pc [.int (iI (a)), .int (iI (b))] (gB D cy ad n st sz fz)) (va_Qi (fun (r : Int32) (st' : St) => r = iI (16 * a + b) ∧ st' = st) (gP D cy ad n) (gA n ad sz)) 0 0 (gA n ad sz) := by
  refine Met.ofW (cc := cX5_indexOf) (maxL := 2) (ret := (some .int)) (by decide) rfl ?_
  intro p e s m args below meth c s₁ B hml hv
  obtain ⟨rfl, hsz, hP, hK, hD0, hN, hZ⟩ := hv
  have hx := B.exec
  have hb := B.bytes
  have hr := B.returns
  have hts := atoms_spec (ws := wsX5_indexOf) B.pre
  have hown : s.vm.findClass RX5 = some m.cls := findClass_of_methodNamed B.named
  have hlocks := B.notSynchronized
  subst hsz
  have hA : ∀ q : Nat, s.heap.size ≤ q → gA n ad s.heap.size q := fun q h => Or.inr h
  have hG : GH D cy ad n st (gA n ad s.heap.size) s.heap s.heap [] := ⟨hP, gw_A hD0, va_S.rf⟩
  have hl := lv_entry ([.int (iI (a)), .int (iI (b))]) (n := 2) (Nat.le_of_ble_eq_true rfl)
  rw [lg_entry_eq]
  generalize (lg_sl ([.int (iI (a)), .int (iI (b))]) ++ List.replicate (2 - (lg_sl ([.int (iI (a)), .int (iI (b))])).length) Slot.unset).toArray = ls at hl ⊢
  have hl : lv_has ls 2 [(0, .int (iI (a))), (1, .int (iI (b)))] := hl
  refine lv_iload_n hx hb dX5_indexOf_0 rfl (lv_at hl 0 rfl) ?_
  refine lv_bipush (v := iI (16)) hx hb dX5_indexOf_1 (by decide +kernel) ?_
  refine r_imul hx hb dX5_indexOf_3 ?_
  refine r_nm (fun v1 ev1 => ?_)
  refine lv_iload_n hx hb dX5_indexOf_4 rfl (lv_at hl 1 rfl) ?_
  refine r_iadd hx hb dX5_indexOf_5 ?_
  refine r_nm (fun v2 ev2 => ?_)
  exact g_iret hx hb hr hlocks hG (by
    refine ⟨?_, rfl⟩
    congr 1
    omega) dX5_indexOf_6
set_option maxHeartbeats 400000 in
set_option maxRecDepth 100000 in
theorem mX5_quotient (l : Launch) (D : va_G) (cy : Nat → ClassId) (ad : Nat → Nat) (n : Nat) (st : St) (sz fz : Nat) (wb : Int) (hn : 75 ≤ n) (hI : GI wb st) (hW : wb ≤ 2000000) (a : Int) (b : Int) (ha : 0 ≤ a ∧ a < 2147483648) (hb0 : -2147483648 ≤ b ∧ b < 2147483648) : Met l yX5_quotient wsX5_quotient ({ frames := 0, cells := 0, slots := 0, locals := 0 }) (va_Pc [.int (iI (a)), .int (iI (b))] (gB D cy ad n st sz fz)) (va_Qi (fun (r : Int32) (st' : St) => r = iI (quF a b) ∧ st' = st) (gP D cy ad n) (gA n ad sz)) 0 0 (gA n ad sz) := by
  refine Met.ofW (cc := cX5_quotient) (maxL := 2) (ret := (some .int)) (by decide) rfl ?_
  intro p e s m args below meth c s₁ B hml hv
  obtain ⟨rfl, hsz, hP, hK, hD0, hN, hZ⟩ := hv
  have hx := B.exec
  have hb := B.bytes
  have hr := B.returns
  have hts := atoms_spec (ws := wsX5_quotient) B.pre
  have hown : s.vm.findClass RX5 = some m.cls := findClass_of_methodNamed B.named
  have hlocks := B.notSynchronized
  subst hsz
  have hA : ∀ q : Nat, s.heap.size ≤ q → gA n ad s.heap.size q := fun q h => Or.inr h
  have hG : GH D cy ad n st (gA n ad s.heap.size) s.heap s.heap [] := ⟨hP, gw_A hD0, va_S.rf⟩
  have hl := lv_entry ([.int (iI (a)), .int (iI (b))]) (n := 2) (Nat.le_of_ble_eq_true rfl)
  rw [lg_entry_eq]
  generalize (lg_sl ([.int (iI (a)), .int (iI (b))]) ++ List.replicate (2 - (lg_sl ([.int (iI (a)), .int (iI (b))])).length) Slot.unset).toArray = ls at hl ⊢
  have hl : lv_has ls 2 [(0, .int (iI (a))), (1, .int (iI (b)))] := hl
  refine lv_iload_n hx hb dX5_quotient_0 rfl (lv_at hl 1 rfl) ?_
  refine lv_iconst (v := iI (1)) hx hb dX5_quotient_1 rfl ?_
  refine r_icmp_ge (tgt := 9) hx hb (by omega) dX5_quotient_2 (by decide) (fun c1 => ?_) (fun c1 => ?_)
  · skip
    refine lv_iload_n hx hb dX5_quotient_9 rfl (lv_at hl 0 rfl) ?_
    refine lv_iload_n hx hb dX5_quotient_10 rfl (lv_at hl 1 rfl) ?_
    refine r_idiv hx hb (by omega) dX5_quotient_11 ?_
    refine r_nm (fun v2 ev2 => ?_)
    have hr3 := divB (x := a) (y := b) (by omega) (by omega)
    rw [← ev2] at hr3
    exact g_iret hx hb hr hlocks hG (by
      refine ⟨?_, rfl⟩
      congr 1
      have := quF_s a b
      omega) dX5_quotient_12
  · skip
    refine lv_iconst (v := iI (0)) hx hb dX5_quotient_5 rfl ?_
    refine lv_goto (tgt := 12) hx hb dX5_quotient_6 (by decide) ?_
    exact g_iret hx hb hr hlocks hG (by
      refine ⟨?_, rfl⟩
      congr 1
      have := quF_s a b
      omega) dX5_quotient_12
set_option maxHeartbeats 400000 in
set_option maxRecDepth 100000 in
theorem mX4_conducted (l : Launch) (D : va_G) (cy : Nat → ClassId) (ad : Nat → Nat) (n : Nat) (st : St) (sz fz : Nat) (wb : Int) (hn : 75 ≤ n) (hI : GI wb st) (hW : wb ≤ 2000000) (o : Nat) (a : Int) (b : Int) (ho : o < 6) (ha : 0 ≤ a ∧ a < 8) (hb0 : 0 ≤ b ∧ b < 16) (hsc : ∀ (o : Nat) (j : Int), st 42 o j ≤ st 30 0 0) : Met l yX4_conducted wsX4_conducted ({ frames := 1, cells := 0, slots := 0, locals := 21 }) (va_Pc [.ref (ad (33 + 7 * o)), .int (iI (a)), .int (iI (b)), .ref (ad 22)] (gB D cy ad n st sz fz)) (va_Qi (fun (r : Int32) (st' : St) => r = iI (conC st o (16 * a + b)) ∧ st' = st) (gP D cy ad n) (gA n ad sz)) 0 0 (gA n ad sz) := by
  refine Met.ofW (cc := cX4_conducted) (maxL := 6) (ret := (some .int)) (by decide) rfl ?_
  intro p e s m args below meth c s₁ B hml hv
  obtain ⟨rfl, hsz, hP, hK, hD0, hN, hZ⟩ := hv
  have hx := B.exec
  have hb := B.bytes
  have hr := B.returns
  have hts := atoms_spec (ws := wsX4_conducted) B.pre
  have hown : s.vm.findClass RX4 = some m.cls := findClass_of_methodNamed B.named
  have hlocks := B.notSynchronized
  subst hsz
  have hA : ∀ q : Nat, s.heap.size ≤ q → gA n ad s.heap.size q := fun q h => Or.inr h
  have hG : GH D cy ad n st (gA n ad s.heap.size) s.heap s.heap [] := ⟨hP, gw_A hD0, va_S.rf⟩
  have hl := lv_entry ([.ref (ad (33 + 7 * o)), .int (iI (a)), .int (iI (b)), .ref (ad 22)]) (n := 6) (Nat.le_of_ble_eq_true rfl)
  rw [lg_entry_eq]
  generalize (lg_sl ([.ref (ad (33 + 7 * o)), .int (iI (a)), .int (iI (b)), .ref (ad 22)]) ++ List.replicate (6 - (lg_sl ([.ref (ad (33 + 7 * o)), .int (iI (a)), .int (iI (b)), .ref (ad 22)])).length) Slot.unset).toArray = ls at hl ⊢
  have hl : lv_has ls 6 [(0, .ref (ad (33 + 7 * o))), (1, .int (iI (a))), (2, .int (iI (b))), (3, .ref (ad 22))] := hl
  have hin4 : ∀ w ∈ u_ws RX4 TX4 12, w ∈ wsX4_conducted := by decide +kernel
  have hin3 : ∀ w ∈ u_ws RX3 TX3 3, w ∈ wsX4_conducted := by decide +kernel
  have L_18 := hts (.fieldLink RX4 18 "Crossbarry$Tile" "hours" "[I") (by decide +kernel)
  have L_21 := hts (.fieldLink RX4 21 "Crossbarry$Tile" "isStuck" "[Z") (by decide +kernel)
  have L_55 := hts (.fieldLink RX4 55 "Crossbarry$Setting" "driftHours" "I") (by decide +kernel)
  have L_60 := hts (.fieldLink RX4 60 "Crossbarry$Setting" "now" "I") (by decide +kernel)
  have L_66 := hts (.methodLink RX4 66 Lib.Math.max.name) (by decide +kernel)
  have L_9 := hts (.fieldLink RX4 9 "Crossbarry$Tile" "states" "[I") (by decide +kernel)
  have Lcmax := hts (.code Lib.Math.max.name Lib.Math.max.code 2 (some .int)) (by decide +kernel)
  have Li := hts (.initialized "java/lang/Math") (by decide +kernel)
  have Lsmax := hts (.static Lib.Math.max.name) (by decide +kernel)
  have hs := hsc o (16 * a + b)
  refine lv_iload_n hx hb dX4_conducted_0 rfl (lv_at hl 1 rfl) ?_
  refine lv_iload_n hx hb dX4_conducted_1 rfl (lv_at hl 2 rfl) ?_
  refine g_goi hG hA (va_runSN (As := [.int (iI (a)), .int (iI (b))]) (rest := []) ⟨hx, hb, hml, hown, hts⟩ (mX5_indexOf l D cy ad n st _ fz wb hn hI (by omega) (a) (b) ) ⟨va_cnB 2 hts gX4_conducted_X5_indexOf_n51 rfl rfl rfl (hN.1 (.methodLinkNest RX4 51 yX5_indexOf RX5) (by decide +kernel)) (hts (.initialized RX5) (by decide +kernel)) (by decide +kernel) ⟨Nat.le_of_ble_eq_true rfl, Nat.le_of_ble_eq_true rfl⟩, hts (.static yX5_indexOf) (by decide +kernel), trivial⟩ ⟨g_blind, g_pre hK hG hA hN hZ⟩ rfl rfl hl.1 rfl (lv_room (Nat.le_of_ble_eq_true rfl)) dX4_conducted_2 ⟨Nat.zero_le _, Nat.zero_le _⟩) (fun r9 s9 H locs hp hG => ?_)
  obtain ⟨rfl, hs9⟩ := hp
  rw [hs9] at hG
  clear hs9
  refine r_nm (fun v1 ev1 => ?_)
  have hs1 := hsc o v1
  refine lv_istore (lv' := [(4, .int (iI (v1))), (0, .ref (ad (33 + 7 * o))), (1, .int (iI (a))), (2, .int (iI (b))), (3, .ref (ad 22))]) hx hb dX4_conducted_5 hl (by decide) rfl (fun ls hl => ?_)
  refine lv_aload_n hx hb dX4_conducted_7 rfl (lv_at hl 4 rfl) ?_
  refine g_get hx hb hts hin3 hown hK hG (key := 22) (by omega) (gC_22 st ad cy) rfl 1 (by decide) L_55 (fun _ h9 => h9) rfl dX4_conducted_8 ?_
  have hr2 := gI_31 hI (0) (0)
  refine r_nm (fun v3 ev3 => ?_)
  rw [← ev3] at hr2
  refine r_if_eq (tgt := 24) hx hb (by omega) dX4_conducted_11 (by decide) (fun c4 => ?_) (fun c4 => ?_)
  · skip
    refine lv_aload_n hx hb dX4_conducted_24 rfl (lv_at hl 1 rfl) ?_
    refine g_get hx hb hts hin4 hown hK hG (key := 33 + 7 * o) (by omega) (gC_t st ad cy ho) rfl 1 (by decide) L_9 (fun _ h9 => h9) rfl dX4_conducted_25 ?_
    refine lv_iload hx hb dX4_conducted_28 (lv_at hl 0 rfl) ?_
    refine g_iald hx hb hK hG (34 + 7 * o) (kd := 34) (o := o) (gk_t (o := o) (j := 1) ho (by decide)) rfl (by omega) (cp := 40) (ln := 128) rfl rfl (by omega) dX4_conducted_30 ?_
    have hr5 := gI_40 hI (o) (v1)
    refine r_nm (fun v6 ev6 => ?_)
    rw [← ev6] at hr5
    exact g_iret hx hb hr hlocks hG (by
      refine ⟨?_, rfl⟩
      congr 1
      unfold conC conV
      subst_vars
      first
        | rw [if_pos (by omega)]
        | (rw [if_neg (by omega)]; omega)) dX4_conducted_31
  · skip
    refine lv_aload_n hx hb dX4_conducted_14 rfl (lv_at hl 1 rfl) ?_
    refine g_get hx hb hts hin4 hown hK hG (key := 33 + 7 * o) (by omega) (gC_t st ad cy ho) rfl 4 (by decide) L_21 (fun _ h9 => h9) rfl dX4_conducted_15 ?_
    refine lv_iload hx hb dX4_conducted_18 (lv_at hl 0 rfl) ?_
    refine g_zald hx hb hK hG (37 + 7 * o) (kd := 37) (o := o) (gk_t (o := o) (j := 4) ho (by decide)) rfl (by omega) (cp := 43) (ln := 128) rfl rfl (by omega) dX4_conducted_20 ?_
    have hr7 := gI_43 hI (o) (v1)
    refine r_nm (fun v8 ev8 => ?_)
    rw [← ev8] at hr7
    refine r_if_eq (tgt := 32) hx hb (by omega) dX4_conducted_21 (by decide) (fun c9 => ?_) (fun c9 => ?_)
    · skip
      refine lv_aload_n hx hb dX4_conducted_32 rfl (lv_at hl 4 rfl) ?_
      refine g_get hx hb hts hin3 hown hK hG (key := 22) (by omega) (gC_22 st ad cy) rfl 0 (by decide) L_60 (fun _ h9 => h9) rfl dX4_conducted_33 ?_
      have hr10 := gI_30 hI (0) (0)
      refine r_nm (fun v11 ev11 => ?_)
      rw [← ev11] at hr10
      refine lv_aload_n hx hb dX4_conducted_36 rfl (lv_at hl 1 rfl) ?_
      refine g_get hx hb hts hin4 hown hK hG (key := 33 + 7 * o) (by omega) (gC_t st ad cy ho) rfl 3 (by decide) L_18 (fun _ h9 => h9) rfl dX4_conducted_37 ?_
      refine lv_iload hx hb dX4_conducted_40 (lv_at hl 0 rfl) ?_
      refine g_iald hx hb hK hG (36 + 7 * o) (kd := 36) (o := o) (gk_t (o := o) (j := 3) ho (by decide)) rfl (by omega) (cp := 42) (ln := 128) rfl rfl (by omega) dX4_conducted_42 ?_
      have hr12 := gI_42 hI (o) (v1)
      refine r_nm (fun v13 ev13 => ?_)
      rw [← ev13] at hr12
      refine r_isub hx hb dX4_conducted_43 ?_
      refine r_nm (fun v14 ev14 => ?_)
      refine lv_aload_n hx hb dX4_conducted_44 rfl (lv_at hl 4 rfl) ?_
      refine g_get hx hb hts hin3 hown hK hG (key := 22) (by omega) (gC_22 st ad cy) rfl 1 (by decide) L_55 (fun _ h9 => h9) rfl dX4_conducted_45 ?_
      have hr15 := gI_31 hI (0) (0)
      refine r_nm (fun v16 ev16 => ?_)
      rw [← ev16] at hr15
      refine g_goi hG hA (va_runSN (As := [.int (iI (v14)), .int (iI (v16))]) (rest := []) ⟨hx, hb, hml, hown, hts⟩ (mX5_quotient l D cy ad n st _ fz wb hn hI (by omega) (v14) (v16) (by omega) (by omega)) ⟨va_cnB 2 hts gX4_conducted_X5_quotient_n63 rfl rfl rfl (hN.1 (.methodLinkNest RX4 63 yX5_quotient RX5) (by decide +kernel)) (hts (.initialized RX5) (by decide +kernel)) (by decide +kernel) ⟨Nat.le_of_ble_eq_true rfl, Nat.le_of_ble_eq_true rfl⟩, hts (.static yX5_quotient) (by decide +kernel), trivial⟩ ⟨g_blind, g_pre hK hG hA hN hZ⟩ rfl rfl hl.1 rfl (lv_room (Nat.le_of_ble_eq_true rfl)) dX4_conducted_48 ⟨Nat.zero_le _, Nat.zero_le _⟩) (fun r9 s9 H locs hp hG => ?_)
      obtain ⟨rfl, hs9⟩ := hp
      rw [hs9] at hG
      clear hs9
      refine r_nm (fun v17 ev17 => ?_)
      have hr18 := quF_s (v14) (v16)
      rw [← ev17] at hr18
      have hr19 := quF_b (v14) (v16) (by omega)
      rw [← ev17] at hr19
      refine lv_istore (lv' := [(5, .int (iI (v17))), (4, .int (iI (v1))), (0, .ref (ad (33 + 7 * o))), (1, .int (iI (a))), (2, .int (iI (b))), (3, .ref (ad 22))]) hx hb dX4_conducted_51 hl (by decide) rfl (fun ls hl => ?_)
      refine lv_iconst (v := iI (0)) hx hb dX4_conducted_53 rfl ?_
      refine lv_aload_n hx hb dX4_conducted_54 rfl (lv_at hl 2 rfl) ?_
      refine g_get hx hb hts hin4 hown hK hG (key := 33 + 7 * o) (by omega) (gC_t st ad cy ho) rfl 1 (by decide) L_9 (fun _ h9 => h9) rfl dX4_conducted_55 ?_
      refine lv_iload hx hb dX4_conducted_58 (lv_at hl 1 rfl) ?_
      refine g_iald hx hb hK hG (34 + 7 * o) (kd := 34) (o := o) (gk_t (o := o) (j := 1) ho (by decide)) rfl (by omega) (cp := 40) (ln := 128) rfl rfl (by omega) dX4_conducted_60 ?_
      have hr20 := gI_40 hI (o) (v1)
      refine r_nm (fun v21 ev21 => ?_)
      rw [← ev21] at hr20
      refine lv_iload hx hb dX4_conducted_61 (lv_at hl 0 rfl) ?_
      refine r_isub hx hb dX4_conducted_63 ?_
      refine r_nm (fun v22 ev22 => ?_)
      refine va_mmax hx hb (hml.trans hl.1.symm) hown L_66 Lsmax Li Lcmax (Nat.le_of_ble_eq_true rfl) (Nat.le_of_ble_eq_true rfl) (by omega) (by omega) dX4_conducted_64 ?_
      refine r_asI (y := max (0) (v22)) (iI_max (by omega)) ?_
      refine r_nm (fun v23 ev23 => ?_)
      exact g_iret hx hb hr hlocks hG (by
        refine ⟨?_, rfl⟩
        congr 1
        unfold conC conV
        subst_vars
        first
          | rw [if_pos (by omega)]
          | (rw [if_neg (by omega)]; omega)) dX4_conducted_67
    · skip
      refine lv_aload_n hx hb dX4_conducted_24 rfl (lv_at hl 1 rfl) ?_
      refine g_get hx hb hts hin4 hown hK hG (key := 33 + 7 * o) (by omega) (gC_t st ad cy ho) rfl 1 (by decide) L_9 (fun _ h9 => h9) rfl dX4_conducted_25 ?_
      refine lv_iload hx hb dX4_conducted_28 (lv_at hl 0 rfl) ?_
      refine g_iald hx hb hK hG (34 + 7 * o) (kd := 34) (o := o) (gk_t (o := o) (j := 1) ho (by decide)) rfl (by omega) (cp := 40) (ln := 128) rfl rfl (by omega) dX4_conducted_30 ?_
      have hr24 := gI_40 hI (o) (v1)
      refine r_nm (fun v25 ev25 => ?_)
      rw [← ev25] at hr24
      exact g_iret hx hb hr hlocks hG (by
        refine ⟨?_, rfl⟩
        congr 1
        unfold conC conV
        subst_vars
        first
          | rw [if_pos (by omega)]
          | (rw [if_neg (by omega)]; omega)) dX4_conducted_31
set_option maxHeartbeats 400000 in
set_option maxRecDepth 100000 in
theorem mX4_becomesStuck (l : Launch) (D : va_G) (cy : Nat → ClassId) (ad : Nat → Nat) (n : Nat) (st : St) (sz fz : Nat) (wb : Int) (hn : 75 ≤ n) (hI : GI wb st) (hW : wb ≤ 2000000) (o : Nat) (a : Int) (b : Int) (v : Int) (ho : o < 6) (ha : 0 ≤ a ∧ a < 8) (hb0 : 0 ≤ b ∧ b < 16) (hv0 : 0 ≤ v ∧ v ≤ 15) : Met l yX4_becomesStuck wsX4_becomesStuck ({ frames := 1, cells := 0, slots := 0, locals := 21 }) (va_Pc [.ref (ad (33 + 7 * o)), .int (iI (a)), .int (iI (b)), .int (iI (v))] (gB D cy ad n st sz fz)) (va_Qi (fun (r : Int32) (st' : St) => r = iI (1 - st 43 o (16 * a + b)) ∧ st' = bsC st o (16 * a + b) v ∧ GI wb st') (gP D cy ad n) (gA n ad sz)) 0 0 (gA n ad sz) := by
  refine Met.ofW (cc := cX4_becomesStuck) (maxL := 5) (ret := (some .boolean)) (by decide) rfl ?_
  intro p e s m args below meth c s₁ B hml hv
  obtain ⟨rfl, hsz, hP, hK, hD0, hN, hZ⟩ := hv
  have hx := B.exec
  have hb := B.bytes
  have hr := B.returns
  have hts := atoms_spec (ws := wsX4_becomesStuck) B.pre
  have hown : s.vm.findClass RX4 = some m.cls := findClass_of_methodNamed B.named
  have hlocks := B.notSynchronized
  subst hsz
  have hA : ∀ q : Nat, s.heap.size ≤ q → gA n ad s.heap.size q := fun q h => Or.inr h
  have hG : GH D cy ad n st (gA n ad s.heap.size) s.heap s.heap [] := ⟨hP, gw_A hD0, va_S.rf⟩
  have hl := lv_entry ([.ref (ad (33 + 7 * o)), .int (iI (a)), .int (iI (b)), .int (iI (v))]) (n := 5) (Nat.le_of_ble_eq_true rfl)
  rw [lg_entry_eq]
  generalize (lg_sl ([.ref (ad (33 + 7 * o)), .int (iI (a)), .int (iI (b)), .int (iI (v))]) ++ List.replicate (5 - (lg_sl ([.ref (ad (33 + 7 * o)), .int (iI (a)), .int (iI (b)), .int (iI (v))])).length) Slot.unset).toArray = ls at hl ⊢
  have hl : lv_has ls 5 [(0, .ref (ad (33 + 7 * o))), (1, .int (iI (a))), (2, .int (iI (b))), (3, .int (iI (v)))] := hl
  have hin4 : ∀ w ∈ u_ws RX4 TX4 12, w ∈ wsX4_becomesStuck := by decide +kernel
  have L_21 := hts (.fieldLink RX4 21 "Crossbarry$Tile" "isStuck" "[Z") (by decide +kernel)
  have L_9 := hts (.fieldLink RX4 9 "Crossbarry$Tile" "states" "[I") (by decide +kernel)
  refine lv_iload_n hx hb dX4_becomesStuck_0 rfl (lv_at hl 1 rfl) ?_
  refine lv_iload_n hx hb dX4_becomesStuck_1 rfl (lv_at hl 2 rfl) ?_
  refine g_goi hG hA (va_runSN (As := [.int (iI (a)), .int (iI (b))]) (rest := []) ⟨hx, hb, hml, hown, hts⟩ (mX5_indexOf l D cy ad n st _ fz wb hn hI (by omega) (a) (b) ) ⟨va_cnB 2 hts gX4_becomesStuck_X5_indexOf_n51 rfl rfl rfl (hN.1 (.methodLinkNest RX4 51 yX5_indexOf RX5) (by decide +kernel)) (hts (.initialized RX5) (by decide +kernel)) (by decide +kernel) ⟨Nat.le_of_ble_eq_true rfl, Nat.le_of_ble_eq_true rfl⟩, hts (.static yX5_indexOf) (by decide +kernel), trivial⟩ ⟨g_blind, g_pre hK hG hA hN hZ⟩ rfl rfl hl.1 rfl (lv_room (Nat.le_of_ble_eq_true rfl)) dX4_becomesStuck_2 ⟨Nat.zero_le _, Nat.zero_le _⟩) (fun r9 s9 H locs hp hG => ?_)
  obtain ⟨rfl, hs9⟩ := hp
  rw [hs9] at hG
  clear hs9
  refine r_nm (fun v1 ev1 => ?_)
  refine lv_istore (lv' := [(4, .int (iI (v1))), (0, .ref (ad (33 + 7 * o))), (1, .int (iI (a))), (2, .int (iI (b))), (3, .int (iI (v)))]) hx hb dX4_becomesStuck_5 hl (by decide) rfl (fun ls hl => ?_)
  refine lv_aload_n hx hb dX4_becomesStuck_7 rfl (lv_at hl 1 rfl) ?_
  refine g_get hx hb hts hin4 hown hK hG (key := 33 + 7 * o) (by omega) (gC_t st ad cy ho) rfl 4 (by decide) L_21 (fun _ h9 => h9) rfl dX4_becomesStuck_8 ?_
  refine lv_iload hx hb dX4_becomesStuck_11 (lv_at hl 0 rfl) ?_
  refine g_zald hx hb hK hG (37 + 7 * o) (kd := 37) (o := o) (gk_t (o := o) (j := 4) ho (by decide)) rfl (by omega) (cp := 43) (ln := 128) rfl rfl (by omega) dX4_becomesStuck_13 ?_
  have hr2 := gI_43 hI (o) (v1)
  refine r_nm (fun v3 ev3 => ?_)
  rw [← ev3] at hr2
  refine r_if_eq (tgt := 19) hx hb (by omega) dX4_becomesStuck_14 (by decide) (fun c4 => ?_) (fun c4 => ?_)
  · skip
    refine lv_aload_n hx hb dX4_becomesStuck_19 rfl (lv_at hl 1 rfl) ?_
    refine g_get hx hb hts hin4 hown hK hG (key := 33 + 7 * o) (by omega) (gC_t st ad cy ho) rfl 4 (by decide) L_21 (fun _ h9 => h9) rfl dX4_becomesStuck_20 ?_
    refine lv_iload hx hb dX4_becomesStuck_23 (lv_at hl 0 rfl) ?_
    refine lv_iconst (v := iI (1)) hx hb dX4_becomesStuck_25 rfl ?_
    refine g_zast hx hb hK hG (37 + 7 * o) (kd := 37) (o := o) (gk_t (o := o) (j := 4) ho (by decide)) rfl (by omega) (cp := 43) (ln := 128) rfl rfl (by omega) (by omega) dX4_becomesStuck_26 (fun H locs hG => ?_)
    obtain ⟨st5, hst5⟩ : ∃ z : St, z = ust st 43 (o) (v1) (1) := ⟨_, rfl⟩
    rw [← hst5] at hG
    replace hI := hst5 ▸ gIu_43 hI (o) (v1) (v := 1) (by omega)
    refine lv_aload_n hx hb dX4_becomesStuck_27 rfl (lv_at hl 1 rfl) ?_
    refine g_get hx hb hts hin4 hown hK hG (key := 33 + 7 * o) (by omega) (gC_t st5 ad cy ho) rfl 1 (by decide) L_9 (fun _ h9 => h9) rfl dX4_becomesStuck_28 ?_
    refine lv_iload hx hb dX4_becomesStuck_31 (lv_at hl 0 rfl) ?_
    refine lv_iload_n hx hb dX4_becomesStuck_33 rfl (lv_at hl 4 rfl) ?_
    refine g_iast hx hb hK hG (34 + 7 * o) (kd := 34) (o := o) (gk_t (o := o) (j := 1) ho (by decide)) rfl (by omega) (cp := 40) (ln := 128) rfl rfl (by omega) dX4_becomesStuck_34 (fun H locs hG => ?_)
    obtain ⟨st6, hst6⟩ : ∃ z : St, z = ust st5 40 (o) (v1) (v) := ⟨_, rfl⟩
    rw [← hst6] at hG
    replace hI := hst6 ▸ gIu_40 hI (o) (v1) (v := v) (by omega)
    refine lv_iconst (v := iI (1)) hx hb dX4_becomesStuck_35 rfl ?_
    exact g_zret hx hb hr hlocks (narZ (by omega)) hG (by
      unfold bsC
      first
        | (rw [if_pos (by subst_vars; omega)]; exact ⟨by congr 1; subst_vars; omega, rfl, hI⟩)
        | (rw [if_neg (by subst_vars; omega)]; exact ⟨by congr 1; subst_vars; omega, by subst_vars; rfl, hI⟩)) dX4_becomesStuck_36
  · skip
    refine lv_iconst (v := iI (0)) hx hb dX4_becomesStuck_17 rfl ?_
    exact g_zret hx hb hr hlocks (narZ (by omega)) hG (by
      unfold bsC
      first
        | (rw [if_pos (by subst_vars; omega)]; exact ⟨by congr 1; subst_vars; omega, rfl, hI⟩)
        | (rw [if_neg (by subst_vars; omega)]; exact ⟨by congr 1; subst_vars; omega, by subst_vars; rfl, hI⟩)) dX4_becomesStuck_18
set_option maxHeartbeats 400000 in
set_option maxRecDepth 100000 in
theorem mX4_isMisfit (l : Launch) (D : va_G) (cy : Nat → ClassId) (ad : Nat → Nat) (n : Nat) (st : St) (sz fz : Nat) (wb : Int) (hn : 75 ≤ n) (hI : GI wb st) (hW : wb ≤ 2000000) (o : Nat) (a : Int) (b : Int) (v : Int) (ho : o < 6) (ha : 0 ≤ a ∧ a < 8) (hb0 : 0 ≤ b ∧ b < 16) (hv0 : -2147483648 ≤ v ∧ v < 2147483648) : Met l yX4_isMisfit wsX4_isMisfit ({ frames := 1, cells := 0, slots := 0, locals := 21 }) (va_Pc [.ref (ad (33 + 7 * o)), .int (iI (a)), .int (iI (b)), .int (iI (v))] (gB D cy ad n st sz fz)) (va_Qi (fun (r : Int32) (st' : St) => r = iI (msC st o (16 * a + b) v) ∧ st' = st) (gP D cy ad n) (gA n ad sz)) 0 0 (gA n ad sz) := by
  refine Met.ofW (cc := cX4_isMisfit) (maxL := 5) (ret := (some .boolean)) (by decide) rfl ?_
  intro p e s m args below meth c s₁ B hml hv
  obtain ⟨rfl, hsz, hP, hK, hD0, hN, hZ⟩ := hv
  have hx := B.exec
  have hb := B.bytes
  have hr := B.returns
  have hts := atoms_spec (ws := wsX4_isMisfit) B.pre
  have hown : s.vm.findClass RX4 = some m.cls := findClass_of_methodNamed B.named
  have hlocks := B.notSynchronized
  subst hsz
  have hA : ∀ q : Nat, s.heap.size ≤ q → gA n ad s.heap.size q := fun q h => Or.inr h
  have hG : GH D cy ad n st (gA n ad s.heap.size) s.heap s.heap [] := ⟨hP, gw_A hD0, va_S.rf⟩
  have hl := lv_entry ([.ref (ad (33 + 7 * o)), .int (iI (a)), .int (iI (b)), .int (iI (v))]) (n := 5) (Nat.le_of_ble_eq_true rfl)
  rw [lg_entry_eq]
  generalize (lg_sl ([.ref (ad (33 + 7 * o)), .int (iI (a)), .int (iI (b)), .int (iI (v))]) ++ List.replicate (5 - (lg_sl ([.ref (ad (33 + 7 * o)), .int (iI (a)), .int (iI (b)), .int (iI (v))])).length) Slot.unset).toArray = ls at hl ⊢
  have hl : lv_has ls 5 [(0, .ref (ad (33 + 7 * o))), (1, .int (iI (a))), (2, .int (iI (b))), (3, .int (iI (v)))] := hl
  have hin4 : ∀ w ∈ u_ws RX4 TX4 12, w ∈ wsX4_isMisfit := by decide +kernel
  have L_25 := hts (.fieldLink RX4 25 "Crossbarry$Tile" "isKnown" "[Z") (by decide +kernel)
  have L_9 := hts (.fieldLink RX4 9 "Crossbarry$Tile" "states" "[I") (by decide +kernel)
  refine lv_iload_n hx hb dX4_isMisfit_0 rfl (lv_at hl 1 rfl) ?_
  refine lv_iload_n hx hb dX4_isMisfit_1 rfl (lv_at hl 2 rfl) ?_
  refine g_goi hG hA (va_runSN (As := [.int (iI (a)), .int (iI (b))]) (rest := []) ⟨hx, hb, hml, hown, hts⟩ (mX5_indexOf l D cy ad n st _ fz wb hn hI (by omega) (a) (b) ) ⟨va_cnB 2 hts gX4_isMisfit_X5_indexOf_n51 rfl rfl rfl (hN.1 (.methodLinkNest RX4 51 yX5_indexOf RX5) (by decide +kernel)) (hts (.initialized RX5) (by decide +kernel)) (by decide +kernel) ⟨Nat.le_of_ble_eq_true rfl, Nat.le_of_ble_eq_true rfl⟩, hts (.static yX5_indexOf) (by decide +kernel), trivial⟩ ⟨g_blind, g_pre hK hG hA hN hZ⟩ rfl rfl hl.1 rfl (lv_room (Nat.le_of_ble_eq_true rfl)) dX4_isMisfit_2 ⟨Nat.zero_le _, Nat.zero_le _⟩) (fun r9 s9 H locs hp hG => ?_)
  obtain ⟨rfl, hs9⟩ := hp
  rw [hs9] at hG
  clear hs9
  refine r_nm (fun v1 ev1 => ?_)
  refine lv_istore (lv' := [(4, .int (iI (v1))), (0, .ref (ad (33 + 7 * o))), (1, .int (iI (a))), (2, .int (iI (b))), (3, .int (iI (v)))]) hx hb dX4_isMisfit_5 hl (by decide) rfl (fun ls hl => ?_)
  refine lv_aload_n hx hb dX4_isMisfit_7 rfl (lv_at hl 1 rfl) ?_
  refine g_get hx hb hts hin4 hown hK hG (key := 33 + 7 * o) (by omega) (gC_t st ad cy ho) rfl 5 (by decide) L_25 (fun _ h9 => h9) rfl dX4_isMisfit_8 ?_
  refine lv_iload hx hb dX4_isMisfit_11 (lv_at hl 0 rfl) ?_
  refine g_zald hx hb hK hG (38 + 7 * o) (kd := 38) (o := o) (gk_t (o := o) (j := 5) ho (by decide)) rfl (by omega) (cp := 44) (ln := 128) rfl rfl (by omega) dX4_isMisfit_13 ?_
  have hr2 := gI_44 hI (o) (v1)
  refine r_nm (fun v3 ev3 => ?_)
  rw [← ev3] at hr2
  refine r_if_eq (tgt := 32) hx hb (by omega) dX4_isMisfit_14 (by decide) (fun c4 => ?_) (fun c4 => ?_)
  · skip
    refine lv_iconst (v := iI (0)) hx hb dX4_isMisfit_32 rfl ?_
    exact g_zret hx hb hr hlocks (narZ (by omega)) hG (by
      refine ⟨?_, rfl⟩
      congr 1
      unfold msC
      subst_vars
      first
        | (rw [if_pos (by omega)]; done)
        | (rw [if_neg (by omega)]; done)) dX4_isMisfit_33
  · skip
    refine lv_aload_n hx hb dX4_isMisfit_17 rfl (lv_at hl 1 rfl) ?_
    refine g_get hx hb hts hin4 hown hK hG (key := 33 + 7 * o) (by omega) (gC_t st ad cy ho) rfl 1 (by decide) L_9 (fun _ h9 => h9) rfl dX4_isMisfit_18 ?_
    refine lv_iload hx hb dX4_isMisfit_21 (lv_at hl 0 rfl) ?_
    refine g_iald hx hb hK hG (34 + 7 * o) (kd := 34) (o := o) (gk_t (o := o) (j := 1) ho (by decide)) rfl (by omega) (cp := 40) (ln := 128) rfl rfl (by omega) dX4_isMisfit_23 ?_
    have hr5 := gI_40 hI (o) (v1)
    refine r_nm (fun v6 ev6 => ?_)
    rw [← ev6] at hr5
    refine lv_iload_n hx hb dX4_isMisfit_24 rfl (lv_at hl 4 rfl) ?_
    refine r_icmp_eq (tgt := 32) hx hb (by omega) dX4_isMisfit_25 (by decide) (fun c7 => ?_) (fun c7 => ?_)
    · skip
      refine lv_iconst (v := iI (0)) hx hb dX4_isMisfit_32 rfl ?_
      exact g_zret hx hb hr hlocks (narZ (by omega)) hG (by
        refine ⟨?_, rfl⟩
        congr 1
        unfold msC
        subst_vars
        first
          | (rw [if_pos (by omega)]; done)
          | (rw [if_neg (by omega)]; done)) dX4_isMisfit_33
    · skip
      refine lv_iconst (v := iI (1)) hx hb dX4_isMisfit_28 rfl ?_
      refine lv_goto (tgt := 33) hx hb dX4_isMisfit_29 (by decide) ?_
      exact g_zret hx hb hr hlocks (narZ (by omega)) hG (by
        refine ⟨?_, rfl⟩
        congr 1
        unfold msC
        subst_vars
        first
          | (rw [if_pos (by omega)]; done)
          | (rw [if_neg (by omega)]; done)) dX4_isMisfit_33
set_option maxHeartbeats 400000 in
set_option maxRecDepth 100000 in
theorem mX4_read (l : Launch) (D : va_G) (cy : Nat → ClassId) (ad : Nat → Nat) (n : Nat) (st : St) (sz fz : Nat) (wb : Int) (hn : 75 ≤ n) (hI : GI wb st) (hW : wb ≤ 2000000) (o : Nat) (d : Int) (cur : Int) (ho : o < 6) (hd : 0 ≤ d ∧ d < 16) (hcur : 0 ≤ cur ∧ cur ≤ 100000) : Met l yX4_read wsX4_read ({ frames := 1, cells := 0, slots := 0, locals := 21 }) (va_Pc [.ref (ad (33 + 7 * o)), .int (iI (d)), .int (iI (cur))] (gB D cy ad n st sz fz)) (va_Qi (fun (r : Int32) (st' : St) => r = iI (readV (st 46 o 0) (st 47 o 0) (st 48 o 0) (st 45 o d) cur) ∧ st' = st) (gP D cy ad n) (gA n ad sz)) 0 0 (gA n ad sz) := by
  refine Met.ofW (cc := cX4_read) (maxL := 4) (ret := (some .int)) (by decide) rfl ?_
  intro p e s m args below meth c s₁ B hml hv
  obtain ⟨rfl, hsz, hP, hK, hD0, hN, hZ⟩ := hv
  have hx := B.exec
  have hb := B.bytes
  have hr := B.returns
  have hts := atoms_spec (ws := wsX4_read) B.pre
  have hown : s.vm.findClass RX4 = some m.cls := findClass_of_methodNamed B.named
  have hlocks := B.notSynchronized
  subst hsz
  have hA : ∀ q : Nat, s.heap.size ≤ q → gA n ad s.heap.size q := fun q h => Or.inr h
  have hG : GH D cy ad n st (gA n ad s.heap.size) s.heap s.heap [] := ⟨hP, gw_A hD0, va_S.rf⟩
  have hl := lv_entry ([.ref (ad (33 + 7 * o)), .int (iI (d)), .int (iI (cur))]) (n := 4) (Nat.le_of_ble_eq_true rfl)
  rw [lg_entry_eq]
  generalize (lg_sl ([.ref (ad (33 + 7 * o)), .int (iI (d)), .int (iI (cur))]) ++ List.replicate (4 - (lg_sl ([.ref (ad (33 + 7 * o)), .int (iI (d)), .int (iI (cur))])).length) Slot.unset).toArray = ls at hl ⊢
  have hl : lv_has ls 4 [(0, .ref (ad (33 + 7 * o))), (1, .int (iI (d))), (2, .int (iI (cur)))] := hl
  have hin4 : ∀ w ∈ u_ws RX4 TX4 12, w ∈ wsX4_read := by decide +kernel
  have L_28 := hts (.fieldLink RX4 28 "Crossbarry$Tile" "offsets" "[I") (by decide +kernel)
  have L_31 := hts (.fieldLink RX4 31 "Crossbarry$Tile" "readStep" "I") (by decide +kernel)
  have L_35 := hts (.fieldLink RX4 35 "Crossbarry$Tile" "readTop" "I") (by decide +kernel)
  have L_38 := hts (.fieldLink RX4 38 "Crossbarry$Tile" "isCalibrated" "Z") (by decide +kernel)
  have L_66 := hts (.methodLink RX4 66 Lib.Math.max.name) (by decide +kernel)
  have L_82 := hts (.methodLink RX4 82 Lib.Math.min.name) (by decide +kernel)
  have Lcmax := hts (.code Lib.Math.max.name Lib.Math.max.code 2 (some .int)) (by decide +kernel)
  have Lcmin := hts (.code Lib.Math.min.name Lib.Math.min.code 2 (some .int)) (by decide +kernel)
  have Li := hts (.initialized "java/lang/Math") (by decide +kernel)
  have Lsmax := hts (.static Lib.Math.max.name) (by decide +kernel)
  have Lsmin := hts (.static Lib.Math.min.name) (by decide +kernel)
  have hlab23 : ∀ (y : Int) (H : Heap) (locs : List Loc) (ls : Array Slot), (y = max 0 (cur + (if st 48 o 0 = 1 then 0 else st 45 o d))) → (0 ≤ y ∧ y ≤ 100003) →  GH D cy ad n st (gA n ad s.heap.size) s.heap H locs → lv_has ls 4 [(0, .ref (ad (33 + 7 * o))), (1, .int (iI (d))), (2, .int (iI (cur)))] → W p l e (headSpec wsX4_read { frames := 1, cells := 0, slots := 0, locals := 21 }).room s m (#[.ref (ad (33 + 7 * o)), .int (iI (d)), .int (iI (cur))] : Array Value) below meth c H locs 0 0 (MQ below (va_Qi (fun (r : Int32) (st' : St) => r = iI (readV (st 46 o 0) (st 47 o 0) (st 48 o 0) (st 45 o d) cur) ∧ st' = st) (gP D cy ad n) (gA n ad s.heap.size)) (#[.ref (ad (33 + 7 * o)), .int (iI (d)), .int (iI (cur))] : Array Value) s 0 0 (gA n ad s.heap.size)) (F0 m 23 ls [.int (iI (y))]) := by
    intro y H locs ls hy hyr hG hl
    refine lv_istore_n (lv' := [(3, .int (iI (y))), (0, .ref (ad (33 + 7 * o))), (1, .int (iI (d))), (2, .int (iI (cur)))]) hx hb dX4_read_23 rfl hl (by decide) rfl (fun ls hl => ?_)
    refine lv_aload_n hx hb dX4_read_24 rfl (lv_at hl 1 rfl) ?_
    refine g_get hx hb hts hin4 hown hK hG (key := 33 + 7 * o) (by omega) (gC_t st ad cy ho) rfl 8 (by decide) L_35 (fun _ h9 => h9) rfl dX4_read_25 ?_
    have hr1 := gI_47 hI (o) (0)
    refine r_nm (fun v2 ev2 => ?_)
    rw [← ev2] at hr1
    refine lv_iload_n hx hb dX4_read_28 rfl (lv_at hl 0 rfl) ?_
    refine lv_aload_n hx hb dX4_read_29 rfl (lv_at hl 1 rfl) ?_
    refine g_get hx hb hts hin4 hown hK hG (key := 33 + 7 * o) (by omega) (gC_t st ad cy ho) rfl 7 (by decide) L_31 (fun _ h9 => h9) rfl dX4_read_30 ?_
    have hr3 := gI_46 hI (o) (0)
    refine r_nm (fun v4 ev4 => ?_)
    rw [← ev4] at hr3
    refine g_goi hG hA (va_runSN (As := [.int (iI (y)), .int (iI (v4))]) (rest := [.int (iI (v2))]) ⟨hx, hb, hml, hown, hts⟩ (mX5_quotient l D cy ad n st _ fz wb hn hI (by omega) (y) (v4) (by omega) (by omega)) ⟨va_cnB 2 hts gX4_read_X5_quotient_n63 rfl rfl rfl (hN.1 (.methodLinkNest RX4 63 yX5_quotient RX5) (by decide +kernel)) (hts (.initialized RX5) (by decide +kernel)) (by decide +kernel) ⟨Nat.le_of_ble_eq_true rfl, Nat.le_of_ble_eq_true rfl⟩, hts (.static yX5_quotient) (by decide +kernel), trivial⟩ ⟨g_blind, g_pre hK hG hA hN hZ⟩ rfl rfl hl.1 rfl (lv_room (Nat.le_of_ble_eq_true rfl)) dX4_read_33 ⟨Nat.zero_le _, Nat.zero_le _⟩) (fun r9 s9 H locs hp hG => ?_)
    obtain ⟨rfl, hs9⟩ := hp
    rw [hs9] at hG
    clear hs9
    refine r_nm (fun v5 ev5 => ?_)
    have hr6 := quF_s (y) (v4)
    rw [← ev5] at hr6
    have hr7 := quF_b (y) (v4) (by omega)
    rw [← ev5] at hr7
    refine va_mmin hx hb (hml.trans hl.1.symm) hown L_82 Lsmin Li Lcmin (Nat.le_of_ble_eq_true rfl) (Nat.le_of_ble_eq_true rfl) (by omega) (by omega) dX4_read_36 ?_
    refine r_asI (y := min (v2) (v5)) (iI_min (by omega)) ?_
    refine r_nm (fun v8 ev8 => ?_)
    refine lv_aload_n hx hb dX4_read_39 rfl (lv_at hl 1 rfl) ?_
    refine g_get hx hb hts hin4 hown hK hG (key := 33 + 7 * o) (by omega) (gC_t st ad cy ho) rfl 7 (by decide) L_31 (fun _ h9 => h9) rfl dX4_read_40 ?_
    have hr9 := gI_46 hI (o) (0)
    refine r_nm (fun v10 ev10 => ?_)
    rw [← ev10] at hr9
    refine r_imul hx hb dX4_read_43 ?_
    refine r_nm (fun v11 ev11 => ?_)
    exact g_iret hx hb hr hlocks hG (by
      refine ⟨?_, rfl⟩
      congr 1
      unfold readV
      rw [← hy]
      have hq := quF_s y (st 46 o 0)
      have hs6 := gI_46 hI o 0
      have he : quF y (st 46 o 0) = y / st 46 o 0 := by omega
      rw [← he]
      subst_vars
      rfl) dX4_read_44
  refine lv_aload_n hx hb dX4_read_0 rfl (lv_at hl 0 rfl) ?_
  refine g_get hx hb hts hin4 hown hK hG (key := 33 + 7 * o) (by omega) (gC_t st ad cy ho) rfl 9 (by decide) L_38 (fun _ h9 => h9) rfl dX4_read_1 ?_
  have hr12 := gI_48 hI (o) (0)
  refine r_nm (fun v13 ev13 => ?_)
  rw [← ev13] at hr12
  refine r_if_eq (tgt := 11) hx hb (by omega) dX4_read_4 (by decide) (fun c14 => ?_) (fun c14 => ?_)
  · skip
    refine lv_iconst (v := iI (0)) hx hb dX4_read_11 rfl ?_
    refine lv_iload_n hx hb dX4_read_12 rfl (lv_at hl 2 rfl) ?_
    refine lv_aload_n hx hb dX4_read_13 rfl (lv_at hl 0 rfl) ?_
    refine g_get hx hb hts hin4 hown hK hG (key := 33 + 7 * o) (by omega) (gC_t st ad cy ho) rfl 6 (by decide) L_28 (fun _ h9 => h9) rfl dX4_read_14 ?_
    refine lv_iload_n hx hb dX4_read_17 rfl (lv_at hl 1 rfl) ?_
    refine g_iald hx hb hK hG (39 + 7 * o) (kd := 39) (o := o) (gk_t (o := o) (j := 6) ho (by decide)) rfl (by omega) (cp := 45) (ln := 16) rfl rfl (by omega) dX4_read_18 ?_
    have hr15 := gI_45 hI (o) (d)
    refine r_nm (fun v16 ev16 => ?_)
    rw [← ev16] at hr15
    refine r_iadd hx hb dX4_read_19 ?_
    refine r_nm (fun v17 ev17 => ?_)
    refine va_mmax hx hb (hml.trans hl.1.symm) hown L_66 Lsmax Li Lcmax (Nat.le_of_ble_eq_true rfl) (Nat.le_of_ble_eq_true rfl) (by omega) (by omega) dX4_read_20 ?_
    refine r_asI (y := max (0) (v17)) (iI_max (by omega)) ?_
    refine r_nm (fun v18 ev18 => ?_)
    exact hlab23 (v18)  _ _ _ (by first | (rw [if_pos (by subst_vars; omega)]; omega) | (rw [if_neg (by subst_vars; omega)]; subst_vars; rfl)) (by have := gI_45 hI o d; omega) hG (lv_sub hl [0, 1, 2] rfl)
  · skip
    refine lv_iload_n hx hb dX4_read_7 rfl (lv_at hl 2 rfl) ?_
    refine lv_goto (tgt := 23) hx hb dX4_read_8 (by decide) ?_
    exact hlab23 (cur)  _ _ _ (by first | (rw [if_pos (by subst_vars; omega)]; omega) | (rw [if_neg (by subst_vars; omega)]; subst_vars; rfl)) (by have := gI_45 hI o d; omega) hG (lv_sub hl [0, 1, 2] rfl)
