set_option maxHeartbeats 400000 in
set_option maxRecDepth 100000 in
theorem mX5_answer (l : Launch) (D : va_G) (cy : Nat → ClassId) (ad : Nat → Nat) (n : Nat) (st : St) (sz fz : Nat) (wb : Int) (hn : 75 ≤ n) (hI : GI wb st) (hW : wb ≤ 2000000) (a : Int) (vec : Nat) (o : Int) (ha : -2147483648 ≤ a ∧ a < 2147483648) (ho : -2147483648 ≤ o ∧ o < 2147483648) (hlf : l.stackTraces = false) (hnl : (n : Int) = 75 + 3 * st 33 0 0) (hR : RY st) (hvec : vec < 2 ^ 64) : vx_Met l yX5_answer wsX5_answer ({ frames := 7, cells := 3, slots := 18, locals := 111 }) (va_Pc [.ref (ad 21), .int (iI (a)), .long (lN vec), .int (iI (o))] (gB D cy ad n st sz fz)) (va_Qi (fun (r : Int32) (st' : St) => kAns st a o = 0 ∧ (r = iI (ansU st a o vec 8) ∧ st' = st) ∧ GI wb st') (gP D cy ad n) (gA n ad sz)) (gX D cy ad n (fun (E : String) (st' : St) => xE [xI, xS] E (kAns st a o) ∧ st' = st) (gA n ad sz)) 3 18 (gA n ad sz) := by
  refine vx_ofW (cc := cX5_answer) (maxL := 6) (ret := (some .int)) (by decide) rfl ?_
  intro p e s m args below meth c s₁ B hml hnt hv
  obtain ⟨rfl, hsz, hP, hK, hD0, hN, hZ⟩ := hv
  have hx := B.exec
  have hb := B.bytes
  have hr := B.returns
  have hts := atoms_spec (ws := wsX5_answer) B.pre
  have hown : s.vm.findClass RX5 = some m.cls := findClass_of_methodNamed B.named
  have hlocks := B.notSynchronized
  subst hsz
  have hA : ∀ q : Nat, s.heap.size ≤ q → gA n ad s.heap.size q := fun q h => Or.inr h
  have hG : GH D cy ad n st (gA n ad s.heap.size) s.heap s.heap [] := ⟨hP, gw_A hD0, va_S.rf⟩
  have hl := lv_entry ([.ref (ad 21), .int (iI (a)), .long (lN vec), .int (iI (o))]) (n := 6) (Nat.le_of_ble_eq_true rfl)
  rw [lg_entry_eq]
  generalize (lg_sl ([.ref (ad 21), .int (iI (a)), .long (lN vec), .int (iI (o))]) ++ List.replicate (6 - (lg_sl ([.ref (ad 21), .int (iI (a)), .long (lN vec), .int (iI (o))])).length) Slot.unset).toArray = ls at hl ⊢
  have hl : lv_has ls 6 [(0, .ref (ad 21)), (1, .int (iI (a))), (2, .long (lN vec)), (4, .int (iI (o)))] := hl
  have hin5 : ∀ w ∈ u_ws RX5 TX5 6, w ∈ wsX5_answer := by decide +kernel
  have hin0 : ∀ w ∈ u_ws RX0 TX0 8, w ∈ wsX5_answer := by decide +kernel
  have L_12 := hts (.fieldLink RX5 12 "Crossbarry" "setting" "LCrossbarry$Setting;") (by decide +kernel)
  have L_73 := hts (.fieldLink RX5 73 "Crossbarry$Layer" "outputs" "I") (by decide +kernel)
  obtain ⟨⟨hR1, hR2, hR3, hR4⟩, hRl, hRw, hRr, hRc, hRt, hRo, hRk, hsc, hsi, hch, hun, hfr⟩ := id hR
  have h33 := gI_33 hI 0 0
  refine lv_aload_n hx hb dX5_answer_0 rfl (lv_at hl 0 rfl) ?_
  refine lv_iload_n hx hb dX5_answer_1 rfl (lv_at hl 1 rfl) ?_
  refine gx_gor hG hA (vx_runV (As := [.int (iI (a))]) (rest := []) ⟨hx, hb, hml, hown, hts⟩ (mX5_layerAt l D cy ad n st _ fz wb hn hI (by omega) (a) hlf hnl (by omega)) (cwV 1 hts gX5_answer_X5_layerAt rfl rfl rfl (by decide +kernel) ⟨Nat.le_of_ble_eq_true rfl, Nat.le_of_ble_eq_true rfl⟩) ⟨g_blind, va_recv hK hG.1 (q0 := 21 - 19) (ci := 5) rfl ((gw_at (k := 21) (by omega)).trans (by rw [gC_21 st ad cy])), g_pre hK hG hA hN hZ⟩ rfl rfl hl.1 rfl (lv_room (Nat.le_of_ble_eq_true rfl)) dX5_answer_2 ⟨Nat.le_of_ble_eq_true rfl, Nat.le_of_ble_eq_true rfl⟩) (fun E9 st9 H locs ce9 q9 hp hG hce hcv hcl => ?_) (fun s9 H locs hp hG => ?_)
  · skip
    obtain ⟨⟨rfl, hcx⟩, hs9⟩ := hp
    rw [hs9] at hG
    clear hs9
    exact g_out hnt hlocks hG hce hcv hcl (by
      refine ⟨?_, rfl⟩
      have hks := kAns_s st a o
      first
        | exact ⟨0, rfl, by omega⟩
        | exact ⟨1, rfl, by omega⟩
        | exact ⟨2, rfl, by omega⟩) (Nat.le_of_ble_eq_true rfl) (Nat.le_of_ble_eq_true rfl)
  obtain ⟨hcr, hs9⟩ := hp
  rw [hs9] at hG
  clear hs9
  obtain ⟨q, hq⟩ : ∃ z9 : Nat, z9 = ((a)).toNat := ⟨_, rfl⟩
  rw [← hq]
  have huq : ((q : Nat) : Int) = (a) := by omega
  have hlq := hRl q (by omega)
  rw [huq] at hlq
  have h60 := gI_60 hI q 0
  have h61 := gI_61 hI q 0
  have hr63 := fun k => gI_63 hI q k
  have h20 := gI_20 hI 0 a
  have hm6 := gI_14 hI 0 0
  refine lv_astore (lv' := [(5, .ref (ad (75 + 3 * q))), (0, .ref (ad 21)), (1, .int (iI (a))), (2, .long (lN vec)), (4, .int (iI (o)))]) hx hb dX5_answer_5 hl (by decide) rfl (fun ls hl => ?_)
  refine lv_iload hx hb dX5_answer_7 (lv_at hl 4 rfl) ?_
  refine lv_aload hx hb dX5_answer_9 (lv_at hl 0 rfl) ?_
  refine g_get hx hb hts hin0 hown hK hG (key := 75 + 3 * q) (by omega) (gC_l st ad cy q) rfl 2 (by decide) L_73 (fun _ h9 => h9) rfl dX5_answer_11 ?_
  have hr1 := gI_61 hI (q) (0)
  refine r_nm (fun v2 ev2 => ?_)
  rw [← ev2] at hr1
  refine gx_gov hG hA (vx_runS (As := [.int (iI (o)), .int (iI (v2))]) (rest := []) ⟨hx, hb, hml, hown, hts⟩ (mX5_checkIndex l D cy ad n st _ fz wb hn hI (by omega) (o) (v2) hlf (by omega) (by omega)) (va_cwS 2 hts gX5_answer_X5_checkIndex rfl rfl rfl (by decide +kernel) ⟨Nat.le_of_ble_eq_true rfl, Nat.le_of_ble_eq_true rfl⟩) ⟨g_blind, g_pre hK hG hA hN hZ⟩ rfl rfl hl.1 rfl (lv_room (Nat.le_of_ble_eq_true rfl)) dX5_answer_14 ⟨Nat.le_of_ble_eq_true rfl, Nat.le_of_ble_eq_true rfl⟩) (fun E9 st9 H locs ce9 q9 hp hG hce hcv hcl => ?_) (fun s9 H locs hp hG => ?_)
  · skip
    obtain ⟨⟨rfl, hcx⟩, hs9⟩ := hp
    rw [hs9] at hG
    clear hs9
    exact g_out hnt hlocks hG hce hcv hcl (by
      refine ⟨?_, rfl⟩
      have hks := kAns_s st a o
      first
        | exact ⟨0, rfl, by omega⟩
        | exact ⟨1, rfl, by omega⟩
        | exact ⟨2, rfl, by omega⟩) (Nat.le_of_ble_eq_true rfl) (Nat.le_of_ble_eq_true rfl)
  obtain ⟨hcr, hs9⟩ := hp
  rw [hs9] at hG
  clear hs9
  refine lv_aload hx hb dX5_answer_17 (lv_at hl 0 rfl) ?_
  refine lv_aload hx hb dX5_answer_19 (lv_at hl 0 rfl) ?_
  refine gx_gor hG hA (vx_runS (As := [.ref (ad (75 + 3 * q))]) (rest := [.ref (ad (75 + 3 * q))]) ⟨hx, hb, hml, hown, hts⟩ (mX5_groundOf l D cy ad n st _ fz wb hn hI (by omega) (q) hlf (by omega)) (va_cwS 1 hts gX5_answer_X5_groundOf rfl rfl rfl (by decide +kernel) ⟨Nat.le_of_ble_eq_true rfl, Nat.le_of_ble_eq_true rfl⟩) ⟨g_blind, g_pre hK hG hA hN hZ⟩ rfl rfl hl.1 rfl (lv_room (Nat.le_of_ble_eq_true rfl)) dX5_answer_21 ⟨Nat.le_of_ble_eq_true rfl, Nat.le_of_ble_eq_true rfl⟩) (fun E9 st9 H locs ce9 q9 hp hG hce hcv hcl => ?_) (fun s9 H locs hp hG => ?_)
  · skip
    obtain ⟨⟨rfl, hcx⟩, hs9⟩ := hp
    rw [hs9] at hG
    clear hs9
    have hg66 := gI_66 (st := st) (by assumption) (q) 0
    exact g_out hnt hlocks hG hce hcv hcl (by
      refine ⟨?_, rfl⟩
      have hks := kAns_s st a o
      first
        | exact ⟨0, rfl, by omega⟩
        | exact ⟨1, rfl, by omega⟩
        | exact ⟨2, rfl, by omega⟩) (Nat.le_of_ble_eq_true rfl) (Nat.le_of_ble_eq_true rfl)
  obtain ⟨hcr, hs9⟩ := hp
  rw [hs9] at hG
  clear hs9
  obtain ⟨t, ht⟩ : ∃ z9 : Nat, z9 = (st 66 (q) 0).toNat := ⟨_, rfl⟩
  rw [← ht]
  have hut : ((t : Nat) : Int) = st 66 (q) 0 := by omega
  have hrt := gI_66 (st := st) (by assumption) (q) 0
  have hbt : t < 6 := by omega
  refine lv_lload_n hx hb dX5_answer_24 rfl (lv_at hl 3 rfl) ?_
  refine lv_iload hx hb dX5_answer_25 (lv_at hl 4 rfl) ?_
  refine lv_aload_n hx hb dX5_answer_27 rfl (lv_at hl 1 rfl) ?_
  refine g_get hx hb hts hin5 hown hK hG (key := 21) (by omega) (gC_21 st ad cy) rfl 0 (by decide) L_12 (fun _ h9 => h9) rfl dX5_answer_28 ?_
  refine g_goi hG hA (va_runV (As := [.ref (ad (33 + 7 * t)), .long (lN vec), .int (iI (o)), .ref (ad 22)]) (rest := []) ⟨hx, hb, hml, hown, hts⟩ (mX0_answerOn l D cy ad n st _ fz wb hn hI (by omega) (q) (t) vec (o) (by omega) (by omega) (by omega) (by omega) hsc) (cwV 4 hts gX5_answer_X0_answerOn rfl rfl rfl (by decide +kernel) ⟨Nat.le_of_ble_eq_true rfl, Nat.le_of_ble_eq_true rfl⟩) ⟨g_blind, va_recv hK hG.1 (q0 := (75 + 3 * q) - 19) (ci := 0) rfl ((gw_at (k := 75 + 3 * q) (by omega)).trans (by rw [gC_l st ad cy q])), g_pre hK hG hA hN hZ⟩ rfl rfl hl.1 rfl (lv_room (Nat.le_of_ble_eq_true rfl)) dX5_answer_31 ⟨Nat.le_of_ble_eq_true rfl, Nat.le_of_ble_eq_true rfl⟩) (fun r9 s9 H locs hp hG => ?_)
  obtain ⟨rfl, hs9⟩ := hp
  rw [hs9] at hG
  clear hs9
  refine r_nm (fun v3 ev3 => ?_)
  refine W.widen (k := 3) (n := 18) (by omega) (by omega) ?_
  refine vx_ret ?_
  exact g_iret hx hb hr hlocks hG (by
    have hks := kAns_s st a o
    refine ⟨by omega, ?_, hI⟩
    refine ⟨?_, rfl⟩
    congr 1
    rw [← huq, ← RY_ans hR (q := q) (t := t) (by omega) hbt (by omega) (by rw [huq]; omega) (by omega) hvec hr63 (by omega)]
    omega) dX5_answer_34
set_option maxHeartbeats 400000 in
set_option maxRecDepth 100000 in
theorem mX5_ideal (l : Launch) (D : va_G) (cy : Nat → ClassId) (ad : Nat → Nat) (n : Nat) (st : St) (sz fz : Nat) (wb : Int) (hn : 75 ≤ n) (hI : GI wb st) (hW : wb ≤ 2000000) (a : Int) (vec : Nat) (o : Int) (ha : -2147483648 ≤ a ∧ a < 2147483648) (ho : -2147483648 ≤ o ∧ o < 2147483648) (hlf : l.stackTraces = false) (hnl : (n : Int) = 75 + 3 * st 33 0 0) (hR : RY st) (hvec : vec < 2 ^ 64) : vx_Met l yX5_ideal wsX5_ideal ({ frames := 7, cells := 2, slots := 12, locals := 111 }) (va_Pc [.ref (ad 21), .int (iI (a)), .long (lN vec), .int (iI (o))] (gB D cy ad n st sz fz)) (va_Qi (fun (r : Int32) (st' : St) => kIdl st a o = 0 ∧ (r = iI (idU st a o vec (st 15 0 a).toNat) ∧ st' = st) ∧ GI wb st') (gP D cy ad n) (gA n ad sz)) (gX D cy ad n (fun (E : String) (st' : St) => xE [xI] E (kIdl st a o) ∧ st' = st) (gA n ad sz)) 2 12 (gA n ad sz) := by
  refine vx_ofW (cc := cX5_ideal) (maxL := 6) (ret := (some .int)) (by decide) rfl ?_
  intro p e s m args below meth c s₁ B hml hnt hv
  obtain ⟨rfl, hsz, hP, hK, hD0, hN, hZ⟩ := hv
  have hx := B.exec
  have hb := B.bytes
  have hr := B.returns
  have hts := atoms_spec (ws := wsX5_ideal) B.pre
  have hown : s.vm.findClass RX5 = some m.cls := findClass_of_methodNamed B.named
  have hlocks := B.notSynchronized
  subst hsz
  have hA : ∀ q : Nat, s.heap.size ≤ q → gA n ad s.heap.size q := fun q h => Or.inr h
  have hG : GH D cy ad n st (gA n ad s.heap.size) s.heap s.heap [] := ⟨hP, gw_A hD0, va_S.rf⟩
  have hl := lv_entry ([.ref (ad 21), .int (iI (a)), .long (lN vec), .int (iI (o))]) (n := 6) (Nat.le_of_ble_eq_true rfl)
  rw [lg_entry_eq]
  generalize (lg_sl ([.ref (ad 21), .int (iI (a)), .long (lN vec), .int (iI (o))]) ++ List.replicate (6 - (lg_sl ([.ref (ad 21), .int (iI (a)), .long (lN vec), .int (iI (o))])).length) Slot.unset).toArray = ls at hl ⊢
  have hl : lv_has ls 6 [(0, .ref (ad 21)), (1, .int (iI (a))), (2, .long (lN vec)), (4, .int (iI (o)))] := hl
  have hin5 : ∀ w ∈ u_ws RX5 TX5 6, w ∈ wsX5_ideal := by decide +kernel
  have hin0 : ∀ w ∈ u_ws RX0 TX0 8, w ∈ wsX5_ideal := by decide +kernel
  have L_73 := hts (.fieldLink RX5 73 "Crossbarry$Layer" "outputs" "I") (by decide +kernel)
  obtain ⟨⟨hR1, hR2, hR3, hR4⟩, hRl, hRw, hRr, hRc, hRt, hRo, hRk, hsc, hsi, hch, hun, hfr⟩ := id hR
  have h33 := gI_33 hI 0 0
  refine lv_aload_n hx hb dX5_ideal_0 rfl (lv_at hl 0 rfl) ?_
  refine lv_iload_n hx hb dX5_ideal_1 rfl (lv_at hl 1 rfl) ?_
  refine gx_gor hG hA (vx_runV (As := [.int (iI (a))]) (rest := []) ⟨hx, hb, hml, hown, hts⟩ (mX5_layerAt l D cy ad n st _ fz wb hn hI (by omega) (a) hlf hnl (by omega)) (cwV 1 hts gX5_ideal_X5_layerAt rfl rfl rfl (by decide +kernel) ⟨Nat.le_of_ble_eq_true rfl, Nat.le_of_ble_eq_true rfl⟩) ⟨g_blind, va_recv hK hG.1 (q0 := 21 - 19) (ci := 5) rfl ((gw_at (k := 21) (by omega)).trans (by rw [gC_21 st ad cy])), g_pre hK hG hA hN hZ⟩ rfl rfl hl.1 rfl (lv_room (Nat.le_of_ble_eq_true rfl)) dX5_ideal_2 ⟨Nat.le_of_ble_eq_true rfl, Nat.le_of_ble_eq_true rfl⟩) (fun E9 st9 H locs ce9 q9 hp hG hce hcv hcl => ?_) (fun s9 H locs hp hG => ?_)
  · skip
    obtain ⟨⟨rfl, hcx⟩, hs9⟩ := hp
    rw [hs9] at hG
    clear hs9
    exact g_out hnt hlocks hG hce hcv hcl (by
      refine ⟨?_, rfl⟩
      have hks := kIdl_s st a o
      first
        | exact ⟨0, rfl, by omega⟩
        | exact ⟨1, rfl, by omega⟩
        | exact ⟨2, rfl, by omega⟩) (Nat.le_of_ble_eq_true rfl) (Nat.le_of_ble_eq_true rfl)
  obtain ⟨hcr, hs9⟩ := hp
  rw [hs9] at hG
  clear hs9
  obtain ⟨q, hq⟩ : ∃ z9 : Nat, z9 = ((a)).toNat := ⟨_, rfl⟩
  rw [← hq]
  have huq : ((q : Nat) : Int) = (a) := by omega
  have hlq := hRl q (by omega)
  rw [huq] at hlq
  have h60 := gI_60 hI q 0
  have h61 := gI_61 hI q 0
  have hr63 := fun k => gI_63 hI q k
  have h20 := gI_20 hI 0 a
  have hm6 := gI_14 hI 0 0
  refine lv_astore (lv' := [(5, .ref (ad (75 + 3 * q))), (0, .ref (ad 21)), (1, .int (iI (a))), (2, .long (lN vec)), (4, .int (iI (o)))]) hx hb dX5_ideal_5 hl (by decide) rfl (fun ls hl => ?_)
  refine lv_iload hx hb dX5_ideal_7 (lv_at hl 4 rfl) ?_
  refine lv_aload hx hb dX5_ideal_9 (lv_at hl 0 rfl) ?_
  refine g_get hx hb hts hin0 hown hK hG (key := 75 + 3 * q) (by omega) (gC_l st ad cy q) rfl 2 (by decide) L_73 (fun _ h9 => h9) rfl dX5_ideal_11 ?_
  have hr1 := gI_61 hI (q) (0)
  refine r_nm (fun v2 ev2 => ?_)
  rw [← ev2] at hr1
  refine gx_gov hG hA (vx_runS (As := [.int (iI (o)), .int (iI (v2))]) (rest := []) ⟨hx, hb, hml, hown, hts⟩ (mX5_checkIndex l D cy ad n st _ fz wb hn hI (by omega) (o) (v2) hlf (by omega) (by omega)) (va_cwS 2 hts gX5_ideal_X5_checkIndex rfl rfl rfl (by decide +kernel) ⟨Nat.le_of_ble_eq_true rfl, Nat.le_of_ble_eq_true rfl⟩) ⟨g_blind, g_pre hK hG hA hN hZ⟩ rfl rfl hl.1 rfl (lv_room (Nat.le_of_ble_eq_true rfl)) dX5_ideal_14 ⟨Nat.le_of_ble_eq_true rfl, Nat.le_of_ble_eq_true rfl⟩) (fun E9 st9 H locs ce9 q9 hp hG hce hcv hcl => ?_) (fun s9 H locs hp hG => ?_)
  · skip
    obtain ⟨⟨rfl, hcx⟩, hs9⟩ := hp
    rw [hs9] at hG
    clear hs9
    exact g_out hnt hlocks hG hce hcv hcl (by
      refine ⟨?_, rfl⟩
      have hks := kIdl_s st a o
      first
        | exact ⟨0, rfl, by omega⟩
        | exact ⟨1, rfl, by omega⟩
        | exact ⟨2, rfl, by omega⟩) (Nat.le_of_ble_eq_true rfl) (Nat.le_of_ble_eq_true rfl)
  obtain ⟨hcr, hs9⟩ := hp
  rw [hs9] at hG
  clear hs9
  refine lv_aload hx hb dX5_ideal_17 (lv_at hl 0 rfl) ?_
  refine lv_lload_n hx hb dX5_ideal_19 rfl (lv_at hl 3 rfl) ?_
  refine lv_iload hx hb dX5_ideal_20 (lv_at hl 4 rfl) ?_
  refine g_goi hG hA (va_runV (As := [.long (lN vec), .int (iI (o))]) (rest := []) ⟨hx, hb, hml, hown, hts⟩ (mX0_idealAnswer l D cy ad n st _ fz wb hn hI (by omega) (q) vec (o) (by omega) (by omega) (by omega)) (cwV 2 hts gX5_ideal_X0_idealAnswer rfl rfl rfl (by decide +kernel) ⟨Nat.le_of_ble_eq_true rfl, Nat.le_of_ble_eq_true rfl⟩) ⟨g_blind, va_recv hK hG.1 (q0 := (75 + 3 * q) - 19) (ci := 0) rfl ((gw_at (k := 75 + 3 * q) (by omega)).trans (by rw [gC_l st ad cy q])), g_pre hK hG hA hN hZ⟩ rfl rfl hl.1 rfl (lv_room (Nat.le_of_ble_eq_true rfl)) dX5_ideal_22 ⟨Nat.le_of_ble_eq_true rfl, Nat.le_of_ble_eq_true rfl⟩) (fun r9 s9 H locs hp hG => ?_)
  obtain ⟨rfl, hs9⟩ := hp
  rw [hs9] at hG
  clear hs9
  refine r_nm (fun v3 ev3 => ?_)
  refine W.widen (k := 2) (n := 12) (by omega) (by omega) ?_
  refine vx_ret ?_
  exact g_iret hx hb hr hlocks hG (by
    have hks := kIdl_s st a o
    refine ⟨by omega, ?_, hI⟩
    refine ⟨?_, rfl⟩
    congr 1
    rw [← huq, ← RY_ideal hR (q := q) (by omega) (by omega) vec (by rw [huq]; omega), huq, ← hlq.1]
    omega) dX5_ideal_25
set_option maxHeartbeats 400000 in
set_option maxRecDepth 100000 in
theorem mX5_bound (l : Launch) (D : va_G) (cy : Nat → ClassId) (ad : Nat → Nat) (n : Nat) (st : St) (sz fz : Nat) (wb : Int) (hn : 75 ≤ n) (hI : GI wb st) (hW : wb ≤ 2000000) (a : Int) (o : Int) (u : Int) (ha : -2147483648 ≤ a ∧ a < 2147483648) (ho : -2147483648 ≤ o ∧ o < 2147483648) (hu : -2147483648 ≤ u ∧ u < 2147483648) (hlf : l.stackTraces = false) (hnl : (n : Int) = 75 + 3 * st 33 0 0) (hR : RY st) (huz : u = 0 ∨ u = 1) : vx_Met l yX5_bound wsX5_bound ({ frames := 7, cells := 3, slots := 18, locals := 111 }) (va_Pc [.ref (ad 21), .int (iI (a)), .int (iI (o)), .int (iI (u))] (gB D cy ad n st sz fz)) (va_Qi (fun (r : Int32) (st' : St) => kAns st a o = 0 ∧ (r = iI (255 * (errF st a o 0 u + 16 * errF st a o 1 u - (errF st a o 2 (1 - u) + 16 * errF st a o 3 (1 - u)))) ∧ st' = st) ∧ GI wb st') (gP D cy ad n) (gA n ad sz)) (gX D cy ad n (fun (E : String) (st' : St) => xE [xI, xS] E (kAns st a o) ∧ st' = st) (gA n ad sz)) 3 18 (gA n ad sz) := by
  refine vx_ofW (cc := cX5_bound) (maxL := 5) (ret := (some .int)) (by decide) rfl ?_
  intro p e s m args below meth c s₁ B hml hnt hv
  obtain ⟨rfl, hsz, hP, hK, hD0, hN, hZ⟩ := hv
  have hx := B.exec
  have hb := B.bytes
  have hr := B.returns
  have hts := atoms_spec (ws := wsX5_bound) B.pre
  have hown : s.vm.findClass RX5 = some m.cls := findClass_of_methodNamed B.named
  have hlocks := B.notSynchronized
  subst hsz
  have hA : ∀ q : Nat, s.heap.size ≤ q → gA n ad s.heap.size q := fun q h => Or.inr h
  have hG : GH D cy ad n st (gA n ad s.heap.size) s.heap s.heap [] := ⟨hP, gw_A hD0, va_S.rf⟩
  have hl := lv_entry ([.ref (ad 21), .int (iI (a)), .int (iI (o)), .int (iI (u))]) (n := 5) (Nat.le_of_ble_eq_true rfl)
  rw [lg_entry_eq]
  generalize (lg_sl ([.ref (ad 21), .int (iI (a)), .int (iI (o)), .int (iI (u))]) ++ List.replicate (5 - (lg_sl ([.ref (ad 21), .int (iI (a)), .int (iI (o)), .int (iI (u))])).length) Slot.unset).toArray = ls at hl ⊢
  have hl : lv_has ls 5 [(0, .ref (ad 21)), (1, .int (iI (a))), (2, .int (iI (o))), (3, .int (iI (u)))] := hl
  have hin5 : ∀ w ∈ u_ws RX5 TX5 6, w ∈ wsX5_bound := by decide +kernel
  have hin0 : ∀ w ∈ u_ws RX0 TX0 8, w ∈ wsX5_bound := by decide +kernel
  have L_73 := hts (.fieldLink RX5 73 "Crossbarry$Layer" "outputs" "I") (by decide +kernel)
  obtain ⟨⟨hR1, hR2, hR3, hR4⟩, hRl, hRw, hRr, hRc, hRt, hRo, hRk, hsc, hsi, hch, hun, hfr⟩ := id hR
  have h33 := gI_33 hI 0 0
  refine lv_aload_n hx hb dX5_bound_0 rfl (lv_at hl 0 rfl) ?_
  refine lv_iload_n hx hb dX5_bound_1 rfl (lv_at hl 1 rfl) ?_
  refine gx_gor hG hA (vx_runV (As := [.int (iI (a))]) (rest := []) ⟨hx, hb, hml, hown, hts⟩ (mX5_layerAt l D cy ad n st _ fz wb hn hI (by omega) (a) hlf hnl (by omega)) (cwV 1 hts gX5_bound_X5_layerAt rfl rfl rfl (by decide +kernel) ⟨Nat.le_of_ble_eq_true rfl, Nat.le_of_ble_eq_true rfl⟩) ⟨g_blind, va_recv hK hG.1 (q0 := 21 - 19) (ci := 5) rfl ((gw_at (k := 21) (by omega)).trans (by rw [gC_21 st ad cy])), g_pre hK hG hA hN hZ⟩ rfl rfl hl.1 rfl (lv_room (Nat.le_of_ble_eq_true rfl)) dX5_bound_2 ⟨Nat.le_of_ble_eq_true rfl, Nat.le_of_ble_eq_true rfl⟩) (fun E9 st9 H locs ce9 q9 hp hG hce hcv hcl => ?_) (fun s9 H locs hp hG => ?_)
  · skip
    obtain ⟨⟨rfl, hcx⟩, hs9⟩ := hp
    rw [hs9] at hG
    clear hs9
    exact g_out hnt hlocks hG hce hcv hcl (by
      refine ⟨?_, rfl⟩
      have hks := kAns_s st a o
      first
        | exact ⟨0, rfl, by omega⟩
        | exact ⟨1, rfl, by omega⟩
        | exact ⟨2, rfl, by omega⟩) (Nat.le_of_ble_eq_true rfl) (Nat.le_of_ble_eq_true rfl)
  obtain ⟨hcr, hs9⟩ := hp
  rw [hs9] at hG
  clear hs9
  obtain ⟨q, hq⟩ : ∃ z9 : Nat, z9 = ((a)).toNat := ⟨_, rfl⟩
  rw [← hq]
  have huq : ((q : Nat) : Int) = (a) := by omega
  have hlq := hRl q (by omega)
  rw [huq] at hlq
  have h60 := gI_60 hI q 0
  have h61 := gI_61 hI q 0
  have hr63 := fun k => gI_63 hI q k
  have h20 := gI_20 hI 0 a
  have hm6 := gI_14 hI 0 0
  refine lv_astore (lv' := [(4, .ref (ad (75 + 3 * q))), (0, .ref (ad 21)), (1, .int (iI (a))), (2, .int (iI (o))), (3, .int (iI (u)))]) hx hb dX5_bound_5 hl (by decide) rfl (fun ls hl => ?_)
  refine lv_iload_n hx hb dX5_bound_7 rfl (lv_at hl 3 rfl) ?_
  refine lv_aload hx hb dX5_bound_8 (lv_at hl 0 rfl) ?_
  refine g_get hx hb hts hin0 hown hK hG (key := 75 + 3 * q) (by omega) (gC_l st ad cy q) rfl 2 (by decide) L_73 (fun _ h9 => h9) rfl dX5_bound_10 ?_
  have hr1 := gI_61 hI (q) (0)
  refine r_nm (fun v2 ev2 => ?_)
  rw [← ev2] at hr1
  refine gx_gov hG hA (vx_runS (As := [.int (iI (o)), .int (iI (v2))]) (rest := []) ⟨hx, hb, hml, hown, hts⟩ (mX5_checkIndex l D cy ad n st _ fz wb hn hI (by omega) (o) (v2) hlf (by omega) (by omega)) (va_cwS 2 hts gX5_bound_X5_checkIndex rfl rfl rfl (by decide +kernel) ⟨Nat.le_of_ble_eq_true rfl, Nat.le_of_ble_eq_true rfl⟩) ⟨g_blind, g_pre hK hG hA hN hZ⟩ rfl rfl hl.1 rfl (lv_room (Nat.le_of_ble_eq_true rfl)) dX5_bound_13 ⟨Nat.le_of_ble_eq_true rfl, Nat.le_of_ble_eq_true rfl⟩) (fun E9 st9 H locs ce9 q9 hp hG hce hcv hcl => ?_) (fun s9 H locs hp hG => ?_)
  · skip
    obtain ⟨⟨rfl, hcx⟩, hs9⟩ := hp
    rw [hs9] at hG
    clear hs9
    exact g_out hnt hlocks hG hce hcv hcl (by
      refine ⟨?_, rfl⟩
      have hks := kAns_s st a o
      first
        | exact ⟨0, rfl, by omega⟩
        | exact ⟨1, rfl, by omega⟩
        | exact ⟨2, rfl, by omega⟩) (Nat.le_of_ble_eq_true rfl) (Nat.le_of_ble_eq_true rfl)
  obtain ⟨hcr, hs9⟩ := hp
  rw [hs9] at hG
  clear hs9
  refine lv_aload hx hb dX5_bound_16 (lv_at hl 0 rfl) ?_
  refine lv_aload hx hb dX5_bound_18 (lv_at hl 0 rfl) ?_
  refine gx_gor hG hA (vx_runS (As := [.ref (ad (75 + 3 * q))]) (rest := [.ref (ad (75 + 3 * q))]) ⟨hx, hb, hml, hown, hts⟩ (mX5_groundOf l D cy ad n st _ fz wb hn hI (by omega) (q) hlf (by omega)) (va_cwS 1 hts gX5_bound_X5_groundOf rfl rfl rfl (by decide +kernel) ⟨Nat.le_of_ble_eq_true rfl, Nat.le_of_ble_eq_true rfl⟩) ⟨g_blind, g_pre hK hG hA hN hZ⟩ rfl rfl hl.1 rfl (lv_room (Nat.le_of_ble_eq_true rfl)) dX5_bound_20 ⟨Nat.le_of_ble_eq_true rfl, Nat.le_of_ble_eq_true rfl⟩) (fun E9 st9 H locs ce9 q9 hp hG hce hcv hcl => ?_) (fun s9 H locs hp hG => ?_)
  · skip
    obtain ⟨⟨rfl, hcx⟩, hs9⟩ := hp
    rw [hs9] at hG
    clear hs9
    have hg66 := gI_66 (st := st) (by assumption) (q) 0
    exact g_out hnt hlocks hG hce hcv hcl (by
      refine ⟨?_, rfl⟩
      have hks := kAns_s st a o
      first
        | exact ⟨0, rfl, by omega⟩
        | exact ⟨1, rfl, by omega⟩
        | exact ⟨2, rfl, by omega⟩) (Nat.le_of_ble_eq_true rfl) (Nat.le_of_ble_eq_true rfl)
  obtain ⟨hcr, hs9⟩ := hp
  rw [hs9] at hG
  clear hs9
  obtain ⟨t, ht⟩ : ∃ z9 : Nat, z9 = (st 66 (q) 0).toNat := ⟨_, rfl⟩
  rw [← ht]
  have hut : ((t : Nat) : Int) = st 66 (q) 0 := by omega
  have hrt := gI_66 (st := st) (by assumption) (q) 0
  have hbt : t < 6 := by omega
  refine lv_iload_n hx hb dX5_bound_23 rfl (lv_at hl 3 rfl) ?_
  refine lv_iload_n hx hb dX5_bound_24 rfl (lv_at hl 4 rfl) ?_
  refine g_goi hG hA (va_runV (As := [.ref (ad (33 + 7 * t)), .int (iI (o)), .int (iI (u))]) (rest := []) ⟨hx, hb, hml, hown, hts⟩ (mX0_boundOn l D cy ad n st _ fz wb hn hI (by omega) (q) (t) (o) (u) (by omega) (by omega) (by omega) (by omega)) (cwV 3 hts gX5_bound_X0_boundOn rfl rfl rfl (by decide +kernel) ⟨Nat.le_of_ble_eq_true rfl, Nat.le_of_ble_eq_true rfl⟩) ⟨g_blind, va_recv hK hG.1 (q0 := (75 + 3 * q) - 19) (ci := 0) rfl ((gw_at (k := 75 + 3 * q) (by omega)).trans (by rw [gC_l st ad cy q])), g_pre hK hG hA hN hZ⟩ rfl rfl hl.1 rfl (lv_room (Nat.le_of_ble_eq_true rfl)) dX5_bound_25 ⟨Nat.le_of_ble_eq_true rfl, Nat.le_of_ble_eq_true rfl⟩) (fun r9 s9 H locs hp hG => ?_)
  obtain ⟨rfl, hs9⟩ := hp
  rw [hs9] at hG
  clear hs9
  refine r_nm (fun v3 ev3 => ?_)
  refine W.widen (k := 3) (n := 18) (by omega) (by omega) ?_
  refine vx_ret ?_
  exact g_iret hx hb hr hlocks hG (by
    have hks := kAns_s st a o
    refine ⟨by omega, ?_, hI⟩
    refine ⟨?_, rfl⟩
    congr 1
    rw [← huq, ← RY_bound hR (q := q) (t := t) (by omega) hbt (by rw [huq]; omega) (by omega) huz (by omega)]
    omega) dX5_bound_28
set_option maxHeartbeats 400000 in
set_option maxRecDepth 100000 in
theorem mX5_isTrue (l : Launch) (D : va_G) (cy : Nat → ClassId) (ad : Nat → Nat) (n : Nat) (st : St) (sz fz : Nat) (wb : Int) (hn : 75 ≤ n) (hI : GI wb st) (hW : wb ≤ 2000000) (a : Int) (ha : -2147483648 ≤ a ∧ a < 2147483648) (hlf : l.stackTraces = false) (hnl : (n : Int) = 75 + 3 * st 33 0 0) (hR : RY st) : vx_Met l yX5_isTrue wsX5_isTrue ({ frames := 7, cells := 1, slots := 6, locals := 111 }) (va_Pc [.ref (ad 21), .int (iI (a))] (gB D cy ad n st sz fz)) (va_Qi (fun (r : Int32) (st' : St) => kLay st a = 0 ∧ (r = iI (if st 20 0 a = -1 then 0 else trU st a (16 * (st 15 0 a).toNat)) ∧ st' = st) ∧ GI wb st') (gP D cy ad n) (gA n ad sz)) (gX D cy ad n (fun (E : String) (st' : St) => xE [xI] E (kLay st a) ∧ st' = st) (gA n ad sz)) 1 6 (gA n ad sz) := by
  refine vx_ofW (cc := cX5_isTrue) (maxL := 3) (ret := (some .boolean)) (by decide) rfl ?_
  intro p e s m args below meth c s₁ B hml hnt hv
  obtain ⟨rfl, hsz, hP, hK, hD0, hN, hZ⟩ := hv
  have hx := B.exec
  have hb := B.bytes
  have hr := B.returns
  have hts := atoms_spec (ws := wsX5_isTrue) B.pre
  have hown : s.vm.findClass RX5 = some m.cls := findClass_of_methodNamed B.named
  have hlocks := B.notSynchronized
  subst hsz
  have hA : ∀ q : Nat, s.heap.size ≤ q → gA n ad s.heap.size q := fun q h => Or.inr h
  have hG : GH D cy ad n st (gA n ad s.heap.size) s.heap s.heap [] := ⟨hP, gw_A hD0, va_S.rf⟩
  have hl := lv_entry ([.ref (ad 21), .int (iI (a))]) (n := 3) (Nat.le_of_ble_eq_true rfl)
  rw [lg_entry_eq]
  generalize (lg_sl ([.ref (ad 21), .int (iI (a))]) ++ List.replicate (3 - (lg_sl ([.ref (ad 21), .int (iI (a))])).length) Slot.unset).toArray = ls at hl ⊢
  have hl : lv_has ls 3 [(0, .ref (ad 21)), (1, .int (iI (a)))] := hl
  have hin5 : ∀ w ∈ u_ws RX5 TX5 6, w ∈ wsX5_isTrue := by decide +kernel
  have hin0 : ∀ w ∈ u_ws RX0 TX0 8, w ∈ wsX5_isTrue := by decide +kernel
  have L_106 := hts (.fieldLink RX5 106 "Crossbarry$Layer" "ground" "LCrossbarry$Tile;") (by decide +kernel)
  have L_12 := hts (.fieldLink RX5 12 "Crossbarry" "setting" "LCrossbarry$Setting;") (by decide +kernel)
  obtain ⟨⟨hR1, hR2, hR3, hR4⟩, hRl, hRw, hRr, hRc, hRt, hRo, hRk, hsc, hsi, hch, hun, hfr⟩ := id hR
  have h33 := gI_33 hI 0 0
  refine lv_aload_n hx hb dX5_isTrue_0 rfl (lv_at hl 0 rfl) ?_
  refine lv_iload_n hx hb dX5_isTrue_1 rfl (lv_at hl 1 rfl) ?_
  refine gx_gor hG hA (vx_runV (As := [.int (iI (a))]) (rest := []) ⟨hx, hb, hml, hown, hts⟩ (mX5_layerAt l D cy ad n st _ fz wb hn hI (by omega) (a) hlf hnl (by omega)) (cwV 1 hts gX5_isTrue_X5_layerAt rfl rfl rfl (by decide +kernel) ⟨Nat.le_of_ble_eq_true rfl, Nat.le_of_ble_eq_true rfl⟩) ⟨g_blind, va_recv hK hG.1 (q0 := 21 - 19) (ci := 5) rfl ((gw_at (k := 21) (by omega)).trans (by rw [gC_21 st ad cy])), g_pre hK hG hA hN hZ⟩ rfl rfl hl.1 rfl (lv_room (Nat.le_of_ble_eq_true rfl)) dX5_isTrue_2 ⟨Nat.le_of_ble_eq_true rfl, Nat.le_of_ble_eq_true rfl⟩) (fun E9 st9 H locs ce9 q9 hp hG hce hcv hcl => ?_) (fun s9 H locs hp hG => ?_)
  · skip
    obtain ⟨⟨rfl, hcx⟩, hs9⟩ := hp
    rw [hs9] at hG
    clear hs9
    exact g_out hnt hlocks hG hce hcv hcl (by
      refine ⟨?_, rfl⟩
      have hks := kLay_s st a
      first
        | exact ⟨0, rfl, by omega⟩
        | exact ⟨1, rfl, by omega⟩
        | exact ⟨2, rfl, by omega⟩) (Nat.le_of_ble_eq_true rfl) (Nat.le_of_ble_eq_true rfl)
  obtain ⟨hcr, hs9⟩ := hp
  rw [hs9] at hG
  clear hs9
  obtain ⟨q, hq⟩ : ∃ z9 : Nat, z9 = ((a)).toNat := ⟨_, rfl⟩
  rw [← hq]
  have huq : ((q : Nat) : Int) = (a) := by omega
  have hlq := hRl q (by omega)
  rw [huq] at hlq
  have h60 := gI_60 hI q 0
  have h61 := gI_61 hI q 0
  have hr63 := fun k => gI_63 hI q k
  have h20 := gI_20 hI 0 a
  have hm6 := gI_14 hI 0 0
  refine lv_astore_n (lv' := [(2, .ref (ad (75 + 3 * q))), (0, .ref (ad 21)), (1, .int (iI (a)))]) hx hb dX5_isTrue_5 rfl hl (by decide) rfl (fun ls hl => ?_)
  refine lv_aload_n hx hb dX5_isTrue_6 rfl (lv_at hl 0 rfl) ?_
  refine g_get hx hb hts hin0 hown hK hG (key := 75 + 3 * q) (by omega) (gC_l st ad cy q) rfl 7 (by decide) L_106 (fun _ h9 => h9) rfl dX5_isTrue_7 ?_
  refine g_refs (fun hn1 => ?_) (fun t ht => ?_)
  · skip
    have hrhn1 := gI_66 hI q 0
    refine lv_ifnullN (tgt := 32) hx hb dX5_isTrue_10 (by decide) ?_
    refine lv_iconst (v := iI (0)) hx hb dX5_isTrue_32 rfl ?_
    refine W.widen (k := 1) (n := 6) (by omega) (by omega) ?_
    refine vx_ret ?_
    exact g_zret hx hb hr hlocks (narZ (by omega)) hG (by
      have hks := kLay_s st a
      refine ⟨by omega, ?_, hI⟩
      refine ⟨?_, rfl⟩
      congr 1
      first
        | (rw [if_pos (by omega)]; done)
        | (rw [if_pos (by omega)]; omega)
        | (rw [if_neg (by omega)]; have e9 := RY_true hR (q := q) (t := t) (by omega) hbt (by rw [huq]; omega) hr63 (by omega) (st 15 0 a).toNat (by omega); rw [huq] at e9; rw [← e9, ← hlq.1]; omega)) dX5_isTrue_33
  · skip
    have hrt := gI_66 hI q 0
    have hbt : t < 6 := by omega
    refine lv_ifnull hx hb dX5_isTrue_10 ?_
    refine lv_aload_n hx hb dX5_isTrue_13 rfl (lv_at hl 0 rfl) ?_
    refine lv_aload_n hx hb dX5_isTrue_14 rfl (lv_at hl 0 rfl) ?_
    refine g_get hx hb hts hin0 hown hK hG (key := 75 + 3 * q) (by omega) (gC_l st ad cy q) rfl 7 (by decide) L_106 (fun _ h9 => h9) rfl dX5_isTrue_15 ?_
    refine g_refs (fun hn9 => absurd hn9 (by omega)) (fun tz9 htz9 => ?_)
    rw [show tz9 = t by omega]
    clear htz9
    refine lv_aload_n hx hb dX5_isTrue_18 rfl (lv_at hl 1 rfl) ?_
    refine g_get hx hb hts hin5 hown hK hG (key := 21) (by omega) (gC_21 st ad cy) rfl 0 (by decide) L_12 (fun _ h9 => h9) rfl dX5_isTrue_19 ?_
    refine g_goi hG hA (va_runV (As := [.ref (ad (33 + 7 * t)), .ref (ad 22)]) (rest := []) ⟨hx, hb, hml, hown, hts⟩ (mX0_conductsAsNeeded l D cy ad n st _ fz wb hn hI (by omega) (q) (t) (by omega) (by omega) hsc) (cwV 2 hts gX5_isTrue_X0_conductsAsNeeded rfl rfl rfl (by decide +kernel) ⟨Nat.le_of_ble_eq_true rfl, Nat.le_of_ble_eq_true rfl⟩) ⟨g_blind, va_recv hK hG.1 (q0 := (75 + 3 * q) - 19) (ci := 0) rfl ((gw_at (k := 75 + 3 * q) (by omega)).trans (by rw [gC_l st ad cy q])), g_pre hK hG hA hN hZ⟩ rfl rfl hl.1 rfl (lv_room (Nat.le_of_ble_eq_true rfl)) dX5_isTrue_22 ⟨Nat.le_of_ble_eq_true rfl, Nat.le_of_ble_eq_true rfl⟩) (fun r9 s9 H locs hp hG => ?_)
    obtain ⟨rfl, hs9⟩ := hp
    rw [hs9] at hG
    clear hs9
    refine r_nm (fun v2 ev2 => ?_)
    have hr3 := allK_r st (q) (t) (st 60 (q) 0).toNat
    rw [← ev2] at hr3
    refine r_if_eq (tgt := 32) hx hb (by omega) dX5_isTrue_25 (by decide) (fun c4 => ?_) (fun c4 => ?_)
    · skip
      refine lv_iconst (v := iI (0)) hx hb dX5_isTrue_32 rfl ?_
      refine W.widen (k := 1) (n := 6) (by omega) (by omega) ?_
      refine vx_ret ?_
      exact g_zret hx hb hr hlocks (narZ (by omega)) hG (by
        have hks := kLay_s st a
        refine ⟨by omega, ?_, hI⟩
        refine ⟨?_, rfl⟩
        congr 1
        first
          | (rw [if_pos (by omega)]; done)
          | (rw [if_pos (by omega)]; omega)
          | (rw [if_neg (by omega)]; have e9 := RY_true hR (q := q) (t := t) (by omega) hbt (by rw [huq]; omega) hr63 (by omega) (st 15 0 a).toNat (by omega); rw [huq] at e9; rw [← e9, ← hlq.1]; omega)) dX5_isTrue_33
    · skip
      refine lv_iconst (v := iI (1)) hx hb dX5_isTrue_28 rfl ?_
      refine lv_goto (tgt := 33) hx hb dX5_isTrue_29 (by decide) ?_
      refine W.widen (k := 1) (n := 6) (by omega) (by omega) ?_
      refine vx_ret ?_
      exact g_zret hx hb hr hlocks (narZ (by omega)) hG (by
        have hks := kLay_s st a
        refine ⟨by omega, ?_, hI⟩
        refine ⟨?_, rfl⟩
        congr 1
        first
          | (rw [if_pos (by omega)]; done)
          | (rw [if_pos (by omega)]; omega)
          | (rw [if_neg (by omega)]; have e9 := RY_true hR (q := q) (t := t) (by omega) hbt (by rw [huq]; omega) hr63 (by omega) (st 15 0 a).toNat (by omega); rw [huq] at e9; rw [← e9, ← hlq.1]; omega)) dX5_isTrue_33
