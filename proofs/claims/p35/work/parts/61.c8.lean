set_option maxHeartbeats 400000 in
set_option maxRecDepth 100000 in
theorem mX5_inputOf (l : Launch) (D : va_G) (cy : Nat → ClassId) (ad : Nat → Nat) (n : Nat) (st : St) (sz fz : Nat) (wb : Int) (hn : 75 ≤ n) (hI : GI wb st) (hW : wb ≤ 2000000) (vec : Nat) (k : Nat) (hvec : vec < 2 ^ 64) (hk : k < 8) : Met l yX5_inputOf wsX5_inputOf ({ frames := 0, cells := 0, slots := 0, locals := 0 }) (va_Pc [.long (lN vec), .int (iI (((k : Nat) : Int)))] (gB D cy ad n st sz fz)) (va_Qi (fun (r : Int32) (st' : St) => r = iI (inpF vec k) ∧ st' = st) (gP D cy ad n) (gA n ad sz)) 0 0 (gA n ad sz) := by
  refine Met.ofW (cc := cX5_inputOf) (maxL := 3) (ret := (some .int)) (by decide) rfl ?_
  intro p e s m args below meth c s₁ B hml hv
  obtain ⟨rfl, hsz, hP, hK, hD0, hN, hZ⟩ := hv
  have hx := B.exec
  have hb := B.bytes
  have hr := B.returns
  have hts := atoms_spec (ws := wsX5_inputOf) B.pre
  have hown : s.vm.findClass RX5 = some m.cls := findClass_of_methodNamed B.named
  have hlocks := B.notSynchronized
  subst hsz
  have hA : ∀ q : Nat, s.heap.size ≤ q → gA n ad s.heap.size q := fun q h => Or.inr h
  have hG : GH D cy ad n st (gA n ad s.heap.size) s.heap s.heap [] := ⟨hP, gw_A hD0, va_S.rf⟩
  have hl := lv_entry ([.long (lN vec), .int (iI (((k : Nat) : Int)))]) (n := 3) (Nat.le_of_ble_eq_true rfl)
  rw [lg_entry_eq]
  generalize (lg_sl ([.long (lN vec), .int (iI (((k : Nat) : Int)))]) ++ List.replicate (3 - (lg_sl ([.long (lN vec), .int (iI (((k : Nat) : Int)))])).length) Slot.unset).toArray = ls at hl ⊢
  have hl : lv_has ls 3 [(0, .long (lN vec)), (2, .int (iI (((k : Nat) : Int))))] := hl
  refine lv_lload_n hx hb dX5_inputOf_0 rfl (lv_at hl 0 rfl) ?_
  refine lv_bipush (v := iI (8)) hx hb dX5_inputOf_1 (by decide +kernel) ?_
  refine lv_iload_n hx hb dX5_inputOf_3 rfl (lv_at hl 1 rfl) ?_
  refine r_imul hx hb dX5_inputOf_4 ?_
  refine r_nm (fun v1 ev1 => ?_)
  refine r_as (y := ((8 * k : Nat) : Int)) (by omega) ?_
  refine lv_lshr (v := lN (asrN vec (8 * k))) hx hb dX5_inputOf_5 (by exact asr_e vec (by omega)) ?_
  refine lv_l2i (v := iI (((asrN vec (8 * k) : Nat) : Int))) hx hb dX5_inputOf_6 (by exact vl2i _) ?_
  skip
  refine r_nm (fun v2 ev2 => ?_)
  refine lv_sipush (v := iI (255)) hx hb dX5_inputOf_7 (by decide +kernel) ?_
  refine r_iand 8 hx hb (by decide) (by decide) dX5_inputOf_10 ?_
  refine r_nm (fun v3 ev3 => ?_)
  exact g_iret hx hb hr hlocks hG (by
    refine ⟨?_, rfl⟩
    congr 1
    unfold inpF
    have h9 := asr_low hvec (k := 8 * k) (m := 8) (by omega) (by omega)
    rw [show (256 : Nat) = 2 ^ 8 from rfl, ← h9]
    subst_vars
    push_cast
    rfl) dX5_inputOf_11
set_option maxHeartbeats 400000 in
set_option maxRecDepth 100000 in
theorem mX0_idealAnswer (l : Launch) (D : va_G) (cy : Nat → ClassId) (ad : Nat → Nat) (n : Nat) (st : St) (sz fz : Nat) (wb : Int) (hn : 75 ≤ n) (hI : GI wb st) (hW : wb ≤ 2000000) (q : Nat) (vec : Nat) (d : Int) (hq : 77 + 3 * q < n) (hvec : vec < 2 ^ 64) (hd : 0 ≤ d ∧ d < 4) : Met l yX0_idealAnswer wsX0_idealAnswer ({ frames := 1, cells := 0, slots := 0, locals := 22 }) (va_Pc [.ref (ad (75 + 3 * q)), .long (lN vec), .int (iI (d))] (gB D cy ad n st sz fz)) (va_Qi (fun (r : Int32) (st' : St) => r = iI (idC st q d vec (st 60 q 0).toNat) ∧ st' = st) (gP D cy ad n) (gA n ad sz)) 0 0 (gA n ad sz) := by
  refine Met.ofW (cc := cX0_idealAnswer) (maxL := 6) (ret := (some .int)) (by decide) rfl ?_
  intro p e s m args below meth c s₁ B hml hv
  obtain ⟨rfl, hsz, hP, hK, hD0, hN, hZ⟩ := hv
  have hx := B.exec
  have hb := B.bytes
  have hr := B.returns
  have hts := atoms_spec (ws := wsX0_idealAnswer) B.pre
  have hown : s.vm.findClass RX0 = some m.cls := findClass_of_methodNamed B.named
  have hlocks := B.notSynchronized
  subst hsz
  have hA : ∀ q : Nat, s.heap.size ≤ q → gA n ad s.heap.size q := fun q h => Or.inr h
  have hG : GH D cy ad n st (gA n ad s.heap.size) s.heap s.heap [] := ⟨hP, gw_A hD0, va_S.rf⟩
  have hl := lv_entry ([.ref (ad (75 + 3 * q)), .long (lN vec), .int (iI (d))]) (n := 6) (Nat.le_of_ble_eq_true rfl)
  rw [lg_entry_eq]
  generalize (lg_sl ([.ref (ad (75 + 3 * q)), .long (lN vec), .int (iI (d))]) ++ List.replicate (6 - (lg_sl ([.ref (ad (75 + 3 * q)), .long (lN vec), .int (iI (d))])).length) Slot.unset).toArray = ls at hl ⊢
  have hl : lv_has ls 6 [(0, .ref (ad (75 + 3 * q))), (1, .long (lN vec)), (3, .int (iI (d)))] := hl
  have hin0 : ∀ w ∈ u_ws RX0 TX0 8, w ∈ wsX0_idealAnswer := by decide +kernel
  have L_33 := hts (.fieldLink RX0 33 "Crossbarry$Layer" "inputs" "I") (by decide +kernel)
  have hin := gI_60 hI q 0
  refine lv_iconst (v := iI (0)) hx hb dX0_idealAnswer_0 rfl ?_
  refine lv_istore (lv' := [(4, .int (iI (0))), (0, .ref (ad (75 + 3 * q))), (1, .long (lN vec)), (3, .int (iI (d)))]) hx hb dX0_idealAnswer_1 hl (by decide) rfl (fun ls hl => ?_)
  refine lv_iconst (v := iI (0)) hx hb dX0_idealAnswer_3 rfl ?_
  refine lv_istore (lv' := [(5, .int (iI (0))), (4, .int (iI (0))), (0, .ref (ad (75 + 3 * q))), (1, .long (lN vec)), (3, .int (iI (d)))]) hx hb dX0_idealAnswer_4 hl (by decide) rfl (fun ls hl => ?_)
  have hloop6 : ∀ (N : Nat)  (k : Nat) (H : Heap) (locs : List Loc) (ls : Array Slot), 9 - k < N → ((k : Int) ≤ st 60 q 0) →  GH D cy ad n st (gA n ad s.heap.size) s.heap H locs → lv_has ls 6 [(4, .int (iI (idC st q d vec k))), (5, .int (iI (((k : Nat) : Int)))), (0, .ref (ad (75 + 3 * q))), (1, .long (lN vec)), (3, .int (iI (d)))] → W p l e (headSpec wsX0_idealAnswer { frames := 1, cells := 0, slots := 0, locals := 22 }).room s m (#[.ref (ad (75 + 3 * q)), .long (lN vec), .int (iI (d))] : Array Value) below meth c H locs 0 0 (MQ below (va_Qi (fun (r : Int32) (st' : St) => r = iI (idC st q d vec (st 60 q 0).toNat) ∧ st' = st) (gP D cy ad n) (gA n ad s.heap.size)) (#[.ref (ad (75 + 3 * q)), .long (lN vec), .int (iI (d))] : Array Value) s 0 0 (gA n ad s.heap.size)) (F0 m 6 ls []) := by
    intro N
    induction N with
    | zero => intro  k H locs ls hm; exact absurd hm (Nat.not_lt_zero _)
    | succ N ih6 =>
      intro  k H locs ls hm hk hG hl
      refine lv_iload hx hb dX0_idealAnswer_6 (lv_at hl 1 rfl) ?_
      refine lv_aload_n hx hb dX0_idealAnswer_8 rfl (lv_at hl 2 rfl) ?_
      refine g_get hx hb hts hin0 hown hK hG (key := 75 + 3 * q) (by omega) (gC_l st ad cy q) rfl 1 (by decide) L_33 (fun _ h9 => h9) rfl dX0_idealAnswer_9 ?_
      have hr1 := gI_60 hI (q) (0)
      refine r_nm (fun v2 ev2 => ?_)
      rw [← ev2] at hr1
      refine r_icmp_ge (tgt := 40) hx hb (by omega) dX0_idealAnswer_12 (by decide) (fun c3 => ?_) (fun c3 => ?_)
      · skip
        refine lv_iload hx hb dX0_idealAnswer_40 (lv_at hl 0 rfl) ?_
        exact g_iret hx hb hr hlocks hG (by
          refine ⟨?_, rfl⟩
          congr 1
          rw [show (st 60 q 0).toNat = k by omega]) dX0_idealAnswer_42
      · skip
        refine lv_iload hx hb dX0_idealAnswer_15 (lv_at hl 0 rfl) ?_
        refine lv_aload_n hx hb dX0_idealAnswer_17 rfl (lv_at hl 2 rfl) ?_
        refine lv_iload hx hb dX0_idealAnswer_18 (lv_at hl 1 rfl) ?_
        refine lv_iload_n hx hb dX0_idealAnswer_20 rfl (lv_at hl 4 rfl) ?_
        refine g_goi hG hA (va_runV (As := [.int (iI (((k : Nat) : Int))), .int (iI (d))]) (rest := [.int (iI (idC st q d vec k))]) ⟨hx, hb, hml, hown, hts⟩ (mX0_weightOf l D cy ad n st _ fz wb hn hI (by omega) (q) (((k : Nat) : Int)) (d) (by omega) (by omega) (by omega)) (cwV 2 hts gX0_idealAnswer_X0_weightOf rfl rfl rfl (by decide +kernel) ⟨Nat.le_of_ble_eq_true rfl, Nat.le_of_ble_eq_true rfl⟩) ⟨g_blind, va_recv hK hG.1 (q0 := (75 + 3 * q) - 19) (ci := 0) rfl ((gw_at (k := 75 + 3 * q) (by omega)).trans (by rw [gC_l st ad cy q])), g_pre hK hG hA hN hZ⟩ rfl rfl hl.1 rfl (lv_room (Nat.le_of_ble_eq_true rfl)) dX0_idealAnswer_21 ⟨Nat.zero_le _, Nat.zero_le _⟩) (fun r9 s9 H locs hp hG => ?_)
        obtain ⟨rfl, hs9⟩ := hp
        rw [hs9] at hG
        clear hs9
        refine r_nm (fun v4 ev4 => ?_)
        have hr5 := gI_62 hI (q) (4 * (((k : Nat) : Int)) + (d))
        rw [← ev4] at hr5
        refine lv_lload_n hx hb dX0_idealAnswer_24 rfl (lv_at hl 3 rfl) ?_
        refine lv_iload hx hb dX0_idealAnswer_25 (lv_at hl 1 rfl) ?_
        refine g_goi hG hA (va_runSN (As := [.long (lN vec), .int (iI (((k : Nat) : Int)))]) (rest := [.int (iI (v4)), .int (iI (idC st q d vec k))]) ⟨hx, hb, hml, hown, hts⟩ (mX5_inputOf l D cy ad n st _ fz wb hn hI (by omega) vec (k) (by omega) (by omega)) ⟨va_cnB 2 hts gX0_idealAnswer_X5_inputOf_n74 rfl rfl rfl (hN.1 (.methodLinkNest RX0 74 yX5_inputOf RX5) (by decide +kernel)) (hts (.initialized RX5) (by decide +kernel)) (by decide +kernel) ⟨Nat.le_of_ble_eq_true rfl, Nat.le_of_ble_eq_true rfl⟩, hts (.static yX5_inputOf) (by decide +kernel), trivial⟩ ⟨g_blind, g_pre hK hG hA hN hZ⟩ rfl rfl hl.1 rfl (lv_room (Nat.le_of_ble_eq_true rfl)) dX0_idealAnswer_27 ⟨Nat.zero_le _, Nat.zero_le _⟩) (fun r9 s9 H locs hp hG => ?_)
        obtain ⟨rfl, hs9⟩ := hp
        rw [hs9] at hG
        clear hs9
        refine r_nm (fun v6 ev6 => ?_)
        have hr7 := inpF_r vec (k)
        rw [← ev6] at hr7
        refine r_imul hx hb dX0_idealAnswer_30 ?_
        refine r_nm (fun v8 ev8 => ?_)
        refine r_iadd hx hb dX0_idealAnswer_31 ?_
        refine r_nm (fun v9 ev9 => ?_)
        refine lv_istore (lv' := [(4, .int (iI (v9))), (5, .int (iI (((k : Nat) : Int)))), (0, .ref (ad (75 + 3 * q))), (1, .long (lN vec)), (3, .int (iI (d)))]) hx hb dX0_idealAnswer_32 hl (by decide) rfl (fun ls hl => ?_)
        obtain ⟨v10, ev10⟩ : ∃ y9 : Int, y9 = ((k : Nat) : Int) + (1) := ⟨_, rfl⟩
        refine lv_iinc (v := iI v10) (lv' := [(5, .int (iI (v10))), (4, .int (iI (v9))), (0, .ref (ad (75 + 3 * q))), (1, .long (lN vec)), (3, .int (iI (d)))]) hx hb dX0_idealAnswer_34 hl (k := 1) rfl (by rw [ev10]; exact iI_add _ _) (by decide) rfl (fun ls hl => ?_)
        refine lv_goto (tgt := 6) hx hb dX0_idealAnswer_37 (by decide) ?_
        rw [show (v9 : Int) = idC st q d vec (k + 1) from by (subst_vars; rfl)] at hl
        rw [show (v10 : Int) = (((k + 1) : Nat) : Int) from by omega] at hl
        exact ih6  (k + 1) _ _ _ (by omega) (by omega) hG (lv_sub hl [1, 0, 2, 3, 4] rfl)
  exact hloop6 _  (0) _ _ _ (Nat.lt_succ_self _) (by omega) hG (lv_sub hl [1, 0, 2, 3, 4] rfl)
set_option maxHeartbeats 400000 in
set_option maxRecDepth 100000 in
theorem mX0_currentOn (l : Launch) (D : va_G) (cy : Nat → ClassId) (ad : Nat → Nat) (n : Nat) (st : St) (sz fz : Nat) (wb : Int) (hn : 75 ≤ n) (hI : GI wb st) (hW : wb ≤ 2000000) (q : Nat) (o : Nat) (vec : Nat) (d : Int) (hq : 77 + 3 * q < n) (ho : o < 6) (hvec : vec < 2 ^ 64) (hd : 0 ≤ d ∧ d < 16) (hsc : ∀ (o : Nat) (j : Int), st 42 o j ≤ st 30 0 0) : Met l yX0_currentOn wsX0_currentOn ({ frames := 2, cells := 0, slots := 0, locals := 46 }) (va_Pc [.ref (ad (75 + 3 * q)), .ref (ad (33 + 7 * o)), .long (lN vec), .int (iI (d)), .ref (ad 22)] (gB D cy ad n st sz fz)) (va_Qi (fun (r : Int32) (st' : St) => r = iI (curC st q o vec d (st 60 q 0).toNat) ∧ st' = st) (gP D cy ad n) (gA n ad sz)) 0 0 (gA n ad sz) := by
  refine Met.ofW (cc := cX0_currentOn) (maxL := 8) (ret := (some .int)) (by decide) rfl ?_
  intro p e s m args below meth c s₁ B hml hv
  obtain ⟨rfl, hsz, hP, hK, hD0, hN, hZ⟩ := hv
  have hx := B.exec
  have hb := B.bytes
  have hr := B.returns
  have hts := atoms_spec (ws := wsX0_currentOn) B.pre
  have hown : s.vm.findClass RX0 = some m.cls := findClass_of_methodNamed B.named
  have hlocks := B.notSynchronized
  subst hsz
  have hA : ∀ q : Nat, s.heap.size ≤ q → gA n ad s.heap.size q := fun q h => Or.inr h
  have hG : GH D cy ad n st (gA n ad s.heap.size) s.heap s.heap [] := ⟨hP, gw_A hD0, va_S.rf⟩
  have hl := lv_entry ([.ref (ad (75 + 3 * q)), .ref (ad (33 + 7 * o)), .long (lN vec), .int (iI (d)), .ref (ad 22)]) (n := 8) (Nat.le_of_ble_eq_true rfl)
  rw [lg_entry_eq]
  generalize (lg_sl ([.ref (ad (75 + 3 * q)), .ref (ad (33 + 7 * o)), .long (lN vec), .int (iI (d)), .ref (ad 22)]) ++ List.replicate (8 - (lg_sl ([.ref (ad (75 + 3 * q)), .ref (ad (33 + 7 * o)), .long (lN vec), .int (iI (d)), .ref (ad 22)])).length) Slot.unset).toArray = ls at hl ⊢
  have hl : lv_has ls 8 [(0, .ref (ad (75 + 3 * q))), (1, .ref (ad (33 + 7 * o))), (2, .long (lN vec)), (4, .int (iI (d))), (5, .ref (ad 22))] := hl
  have hin0 : ∀ w ∈ u_ws RX0 TX0 8, w ∈ wsX0_currentOn := by decide +kernel
  have L_15 := hts (.fieldLink RX0 15 "Crossbarry$Layer" "rows" "[I") (by decide +kernel)
  have L_33 := hts (.fieldLink RX0 33 "Crossbarry$Layer" "inputs" "I") (by decide +kernel)
  have hin := gI_60 hI q 0
  refine lv_iconst (v := iI (0)) hx hb dX0_currentOn_0 rfl ?_
  refine lv_istore (lv' := [(6, .int (iI (0))), (0, .ref (ad (75 + 3 * q))), (1, .ref (ad (33 + 7 * o))), (2, .long (lN vec)), (4, .int (iI (d))), (5, .ref (ad 22))]) hx hb dX0_currentOn_1 hl (by decide) rfl (fun ls hl => ?_)
  refine lv_iconst (v := iI (0)) hx hb dX0_currentOn_3 rfl ?_
  refine lv_istore (lv' := [(7, .int (iI (0))), (6, .int (iI (0))), (0, .ref (ad (75 + 3 * q))), (1, .ref (ad (33 + 7 * o))), (2, .long (lN vec)), (4, .int (iI (d))), (5, .ref (ad 22))]) hx hb dX0_currentOn_4 hl (by decide) rfl (fun ls hl => ?_)
  have hloop6 : ∀ (N : Nat)  (k : Nat) (H : Heap) (locs : List Loc) (ls : Array Slot), 9 - k < N → ((k : Int) ≤ st 60 q 0) →  GH D cy ad n st (gA n ad s.heap.size) s.heap H locs → lv_has ls 8 [(6, .int (iI (curC st q o vec d k))), (7, .int (iI (((k : Nat) : Int)))), (0, .ref (ad (75 + 3 * q))), (1, .ref (ad (33 + 7 * o))), (2, .long (lN vec)), (4, .int (iI (d))), (5, .ref (ad 22))] → W p l e (headSpec wsX0_currentOn { frames := 2, cells := 0, slots := 0, locals := 46 }).room s m (#[.ref (ad (75 + 3 * q)), .ref (ad (33 + 7 * o)), .long (lN vec), .int (iI (d)), .ref (ad 22)] : Array Value) below meth c H locs 0 0 (MQ below (va_Qi (fun (r : Int32) (st' : St) => r = iI (curC st q o vec d (st 60 q 0).toNat) ∧ st' = st) (gP D cy ad n) (gA n ad s.heap.size)) (#[.ref (ad (75 + 3 * q)), .ref (ad (33 + 7 * o)), .long (lN vec), .int (iI (d)), .ref (ad 22)] : Array Value) s 0 0 (gA n ad s.heap.size)) (F0 m 6 ls []) := by
    intro N
    induction N with
    | zero => intro  k H locs ls hm; exact absurd hm (Nat.not_lt_zero _)
    | succ N ih6 =>
      intro  k H locs ls hm hk hG hl
      refine lv_iload hx hb dX0_currentOn_6 (lv_at hl 1 rfl) ?_
      refine lv_aload_n hx hb dX0_currentOn_8 rfl (lv_at hl 2 rfl) ?_
      refine g_get hx hb hts hin0 hown hK hG (key := 75 + 3 * q) (by omega) (gC_l st ad cy q) rfl 1 (by decide) L_33 (fun _ h9 => h9) rfl dX0_currentOn_9 ?_
      have hr1 := gI_60 hI (q) (0)
      refine r_nm (fun v2 ev2 => ?_)
      rw [← ev2] at hr1
      refine r_icmp_ge (tgt := 53) hx hb (by omega) dX0_currentOn_12 (by decide) (fun c3 => ?_) (fun c3 => ?_)
      · skip
        refine lv_iload hx hb dX0_currentOn_53 (lv_at hl 0 rfl) ?_
        exact g_iret hx hb hr hlocks hG (by
          refine ⟨?_, rfl⟩
          congr 1
          rw [show (st 60 q 0).toNat = k by omega]) dX0_currentOn_55
      · skip
        refine lv_lload_n hx hb dX0_currentOn_15 rfl (lv_at hl 4 rfl) ?_
        refine lv_iload hx hb dX0_currentOn_16 (lv_at hl 1 rfl) ?_
        refine g_goi hG hA (va_runSN (As := [.long (lN vec), .int (iI (((k : Nat) : Int)))]) (rest := []) ⟨hx, hb, hml, hown, hts⟩ (mX5_inputOf l D cy ad n st _ fz wb hn hI (by omega) vec (k) (by omega) (by omega)) ⟨va_cnB 2 hts gX0_currentOn_X5_inputOf_n74 rfl rfl rfl (hN.1 (.methodLinkNest RX0 74 yX5_inputOf RX5) (by decide +kernel)) (hts (.initialized RX5) (by decide +kernel)) (by decide +kernel) ⟨Nat.le_of_ble_eq_true rfl, Nat.le_of_ble_eq_true rfl⟩, hts (.static yX5_inputOf) (by decide +kernel), trivial⟩ ⟨g_blind, g_pre hK hG hA hN hZ⟩ rfl rfl hl.1 rfl (lv_room (Nat.le_of_ble_eq_true rfl)) dX0_currentOn_18 ⟨Nat.zero_le _, Nat.zero_le _⟩) (fun r9 s9 H locs hp hG => ?_)
        obtain ⟨rfl, hs9⟩ := hp
        rw [hs9] at hG
        clear hs9
        refine r_nm (fun v4 ev4 => ?_)
        have hr5 := inpF_r vec (k)
        rw [← ev4] at hr5
        refine lv_iconst (v := iI (1)) hx hb dX0_currentOn_21 rfl ?_
        refine r_iand 1 hx hb (by decide) (by decide) dX0_currentOn_22 ?_
        refine r_nm (fun v6 ev6 => ?_)
        refine lv_iconst (v := iI (1)) hx hb dX0_currentOn_23 rfl ?_
        refine r_icmp_ne (tgt := 47) hx hb (by omega) dX0_currentOn_24 (by decide) (fun c7 => ?_) (fun c7 => ?_)
        · skip
          obtain ⟨v8, ev8⟩ : ∃ y9 : Int, y9 = ((k : Nat) : Int) + (1) := ⟨_, rfl⟩
          refine lv_iinc (v := iI v8) (lv' := [(7, .int (iI (v8))), (6, .int (iI (curC st q o vec d k))), (0, .ref (ad (75 + 3 * q))), (1, .ref (ad (33 + 7 * o))), (2, .long (lN vec)), (4, .int (iI (d))), (5, .ref (ad 22))]) hx hb dX0_currentOn_47 hl (k := 1) rfl (by rw [ev8]; exact iI_add _ _) (by decide) rfl (fun ls hl => ?_)
          refine lv_goto (tgt := 6) hx hb dX0_currentOn_50 (by decide) ?_
          rw [show (curC st q o vec d k : Int) = curC st q o vec d (k + 1) from by (rw [curC_s st q o vec d k]; first | (rw [if_pos (by omega)]; subst_vars; rfl) | (rw [if_neg (by omega)]; omega))] at hl
          rw [show (v8 : Int) = (((k + 1) : Nat) : Int) from by omega] at hl
          exact ih6  (k + 1) _ _ _ (by omega) (by omega) hG (lv_sub hl [1, 0, 2, 3, 4, 5, 6] rfl)
        · skip
          refine lv_iload hx hb dX0_currentOn_27 (lv_at hl 0 rfl) ?_
          refine lv_aload_n hx hb dX0_currentOn_29 rfl (lv_at hl 3 rfl) ?_
          refine lv_aload_n hx hb dX0_currentOn_30 rfl (lv_at hl 2 rfl) ?_
          refine g_get hx hb hts hin0 hown hK hG (key := 75 + 3 * q) (by omega) (gC_l st ad cy q) rfl 4 (by decide) L_15 (fun _ h9 => h9) rfl dX0_currentOn_31 ?_
          refine lv_iload hx hb dX0_currentOn_34 (lv_at hl 1 rfl) ?_
          refine g_iald hx hb hK hG (77 + 3 * q) (kd := 42) (o := q) (gk_l (o := q) (j := 2) (by decide)) rfl (by omega) (cp := 63) (ln := 8) rfl rfl (by omega) dX0_currentOn_36 ?_
          have hr9 := gI_63 hI (q) (((k : Nat) : Int))
          refine r_nm (fun v10 ev10 => ?_)
          rw [← ev10] at hr9
          refine lv_iload hx hb dX0_currentOn_37 (lv_at hl 5 rfl) ?_
          refine lv_aload hx hb dX0_currentOn_39 (lv_at hl 6 rfl) ?_
          refine g_goi hG hA (va_runV (As := [.int (iI (v10)), .int (iI (d)), .ref (ad 22)]) (rest := [.int (iI (curC st q o vec d k))]) ⟨hx, hb, hml, hown, hts⟩ (mX4_conducted l D cy ad n st _ fz wb hn hI (by omega) (o) (v10) (d) (by omega) (by omega) (by omega) (by omega)) (cwV 3 hts gX0_currentOn_X4_conducted rfl rfl rfl (by decide +kernel) ⟨Nat.le_of_ble_eq_true rfl, Nat.le_of_ble_eq_true rfl⟩) ⟨g_blind, va_recv hK hG.1 (q0 := (33 + 7 * o) - 19) (ci := 4) rfl ((gw_at (k := 33 + 7 * o) (by omega)).trans (by rw [gC_t st ad cy ho])), g_pre hK hG hA hN hZ⟩ rfl rfl hl.1 rfl (lv_room (Nat.le_of_ble_eq_true rfl)) dX0_currentOn_41 ⟨Nat.zero_le _, Nat.zero_le _⟩) (fun r9 s9 H locs hp hG => ?_)
          obtain ⟨rfl, hs9⟩ := hp
          rw [hs9] at hG
          clear hs9
          refine r_nm (fun v11 ev11 => ?_)
          have hr12 := conC_r hI (o) (16 * (v10) + (d)) (hsc (o) _)
          rw [← ev11] at hr12
          refine r_iadd hx hb dX0_currentOn_44 ?_
          refine r_nm (fun v13 ev13 => ?_)
          refine lv_istore (lv' := [(6, .int (iI (v13))), (7, .int (iI (((k : Nat) : Int)))), (0, .ref (ad (75 + 3 * q))), (1, .ref (ad (33 + 7 * o))), (2, .long (lN vec)), (4, .int (iI (d))), (5, .ref (ad 22))]) hx hb dX0_currentOn_45 hl (by decide) rfl (fun ls hl => ?_)
          obtain ⟨v14, ev14⟩ : ∃ y9 : Int, y9 = ((k : Nat) : Int) + (1) := ⟨_, rfl⟩
          refine lv_iinc (v := iI v14) (lv' := [(7, .int (iI (v14))), (6, .int (iI (v13))), (0, .ref (ad (75 + 3 * q))), (1, .ref (ad (33 + 7 * o))), (2, .long (lN vec)), (4, .int (iI (d))), (5, .ref (ad 22))]) hx hb dX0_currentOn_47 hl (k := 1) rfl (by rw [ev14]; exact iI_add _ _) (by decide) rfl (fun ls hl => ?_)
          refine lv_goto (tgt := 6) hx hb dX0_currentOn_50 (by decide) ?_
          rw [show (v13 : Int) = curC st q o vec d (k + 1) from by (rw [curC_s st q o vec d k]; first | (rw [if_pos (by omega)]; subst_vars; rfl) | (rw [if_neg (by omega)]; omega))] at hl
          rw [show (v14 : Int) = (((k + 1) : Nat) : Int) from by omega] at hl
          exact ih6  (k + 1) _ _ _ (by omega) (by omega) hG (lv_sub hl [1, 0, 2, 3, 4, 5, 6] rfl)
  exact hloop6 _  (0) _ _ _ (Nat.lt_succ_self _) (by omega) hG (lv_sub hl [1, 0, 2, 3, 4, 5, 6] rfl)
