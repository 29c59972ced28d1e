set_option maxHeartbeats 400000 in
set_option maxRecDepth 100000 in
theorem mX0_needOf (l : Launch) (D : va_G) (cy : Nat → ClassId) (ad : Nat → Nat) (n : Nat) (st : St) (sz fz : Nat) (wb : Int) (hn : 75 ≤ n) (hI : GI wb st) (hW : wb ≤ 2000000) (q : Nat) (d : Int) (hq : 77 + 3 * q < n) (hd : 0 ≤ d ∧ d < 16) : Met l yX0_needOf wsX0_needOf ({ frames := 2, cells := 0, slots := 0, locals := 45 }) (va_Pc [.ref (ad (75 + 3 * q)), .int (iI (d))] (gB D cy ad n st sz fz)) (va_Qi (fun (r : Int32) (st' : St) => r = iI (noC st q d (st 60 q 0).toNat) ∧ st' = st) (gP D cy ad n) (gA n ad sz)) 0 0 (gA n ad sz) := by
  refine Met.ofW (cc := cX0_needOf) (maxL := 4) (ret := (some .int)) (by decide) rfl ?_
  intro p e s m args below meth c s₁ B hml hv
  obtain ⟨rfl, hsz, hP, hK, hD0, hN, hZ⟩ := hv
  have hx := B.exec
  have hb := B.bytes
  have hr := B.returns
  have hts := atoms_spec (ws := wsX0_needOf) B.pre
  have hown : s.vm.findClass RX0 = some m.cls := findClass_of_methodNamed B.named
  have hlocks := B.notSynchronized
  subst hsz
  have hA : ∀ q : Nat, s.heap.size ≤ q → gA n ad s.heap.size q := fun q h => Or.inr h
  have hG : GH D cy ad n st (gA n ad s.heap.size) s.heap s.heap [] := ⟨hP, gw_A hD0, va_S.rf⟩
  have hl := lv_entry ([.ref (ad (75 + 3 * q)), .int (iI (d))]) (n := 4) (Nat.le_of_ble_eq_true rfl)
  rw [lg_entry_eq]
  generalize (lg_sl ([.ref (ad (75 + 3 * q)), .int (iI (d))]) ++ List.replicate (4 - (lg_sl ([.ref (ad (75 + 3 * q)), .int (iI (d))])).length) Slot.unset).toArray = ls at hl ⊢
  have hl : lv_has ls 4 [(0, .ref (ad (75 + 3 * q))), (1, .int (iI (d)))] := hl
  have hin0 : ∀ w ∈ u_ws RX0 TX0 8, w ∈ wsX0_needOf := by decide +kernel
  have L_33 := hts (.fieldLink RX0 33 "Crossbarry$Layer" "inputs" "I") (by decide +kernel)
  have hin := gI_60 hI q 0
  refine lv_iconst (v := iI (0)) hx hb dX0_needOf_0 rfl ?_
  refine lv_istore_n (lv' := [(2, .int (iI (0))), (0, .ref (ad (75 + 3 * q))), (1, .int (iI (d)))]) hx hb dX0_needOf_1 rfl hl (by decide) rfl (fun ls hl => ?_)
  refine lv_iconst (v := iI (0)) hx hb dX0_needOf_2 rfl ?_
  refine lv_istore_n (lv' := [(3, .int (iI (0))), (2, .int (iI (0))), (0, .ref (ad (75 + 3 * q))), (1, .int (iI (d)))]) hx hb dX0_needOf_3 rfl hl (by decide) rfl (fun ls hl => ?_)
  have hloop4 : ∀ (N : Nat)  (k : Nat) (H : Heap) (locs : List Loc) (ls : Array Slot), 9 - k < N → ((k : Int) ≤ st 60 q 0) →  GH D cy ad n st (gA n ad s.heap.size) s.heap H locs → lv_has ls 4 [(2, .int (iI (noC st q d k))), (3, .int (iI (((k : Nat) : Int)))), (0, .ref (ad (75 + 3 * q))), (1, .int (iI (d)))] → W p l e (headSpec wsX0_needOf { frames := 2, cells := 0, slots := 0, locals := 45 }).room s m (#[.ref (ad (75 + 3 * q)), .int (iI (d))] : Array Value) below meth c H locs 0 0 (MQ below (va_Qi (fun (r : Int32) (st' : St) => r = iI (noC st q d (st 60 q 0).toNat) ∧ st' = st) (gP D cy ad n) (gA n ad s.heap.size)) (#[.ref (ad (75 + 3 * q)), .int (iI (d))] : Array Value) s 0 0 (gA n ad s.heap.size)) (F0 m 4 ls []) := by
    intro N
    induction N with
    | zero => intro  k H locs ls hm; exact absurd hm (Nat.not_lt_zero _)
    | succ N ih4 =>
      intro  k H locs ls hm hk hG hl
      refine lv_iload_n hx hb dX0_needOf_4 rfl (lv_at hl 1 rfl) ?_
      refine lv_aload_n hx hb dX0_needOf_5 rfl (lv_at hl 2 rfl) ?_
      refine g_get hx hb hts hin0 hown hK hG (key := 75 + 3 * q) (by omega) (gC_l st ad cy q) rfl 1 (by decide) L_33 (fun _ h9 => h9) rfl dX0_needOf_6 ?_
      have hr1 := gI_60 hI (q) (0)
      refine r_nm (fun v2 ev2 => ?_)
      rw [← ev2] at hr1
      refine r_icmp_ge (tgt := 27) hx hb (by omega) dX0_needOf_9 (by decide) (fun c3 => ?_) (fun c3 => ?_)
      · skip
        refine lv_iload_n hx hb dX0_needOf_27 rfl (lv_at hl 0 rfl) ?_
        exact g_iret hx hb hr hlocks hG (by
          refine ⟨?_, rfl⟩
          congr 1
          rw [show (st 60 q 0).toNat = k by omega]) dX0_needOf_28
      · skip
        refine lv_iload_n hx hb dX0_needOf_12 rfl (lv_at hl 0 rfl) ?_
        refine lv_aload_n hx hb dX0_needOf_13 rfl (lv_at hl 2 rfl) ?_
        refine lv_iload_n hx hb dX0_needOf_14 rfl (lv_at hl 1 rfl) ?_
        refine lv_iload_n hx hb dX0_needOf_15 rfl (lv_at hl 3 rfl) ?_
        refine g_goi hG hA (va_runV (As := [.int (iI (((k : Nat) : Int))), .int (iI (d))]) (rest := [.int (iI (noC st q d k))]) ⟨hx, hb, hml, hown, hts⟩ (mX0_needed l D cy ad n st _ fz wb hn hI (by omega) (q) (((k : Nat) : Int)) (d) (by omega) (by omega) (by omega)) (cwV 2 hts gX0_needOf_X0_needed rfl rfl rfl (by decide +kernel) ⟨Nat.le_of_ble_eq_true rfl, Nat.le_of_ble_eq_true rfl⟩) ⟨g_blind, va_recv hK hG.1 (q0 := (75 + 3 * q) - 19) (ci := 0) rfl ((gw_at (k := 75 + 3 * q) (by omega)).trans (by rw [gC_l st ad cy q])), g_pre hK hG hA hN hZ⟩ rfl rfl hl.1 rfl (lv_room (Nat.le_of_ble_eq_true rfl)) dX0_needOf_16 ⟨Nat.zero_le _, Nat.zero_le _⟩) (fun r9 s9 H locs hp hG => ?_)
        obtain ⟨rfl, hs9⟩ := hp
        rw [hs9] at hG
        clear hs9
        refine r_nm (fun v4 ev4 => ?_)
        have hr5 := needC_r hI (q) (((k : Nat) : Int)) (d)
        rw [← ev4] at hr5
        refine r_iadd hx hb dX0_needOf_19 ?_
        refine r_nm (fun v6 ev6 => ?_)
        refine lv_istore_n (lv' := [(2, .int (iI (v6))), (3, .int (iI (((k : Nat) : Int)))), (0, .ref (ad (75 + 3 * q))), (1, .int (iI (d)))]) hx hb dX0_needOf_20 rfl hl (by decide) rfl (fun ls hl => ?_)
        obtain ⟨v7, ev7⟩ : ∃ y9 : Int, y9 = ((k : Nat) : Int) + (1) := ⟨_, rfl⟩
        refine lv_iinc (v := iI v7) (lv' := [(3, .int (iI (v7))), (2, .int (iI (v6))), (0, .ref (ad (75 + 3 * q))), (1, .int (iI (d)))]) hx hb dX0_needOf_21 hl (k := 1) rfl (by rw [ev7]; exact iI_add _ _) (by decide) rfl (fun ls hl => ?_)
        refine lv_goto (tgt := 4) hx hb dX0_needOf_24 (by decide) ?_
        rw [show (v6 : Int) = noC st q d (k + 1) from by (subst_vars; rfl)] at hl
        rw [show (v7 : Int) = (((k + 1) : Nat) : Int) from by omega] at hl
        exact ih4  (k + 1) _ _ _ (by omega) (by omega) hG (lv_sub hl [1, 0, 2, 3] rfl)
  exact hloop4 _  (0) _ _ _ (Nat.lt_succ_self _) (by omega) hG (lv_sub hl [1, 0, 2, 3] rfl)
set_option maxHeartbeats 400000 in
set_option maxRecDepth 100000 in
theorem mX0_cyclesOn (l : Launch) (D : va_G) (cy : Nat → ClassId) (ad : Nat → Nat) (n : Nat) (st : St) (sz fz : Nat) (wb : Int) (hn : 75 ≤ n) (hI : GI wb st) (hW : wb ≤ 2000000) (q : Nat) (o : Nat) (hq : 77 + 3 * q < n) (ho : o < 6) : Met l yX0_cyclesOn wsX0_cyclesOn ({ frames := 1, cells := 0, slots := 0, locals := 21 }) (va_Pc [.ref (ad (75 + 3 * q)), .ref (ad (33 + 7 * o))] (gB D cy ad n st sz fz)) (va_Qi (fun (r : Int32) (st' : St) => r = iI (8 * quF (4 * st 61 q 0 + st 49 o 0 - 1) (st 49 o 0)) ∧ st' = st) (gP D cy ad n) (gA n ad sz)) 0 0 (gA n ad sz) := by
  refine Met.ofW (cc := cX0_cyclesOn) (maxL := 2) (ret := (some .int)) (by decide) rfl ?_
  intro p e s m args below meth c s₁ B hml hv
  obtain ⟨rfl, hsz, hP, hK, hD0, hN, hZ⟩ := hv
  have hx := B.exec
  have hb := B.bytes
  have hr := B.returns
  have hts := atoms_spec (ws := wsX0_cyclesOn) B.pre
  have hown : s.vm.findClass RX0 = some m.cls := findClass_of_methodNamed B.named
  have hlocks := B.notSynchronized
  subst hsz
  have hA : ∀ q : Nat, s.heap.size ≤ q → gA n ad s.heap.size q := fun q h => Or.inr h
  have hG : GH D cy ad n st (gA n ad s.heap.size) s.heap s.heap [] := ⟨hP, gw_A hD0, va_S.rf⟩
  have hl := lv_entry ([.ref (ad (75 + 3 * q)), .ref (ad (33 + 7 * o))]) (n := 2) (Nat.le_of_ble_eq_true rfl)
  rw [lg_entry_eq]
  generalize (lg_sl ([.ref (ad (75 + 3 * q)), .ref (ad (33 + 7 * o))]) ++ List.replicate (2 - (lg_sl ([.ref (ad (75 + 3 * q)), .ref (ad (33 + 7 * o))])).length) Slot.unset).toArray = ls at hl ⊢
  have hl : lv_has ls 2 [(0, .ref (ad (75 + 3 * q))), (1, .ref (ad (33 + 7 * o)))] := hl
  have hin0 : ∀ w ∈ u_ws RX0 TX0 8, w ∈ wsX0_cyclesOn := by decide +kernel
  have hin4 : ∀ w ∈ u_ws RX4 TX4 12, w ∈ wsX0_cyclesOn := by decide +kernel
  have L_88 := hts (.fieldLink RX0 88 "Crossbarry$Tile" "converterCount" "I") (by decide +kernel)
  have hou := gI_61 hI q 0
  refine lv_bipush (v := iI (8)) hx hb dX0_cyclesOn_0 (by decide +kernel) ?_
  refine lv_aload_n hx hb dX0_cyclesOn_2 rfl (lv_at hl 0 rfl) ?_
  refine g_goi hG hA (va_runV (As := []) (rest := [.int (iI (8))]) ⟨hx, hb, hml, hown, hts⟩ (mX0_columns l D cy ad n st _ fz wb hn hI (by omega) (q) (by omega)) (cwV 0 hts gX0_cyclesOn_X0_columns rfl rfl rfl (by decide +kernel) ⟨Nat.le_of_ble_eq_true rfl, Nat.le_of_ble_eq_true rfl⟩) ⟨g_blind, va_recv hK hG.1 (q0 := (75 + 3 * q) - 19) (ci := 0) rfl ((gw_at (k := 75 + 3 * q) (by omega)).trans (by rw [gC_l st ad cy q])), g_pre hK hG hA hN hZ⟩ rfl rfl hl.1 rfl (lv_room (Nat.le_of_ble_eq_true rfl)) dX0_cyclesOn_3 ⟨Nat.zero_le _, Nat.zero_le _⟩) (fun r9 s9 H locs hp hG => ?_)
  obtain ⟨rfl, hs9⟩ := hp
  rw [hs9] at hG
  clear hs9
  refine r_nm (fun v1 ev1 => ?_)
  refine lv_aload_n hx hb dX0_cyclesOn_6 rfl (lv_at hl 1 rfl) ?_
  refine g_get hx hb hts hin4 hown hK hG (key := 33 + 7 * o) (by omega) (gC_t st ad cy ho) rfl 10 (by decide) L_88 (fun _ h9 => h9) rfl dX0_cyclesOn_7 ?_
  have hr2 := gI_49 hI (o) (0)
  refine r_nm (fun v3 ev3 => ?_)
  rw [← ev3] at hr2
  refine r_iadd hx hb dX0_cyclesOn_10 ?_
  refine r_nm (fun v4 ev4 => ?_)
  refine lv_iconst (v := iI (1)) hx hb dX0_cyclesOn_11 rfl ?_
  refine r_isub hx hb dX0_cyclesOn_12 ?_
  refine r_nm (fun v5 ev5 => ?_)
  refine lv_aload_n hx hb dX0_cyclesOn_13 rfl (lv_at hl 1 rfl) ?_
  refine g_get hx hb hts hin4 hown hK hG (key := 33 + 7 * o) (by omega) (gC_t st ad cy ho) rfl 10 (by decide) L_88 (fun _ h9 => h9) rfl dX0_cyclesOn_14 ?_
  have hr6 := gI_49 hI (o) (0)
  refine r_nm (fun v7 ev7 => ?_)
  rw [← ev7] at hr6
  refine g_goi hG hA (va_runSN (As := [.int (iI (v5)), .int (iI (v7))]) (rest := [.int (iI (8))]) ⟨hx, hb, hml, hown, hts⟩ (mX5_quotient l D cy ad n st _ fz wb hn hI (by omega) (v5) (v7) (by omega) (by omega)) ⟨va_cnB 2 hts gX0_cyclesOn_X5_quotient_n91 rfl rfl rfl (hN.1 (.methodLinkNest RX0 91 yX5_quotient RX5) (by decide +kernel)) (hts (.initialized RX5) (by decide +kernel)) (by decide +kernel) ⟨Nat.le_of_ble_eq_true rfl, Nat.le_of_ble_eq_true rfl⟩, hts (.static yX5_quotient) (by decide +kernel), trivial⟩ ⟨g_blind, g_pre hK hG hA hN hZ⟩ rfl rfl hl.1 rfl (lv_room (Nat.le_of_ble_eq_true rfl)) dX0_cyclesOn_17 ⟨Nat.zero_le _, Nat.zero_le _⟩) (fun r9 s9 H locs hp hG => ?_)
  obtain ⟨rfl, hs9⟩ := hp
  rw [hs9] at hG
  clear hs9
  refine r_nm (fun v8 ev8 => ?_)
  have hr9 := quF_s (v5) (v7)
  rw [← ev8] at hr9
  have hr10 := quF_b (v5) (v7) (by omega)
  rw [← ev8] at hr10
  refine r_imul hx hb dX0_cyclesOn_20 ?_
  refine r_nm (fun v11 ev11 => ?_)
  exact g_iret hx hb hr hlocks hG (by
    refine ⟨?_, rfl⟩
    congr 1
    subst_vars
    rfl) dX0_cyclesOn_21
set_option maxHeartbeats 400000 in
set_option maxRecDepth 100000 in
theorem mX0_misfitsIn (l : Launch) (D : va_G) (cy : Nat → ClassId) (ad : Nat → Nat) (n : Nat) (st : St) (sz fz : Nat) (wb : Int) (hn : 75 ≤ n) (hI : GI wb st) (hW : wb ≤ 2000000) (q : Nat) (o : Nat) (b : Int) (rw0 : Int) (hq : 77 + 3 * q < n) (ho : o < 6) (hb0 : 0 ≤ b ∧ b < 8) (hrw : 0 ≤ rw0 ∧ rw0 < 8) : Met l yX0_misfitsIn wsX0_misfitsIn ({ frames := 2, cells := 0, slots := 0, locals := 45 }) (va_Pc [.ref (ad (75 + 3 * q)), .ref (ad (33 + 7 * o)), .int (iI (b)), .int (iI (rw0))] (gB D cy ad n st sz fz)) (va_Qi (fun (r : Int32) (st' : St) => r = iI (sumN (mfC st q o b rw0) (4 * st 61 q 0).toNat) ∧ st' = st) (gP D cy ad n) (gA n ad sz)) 0 0 (gA n ad sz) := by
  refine Met.ofW (cc := cX0_misfitsIn) (maxL := 6) (ret := (some .int)) (by decide) rfl ?_
  intro p e s m args below meth c s₁ B hml hv
  obtain ⟨rfl, hsz, hP, hK, hD0, hN, hZ⟩ := hv
  have hx := B.exec
  have hb := B.bytes
  have hr := B.returns
  have hts := atoms_spec (ws := wsX0_misfitsIn) B.pre
  have hown : s.vm.findClass RX0 = some m.cls := findClass_of_methodNamed B.named
  have hlocks := B.notSynchronized
  subst hsz
  have hA : ∀ q : Nat, s.heap.size ≤ q → gA n ad s.heap.size q := fun q h => Or.inr h
  have hG : GH D cy ad n st (gA n ad s.heap.size) s.heap s.heap [] := ⟨hP, gw_A hD0, va_S.rf⟩
  have hl := lv_entry ([.ref (ad (75 + 3 * q)), .ref (ad (33 + 7 * o)), .int (iI (b)), .int (iI (rw0))]) (n := 6) (Nat.le_of_ble_eq_true rfl)
  rw [lg_entry_eq]
  generalize (lg_sl ([.ref (ad (75 + 3 * q)), .ref (ad (33 + 7 * o)), .int (iI (b)), .int (iI (rw0))]) ++ List.replicate (6 - (lg_sl ([.ref (ad (75 + 3 * q)), .ref (ad (33 + 7 * o)), .int (iI (b)), .int (iI (rw0))])).length) Slot.unset).toArray = ls at hl ⊢
  have hl : lv_has ls 6 [(0, .ref (ad (75 + 3 * q))), (1, .ref (ad (33 + 7 * o))), (2, .int (iI (b))), (3, .int (iI (rw0)))] := hl
  have hin0 : ∀ w ∈ u_ws RX0 TX0 8, w ∈ wsX0_misfitsIn := by decide +kernel
  have hou := gI_61 hI q 0
  refine lv_iconst (v := iI (0)) hx hb dX0_misfitsIn_0 rfl ?_
  refine lv_istore (lv' := [(4, .int (iI (0))), (0, .ref (ad (75 + 3 * q))), (1, .ref (ad (33 + 7 * o))), (2, .int (iI (b))), (3, .int (iI (rw0)))]) hx hb dX0_misfitsIn_1 hl (by decide) rfl (fun ls hl => ?_)
  refine lv_iconst (v := iI (0)) hx hb dX0_misfitsIn_3 rfl ?_
  refine lv_istore (lv' := [(5, .int (iI (0))), (4, .int (iI (0))), (0, .ref (ad (75 + 3 * q))), (1, .ref (ad (33 + 7 * o))), (2, .int (iI (b))), (3, .int (iI (rw0)))]) hx hb dX0_misfitsIn_4 hl (by decide) rfl (fun ls hl => ?_)
  have hloop6 : ∀ (N : Nat)  (k : Nat) (H : Heap) (locs : List Loc) (ls : Array Slot), 17 - k < N → ((k : Int) ≤ 4 * st 61 q 0) →  GH D cy ad n st (gA n ad s.heap.size) s.heap H locs → lv_has ls 6 [(4, .int (iI (sumN (mfC st q o b rw0) k))), (5, .int (iI (((k : Nat) : Int)))), (0, .ref (ad (75 + 3 * q))), (1, .ref (ad (33 + 7 * o))), (2, .int (iI (b))), (3, .int (iI (rw0)))] → W p l e (headSpec wsX0_misfitsIn { frames := 2, cells := 0, slots := 0, locals := 45 }).room s m (#[.ref (ad (75 + 3 * q)), .ref (ad (33 + 7 * o)), .int (iI (b)), .int (iI (rw0))] : Array Value) below meth c H locs 0 0 (MQ below (va_Qi (fun (r : Int32) (st' : St) => r = iI (sumN (mfC st q o b rw0) (4 * st 61 q 0).toNat) ∧ st' = st) (gP D cy ad n) (gA n ad s.heap.size)) (#[.ref (ad (75 + 3 * q)), .ref (ad (33 + 7 * o)), .int (iI (b)), .int (iI (rw0))] : Array Value) s 0 0 (gA n ad s.heap.size)) (F0 m 6 ls []) := by
    intro N
    induction N with
    | zero => intro  k H locs ls hm; exact absurd hm (Nat.not_lt_zero _)
    | succ N ih6 =>
      intro  k H locs ls hm hk hG hl
      refine lv_iload hx hb dX0_misfitsIn_6 (lv_at hl 1 rfl) ?_
      refine lv_aload_n hx hb dX0_misfitsIn_8 rfl (lv_at hl 2 rfl) ?_
      refine g_goi hG hA (va_runV (As := []) (rest := [.int (iI (((k : Nat) : Int)))]) ⟨hx, hb, hml, hown, hts⟩ (mX0_columns l D cy ad n st _ fz wb hn hI (by omega) (q) (by omega)) (cwV 0 hts gX0_misfitsIn_X0_columns rfl rfl rfl (by decide +kernel) ⟨Nat.le_of_ble_eq_true rfl, Nat.le_of_ble_eq_true rfl⟩) ⟨g_blind, va_recv hK hG.1 (q0 := (75 + 3 * q) - 19) (ci := 0) rfl ((gw_at (k := 75 + 3 * q) (by omega)).trans (by rw [gC_l st ad cy q])), g_pre hK hG hA hN hZ⟩ rfl rfl hl.1 rfl (lv_room (Nat.le_of_ble_eq_true rfl)) dX0_misfitsIn_9 ⟨Nat.zero_le _, Nat.zero_le _⟩) (fun r9 s9 H locs hp hG => ?_)
      obtain ⟨rfl, hs9⟩ := hp
      rw [hs9] at hG
      clear hs9
      refine r_nm (fun v1 ev1 => ?_)
      refine r_icmp_ge (tgt := 41) hx hb (by omega) dX0_misfitsIn_12 (by decide) (fun c2 => ?_) (fun c2 => ?_)
      · skip
        refine lv_iload hx hb dX0_misfitsIn_41 (lv_at hl 0 rfl) ?_
        exact g_iret hx hb hr hlocks hG (by
          refine ⟨?_, rfl⟩
          congr 1
          rw [show (4 * st 61 q 0).toNat = k by omega]) dX0_misfitsIn_43
      · skip
        refine lv_aload_n hx hb dX0_misfitsIn_15 rfl (lv_at hl 3 rfl) ?_
        refine lv_iload_n hx hb dX0_misfitsIn_16 rfl (lv_at hl 5 rfl) ?_
        refine lv_iload hx hb dX0_misfitsIn_17 (lv_at hl 1 rfl) ?_
        refine lv_aload_n hx hb dX0_misfitsIn_19 rfl (lv_at hl 2 rfl) ?_
        refine lv_iload_n hx hb dX0_misfitsIn_20 rfl (lv_at hl 4 rfl) ?_
        refine lv_iload hx hb dX0_misfitsIn_21 (lv_at hl 1 rfl) ?_
        refine g_goi hG hA (va_runV (As := [.int (iI (b)), .int (iI (((k : Nat) : Int)))]) (rest := [.int (iI (((k : Nat) : Int))), .int (iI (rw0)), .ref (ad (33 + 7 * o))]) ⟨hx, hb, hml, hown, hts⟩ (mX0_needed l D cy ad n st _ fz wb hn hI (by omega) (q) (b) (((k : Nat) : Int)) (by omega) (by omega) (by omega)) (cwV 2 hts gX0_misfitsIn_X0_needed rfl rfl rfl (by decide +kernel) ⟨Nat.le_of_ble_eq_true rfl, Nat.le_of_ble_eq_true rfl⟩) ⟨g_blind, va_recv hK hG.1 (q0 := (75 + 3 * q) - 19) (ci := 0) rfl ((gw_at (k := 75 + 3 * q) (by omega)).trans (by rw [gC_l st ad cy q])), g_pre hK hG hA hN hZ⟩ rfl rfl hl.1 rfl (lv_room (Nat.le_of_ble_eq_true rfl)) dX0_misfitsIn_23 ⟨Nat.zero_le _, Nat.zero_le _⟩) (fun r9 s9 H locs hp hG => ?_)
        obtain ⟨rfl, hs9⟩ := hp
        rw [hs9] at hG
        clear hs9
        refine r_nm (fun v3 ev3 => ?_)
        have hr4 := needC_r hI (q) (b) (((k : Nat) : Int))
        rw [← ev3] at hr4
        have hnk : v3 = needC st q b ((k : Nat) : Int) := ev3
        refine g_goi hG hA (va_runV (As := [.int (iI (rw0)), .int (iI (((k : Nat) : Int))), .int (iI (v3))]) (rest := []) ⟨hx, hb, hml, hown, hts⟩ (mX4_isMisfit l D cy ad n st _ fz wb hn hI (by omega) (o) (rw0) (((k : Nat) : Int)) (v3) (by omega) (by omega) (by omega) (by omega)) (cwV 3 hts gX0_misfitsIn_X4_isMisfit rfl rfl rfl (by decide +kernel) ⟨Nat.le_of_ble_eq_true rfl, Nat.le_of_ble_eq_true rfl⟩) ⟨g_blind, va_recv hK hG.1 (q0 := (33 + 7 * o) - 19) (ci := 4) rfl ((gw_at (k := 33 + 7 * o) (by omega)).trans (by rw [gC_t st ad cy ho])), g_pre hK hG hA hN hZ⟩ rfl rfl hl.1 rfl (lv_room (Nat.le_of_ble_eq_true rfl)) dX0_misfitsIn_26 ⟨Nat.zero_le _, Nat.zero_le _⟩) (fun r9 s9 H locs hp hG => ?_)
        obtain ⟨rfl, hs9⟩ := hp
        rw [hs9] at hG
        clear hs9
        refine r_nm (fun v5 ev5 => ?_)
        have hr6 := msC_r st (o) (16 * (rw0) + (((k : Nat) : Int))) (v3)
        rw [← ev5] at hr6
        have hmk : v5 = mfC st q o b rw0 k := by rw [ev5, hnk]; rfl
        refine r_if_eq (tgt := 35) hx hb (by omega) dX0_misfitsIn_29 (by decide) (fun c7 => ?_) (fun c7 => ?_)
        · skip
          obtain ⟨v8, ev8⟩ : ∃ y9 : Int, y9 = ((k : Nat) : Int) + (1) := ⟨_, rfl⟩
          refine lv_iinc (v := iI v8) (lv' := [(5, .int (iI (v8))), (4, .int (iI (sumN (mfC st q o b rw0) k))), (0, .ref (ad (75 + 3 * q))), (1, .ref (ad (33 + 7 * o))), (2, .int (iI (b))), (3, .int (iI (rw0)))]) hx hb dX0_misfitsIn_35 hl (k := 1) rfl (by rw [ev8]; exact iI_add _ _) (by decide) rfl (fun ls hl => ?_)
          refine lv_goto (tgt := 6) hx hb dX0_misfitsIn_38 (by decide) ?_
          rw [show (sumN (mfC st q o b rw0) k : Int) = sumN (mfC st q o b rw0) (k + 1) from by (rw [sumN_s]; omega)] at hl
          rw [show (v8 : Int) = (((k + 1) : Nat) : Int) from by omega] at hl
          exact ih6  (k + 1) _ _ _ (by omega) (by omega) hG (lv_sub hl [1, 0, 2, 3, 4, 5] rfl)
        · skip
          obtain ⟨v9, ev9⟩ : ∃ y9 : Int, y9 = sumN (mfC st q o b rw0) k + (1) := ⟨_, rfl⟩
          refine lv_iinc (v := iI v9) (lv' := [(4, .int (iI (v9))), (5, .int (iI (((k : Nat) : Int)))), (0, .ref (ad (75 + 3 * q))), (1, .ref (ad (33 + 7 * o))), (2, .int (iI (b))), (3, .int (iI (rw0)))]) hx hb dX0_misfitsIn_32 hl (k := 0) rfl (by rw [ev9]; exact iI_add _ _) (by decide) rfl (fun ls hl => ?_)
          obtain ⟨v10, ev10⟩ : ∃ y9 : Int, y9 = ((k : Nat) : Int) + (1) := ⟨_, rfl⟩
          refine lv_iinc (v := iI v10) (lv' := [(5, .int (iI (v10))), (4, .int (iI (v9))), (0, .ref (ad (75 + 3 * q))), (1, .ref (ad (33 + 7 * o))), (2, .int (iI (b))), (3, .int (iI (rw0)))]) hx hb dX0_misfitsIn_35 hl (k := 1) rfl (by rw [ev10]; exact iI_add _ _) (by decide) rfl (fun ls hl => ?_)
          refine lv_goto (tgt := 6) hx hb dX0_misfitsIn_38 (by decide) ?_
          rw [show (v9 : Int) = sumN (mfC st q o b rw0) (k + 1) from by (rw [sumN_s]; omega)] at hl
          rw [show (v10 : Int) = (((k + 1) : Nat) : Int) from by omega] at hl
          exact ih6  (k + 1) _ _ _ (by omega) (by omega) hG (lv_sub hl [1, 0, 2, 3, 4, 5] rfl)
  exact hloop6 _  (0) _ _ _ (Nat.lt_succ_self _) (by omega) hG (lv_sub hl [1, 0, 2, 3, 4, 5] rfl)
set_option maxHeartbeats 400000 in
set_option maxRecDepth 100000 in
theorem mX0_conductsAsNeeded (l : Launch) (D : va_G) (cy : Nat → ClassId) (ad : Nat → Nat) (n : Nat) (st : St) (sz fz : Nat) (wb : Int) (hn : 75 ≤ n) (hI : GI wb st) (hW : wb ≤ 2000000) (q : Nat) (o : Nat) (hq : 77 + 3 * q < n) (ho : o < 6) (hsc : ∀ (o : Nat) (j : Int), st 42 o j ≤ st 30 0 0) : Met l yX0_conductsAsNeeded wsX0_conductsAsNeeded ({ frames := 2, cells := 0, slots := 0, locals := 46 }) (va_Pc [.ref (ad (75 + 3 * q)), .ref (ad (33 + 7 * o)), .ref (ad 22)] (gB D cy ad n st sz fz)) (va_Qi (fun (r : Int32) (st' : St) => r = iI (allK st q o (st 60 q 0).toNat) ∧ st' = st) (gP D cy ad n) (gA n ad sz)) 0 0 (gA n ad sz) := by
  refine Met.ofW (cc := cX0_conductsAsNeeded) (maxL := 5) (ret := (some .boolean)) (by decide) rfl ?_
  intro p e s m args below meth c s₁ B hml hv
  obtain ⟨rfl, hsz, hP, hK, hD0, hN, hZ⟩ := hv
  have hx := B.exec
  have hb := B.bytes
  have hr := B.returns
  have hts := atoms_spec (ws := wsX0_conductsAsNeeded) B.pre
  have hown : s.vm.findClass RX0 = some m.cls := findClass_of_methodNamed B.named
  have hlocks := B.notSynchronized
  subst hsz
  have hA : ∀ q : Nat, s.heap.size ≤ q → gA n ad s.heap.size q := fun q h => Or.inr h
  have hG : GH D cy ad n st (gA n ad s.heap.size) s.heap s.heap [] := ⟨hP, gw_A hD0, va_S.rf⟩
  have hl := lv_entry ([.ref (ad (75 + 3 * q)), .ref (ad (33 + 7 * o)), .ref (ad 22)]) (n := 5) (Nat.le_of_ble_eq_true rfl)
  rw [lg_entry_eq]
  generalize (lg_sl ([.ref (ad (75 + 3 * q)), .ref (ad (33 + 7 * o)), .ref (ad 22)]) ++ List.replicate (5 - (lg_sl ([.ref (ad (75 + 3 * q)), .ref (ad (33 + 7 * o)), .ref (ad 22)])).length) Slot.unset).toArray = ls at hl ⊢
  have hl : lv_has ls 5 [(0, .ref (ad (75 + 3 * q))), (1, .ref (ad (33 + 7 * o))), (2, .ref (ad 22))] := hl
  have hin0 : ∀ w ∈ u_ws RX0 TX0 8, w ∈ wsX0_conductsAsNeeded := by decide +kernel
  have L_15 := hts (.fieldLink RX0 15 "Crossbarry$Layer" "rows" "[I") (by decide +kernel)
  have L_33 := hts (.fieldLink RX0 33 "Crossbarry$Layer" "inputs" "I") (by decide +kernel)
  have hou := gI_61 hI q 0
  have hin := gI_60 hI q 0
  refine lv_iconst (v := iI (0)) hx hb dX0_conductsAsNeeded_0 rfl ?_
  refine lv_istore_n (lv' := [(3, .int (iI (0))), (0, .ref (ad (75 + 3 * q))), (1, .ref (ad (33 + 7 * o))), (2, .ref (ad 22))]) hx hb dX0_conductsAsNeeded_1 rfl hl (by decide) rfl (fun ls hl => ?_)
  have hloop2 : ∀ (N : Nat)  (i : Nat) (H : Heap) (locs : List Loc) (ls : Array Slot), 9 - i < N → ((i : Int) ≤ st 60 q 0) → (allK st q o i = 1) →  GH D cy ad n st (gA n ad s.heap.size) s.heap H locs → lv_has ls 5 [(3, .int (iI (((i : Nat) : Int)))), (0, .ref (ad (75 + 3 * q))), (1, .ref (ad (33 + 7 * o))), (2, .ref (ad 22))] → W p l e (headSpec wsX0_conductsAsNeeded { frames := 2, cells := 0, slots := 0, locals := 46 }).room s m (#[.ref (ad (75 + 3 * q)), .ref (ad (33 + 7 * o)), .ref (ad 22)] : Array Value) below meth c H locs 0 0 (MQ below (va_Qi (fun (r : Int32) (st' : St) => r = iI (allK st q o (st 60 q 0).toNat) ∧ st' = st) (gP D cy ad n) (gA n ad s.heap.size)) (#[.ref (ad (75 + 3 * q)), .ref (ad (33 + 7 * o)), .ref (ad 22)] : Array Value) s 0 0 (gA n ad s.heap.size)) (F0 m 2 ls []) := by
    intro N
    induction N with
    | zero => intro  i H locs ls hm; exact absurd hm (Nat.not_lt_zero _)
    | succ N ih2 =>
      intro  i H locs ls hm hi hal hG hl
      refine lv_iload_n hx hb dX0_conductsAsNeeded_2 rfl (lv_at hl 0 rfl) ?_
      refine lv_aload_n hx hb dX0_conductsAsNeeded_3 rfl (lv_at hl 1 rfl) ?_
      refine g_get hx hb hts hin0 hown hK hG (key := 75 + 3 * q) (by omega) (gC_l st ad cy q) rfl 1 (by decide) L_33 (fun _ h9 => h9) rfl dX0_conductsAsNeeded_4 ?_
      have hr1 := gI_60 hI (q) (0)
      refine r_nm (fun v2 ev2 => ?_)
      rw [← ev2] at hr1
      refine r_icmp_ge (tgt := 59) hx hb (by omega) dX0_conductsAsNeeded_7 (by decide) (fun c3 => ?_) (fun c3 => ?_)
      · skip
        refine lv_iconst (v := iI (1)) hx hb dX0_conductsAsNeeded_59 rfl ?_
        exact g_zret hx hb hr hlocks (narZ (by omega)) hG (by
          refine ⟨?_, rfl⟩
          congr 1
          rw [show (st 60 q 0).toNat = i by omega]
          exact hal.symm) dX0_conductsAsNeeded_60
      · skip
        refine lv_iconst (v := iI (0)) hx hb dX0_conductsAsNeeded_10 rfl ?_
        refine lv_istore (lv' := [(4, .int (iI (0))), (3, .int (iI (((i : Nat) : Int)))), (0, .ref (ad (75 + 3 * q))), (1, .ref (ad (33 + 7 * o))), (2, .ref (ad 22))]) hx hb dX0_conductsAsNeeded_11 hl (by decide) rfl (fun ls hl => ?_)
        have hloop13 : ∀ (N : Nat)  (k : Nat) (H : Heap) (locs : List Loc) (ls : Array Slot), 17 - k < N → ((k : Int) ≤ 4 * st 61 q 0) → (rowK st q o i k = 1) →  GH D cy ad n st (gA n ad s.heap.size) s.heap H locs → lv_has ls 5 [(4, .int (iI (((k : Nat) : Int)))), (3, .int (iI (((i : Nat) : Int)))), (0, .ref (ad (75 + 3 * q))), (1, .ref (ad (33 + 7 * o))), (2, .ref (ad 22))] → W p l e (headSpec wsX0_conductsAsNeeded { frames := 2, cells := 0, slots := 0, locals := 46 }).room s m (#[.ref (ad (75 + 3 * q)), .ref (ad (33 + 7 * o)), .ref (ad 22)] : Array Value) below meth c H locs 0 0 (MQ below (va_Qi (fun (r : Int32) (st' : St) => r = iI (allK st q o (st 60 q 0).toNat) ∧ st' = st) (gP D cy ad n) (gA n ad s.heap.size)) (#[.ref (ad (75 + 3 * q)), .ref (ad (33 + 7 * o)), .ref (ad 22)] : Array Value) s 0 0 (gA n ad s.heap.size)) (F0 m 13 ls []) := by
          intro N
          induction N with
          | zero => intro  k H locs ls hm; exact absurd hm (Nat.not_lt_zero _)
          | succ N ih13 =>
            intro  k H locs ls hm hk hrk hG hl
            refine lv_iload hx hb dX0_conductsAsNeeded_13 (lv_at hl 0 rfl) ?_
            refine lv_aload_n hx hb dX0_conductsAsNeeded_15 rfl (lv_at hl 2 rfl) ?_
            refine g_goi hG hA (va_runV (As := []) (rest := [.int (iI (((k : Nat) : Int)))]) ⟨hx, hb, hml, hown, hts⟩ (mX0_columns l D cy ad n st _ fz wb hn hI (by omega) (q) (by omega)) (cwV 0 hts gX0_conductsAsNeeded_X0_columns rfl rfl rfl (by decide +kernel) ⟨Nat.le_of_ble_eq_true rfl, Nat.le_of_ble_eq_true rfl⟩) ⟨g_blind, va_recv hK hG.1 (q0 := (75 + 3 * q) - 19) (ci := 0) rfl ((gw_at (k := 75 + 3 * q) (by omega)).trans (by rw [gC_l st ad cy q])), g_pre hK hG hA hN hZ⟩ rfl rfl hl.1 rfl (lv_room (Nat.le_of_ble_eq_true rfl)) dX0_conductsAsNeeded_16 ⟨Nat.zero_le _, Nat.zero_le _⟩) (fun r9 s9 H locs hp hG => ?_)
            obtain ⟨rfl, hs9⟩ := hp
            rw [hs9] at hG
            clear hs9
            refine r_nm (fun v4 ev4 => ?_)
            refine r_icmp_ge (tgt := 53) hx hb (by omega) dX0_conductsAsNeeded_19 (by decide) (fun c5 => ?_) (fun c5 => ?_)
            · skip
              obtain ⟨v6, ev6⟩ : ∃ y9 : Int, y9 = ((i : Nat) : Int) + (1) := ⟨_, rfl⟩
              refine lv_iinc (v := iI v6) (lv' := [(3, .int (iI (v6))), (4, .int (iI (((k : Nat) : Int)))), (0, .ref (ad (75 + 3 * q))), (1, .ref (ad (33 + 7 * o))), (2, .ref (ad 22))]) hx hb dX0_conductsAsNeeded_53 hl (k := 1) rfl (by rw [ev6]; exact iI_add _ _) (by decide) rfl (fun ls hl => ?_)
              refine lv_goto (tgt := 2) hx hb dX0_conductsAsNeeded_56 (by decide) ?_
              rw [show (v6 : Int) = (((i + 1) : Nat) : Int) from by omega] at hl
              exact ih2  (i + 1) _ _ _ (by omega) (by omega) (by rw [allK_s, if_neg (by omega), show (4 * st 61 q 0).toNat = k by omega]; exact hrk) hG (lv_sub hl [0, 2, 3, 4] rfl)
            · skip
              refine lv_aload_n hx hb dX0_conductsAsNeeded_22 rfl (lv_at hl 3 rfl) ?_
              refine lv_aload_n hx hb dX0_conductsAsNeeded_23 rfl (lv_at hl 2 rfl) ?_
              refine g_get hx hb hts hin0 hown hK hG (key := 75 + 3 * q) (by omega) (gC_l st ad cy q) rfl 4 (by decide) L_15 (fun _ h9 => h9) rfl dX0_conductsAsNeeded_24 ?_
              refine lv_iload_n hx hb dX0_conductsAsNeeded_27 rfl (lv_at hl 1 rfl) ?_
              refine g_iald hx hb hK hG (77 + 3 * q) (kd := 42) (o := q) (gk_l (o := q) (j := 2) (by decide)) rfl (by omega) (cp := 63) (ln := 8) rfl rfl (by omega) dX0_conductsAsNeeded_28 ?_
              have hr7 := gI_63 hI (q) (((i : Nat) : Int))
              refine r_nm (fun v8 ev8 => ?_)
              rw [← ev8] at hr7
              refine lv_iload hx hb dX0_conductsAsNeeded_29 (lv_at hl 0 rfl) ?_
              refine lv_aload_n hx hb dX0_conductsAsNeeded_31 rfl (lv_at hl 4 rfl) ?_
              refine g_goi hG hA (va_runV (As := [.int (iI (v8)), .int (iI (((k : Nat) : Int))), .ref (ad 22)]) (rest := []) ⟨hx, hb, hml, hown, hts⟩ (mX4_conducted l D cy ad n st _ fz wb hn hI (by omega) (o) (v8) (((k : Nat) : Int)) (by omega) (by omega) (by omega) (by omega)) (cwV 3 hts gX0_conductsAsNeeded_X4_conducted rfl rfl rfl (by decide +kernel) ⟨Nat.le_of_ble_eq_true rfl, Nat.le_of_ble_eq_true rfl⟩) ⟨g_blind, va_recv hK hG.1 (q0 := (33 + 7 * o) - 19) (ci := 4) rfl ((gw_at (k := 33 + 7 * o) (by omega)).trans (by rw [gC_t st ad cy ho])), g_pre hK hG hA hN hZ⟩ rfl rfl hl.1 rfl (lv_room (Nat.le_of_ble_eq_true rfl)) dX0_conductsAsNeeded_32 ⟨Nat.zero_le _, Nat.zero_le _⟩) (fun r9 s9 H locs hp hG => ?_)
              obtain ⟨rfl, hs9⟩ := hp
              rw [hs9] at hG
              clear hs9
              refine r_nm (fun v9 ev9 => ?_)
              have hr10 := conC_r hI (o) (16 * (v8) + (((k : Nat) : Int))) (hsc (o) _)
              rw [← ev9] at hr10
              have hcv : v9 = conC st o (16 * st 63 q (i : Int) + (k : Int)) := by subst_vars; rfl
              refine lv_aload_n hx hb dX0_conductsAsNeeded_35 rfl (lv_at hl 2 rfl) ?_
              refine lv_iload_n hx hb dX0_conductsAsNeeded_36 rfl (lv_at hl 1 rfl) ?_
              refine lv_iload hx hb dX0_conductsAsNeeded_37 (lv_at hl 0 rfl) ?_
              refine g_goi hG hA (va_runV (As := [.int (iI (((i : Nat) : Int))), .int (iI (((k : Nat) : Int)))]) (rest := [.int (iI (v9))]) ⟨hx, hb, hml, hown, hts⟩ (mX0_needed l D cy ad n st _ fz wb hn hI (by omega) (q) (((i : Nat) : Int)) (((k : Nat) : Int)) (by omega) (by omega) (by omega)) (cwV 2 hts gX0_conductsAsNeeded_X0_needed rfl rfl rfl (by decide +kernel) ⟨Nat.le_of_ble_eq_true rfl, Nat.le_of_ble_eq_true rfl⟩) ⟨g_blind, va_recv hK hG.1 (q0 := (75 + 3 * q) - 19) (ci := 0) rfl ((gw_at (k := 75 + 3 * q) (by omega)).trans (by rw [gC_l st ad cy q])), g_pre hK hG hA hN hZ⟩ rfl rfl hl.1 rfl (lv_room (Nat.le_of_ble_eq_true rfl)) dX0_conductsAsNeeded_39 ⟨Nat.zero_le _, Nat.zero_le _⟩) (fun r9 s9 H locs hp hG => ?_)
              obtain ⟨rfl, hs9⟩ := hp
              rw [hs9] at hG
              clear hs9
              refine r_nm (fun v11 ev11 => ?_)
              have hr12 := needC_r hI (q) (((i : Nat) : Int)) (((k : Nat) : Int))
              rw [← ev11] at hr12
              have hnv : v11 = needC st q (i : Int) (k : Int) := ev11
              refine r_icmp_eq (tgt := 47) hx hb (by omega) dX0_conductsAsNeeded_42 (by decide) (fun c13 => ?_) (fun c13 => ?_)
              · skip
                obtain ⟨v14, ev14⟩ : ∃ y9 : Int, y9 = ((k : Nat) : Int) + (1) := ⟨_, rfl⟩
                refine lv_iinc (v := iI v14) (lv' := [(4, .int (iI (v14))), (3, .int (iI (((i : Nat) : Int)))), (0, .ref (ad (75 + 3 * q))), (1, .ref (ad (33 + 7 * o))), (2, .ref (ad 22))]) hx hb dX0_conductsAsNeeded_47 hl (k := 0) rfl (by rw [ev14]; exact iI_add _ _) (by decide) rfl (fun ls hl => ?_)
                refine lv_goto (tgt := 13) hx hb dX0_conductsAsNeeded_50 (by decide) ?_
                rw [show (v14 : Int) = (((k + 1) : Nat) : Int) from by omega] at hl
                exact ih13  (k + 1) _ _ _ (by omega) (by omega) (by rw [rowK_s, if_neg (by omega)]; unfold okC; rw [if_pos (by rw [← hcv, ← hnv]; omega)]) hG (lv_sub hl [0, 1, 2, 3, 4] rfl)
              · skip
                refine lv_iconst (v := iI (0)) hx hb dX0_conductsAsNeeded_45 rfl ?_
                exact g_zret hx hb hr hlocks (narZ (by omega)) hG (by
                  refine ⟨?_, rfl⟩
                  congr 1
                  exact (allK_f (i := i) (k := k) (by omega) (by omega) (by rw [← hcv, ← hnv]; omega)).symm) dX0_conductsAsNeeded_46
        exact hloop13 _  (0) _ _ _ (Nat.lt_succ_self _) (by omega) (by rfl) hG (lv_sub hl [0, 1, 2, 3, 4] rfl)
  exact hloop2 _  (0) _ _ _ (Nat.lt_succ_self _) (by omega) (by rfl) hG (lv_sub hl [0, 1, 2, 3] rfl)
