set_option maxHeartbeats 400000 in
set_option maxRecDepth 100000 in
theorem mX4_leastError (l : Launch) (D : va_G) (cy : Nat → ClassId) (ad : Nat → Nat) (n : Nat) (st : St) (sz fz : Nat) (wb : Int) (hn : 75 ≤ n) (hI : GI wb st) (hW : wb ≤ 2000000) (o : Nat) (d : Int) (nd : Int) (ho : o < 6) (hd : 0 ≤ d ∧ d < 16) (hnd : 0 ≤ nd ∧ nd ≤ 120) : Met l yX4_leastError wsX4_leastError ({ frames := 2, cells := 0, slots := 0, locals := 44 }) (va_Pc [.ref (ad (33 + 7 * o)), .int (iI (d)), .int (iI (nd))] (gB D cy ad n st sz fz)) (va_Qi (fun (r : Int32) (st' : St) => r = iI (bestU (readC st o d) 0 (nd).toNat) ∧ st' = st) (gP D cy ad n) (gA n ad sz)) 0 0 (gA n ad sz) := by
  refine Met.ofW (cc := cX4_leastError) (maxL := 5) (ret := (some .int)) (by decide) rfl ?_
  intro p e s m args below meth c s₁ B hml hv
  obtain ⟨rfl, hsz, hP, hK, hD0, hN, hZ⟩ := hv
  have hx := B.exec
  have hb := B.bytes
  have hr := B.returns
  have hts := atoms_spec (ws := wsX4_leastError) B.pre
  have hown : s.vm.findClass RX4 = some m.cls := findClass_of_methodNamed B.named
  have hlocks := B.notSynchronized
  subst hsz
  have hA : ∀ q : Nat, s.heap.size ≤ q → gA n ad s.heap.size q := fun q h => Or.inr h
  have hG : GH D cy ad n st (gA n ad s.heap.size) s.heap s.heap [] := ⟨hP, gw_A hD0, va_S.rf⟩
  have hl := lv_entry ([.ref (ad (33 + 7 * o)), .int (iI (d)), .int (iI (nd))]) (n := 5) (Nat.le_of_ble_eq_true rfl)
  rw [lg_entry_eq]
  generalize (lg_sl ([.ref (ad (33 + 7 * o)), .int (iI (d)), .int (iI (nd))]) ++ List.replicate (5 - (lg_sl ([.ref (ad (33 + 7 * o)), .int (iI (d)), .int (iI (nd))])).length) Slot.unset).toArray = ls at hl ⊢
  have hl : lv_has ls 5 [(0, .ref (ad (33 + 7 * o))), (1, .int (iI (d))), (2, .int (iI (nd)))] := hl
  have hin4 : ∀ w ∈ u_ws RX4 TX4 12, w ∈ wsX4_leastError := by decide +kernel
  have L_82 := hts (.methodLink RX4 82 Lib.Math.min.name) (by decide +kernel)
  have Lcmin := hts (.code Lib.Math.min.name Lib.Math.min.code 2 (some .int)) (by decide +kernel)
  have Li := hts (.initialized "java/lang/Math") (by decide +kernel)
  have Lsmin := hts (.static Lib.Math.min.name) (by decide +kernel)
  refine lv_aload_n hx hb dX4_leastError_0 rfl (lv_at hl 0 rfl) ?_
  refine lv_iload_n hx hb dX4_leastError_1 rfl (lv_at hl 1 rfl) ?_
  refine lv_iconst (v := iI (0)) hx hb dX4_leastError_2 rfl ?_
  refine g_goi hG hA (va_runV (As := [.int (iI (d)), .int (iI (0))]) (rest := []) ⟨hx, hb, hml, hown, hts⟩ (mX4_read l D cy ad n st _ fz wb hn hI (by omega) (o) (d) (0) (by omega) (by omega) (by omega)) (cwV 2 hts gX4_leastError_X4_read rfl rfl rfl (by decide +kernel) ⟨Nat.le_of_ble_eq_true rfl, Nat.le_of_ble_eq_true rfl⟩) ⟨g_blind, va_recv hK hG.1 (q0 := (33 + 7 * o) - 19) (ci := 4) rfl ((gw_at (k := 33 + 7 * o) (by omega)).trans (by rw [gC_t st ad cy ho])), g_pre hK hG hA hN hZ⟩ rfl rfl hl.1 rfl (lv_room (Nat.le_of_ble_eq_true rfl)) dX4_leastError_3 ⟨Nat.zero_le _, Nat.zero_le _⟩) (fun r9 s9 H locs hp hG => ?_)
  obtain ⟨rfl, hs9⟩ := hp
  rw [hs9] at hG
  clear hs9
  refine r_nm (fun v1 ev1 => ?_)
  have hr2 := readC_q hI (o) (d) (0)
  rw [← ev1] at hr2
  refine lv_istore_n (lv' := [(3, .int (iI (v1))), (0, .ref (ad (33 + 7 * o))), (1, .int (iI (d))), (2, .int (iI (nd)))]) hx hb dX4_leastError_6 rfl hl (by decide) rfl (fun ls hl => ?_)
  refine lv_iconst (v := iI (1)) hx hb dX4_leastError_7 rfl ?_
  refine lv_istore (lv' := [(4, .int (iI (1))), (3, .int (iI (v1))), (0, .ref (ad (33 + 7 * o))), (1, .int (iI (d))), (2, .int (iI (nd)))]) hx hb dX4_leastError_8 hl (by decide) rfl (fun ls hl => ?_)
  have hloop10 : ∀ (N : Nat)  (kb : Nat) (H : Heap) (locs : List Loc) (ls : Array Slot), 121 - kb < N → ((kb : Int) ≤ nd) →  GH D cy ad n st (gA n ad s.heap.size) s.heap H locs → lv_has ls 5 [(3, .int (iI (bestU (readC st o d) 0 kb))), (4, .int (iI (((kb + 1 : Nat) : Int)))), (0, .ref (ad (33 + 7 * o))), (1, .int (iI (d))), (2, .int (iI (nd)))] → W p l e (headSpec wsX4_leastError { frames := 2, cells := 0, slots := 0, locals := 44 }).room s m (#[.ref (ad (33 + 7 * o)), .int (iI (d)), .int (iI (nd))] : Array Value) below meth c H locs 0 0 (MQ below (va_Qi (fun (r : Int32) (st' : St) => r = iI (bestU (readC st o d) 0 (nd).toNat) ∧ st' = st) (gP D cy ad n) (gA n ad s.heap.size)) (#[.ref (ad (33 + 7 * o)), .int (iI (d)), .int (iI (nd))] : Array Value) s 0 0 (gA n ad s.heap.size)) (F0 m 10 ls []) := by
    intro N
    induction N with
    | zero => intro  kb H locs ls hm; exact absurd hm (Nat.not_lt_zero _)
    | succ N ih10 =>
      intro  kb H locs ls hm hkb hG hl
      have hbr := bestU_r (readC_r hI o d) 0 kb
      refine lv_iload hx hb dX4_leastError_10 (lv_at hl 1 rfl) ?_
      refine lv_iload_n hx hb dX4_leastError_12 rfl (lv_at hl 4 rfl) ?_
      refine r_icmp_gt (tgt := 37) hx hb (by omega) dX4_leastError_13 (by decide) (fun c3 => ?_) (fun c3 => ?_)
      · skip
        refine lv_iload_n hx hb dX4_leastError_37 rfl (lv_at hl 0 rfl) ?_
        exact g_iret hx hb hr hlocks hG (by
          refine ⟨?_, rfl⟩
          congr 1
          rw [show nd.toNat = kb by omega]) dX4_leastError_38
      · skip
        refine lv_iload_n hx hb dX4_leastError_16 rfl (lv_at hl 0 rfl) ?_
        refine lv_aload_n hx hb dX4_leastError_17 rfl (lv_at hl 2 rfl) ?_
        refine lv_iload_n hx hb dX4_leastError_18 rfl (lv_at hl 3 rfl) ?_
        refine lv_iload hx hb dX4_leastError_19 (lv_at hl 1 rfl) ?_
        refine g_goi hG hA (va_runV (As := [.int (iI (d)), .int (iI (((kb + 1 : Nat) : Int)))]) (rest := [.int (iI (bestU (readC st o d) 0 kb))]) ⟨hx, hb, hml, hown, hts⟩ (mX4_read l D cy ad n st _ fz wb hn hI (by omega) (o) (d) (((kb + 1 : Nat) : Int)) (by omega) (by omega) (by omega)) (cwV 2 hts gX4_leastError_X4_read rfl rfl rfl (by decide +kernel) ⟨Nat.le_of_ble_eq_true rfl, Nat.le_of_ble_eq_true rfl⟩) ⟨g_blind, va_recv hK hG.1 (q0 := (33 + 7 * o) - 19) (ci := 4) rfl ((gw_at (k := 33 + 7 * o) (by omega)).trans (by rw [gC_t st ad cy ho])), g_pre hK hG hA hN hZ⟩ rfl rfl hl.1 rfl (lv_room (Nat.le_of_ble_eq_true rfl)) dX4_leastError_21 ⟨Nat.zero_le _, Nat.zero_le _⟩) (fun r9 s9 H locs hp hG => ?_)
        obtain ⟨rfl, hs9⟩ := hp
        rw [hs9] at hG
        clear hs9
        refine r_nm (fun v4 ev4 => ?_)
        have hr5 := readC_q hI (o) (d) (((kb + 1 : Nat) : Int))
        rw [← ev4] at hr5
        refine lv_iload hx hb dX4_leastError_24 (lv_at hl 1 rfl) ?_
        refine r_isub hx hb dX4_leastError_26 ?_
        refine r_nm (fun v6 ev6 => ?_)
        have hq7 : v6 = readC st o d ((kb + 1 : Nat) : Int) - ((kb + 1 : Nat) : Int) := by subst_vars; rfl
        refine va_mmin hx hb (hml.trans hl.1.symm) hown L_82 Lsmin Li Lcmin (Nat.le_of_ble_eq_true rfl) (Nat.le_of_ble_eq_true rfl) (by omega) (by omega) dX4_leastError_27 ?_
        refine r_asI (y := min (bestU (readC st o d) 0 kb) (v6)) (iI_min (by omega)) ?_
        refine r_nm (fun v7 ev7 => ?_)
        refine lv_istore_n (lv' := [(3, .int (iI (v7))), (4, .int (iI (((kb + 1 : Nat) : Int)))), (0, .ref (ad (33 + 7 * o))), (1, .int (iI (d))), (2, .int (iI (nd)))]) hx hb dX4_leastError_30 rfl hl (by decide) rfl (fun ls hl => ?_)
        obtain ⟨v8, ev8⟩ : ∃ y9 : Int, y9 = ((kb + 1 : Nat) : Int) + (1) := ⟨_, rfl⟩
        refine lv_iinc (v := iI v8) (lv' := [(4, .int (iI (v8))), (3, .int (iI (v7))), (0, .ref (ad (33 + 7 * o))), (1, .int (iI (d))), (2, .int (iI (nd)))]) hx hb dX4_leastError_31 hl (k := 1) rfl (by rw [ev8]; exact iI_add _ _) (by decide) rfl (fun ls hl => ?_)
        refine lv_goto (tgt := 10) hx hb dX4_leastError_34 (by decide) ?_
        rw [show (v7 : Int) = bestU (readC st o d) 0 (kb + 1) from by (rw [bestU_s, ← hq7]; split <;> omega)] at hl
        rw [show (v8 : Int) = (((kb + 1) + 1 : Nat) : Int) from by omega] at hl
        exact ih10  (kb + 1) _ _ _ (by omega) (by omega) hG (lv_sub hl [1, 0, 2, 3, 4] rfl)
  rw [show (v1 : Int) = bestU (readC st o d) 0 (0) from by (subst_vars; rfl)] at hl
  exact hloop10 _  (0) _ _ _ (Nat.lt_succ_self _) (by omega) hG (lv_sub hl [1, 0, 2, 3, 4] rfl)
set_option maxHeartbeats 400000 in
set_option maxRecDepth 100000 in
theorem mX4_greatestError (l : Launch) (D : va_G) (cy : Nat → ClassId) (ad : Nat → Nat) (n : Nat) (st : St) (sz fz : Nat) (wb : Int) (hn : 75 ≤ n) (hI : GI wb st) (hW : wb ≤ 2000000) (o : Nat) (d : Int) (nd : Int) (ho : o < 6) (hd : 0 ≤ d ∧ d < 16) (hnd : 0 ≤ nd ∧ nd ≤ 120) : Met l yX4_greatestError wsX4_greatestError ({ frames := 2, cells := 0, slots := 0, locals := 44 }) (va_Pc [.ref (ad (33 + 7 * o)), .int (iI (d)), .int (iI (nd))] (gB D cy ad n st sz fz)) (va_Qi (fun (r : Int32) (st' : St) => r = iI (bestU (readC st o d) 1 (nd).toNat) ∧ st' = st) (gP D cy ad n) (gA n ad sz)) 0 0 (gA n ad sz) := by
  refine Met.ofW (cc := cX4_greatestError) (maxL := 5) (ret := (some .int)) (by decide) rfl ?_
  intro p e s m args below meth c s₁ B hml hv
  obtain ⟨rfl, hsz, hP, hK, hD0, hN, hZ⟩ := hv
  have hx := B.exec
  have hb := B.bytes
  have hr := B.returns
  have hts := atoms_spec (ws := wsX4_greatestError) B.pre
  have hown : s.vm.findClass RX4 = some m.cls := findClass_of_methodNamed B.named
  have hlocks := B.notSynchronized
  subst hsz
  have hA : ∀ q : Nat, s.heap.size ≤ q → gA n ad s.heap.size q := fun q h => Or.inr h
  have hG : GH D cy ad n st (gA n ad s.heap.size) s.heap s.heap [] := ⟨hP, gw_A hD0, va_S.rf⟩
  have hl := lv_entry ([.ref (ad (33 + 7 * o)), .int (iI (d)), .int (iI (nd))]) (n := 5) (Nat.le_of_ble_eq_true rfl)
  rw [lg_entry_eq]
  generalize (lg_sl ([.ref (ad (33 + 7 * o)), .int (iI (d)), .int (iI (nd))]) ++ List.replicate (5 - (lg_sl ([.ref (ad (33 + 7 * o)), .int (iI (d)), .int (iI (nd))])).length) Slot.unset).toArray = ls at hl ⊢
  have hl : lv_has ls 5 [(0, .ref (ad (33 + 7 * o))), (1, .int (iI (d))), (2, .int (iI (nd)))] := hl
  have hin4 : ∀ w ∈ u_ws RX4 TX4 12, w ∈ wsX4_greatestError := by decide +kernel
  have L_66 := hts (.methodLink RX4 66 Lib.Math.max.name) (by decide +kernel)
  have Lcmax := hts (.code Lib.Math.max.name Lib.Math.max.code 2 (some .int)) (by decide +kernel)
  have Li := hts (.initialized "java/lang/Math") (by decide +kernel)
  have Lsmax := hts (.static Lib.Math.max.name) (by decide +kernel)
  refine lv_aload_n hx hb dX4_greatestError_0 rfl (lv_at hl 0 rfl) ?_
  refine lv_iload_n hx hb dX4_greatestError_1 rfl (lv_at hl 1 rfl) ?_
  refine lv_iconst (v := iI (0)) hx hb dX4_greatestError_2 rfl ?_
  refine g_goi hG hA (va_runV (As := [.int (iI (d)), .int (iI (0))]) (rest := []) ⟨hx, hb, hml, hown, hts⟩ (mX4_read l D cy ad n st _ fz wb hn hI (by omega) (o) (d) (0) (by omega) (by omega) (by omega)) (cwV 2 hts gX4_greatestError_X4_read rfl rfl rfl (by decide +kernel) ⟨Nat.le_of_ble_eq_true rfl, Nat.le_of_ble_eq_true rfl⟩) ⟨g_blind, va_recv hK hG.1 (q0 := (33 + 7 * o) - 19) (ci := 4) rfl ((gw_at (k := 33 + 7 * o) (by omega)).trans (by rw [gC_t st ad cy ho])), g_pre hK hG hA hN hZ⟩ rfl rfl hl.1 rfl (lv_room (Nat.le_of_ble_eq_true rfl)) dX4_greatestError_3 ⟨Nat.zero_le _, Nat.zero_le _⟩) (fun r9 s9 H locs hp hG => ?_)
  obtain ⟨rfl, hs9⟩ := hp
  rw [hs9] at hG
  clear hs9
  refine r_nm (fun v1 ev1 => ?_)
  have hr2 := readC_q hI (o) (d) (0)
  rw [← ev1] at hr2
  refine lv_istore_n (lv' := [(3, .int (iI (v1))), (0, .ref (ad (33 + 7 * o))), (1, .int (iI (d))), (2, .int (iI (nd)))]) hx hb dX4_greatestError_6 rfl hl (by decide) rfl (fun ls hl => ?_)
  refine lv_iconst (v := iI (1)) hx hb dX4_greatestError_7 rfl ?_
  refine lv_istore (lv' := [(4, .int (iI (1))), (3, .int (iI (v1))), (0, .ref (ad (33 + 7 * o))), (1, .int (iI (d))), (2, .int (iI (nd)))]) hx hb dX4_greatestError_8 hl (by decide) rfl (fun ls hl => ?_)
  have hloop10 : ∀ (N : Nat)  (kb : Nat) (H : Heap) (locs : List Loc) (ls : Array Slot), 121 - kb < N → ((kb : Int) ≤ nd) →  GH D cy ad n st (gA n ad s.heap.size) s.heap H locs → lv_has ls 5 [(3, .int (iI (bestU (readC st o d) 1 kb))), (4, .int (iI (((kb + 1 : Nat) : Int)))), (0, .ref (ad (33 + 7 * o))), (1, .int (iI (d))), (2, .int (iI (nd)))] → W p l e (headSpec wsX4_greatestError { frames := 2, cells := 0, slots := 0, locals := 44 }).room s m (#[.ref (ad (33 + 7 * o)), .int (iI (d)), .int (iI (nd))] : Array Value) below meth c H locs 0 0 (MQ below (va_Qi (fun (r : Int32) (st' : St) => r = iI (bestU (readC st o d) 1 (nd).toNat) ∧ st' = st) (gP D cy ad n) (gA n ad s.heap.size)) (#[.ref (ad (33 + 7 * o)), .int (iI (d)), .int (iI (nd))] : Array Value) s 0 0 (gA n ad s.heap.size)) (F0 m 10 ls []) := by
    intro N
    induction N with
    | zero => intro  kb H locs ls hm; exact absurd hm (Nat.not_lt_zero _)
    | succ N ih10 =>
      intro  kb H locs ls hm hkb hG hl
      have hbr := bestU_r (readC_r hI o d) 1 kb
      refine lv_iload hx hb dX4_greatestError_10 (lv_at hl 1 rfl) ?_
      refine lv_iload_n hx hb dX4_greatestError_12 rfl (lv_at hl 4 rfl) ?_
      refine r_icmp_gt (tgt := 37) hx hb (by omega) dX4_greatestError_13 (by decide) (fun c3 => ?_) (fun c3 => ?_)
      · skip
        refine lv_iload_n hx hb dX4_greatestError_37 rfl (lv_at hl 0 rfl) ?_
        exact g_iret hx hb hr hlocks hG (by
          refine ⟨?_, rfl⟩
          congr 1
          rw [show nd.toNat = kb by omega]) dX4_greatestError_38
      · skip
        refine lv_iload_n hx hb dX4_greatestError_16 rfl (lv_at hl 0 rfl) ?_
        refine lv_aload_n hx hb dX4_greatestError_17 rfl (lv_at hl 2 rfl) ?_
        refine lv_iload_n hx hb dX4_greatestError_18 rfl (lv_at hl 3 rfl) ?_
        refine lv_iload hx hb dX4_greatestError_19 (lv_at hl 1 rfl) ?_
        refine g_goi hG hA (va_runV (As := [.int (iI (d)), .int (iI (((kb + 1 : Nat) : Int)))]) (rest := [.int (iI (bestU (readC st o d) 1 kb))]) ⟨hx, hb, hml, hown, hts⟩ (mX4_read l D cy ad n st _ fz wb hn hI (by omega) (o) (d) (((kb + 1 : Nat) : Int)) (by omega) (by omega) (by omega)) (cwV 2 hts gX4_greatestError_X4_read rfl rfl rfl (by decide +kernel) ⟨Nat.le_of_ble_eq_true rfl, Nat.le_of_ble_eq_true rfl⟩) ⟨g_blind, va_recv hK hG.1 (q0 := (33 + 7 * o) - 19) (ci := 4) rfl ((gw_at (k := 33 + 7 * o) (by omega)).trans (by rw [gC_t st ad cy ho])), g_pre hK hG hA hN hZ⟩ rfl rfl hl.1 rfl (lv_room (Nat.le_of_ble_eq_true rfl)) dX4_greatestError_21 ⟨Nat.zero_le _, Nat.zero_le _⟩) (fun r9 s9 H locs hp hG => ?_)
        obtain ⟨rfl, hs9⟩ := hp
        rw [hs9] at hG
        clear hs9
        refine r_nm (fun v4 ev4 => ?_)
        have hr5 := readC_q hI (o) (d) (((kb + 1 : Nat) : Int))
        rw [← ev4] at hr5
        refine lv_iload hx hb dX4_greatestError_24 (lv_at hl 1 rfl) ?_
        refine r_isub hx hb dX4_greatestError_26 ?_
        refine r_nm (fun v6 ev6 => ?_)
        have hq7 : v6 = readC st o d ((kb + 1 : Nat) : Int) - ((kb + 1 : Nat) : Int) := by subst_vars; rfl
        refine va_mmax hx hb (hml.trans hl.1.symm) hown L_66 Lsmax Li Lcmax (Nat.le_of_ble_eq_true rfl) (Nat.le_of_ble_eq_true rfl) (by omega) (by omega) dX4_greatestError_27 ?_
        refine r_asI (y := max (bestU (readC st o d) 1 kb) (v6)) (iI_max (by omega)) ?_
        refine r_nm (fun v7 ev7 => ?_)
        refine lv_istore_n (lv' := [(3, .int (iI (v7))), (4, .int (iI (((kb + 1 : Nat) : Int)))), (0, .ref (ad (33 + 7 * o))), (1, .int (iI (d))), (2, .int (iI (nd)))]) hx hb dX4_greatestError_30 rfl hl (by decide) rfl (fun ls hl => ?_)
        obtain ⟨v8, ev8⟩ : ∃ y9 : Int, y9 = ((kb + 1 : Nat) : Int) + (1) := ⟨_, rfl⟩
        refine lv_iinc (v := iI v8) (lv' := [(4, .int (iI (v8))), (3, .int (iI (v7))), (0, .ref (ad (33 + 7 * o))), (1, .int (iI (d))), (2, .int (iI (nd)))]) hx hb dX4_greatestError_31 hl (k := 1) rfl (by rw [ev8]; exact iI_add _ _) (by decide) rfl (fun ls hl => ?_)
        refine lv_goto (tgt := 10) hx hb dX4_greatestError_34 (by decide) ?_
        rw [show (v7 : Int) = bestU (readC st o d) 1 (kb + 1) from by (rw [bestU_s, ← hq7]; split <;> omega)] at hl
        rw [show (v8 : Int) = (((kb + 1) + 1 : Nat) : Int) from by omega] at hl
        exact ih10  (kb + 1) _ _ _ (by omega) (by omega) hG (lv_sub hl [1, 0, 2, 3, 4] rfl)
  rw [show (v1 : Int) = bestU (readC st o d) 1 (0) from by (subst_vars; rfl)] at hl
  exact hloop10 _  (0) _ _ _ (Nat.lt_succ_self _) (by omega) hG (lv_sub hl [1, 0, 2, 3, 4] rfl)
set_option maxHeartbeats 400000 in
set_option maxRecDepth 100000 in
theorem mX4_givePulse (l : Launch) (D : va_G) (cy : Nat → ClassId) (ad : Nat → Nat) (n : Nat) (st : St) (sz fz : Nat) (wb : Int) (hn : 75 ≤ n) (hI : GI wb st) (hW : wb ≤ 2000000) (o : Nat) (i : Int) (want : Int) (most : Int) (ho : o < 6) (hi : 0 ≤ i ∧ i < 128) (hwt : 0 ≤ want ∧ want ≤ 15) (hms : 1 ≤ most ∧ most ≤ 100000) (hww : st 41 o i + 1 ≤ wb) : Met l yX4_givePulse wsX4_givePulse ({ frames := 1, cells := 0, slots := 0, locals := 21 }) (va_Pc [.ref (ad (33 + 7 * o)), .int (iI (i)), .int (iI (want)), .int (iI (most))] (gB D cy ad n st sz fz)) (va_Qv (fun (st' : St) => st' = setG 40 o st i (gpS (st 40 o i) want (st 43 o i)) (st 41 o i + 1) (st 42 o i) (gpK (st 41 o i) most (st 43 o i)) (st 44 o i) ∧ GI wb st') (gP D cy ad n) (gA n ad sz)) 0 0 (gA n ad sz) := by
  refine Met.ofW (cc := cX4_givePulse) (maxL := 4) (ret := none) (by decide) rfl ?_
  intro p e s m args below meth c s₁ B hml hv
  obtain ⟨rfl, hsz, hP, hK, hD0, hN, hZ⟩ := hv
  have hx := B.exec
  have hb := B.bytes
  have hr := B.returns
  have hts := atoms_spec (ws := wsX4_givePulse) B.pre
  have hown : s.vm.findClass RX4 = some m.cls := findClass_of_methodNamed B.named
  have hlocks := B.notSynchronized
  subst hsz
  have hA : ∀ q : Nat, s.heap.size ≤ q → gA n ad s.heap.size q := fun q h => Or.inr h
  have hG : GH D cy ad n st (gA n ad s.heap.size) s.heap s.heap [] := ⟨hP, gw_A hD0, va_S.rf⟩
  have hl := lv_entry ([.ref (ad (33 + 7 * o)), .int (iI (i)), .int (iI (want)), .int (iI (most))]) (n := 4) (Nat.le_of_ble_eq_true rfl)
  rw [lg_entry_eq]
  generalize (lg_sl ([.ref (ad (33 + 7 * o)), .int (iI (i)), .int (iI (want)), .int (iI (most))]) ++ List.replicate (4 - (lg_sl ([.ref (ad (33 + 7 * o)), .int (iI (i)), .int (iI (want)), .int (iI (most))])).length) Slot.unset).toArray = ls at hl ⊢
  have hl : lv_has ls 4 [(0, .ref (ad (33 + 7 * o))), (1, .int (iI (i))), (2, .int (iI (want))), (3, .int (iI (most)))] := hl
  have hin4 : ∀ w ∈ u_ws RX4 TX4 12, w ∈ wsX4_givePulse := by decide +kernel
  have L_15 := hts (.fieldLink RX4 15 "Crossbarry$Tile" "wears" "[I") (by decide +kernel)
  have L_21 := hts (.fieldLink RX4 21 "Crossbarry$Tile" "isStuck" "[Z") (by decide +kernel)
  have L_66 := hts (.methodLink RX4 66 Lib.Math.max.name) (by decide +kernel)
  have L_9 := hts (.fieldLink RX4 9 "Crossbarry$Tile" "states" "[I") (by decide +kernel)
  have Lcmax := hts (.code Lib.Math.max.name Lib.Math.max.code 2 (some .int)) (by decide +kernel)
  have Li := hts (.initialized "java/lang/Math") (by decide +kernel)
  have Lsmax := hts (.static Lib.Math.max.name) (by decide +kernel)
  have h40 := gI_40 hI o i
  have h43 := gI_43 hI o i
  have hgs := gpS_s (st 40 o i) want (st 43 o i)
  have hgk := gpK_s (st 41 o i) most (st 43 o i)
  refine lv_aload_n hx hb dX4_givePulse_0 rfl (lv_at hl 0 rfl) ?_
  refine g_get hx hb hts hin4 hown hK hG (key := 33 + 7 * o) (by omega) (gC_t st ad cy ho) rfl 2 (by decide) L_15 (fun _ h9 => h9) rfl dX4_givePulse_1 ?_
  refine lv_iload_n hx hb dX4_givePulse_4 rfl (lv_at hl 1 rfl) ?_
  refine lv_dup2_11 hx hb dX4_givePulse_5 rfl rfl ?_
  refine g_iald hx hb hK hG (35 + 7 * o) (kd := 35) (o := o) (gk_t (o := o) (j := 2) ho (by decide)) rfl (by omega) (cp := 41) (ln := 128) rfl rfl (by omega) dX4_givePulse_6 ?_
  have hr1 := gI_41 hI (o) (i)
  refine r_nm (fun v2 ev2 => ?_)
  rw [← ev2] at hr1
  refine lv_iconst (v := iI (1)) hx hb dX4_givePulse_7 rfl ?_
  refine r_iadd hx hb dX4_givePulse_8 ?_
  refine r_nm (fun v3 ev3 => ?_)
  refine g_iast hx hb hK hG (35 + 7 * o) (kd := 35) (o := o) (gk_t (o := o) (j := 2) ho (by decide)) rfl (by omega) (cp := 41) (ln := 128) rfl rfl (by omega) dX4_givePulse_9 (fun H locs hG => ?_)
  obtain ⟨st4, hst4⟩ : ∃ z : St, z = ust st 41 (o) (i) (v3) := ⟨_, rfl⟩
  rw [← hst4] at hG
  replace hI := hst4 ▸ gIu_41 hI (o) (i) (v := v3) (by omega)
  have qst4 : st4 = setG 40 (o) st (i) (st 40 o i) (v3) (st 42 o i) (st 43 o i) (st 44 o i) := by rw [hst4]; exact setG_u1 _ _ _ _ _
  refine lv_aload_n hx hb dX4_givePulse_10 rfl (lv_at hl 0 rfl) ?_
  refine g_get hx hb hts hin4 hown hK hG (key := 33 + 7 * o) (by omega) (gC_t st4 ad cy ho) rfl 4 (by decide) L_21 (fun _ h9 => h9) rfl dX4_givePulse_11 ?_
  refine lv_iload_n hx hb dX4_givePulse_14 rfl (lv_at hl 1 rfl) ?_
  refine g_zald hx hb hK hG (37 + 7 * o) (kd := 37) (o := o) (gk_t (o := o) (j := 4) ho (by decide)) rfl (by omega) (cp := 43) (ln := 128) rfl rfl (by omega) dX4_givePulse_15 ?_
  have kq5 : st4 43 (o) (i) = st 43 o i := by rw [qst4]; exact setG_r3 _ _ _ _ _ _ _ _ _
  have hr6 := gI_43 hI (o) (i)
  rw [kq5] at hr6
  refine r_as (y := st 43 o i) kq5 ?_
  refine r_if_eq (tgt := 20) hx hb (by omega) dX4_givePulse_16 (by decide) (fun c7 => ?_) (fun c7 => ?_)
  · skip
    refine lv_aload_n hx hb dX4_givePulse_20 rfl (lv_at hl 0 rfl) ?_
    refine g_get hx hb hts hin4 hown hK hG (key := 33 + 7 * o) (by omega) (gC_t st4 ad cy ho) rfl 1 (by decide) L_9 (fun _ h9 => h9) rfl dX4_givePulse_21 ?_
    refine lv_iload_n hx hb dX4_givePulse_24 rfl (lv_at hl 1 rfl) ?_
    have hlab58 : ∀ (sv : Int) (H : Heap) (locs : List Loc) (ls : Array Slot), ((st 40 o i < want ∧ sv = st 40 o i + 1) ∨ (want ≤ st 40 o i ∧ sv = max 0 (st 40 o i - 2))) →  GH D cy ad n st4 (gA n ad s.heap.size) s.heap H locs → lv_has ls 4 [(0, .ref (ad (33 + 7 * o))), (1, .int (iI (i))), (2, .int (iI (want))), (3, .int (iI (most)))] → W p l e (headSpec wsX4_givePulse { frames := 1, cells := 0, slots := 0, locals := 21 }).room s m (#[.ref (ad (33 + 7 * o)), .int (iI (i)), .int (iI (want)), .int (iI (most))] : Array Value) below meth c H locs 0 0 (MQ below (va_Qv (fun (st' : St) => st' = setG 40 o st i (gpS (st 40 o i) want (st 43 o i)) (st 41 o i + 1) (st 42 o i) (gpK (st 41 o i) most (st 43 o i)) (st 44 o i) ∧ GI wb st') (gP D cy ad n) (gA n ad s.heap.size)) (#[.ref (ad (33 + 7 * o)), .int (iI (i)), .int (iI (want)), .int (iI (most))] : Array Value) s 0 0 (gA n ad s.heap.size)) (F0 m 58 ls [.int (iI (sv)), .int (iI (i)), .ref (ad (34 + 7 * o))]) := by
      intro sv H locs ls hsv hG hl
      refine g_iast hx hb hK hG (34 + 7 * o) (kd := 34) (o := o) (gk_t (o := o) (j := 1) ho (by decide)) rfl (by omega) (cp := 40) (ln := 128) rfl rfl (by omega) dX4_givePulse_58 (fun H locs hG => ?_)
      obtain ⟨st8, hst8⟩ : ∃ z : St, z = ust st4 40 (o) (i) (sv) := ⟨_, rfl⟩
      rw [← hst8] at hG
      replace hI := hst8 ▸ gIu_40 hI (o) (i) (v := sv) (by omega)
      have qst8 : st8 = setG 40 (o) st (i) (sv) (v3) (st 42 o i) (st 43 o i) (st 44 o i) := by rw [hst8, qst4]; exact setG_0 _ _ _ _ _ _ _ _ _ _
      refine lv_aload_n hx hb dX4_givePulse_59 rfl (lv_at hl 0 rfl) ?_
      refine g_get hx hb hts hin4 hown hK hG (key := 33 + 7 * o) (by omega) (gC_t st8 ad cy ho) rfl 4 (by decide) L_21 (fun _ h9 => h9) rfl dX4_givePulse_60 ?_
      refine lv_iload_n hx hb dX4_givePulse_63 rfl (lv_at hl 1 rfl) ?_
      have hlab79 : ∀ (kv : Int) (H : Heap) (locs : List Loc) (ls : Array Slot), ((most ≤ st 41 o i + 1 ∧ kv = 1) ∨ (st 41 o i + 1 < most ∧ kv = 0)) →  GH D cy ad n st8 (gA n ad s.heap.size) s.heap H locs → lv_has ls 4 [(0, .ref (ad (33 + 7 * o))), (1, .int (iI (i))), (2, .int (iI (want))), (3, .int (iI (most)))] → W p l e (headSpec wsX4_givePulse { frames := 1, cells := 0, slots := 0, locals := 21 }).room s m (#[.ref (ad (33 + 7 * o)), .int (iI (i)), .int (iI (want)), .int (iI (most))] : Array Value) below meth c H locs 0 0 (MQ below (va_Qv (fun (st' : St) => st' = setG 40 o st i (gpS (st 40 o i) want (st 43 o i)) (st 41 o i + 1) (st 42 o i) (gpK (st 41 o i) most (st 43 o i)) (st 44 o i) ∧ GI wb st') (gP D cy ad n) (gA n ad s.heap.size)) (#[.ref (ad (33 + 7 * o)), .int (iI (i)), .int (iI (want)), .int (iI (most))] : Array Value) s 0 0 (gA n ad s.heap.size)) (F0 m 79 ls [.int (iI (kv)), .int (iI (i)), .ref (ad (37 + 7 * o))]) := by
        intro kv H locs ls hkv hG hl
        refine g_zast hx hb hK hG (37 + 7 * o) (kd := 37) (o := o) (gk_t (o := o) (j := 4) ho (by decide)) rfl (by omega) (cp := 43) (ln := 128) rfl rfl (by omega) (by omega) dX4_givePulse_79 (fun H locs hG => ?_)
        obtain ⟨st9, hst9⟩ : ∃ z : St, z = ust st8 43 (o) (i) (kv) := ⟨_, rfl⟩
        rw [← hst9] at hG
        replace hI := hst9 ▸ gIu_43 hI (o) (i) (v := kv) (by omega)
        have qst9 : st9 = setG 40 (o) st (i) (sv) (v3) (st 42 o i) (kv) (st 44 o i) := by rw [hst9, qst8]; exact setG_3 _ _ _ _ _ _ _ _ _ _
        exact g_vret hx hb hr hlocks hG (by
          exact ⟨qst9.trans (by congr 1 <;> omega), hI⟩) dX4_givePulse_80
      refine lv_aload_n hx hb dX4_givePulse_64 rfl (lv_at hl 0 rfl) ?_
      refine g_get hx hb hts hin4 hown hK hG (key := 33 + 7 * o) (by omega) (gC_t st8 ad cy ho) rfl 2 (by decide) L_15 (fun _ h9 => h9) rfl dX4_givePulse_65 ?_
      refine lv_iload_n hx hb dX4_givePulse_68 rfl (lv_at hl 1 rfl) ?_
      refine g_iald hx hb hK hG (35 + 7 * o) (kd := 35) (o := o) (gk_t (o := o) (j := 2) ho (by decide)) rfl (by omega) (cp := 41) (ln := 128) rfl rfl (by omega) dX4_givePulse_69 ?_
      have kq10 : st8 41 (o) (i) = v3 := by rw [qst8]; exact setG_r1 _ _ _ _ _ _ _ _ _
      have hr11 := gI_41 hI (o) (i)
      rw [kq10] at hr11
      refine r_as (y := v3) kq10 ?_
      refine lv_iload_n hx hb dX4_givePulse_70 rfl (lv_at hl 3 rfl) ?_
      refine r_icmp_lt (tgt := 78) hx hb (by omega) dX4_givePulse_71 (by decide) (fun c12 => ?_) (fun c12 => ?_)
      · skip
        refine lv_iconst (v := iI (0)) hx hb dX4_givePulse_78 rfl ?_
        exact hlab79 (0)  _ _ _ (by omega) hG (lv_sub hl [0, 1, 2, 3] rfl)
      · skip
        refine lv_iconst (v := iI (1)) hx hb dX4_givePulse_74 rfl ?_
        refine lv_goto (tgt := 79) hx hb dX4_givePulse_75 (by decide) ?_
        exact hlab79 (1)  _ _ _ (by omega) hG (lv_sub hl [0, 1, 2, 3] rfl)
    refine lv_aload_n hx hb dX4_givePulse_25 rfl (lv_at hl 0 rfl) ?_
    refine g_get hx hb hts hin4 hown hK hG (key := 33 + 7 * o) (by omega) (gC_t st4 ad cy ho) rfl 1 (by decide) L_9 (fun _ h9 => h9) rfl dX4_givePulse_26 ?_
    refine lv_iload_n hx hb dX4_givePulse_29 rfl (lv_at hl 1 rfl) ?_
    refine g_iald hx hb hK hG (34 + 7 * o) (kd := 34) (o := o) (gk_t (o := o) (j := 1) ho (by decide)) rfl (by omega) (cp := 40) (ln := 128) rfl rfl (by omega) dX4_givePulse_30 ?_
    have kq13 : st4 40 (o) (i) = st 40 o i := by rw [qst4]; exact setG_r0 _ _ _ _ _ _ _ _ _
    have hr14 := gI_40 hI (o) (i)
    rw [kq13] at hr14
    refine r_as (y := st 40 o i) kq13 ?_
    refine lv_iload_n hx hb dX4_givePulse_31 rfl (lv_at hl 2 rfl) ?_
    refine r_icmp_ge (tgt := 46) hx hb (by omega) dX4_givePulse_32 (by decide) (fun c15 => ?_) (fun c15 => ?_)
    · skip
      refine lv_iconst (v := iI (0)) hx hb dX4_givePulse_46 rfl ?_
      refine lv_aload_n hx hb dX4_givePulse_47 rfl (lv_at hl 0 rfl) ?_
      refine g_get hx hb hts hin4 hown hK hG (key := 33 + 7 * o) (by omega) (gC_t st4 ad cy ho) rfl 1 (by decide) L_9 (fun _ h9 => h9) rfl dX4_givePulse_48 ?_
      refine lv_iload_n hx hb dX4_givePulse_51 rfl (lv_at hl 1 rfl) ?_
      refine g_iald hx hb hK hG (34 + 7 * o) (kd := 34) (o := o) (gk_t (o := o) (j := 1) ho (by decide)) rfl (by omega) (cp := 40) (ln := 128) rfl rfl (by omega) dX4_givePulse_52 ?_
      have kq16 : st4 40 (o) (i) = st 40 o i := by rw [qst4]; exact setG_r0 _ _ _ _ _ _ _ _ _
      have hr17 := gI_40 hI (o) (i)
      rw [kq16] at hr17
      refine r_as (y := st 40 o i) kq16 ?_
      refine lv_iconst (v := iI (2)) hx hb dX4_givePulse_53 rfl ?_
      refine r_isub hx hb dX4_givePulse_54 ?_
      refine r_nm (fun v18 ev18 => ?_)
      refine va_mmax hx hb (hml.trans hl.1.symm) hown L_66 Lsmax Li Lcmax (Nat.le_of_ble_eq_true rfl) (Nat.le_of_ble_eq_true rfl) (by omega) (by omega) dX4_givePulse_55 ?_
      refine r_asI (y := max (0) (v18)) (iI_max (by omega)) ?_
      refine r_nm (fun v19 ev19 => ?_)
      exact hlab58 (v19)  _ _ _ (by omega) hG (lv_sub hl [0, 1, 2, 3] rfl)
    · skip
      refine lv_aload_n hx hb dX4_givePulse_35 rfl (lv_at hl 0 rfl) ?_
      refine g_get hx hb hts hin4 hown hK hG (key := 33 + 7 * o) (by omega) (gC_t st4 ad cy ho) rfl 1 (by decide) L_9 (fun _ h9 => h9) rfl dX4_givePulse_36 ?_
      refine lv_iload_n hx hb dX4_givePulse_39 rfl (lv_at hl 1 rfl) ?_
      refine g_iald hx hb hK hG (34 + 7 * o) (kd := 34) (o := o) (gk_t (o := o) (j := 1) ho (by decide)) rfl (by omega) (cp := 40) (ln := 128) rfl rfl (by omega) dX4_givePulse_40 ?_
      have kq20 : st4 40 (o) (i) = st 40 o i := by rw [qst4]; exact setG_r0 _ _ _ _ _ _ _ _ _
      have hr21 := gI_40 hI (o) (i)
      rw [kq20] at hr21
      refine r_as (y := st 40 o i) kq20 ?_
      refine lv_iconst (v := iI (1)) hx hb dX4_givePulse_41 rfl ?_
      refine r_iadd hx hb dX4_givePulse_42 ?_
      refine r_nm (fun v22 ev22 => ?_)
      refine lv_goto (tgt := 58) hx hb dX4_givePulse_43 (by decide) ?_
      exact hlab58 (v22)  _ _ _ (by omega) hG (lv_sub hl [0, 1, 2, 3] rfl)
  · skip
    exact g_vret hx hb hr hlocks hG (by
      exact ⟨qst4.trans (by congr 1 <;> omega), hI⟩) dX4_givePulse_19
set_option maxHeartbeats 400000 in
set_option maxRecDepth 100000 in
theorem mX4_failsToWrite (l : Launch) (D : va_G) (cy : Nat → ClassId) (ad : Nat → Nat) (n : Nat) (st : St) (sz fz : Nat) (wb : Int) (hn : 75 ≤ n) (hI : GI wb st) (hW : wb ≤ 1990000) (o : Nat) (a : Int) (b : Int) (want : Int) (ho : o < 6) (ha : 0 ≤ a ∧ a < 8) (hb0 : 0 ≤ b ∧ b < 16) (hwt : 0 ≤ want ∧ want ≤ 15) (hsc : ∀ (o : Nat) (j : Int), st 42 o j ≤ st 30 0 0) : Met l yX4_failsToWrite wsX4_failsToWrite ({ frames := 2, cells := 0, slots := 0, locals := 46 }) (va_Pc [.ref (ad (33 + 7 * o)), .int (iI (a)), .int (iI (b)), .int (iI (want)), .ref (ad 22)] (gB D cy ad n st sz fz)) (va_Qi (fun (r : Int32) (st' : St) => r = iI (wrCf st o (16 * a + b) want) ∧ st' = wrC st o (16 * a + b) want ∧ GI (wb + 16) st') (gP D cy ad n) (gA n ad sz)) 0 0 (gA n ad sz) := by
  refine Met.ofW (cc := cX4_failsToWrite) (maxL := 7) (ret := (some .boolean)) (by decide) rfl ?_
  intro p e s m args below meth c s₁ B hml hv
  obtain ⟨rfl, hsz, hP, hK, hD0, hN, hZ⟩ := hv
  have hx := B.exec
  have hb := B.bytes
  have hr := B.returns
  have hts := atoms_spec (ws := wsX4_failsToWrite) B.pre
  have hown : s.vm.findClass RX4 = some m.cls := findClass_of_methodNamed B.named
  have hlocks := B.notSynchronized
  subst hsz
  have hA : ∀ q : Nat, s.heap.size ≤ q → gA n ad s.heap.size q := fun q h => Or.inr h
  have hG : GH D cy ad n st (gA n ad s.heap.size) s.heap s.heap [] := ⟨hP, gw_A hD0, va_S.rf⟩
  have hl := lv_entry ([.ref (ad (33 + 7 * o)), .int (iI (a)), .int (iI (b)), .int (iI (want)), .ref (ad 22)]) (n := 7) (Nat.le_of_ble_eq_true rfl)
  rw [lg_entry_eq]
  generalize (lg_sl ([.ref (ad (33 + 7 * o)), .int (iI (a)), .int (iI (b)), .int (iI (want)), .ref (ad 22)]) ++ List.replicate (7 - (lg_sl ([.ref (ad (33 + 7 * o)), .int (iI (a)), .int (iI (b)), .int (iI (want)), .ref (ad 22)])).length) Slot.unset).toArray = ls at hl ⊢
  have hl : lv_has ls 7 [(0, .ref (ad (33 + 7 * o))), (1, .int (iI (a))), (2, .int (iI (b))), (3, .int (iI (want))), (4, .ref (ad 22))] := hl
  have hin4 : ∀ w ∈ u_ws RX4 TX4 12, w ∈ wsX4_failsToWrite := by decide +kernel
  have hin3 : ∀ w ∈ u_ws RX3 TX3 3, w ∈ wsX4_failsToWrite := by decide +kernel
  have L_18 := hts (.fieldLink RX4 18 "Crossbarry$Tile" "hours" "[I") (by decide +kernel)
  have L_21 := hts (.fieldLink RX4 21 "Crossbarry$Tile" "isStuck" "[Z") (by decide +kernel)
  have L_25 := hts (.fieldLink RX4 25 "Crossbarry$Tile" "isKnown" "[Z") (by decide +kernel)
  have L_60 := hts (.fieldLink RX4 60 "Crossbarry$Setting" "now" "I") (by decide +kernel)
  have L_75 := hts (.fieldLink RX4 75 "Crossbarry$Setting" "mostWear" "I") (by decide +kernel)
  have L_9 := hts (.fieldLink RX4 9 "Crossbarry$Tile" "states" "[I") (by decide +kernel)
  have hI0 := hI
  replace hI := GI_mono (W' := wb + 16) (by omega) hI
  refine lv_iload_n hx hb dX4_failsToWrite_0 rfl (lv_at hl 1 rfl) ?_
  refine lv_iload_n hx hb dX4_failsToWrite_1 rfl (lv_at hl 2 rfl) ?_
  refine g_goi hG hA (va_runSN (As := [.int (iI (a)), .int (iI (b))]) (rest := []) ⟨hx, hb, hml, hown, hts⟩ (mX5_indexOf l D cy ad n st _ fz (wb + 16) hn hI (by omega) (a) (b) ) ⟨va_cnB 2 hts gX4_failsToWrite_X5_indexOf_n51 rfl rfl rfl (hN.1 (.methodLinkNest RX4 51 yX5_indexOf RX5) (by decide +kernel)) (hts (.initialized RX5) (by decide +kernel)) (by decide +kernel) ⟨Nat.le_of_ble_eq_true rfl, Nat.le_of_ble_eq_true rfl⟩, hts (.static yX5_indexOf) (by decide +kernel), trivial⟩ ⟨g_blind, g_pre hK hG hA hN hZ⟩ rfl rfl hl.1 rfl (lv_room (Nat.le_of_ble_eq_true rfl)) dX4_failsToWrite_2 ⟨Nat.zero_le _, Nat.zero_le _⟩) (fun r9 s9 H locs hp hG => ?_)
  obtain ⟨rfl, hs9⟩ := hp
  rw [hs9] at hG
  clear hs9
  refine r_nm (fun v1 ev1 => ?_)
  obtain ⟨ix, hix⟩ : ∃ z9 : Int, z9 = v1 := ⟨_, rfl⟩
  have hix2 : ix = 16 * a + b := by omega
  have qst : st = setG 40 o st ix (st 40 o ix) (st 41 o ix) (st 42 o ix) (st 43 o ix) (st 44 o ix) := setG_self 40 o st ix
  have hw5 := gI_41 hI0 o ix
  have hw44 := gI_44 hI0 o ix
  refine r_as (y := ix) (by omega) ?_
  refine lv_istore (lv' := [(5, .int (iI (ix))), (0, .ref (ad (33 + 7 * o))), (1, .int (iI (a))), (2, .int (iI (b))), (3, .int (iI (want))), (4, .ref (ad 22))]) hx hb dX4_failsToWrite_5 hl (by decide) rfl (fun ls hl => ?_)
  have hlab44 : ∀  (sta : St) (H : Heap) (locs : List Loc) (ls : Array Slot), (sta = setG 40 o st ix (if st 43 o ix = 1 then st 40 o ix else conC st o ix) (st 41 o ix) (if st 43 o ix = 1 then st 42 o ix else st 30 0 0) (st 43 o ix) (st 44 o ix)) → GI (wb + 16) sta → GH D cy ad n sta (gA n ad s.heap.size) s.heap H locs → lv_has ls 7 [(5, .int (iI (ix))), (0, .ref (ad (33 + 7 * o))), (1, .int (iI (a))), (2, .int (iI (b))), (3, .int (iI (want))), (4, .ref (ad 22))] → W p l e (headSpec wsX4_failsToWrite { frames := 2, cells := 0, slots := 0, locals := 46 }).room s m (#[.ref (ad (33 + 7 * o)), .int (iI (a)), .int (iI (b)), .int (iI (want)), .ref (ad 22)] : Array Value) below meth c H locs 0 0 (MQ below (va_Qi (fun (r : Int32) (st' : St) => r = iI (wrCf st o (16 * a + b) want) ∧ st' = wrC st o (16 * a + b) want ∧ GI (wb + 16) st') (gP D cy ad n) (gA n ad s.heap.size)) (#[.ref (ad (33 + 7 * o)), .int (iI (a)), .int (iI (b)), .int (iI (want)), .ref (ad 22)] : Array Value) s 0 0 (gA n ad s.heap.size)) (F0 m 44 ls []) := by
    intro  sta H locs ls hsta hI hG hl
    have qsta := hsta
    refine lv_iconst (v := iI (0)) hx hb dX4_failsToWrite_44 rfl ?_
    refine lv_istore (lv' := [(6, .int (iI (0))), (5, .int (iI (ix))), (0, .ref (ad (33 + 7 * o))), (1, .int (iI (a))), (2, .int (iI (b))), (3, .int (iI (want))), (4, .ref (ad 22))]) hx hb dX4_failsToWrite_45 hl (by decide) rfl (fun ls hl => ?_)
    have hloop47 : ∀ (N : Nat) (x6 : Int) (s1 : Int) (w1 : Int) (k1 : Int) (stb : St) (H : Heap) (locs : List Loc) (ls : Array Slot), (16 - x6).toNat < N → (0 ≤ x6 ∧ x6 ≤ 16) → (stb = setG 40 o st ix s1 w1 (if st 43 o ix = 1 then st 42 o ix else st 30 0 0) k1 (st 44 o ix)) → (wrL (st 32 0 0) want (16 - x6).toNat s1 w1 k1 = wrL (st 32 0 0) want 16 (if st 43 o ix = 1 then st 40 o ix else conC st o ix) (st 41 o ix) (st 43 o ix)) → (w1 ≤ st 41 o ix + x6) → GI (wb + 16) stb → GH D cy ad n stb (gA n ad s.heap.size) s.heap H locs → lv_has ls 7 [(6, .int (iI (x6))), (5, .int (iI (ix))), (0, .ref (ad (33 + 7 * o))), (1, .int (iI (a))), (2, .int (iI (b))), (3, .int (iI (want))), (4, .ref (ad 22))] → W p l e (headSpec wsX4_failsToWrite { frames := 2, cells := 0, slots := 0, locals := 46 }).room s m (#[.ref (ad (33 + 7 * o)), .int (iI (a)), .int (iI (b)), .int (iI (want)), .ref (ad 22)] : Array Value) below meth c H locs 0 0 (MQ below (va_Qi (fun (r : Int32) (st' : St) => r = iI (wrCf st o (16 * a + b) want) ∧ st' = wrC st o (16 * a + b) want ∧ GI (wb + 16) st') (gP D cy ad n) (gA n ad s.heap.size)) (#[.ref (ad (33 + 7 * o)), .int (iI (a)), .int (iI (b)), .int (iI (want)), .ref (ad 22)] : Array Value) s 0 0 (gA n ad s.heap.size)) (F0 m 47 ls []) := by
      intro N
      induction N with
      | zero => intro x6 s1 w1 k1 stb H locs ls hm; exact absurd hm (Nat.not_lt_zero _)
      | succ N ih47 =>
        intro x6 s1 w1 k1 stb H locs ls hm hx6 hstb hfin hw1 hI hG hl
        have qstb := hstb
        have hlab83 : ∀  (H : Heap) (locs : List Loc) (ls : Array Slot), (wrL (st 32 0 0) want 16 (if st 43 o ix = 1 then st 40 o ix else conC st o ix) (st 41 o ix) (st 43 o ix) = (s1, w1, k1)) →  GH D cy ad n stb (gA n ad s.heap.size) s.heap H locs → lv_has ls 7 [(5, .int (iI (ix))), (0, .ref (ad (33 + 7 * o))), (1, .int (iI (a))), (2, .int (iI (b))), (3, .int (iI (want))), (4, .ref (ad 22))] → W p l e (headSpec wsX4_failsToWrite { frames := 2, cells := 0, slots := 0, locals := 46 }).room s m (#[.ref (ad (33 + 7 * o)), .int (iI (a)), .int (iI (b)), .int (iI (want)), .ref (ad 22)] : Array Value) below meth c H locs 0 0 (MQ below (va_Qi (fun (r : Int32) (st' : St) => r = iI (wrCf st o (16 * a + b) want) ∧ st' = wrC st o (16 * a + b) want ∧ GI (wb + 16) st') (gP D cy ad n) (gA n ad s.heap.size)) (#[.ref (ad (33 + 7 * o)), .int (iI (a)), .int (iI (b)), .int (iI (want)), .ref (ad 22)] : Array Value) s 0 0 (gA n ad s.heap.size)) (F0 m 83 ls []) := by
          intro  H locs ls hres hG hl
          refine lv_aload_n hx hb dX4_failsToWrite_83 rfl (lv_at hl 1 rfl) ?_
          refine g_get hx hb hts hin4 hown hK hG (key := 33 + 7 * o) (by omega) (gC_t stb ad cy ho) rfl 1 (by decide) L_9 (fun _ h9 => h9) rfl dX4_failsToWrite_84 ?_
          refine lv_iload hx hb dX4_failsToWrite_87 (lv_at hl 0 rfl) ?_
          refine g_iald hx hb hK hG (34 + 7 * o) (kd := 34) (o := o) (gk_t (o := o) (j := 1) ho (by decide)) rfl (by omega) (cp := 40) (ln := 128) rfl rfl (by omega) dX4_failsToWrite_89 ?_
          have kq2 : stb 40 (o) (ix) = s1 := by rw [qstb]; exact setG_r0 _ _ _ _ _ _ _ _ _
          have hr3 := gI_40 hI (o) (ix)
          rw [kq2] at hr3
          refine r_as (y := s1) kq2 ?_
          refine lv_iload_n hx hb dX4_failsToWrite_90 rfl (lv_at hl 4 rfl) ?_
          refine r_icmp_ne (tgt := 96) hx hb (by omega) dX4_failsToWrite_91 (by decide) (fun c4 => ?_) (fun c4 => ?_)
          · skip
            refine lv_aload_n hx hb dX4_failsToWrite_96 rfl (lv_at hl 1 rfl) ?_
            refine g_get hx hb hts hin4 hown hK hG (key := 33 + 7 * o) (by omega) (gC_t stb ad cy ho) rfl 5 (by decide) L_25 (fun _ h9 => h9) rfl dX4_failsToWrite_97 ?_
            refine lv_iload hx hb dX4_failsToWrite_100 (lv_at hl 0 rfl) ?_
            refine lv_iconst (v := iI (1)) hx hb dX4_failsToWrite_102 rfl ?_
            refine g_zast hx hb hK hG (38 + 7 * o) (kd := 38) (o := o) (gk_t (o := o) (j := 5) ho (by decide)) rfl (by omega) (cp := 44) (ln := 128) rfl rfl (by omega) (by omega) dX4_failsToWrite_103 (fun H locs hG => ?_)
            obtain ⟨st5, hst5⟩ : ∃ z : St, z = ust stb 44 (o) (ix) (1) := ⟨_, rfl⟩
            rw [← hst5] at hG
            replace hI := hst5 ▸ gIu_44 hI (o) (ix) (v := 1) (by omega)
            have qst5 : st5 = setG 40 (o) st (ix) (s1) (w1) ((if st 43 o ix = 1 then st 42 o ix else st 30 0 0)) (k1) (1) := by rw [hst5, qstb]; exact setG_4 _ _ _ _ _ _ _ _ _ _
            refine lv_iconst (v := iI (1)) hx hb dX4_failsToWrite_104 rfl ?_
            exact g_zret hx hb hr hlocks (narZ (by omega)) hG (by
              have e9 := wrC_eq hres (kn := 1) (by first | (split <;> omega) | (rw [if_pos (by omega)]; done) | (rw [if_neg (by omega)]; done))
              rw [hix2] at e9
              refine ⟨?_, ?_, hI⟩
              · rw [wrCf_eq e9]; congr 1; first | (rw [if_pos (by omega)]; done) | (rw [if_neg (by omega)]; done)
              · rw [e9, ← hix2]; exact qst5) dX4_failsToWrite_105
          · skip
            refine lv_iconst (v := iI (0)) hx hb dX4_failsToWrite_94 rfl ?_
            exact g_zret hx hb hr hlocks (narZ (by omega)) hG (by
              have e9 := wrC_eq hres (kn := st 44 o ix) (by first | (split <;> omega) | (rw [if_pos (by omega)]; done) | (rw [if_neg (by omega)]; done))
              rw [hix2] at e9
              refine ⟨?_, ?_, hI⟩
              · rw [wrCf_eq e9]; congr 1; first | (rw [if_pos (by omega)]; done) | (rw [if_neg (by omega)]; done)
              · rw [e9, ← hix2]; exact qstb) dX4_failsToWrite_95
        refine lv_iload hx hb dX4_failsToWrite_47 (lv_at hl 0 rfl) ?_
        refine lv_bipush (v := iI (16)) hx hb dX4_failsToWrite_49 (by decide +kernel) ?_
        refine r_icmp_ge (tgt := 83) hx hb (by omega) dX4_failsToWrite_51 (by decide) (fun c6 => ?_) (fun c6 => ?_)
        · skip
          exact hlab83   _ _ _ (by exact (hfin.symm.trans (wrL_end (by omega)))) hG (lv_sub hl [1, 2, 3, 4, 5, 6] rfl)
        · skip
          refine lv_aload_n hx hb dX4_failsToWrite_54 rfl (lv_at hl 2 rfl) ?_
          refine g_get hx hb hts hin4 hown hK hG (key := 33 + 7 * o) (by omega) (gC_t stb ad cy ho) rfl 1 (by decide) L_9 (fun _ h9 => h9) rfl dX4_failsToWrite_55 ?_
          refine lv_iload hx hb dX4_failsToWrite_58 (lv_at hl 1 rfl) ?_
          refine g_iald hx hb hK hG (34 + 7 * o) (kd := 34) (o := o) (gk_t (o := o) (j := 1) ho (by decide)) rfl (by omega) (cp := 40) (ln := 128) rfl rfl (by omega) dX4_failsToWrite_60 ?_
          have kq7 : stb 40 (o) (ix) = s1 := by rw [qstb]; exact setG_r0 _ _ _ _ _ _ _ _ _
          have hr8 := gI_40 hI (o) (ix)
          rw [kq7] at hr8
          refine r_as (y := s1) kq7 ?_
          refine lv_iload_n hx hb dX4_failsToWrite_61 rfl (lv_at hl 5 rfl) ?_
          refine r_icmp_eq (tgt := 83) hx hb (by omega) dX4_failsToWrite_62 (by decide) (fun c9 => ?_) (fun c9 => ?_)
          · skip
            exact hlab83   _ _ _ (by exact (hfin.symm.trans (wrL_end (by omega)))) hG (lv_sub hl [1, 2, 3, 4, 5, 6] rfl)
          · skip
            refine lv_aload_n hx hb dX4_failsToWrite_65 rfl (lv_at hl 2 rfl) ?_
            refine lv_iload hx hb dX4_failsToWrite_66 (lv_at hl 1 rfl) ?_
            refine lv_iload_n hx hb dX4_failsToWrite_68 rfl (lv_at hl 5 rfl) ?_
            refine lv_aload hx hb dX4_failsToWrite_69 (lv_at hl 6 rfl) ?_
            refine g_get hx hb hts hin3 hown hK hG (key := 22) (by omega) (gC_22 stb ad cy) rfl 2 (by decide) L_75 (fun _ h9 => h9) rfl dX4_failsToWrite_71 ?_
            have hr10 := gI_32 hI (0) (0)
            have kq11 : stb 32 (0) (0) = st 32 (0) (0) := by rw [qstb, setG_c _ _ _ _ _ _ _ _ _ (by decide)]
            rw [kq11] at hr10
            refine r_as kq11 ?_
            clear kq11
            refine r_nm (fun v12 ev12 => ?_)
            rw [← ev12] at hr10
            have hmw : v12 = st 32 0 0 := ev12
            have hb0 : stb 40 o ix = s1 := by rw [hstb]; exact setG_r0 _ _ _ _ _ _ _ _ _
            have hb1 : stb 41 o ix = w1 := by rw [hstb]; exact setG_r1 _ _ _ _ _ _ _ _ _
            have hb2 : stb 42 o ix = (if st 43 o ix = 1 then st 42 o ix else st 30 0 0) := by rw [hstb]; exact setG_r2 _ _ _ _ _ _ _ _ _
            have hb3 : stb 43 o ix = k1 := by rw [hstb]; exact setG_r3 _ _ _ _ _ _ _ _ _
            have hb4 : stb 44 o ix = st 44 o ix := by rw [hstb]; exact setG_r4 _ _ _ _ _ _ _ _ _
            refine g_gov hG hA (va_runV (As := [.int (iI (ix)), .int (iI (want)), .int (iI (v12))]) (rest := []) ⟨hx, hb, hml, hown, hts⟩ (mX4_givePulse l D cy ad n stb _ fz (wb + 16) hn hI (by omega) (o) (ix) (want) (v12) (by omega) (by omega) (by omega) (by omega) (by omega)) (cwV 3 hts gX4_failsToWrite_X4_givePulse rfl rfl rfl (by decide +kernel) ⟨Nat.le_of_ble_eq_true rfl, Nat.le_of_ble_eq_true rfl⟩) ⟨g_blind, va_recv hK hG.1 (q0 := (33 + 7 * o) - 19) (ci := 4) rfl ((gw_at (k := 33 + 7 * o) (by omega)).trans (by rw [gC_t stb ad cy ho])), g_pre hK hG hA hN hZ⟩ rfl rfl hl.1 rfl (lv_room (Nat.le_of_ble_eq_true rfl)) dX4_failsToWrite_74 ⟨Nat.zero_le _, Nat.zero_le _⟩) (fun st13 H locs hp => ?_)
            intro hG
            obtain ⟨hs9, hI⟩ := hp
            rw [hb0, hb1, hb2, hb3, hb4] at hs9
            have hgs := gpS_s s1 want k1
            have hgk := gpK_s w1 (v12) k1
            have hst2 : st13 = setG 40 o st ix (gpS s1 want k1) (w1 + 1) (if st 43 o ix = 1 then st 42 o ix else st 30 0 0) (gpK w1 (v12) k1) (st 44 o ix) := hs9.trans (by rw [hstb]; exact setG_G _ _ _ _ _ _ _ _ _ _ _ _ _ _)
            obtain ⟨v14, ev14⟩ : ∃ y9 : Int, y9 = x6 + (1) := ⟨_, rfl⟩
            refine lv_iinc (v := iI v14) (lv' := [(6, .int (iI (v14))), (5, .int (iI (ix))), (0, .ref (ad (33 + 7 * o))), (1, .int (iI (a))), (2, .int (iI (b))), (3, .int (iI (want))), (4, .ref (ad 22))]) hx hb dX4_failsToWrite_77 hl (k := 0) rfl (by rw [ev14]; exact iI_add _ _) (by decide) rfl (fun ls hl => ?_)
            refine lv_goto (tgt := 47) hx hb dX4_failsToWrite_80 (by decide) ?_
            exact ih47 (v14) (gpS s1 want k1) (w1 + 1) (gpK w1 (st 32 0 0) k1) st13 _ _ _ (by omega) (by omega) (by rw [hst2, hmw]) (by exact (wrL_gp (x := x6) (y := (v14)) (by omega) (by omega) (by omega)).trans hfin) (by omega) hI hG (lv_sub hl [0, 1, 2, 3, 4, 5, 6] rfl)
    exact hloop47 _ (0) ((if st 43 o ix = 1 then st 40 o ix else conC st o ix)) (st 41 o ix) (st 43 o ix) sta _ _ _ (Nat.lt_succ_self _) (by omega) (by exact hsta) (by rw [show ((16 : Int) - 0).toNat = 16 from rfl]) (by omega) hI hG (lv_sub hl [0, 1, 2, 3, 4, 5, 6] rfl)
  refine lv_aload_n hx hb dX4_failsToWrite_7 rfl (lv_at hl 1 rfl) ?_
  refine g_get hx hb hts hin4 hown hK hG (key := 33 + 7 * o) (by omega) (gC_t st ad cy ho) rfl 4 (by decide) L_21 (fun _ h9 => h9) rfl dX4_failsToWrite_8 ?_
  refine lv_iload hx hb dX4_failsToWrite_11 (lv_at hl 0 rfl) ?_
  refine g_zald hx hb hK hG (37 + 7 * o) (kd := 37) (o := o) (gk_t (o := o) (j := 4) ho (by decide)) rfl (by omega) (cp := 43) (ln := 128) rfl rfl (by omega) dX4_failsToWrite_13 ?_
  have hr15 := gI_43 hI (o) (ix)
  refine r_nm (fun v16 ev16 => ?_)
  rw [← ev16] at hr15
  refine r_if_ne (tgt := 44) hx hb (by omega) dX4_failsToWrite_14 (by decide) (fun c17 => ?_) (fun c17 => ?_)
  · skip
    exact hlab44   st _ _ _ (by first | (rw [if_pos (by omega), if_pos (by omega)]; exact qst) | (rw [if_neg (by omega), if_neg (by omega)]; exact qst.trans (by congr 1 <;> omega))) hI hG (lv_sub hl [0, 1, 2, 3, 4, 5] rfl)
  · skip
    refine lv_aload_n hx hb dX4_failsToWrite_17 rfl (lv_at hl 1 rfl) ?_
    refine g_get hx hb hts hin4 hown hK hG (key := 33 + 7 * o) (by omega) (gC_t st ad cy ho) rfl 1 (by decide) L_9 (fun _ h9 => h9) rfl dX4_failsToWrite_18 ?_
    refine lv_iload hx hb dX4_failsToWrite_21 (lv_at hl 0 rfl) ?_
    refine lv_aload_n hx hb dX4_failsToWrite_23 rfl (lv_at hl 1 rfl) ?_
    refine lv_iload_n hx hb dX4_failsToWrite_24 rfl (lv_at hl 2 rfl) ?_
    refine lv_iload_n hx hb dX4_failsToWrite_25 rfl (lv_at hl 3 rfl) ?_
    refine lv_aload hx hb dX4_failsToWrite_26 (lv_at hl 5 rfl) ?_
    refine g_goi hG hA (va_runV (As := [.int (iI (a)), .int (iI (b)), .ref (ad 22)]) (rest := [.int (iI (ix)), .ref (ad (34 + 7 * o))]) ⟨hx, hb, hml, hown, hts⟩ (mX4_conducted l D cy ad n st _ fz (wb + 16) hn hI (by omega) (o) (a) (b) (by omega) (by omega) (by omega) (by omega)) (cwV 3 hts gX4_failsToWrite_X4_conducted rfl rfl rfl (by decide +kernel) ⟨Nat.le_of_ble_eq_true rfl, Nat.le_of_ble_eq_true rfl⟩) ⟨g_blind, va_recv hK hG.1 (q0 := (33 + 7 * o) - 19) (ci := 4) rfl ((gw_at (k := 33 + 7 * o) (by omega)).trans (by rw [gC_t st ad cy ho])), g_pre hK hG hA hN hZ⟩ rfl rfl hl.1 rfl (lv_room (Nat.le_of_ble_eq_true rfl)) dX4_failsToWrite_28 ⟨Nat.zero_le _, Nat.zero_le _⟩) (fun r9 s9 H locs hp hG => ?_)
    obtain ⟨rfl, hs9⟩ := hp
    rw [hs9] at hG
    clear hs9
    refine r_nm (fun v18 ev18 => ?_)
    have hr19 := conC_r hI (o) (16 * (a) + (b)) (hsc (o) _)
    rw [← ev18] at hr19
    have hcc : v18 = conC st o ix := by rw [ev18, hix2]
    refine g_iast hx hb hK hG (34 + 7 * o) (kd := 34) (o := o) (gk_t (o := o) (j := 1) ho (by decide)) rfl (by omega) (cp := 40) (ln := 128) rfl rfl (by omega) dX4_failsToWrite_31 (fun H locs hG => ?_)
    obtain ⟨st20, hst20⟩ : ∃ z : St, z = ust st 40 (o) (ix) (v18) := ⟨_, rfl⟩
    rw [← hst20] at hG
    replace hI := hst20 ▸ gIu_40 hI (o) (ix) (v := v18) (by omega)
    have qst20 : st20 = setG 40 (o) st (ix) (v18) (st 41 o ix) (st 42 o ix) (st 43 o ix) (st 44 o ix) := by rw [hst20]; exact setG_u0 _ _ _ _ _
    refine lv_aload_n hx hb dX4_failsToWrite_32 rfl (lv_at hl 1 rfl) ?_
    refine g_get hx hb hts hin4 hown hK hG (key := 33 + 7 * o) (by omega) (gC_t st20 ad cy ho) rfl 3 (by decide) L_18 (fun _ h9 => h9) rfl dX4_failsToWrite_33 ?_
    refine lv_iload hx hb dX4_failsToWrite_36 (lv_at hl 0 rfl) ?_
    refine lv_aload hx hb dX4_failsToWrite_38 (lv_at hl 5 rfl) ?_
    refine g_get hx hb hts hin3 hown hK hG (key := 22) (by omega) (gC_22 st20 ad cy) rfl 0 (by decide) L_60 (fun _ h9 => h9) rfl dX4_failsToWrite_40 ?_
    have hr21 := gI_30 hI (0) (0)
    have kq22 : st20 30 (0) (0) = st 30 (0) (0) := by rw [qst20, setG_c _ _ _ _ _ _ _ _ _ (by decide)]
    rw [kq22] at hr21
    refine r_as kq22 ?_
    clear kq22
    refine r_nm (fun v23 ev23 => ?_)
    rw [← ev23] at hr21
    refine g_iast hx hb hK hG (36 + 7 * o) (kd := 36) (o := o) (gk_t (o := o) (j := 3) ho (by decide)) rfl (by omega) (cp := 42) (ln := 128) rfl rfl (by omega) dX4_failsToWrite_43 (fun H locs hG => ?_)
    obtain ⟨st24, hst24⟩ : ∃ z : St, z = ust st20 42 (o) (ix) (v23) := ⟨_, rfl⟩
    rw [← hst24] at hG
    replace hI := hst24 ▸ gIu_42 hI (o) (ix) (v := v23) (by omega)
    have qst24 : st24 = setG 40 (o) st (ix) (v18) (st 41 o ix) (v23) (st 43 o ix) (st 44 o ix) := by rw [hst24, qst20]; exact setG_2 _ _ _ _ _ _ _ _ _ _
    exact hlab44   st24 _ _ _ (by first | (rw [if_pos (by omega), if_pos (by omega)]; exact qst) | (rw [if_neg (by omega), if_neg (by omega)]; exact qst24.trans (by congr 1 <;> omega))) hI hG (lv_sub hl [0, 1, 2, 3, 4, 5] rfl)
