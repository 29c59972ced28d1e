set_option maxHeartbeats 400000 in
set_option maxRecDepth 100000 in
theorem mX6_misfits (l : Launch) (D : va_G) (cy : Nat → ClassId) (ad : Nat → Nat) (n : Nat) (st : St) (sz fz : Nat) (wb : Int) (hn : 75 ≤ n) (hI : GI wb st) (hW : wb ≤ 2000000) (a : Int) (t0 : Int) (ha : -2147483648 ≤ a ∧ a < 2147483648) (ht0 : -2147483648 ≤ t0 ∧ t0 < 2147483648) : Met l yX6_misfits wsX6_misfits ({ frames := 4, cells := 0, slots := 0, locals := 103 }) (va_Pc [.ref (ad 0), .int (iI (a)), .int (iI (t0))] (gB D cy ad n st sz fz)) (va_Qi (fun (r : Int32) (st' : St) => r = iI (aMis st (kMis st a t0) a t0) ∧ st' = sMis st (kMis st a t0) a t0 ∧ GI wb st') (gP D cy ad n) (gA n ad sz)) 0 0 (gA n ad sz) := by
  refine Met.ofW (cc := cX6_misfits) (maxL := 3) (ret := (some .int)) (by decide) rfl ?_
  intro p e s m args below meth c s₁ B hml hv
  obtain ⟨rfl, hsz, hP, hK, hD0, hN, hZ⟩ := hv
  have hx := B.exec
  have hb := B.bytes
  have hr := B.returns
  have hts := atoms_spec (ws := wsX6_misfits) B.pre
  have hown : s.vm.findClass RX6 = some m.cls := findClass_of_methodNamed B.named
  have hlocks := B.notSynchronized
  subst hsz
  have hA : ∀ q : Nat, s.heap.size ≤ q → gA n ad s.heap.size q := fun q h => Or.inr h
  have hG : GH D cy ad n st (gA n ad s.heap.size) s.heap s.heap [] := ⟨hP, gw_A hD0, va_S.rf⟩
  have hl := lv_entry ([.ref (ad 0), .int (iI (a)), .int (iI (t0))]) (n := 3) (Nat.le_of_ble_eq_true rfl)
  rw [lg_entry_eq]
  generalize (lg_sl ([.ref (ad 0), .int (iI (a)), .int (iI (t0))]) ++ List.replicate (3 - (lg_sl ([.ref (ad 0), .int (iI (a)), .int (iI (t0))])).length) Slot.unset).toArray = ls at hl ⊢
  have hl : lv_has ls 3 [(0, .ref (ad 0)), (1, .int (iI (a))), (2, .int (iI (t0)))] := hl
  have hin6 : ∀ w ∈ u_ws RX6 TX6 25, w ∈ wsX6_misfits := by decide +kernel
  have L_75 := hts (.fieldLink RX6 75 "CrossbarryModel" "thrown" "I") (by decide +kernel)
  have hmn := gI_14 hI 0 0
  have hks := kMis_s st a t0
  refine lv_aload_n hx hb dX6_misfits_0 rfl (lv_at hl 0 rfl) ?_
  have hlab21 : ∀ (t : Int) (H : Heap) (locs : List Loc) (ls : Array Slot), (t = kMis st a t0) →  GH D cy ad n st (gA n ad s.heap.size) s.heap H locs → lv_has ls 3 [(0, .ref (ad 0)), (1, .int (iI (a))), (2, .int (iI (t0)))] → W p l e (headSpec wsX6_misfits { frames := 4, cells := 0, slots := 0, locals := 103 }).room s m (#[.ref (ad 0), .int (iI (a)), .int (iI (t0))] : Array Value) below meth c H locs 0 0 (MQ below (va_Qi (fun (r : Int32) (st' : St) => r = iI (aMis st (kMis st a t0) a t0) ∧ st' = sMis st (kMis st a t0) a t0 ∧ GI wb st') (gP D cy ad n) (gA n ad s.heap.size)) (#[.ref (ad 0), .int (iI (a)), .int (iI (t0))] : Array Value) s 0 0 (gA n ad s.heap.size)) (F0 m 21 ls [.int (iI (t)), .ref (ad 0)]) := by
    intro t H locs ls ht hG hl
    refine g_put hx hb hts hin6 tyX6 tyX6_ok nmX6 hown hK hG (key := 0) (by omega) (gC_0 st ad cy) rfl 0 (by decide) L_75 (fun _ h9 => h9) rfl (ty := .int) (by decide +kernel) rfl rfl (Nat.le_of_ble_eq_true rfl) dX6_misfits_21 (ust st 0 0 0 (t)) (fun j _ => gU_0 st ad cy (t) j) (fun H locs hG => ?_)
    obtain ⟨st1, hst1⟩ : ∃ z : St, z = ust st 0 (0) (0) (t) := ⟨_, rfl⟩
    rw [← hst1] at hG
    replace hI := hst1 ▸ gIu_0 hI (0) (0) (v := t) (by omega)
    refine lv_aload_n hx hb dX6_misfits_24 rfl (lv_at hl 0 rfl) ?_
    refine g_get hx hb hts hin6 hown hK hG (key := 0) (by omega) (gC_0 st1 ad cy) rfl 0 (by decide) L_75 (fun _ h9 => h9) rfl dX6_misfits_25 ?_
    have hr2 := gI_0 hI (0) (0)
    have kq3 : st1 0 (0) (0) = t := by rw [hst1, ust_s]
    rw [kq3] at hr2
    refine r_as kq3 ?_
    clear kq3
    refine r_if_le (tgt := 35) hx hb (by omega) dX6_misfits_28 (by decide) (fun c4 => ?_) (fun c4 => ?_)
    · skip
      refine lv_aload_n hx hb dX6_misfits_35 rfl (lv_at hl 0 rfl) ?_
      refine lv_iload_n hx hb dX6_misfits_36 rfl (lv_at hl 1 rfl) ?_
      refine lv_iload_n hx hb dX6_misfits_37 rfl (lv_at hl 2 rfl) ?_
      refine g_goi hG hA (va_runV (As := [.int (iI (a)), .int (iI (t0))]) (rest := []) ⟨hx, hb, hml, hown, hts⟩ (mX6_finds l D cy ad n st1 _ fz wb hn hI (by omega) (a) (t0) (by omega) (by omega)) (cwV 2 hts gX6_misfits_X6_finds rfl rfl rfl (by decide +kernel) ⟨Nat.le_of_ble_eq_true rfl, Nat.le_of_ble_eq_true rfl⟩) ⟨g_blind, va_recv hK hG.1 (q0 := 0) (ci := 6) rfl ((gw_at (by omega)).trans (by rw [gC_0 st1 ad cy])), g_pre hK hG hA hN hZ⟩ rfl rfl hl.1 rfl (lv_room (Nat.le_of_ble_eq_true rfl)) dX6_misfits_38 ⟨Nat.zero_le _, Nat.zero_le _⟩) (fun r9 st5 H locs hp hG => ?_)
      obtain ⟨rfl, hs9, hI⟩ := hp
      refine r_nm (fun v6 ev6 => ?_)
      exact g_iret hx hb hr hlocks hG (by
        unfold aMis sMis
        first
          | (rw [if_neg (by omega), if_neg (by omega)]; exact ⟨rfl, by subst_vars; rfl, hI⟩)
          | (rw [if_pos (by omega), if_pos (by omega)]; refine ⟨by subst_vars; rfl, by subst_vars; rfl, hI⟩)) dX6_misfits_41
    · skip
      refine lv_iconst (v := iI (0)) hx hb dX6_misfits_31 rfl ?_
      refine lv_goto (tgt := 41) hx hb dX6_misfits_32 (by decide) ?_
      exact g_iret hx hb hr hlocks hG (by
        unfold aMis sMis
        first
          | (rw [if_neg (by omega), if_neg (by omega)]; exact ⟨rfl, by subst_vars; rfl, hI⟩)
          | (rw [if_pos (by omega), if_pos (by omega)]; refine ⟨by subst_vars; rfl, by subst_vars; rfl, hI⟩)) dX6_misfits_41
  refine lv_aload_n hx hb dX6_misfits_1 rfl (lv_at hl 0 rfl) ?_
  refine lv_iload_n hx hb dX6_misfits_2 rfl (lv_at hl 1 rfl) ?_
  refine g_goi hG hA (va_runV (As := [.int (iI (a))]) (rest := [.ref (ad 0)]) ⟨hx, hb, hml, hown, hts⟩ (mX6_isLayer l D cy ad n st _ fz wb hn hI (by omega) (a) (by omega)) (cwV 1 hts gX6_misfits_X6_isLayer rfl rfl rfl (by decide +kernel) ⟨Nat.le_of_ble_eq_true rfl, Nat.le_of_ble_eq_true rfl⟩) ⟨g_blind, va_recv hK hG.1 (q0 := 0) (ci := 6) rfl ((gw_at (by omega)).trans (by rw [gC_0 st ad cy])), g_pre hK hG hA hN hZ⟩ rfl rfl hl.1 rfl (lv_room (Nat.le_of_ble_eq_true rfl)) dX6_misfits_3 ⟨Nat.zero_le _, Nat.zero_le _⟩) (fun r9 s9 H locs hp hG => ?_)
  obtain ⟨rfl, hs9⟩ := hp
  rw [hs9] at hG
  clear hs9
  refine r_nm (fun v7 ev7 => ?_)
  have hr8 := inF_s (a) 0 (st 14 0 0 - 1)
  rw [← ev7] at hr8
  refine r_if_eq (tgt := 20) hx hb (by omega) dX6_misfits_6 (by decide) (fun c9 => ?_) (fun c9 => ?_)
  · skip
    refine lv_iconst (v := iI (1)) hx hb dX6_misfits_20 rfl ?_
    exact hlab21 (1)  _ _ _ (by omega) hG (lv_sub hl [0, 1, 2] rfl)
  · skip
    refine lv_iload_n hx hb dX6_misfits_9 rfl (lv_at hl 2 rfl) ?_
    refine g_goi hG hA (va_runS (As := [.int (iI (t0))]) (rest := [.ref (ad 0)]) ⟨hx, hb, hml, hown, hts⟩ (mX6_isTile l D cy ad n st _ fz wb hn hI (by omega) (t0) (by omega)) (va_cwS 1 hts gX6_misfits_X6_isTile rfl rfl rfl (by decide +kernel) ⟨Nat.le_of_ble_eq_true rfl, Nat.le_of_ble_eq_true rfl⟩) ⟨g_blind, g_pre hK hG hA hN hZ⟩ rfl rfl hl.1 rfl (lv_room (Nat.le_of_ble_eq_true rfl)) dX6_misfits_10 ⟨Nat.zero_le _, Nat.zero_le _⟩) (fun r9 s9 H locs hp hG => ?_)
    obtain ⟨rfl, hs9⟩ := hp
    rw [hs9] at hG
    clear hs9
    refine r_nm (fun v10 ev10 => ?_)
    have hr11 := inF_s (t0) 0 5
    rw [← ev10] at hr11
    refine r_if_eq (tgt := 20) hx hb (by omega) dX6_misfits_13 (by decide) (fun c12 => ?_) (fun c12 => ?_)
    · skip
      refine lv_iconst (v := iI (1)) hx hb dX6_misfits_20 rfl ?_
      exact hlab21 (1)  _ _ _ (by omega) hG (lv_sub hl [0, 1, 2] rfl)
    · skip
      refine lv_iconst (v := iI (0)) hx hb dX6_misfits_16 rfl ?_
      refine lv_goto (tgt := 21) hx hb dX6_misfits_17 (by decide) ?_
      exact hlab21 (0)  _ _ _ (by omega) hG (lv_sub hl [0, 1, 2] rfl)
set_option maxHeartbeats 400000 in
set_option maxRecDepth 100000 in
theorem mX6_misfitsAnew (l : Launch) (D : va_G) (cy : Nat → ClassId) (ad : Nat → Nat) (n : Nat) (st : St) (sz fz : Nat) (wb : Int) (hn : 75 ≤ n) (hI : GI wb st) (hW : wb ≤ 2000000) (a : Int) (t0 : Int) (ha : -2147483648 ≤ a ∧ a < 2147483648) (ht0 : -2147483648 ≤ t0 ∧ t0 < 2147483648) : Met l yX6_misfitsAnew wsX6_misfitsAnew ({ frames := 4, cells := 0, slots := 0, locals := 103 }) (va_Pc [.ref (ad 0), .int (iI (a)), .int (iI (t0))] (gB D cy ad n st sz fz)) (va_Qi (fun (r : Int32) (st' : St) => r = iI (aMis st (kMisA st a t0) a t0) ∧ st' = sMis st (kMisA st a t0) a t0 ∧ GI wb st') (gP D cy ad n) (gA n ad sz)) 0 0 (gA n ad sz) := by
  refine Met.ofW (cc := cX6_misfitsAnew) (maxL := 3) (ret := (some .int)) (by decide) rfl ?_
  intro p e s m args below meth c s₁ B hml hv
  obtain ⟨rfl, hsz, hP, hK, hD0, hN, hZ⟩ := hv
  have hx := B.exec
  have hb := B.bytes
  have hr := B.returns
  have hts := atoms_spec (ws := wsX6_misfitsAnew) B.pre
  have hown : s.vm.findClass RX6 = some m.cls := findClass_of_methodNamed B.named
  have hlocks := B.notSynchronized
  subst hsz
  have hA : ∀ q : Nat, s.heap.size ≤ q → gA n ad s.heap.size q := fun q h => Or.inr h
  have hG : GH D cy ad n st (gA n ad s.heap.size) s.heap s.heap [] := ⟨hP, gw_A hD0, va_S.rf⟩
  have hl := lv_entry ([.ref (ad 0), .int (iI (a)), .int (iI (t0))]) (n := 3) (Nat.le_of_ble_eq_true rfl)
  rw [lg_entry_eq]
  generalize (lg_sl ([.ref (ad 0), .int (iI (a)), .int (iI (t0))]) ++ List.replicate (3 - (lg_sl ([.ref (ad 0), .int (iI (a)), .int (iI (t0))])).length) Slot.unset).toArray = ls at hl ⊢
  have hl : lv_has ls 3 [(0, .ref (ad 0)), (1, .int (iI (a))), (2, .int (iI (t0)))] := hl
  have hin6 : ∀ w ∈ u_ws RX6 TX6 25, w ∈ wsX6_misfitsAnew := by decide +kernel
  have L_45 := hts (.fieldLink RX6 45 "CrossbarryModel" "inputs" "[I") (by decide +kernel)
  have L_75 := hts (.fieldLink RX6 75 "CrossbarryModel" "thrown" "I") (by decide +kernel)
  have hmn := gI_14 hI 0 0
  have hks := kMisA_s st a t0
  refine lv_aload_n hx hb dX6_misfitsAnew_0 rfl (lv_at hl 0 rfl) ?_
  have hlab35 : ∀ (t : Int) (H : Heap) (locs : List Loc) (ls : Array Slot), (t = kMisA st a t0) →  GH D cy ad n st (gA n ad s.heap.size) s.heap H locs → lv_has ls 3 [(0, .ref (ad 0)), (1, .int (iI (a))), (2, .int (iI (t0)))] → W p l e (headSpec wsX6_misfitsAnew { frames := 4, cells := 0, slots := 0, locals := 103 }).room s m (#[.ref (ad 0), .int (iI (a)), .int (iI (t0))] : Array Value) below meth c H locs 0 0 (MQ below (va_Qi (fun (r : Int32) (st' : St) => r = iI (aMis st (kMisA st a t0) a t0) ∧ st' = sMis st (kMisA st a t0) a t0 ∧ GI wb st') (gP D cy ad n) (gA n ad s.heap.size)) (#[.ref (ad 0), .int (iI (a)), .int (iI (t0))] : Array Value) s 0 0 (gA n ad s.heap.size)) (F0 m 35 ls [.int (iI (t)), .ref (ad 0)]) := by
    intro t H locs ls ht hG hl
    refine g_put hx hb hts hin6 tyX6 tyX6_ok nmX6 hown hK hG (key := 0) (by omega) (gC_0 st ad cy) rfl 0 (by decide) L_75 (fun _ h9 => h9) rfl (ty := .int) (by decide +kernel) rfl rfl (Nat.le_of_ble_eq_true rfl) dX6_misfitsAnew_35 (ust st 0 0 0 (t)) (fun j _ => gU_0 st ad cy (t) j) (fun H locs hG => ?_)
    obtain ⟨st1, hst1⟩ : ∃ z : St, z = ust st 0 (0) (0) (t) := ⟨_, rfl⟩
    rw [← hst1] at hG
    replace hI := hst1 ▸ gIu_0 hI (0) (0) (v := t) (by omega)
    refine lv_aload_n hx hb dX6_misfitsAnew_38 rfl (lv_at hl 0 rfl) ?_
    refine g_get hx hb hts hin6 hown hK hG (key := 0) (by omega) (gC_0 st1 ad cy) rfl 0 (by decide) L_75 (fun _ h9 => h9) rfl dX6_misfitsAnew_39 ?_
    have hr2 := gI_0 hI (0) (0)
    have kq3 : st1 0 (0) (0) = t := by rw [hst1, ust_s]
    rw [kq3] at hr2
    refine r_as kq3 ?_
    clear kq3
    refine r_if_le (tgt := 49) hx hb (by omega) dX6_misfitsAnew_42 (by decide) (fun c4 => ?_) (fun c4 => ?_)
    · skip
      refine lv_aload_n hx hb dX6_misfitsAnew_49 rfl (lv_at hl 0 rfl) ?_
      refine lv_iload_n hx hb dX6_misfitsAnew_50 rfl (lv_at hl 1 rfl) ?_
      refine lv_iload_n hx hb dX6_misfitsAnew_51 rfl (lv_at hl 2 rfl) ?_
      refine g_goi hG hA (va_runV (As := [.int (iI (a)), .int (iI (t0))]) (rest := []) ⟨hx, hb, hml, hown, hts⟩ (mX6_finds l D cy ad n st1 _ fz wb hn hI (by omega) (a) (t0) (by omega) (by omega)) (cwV 2 hts gX6_misfitsAnew_X6_finds rfl rfl rfl (by decide +kernel) ⟨Nat.le_of_ble_eq_true rfl, Nat.le_of_ble_eq_true rfl⟩) ⟨g_blind, va_recv hK hG.1 (q0 := 0) (ci := 6) rfl ((gw_at (by omega)).trans (by rw [gC_0 st1 ad cy])), g_pre hK hG hA hN hZ⟩ rfl rfl hl.1 rfl (lv_room (Nat.le_of_ble_eq_true rfl)) dX6_misfitsAnew_52 ⟨Nat.zero_le _, Nat.zero_le _⟩) (fun r9 st5 H locs hp hG => ?_)
      obtain ⟨rfl, hs9, hI⟩ := hp
      refine r_nm (fun v6 ev6 => ?_)
      exact g_iret hx hb hr hlocks hG (by
        unfold aMis sMis
        first
          | (rw [if_neg (by omega), if_neg (by omega)]; exact ⟨rfl, by subst_vars; rfl, hI⟩)
          | (rw [if_pos (by omega), if_pos (by omega)]; refine ⟨by subst_vars; rfl, by subst_vars; rfl, hI⟩)) dX6_misfitsAnew_55
    · skip
      refine lv_iconst (v := iI (0)) hx hb dX6_misfitsAnew_45 rfl ?_
      refine lv_goto (tgt := 55) hx hb dX6_misfitsAnew_46 (by decide) ?_
      exact g_iret hx hb hr hlocks hG (by
        unfold aMis sMis
        first
          | (rw [if_neg (by omega), if_neg (by omega)]; exact ⟨rfl, by subst_vars; rfl, hI⟩)
          | (rw [if_pos (by omega), if_pos (by omega)]; refine ⟨by subst_vars; rfl, by subst_vars; rfl, hI⟩)) dX6_misfitsAnew_55
  refine lv_aload_n hx hb dX6_misfitsAnew_1 rfl (lv_at hl 0 rfl) ?_
  refine lv_iload_n hx hb dX6_misfitsAnew_2 rfl (lv_at hl 1 rfl) ?_
  refine g_goi hG hA (va_runV (As := [.int (iI (a))]) (rest := [.ref (ad 0)]) ⟨hx, hb, hml, hown, hts⟩ (mX6_isLayer l D cy ad n st _ fz wb hn hI (by omega) (a) (by omega)) (cwV 1 hts gX6_misfitsAnew_X6_isLayer rfl rfl rfl (by decide +kernel) ⟨Nat.le_of_ble_eq_true rfl, Nat.le_of_ble_eq_true rfl⟩) ⟨g_blind, va_recv hK hG.1 (q0 := 0) (ci := 6) rfl ((gw_at (by omega)).trans (by rw [gC_0 st ad cy])), g_pre hK hG hA hN hZ⟩ rfl rfl hl.1 rfl (lv_room (Nat.le_of_ble_eq_true rfl)) dX6_misfitsAnew_3 ⟨Nat.zero_le _, Nat.zero_le _⟩) (fun r9 s9 H locs hp hG => ?_)
  obtain ⟨rfl, hs9⟩ := hp
  rw [hs9] at hG
  clear hs9
  refine r_nm (fun v7 ev7 => ?_)
  have hr8 := inF_s (a) 0 (st 14 0 0 - 1)
  rw [← ev7] at hr8
  refine r_if_eq (tgt := 16) hx hb (by omega) dX6_misfitsAnew_6 (by decide) (fun c9 => ?_) (fun c9 => ?_)
  · skip
    refine lv_iconst (v := iI (1)) hx hb dX6_misfitsAnew_16 rfl ?_
    refine lv_goto (tgt := 35) hx hb dX6_misfitsAnew_17 (by decide) ?_
    exact hlab35 (1)  _ _ _ (by omega) hG (lv_sub hl [0, 1, 2] rfl)
  · skip
    refine lv_iload_n hx hb dX6_misfitsAnew_9 rfl (lv_at hl 2 rfl) ?_
    refine g_goi hG hA (va_runS (As := [.int (iI (t0))]) (rest := [.ref (ad 0)]) ⟨hx, hb, hml, hown, hts⟩ (mX6_isTile l D cy ad n st _ fz wb hn hI (by omega) (t0) (by omega)) (va_cwS 1 hts gX6_misfitsAnew_X6_isTile rfl rfl rfl (by decide +kernel) ⟨Nat.le_of_ble_eq_true rfl, Nat.le_of_ble_eq_true rfl⟩) ⟨g_blind, g_pre hK hG hA hN hZ⟩ rfl rfl hl.1 rfl (lv_room (Nat.le_of_ble_eq_true rfl)) dX6_misfitsAnew_10 ⟨Nat.zero_le _, Nat.zero_le _⟩) (fun r9 s9 H locs hp hG => ?_)
    obtain ⟨rfl, hs9⟩ := hp
    rw [hs9] at hG
    clear hs9
    refine r_nm (fun v10 ev10 => ?_)
    have hr11 := inF_s (t0) 0 5
    rw [← ev10] at hr11
    refine r_if_ne (tgt := 20) hx hb (by omega) dX6_misfitsAnew_13 (by decide) (fun c12 => ?_) (fun c12 => ?_)
    · skip
      refine lv_aload_n hx hb dX6_misfitsAnew_20 rfl (lv_at hl 0 rfl) ?_
      refine g_get hx hb hts hin6 hown hK hG (key := 0) (by omega) (gC_0 st ad cy) rfl 15 (by decide) L_45 (fun _ h9 => h9) rfl dX6_misfitsAnew_21 ?_
      refine lv_iload_n hx hb dX6_misfitsAnew_24 rfl (lv_at hl 1 rfl) ?_
      refine g_iald hx hb hK hG (11) (kd := 11) (o := 0) rfl rfl (by omega) (cp := 15) (ln := 6) rfl rfl (by omega) dX6_misfitsAnew_25 ?_
      have hr13 := gI_15 hI (0) (a)
      refine r_nm (fun v14 ev14 => ?_)
      rw [← ev14] at hr13
      refine lv_iconst (v := iI (4)) hx hb dX6_misfitsAnew_26 rfl ?_
      refine r_icmp_le (tgt := 34) hx hb (by omega) dX6_misfitsAnew_27 (by decide) (fun c15 => ?_) (fun c15 => ?_)
      · skip
        refine lv_iconst (v := iI (0)) hx hb dX6_misfitsAnew_34 rfl ?_
        exact hlab35 (0)  _ _ _ (by omega) hG (lv_sub hl [0, 1, 2] rfl)
      · skip
        refine lv_iconst (v := iI (2)) hx hb dX6_misfitsAnew_30 rfl ?_
        refine lv_goto (tgt := 35) hx hb dX6_misfitsAnew_31 (by decide) ?_
        exact hlab35 (2)  _ _ _ (by omega) hG (lv_sub hl [0, 1, 2] rfl)
    · skip
      refine lv_iconst (v := iI (1)) hx hb dX6_misfitsAnew_16 rfl ?_
      refine lv_goto (tgt := 35) hx hb dX6_misfitsAnew_17 (by decide) ?_
      exact hlab35 (1)  _ _ _ (by omega) hG (lv_sub hl [0, 1, 2] rfl)
set_option maxHeartbeats 400000 in
set_option maxRecDepth 100000 in
theorem mX6_place (l : Launch) (D : va_G) (cy : Nat → ClassId) (ad : Nat → Nat) (n : Nat) (st : St) (sz fz : Nat) (wb : Int) (hn : 75 ≤ n) (hI : GI wb st) (hW : wb ≤ 1890000) (a : Int) (t0 : Int) (ha : -2147483648 ≤ a ∧ a < 2147483648) (ht0 : -2147483648 ≤ t0 ∧ t0 < 2147483648) (hsi : ∀ j : Int, st 6 0 j ≤ st 1 0 0) : Met l yX6_place wsX6_place ({ frames := 4, cells := 0, slots := 0, locals := 103 }) (va_Pc [.ref (ad 0), .int (iI (a)), .int (iI (t0))] (gB D cy ad n st sz fz)) (va_Qi (fun (r : Int32) (st' : St) => r = iI (aPlace st a t0) ∧ st' = sPlace st a t0 ∧ GI (wb + 2048) st') (gP D cy ad n) (gA n ad sz)) 0 0 (gA n ad sz) := by
  refine Met.ofW (cc := cX6_place) (maxL := 8) (ret := (some .int)) (by decide) rfl ?_
  intro p e s m args below meth c s₁ B hml hv
  obtain ⟨rfl, hsz, hP, hK, hD0, hN, hZ⟩ := hv
  have hx := B.exec
  have hb := B.bytes
  have hr := B.returns
  have hts := atoms_spec (ws := wsX6_place) B.pre
  have hown : s.vm.findClass RX6 = some m.cls := findClass_of_methodNamed B.named
  have hlocks := B.notSynchronized
  subst hsz
  have hA : ∀ q : Nat, s.heap.size ≤ q → gA n ad s.heap.size q := fun q h => Or.inr h
  have hG : GH D cy ad n st (gA n ad s.heap.size) s.heap s.heap [] := ⟨hP, gw_A hD0, va_S.rf⟩
  have hl := lv_entry ([.ref (ad 0), .int (iI (a)), .int (iI (t0))]) (n := 8) (Nat.le_of_ble_eq_true rfl)
  rw [lg_entry_eq]
  generalize (lg_sl ([.ref (ad 0), .int (iI (a)), .int (iI (t0))]) ++ List.replicate (8 - (lg_sl ([.ref (ad 0), .int (iI (a)), .int (iI (t0))])).length) Slot.unset).toArray = ls at hl ⊢
  have hl : lv_has ls 8 [(0, .ref (ad 0)), (1, .int (iI (a))), (2, .int (iI (t0)))] := hl
  have hin6 : ∀ w ∈ u_ws RX6 TX6 25, w ∈ wsX6_place := by decide +kernel
  have L_45 := hts (.fieldLink RX6 45 "CrossbarryModel" "inputs" "[I") (by decide +kernel)
  have L_60 := hts (.fieldLink RX6 60 "CrossbarryModel" "tileAt" "[I") (by decide +kernel)
  have L_63 := hts (.fieldLink RX6 63 "CrossbarryModel" "rows" "[I") (by decide +kernel)
  have L_66 := hts (.fieldLink RX6 66 "CrossbarryModel" "costs" "[I") (by decide +kernel)
  have L_69 := hts (.fieldLink RX6 69 "CrossbarryModel" "fewest" "[I") (by decide +kernel)
  have L_75 := hts (.fieldLink RX6 75 "CrossbarryModel" "thrown" "I") (by decide +kernel)
  have hmn := gI_14 hI 0 0
  have hks := kPlace_s st a t0
  refine lv_aload_n hx hb dX6_place_0 rfl (lv_at hl 0 rfl) ?_
  have hlab44 : ∀ (t : Int) (H : Heap) (locs : List Loc) (ls : Array Slot), (t = kPlace st a t0) →  GH D cy ad n st (gA n ad s.heap.size) s.heap H locs → lv_has ls 8 [(0, .ref (ad 0)), (1, .int (iI (a))), (2, .int (iI (t0)))] → W p l e (headSpec wsX6_place { frames := 4, cells := 0, slots := 0, locals := 103 }).room s m (#[.ref (ad 0), .int (iI (a)), .int (iI (t0))] : Array Value) below meth c H locs 0 0 (MQ below (va_Qi (fun (r : Int32) (st' : St) => r = iI (aPlace st a t0) ∧ st' = sPlace st a t0 ∧ GI (wb + 2048) st') (gP D cy ad n) (gA n ad s.heap.size)) (#[.ref (ad 0), .int (iI (a)), .int (iI (t0))] : Array Value) s 0 0 (gA n ad s.heap.size)) (F0 m 44 ls [.int (iI (t)), .ref (ad 0)]) := by
    intro t H locs ls ht hG hl
    refine g_put hx hb hts hin6 tyX6 tyX6_ok nmX6 hown hK hG (key := 0) (by omega) (gC_0 st ad cy) rfl 0 (by decide) L_75 (fun _ h9 => h9) rfl (ty := .int) (by decide +kernel) rfl rfl (Nat.le_of_ble_eq_true rfl) dX6_place_44 (ust st 0 0 0 (t)) (fun j _ => gU_0 st ad cy (t) j) (fun H locs hG => ?_)
    obtain ⟨st1, hst1⟩ : ∃ z : St, z = ust st 0 (0) (0) (t) := ⟨_, rfl⟩
    rw [← hst1] at hG
    replace hI := hst1 ▸ gIu_0 hI (0) (0) (v := t) (by omega)
    obtain ⟨stq, hstq⟩ : ∃ z9 : St, z9 = st1 := ⟨_, rfl⟩
    have hsq : ∀ j : Int, stq 6 0 j ≤ stq 1 0 0 := fun j => by rw [hstq, hst1, ust_c (by decide), ust_c (by decide)]; exact hsi j
    have hsk : stq = ust st 0 0 0 (kPlace st a t0) := by rw [hstq, hst1, ht]
    have hIq : GI wb stq := by rw [hstq]; exact hI
    have hq15 := gI_15 hIq 0 a
    have hcr0 : ∀ p q, 0 ≤ cst stq a t0 p q ∧ cst stq a t0 p q ≤ 16 := cst_r hIq a t0
    refine lv_aload_n hx hb dX6_place_47 rfl (lv_at hl 0 rfl) ?_
    refine g_get hx hb hts hin6 hown hK hG (key := 0) (by omega) (gC_0 st1 ad cy) rfl 0 (by decide) L_75 (fun _ h9 => h9) rfl dX6_place_48 ?_
    have hr2 := gI_0 hI (0) (0)
    have kq3 : st1 0 (0) (0) = t := by rw [hst1, ust_s]
    rw [kq3] at hr2
    refine r_as kq3 ?_
    clear kq3
    refine r_if_le (tgt := 56) hx hb (by omega) dX6_place_51 (by decide) (fun c4 => ?_) (fun c4 => ?_)
    · skip
      refine lv_aload_n hx hb dX6_place_56 rfl (lv_at hl 0 rfl) ?_
      refine lv_iload_n hx hb dX6_place_57 rfl (lv_at hl 1 rfl) ?_
      refine lv_iload_n hx hb dX6_place_58 rfl (lv_at hl 2 rfl) ?_
      refine g_goi hG hA (va_runV (As := [.int (iI (a)), .int (iI (t0))]) (rest := []) ⟨hx, hb, hml, hown, hts⟩ (mX6_finds l D cy ad n st1 _ fz wb hn hI (by omega) (a) (t0) (by omega) (by omega)) (cwV 2 hts gX6_place_X6_finds rfl rfl rfl (by decide +kernel) ⟨Nat.le_of_ble_eq_true rfl, Nat.le_of_ble_eq_true rfl⟩) ⟨g_blind, va_recv hK hG.1 (q0 := 0) (ci := 6) rfl ((gw_at (by omega)).trans (by rw [gC_0 st1 ad cy])), g_pre hK hG hA hN hZ⟩ rfl rfl hl.1 rfl (lv_room (Nat.le_of_ble_eq_true rfl)) dX6_place_59 ⟨Nat.zero_le _, Nat.zero_le _⟩) (fun r9 st5 H locs hp hG => ?_)
      obtain ⟨rfl, hs9, hI⟩ := hp
      have hs8 : st5 = fdS stq a t0 := by rw [hstq]; exact hs9
      refine r_nm (fun v6 ev6 => ?_)
      refine lv_pop hx hb dX6_place_62 rfl ?_
      refine lv_iconst (v := iI (0)) hx hb dX6_place_63 rfl ?_
      refine lv_istore_n (lv' := [(3, .int (iI (0))), (0, .ref (ad 0)), (1, .int (iI (a))), (2, .int (iI (t0)))]) hx hb dX6_place_64 rfl hl (by decide) rfl (fun ls hl => ?_)
      refine lv_iconst (v := iI (0)) hx hb dX6_place_65 rfl ?_
      refine lv_istore (lv' := [(4, .int (iI (0))), (3, .int (iI (0))), (0, .ref (ad 0)), (1, .int (iI (a))), (2, .int (iI (t0)))]) hx hb dX6_place_66 hl (by decide) rfl (fun ls hl => ?_)
      have hloop68 : ∀ (N : Nat)  (i : Nat) (S : Nat) (stb : St) (H : Heap) (locs : List Loc) (ls : Array Slot), 9 - i < N → ((i : Int) ≤ stq 15 0 a) → (S = grS (cst stq a t0) (stq 15 0 a).toNat i) → (S < 256 ∧ onesU S 8 = i) → (stb = setR (fdS stq a t0) (rfX stq (cst stq a t0) (stq 15 0 a).toNat a i)) → GI wb stb → GH D cy ad n stb (gA n ad s.heap.size) s.heap H locs → lv_has ls 8 [(3, .int (iI (((S : Nat) : Int)))), (4, .int (iI (((i : Nat) : Int)))), (0, .ref (ad 0)), (1, .int (iI (a))), (2, .int (iI (t0)))] → W p l e (headSpec wsX6_place { frames := 4, cells := 0, slots := 0, locals := 103 }).room s m (#[.ref (ad 0), .int (iI (a)), .int (iI (t0))] : Array Value) below meth c H locs 0 0 (MQ below (va_Qi (fun (r : Int32) (st' : St) => r = iI (aPlace st a t0) ∧ st' = sPlace st a t0 ∧ GI (wb + 2048) st') (gP D cy ad n) (gA n ad s.heap.size)) (#[.ref (ad 0), .int (iI (a)), .int (iI (t0))] : Array Value) s 0 0 (gA n ad s.heap.size)) (F0 m 68 ls []) := by
        intro N
        induction N with
        | zero => intro  i S stb H locs ls hm; exact absurd hm (Nat.not_lt_zero _)
        | succ N ih68 =>
          intro  i S stb H locs ls hm hi hS hS1 hstb hI hG hl
          have hfb : ∀ c o i, (c < 21 ∨ 23 < c) → stb c o i = stq c o i := fun c o i h => by rw [hstb, setR_c _ _ (by omega)]; exact setF_c _ _ _ (by omega)
          refine lv_iload hx hb dX6_place_68 (lv_at hl 1 rfl) ?_
          refine lv_aload_n hx hb dX6_place_70 rfl (lv_at hl 2 rfl) ?_
          refine g_get hx hb hts hin6 hown hK hG (key := 0) (by omega) (gC_0 stb ad cy) rfl 15 (by decide) L_45 (fun _ h9 => h9) rfl dX6_place_71 ?_
          refine lv_iload_n hx hb dX6_place_74 rfl (lv_at hl 3 rfl) ?_
          refine g_iald hx hb hK hG (11) (kd := 11) (o := 0) rfl rfl (by omega) (cp := 15) (ln := 6) rfl rfl (by omega) dX6_place_75 ?_
          have hr7 := gI_15 hI (0) (a)
          have kq8 : stb 15 (0) (a) = stq 15 (0) (a) := by rw [hfb _ _ _ (by decide)]
          rw [kq8] at hr7
          refine r_as kq8 ?_
          clear kq8
          refine r_nm (fun v9 ev9 => ?_)
          rw [← ev9] at hr7
          refine r_icmp_ge (tgt := 188) hx hb (by omega) dX6_place_76 (by decide) (fun c10 => ?_) (fun c10 => ?_)
          · skip
            refine lv_aload_n hx hb dX6_place_188 rfl (lv_at hl 2 rfl) ?_
            refine g_get hx hb hts hin6 hown hK hG (key := 0) (by omega) (gC_0 stb ad cy) rfl 20 (by decide) L_60 (fun _ h9 => h9) rfl dX6_place_189 ?_
            refine lv_iload_n hx hb dX6_place_192 rfl (lv_at hl 3 rfl) ?_
            refine lv_iload_n hx hb dX6_place_193 rfl (lv_at hl 4 rfl) ?_
            refine g_iast hx hb hK hG (16) (kd := 16) (o := 0) rfl rfl (by omega) (cp := 20) (ln := 6) rfl rfl (by omega) dX6_place_194 (fun H locs hG => ?_)
            obtain ⟨st11, hst11⟩ : ∃ z : St, z = ust stb 20 (0) (a) (t0) := ⟨_, rfl⟩
            rw [← hst11] at hG
            replace hI := hst11 ▸ gIu_20 hI (0) (a) (v := t0) (by omega)
            have hNp : st11 = plS stq a t0 := by rw [hst11, hstb, show i = (stq 15 0 a).toNat by omega]; rfl
            refine lv_aload_n hx hb dX6_place_195 rfl (lv_at hl 2 rfl) ?_
            refine lv_iload_n hx hb dX6_place_196 rfl (lv_at hl 3 rfl) ?_
            refine g_goi hG hA (va_runV (As := [.int (iI (a))]) (rest := []) ⟨hx, hb, hml, hown, hts⟩ (mX6_loads l D cy ad n st11 _ fz wb hn hI (by omega) (a) (by omega) (by rw [hst11, ust_s]; omega) (fun j => by rw [hst11, ust_c (by decide), ust_c (by decide), hfb 6 0 _ (by decide), hfb 1 0 _ (by decide)]; exact hsq j)) (cwV 1 hts gX6_place_X6_loads rfl rfl rfl (by decide +kernel) ⟨Nat.le_of_ble_eq_true rfl, Nat.le_of_ble_eq_true rfl⟩) ⟨g_blind, va_recv hK hG.1 (q0 := 0) (ci := 6) rfl ((gw_at (by omega)).trans (by rw [gC_0 st11 ad cy])), g_pre hK hG hA hN hZ⟩ rfl rfl hl.1 rfl (lv_room (Nat.le_of_ble_eq_true rfl)) dX6_place_197 ⟨Nat.zero_le _, Nat.zero_le _⟩) (fun r9 st12 H locs hp hG => ?_)
            obtain ⟨rfl, hs9, hI⟩ := hp
            refine r_nm (fun v13 ev13 => ?_)
            exact g_iret hx hb hr hlocks hG (by
              first
                | (unfold aPlace sPlace; rw [if_neg (by omega), if_neg (by omega)]; exact ⟨rfl, by subst_vars; rfl, GI_mono (by omega) hI⟩)
                | (unfold aPlace sPlace; rw [if_pos (by omega), if_pos (by omega), ← hsk, ← hNp]; exact ⟨by rw [ev13], hs9, hI⟩)) dX6_place_200
          · skip
            refine lv_iconst (v := iI (-1)) hx hb dX6_place_79 rfl ?_
            refine lv_istore (lv' := [(5, .int (iI (-1))), (3, .int (iI (((S : Nat) : Int)))), (4, .int (iI (((i : Nat) : Int)))), (0, .ref (ad 0)), (1, .int (iI (a))), (2, .int (iI (t0)))]) hx hb dX6_place_80 hl (by decide) rfl (fun ls hl => ?_)
            refine lv_bipush (v := iI (7)) hx hb dX6_place_82 (by decide +kernel) ?_
            refine lv_istore (lv' := [(6, .int (iI (7))), (5, .int (iI (-1))), (3, .int (iI (((S : Nat) : Int)))), (4, .int (iI (((i : Nat) : Int)))), (0, .ref (ad 0)), (1, .int (iI (a))), (2, .int (iI (t0)))]) hx hb dX6_place_84 hl (by decide) rfl (fun ls hl => ?_)
            have hloop86 : ∀ (N : Nat) (x5 : Int) (x6 : Int) (r1 : Nat) (H : Heap) (locs : List Loc) (ls : Array Slot), r1 < N → (r1 ≤ 8) → (x6 = (r1 : Int) - 1) → (x5 = pkN (cst stq a t0) (stq 15 0 a).toNat i S r1) →  GH D cy ad n stb (gA n ad s.heap.size) s.heap H locs → lv_has ls 8 [(5, .int (iI (x5))), (6, .int (iI (x6))), (3, .int (iI (((S : Nat) : Int)))), (4, .int (iI (((i : Nat) : Int)))), (0, .ref (ad 0)), (1, .int (iI (a))), (2, .int (iI (t0)))] → W p l e (headSpec wsX6_place { frames := 4, cells := 0, slots := 0, locals := 103 }).room s m (#[.ref (ad 0), .int (iI (a)), .int (iI (t0))] : Array Value) below meth c H locs 0 0 (MQ below (va_Qi (fun (r : Int32) (st' : St) => r = iI (aPlace st a t0) ∧ st' = sPlace st a t0 ∧ GI (wb + 2048) st') (gP D cy ad n) (gA n ad s.heap.size)) (#[.ref (ad 0), .int (iI (a)), .int (iI (t0))] : Array Value) s 0 0 (gA n ad s.heap.size)) (F0 m 86 ls []) := by
              intro N
              induction N with
              | zero => intro x5 x6 r1 H locs ls hm; exact absurd hm (Nat.not_lt_zero _)
              | succ N ih86 =>
                intro x5 x6 r1 H locs ls hm hr1 hx6 hx5 hG hl
                refine lv_iload hx hb dX6_place_86 (lv_at hl 1 rfl) ?_
                refine r_if_lt (tgt := 161) hx hb (by omega) dX6_place_88 (by decide) (fun c14 => ?_) (fun c14 => ?_)
                · skip
                  have hr0 : r1 = 0 := by omega
                  subst hr0
                  obtain ⟨q, hqe, hq8, hqf⟩ := pk_found hcr0 (ni := (stq 15 0 a).toNat) (i := i) (S := S) (by omega) (by omega) (by omega) (by omega)
                  have hor := ones_or S (by omega) q hq8 hqf
                  refine lv_aload_n hx hb dX6_place_161 rfl (lv_at hl 4 rfl) ?_
                  refine g_get hx hb hts hin6 hown hK hG (key := 0) (by omega) (gC_0 stb ad cy) rfl 21 (by decide) L_63 (fun _ h9 => h9) rfl dX6_place_162 ?_
                  refine lv_bipush (v := iI (8)) hx hb dX6_place_165 (by decide +kernel) ?_
                  refine lv_iload_n hx hb dX6_place_167 rfl (lv_at hl 5 rfl) ?_
                  refine r_imul hx hb dX6_place_168 ?_
                  refine r_nm (fun v15 ev15 => ?_)
                  refine lv_iload hx hb dX6_place_169 (lv_at hl 3 rfl) ?_
                  refine r_iadd hx hb dX6_place_171 ?_
                  refine r_nm (fun v16 ev16 => ?_)
                  refine lv_iload hx hb dX6_place_172 (lv_at hl 0 rfl) ?_
                  refine g_iast hx hb hK hG (17) (kd := 17) (o := 0) rfl rfl (by omega) (cp := 21) (ln := 48) rfl rfl (by omega) dX6_place_174 (fun H locs hG => ?_)
                  obtain ⟨st17, hst17⟩ : ∃ z : St, z = ust stb 21 (0) (v16) (x5) := ⟨_, rfl⟩
                  rw [← hst17] at hG
                  replace hI := hst17 ▸ gIu_21 hI (0) (v16) (v := x5) (by omega)
                  refine lv_iload_n hx hb dX6_place_175 rfl (lv_at hl 2 rfl) ?_
                  refine lv_iconst (v := iI (1)) hx hb dX6_place_176 rfl ?_
                  refine lv_iload hx hb dX6_place_177 (lv_at hl 0 rfl) ?_
                  refine r_as (y := ((q : Nat) : Int)) (by omega) ?_
                  refine r_ishl hx hb (by omega) dX6_place_179 ?_
                  refine r_nm (fun v18 ev18 => ?_)
                  have hsl : v18 = ((2 ^ q : Nat) : Int) := by rw [ev18]; push_cast; omega
                  refine r_as (y := ((2 ^ q : Nat) : Int)) (by exact hsl) ?_
                  refine r_as2 (y := ((S : Nat) : Int)) (by rfl) ?_
                  refine r_ior hx hb dX6_place_180 ?_
                  refine r_nm (fun v19 ev19 => ?_)
                  refine lv_istore_n (lv' := [(3, .int (iI (v19))), (5, .int (iI (x5))), (6, .int (iI (x6))), (4, .int (iI (((i : Nat) : Int)))), (0, .ref (ad 0)), (1, .int (iI (a))), (2, .int (iI (t0)))]) hx hb dX6_place_181 rfl hl (by decide) rfl (fun ls hl => ?_)
                  obtain ⟨v20, ev20⟩ : ∃ y9 : Int, y9 = ((i : Nat) : Int) + (1) := ⟨_, rfl⟩
                  refine lv_iinc (v := iI v20) (lv' := [(4, .int (iI (v20))), (3, .int (iI (v19))), (5, .int (iI (x5))), (6, .int (iI (x6))), (0, .ref (ad 0)), (1, .int (iI (a))), (2, .int (iI (t0)))]) hx hb dX6_place_182 hl (k := 3) rfl (by rw [ev20]; exact iI_add _ _) (by decide) rfl (fun ls hl => ?_)
                  refine lv_goto (tgt := 68) hx hb dX6_place_185 (by decide) ?_
                  rw [show (v19 : Int) = (((S ||| 2 ^ q) : Nat) : Int) from by exact ev19] at hl
                  rw [show (v20 : Int) = (((i + 1) : Nat) : Int) from by omega] at hl
                  exact ih68  (i + 1) (S ||| 2 ^ q) st17 _ _ _ (by omega) (by omega) (by rw [grS_s, ← hS, hqe]; rfl) (by omega) (by rw [hst17, hstb, setR_u, rfX_s _ _ _ _ _ (by omega) (by rw [← hS]; omega)]) hI hG (lv_sub hl [1, 0, 4, 5, 6] rfl)
                · skip
                  obtain ⟨r, rfl⟩ : ∃ r : Nat, r1 = r + 1 := ⟨r1 - 1, by omega⟩
                  have hlab105 : ∀ (fr : Int) (H : Heap) (locs : List Loc) (ls : Array Slot), ((fr = 1 ∧ S / 2 ^ r % 2 = 0) ∨ (fr = 0 ∧ S / 2 ^ r % 2 = 1)) →  GH D cy ad n stb (gA n ad s.heap.size) s.heap H locs → lv_has ls 8 [(5, .int (iI (x5))), (6, .int (iI (x6))), (3, .int (iI (((S : Nat) : Int)))), (4, .int (iI (((i : Nat) : Int)))), (0, .ref (ad 0)), (1, .int (iI (a))), (2, .int (iI (t0)))] → W p l e (headSpec wsX6_place { frames := 4, cells := 0, slots := 0, locals := 103 }).room s m (#[.ref (ad 0), .int (iI (a)), .int (iI (t0))] : Array Value) below meth c H locs 0 0 (MQ below (va_Qi (fun (r : Int32) (st' : St) => r = iI (aPlace st a t0) ∧ st' = sPlace st a t0 ∧ GI (wb + 2048) st') (gP D cy ad n) (gA n ad s.heap.size)) (#[.ref (ad 0), .int (iI (a)), .int (iI (t0))] : Array Value) s 0 0 (gA n ad s.heap.size)) (F0 m 105 ls [.int (iI (fr))]) := by
                    intro fr H locs ls hfr hG hl
                    refine lv_istore (lv' := [(7, .int (iI (fr))), (5, .int (iI (x5))), (6, .int (iI (x6))), (3, .int (iI (((S : Nat) : Int)))), (4, .int (iI (((i : Nat) : Int)))), (0, .ref (ad 0)), (1, .int (iI (a))), (2, .int (iI (t0)))]) hx hb dX6_place_105 hl (by decide) rfl (fun ls hl => ?_)
                    have hlab153 : ∀ (nx : Int) (H : Heap) (locs : List Loc) (ls : Array Slot), (nx = pkN (cst stq a t0) (stq 15 0 a).toNat i S r) →  GH D cy ad n stb (gA n ad s.heap.size) s.heap H locs → lv_has ls 8 [(5, .int (iI (x5))), (6, .int (iI (x6))), (3, .int (iI (((S : Nat) : Int)))), (4, .int (iI (((i : Nat) : Int)))), (0, .ref (ad 0)), (1, .int (iI (a))), (2, .int (iI (t0)))] → W p l e (headSpec wsX6_place { frames := 4, cells := 0, slots := 0, locals := 103 }).room s m (#[.ref (ad 0), .int (iI (a)), .int (iI (t0))] : Array Value) below meth c H locs 0 0 (MQ below (va_Qi (fun (r : Int32) (st' : St) => r = iI (aPlace st a t0) ∧ st' = sPlace st a t0 ∧ GI (wb + 2048) st') (gP D cy ad n) (gA n ad s.heap.size)) (#[.ref (ad 0), .int (iI (a)), .int (iI (t0))] : Array Value) s 0 0 (gA n ad s.heap.size)) (F0 m 153 ls [.int (iI (nx))]) := by
                      intro nx H locs ls hnx hG hl
                      refine lv_istore (lv' := [(5, .int (iI (nx))), (6, .int (iI (x6))), (3, .int (iI (((S : Nat) : Int)))), (4, .int (iI (((i : Nat) : Int)))), (0, .ref (ad 0)), (1, .int (iI (a))), (2, .int (iI (t0)))]) hx hb dX6_place_153 hl (by decide) rfl (fun ls hl => ?_)
                      obtain ⟨v21, ev21⟩ : ∃ y9 : Int, y9 = x6 + (-1) := ⟨_, rfl⟩
                      refine lv_iinc (v := iI v21) (lv' := [(6, .int (iI (v21))), (5, .int (iI (nx))), (3, .int (iI (((S : Nat) : Int)))), (4, .int (iI (((i : Nat) : Int)))), (0, .ref (ad 0)), (1, .int (iI (a))), (2, .int (iI (t0)))]) hx hb dX6_place_155 hl (k := 1) rfl (by rw [ev21]; exact iI_add _ _) (by decide) rfl (fun ls hl => ?_)
                      refine lv_goto (tgt := 86) hx hb dX6_place_158 (by decide) ?_
                      exact ih86 (nx) (v21) (r) _ _ _ (by omega) (by omega) (by omega) (by omega) hG (lv_sub hl [1, 0, 2, 3, 4, 5, 6] rfl)
                    refine lv_iload hx hb dX6_place_107 (lv_at hl 0 rfl) ?_
                    refine r_if_eq (tgt := 151) hx hb (by omega) dX6_place_109 (by decide) (fun c22 => ?_) (fun c22 => ?_)
                    · skip
                      refine lv_iload hx hb dX6_place_151 (lv_at hl 1 rfl) ?_
                      exact hlab153 (x5)  _ _ _ (by rw [pk_s _ _ _ _ (by omega)]; first | (rw [if_pos (by omega)]; omega) | (rw [if_neg (by omega)]; omega)) hG (lv_sub hl [1, 2, 3, 4, 5, 6, 7] rfl)
                    · skip
                      refine lv_aload_n hx hb dX6_place_112 rfl (lv_at hl 5 rfl) ?_
                      refine g_get hx hb hts hin6 hown hK hG (key := 0) (by omega) (gC_0 stb ad cy) rfl 22 (by decide) L_66 (fun _ h9 => h9) rfl dX6_place_113 ?_
                      refine lv_bipush (v := iI (8)) hx hb dX6_place_116 (by decide +kernel) ?_
                      refine lv_iload hx hb dX6_place_118 (lv_at hl 4 rfl) ?_
                      refine r_imul hx hb dX6_place_120 ?_
                      refine r_nm (fun v23 ev23 => ?_)
                      refine lv_iload hx hb dX6_place_121 (lv_at hl 2 rfl) ?_
                      refine r_iadd hx hb dX6_place_123 ?_
                      refine r_nm (fun v24 ev24 => ?_)
                      refine g_iald hx hb hK hG (18) (kd := 18) (o := 0) rfl rfl (by omega) (cp := 22) (ln := 64) rfl rfl (by omega) dX6_place_124 ?_
                      have hr25 := gI_22 hI (0) (v24)
                      refine r_nm (fun v26 ev26 => ?_)
                      rw [← ev26] at hr25
                      have hcs : v26 = cst stq a t0 i r := by rw [ev26, hstb, setR_c _ _ (by decide)]; unfold fdS; rw [setF_22]; exact cfX_v (by omega) (by omega) (by omega)
                      refine lv_aload_n hx hb dX6_place_125 rfl (lv_at hl 5 rfl) ?_
                      refine g_get hx hb hts hin6 hown hK hG (key := 0) (by omega) (gC_0 stb ad cy) rfl 23 (by decide) L_69 (fun _ h9 => h9) rfl dX6_place_126 ?_
                      refine lv_iload_n hx hb dX6_place_129 rfl (lv_at hl 3 rfl) ?_
                      refine lv_iconst (v := iI (1)) hx hb dX6_place_130 rfl ?_
                      refine lv_iload hx hb dX6_place_131 (lv_at hl 2 rfl) ?_
                      refine r_as (y := ((r : Nat) : Int)) (by omega) ?_
                      refine r_ishl hx hb (by omega) dX6_place_133 ?_
                      refine r_nm (fun v27 ev27 => ?_)
                      have hsl : v27 = ((2 ^ r : Nat) : Int) := by rw [ev27]; push_cast; omega
                      refine r_as (y := ((2 ^ r : Nat) : Int)) (by exact hsl) ?_
                      refine r_as2 (y := ((S : Nat) : Int)) (by rfl) ?_
                      refine r_ior hx hb dX6_place_134 ?_
                      refine r_nm (fun v28 ev28 => ?_)
                      have hvo : v28 = ((S ||| 2 ^ r : Nat) : Int) := ev28
                      have hor := ones_or S (by omega) r (by omega) (by omega)
                      refine g_iald hx hb hK hG (19) (kd := 19) (o := 0) rfl rfl (by omega) (cp := 23) (ln := 256) rfl rfl (by omega) dX6_place_135 ?_
                      have hr29 := gI_23 hI (0) (v28)
                      refine r_nm (fun v30 ev30 => ?_)
                      rw [← ev30] at hr29
                      have hff : v30 = dpV (cst stq a t0) (stq 15 0 a).toNat (S ||| 2 ^ r) := by rw [ev30, hvo, hstb, setR_c _ _ (by decide)]; unfold fdS; rw [setF_23]; exact ffX_v (Nat.zero_le _) (by omega)
                      refine r_iadd hx hb dX6_place_136 ?_
                      refine r_nm (fun v31 ev31 => ?_)
                      refine lv_aload_n hx hb dX6_place_137 rfl (lv_at hl 5 rfl) ?_
                      refine g_get hx hb hts hin6 hown hK hG (key := 0) (by omega) (gC_0 stb ad cy) rfl 23 (by decide) L_69 (fun _ h9 => h9) rfl dX6_place_138 ?_
                      refine lv_iload_n hx hb dX6_place_141 rfl (lv_at hl 3 rfl) ?_
                      refine g_iald hx hb hK hG (19) (kd := 19) (o := 0) rfl rfl (by omega) (cp := 23) (ln := 256) rfl rfl (by omega) dX6_place_142 ?_
                      have hr32 := gI_23 hI (0) (((S : Nat) : Int))
                      refine r_nm (fun v33 ev33 => ?_)
                      rw [← ev33] at hr32
                      have hfs : v33 = dpV (cst stq a t0) (stq 15 0 a).toNat S := by rw [ev33, hstb, setR_c _ _ (by decide)]; unfold fdS; rw [setF_23]; exact ffX_v (Nat.zero_le _) (by omega)
                      refine r_icmp_ne (tgt := 151) hx hb (by omega) dX6_place_143 (by decide) (fun c34 => ?_) (fun c34 => ?_)
                      · skip
                        refine lv_iload hx hb dX6_place_151 (lv_at hl 1 rfl) ?_
                        exact hlab153 (x5)  _ _ _ (by rw [pk_s _ _ _ _ (by omega)]; first | (rw [if_pos (by omega)]; omega) | (rw [if_neg (by omega)]; omega)) hG (lv_sub hl [1, 2, 3, 4, 5, 6, 7] rfl)
                      · skip
                        refine lv_iload hx hb dX6_place_146 (lv_at hl 2 rfl) ?_
                        refine lv_goto (tgt := 153) hx hb dX6_place_148 (by decide) ?_
                        exact hlab153 (x6)  _ _ _ (by rw [pk_s _ _ _ _ (by omega)]; first | (rw [if_pos (by omega)]; omega) | (rw [if_neg (by omega)]; omega)) hG (lv_sub hl [1, 2, 3, 4, 5, 6, 7] rfl)
                  refine lv_iload_n hx hb dX6_place_91 rfl (lv_at hl 2 rfl) ?_
                  refine lv_iload hx hb dX6_place_92 (lv_at hl 1 rfl) ?_
                  refine r_as (y := ((r : Nat) : Int)) (by omega) ?_
                  refine r_ishr hx hb (by omega) (by constructor <;> omega) dX6_place_94 ?_
                  refine r_nm (fun v35 ev35 => ?_)
                  have hbt0 : v35 = ((S : Nat) : Int) / 2 ^ r := ev35
                  refine lv_iconst (v := iI (1)) hx hb dX6_place_95 rfl ?_
                  refine r_iand 1 hx hb (by decide) (by decide) dX6_place_96 ?_
                  refine r_nm (fun v36 ev36 => ?_)
                  have hbt : v36 = ((S / 2 ^ r % 2 : Nat) : Int) := by rw [ev36, hbt0]; exact bitSI S r
                  refine r_if_ne (tgt := 104) hx hb (by omega) dX6_place_97 (by decide) (fun c37 => ?_) (fun c37 => ?_)
                  · skip
                    refine lv_iconst (v := iI (0)) hx hb dX6_place_104 rfl ?_
                    exact hlab105 (0)  _ _ _ (by omega) hG (lv_sub hl [0, 1, 2, 3, 4, 5, 6] rfl)
                  · skip
                    refine lv_iconst (v := iI (1)) hx hb dX6_place_100 rfl ?_
                    refine lv_goto (tgt := 105) hx hb dX6_place_101 (by decide) ?_
                    exact hlab105 (1)  _ _ _ (by omega) hG (lv_sub hl [0, 1, 2, 3, 4, 5, 6] rfl)
            exact hloop86 _ (-1) (7) (8) _ _ _ (Nat.lt_succ_self _) (by omega) (by omega) (by rfl) hG (lv_sub hl [1, 0, 2, 3, 4, 5, 6] rfl)
      exact hloop68 _  (0) (0) st5 _ _ _ (Nat.lt_succ_self _) (by omega) (by rfl) (by decide) (by rw [hs8]; exact (rfX_0 _ _ _ _ _ _).symm) hI hG (lv_sub hl [1, 0, 2, 3, 4] rfl)
    · skip
      refine lv_iconst (v := iI (0)) hx hb dX6_place_54 rfl ?_
      exact g_iret hx hb hr hlocks hG (by
        first
          | (unfold aPlace sPlace; rw [if_neg (by omega), if_neg (by omega)]; exact ⟨rfl, by subst_vars; rfl, GI_mono (by omega) hI⟩)
          | (unfold aPlace sPlace; rw [if_pos (by omega), if_pos (by omega), ← hsk, ← hNp]; exact ⟨by rw [e0], hs9, hI⟩)) dX6_place_55
  refine lv_aload_n hx hb dX6_place_1 rfl (lv_at hl 0 rfl) ?_
  refine lv_iload_n hx hb dX6_place_2 rfl (lv_at hl 1 rfl) ?_
  refine g_goi hG hA (va_runV (As := [.int (iI (a))]) (rest := [.ref (ad 0)]) ⟨hx, hb, hml, hown, hts⟩ (mX6_isLayer l D cy ad n st _ fz wb hn hI (by omega) (a) (by omega)) (cwV 1 hts gX6_place_X6_isLayer rfl rfl rfl (by decide +kernel) ⟨Nat.le_of_ble_eq_true rfl, Nat.le_of_ble_eq_true rfl⟩) ⟨g_blind, va_recv hK hG.1 (q0 := 0) (ci := 6) rfl ((gw_at (by omega)).trans (by rw [gC_0 st ad cy])), g_pre hK hG hA hN hZ⟩ rfl rfl hl.1 rfl (lv_room (Nat.le_of_ble_eq_true rfl)) dX6_place_3 ⟨Nat.zero_le _, Nat.zero_le _⟩) (fun r9 s9 H locs hp hG => ?_)
  obtain ⟨rfl, hs9⟩ := hp
  rw [hs9] at hG
  clear hs9
  refine r_nm (fun v38 ev38 => ?_)
  have hr39 := inF_s (a) 0 (st 14 0 0 - 1)
  rw [← ev38] at hr39
  refine r_if_eq (tgt := 16) hx hb (by omega) dX6_place_6 (by decide) (fun c40 => ?_) (fun c40 => ?_)
  · skip
    refine lv_iconst (v := iI (1)) hx hb dX6_place_16 rfl ?_
    refine lv_goto (tgt := 44) hx hb dX6_place_17 (by decide) ?_
    exact hlab44 (1)  _ _ _ (by omega) hG (lv_sub hl [0, 1, 2] rfl)
  · skip
    refine lv_iload_n hx hb dX6_place_9 rfl (lv_at hl 2 rfl) ?_
    refine g_goi hG hA (va_runS (As := [.int (iI (t0))]) (rest := [.ref (ad 0)]) ⟨hx, hb, hml, hown, hts⟩ (mX6_isTile l D cy ad n st _ fz wb hn hI (by omega) (t0) (by omega)) (va_cwS 1 hts gX6_place_X6_isTile rfl rfl rfl (by decide +kernel) ⟨Nat.le_of_ble_eq_true rfl, Nat.le_of_ble_eq_true rfl⟩) ⟨g_blind, g_pre hK hG hA hN hZ⟩ rfl rfl hl.1 rfl (lv_room (Nat.le_of_ble_eq_true rfl)) dX6_place_10 ⟨Nat.zero_le _, Nat.zero_le _⟩) (fun r9 s9 H locs hp hG => ?_)
    obtain ⟨rfl, hs9⟩ := hp
    rw [hs9] at hG
    clear hs9
    refine r_nm (fun v41 ev41 => ?_)
    have hr42 := inF_s (t0) 0 5
    rw [← ev41] at hr42
    refine r_if_ne (tgt := 20) hx hb (by omega) dX6_place_13 (by decide) (fun c43 => ?_) (fun c43 => ?_)
    · skip
      refine lv_aload_n hx hb dX6_place_20 rfl (lv_at hl 0 rfl) ?_
      refine g_get hx hb hts hin6 hown hK hG (key := 0) (by omega) (gC_0 st ad cy) rfl 20 (by decide) L_60 (fun _ h9 => h9) rfl dX6_place_21 ?_
      refine lv_iload_n hx hb dX6_place_24 rfl (lv_at hl 1 rfl) ?_
      refine g_iald hx hb hK hG (16) (kd := 16) (o := 0) rfl rfl (by omega) (cp := 20) (ln := 6) rfl rfl (by omega) dX6_place_25 ?_
      have hr44 := gI_20 hI (0) (a)
      refine r_nm (fun v45 ev45 => ?_)
      rw [← ev45] at hr44
      refine lv_iconst (v := iI (-1)) hx hb dX6_place_26 rfl ?_
      refine r_icmp_ne (tgt := 39) hx hb (by omega) dX6_place_27 (by decide) (fun c46 => ?_) (fun c46 => ?_)
      · skip
        refine lv_iconst (v := iI (2)) hx hb dX6_place_39 rfl ?_
        refine lv_goto (tgt := 44) hx hb dX6_place_40 (by decide) ?_
        exact hlab44 (2)  _ _ _ (by omega) hG (lv_sub hl [0, 1, 2] rfl)
      · skip
        refine lv_aload_n hx hb dX6_place_30 rfl (lv_at hl 0 rfl) ?_
        refine lv_iload_n hx hb dX6_place_31 rfl (lv_at hl 2 rfl) ?_
        refine g_goi hG hA (va_runV (As := [.int (iI (t0))]) (rest := [.ref (ad 0)]) ⟨hx, hb, hml, hown, hts⟩ (mX6_layerOn l D cy ad n st _ fz wb hn hI (by omega) (t0) (by omega)) (cwV 1 hts gX6_place_X6_layerOn rfl rfl rfl (by decide +kernel) ⟨Nat.le_of_ble_eq_true rfl, Nat.le_of_ble_eq_true rfl⟩) ⟨g_blind, va_recv hK hG.1 (q0 := 0) (ci := 6) rfl ((gw_at (by omega)).trans (by rw [gC_0 st ad cy])), g_pre hK hG hA hN hZ⟩ rfl rfl hl.1 rfl (lv_room (Nat.le_of_ble_eq_true rfl)) dX6_place_32 ⟨Nat.zero_le _, Nat.zero_le _⟩) (fun r9 s9 H locs hp hG => ?_)
        obtain ⟨rfl, hs9⟩ := hp
        rw [hs9] at hG
        clear hs9
        refine r_nm (fun v47 ev47 => ?_)
        have hr48 := lonF_r st (t0) (st 14 0 0).toNat
        rw [← ev47] at hr48
        refine lv_iconst (v := iI (-1)) hx hb dX6_place_35 rfl ?_
        refine r_icmp_eq (tgt := 43) hx hb (by omega) dX6_place_36 (by decide) (fun c49 => ?_) (fun c49 => ?_)
        · skip
          refine lv_iconst (v := iI (0)) hx hb dX6_place_43 rfl ?_
          exact hlab44 (0)  _ _ _ (by omega) hG (lv_sub hl [0, 1, 2] rfl)
        · skip
          refine lv_iconst (v := iI (2)) hx hb dX6_place_39 rfl ?_
          refine lv_goto (tgt := 44) hx hb dX6_place_40 (by decide) ?_
          exact hlab44 (2)  _ _ _ (by omega) hG (lv_sub hl [0, 1, 2] rfl)
    · skip
      refine lv_iconst (v := iI (1)) hx hb dX6_place_16 rfl ?_
      refine lv_goto (tgt := 44) hx hb dX6_place_17 (by decide) ?_
      exact hlab44 (1)  _ _ _ (by omega) hG (lv_sub hl [0, 1, 2] rfl)
