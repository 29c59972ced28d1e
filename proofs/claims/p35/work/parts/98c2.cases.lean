set_option maxHeartbeats 1000000 in
set_option maxRecDepth 100000 in
theorem lb_load {p : Program} {l : Launch} {e : Env} {s : State} {m : MethodId} {below : List Frame} {meth : Method} {c : Code} {b L : Nat} {xs : Nat → Int32} {D : va_G} {cy : Nat → ClassId} {fz : Nat} {A : Nat → Prop} {H : Heap} {locs : List Loc} {cells slots : Nat} {Q : State → Prop} {ls : Array Slot} {ad : Nat → Nat} {n : Nat} {st : St} (C : LC p l s m c b L xs D cy fz A) (hn81 : n = 81) (t : Nat) (mm w v dd wh rw0 cl tl : Int) (a a' : Nat) (wb : Int) (hwb : 0 ≤ wb ∧ wb ≤ 200000) (hG : GH D cy ad n st A s.heap H locs) (hJ : JS wb st) (hdd : st 31 0 0 = dd) (hw : -2147483648 ≤ w ∧ w < 2147483648) (htl : 0 ≤ tl ∧ tl < 3) (hrw : 0 ≤ rw0 ∧ rw0 < 8) (hcl : 0 ≤ cl ∧ cl < 16) (ha : (a = 0 ∧ a' = 1) ∨ (a = 1 ∧ a' = 0)) (hl : lv_has ls 22 [(16, .int (iI (cl))), (15, .int (iI (rw0))), (14, .int (iI (tl))), (13, .int (iI (((a : Nat) : Int)))), (12, .int (iI (wh))), (11, .int (iI (w))), (7, .int (iI (1))), (8, .int (iI (dd))), (9, .int (iI (mm))), (10, .int (iI (((t : Nat) : Int)))), (0, .ref (b)), (1, .ref (ad 21)), (2, .int (iI (v))), (3, .ref (ad 19)), (4, .ref (ad 20)), (5, .ref (ad 31)), (6, .ref (ad 32))]) (hcs : cells + 2000 ≤ room_1.cells ∧ slots + 12000 ≤ room_1.slots) (KK : KKs p l e s m below meth c b D cy A Q ad n v mm t w tl wb (st 30 0 0) cells slots) : W p l e room_1 s m #[Value.ref b] below meth c H locs cells slots Q (F0 m 406 ls []) := by
  obtain ⟨hx, hb, hml, hown, hts, hX, hbl, hbA, hA, hK, hN, hZ, hlf, hL⟩ := C
  have hI := hJ.1
  have hR := hJ.2.1
  have h33 := hJ.2.2.1.1.1
  have hnl : (n : Int) = 75 + 3 * st 33 0 0 := by omega
  have hn : 75 ≤ n := by omega
  have haa : a < 2 := by rcases ha with ⟨rfl, -⟩ | ⟨rfl, -⟩ <;> decide
  obtain ⟨⟨h14, -⟩, ⟨h15, h16, h20⟩, ⟨h80, h81, h82⟩, h66, ⟨h60, h61⟩, h83⟩ := JS_a hJ haa
  have ean : (((a : Nat) : Int)).toNat = a := Int.toNat_natCast a
  refine lv_aload_n hx hb dL_law_406 rfl (lv_at hl 11 rfl) ?_
  refine lv_iload hx hb dL_law_407 (lv_at hl 3 rfl) ?_
  have hkp := kPlaced_s st ((a : Nat) : Int)
  refine g_goi hG hA (va_runV (As := [.int (iI (((a : Nat) : Int)))]) (rest := []) ⟨hx, hb, hml, hown, hts⟩ (pX5_load l D cy ad n st _ fz _ hn hI (by omega) (((a : Nat) : Int)) (by omega) hlf hnl hR (by omega)) (cwV 1 hts gL_law_X5_load rfl rfl rfl (by decide +kernel) ⟨Nat.le_of_ble_eq_true rfl, Nat.le_of_ble_eq_true rfl⟩) ⟨g_blind, va_recv hK hG.1 (q0 := 21 - 19) (ci := 5) rfl ((gw_at (k := 21) (by omega)).trans (by rw [gC_21 st ad cy])), g_pre hK hG hA hN hZ⟩ rfl rfl hl.1 rfl (lv_room (Nat.le_of_ble_eq_true rfl)) dL_law_409 ⟨Nat.le_trans (by omega) hcs.1, Nat.le_trans (by omega) hcs.2⟩) (fun r9 st1 H locs hp hG => ?_)
  obtain ⟨-, ⟨rfl, hs9⟩, hI9⟩ := hp
  have hs2 : st1 = ldCS st a (st 66 a 0).toNat := by rw [hs9, ean]
  have hlt := ld_true (o := (st 66 a 0).toNat) (PA_rows hJ.2.2.1 haa) h61 (hs2 ▸ hI9)
  obtain ⟨sta, hG, hJ3, hst3⟩ := gh_go hG hI9 (by rw [hs2]; exact PA_ld _ _ hJ.2.2.1) (by rw [hs2]; exact PC_ld (PA_rows hJ.2.2.1 haa) h61 hJ.1 hJ.2.2.2)
  replace hI := hJ3.1
  replace hR := hJ3.2.1
  replace hnl : (n : Int) = 75 + 3 * sta 33 0 0 := by have := hJ3.2.2.1.1.1; omega
  refine r_nm (fun v2 ev2 => ?_)
  have hret : v2 = ldCF st a (st 66 a 0).toNat := by rw [ev2, ean]
  have hlr := ldF_r (o := (st 66 a 0).toNat) (PA_rows hJ.2.2.1 haa) h61 h60
  refine lv_istore (lv' := [(17, .int (iI (v2))), (16, .int (iI (cl))), (15, .int (iI (rw0))), (14, .int (iI (tl))), (13, .int (iI (((a : Nat) : Int)))), (12, .int (iI (wh))), (11, .int (iI (w))), (7, .int (iI (1))), (8, .int (iI (dd))), (9, .int (iI (mm))), (10, .int (iI (((t : Nat) : Int)))), (0, .ref (b)), (1, .ref (ad 21)), (2, .int (iI (v))), (3, .ref (ad 19)), (4, .ref (ad 20)), (5, .ref (ad 31)), (6, .ref (ad 32))]) hx hb dL_law_412 hl (by decide) rfl (fun ls hl => ?_)
  refine lv_aload_n hx hb dL_law_414 rfl (lv_at hl 12 rfl) ?_
  refine lv_iload hx hb dL_law_415 (lv_at hl 4 rfl) ?_
  obtain ⟨⟨g14, -⟩, ⟨g15, -, g20⟩, -⟩ := JS_a hJ3 haa
  have hkl := kLay_s sta ((a : Nat) : Int)
  have e66 : sta 66 a 0 = st 66 a 0 := by rw [hst3 66 a 0 (by decide), hs2]; exact ld_c _ _ _ _ (by decide)
  have e60 : sta 60 a 0 = st 60 a 0 := by rw [hst3 60 a 0 (by decide), hs2]; exact ld_c _ _ _ _ (by decide)
  refine g_goi hG hA (va_runV (As := [.int (iI (((a : Nat) : Int)))]) (rest := []) ⟨hx, hb, hml, hown, hts⟩ (pX5_isTrue l D cy ad n sta _ fz _ hn hI (by omega) (((a : Nat) : Int)) (by omega) hlf hnl hR (by omega)) (cwV 1 hts gL_law_X5_isTrue rfl rfl rfl (by decide +kernel) ⟨Nat.le_of_ble_eq_true rfl, Nat.le_of_ble_eq_true rfl⟩) ⟨g_blind, va_recv hK hG.1 (q0 := 21 - 19) (ci := 5) rfl ((gw_at (k := 21) (by omega)).trans (by rw [gC_21 sta ad cy])), g_pre hK hG hA hN hZ⟩ rfl rfl hl.1 rfl (lv_room (Nat.le_of_ble_eq_true rfl)) dL_law_417 ⟨Nat.le_trans (by omega) hcs.1, Nat.le_trans (by omega) hcs.2⟩) (fun r9 s9 H locs hp hG => ?_)
  obtain ⟨rfl, hs9⟩ := hp
  rw [hs9] at hG
  clear hs9
  refine r_nm (fun v3 ev3 => ?_)
  have htv : v3 = allK sta a (st 66 a 0).toNat (st 60 a 0).toNat := by rw [ev3, ← e66, ← e60]; exact true_v hJ3 haa
  have hak : allK sta a (st 66 a 0).toNat (st 60 a 0).toNat = 1 ↔ ldCF st a (st 66 a 0).toNat = 0 := (allK_cg hst3 a _ _).trans (by rw [hs2]; exact hlt)
  have h01 := allK_r sta a (st 66 a 0).toNat (st 60 a 0).toNat
  refine lv_iload hx hb dL_law_420 (lv_at hl 0 rfl) ?_
  refine r_if_ne (tgt := 429) hx hb (by omega) dL_law_422 (by decide) (fun c4 => ?_) (fun c4 => ?_)
  · skip
    refine lv_iconst (v := iI (0)) hx hb dL_law_429 rfl ?_
    refine r_icmp_ne (tgt := 437) hx hb (by omega) dL_law_430 (by decide) (fun c5 => ?_) (fun c5 => ?_)
    · skip
      exact absurd c5 (by omega)
    · skip
      refine lv_iconst (v := iI (1)) hx hb dL_law_433 rfl ?_
      refine lv_goto (tgt := 438) hx hb dL_law_434 (by decide) ?_
      refine lv_istore (lv' := [(7, .int (iI (1))), (17, .int (iI (v2))), (16, .int (iI (cl))), (15, .int (iI (rw0))), (14, .int (iI (tl))), (13, .int (iI (((a : Nat) : Int)))), (12, .int (iI (wh))), (11, .int (iI (w))), (8, .int (iI (dd))), (9, .int (iI (mm))), (10, .int (iI (((t : Nat) : Int)))), (0, .ref (b)), (1, .ref (ad 21)), (2, .int (iI (v))), (3, .ref (ad 19)), (4, .ref (ad 20)), (5, .ref (ad 31)), (6, .ref (ad 32))]) hx hb dL_law_438 hl (by decide) rfl (fun ls hl => ?_)
      refine lv_goto (tgt := 1066) hx hb dL_law_440 (by decide) ?_
      replace hJ := hJ3
      refine W.widen (k := cells + 2000) (n := slots + 12000) (by omega) (by omega) ?_
      exact KK sta (dd) H locs ls hG hJ (by rw [hst3 31 0 0 (by decide), hs2, ld_c _ _ _ _ (by decide)]; exact hdd) (by rw [hst3 30 0 0 (by decide), hs2, ld_c _ _ _ _ (by decide)]; omega) (lv_sub hl [0, 8, 9, 10, 7, 4, 11, 12, 13, 14, 15, 16, 17] rfl)
  · skip
    refine lv_iconst (v := iI (1)) hx hb dL_law_425 rfl ?_
    refine lv_goto (tgt := 430) hx hb dL_law_426 (by decide) ?_
    refine r_icmp_ne (tgt := 437) hx hb (by omega) dL_law_430 (by decide) (fun c6 => ?_) (fun c6 => ?_)
    · skip
      exact absurd c6 (by omega)
    · skip
      refine lv_iconst (v := iI (1)) hx hb dL_law_433 rfl ?_
      refine lv_goto (tgt := 438) hx hb dL_law_434 (by decide) ?_
      refine lv_istore (lv' := [(7, .int (iI (1))), (17, .int (iI (v2))), (16, .int (iI (cl))), (15, .int (iI (rw0))), (14, .int (iI (tl))), (13, .int (iI (((a : Nat) : Int)))), (12, .int (iI (wh))), (11, .int (iI (w))), (8, .int (iI (dd))), (9, .int (iI (mm))), (10, .int (iI (((t : Nat) : Int)))), (0, .ref (b)), (1, .ref (ad 21)), (2, .int (iI (v))), (3, .ref (ad 19)), (4, .ref (ad 20)), (5, .ref (ad 31)), (6, .ref (ad 32))]) hx hb dL_law_438 hl (by decide) rfl (fun ls hl => ?_)
      refine lv_goto (tgt := 1066) hx hb dL_law_440 (by decide) ?_
      replace hJ := hJ3
      refine W.widen (k := cells + 2000) (n := slots + 12000) (by omega) (by omega) ?_
      exact KK sta (dd) H locs ls hG hJ (by rw [hst3 31 0 0 (by decide), hs2, ld_c _ _ _ _ (by decide)]; exact hdd) (by rw [hst3 30 0 0 (by decide), hs2, ld_c _ _ _ _ (by decide)]; omega) (lv_sub hl [0, 8, 9, 10, 7, 4, 11, 12, 13, 14, 15, 16, 17] rfl)
set_option maxHeartbeats 1000000 in
set_option maxRecDepth 100000 in
theorem lb_stick {p : Program} {l : Launch} {e : Env} {s : State} {m : MethodId} {below : List Frame} {meth : Method} {c : Code} {b L : Nat} {xs : Nat → Int32} {D : va_G} {cy : Nat → ClassId} {fz : Nat} {A : Nat → Prop} {H : Heap} {locs : List Loc} {cells slots : Nat} {Q : State → Prop} {ls : Array Slot} {ad : Nat → Nat} {n : Nat} {st : St} (C : LC p l s m c b L xs D cy fz A) (hn81 : n = 81) (t : Nat) (mm w v dd wh rw0 cl tl : Int) (la : Int) (wb : Int) (hwb : 0 ≤ wb ∧ wb ≤ 200000) (hG : GH D cy ad n st A s.heap H locs) (hJ : JS wb st) (hdd : st 31 0 0 = dd) (hw : -2147483648 ≤ w ∧ w < 2147483648) (htl : 0 ≤ tl ∧ tl < 3) (hrw : 0 ≤ rw0 ∧ rw0 < 8) (hcl : 0 ≤ cl ∧ cl < 16) (hla : 0 ≤ la ∧ la < 2) (hl : lv_has ls 22 [(16, .int (iI (cl))), (15, .int (iI (rw0))), (14, .int (iI (tl))), (13, .int (iI (la))), (12, .int (iI (wh))), (11, .int (iI (w))), (7, .int (iI (1))), (8, .int (iI (dd))), (9, .int (iI (mm))), (10, .int (iI (((t : Nat) : Int)))), (0, .ref (b)), (1, .ref (ad 21)), (2, .int (iI (v))), (3, .ref (ad 19)), (4, .ref (ad 20)), (5, .ref (ad 31)), (6, .ref (ad 32))]) (hcs : cells + 2000 ≤ room_1.cells ∧ slots + 12000 ≤ room_1.slots) (KK : KKs p l e s m below meth c b D cy A Q ad n v mm t w tl wb (st 30 0 0) cells slots) : W p l e room_1 s m #[Value.ref b] below meth c H locs cells slots Q (F0 m 449 ls []) := by
  obtain ⟨hx, hb, hml, hown, hts, hX, hbl, hbA, hA, hK, hN, hZ, hlf, hL⟩ := C
  have hI := hJ.1
  have hR := hJ.2.1
  have h33 := hJ.2.2.1.1.1
  have hnl : (n : Int) = 75 + 3 * st 33 0 0 := by omega
  have hn : 75 ≤ n := by omega
  refine lv_aload_n hx hb dL_law_449 rfl (lv_at hl 11 rfl) ?_
  refine lv_iload hx hb dL_law_450 (lv_at hl 2 rfl) ?_
  refine lv_iload hx hb dL_law_452 (lv_at hl 1 rfl) ?_
  refine lv_iload hx hb dL_law_454 (lv_at hl 0 rfl) ?_
  refine lv_iconst (v := iI (3)) hx hb dL_law_456 rfl ?_
  have hkc := kCell_s tl rw0 cl 3
  refine g_goi hG hA (va_runV (As := [.int (iI (tl)), .int (iI (rw0)), .int (iI (cl)), .int (iI (3))]) (rest := []) ⟨hx, hb, hml, hown, hts⟩ (pX5_cell l D cy ad n st _ fz _ hn hI (by omega) (tl) (rw0) (cl) (3) (by omega) (by omega) (by omega) (by omega) hlf hnl hR (by omega)) (cwV 4 hts gL_law_X5_cell rfl rfl rfl (by decide +kernel) ⟨Nat.le_of_ble_eq_true rfl, Nat.le_of_ble_eq_true rfl⟩) ⟨g_blind, va_recv hK hG.1 (q0 := 21 - 19) (ci := 5) rfl ((gw_at (k := 21) (by omega)).trans (by rw [gC_21 st ad cy])), g_pre hK hG hA hN hZ⟩ rfl rfl hl.1 rfl (lv_room (Nat.le_of_ble_eq_true rfl)) dL_law_457 ⟨Nat.le_trans (by omega) hcs.1, Nat.le_trans (by omega) hcs.2⟩) (fun r9 s9 H locs hp hG => ?_)
  obtain ⟨rfl, hs9⟩ := hp
  rw [hs9] at hG
  clear hs9
  refine r_nm (fun v1 ev1 => ?_)
  have hcv : v1 = st 43 (tl).toNat (16 * rw0 + cl) := by rw [ev1]; rfl
  have h43r := gI_43 hI (tl).toNat (16 * rw0 + cl)
  have h44r := gI_44 hI (tl).toNat (16 * rw0 + cl)
  refine r_if_ne (tgt := 1066) hx hb (by omega) dL_law_460 (by decide) (fun c2 => ?_) (fun c2 => ?_)
  · skip
    replace hJ := JS_mono (wb' := wb + 2048) (by omega) hJ
    refine W.widen (k := cells + 2000) (n := slots + 12000) (by omega) (by omega) ?_
    exact KK st (dd) H locs ls hG hJ hdd (by omega) (lv_sub hl [6, 7, 8, 9, 5, 2, 10, 11, 12, 13, 14, 15, 16] rfl)
  · skip
    refine lv_iload hx hb dL_law_463 (lv_at hl 5 rfl) ?_
    refine lv_bipush (v := iI (12)) hx hb dL_law_465 (by decide +kernel) ?_
    refine r_as (y := ((12 : Nat) : Int)) (by omega) ?_
    refine r_ishr hx hb (by omega) (by omega) dL_law_467 ?_
    refine r_nm (fun v3 ev3 => ?_)
    refine lv_bipush (v := iI (16)) hx hb dL_law_468 (by decide +kernel) ?_
    refine gp_goi hG (va_runS (As := [.int (iI (v3)), .int (iI (16))]) (rest := []) ⟨hx, hb, hml, hown, hts⟩ (mL_low l (v3) (16) (by omega) (by omega)) (va_cwS 2 hts gL_law_L_low rfl rfl rfl (by decide +kernel) ⟨Nat.le_of_ble_eq_true rfl, Nat.le_of_ble_eq_true rfl⟩) ⟨p0_blind, p0_pre⟩ rfl rfl hl.1 rfl (lv_room (Nat.le_of_ble_eq_true rfl)) dL_law_470 ⟨Nat.le_trans (by omega) hcs.1, Nat.le_trans (by omega) hcs.2⟩) (fun r9 H locs hp hG => ?_)
    rw [hp]
    clear hp
    refine r_nm (fun v4 ev4 => ?_)
    have hr5 := @lowF_r ((v3)) ((16)) (by omega)
    rw [← ev4] at hr5
    refine lv_istore (lv' := [(17, .int (iI (v4))), (16, .int (iI (cl))), (15, .int (iI (rw0))), (14, .int (iI (tl))), (13, .int (iI (la))), (12, .int (iI (wh))), (11, .int (iI (w))), (7, .int (iI (1))), (8, .int (iI (dd))), (9, .int (iI (mm))), (10, .int (iI (((t : Nat) : Int)))), (0, .ref (b)), (1, .ref (ad 21)), (2, .int (iI (v))), (3, .ref (ad 19)), (4, .ref (ad 20)), (5, .ref (ad 31)), (6, .ref (ad 32))]) hx hb dL_law_473 hl (by decide) rfl (fun ls hl => ?_)
    refine lv_aload_n hx hb dL_law_475 rfl (lv_at hl 12 rfl) ?_
    refine lv_iload hx hb dL_law_476 (lv_at hl 3 rfl) ?_
    refine lv_iload hx hb dL_law_478 (lv_at hl 2 rfl) ?_
    refine lv_iload hx hb dL_law_480 (lv_at hl 1 rfl) ?_
    refine lv_iload hx hb dL_law_482 (lv_at hl 0 rfl) ?_
    have hks := kStick_s st tl rw0 cl (v4)
    have h7 : st 7 0 (128 * tl + 16 * rw0 + cl) = st 43 (tl).toNat (16 * rw0 + cl) := by rw [(hR.2.2.2.2.1 (tl).toNat (16 * rw0 + cl) (by omega) (by omega)).2.2.2.1]; congr 1; omega
    have h430 : st 43 (tl).toNat (16 * rw0 + cl) = 0 := by omega
    refine g_gov hG hA (va_runV (As := [.int (iI (tl)), .int (iI (rw0)), .int (iI (cl)), .int (iI (v4))]) (rest := []) ⟨hx, hb, hml, hown, hts⟩ (pX5_stick l D cy ad n st _ fz _ hn hI (by omega) (tl) (rw0) (cl) (v4) (by omega) (by omega) (by omega) (by omega) hlf hnl hR (by omega)) (cwV 4 hts gL_law_X5_stick rfl rfl rfl (by decide +kernel) ⟨Nat.le_of_ble_eq_true rfl, Nat.le_of_ble_eq_true rfl⟩) ⟨g_blind, va_recv hK hG.1 (q0 := 21 - 19) (ci := 5) rfl ((gw_at (k := 21) (by omega)).trans (by rw [gC_21 st ad cy])), g_pre hK hG hA hN hZ⟩ rfl rfl hl.1 rfl (lv_room (Nat.le_of_ble_eq_true rfl)) dL_law_484 ⟨Nat.le_trans (by omega) hcs.1, Nat.le_trans (by omega) hcs.2⟩) (fun st6 H locs hp => ?_)
    intro hG
    obtain ⟨-, hs9, hI9⟩ := hp
    have hs2 : st6 = bsC st (tl).toNat (16 * rw0 + cl) (v4) := hs9
    obtain ⟨sta, hG, hJ3, hst3⟩ := gh_go hG hI9 (by rw [hs2]; exact PA_bs _ _ _ hJ.2.2.1) (by rw [hs2]; exact PC_bs hJ.1 _ _ _ hJ.2.2.2)
    replace hI := hJ3.1
    replace hR := hJ3.2.1
    replace hnl : (n : Int) = 75 + 3 * sta 33 0 0 := by have := hJ3.2.2.1.1.1; omega
    have q43 : sta 43 (tl).toNat (16 * rw0 + cl) = 1 := by rw [hst3 43 _ _ (by decide), hs2]; exact (bs_1 h430).1
    have q40 : sta 40 (tl).toNat (16 * rw0 + cl) = (v4) := by rw [hst3 40 _ _ (by decide), hs2]; exact (bs_1 h430).2
    have q44 : sta 44 (tl).toNat (16 * rw0 + cl) = st 44 (tl).toNat (16 * rw0 + cl) := by rw [hst3 44 _ _ (by decide), hs2]; exact bsC_c _ _ _ _ (by decide)
    have h449 := hJ.2.2.2.1 (tl).toNat (16 * rw0 + cl)
    refine lv_aload_n hx hb dL_law_487 rfl (lv_at hl 12 rfl) ?_
    refine lv_iload hx hb dL_law_488 (lv_at hl 3 rfl) ?_
    refine lv_iload hx hb dL_law_490 (lv_at hl 2 rfl) ?_
    refine lv_iload hx hb dL_law_492 (lv_at hl 1 rfl) ?_
    refine lv_iconst (v := iI (0)) hx hb dL_law_494 rfl ?_
    have hkc0 := kCell_s tl rw0 cl 0
    refine g_goi hG hA (va_runV (As := [.int (iI (tl)), .int (iI (rw0)), .int (iI (cl)), .int (iI (0))]) (rest := []) ⟨hx, hb, hml, hown, hts⟩ (pX5_cell l D cy ad n sta _ fz _ hn hI (by omega) (tl) (rw0) (cl) (0) (by omega) (by omega) (by omega) (by omega) hlf hnl hR (by omega)) (cwV 4 hts gL_law_X5_cell rfl rfl rfl (by decide +kernel) ⟨Nat.le_of_ble_eq_true rfl, Nat.le_of_ble_eq_true rfl⟩) ⟨g_blind, va_recv hK hG.1 (q0 := 21 - 19) (ci := 5) rfl ((gw_at (k := 21) (by omega)).trans (by rw [gC_21 sta ad cy])), g_pre hK hG hA hN hZ⟩ rfl rfl hl.1 rfl (lv_room (Nat.le_of_ble_eq_true rfl)) dL_law_495 ⟨Nat.le_trans (by omega) hcs.1, Nat.le_trans (by omega) hcs.2⟩) (fun r9 s9 H locs hp hG => ?_)
    obtain ⟨rfl, hs9⟩ := hp
    rw [hs9] at hG
    clear hs9
    refine r_nm (fun v7 ev7 => ?_)
    have w0 : v7 = sta 40 (tl).toNat (16 * rw0 + cl) := by rw [ev7]; rfl
    refine lv_iload hx hb dL_law_498 (lv_at hl 0 rfl) ?_
    refine r_icmp_ne (tgt := 552) hx hb (by omega) dL_law_500 (by decide) (fun c8 => ?_) (fun c8 => ?_)
    · skip
      exact absurd c8 (by omega)
    · skip
      refine lv_aload_n hx hb dL_law_503 rfl (lv_at hl 12 rfl) ?_
      refine lv_iload hx hb dL_law_504 (lv_at hl 3 rfl) ?_
      refine lv_iload hx hb dL_law_506 (lv_at hl 2 rfl) ?_
      refine lv_iload hx hb dL_law_508 (lv_at hl 1 rfl) ?_
      refine lv_iconst (v := iI (1)) hx hb dL_law_510 rfl ?_
      have hkc1 := kCell_s tl rw0 cl 1
      refine g_goi hG hA (va_runV (As := [.int (iI (tl)), .int (iI (rw0)), .int (iI (cl)), .int (iI (1))]) (rest := []) ⟨hx, hb, hml, hown, hts⟩ (pX5_cell l D cy ad n sta _ fz _ hn hI (by omega) (tl) (rw0) (cl) (1) (by omega) (by omega) (by omega) (by omega) hlf hnl hR (by omega)) (cwV 4 hts gL_law_X5_cell rfl rfl rfl (by decide +kernel) ⟨Nat.le_of_ble_eq_true rfl, Nat.le_of_ble_eq_true rfl⟩) ⟨g_blind, va_recv hK hG.1 (q0 := 21 - 19) (ci := 5) rfl ((gw_at (k := 21) (by omega)).trans (by rw [gC_21 sta ad cy])), g_pre hK hG hA hN hZ⟩ rfl rfl hl.1 rfl (lv_room (Nat.le_of_ble_eq_true rfl)) dL_law_511 ⟨Nat.le_trans (by omega) hcs.1, Nat.le_trans (by omega) hcs.2⟩) (fun r9 s9 H locs hp hG => ?_)
      obtain ⟨rfl, hs9⟩ := hp
      rw [hs9] at hG
      clear hs9
      refine r_nm (fun v9 ev9 => ?_)
      have w1 : v9 = sta 40 (tl).toNat (16 * rw0 + cl) := by rw [ev9]; exact con_st q43
      refine lv_iload hx hb dL_law_514 (lv_at hl 0 rfl) ?_
      refine r_icmp_ne (tgt := 552) hx hb (by omega) dL_law_516 (by decide) (fun c10 => ?_) (fun c10 => ?_)
      · skip
        exact absurd c10 (by omega)
      · skip
        refine lv_aload_n hx hb dL_law_519 rfl (lv_at hl 12 rfl) ?_
        refine lv_iload hx hb dL_law_520 (lv_at hl 3 rfl) ?_
        refine lv_iload hx hb dL_law_522 (lv_at hl 2 rfl) ?_
        refine lv_iload hx hb dL_law_524 (lv_at hl 1 rfl) ?_
        refine lv_iconst (v := iI (3)) hx hb dL_law_526 rfl ?_
        refine g_goi hG hA (va_runV (As := [.int (iI (tl)), .int (iI (rw0)), .int (iI (cl)), .int (iI (3))]) (rest := []) ⟨hx, hb, hml, hown, hts⟩ (pX5_cell l D cy ad n sta _ fz _ hn hI (by omega) (tl) (rw0) (cl) (3) (by omega) (by omega) (by omega) (by omega) hlf hnl hR (by omega)) (cwV 4 hts gL_law_X5_cell rfl rfl rfl (by decide +kernel) ⟨Nat.le_of_ble_eq_true rfl, Nat.le_of_ble_eq_true rfl⟩) ⟨g_blind, va_recv hK hG.1 (q0 := 21 - 19) (ci := 5) rfl ((gw_at (k := 21) (by omega)).trans (by rw [gC_21 sta ad cy])), g_pre hK hG hA hN hZ⟩ rfl rfl hl.1 rfl (lv_room (Nat.le_of_ble_eq_true rfl)) dL_law_527 ⟨Nat.le_trans (by omega) hcs.1, Nat.le_trans (by omega) hcs.2⟩) (fun r9 s9 H locs hp hG => ?_)
        obtain ⟨rfl, hs9⟩ := hp
        rw [hs9] at hG
        clear hs9
        refine r_nm (fun v11 ev11 => ?_)
        have w3 : v11 = sta 43 (tl).toNat (16 * rw0 + cl) := by rw [ev11]; rfl
        refine lv_iconst (v := iI (1)) hx hb dL_law_530 rfl ?_
        refine r_icmp_ne (tgt := 552) hx hb (by omega) dL_law_531 (by decide) (fun c12 => ?_) (fun c12 => ?_)
        · skip
          exact absurd c12 (by omega)
        · skip
          refine lv_aload_n hx hb dL_law_534 rfl (lv_at hl 12 rfl) ?_
          refine lv_iload hx hb dL_law_535 (lv_at hl 3 rfl) ?_
          refine lv_iload hx hb dL_law_537 (lv_at hl 2 rfl) ?_
          refine lv_iload hx hb dL_law_539 (lv_at hl 1 rfl) ?_
          refine lv_iconst (v := iI (4)) hx hb dL_law_541 rfl ?_
          have hkc4 := kCell_s tl rw0 cl 4
          refine g_goi hG hA (va_runV (As := [.int (iI (tl)), .int (iI (rw0)), .int (iI (cl)), .int (iI (4))]) (rest := []) ⟨hx, hb, hml, hown, hts⟩ (pX5_cell l D cy ad n sta _ fz _ hn hI (by omega) (tl) (rw0) (cl) (4) (by omega) (by omega) (by omega) (by omega) hlf hnl hR (by omega)) (cwV 4 hts gL_law_X5_cell rfl rfl rfl (by decide +kernel) ⟨Nat.le_of_ble_eq_true rfl, Nat.le_of_ble_eq_true rfl⟩) ⟨g_blind, va_recv hK hG.1 (q0 := 21 - 19) (ci := 5) rfl ((gw_at (k := 21) (by omega)).trans (by rw [gC_21 sta ad cy])), g_pre hK hG hA hN hZ⟩ rfl rfl hl.1 rfl (lv_room (Nat.le_of_ble_eq_true rfl)) dL_law_542 ⟨Nat.le_trans (by omega) hcs.1, Nat.le_trans (by omega) hcs.2⟩) (fun r9 s9 H locs hp hG => ?_)
          obtain ⟨rfl, hs9⟩ := hp
          rw [hs9] at hG
          clear hs9
          refine r_nm (fun v13 ev13 => ?_)
          have w4 : v13 = sta 44 (tl).toNat (16 * rw0 + cl) := by rw [ev13]; rfl
          refine r_if_ne (tgt := 552) hx hb (by omega) dL_law_545 (by decide) (fun c14 => ?_) (fun c14 => ?_)
          · skip
            exact absurd c14 (by omega)
          · skip
            refine lv_iconst (v := iI (1)) hx hb dL_law_548 rfl ?_
            refine lv_goto (tgt := 553) hx hb dL_law_549 (by decide) ?_
            refine lv_istore (lv' := [(7, .int (iI (1))), (17, .int (iI (v4))), (16, .int (iI (cl))), (15, .int (iI (rw0))), (14, .int (iI (tl))), (13, .int (iI (la))), (12, .int (iI (wh))), (11, .int (iI (w))), (8, .int (iI (dd))), (9, .int (iI (mm))), (10, .int (iI (((t : Nat) : Int)))), (0, .ref (b)), (1, .ref (ad 21)), (2, .int (iI (v))), (3, .ref (ad 19)), (4, .ref (ad 20)), (5, .ref (ad 31)), (6, .ref (ad 32))]) hx hb dL_law_553 hl (by decide) rfl (fun ls hl => ?_)
            refine lv_goto (tgt := 1066) hx hb dL_law_555 (by decide) ?_
            replace hJ := JS_mono (wb' := wb + 2048) (by omega) hJ3
            refine W.widen (k := cells + 2000) (n := slots + 12000) (by omega) (by omega) ?_
            exact KK sta (dd) H locs ls hG hJ (by rw [hst3 31 0 0 (by decide), hs2, bsC_c _ _ _ _ (by decide)]; exact hdd) (by rw [hst3 30 0 0 (by decide), hs2, bsC_c _ _ _ _ (by decide)]; omega) (lv_sub hl [0, 8, 9, 10, 7, 4, 11, 12, 13, 14, 15, 16, 17] rfl)
set_option maxHeartbeats 1000000 in
set_option maxRecDepth 100000 in
theorem lb_spoil {p : Program} {l : Launch} {e : Env} {s : State} {m : MethodId} {below : List Frame} {meth : Method} {c : Code} {b L : Nat} {xs : Nat → Int32} {D : va_G} {cy : Nat → ClassId} {fz : Nat} {A : Nat → Prop} {H : Heap} {locs : List Loc} {cells slots : Nat} {Q : State → Prop} {ls : Array Slot} {ad : Nat → Nat} {n : Nat} {st : St} (C : LC p l s m c b L xs D cy fz A) (hn81 : n = 81) (t : Nat) (mm w v dd wh rw0 cl tl : Int) (la : Int) (wb : Int) (hwb : 0 ≤ wb ∧ wb ≤ 200000) (hG : GH D cy ad n st A s.heap H locs) (hJ : JS wb st) (hdd : st 31 0 0 = dd) (hw : -2147483648 ≤ w ∧ w < 2147483648) (htl : 0 ≤ tl ∧ tl < 3) (hrw : 0 ≤ rw0 ∧ rw0 < 8) (hcl : 0 ≤ cl ∧ cl < 16) (hla : 0 ≤ la ∧ la < 2) (hl : lv_has ls 22 [(16, .int (iI (cl))), (15, .int (iI (rw0))), (14, .int (iI (tl))), (13, .int (iI (la))), (12, .int (iI (wh))), (11, .int (iI (w))), (7, .int (iI (1))), (8, .int (iI (dd))), (9, .int (iI (mm))), (10, .int (iI (((t : Nat) : Int)))), (0, .ref (b)), (1, .ref (ad 21)), (2, .int (iI (v))), (3, .ref (ad 19)), (4, .ref (ad 20)), (5, .ref (ad 31)), (6, .ref (ad 32))]) (hcs : cells + 2000 ≤ room_1.cells ∧ slots + 12000 ≤ room_1.slots) (KK : KKs p l e s m below meth c b D cy A Q ad n v mm t w tl wb (st 30 0 0) cells slots) : W p l e room_1 s m #[Value.ref b] below meth c H locs cells slots Q (F0 m 564 ls []) := by
  obtain ⟨hx, hb, hml, hown, hts, hX, hbl, hbA, hA, hK, hN, hZ, hlf, hL⟩ := C
  have hI := hJ.1
  have hR := hJ.2.1
  have h33 := hJ.2.2.1.1.1
  have hnl : (n : Int) = 75 + 3 * st 33 0 0 := by omega
  have hn : 75 ≤ n := by omega
  have L_61 := hts (.constant RL 61 (65536)) (by decide +kernel)
  have L_66 := hts (.constantFloat RL 66 (1124073472)) (by decide +kernel)
  refine lv_aload_n hx hb dL_law_564 rfl (lv_at hl 11 rfl) ?_
  refine lv_iload hx hb dL_law_565 (lv_at hl 2 rfl) ?_
  have hkr := kRange_s 0 5 tl
  refine g_gof hG hA (va_runV (As := [.int (iI (tl))]) (rest := []) ⟨hx, hb, hml, hown, hts⟩ (pX5_share l D cy ad n st _ fz _ hn hI (by omega) (tl) (by omega) hlf hnl hR (by omega)) (cwV 1 hts gL_law_X5_share rfl rfl rfl (by decide +kernel) ⟨Nat.le_of_ble_eq_true rfl, Nat.le_of_ble_eq_true rfl⟩) ⟨g_blind, va_recv hK hG.1 (q0 := 21 - 19) (ci := 5) rfl ((gw_at (k := 21) (by omega)).trans (by rw [gC_21 st ad cy])), g_pre hK hG hA hN hZ⟩ rfl rfl hl.1 rfl (lv_room (Nat.le_of_ble_eq_true rfl)) dL_law_567 ⟨Nat.le_trans (by omega) hcs.1, Nat.le_trans (by omega) hcs.2⟩) (fun r9 s9 H locs hp hG => ?_)
  obtain ⟨rfl, hs9⟩ := hp
  rw [hs9] at hG
  clear hs9
  have hsh : shU st tl 128 = shC st (tl).toNat 128 := by have h := RY_sh hR (t := (tl).toNat) (by omega) (n := 128) (Nat.le_refl _); rw [show (((tl).toNat : Nat) : Int) = tl by omega] at h; exact h
  rw [hsh]
  have hshr := shC_r hI (tl).toNat
  refine lv_fstore (lv' := [(17, .float (fShare (shC st (tl).toNat 128))), (16, .int (iI (cl))), (15, .int (iI (rw0))), (14, .int (iI (tl))), (13, .int (iI (la))), (12, .int (iI (wh))), (11, .int (iI (w))), (7, .int (iI (1))), (8, .int (iI (dd))), (9, .int (iI (mm))), (10, .int (iI (((t : Nat) : Int)))), (0, .ref (b)), (1, .ref (ad 21)), (2, .int (iI (v))), (3, .ref (ad 19)), (4, .ref (ad 20)), (5, .ref (ad 31)), (6, .ref (ad 32))]) hx hb dL_law_570 hl (by decide) rfl (fun ls hl => ?_)
  refine lv_aload_n hx hb dL_law_572 rfl (lv_at hl 12 rfl) ?_
  refine lv_iload hx hb dL_law_573 (lv_at hl 3 rfl) ?_
  refine lv_iload hx hb dL_law_575 (lv_at hl 6 rfl) ?_
  refine lv_iconst (v := iI (5)) hx hb dL_law_577 rfl ?_
  refine r_as (y := ((5 : Nat) : Int)) (by omega) ?_
  refine r_ishr hx hb (by omega) (by omega) dL_law_578 ?_
  refine r_nm (fun v1 ev1 => ?_)
  refine lv_ldc hx hb hown L_61 dL_law_579 ?_
  refine r_asI (y := 65536) (by decide +kernel) ?_
  refine gp_goi hG (va_runS (As := [.int (iI (v1)), .int (iI (65536))]) (rest := [.int (iI (tl)), .ref (ad 21)]) ⟨hx, hb, hml, hown, hts⟩ (mL_low l (v1) (65536) (by omega) (by omega)) (va_cwS 2 hts gL_law_L_low rfl rfl rfl (by decide +kernel) ⟨Nat.le_of_ble_eq_true rfl, Nat.le_of_ble_eq_true rfl⟩) ⟨p0_blind, p0_pre⟩ rfl rfl hl.1 rfl (lv_room (Nat.le_of_ble_eq_true rfl)) dL_law_581 ⟨Nat.le_trans (by omega) hcs.1, Nat.le_trans (by omega) hcs.2⟩) (fun r9 H locs hp hG => ?_)
  rw [hp]
  clear hp
  refine r_nm (fun v2 ev2 => ?_)
  have hr3 := @lowF_r ((v1)) ((65536)) (by omega)
  rw [← ev2] at hr3
  refine lv_iconst (v := iI (1)) hx hb dL_law_584 rfl ?_
  refine lv_iload hx hb dL_law_585 (lv_at hl 6 rfl) ?_
  refine lv_bipush (v := iI (8)) hx hb dL_law_587 (by decide +kernel) ?_
  refine r_as (y := ((8 : Nat) : Int)) (by omega) ?_
  refine r_ishr hx hb (by omega) (by omega) dL_law_589 ?_
  refine r_nm (fun v4 ev4 => ?_)
  refine lv_iconst (v := iI (5)) hx hb dL_law_590 rfl ?_
  refine gp_goi hG (va_runS (As := [.int (iI (v4)), .int (iI (5))]) (rest := [.int (iI (1)), .int (iI (v2)), .int (iI (tl)), .ref (ad 21)]) ⟨hx, hb, hml, hown, hts⟩ (mL_low l (v4) (5) (by omega) (by omega)) (va_cwS 2 hts gL_law_L_low rfl rfl rfl (by decide +kernel) ⟨Nat.le_of_ble_eq_true rfl, Nat.le_of_ble_eq_true rfl⟩) ⟨p0_blind, p0_pre⟩ rfl rfl hl.1 rfl (lv_room (Nat.le_of_ble_eq_true rfl)) dL_law_591 ⟨Nat.le_trans (by omega) hcs.1, Nat.le_trans (by omega) hcs.2⟩) (fun r9 H locs hp hG => ?_)
  rw [hp]
  clear hp
  refine r_nm (fun v5 ev5 => ?_)
  have hr6 := @lowF_r ((v4)) ((5)) (by omega)
  rw [← ev5] at hr6
  refine r_iadd hx hb dL_law_594 ?_
  refine r_nm (fun v7 ev7 => ?_)
  have hks := kSpoil_s tl (v2) (v7)
  refine g_goi hG hA (va_runV (As := [.int (iI (tl)), .int (iI (v2)), .int (iI (v7))]) (rest := []) ⟨hx, hb, hml, hown, hts⟩ (pX5_spoil l D cy ad n st _ fz _ hn hI (by omega) (tl) (v2) (v7) (by omega) (by omega) (by omega) hlf hnl hR (by omega)) (cwV 3 hts gL_law_X5_spoil rfl rfl rfl (by decide +kernel) ⟨Nat.le_of_ble_eq_true rfl, Nat.le_of_ble_eq_true rfl⟩) ⟨g_blind, va_recv hK hG.1 (q0 := 21 - 19) (ci := 5) rfl ((gw_at (k := 21) (by omega)).trans (by rw [gC_21 st ad cy])), g_pre hK hG hA hN hZ⟩ rfl rfl hl.1 rfl (lv_room (Nat.le_of_ble_eq_true rfl)) dL_law_595 ⟨Nat.le_trans (by omega) hcs.1, Nat.le_trans (by omega) hcs.2⟩) (fun r9 st8 H locs hp hG => ?_)
  obtain ⟨-, ⟨rfl, hs9⟩, hI9⟩ := hp
  have hs2 : st8 = (cspI (tl).toNat (st, 0, (v2)) ((v7)).toNat).1 := hs9
  obtain ⟨sta, hG, hJ3, hst3⟩ := gh_go hG hI9 (by rw [hs2]; exact (J_csp hJ.1 hJ.2.2.1 hJ.2.2.2 _).2.1) (by rw [hs2]; exact (J_csp hJ.1 hJ.2.2.1 hJ.2.2.2 _).2.2)
  replace hI := hJ3.1
  replace hR := hJ3.2.1
  replace hnl : (n : Int) = 75 + 3 * sta 33 0 0 := by have := hJ3.2.2.1.1.1; omega
  refine r_nm (fun v9 ev9 => ?_)
  have hret : v9 = (cspI (tl).toNat (st, 0, (v2)) ((v7)).toNat).2.1 := ev9
  have hcr := csp_r (t := (tl).toNat) (x := (v2)) hJ.1 hJ.2.2.1 hJ.2.2.2 ((v7)).toNat
  have hshs : shC sta (tl).toNat 128 = shC st (tl).toNat 128 + v9 := by rw [hret, ← shC_csp hJ.1 hJ.2.2.1 hJ.2.2.2, ← hs2]; exact sumN_e 128 (fun k9 _ => hst3 43 _ _ (by decide))
  have hshr2 := shC_r hI (tl).toNat
  refine lv_istore (lv' := [(18, .int (iI (v9))), (17, .float (fShare (shC st (tl).toNat 128))), (16, .int (iI (cl))), (15, .int (iI (rw0))), (14, .int (iI (tl))), (13, .int (iI (la))), (12, .int (iI (wh))), (11, .int (iI (w))), (7, .int (iI (1))), (8, .int (iI (dd))), (9, .int (iI (mm))), (10, .int (iI (((t : Nat) : Int)))), (0, .ref (b)), (1, .ref (ad 21)), (2, .int (iI (v))), (3, .ref (ad 19)), (4, .ref (ad 20)), (5, .ref (ad 31)), (6, .ref (ad 32))]) hx hb dL_law_598 hl (by decide) rfl (fun ls hl => ?_)
  refine lv_aload_n hx hb dL_law_600 rfl (lv_at hl 13 rfl) ?_
  refine lv_iload hx hb dL_law_601 (lv_at hl 4 rfl) ?_
  refine g_gof hG hA (va_runV (As := [.int (iI (tl))]) (rest := []) ⟨hx, hb, hml, hown, hts⟩ (pX5_share l D cy ad n sta _ fz _ hn hI (by omega) (tl) (by omega) hlf hnl hR (by omega)) (cwV 1 hts gL_law_X5_share rfl rfl rfl (by decide +kernel) ⟨Nat.le_of_ble_eq_true rfl, Nat.le_of_ble_eq_true rfl⟩) ⟨g_blind, va_recv hK hG.1 (q0 := 21 - 19) (ci := 5) rfl ((gw_at (k := 21) (by omega)).trans (by rw [gC_21 sta ad cy])), g_pre hK hG hA hN hZ⟩ rfl rfl hl.1 rfl (lv_room (Nat.le_of_ble_eq_true rfl)) dL_law_603 ⟨Nat.le_trans (by omega) hcs.1, Nat.le_trans (by omega) hcs.2⟩) (fun r9 s9 H locs hp hG => ?_)
  obtain ⟨rfl, hs9⟩ := hp
  rw [hs9] at hG
  clear hs9
  have hsh2 : shU sta tl 128 = shC sta (tl).toNat 128 := by have h := RY_sh hR (t := (tl).toNat) (by omega) (n := 128) (Nat.le_refl _); rw [show (((tl).toNat : Nat) : Int) = tl by omega] at h; exact h
  rw [hsh2]
  refine lv_fload hx hb dL_law_606 (lv_at hl 1 rfl) ?_
  refine lv_iload hx hb dL_law_608 (lv_at hl 0 rfl) ?_
  refine lv_i2f hx hb dL_law_610 ?_
  refine lv_ldcf hx hb hown L_66 dL_law_611 ?_
  refine lv_fdiv hx hb dL_law_613 (by exact fShare_n2 (by omega)) ?_
  have hadd := fadd_e (a := shC st (tl).toNat 128) (k := v9) (by omega) (by omega)
  refine lv_fadd hx hb dL_law_614 (by rw [hadd]; exact fShare_n2 (by omega)) ?_
  rw [hadd]
  refine lv_fcmp hx hb dL_law_615 ?_
  refine r_asI (y := 0) (by rw [hshs]; exact fcmp0 (by omega)) ?_
  refine r_if_ne (tgt := 623) hx hb (by omega) dL_law_616 (by decide) (fun c10 => ?_) (fun c10 => ?_)
  · skip
    exact absurd rfl c10
  · skip
    refine lv_iconst (v := iI (1)) hx hb dL_law_619 rfl ?_
    refine lv_goto (tgt := 624) hx hb dL_law_620 (by decide) ?_
    refine lv_istore (lv' := [(7, .int (iI (1))), (18, .int (iI (v9))), (17, .float (fShare (shC st (tl).toNat 128))), (16, .int (iI (cl))), (15, .int (iI (rw0))), (14, .int (iI (tl))), (13, .int (iI (la))), (12, .int (iI (wh))), (11, .int (iI (w))), (8, .int (iI (dd))), (9, .int (iI (mm))), (10, .int (iI (((t : Nat) : Int)))), (0, .ref (b)), (1, .ref (ad 21)), (2, .int (iI (v))), (3, .ref (ad 19)), (4, .ref (ad 20)), (5, .ref (ad 31)), (6, .ref (ad 32))]) hx hb dL_law_624 hl (by decide) rfl (fun ls hl => ?_)
    refine lv_goto (tgt := 1066) hx hb dL_law_626 (by decide) ?_
    replace hJ := JS_mono (wb' := wb + 2048) (by omega) hJ3
    refine W.widen (k := cells + 2000) (n := slots + 12000) (by omega) (by omega) ?_
    exact KK sta (dd) H locs ls hG hJ (by rw [hst3 31 0 0 (by decide), hs2, csp_c (by decide)]; exact hdd) (by rw [hst3 30 0 0 (by decide), hs2, csp_c (by decide)]; omega) (lv_sub hl [0, 9, 10, 11, 8, 5, 12, 13, 14, 15, 16, 17, 18] rfl)
set_option maxHeartbeats 1000000 in
set_option maxRecDepth 100000 in
theorem lb_pass {p : Program} {l : Launch} {e : Env} {s : State} {m : MethodId} {below : List Frame} {meth : Method} {c : Code} {b L : Nat} {xs : Nat → Int32} {D : va_G} {cy : Nat → ClassId} {fz : Nat} {A : Nat → Prop} {H : Heap} {locs : List Loc} {cells slots : Nat} {Q : State → Prop} {ls : Array Slot} {ad : Nat → Nat} {n : Nat} {st : St} (C : LC p l s m c b L xs D cy fz A) (hn81 : n = 81) (t : Nat) (mm w v dd wh rw0 cl tl : Int) (la : Int) (wb : Int) (hwb : 0 ≤ wb ∧ wb ≤ 200000) (hG : GH D cy ad n st A s.heap H locs) (hJ : JS wb st) (hdd : st 31 0 0 = dd) (hw : -2147483648 ≤ w ∧ w < 2147483648) (htl : 0 ≤ tl ∧ tl < 3) (hrw : 0 ≤ rw0 ∧ rw0 < 8) (hcl : 0 ≤ cl ∧ cl < 16) (hla : 0 ≤ la ∧ la < 2) (hno : 0 ≤ st 30 0 0 ∧ st 30 0 0 ≤ 100000) (hl : lv_has ls 22 [(16, .int (iI (cl))), (15, .int (iI (rw0))), (14, .int (iI (tl))), (13, .int (iI (la))), (12, .int (iI (wh))), (11, .int (iI (w))), (7, .int (iI (1))), (8, .int (iI (dd))), (9, .int (iI (mm))), (10, .int (iI (((t : Nat) : Int)))), (0, .ref (b)), (1, .ref (ad 21)), (2, .int (iI (v))), (3, .ref (ad 19)), (4, .ref (ad 20)), (5, .ref (ad 31)), (6, .ref (ad 32))]) (hcs : cells + 2000 ≤ room_1.cells ∧ slots + 12000 ≤ room_1.slots) (KK : KKs p l e s m below meth c b D cy A Q ad n v mm t w tl wb (st 30 0 0) cells slots) : W p l e room_1 s m #[Value.ref b] below meth c H locs cells slots Q (F0 m 636 ls []) := by
  obtain ⟨hx, hb, hml, hown, hts, hX, hbl, hbA, hA, hK, hN, hZ, hlf, hL⟩ := C
  have hI := hJ.1
  have hR := hJ.2.1
  have h33 := hJ.2.2.1.1.1
  have hnl : (n : Int) = 75 + 3 * st 33 0 0 := by omega
  have hn : 75 ≤ n := by omega
  have h130 := hR.1.2.1
  refine lv_aload_n hx hb dL_law_636 rfl (lv_at hl 11 rfl) ?_
  refine g_goi hG hA (va_runV (As := []) (rest := []) ⟨hx, hb, hml, hown, hts⟩ (mX5_hour l D cy ad n st _ fz _ hn hI (by omega)  ) (cwV 0 hts gL_law_X5_hour rfl rfl rfl (by decide +kernel) ⟨Nat.le_of_ble_eq_true rfl, Nat.le_of_ble_eq_true rfl⟩) ⟨g_blind, va_recv hK hG.1 (q0 := 21 - 19) (ci := 5) rfl ((gw_at (k := 21) (by omega)).trans (by rw [gC_21 st ad cy])), g_pre hK hG hA hN hZ⟩ rfl rfl hl.1 rfl (lv_room (Nat.le_of_ble_eq_true rfl)) dL_law_637 ⟨Nat.le_trans (by omega) hcs.1, Nat.le_trans (by omega) hcs.2⟩) (fun r9 s9 H locs hp hG => ?_)
  obtain ⟨rfl, hs9⟩ := hp
  rw [hs9] at hG
  clear hs9
  refine r_nm (fun v1 ev1 => ?_)
  refine lv_istore (lv' := [(17, .int (iI (v1))), (16, .int (iI (cl))), (15, .int (iI (rw0))), (14, .int (iI (tl))), (13, .int (iI (la))), (12, .int (iI (wh))), (11, .int (iI (w))), (7, .int (iI (1))), (8, .int (iI (dd))), (9, .int (iI (mm))), (10, .int (iI (((t : Nat) : Int)))), (0, .ref (b)), (1, .ref (ad 21)), (2, .int (iI (v))), (3, .ref (ad 19)), (4, .ref (ad 20)), (5, .ref (ad 31)), (6, .ref (ad 32))]) hx hb dL_law_640 hl (by decide) rfl (fun ls hl => ?_)
  refine lv_aload_n hx hb dL_law_642 rfl (lv_at hl 12 rfl) ?_
  refine lv_iconst (v := iI (1)) hx hb dL_law_643 rfl ?_
  refine lv_iload hx hb dL_law_644 (lv_at hl 6 rfl) ?_
  refine lv_iconst (v := iI (4)) hx hb dL_law_646 rfl ?_
  refine r_as (y := ((4 : Nat) : Int)) (by omega) ?_
  refine r_ishr hx hb (by omega) (by omega) dL_law_647 ?_
  refine r_nm (fun v2 ev2 => ?_)
  refine lv_bipush (v := iI (60)) hx hb dL_law_648 (by decide +kernel) ?_
  refine gp_goi hG (va_runS (As := [.int (iI (v2)), .int (iI (60))]) (rest := [.int (iI (1)), .ref (ad 21)]) ⟨hx, hb, hml, hown, hts⟩ (mL_low l (v2) (60) (by omega) (by omega)) (va_cwS 2 hts gL_law_L_low rfl rfl rfl (by decide +kernel) ⟨Nat.le_of_ble_eq_true rfl, Nat.le_of_ble_eq_true rfl⟩) ⟨p0_blind, p0_pre⟩ rfl rfl hl.1 rfl (lv_room (Nat.le_of_ble_eq_true rfl)) dL_law_650 ⟨Nat.le_trans (by omega) hcs.1, Nat.le_trans (by omega) hcs.2⟩) (fun r9 H locs hp hG => ?_)
  rw [hp]
  clear hp
  refine r_nm (fun v3 ev3 => ?_)
  have hr4 := @lowF_r ((v2)) ((60)) (by omega)
  rw [← ev3] at hr4
  have hl1 : v3 = lowF (w / 2 ^ 4) 60 := by rw [ev3]; congr 1
  refine r_iadd hx hb dL_law_653 ?_
  refine r_nm (fun v5 ev5 => ?_)
  have hkp := kPass_s st (v5)
  refine g_goi hG hA (va_runV (As := [.int (iI (v5))]) (rest := []) ⟨hx, hb, hml, hown, hts⟩ (pX5_pass l D cy ad n st _ fz _ hn hI (by omega) (v5) (by omega) hlf hnl hR (by omega)) (cwV 1 hts gL_law_X5_pass rfl rfl rfl (by decide +kernel) ⟨Nat.le_of_ble_eq_true rfl, Nat.le_of_ble_eq_true rfl⟩) ⟨g_blind, va_recv hK hG.1 (q0 := 21 - 19) (ci := 5) rfl ((gw_at (k := 21) (by omega)).trans (by rw [gC_21 st ad cy])), g_pre hK hG hA hN hZ⟩ rfl rfl hl.1 rfl (lv_room (Nat.le_of_ble_eq_true rfl)) dL_law_654 ⟨Nat.le_trans (by omega) hcs.1, Nat.le_trans (by omega) hcs.2⟩) (fun r9 st6 H locs hp hG => ?_)
  obtain ⟨-, ⟨rfl, hs9⟩, hI9⟩ := hp
  have hs2 : st6 = ust st 30 0 0 (st 30 0 0 + (v5)) := hs9
  obtain ⟨sta, hG, hJ3, hst3⟩ := gh_go hG hI9 (by rw [hs2]; exact PA_u (by decide) hJ.2.2.1) (by rw [hs2]; exact PC_pass (by omega) hJ.2.2.2)
  replace hI := hJ3.1
  replace hR := hJ3.2.1
  replace hnl : (n : Int) = 75 + 3 * sta 33 0 0 := by have := hJ3.2.2.1.1.1; omega
  refine r_nm (fun v7 ev7 => ?_)
  refine lv_iload hx hb dL_law_657 (lv_at hl 0 rfl) ?_
  refine lv_iconst (v := iI (1)) hx hb dL_law_659 rfl ?_
  refine r_iadd hx hb dL_law_660 ?_
  refine r_nm (fun v8 ev8 => ?_)
  refine lv_iload hx hb dL_law_661 (lv_at hl 6 rfl) ?_
  refine lv_iconst (v := iI (4)) hx hb dL_law_663 rfl ?_
  refine r_as (y := ((4 : Nat) : Int)) (by omega) ?_
  refine r_ishr hx hb (by omega) (by omega) dL_law_664 ?_
  refine r_nm (fun v9 ev9 => ?_)
  refine lv_bipush (v := iI (60)) hx hb dL_law_665 (by decide +kernel) ?_
  refine gp_goi hG (va_runS (As := [.int (iI (v9)), .int (iI (60))]) (rest := [.int (iI (v8)), .int (iI (v7))]) ⟨hx, hb, hml, hown, hts⟩ (mL_low l (v9) (60) (by omega) (by omega)) (va_cwS 2 hts gL_law_L_low rfl rfl rfl (by decide +kernel) ⟨Nat.le_of_ble_eq_true rfl, Nat.le_of_ble_eq_true rfl⟩) ⟨p0_blind, p0_pre⟩ rfl rfl hl.1 rfl (lv_room (Nat.le_of_ble_eq_true rfl)) dL_law_667 ⟨Nat.le_trans (by omega) hcs.1, Nat.le_trans (by omega) hcs.2⟩) (fun r9 H locs hp hG => ?_)
  rw [hp]
  clear hp
  refine r_nm (fun v10 ev10 => ?_)
  have hr11 := @lowF_r ((v9)) ((60)) (by omega)
  rw [← ev10] at hr11
  have hl2 : v10 = lowF (w / 2 ^ 4) 60 := by rw [ev10]; congr 1
  refine r_iadd hx hb dL_law_670 ?_
  refine r_nm (fun v12 ev12 => ?_)
  refine r_icmp_ne (tgt := 678) hx hb (by omega) dL_law_671 (by decide) (fun c13 => ?_) (fun c13 => ?_)
  · skip
    exact absurd c13 (by omega)
  · skip
    refine lv_iconst (v := iI (1)) hx hb dL_law_674 rfl ?_
    refine lv_goto (tgt := 679) hx hb dL_law_675 (by decide) ?_
    refine lv_istore (lv' := [(7, .int (iI (1))), (17, .int (iI (v1))), (16, .int (iI (cl))), (15, .int (iI (rw0))), (14, .int (iI (tl))), (13, .int (iI (la))), (12, .int (iI (wh))), (11, .int (iI (w))), (8, .int (iI (dd))), (9, .int (iI (mm))), (10, .int (iI (((t : Nat) : Int)))), (0, .ref (b)), (1, .ref (ad 21)), (2, .int (iI (v))), (3, .ref (ad 19)), (4, .ref (ad 20)), (5, .ref (ad 31)), (6, .ref (ad 32))]) hx hb dL_law_679 hl (by decide) rfl (fun ls hl => ?_)
    refine lv_goto (tgt := 1066) hx hb dL_law_681 (by decide) ?_
    replace hJ := JS_mono (wb' := wb + 2048) (by omega) hJ3
    refine W.widen (k := cells + 2000) (n := slots + 12000) (by omega) (by omega) ?_
    exact KK sta (dd) H locs ls hG hJ (by rw [hst3 31 0 0 (by decide), hs2, ust_c (by decide)]; exact hdd) (by rw [hst3 30 0 0 (by decide), hs2, ust_s]; omega) (lv_sub hl [0, 8, 9, 10, 7, 4, 11, 12, 13, 14, 15, 16, 17] rfl)
set_option maxHeartbeats 1000000 in
set_option maxRecDepth 100000 in
theorem lb_drift {p : Program} {l : Launch} {e : Env} {s : State} {m : MethodId} {below : List Frame} {meth : Method} {c : Code} {b L : Nat} {xs : Nat → Int32} {D : va_G} {cy : Nat → ClassId} {fz : Nat} {A : Nat → Prop} {H : Heap} {locs : List Loc} {cells slots : Nat} {Q : State → Prop} {ls : Array Slot} {ad : Nat → Nat} {n : Nat} {st : St} (C : LC p l s m c b L xs D cy fz A) (hn81 : n = 81) (t : Nat) (mm w v dd wh rw0 cl tl : Int) (la : Int) (wb : Int) (hwb : 0 ≤ wb ∧ wb ≤ 200000) (hG : GH D cy ad n st A s.heap H locs) (hJ : JS wb st) (hdd : st 31 0 0 = dd) (hw : -2147483648 ≤ w ∧ w < 2147483648) (htl : 0 ≤ tl ∧ tl < 3) (hrw : 0 ≤ rw0 ∧ rw0 < 8) (hcl : 0 ≤ cl ∧ cl < 16) (hla : 0 ≤ la ∧ la < 2) (hl : lv_has ls 22 [(16, .int (iI (cl))), (15, .int (iI (rw0))), (14, .int (iI (tl))), (13, .int (iI (la))), (12, .int (iI (wh))), (11, .int (iI (w))), (7, .int (iI (1))), (8, .int (iI (dd))), (9, .int (iI (mm))), (10, .int (iI (((t : Nat) : Int)))), (0, .ref (b)), (1, .ref (ad 21)), (2, .int (iI (v))), (3, .ref (ad 19)), (4, .ref (ad 20)), (5, .ref (ad 31)), (6, .ref (ad 32))]) (hcs : cells + 2000 ≤ room_1.cells ∧ slots + 12000 ≤ room_1.slots) (KK : KKs p l e s m below meth c b D cy A Q ad n v mm t w tl wb (st 30 0 0) cells slots) : W p l e room_1 s m #[Value.ref b] below meth c H locs cells slots Q (F0 m 691 ls []) := by
  obtain ⟨hx, hb, hml, hown, hts, hX, hbl, hbA, hA, hK, hN, hZ, hlf, hL⟩ := C
  have hI := hJ.1
  have hR := hJ.2.1
  have h33 := hJ.2.2.1.1.1
  have hnl : (n : Int) = 75 + 3 * st 33 0 0 := by omega
  have hn : 75 ≤ n := by omega
  have h31r := gI_31 hJ.1 0 0
  refine lv_iload hx hb dL_law_691 (lv_at hl 7 rfl) ?_
  refine lv_istore (lv' := [(17, .int (iI (dd))), (16, .int (iI (cl))), (15, .int (iI (rw0))), (14, .int (iI (tl))), (13, .int (iI (la))), (12, .int (iI (wh))), (11, .int (iI (w))), (7, .int (iI (1))), (8, .int (iI (dd))), (9, .int (iI (mm))), (10, .int (iI (((t : Nat) : Int)))), (0, .ref (b)), (1, .ref (ad 21)), (2, .int (iI (v))), (3, .ref (ad 19)), (4, .ref (ad 20)), (5, .ref (ad 31)), (6, .ref (ad 32))]) hx hb dL_law_693 hl (by decide) rfl (fun ls hl => ?_)
  refine lv_iload hx hb dL_law_695 (lv_at hl 6 rfl) ?_
  refine lv_iconst (v := iI (4)) hx hb dL_law_697 rfl ?_
  refine r_as (y := ((4 : Nat) : Int)) (by omega) ?_
  refine r_ishr hx hb (by omega) (by omega) dL_law_698 ?_
  refine r_nm (fun v1 ev1 => ?_)
  refine lv_bipush (v := iI (30)) hx hb dL_law_699 (by decide +kernel) ?_
  refine gp_goi hG (va_runS (As := [.int (iI (v1)), .int (iI (30))]) (rest := []) ⟨hx, hb, hml, hown, hts⟩ (mL_low l (v1) (30) (by omega) (by omega)) (va_cwS 2 hts gL_law_L_low rfl rfl rfl (by decide +kernel) ⟨Nat.le_of_ble_eq_true rfl, Nat.le_of_ble_eq_true rfl⟩) ⟨p0_blind, p0_pre⟩ rfl rfl hl.1 rfl (lv_room (Nat.le_of_ble_eq_true rfl)) dL_law_701 ⟨Nat.le_trans (by omega) hcs.1, Nat.le_trans (by omega) hcs.2⟩) (fun r9 H locs hp hG => ?_)
  rw [hp]
  clear hp
  refine r_nm (fun v2 ev2 => ?_)
  have hr3 := @lowF_r ((v1)) ((30)) (by omega)
  rw [← ev2] at hr3
  refine lv_istore (lv' := [(8, .int (iI (v2))), (17, .int (iI (dd))), (16, .int (iI (cl))), (15, .int (iI (rw0))), (14, .int (iI (tl))), (13, .int (iI (la))), (12, .int (iI (wh))), (11, .int (iI (w))), (7, .int (iI (1))), (9, .int (iI (mm))), (10, .int (iI (((t : Nat) : Int)))), (0, .ref (b)), (1, .ref (ad 21)), (2, .int (iI (v))), (3, .ref (ad 19)), (4, .ref (ad 20)), (5, .ref (ad 31)), (6, .ref (ad 32))]) hx hb dL_law_704 hl (by decide) rfl (fun ls hl => ?_)
  refine lv_aload_n hx hb dL_law_706 rfl (lv_at hl 12 rfl) ?_
  refine lv_iload hx hb dL_law_707 (lv_at hl 0 rfl) ?_
  have hkr := kRange_s 0 1000 (v2)
  refine g_goi hG hA (va_runV (As := [.int (iI (v2))]) (rest := []) ⟨hx, hb, hml, hown, hts⟩ (pX5_drift l D cy ad n st _ fz _ hn hI (by omega) (v2) (by omega) hlf hnl hR (by omega)) (cwV 1 hts gL_law_X5_drift rfl rfl rfl (by decide +kernel) ⟨Nat.le_of_ble_eq_true rfl, Nat.le_of_ble_eq_true rfl⟩) ⟨g_blind, va_recv hK hG.1 (q0 := 21 - 19) (ci := 5) rfl ((gw_at (k := 21) (by omega)).trans (by rw [gC_21 st ad cy])), g_pre hK hG hA hN hZ⟩ rfl rfl hl.1 rfl (lv_room (Nat.le_of_ble_eq_true rfl)) dL_law_709 ⟨Nat.le_trans (by omega) hcs.1, Nat.le_trans (by omega) hcs.2⟩) (fun r9 st4 H locs hp hG => ?_)
  obtain ⟨-, ⟨rfl, hs9⟩, hI9⟩ := hp
  have hs2 : st4 = ust st 31 0 0 (v2) := hs9
  obtain ⟨sta, hG, hJ3, hst3⟩ := gh_go hG hI9 (by rw [hs2]; exact PA_u (by decide) hJ.2.2.1) (by rw [hs2]; exact PC_u (by decide) hJ.2.2.2)
  replace hI := hJ3.1
  replace hR := hJ3.2.1
  replace hnl : (n : Int) = 75 + 3 * sta 33 0 0 := by have := hJ3.2.2.1.1.1; omega
  refine r_nm (fun v5 ev5 => ?_)
  refine lv_iload hx hb dL_law_712 (lv_at hl 1 rfl) ?_
  refine r_icmp_ne (tgt := 721) hx hb (by omega) dL_law_714 (by decide) (fun c6 => ?_) (fun c6 => ?_)
  · skip
    exact absurd c6 (by omega)
  · skip
    refine lv_iconst (v := iI (1)) hx hb dL_law_717 rfl ?_
    refine lv_goto (tgt := 722) hx hb dL_law_718 (by decide) ?_
    refine lv_istore (lv' := [(7, .int (iI (1))), (8, .int (iI (v2))), (17, .int (iI (dd))), (16, .int (iI (cl))), (15, .int (iI (rw0))), (14, .int (iI (tl))), (13, .int (iI (la))), (12, .int (iI (wh))), (11, .int (iI (w))), (9, .int (iI (mm))), (10, .int (iI (((t : Nat) : Int)))), (0, .ref (b)), (1, .ref (ad 21)), (2, .int (iI (v))), (3, .ref (ad 19)), (4, .ref (ad 20)), (5, .ref (ad 31)), (6, .ref (ad 32))]) hx hb dL_law_722 hl (by decide) rfl (fun ls hl => ?_)
    refine lv_goto (tgt := 1066) hx hb dL_law_724 (by decide) ?_
    replace hJ := JS_mono (wb' := wb + 2048) (by omega) hJ3
    refine W.widen (k := cells + 2000) (n := slots + 12000) (by omega) (by omega) ?_
    exact KK sta (v2) H locs ls hG hJ (by rw [hst3 31 0 0 (by decide), hs2, ust_s]) (by rw [hst3 30 0 0 (by decide), hs2, ust_c (by decide)]; omega) (lv_sub hl [0, 1, 9, 10, 8, 5, 11, 12, 13, 14, 15, 16, 17] rfl)
set_option maxHeartbeats 1000000 in
set_option maxRecDepth 100000 in
theorem lb_conv {p : Program} {l : Launch} {e : Env} {s : State} {m : MethodId} {below : List Frame} {meth : Method} {c : Code} {b L : Nat} {xs : Nat → Int32} {D : va_G} {cy : Nat → ClassId} {fz : Nat} {A : Nat → Prop} {H : Heap} {locs : List Loc} {cells slots : Nat} {Q : State → Prop} {ls : Array Slot} {ad : Nat → Nat} {n : Nat} {st : St} (C : LC p l s m c b L xs D cy fz A) (hn81 : n = 81) (t : Nat) (mm w v dd wh rw0 cl tl : Int) (la : Int) (wb : Int) (hwb : 0 ≤ wb ∧ wb ≤ 200000) (hG : GH D cy ad n st A s.heap H locs) (hJ : JS wb st) (hdd : st 31 0 0 = dd) (hw : -2147483648 ≤ w ∧ w < 2147483648) (htl : 0 ≤ tl ∧ tl < 3) (hrw : 0 ≤ rw0 ∧ rw0 < 8) (hcl : 0 ≤ cl ∧ cl < 16) (hla : 0 ≤ la ∧ la < 2) (hl : lv_has ls 22 [(16, .int (iI (cl))), (15, .int (iI (rw0))), (14, .int (iI (tl))), (13, .int (iI (la))), (12, .int (iI (wh))), (11, .int (iI (w))), (7, .int (iI (1))), (8, .int (iI (dd))), (9, .int (iI (mm))), (10, .int (iI (((t : Nat) : Int)))), (0, .ref (b)), (1, .ref (ad 21)), (2, .int (iI (v))), (3, .ref (ad 19)), (4, .ref (ad 20)), (5, .ref (ad 31)), (6, .ref (ad 32))]) (hcs : cells + 2000 ≤ room_1.cells ∧ slots + 12000 ≤ room_1.slots) (KK : KKs p l e s m below meth c b D cy A Q ad n v mm t w tl wb (st 30 0 0) cells slots) : W p l e room_1 s m #[Value.ref b] below meth c H locs cells slots Q (F0 m 734 ls []) := by
  obtain ⟨hx, hb, hml, hown, hts, hX, hbl, hbA, hA, hK, hN, hZ, hlf, hL⟩ := C
  have hI := hJ.1
  have hR := hJ.2.1
  have h33 := hJ.2.2.1.1.1
  have hnl : (n : Int) = 75 + 3 * st 33 0 0 := by omega
  have hn : 75 ≤ n := by omega
  refine lv_aload_n hx hb dL_law_734 rfl (lv_at hl 11 rfl) ?_
  refine lv_iload hx hb dL_law_735 (lv_at hl 2 rfl) ?_
  refine lv_iconst (v := iI (1)) hx hb dL_law_737 rfl ?_
  refine lv_iload hx hb dL_law_738 (lv_at hl 5 rfl) ?_
  refine lv_bipush (v := iI (6)) hx hb dL_law_740 (by decide +kernel) ?_
  refine r_as (y := ((6 : Nat) : Int)) (by omega) ?_
  refine r_ishr hx hb (by omega) (by omega) dL_law_742 ?_
  refine r_nm (fun v1 ev1 => ?_)
  refine lv_iconst (v := iI (4)) hx hb dL_law_743 rfl ?_
  refine gp_goi hG (va_runS (As := [.int (iI (v1)), .int (iI (4))]) (rest := [.int (iI (1)), .int (iI (tl)), .ref (ad 21)]) ⟨hx, hb, hml, hown, hts⟩ (mL_low l (v1) (4) (by omega) (by omega)) (va_cwS 2 hts gL_law_L_low rfl rfl rfl (by decide +kernel) ⟨Nat.le_of_ble_eq_true rfl, Nat.le_of_ble_eq_true rfl⟩) ⟨p0_blind, p0_pre⟩ rfl rfl hl.1 rfl (lv_room (Nat.le_of_ble_eq_true rfl)) dL_law_744 ⟨Nat.le_trans (by omega) hcs.1, Nat.le_trans (by omega) hcs.2⟩) (fun r9 H locs hp hG => ?_)
  rw [hp]
  clear hp
  refine r_nm (fun v2 ev2 => ?_)
  have hr3 := @lowF_r ((v1)) ((4)) (by omega)
  rw [← ev2] at hr3
  refine r_iadd hx hb dL_law_747 ?_
  refine r_nm (fun v4 ev4 => ?_)
  refine lv_bipush (v := iI (40)) hx hb dL_law_748 (by decide +kernel) ?_
  refine lv_iload hx hb dL_law_750 (lv_at hl 5 rfl) ?_
  refine lv_bipush (v := iI (8)) hx hb dL_law_752 (by decide +kernel) ?_
  refine r_as (y := ((8 : Nat) : Int)) (by omega) ?_
  refine r_ishr hx hb (by omega) (by omega) dL_law_754 ?_
  refine r_nm (fun v5 ev5 => ?_)
  refine lv_bipush (v := iI (88)) hx hb dL_law_755 (by decide +kernel) ?_
  refine gp_goi hG (va_runS (As := [.int (iI (v5)), .int (iI (88))]) (rest := [.int (iI (40)), .int (iI (v4)), .int (iI (tl)), .ref (ad 21)]) ⟨hx, hb, hml, hown, hts⟩ (mL_low l (v5) (88) (by omega) (by omega)) (va_cwS 2 hts gL_law_L_low rfl rfl rfl (by decide +kernel) ⟨Nat.le_of_ble_eq_true rfl, Nat.le_of_ble_eq_true rfl⟩) ⟨p0_blind, p0_pre⟩ rfl rfl hl.1 rfl (lv_room (Nat.le_of_ble_eq_true rfl)) dL_law_757 ⟨Nat.le_trans (by omega) hcs.1, Nat.le_trans (by omega) hcs.2⟩) (fun r9 H locs hp hG => ?_)
  rw [hp]
  clear hp
  refine r_nm (fun v6 ev6 => ?_)
  have hr7 := @lowF_r ((v5)) ((88)) (by omega)
  rw [← ev6] at hr7
  refine r_iadd hx hb dL_law_760 ?_
  refine r_nm (fun v8 ev8 => ?_)
  have hkc := kConv_s tl (v4) (v8)
  refine g_goi hG hA (va_runV (As := [.int (iI (tl)), .int (iI (v4)), .int (iI (v8))]) (rest := []) ⟨hx, hb, hml, hown, hts⟩ (pX5_converter l D cy ad n st _ fz _ hn hI (by omega) (tl) (v4) (v8) (by omega) (by omega) (by omega) hlf hnl hR (by omega)) (cwV 3 hts gL_law_X5_converter rfl rfl rfl (by decide +kernel) ⟨Nat.le_of_ble_eq_true rfl, Nat.le_of_ble_eq_true rfl⟩) ⟨g_blind, va_recv hK hG.1 (q0 := 21 - 19) (ci := 5) rfl ((gw_at (k := 21) (by omega)).trans (by rw [gC_21 st ad cy])), g_pre hK hG hA hN hZ⟩ rfl rfl hl.1 rfl (lv_room (Nat.le_of_ble_eq_true rfl)) dL_law_761 ⟨Nat.le_trans (by omega) hcs.1, Nat.le_trans (by omega) hcs.2⟩) (fun r9 st9 H locs hp hG => ?_)
  obtain ⟨-, ⟨rfl, hs9⟩, hI9⟩ := hp
  have hs2 : st9 = ust (ust st 46 (tl).toNat 0 (v4)) 47 (tl).toNat 0 (v8) := hs9
  obtain ⟨sta, hG, hJ3, hst3⟩ := gh_go hG hI9 (by rw [hs2]; exact PA_u (by decide) (PA_u (by decide) hJ.2.2.1)) (by rw [hs2]; exact PC_u (by decide) (PC_u (by decide) hJ.2.2.2))
  replace hI := hJ3.1
  replace hR := hJ3.2.1
  replace hnl : (n : Int) = 75 + 3 * sta 33 0 0 := by have := hJ3.2.2.1.1.1; omega
  refine r_nm (fun v10 ev10 => ?_)
  refine lv_pop hx hb dL_law_764 rfl ?_
  refine lv_aload_n hx hb dL_law_765 rfl (lv_at hl 11 rfl) ?_
  refine lv_iload hx hb dL_law_766 (lv_at hl 2 rfl) ?_
  refine lv_iconst (v := iI (1)) hx hb dL_law_768 rfl ?_
  refine lv_iload hx hb dL_law_769 (lv_at hl 5 rfl) ?_
  refine lv_bipush (v := iI (7)) hx hb dL_law_771 (by decide +kernel) ?_
  refine r_as (y := ((7 : Nat) : Int)) (by omega) ?_
  refine r_ishr hx hb (by omega) (by omega) dL_law_773 ?_
  refine r_nm (fun v11 ev11 => ?_)
  refine lv_iconst (v := iI (5)) hx hb dL_law_774 rfl ?_
  refine gp_goi hG (va_runS (As := [.int (iI (v11)), .int (iI (5))]) (rest := [.int (iI (1)), .int (iI (tl)), .ref (ad 21)]) ⟨hx, hb, hml, hown, hts⟩ (mL_low l (v11) (5) (by omega) (by omega)) (va_cwS 2 hts gL_law_L_low rfl rfl rfl (by decide +kernel) ⟨Nat.le_of_ble_eq_true rfl, Nat.le_of_ble_eq_true rfl⟩) ⟨p0_blind, p0_pre⟩ rfl rfl hl.1 rfl (lv_room (Nat.le_of_ble_eq_true rfl)) dL_law_775 ⟨Nat.le_trans (by omega) hcs.1, Nat.le_trans (by omega) hcs.2⟩) (fun r9 H locs hp hG => ?_)
  rw [hp]
  clear hp
  refine r_nm (fun v12 ev12 => ?_)
  have hr13 := @lowF_r ((v11)) ((5)) (by omega)
  rw [← ev12] at hr13
  refine r_as (y := ((((v12)).toNat : Nat) : Int)) (by omega) ?_
  refine r_ishl hx hb (by omega) dL_law_778 ?_
  refine r_nm (fun v14 ev14 => ?_)
  have hpw : v14 = 1 ∨ v14 = 2 ∨ v14 = 4 ∨ v14 = 8 ∨ v14 = 16 := by rw [ev14]; exact pw5 _ (by omega)
  have hkm := kMany_s tl (v14)
  refine g_goi hG hA (va_runV (As := [.int (iI (tl)), .int (iI (v14))]) (rest := []) ⟨hx, hb, hml, hown, hts⟩ (pX5_converters l D cy ad n sta _ fz _ hn hI (by omega) (tl) (v14) (by omega) (by omega) hlf hnl hR (by omega)) (cwV 2 hts gL_law_X5_converters rfl rfl rfl (by decide +kernel) ⟨Nat.le_of_ble_eq_true rfl, Nat.le_of_ble_eq_true rfl⟩) ⟨g_blind, va_recv hK hG.1 (q0 := 21 - 19) (ci := 5) rfl ((gw_at (k := 21) (by omega)).trans (by rw [gC_21 sta ad cy])), g_pre hK hG hA hN hZ⟩ rfl rfl hl.1 rfl (lv_room (Nat.le_of_ble_eq_true rfl)) dL_law_779 ⟨Nat.le_trans (by omega) hcs.1, Nat.le_trans (by omega) hcs.2⟩) (fun r9 st15 H locs hp hG => ?_)
  obtain ⟨-, ⟨rfl, hs9⟩, hI9⟩ := hp
  have hs4 : st15 = ust sta 49 (tl).toNat 0 (v14) := hs9
  obtain ⟨stb, hG, hJ4, hst4⟩ := gh_go hG hI9 (by rw [hs4]; exact PA_u (by decide) hJ3.2.2.1) (by rw [hs4]; exact PC_u (by decide) hJ3.2.2.2)
  replace hI := hJ4.1
  replace hR := hJ4.2.1
  replace hnl : (n : Int) = 75 + 3 * stb 33 0 0 := by have := hJ4.2.2.1.1.1; omega
  refine r_nm (fun v16 ev16 => ?_)
  refine lv_pop hx hb dL_law_782 rfl ?_
  refine lv_goto (tgt := 1066) hx hb dL_law_783 (by decide) ?_
  replace hJ := JS_mono (wb' := wb + 2048) (by omega) hJ4
  refine W.widen (k := cells + 2000) (n := slots + 12000) (by omega) (by omega) ?_
  exact KK stb (dd) H locs ls hG hJ (by rw [hst4 31 0 0 (by decide), hs4, ust_c (by decide), hst3 31 0 0 (by decide), hs2, ust_c (by decide), ust_c (by decide)]; exact hdd) (by rw [hst4 30 0 0 (by decide), hs4, ust_c (by decide), hst3 30 0 0 (by decide), hs2, ust_c (by decide), ust_c (by decide)]; omega) (lv_sub hl [6, 7, 8, 9, 5, 2, 10, 11, 12, 13, 14, 15, 16] rfl)
set_option maxHeartbeats 1000000 in
set_option maxRecDepth 100000 in
theorem lb_offs {p : Program} {l : Launch} {e : Env} {s : State} {m : MethodId} {below : List Frame} {meth : Method} {c : Code} {b L : Nat} {xs : Nat → Int32} {D : va_G} {cy : Nat → ClassId} {fz : Nat} {A : Nat → Prop} {H : Heap} {locs : List Loc} {cells slots : Nat} {Q : State → Prop} {ls : Array Slot} {ad : Nat → Nat} {n : Nat} {st : St} (C : LC p l s m c b L xs D cy fz A) (hn81 : n = 81) (t : Nat) (mm w v dd wh rw0 cl tl : Int) (la : Int) (wb : Int) (hwb : 0 ≤ wb ∧ wb ≤ 200000) (hG : GH D cy ad n st A s.heap H locs) (hJ : JS wb st) (hdd : st 31 0 0 = dd) (hw : -2147483648 ≤ w ∧ w < 2147483648) (htl : 0 ≤ tl ∧ tl < 3) (hrw : 0 ≤ rw0 ∧ rw0 < 8) (hcl : 0 ≤ cl ∧ cl < 16) (hla : 0 ≤ la ∧ la < 2) (hl : lv_has ls 22 [(16, .int (iI (cl))), (15, .int (iI (rw0))), (14, .int (iI (tl))), (13, .int (iI (la))), (12, .int (iI (wh))), (11, .int (iI (w))), (7, .int (iI (1))), (8, .int (iI (dd))), (9, .int (iI (mm))), (10, .int (iI (((t : Nat) : Int)))), (0, .ref (b)), (1, .ref (ad 21)), (2, .int (iI (v))), (3, .ref (ad 19)), (4, .ref (ad 20)), (5, .ref (ad 31)), (6, .ref (ad 32))]) (hcs : cells + 2000 ≤ room_1.cells ∧ slots + 12000 ≤ room_1.slots) (KK : KKs p l e s m below meth c b D cy A Q ad n v mm t w tl wb (st 30 0 0) cells slots) : W p l e room_1 s m #[Value.ref b] below meth c H locs cells slots Q (F0 m 793 ls []) := by
  obtain ⟨hx, hb, hml, hown, hts, hX, hbl, hbA, hA, hK, hN, hZ, hlf, hL⟩ := C
  have hI := hJ.1
  have hR := hJ.2.1
  have h33 := hJ.2.2.1.1.1
  have hnl : (n : Int) = 75 + 3 * st 33 0 0 := by omega
  have hn : 75 ≤ n := by omega
  refine lv_aload_n hx hb dL_law_793 rfl (lv_at hl 11 rfl) ?_
  refine lv_iload hx hb dL_law_794 (lv_at hl 2 rfl) ?_
  refine lv_iload hx hb dL_law_796 (lv_at hl 0 rfl) ?_
  refine lv_iload hx hb dL_law_798 (lv_at hl 5 rfl) ?_
  refine lv_iconst (v := iI (5)) hx hb dL_law_800 rfl ?_
  refine r_as (y := ((5 : Nat) : Int)) (by omega) ?_
  refine r_ishr hx hb (by omega) (by omega) dL_law_801 ?_
  refine r_nm (fun v1 ev1 => ?_)
  refine lv_bipush (v := iI (7)) hx hb dL_law_802 (by decide +kernel) ?_
  refine gp_goi hG (va_runS (As := [.int (iI (v1)), .int (iI (7))]) (rest := [.int (iI (cl)), .int (iI (tl)), .ref (ad 21)]) ⟨hx, hb, hml, hown, hts⟩ (mL_low l (v1) (7) (by omega) (by omega)) (va_cwS 2 hts gL_law_L_low rfl rfl rfl (by decide +kernel) ⟨Nat.le_of_ble_eq_true rfl, Nat.le_of_ble_eq_true rfl⟩) ⟨p0_blind, p0_pre⟩ rfl rfl hl.1 rfl (lv_room (Nat.le_of_ble_eq_true rfl)) dL_law_804 ⟨Nat.le_trans (by omega) hcs.1, Nat.le_trans (by omega) hcs.2⟩) (fun r9 H locs hp hG => ?_)
  rw [hp]
  clear hp
  refine r_nm (fun v2 ev2 => ?_)
  have hr3 := @lowF_r ((v1)) ((7)) (by omega)
  rw [← ev2] at hr3
  refine lv_iconst (v := iI (3)) hx hb dL_law_807 rfl ?_
  refine r_isub hx hb dL_law_808 ?_
  refine r_nm (fun v4 ev4 => ?_)
  have hko := kOffs_s tl (cl) (v4)
  refine g_goi hG hA (va_runV (As := [.int (iI (tl)), .int (iI (cl)), .int (iI (v4))]) (rest := []) ⟨hx, hb, hml, hown, hts⟩ (pX5_offset l D cy ad n st _ fz _ hn hI (by omega) (tl) (cl) (v4) (by omega) (by omega) (by omega) hlf hnl hR (by omega)) (cwV 3 hts gL_law_X5_offset rfl rfl rfl (by decide +kernel) ⟨Nat.le_of_ble_eq_true rfl, Nat.le_of_ble_eq_true rfl⟩) ⟨g_blind, va_recv hK hG.1 (q0 := 21 - 19) (ci := 5) rfl ((gw_at (k := 21) (by omega)).trans (by rw [gC_21 st ad cy])), g_pre hK hG hA hN hZ⟩ rfl rfl hl.1 rfl (lv_room (Nat.le_of_ble_eq_true rfl)) dL_law_809 ⟨Nat.le_trans (by omega) hcs.1, Nat.le_trans (by omega) hcs.2⟩) (fun r9 st5 H locs hp hG => ?_)
  obtain ⟨-, ⟨rfl, hs9⟩, hI9⟩ := hp
  have hs2 : st5 = ust st 45 (tl).toNat cl (v4) := hs9
  obtain ⟨sta, hG, hJ3, hst3⟩ := gh_go hG hI9 (by rw [hs2]; exact PA_u (by decide) hJ.2.2.1) (by rw [hs2]; exact PC_u (by decide) hJ.2.2.2)
  replace hI := hJ3.1
  replace hR := hJ3.2.1
  replace hnl : (n : Int) = 75 + 3 * sta 33 0 0 := by have := hJ3.2.2.1.1.1; omega
  refine r_nm (fun v6 ev6 => ?_)
  refine lv_pop hx hb dL_law_812 rfl ?_
  refine lv_aload_n hx hb dL_law_813 rfl (lv_at hl 11 rfl) ?_
  refine lv_iload hx hb dL_law_814 (lv_at hl 2 rfl) ?_
  refine lv_iload hx hb dL_law_816 (lv_at hl 5 rfl) ?_
  refine lv_bipush (v := iI (8)) hx hb dL_law_818 (by decide +kernel) ?_
  refine r_as (y := ((8 : Nat) : Int)) (by omega) ?_
  refine r_ishr hx hb (by omega) (by omega) dL_law_820 ?_
  refine r_nm (fun v7 ev7 => ?_)
  refine lv_iconst (v := iI (2)) hx hb dL_law_821 rfl ?_
  refine gp_goi hG (va_runS (As := [.int (iI (v7)), .int (iI (2))]) (rest := [.int (iI (tl)), .ref (ad 21)]) ⟨hx, hb, hml, hown, hts⟩ (mL_low l (v7) (2) (by omega) (by omega)) (va_cwS 2 hts gL_law_L_low rfl rfl rfl (by decide +kernel) ⟨Nat.le_of_ble_eq_true rfl, Nat.le_of_ble_eq_true rfl⟩) ⟨p0_blind, p0_pre⟩ rfl rfl hl.1 rfl (lv_room (Nat.le_of_ble_eq_true rfl)) dL_law_822 ⟨Nat.le_trans (by omega) hcs.1, Nat.le_trans (by omega) hcs.2⟩) (fun r9 H locs hp hG => ?_)
  rw [hp]
  clear hp
  refine r_nm (fun v8 ev8 => ?_)
  have hr9 := @lowF_r ((v7)) ((2)) (by omega)
  rw [← ev8] at hr9
  refine r_if_ne (tgt := 832) hx hb (by omega) dL_law_825 (by decide) (fun c10 => ?_) (fun c10 => ?_)
  · skip
    refine lv_iconst (v := iI (0)) hx hb dL_law_832 rfl ?_
    have hkr := kRange_s 0 5 tl
    refine g_goi hG hA (va_runV (As := [.int (iI (tl)), .int (iI (0))]) (rest := []) ⟨hx, hb, hml, hown, hts⟩ (pX5_calibrate l D cy ad n sta _ fz _ hn hI (by omega) (tl) (0) (by omega) (by omega) hlf hnl hR (by omega) (by omega)) (cwV 2 hts gL_law_X5_calibrate rfl rfl rfl (by decide +kernel) ⟨Nat.le_of_ble_eq_true rfl, Nat.le_of_ble_eq_true rfl⟩) ⟨g_blind, va_recv hK hG.1 (q0 := 21 - 19) (ci := 5) rfl ((gw_at (k := 21) (by omega)).trans (by rw [gC_21 sta ad cy])), g_pre hK hG hA hN hZ⟩ rfl rfl hl.1 rfl (lv_room (Nat.le_of_ble_eq_true rfl)) dL_law_833 ⟨Nat.le_trans (by omega) hcs.1, Nat.le_trans (by omega) hcs.2⟩) (fun r9 st11 H locs hp hG => ?_)
    obtain ⟨-, ⟨rfl, hs9⟩, hI9⟩ := hp
    have hs4 : st11 = ust sta 48 (tl).toNat 0 (0) := hs9
    obtain ⟨stb, hG, hJ4, hst4⟩ := gh_go hG hI9 (by rw [hs4]; exact PA_u (by decide) hJ3.2.2.1) (by rw [hs4]; exact PC_u (by decide) hJ3.2.2.2)
    replace hI := hJ4.1
    replace hR := hJ4.2.1
    replace hnl : (n : Int) = 75 + 3 * stb 33 0 0 := by have := hJ4.2.2.1.1.1; omega
    refine r_nm (fun v12 ev12 => ?_)
    refine lv_pop hx hb dL_law_836 rfl ?_
    refine lv_goto (tgt := 1066) hx hb dL_law_837 (by decide) ?_
    replace hJ := JS_mono (wb' := wb + 2048) (by omega) hJ4
    refine W.widen (k := cells + 2000) (n := slots + 12000) (by omega) (by omega) ?_
    exact KK stb (dd) H locs ls hG hJ (by rw [hst4 31 0 0 (by decide), hs4, ust_c (by decide), hst3 31 0 0 (by decide), hs2, ust_c (by decide)]; exact hdd) (by rw [hst4 30 0 0 (by decide), hs4, ust_c (by decide), hst3 30 0 0 (by decide), hs2, ust_c (by decide)]; omega) (lv_sub hl [6, 7, 8, 9, 5, 2, 10, 11, 12, 13, 14, 15, 16] rfl)
  · skip
    refine lv_iconst (v := iI (1)) hx hb dL_law_828 rfl ?_
    refine lv_goto (tgt := 833) hx hb dL_law_829 (by decide) ?_
    have hkr := kRange_s 0 5 tl
    refine g_goi hG hA (va_runV (As := [.int (iI (tl)), .int (iI (1))]) (rest := []) ⟨hx, hb, hml, hown, hts⟩ (pX5_calibrate l D cy ad n sta _ fz _ hn hI (by omega) (tl) (1) (by omega) (by omega) hlf hnl hR (by omega) (by omega)) (cwV 2 hts gL_law_X5_calibrate rfl rfl rfl (by decide +kernel) ⟨Nat.le_of_ble_eq_true rfl, Nat.le_of_ble_eq_true rfl⟩) ⟨g_blind, va_recv hK hG.1 (q0 := 21 - 19) (ci := 5) rfl ((gw_at (k := 21) (by omega)).trans (by rw [gC_21 sta ad cy])), g_pre hK hG hA hN hZ⟩ rfl rfl hl.1 rfl (lv_room (Nat.le_of_ble_eq_true rfl)) dL_law_833 ⟨Nat.le_trans (by omega) hcs.1, Nat.le_trans (by omega) hcs.2⟩) (fun r9 st13 H locs hp hG => ?_)
    obtain ⟨-, ⟨rfl, hs9⟩, hI9⟩ := hp
    have hs4 : st13 = ust sta 48 (tl).toNat 0 (1) := hs9
    obtain ⟨stb, hG, hJ4, hst4⟩ := gh_go hG hI9 (by rw [hs4]; exact PA_u (by decide) hJ3.2.2.1) (by rw [hs4]; exact PC_u (by decide) hJ3.2.2.2)
    replace hI := hJ4.1
    replace hR := hJ4.2.1
    replace hnl : (n : Int) = 75 + 3 * stb 33 0 0 := by have := hJ4.2.2.1.1.1; omega
    refine r_nm (fun v14 ev14 => ?_)
    refine lv_pop hx hb dL_law_836 rfl ?_
    refine lv_goto (tgt := 1066) hx hb dL_law_837 (by decide) ?_
    replace hJ := JS_mono (wb' := wb + 2048) (by omega) hJ4
    refine W.widen (k := cells + 2000) (n := slots + 12000) (by omega) (by omega) ?_
    exact KK stb (dd) H locs ls hG hJ (by rw [hst4 31 0 0 (by decide), hs4, ust_c (by decide), hst3 31 0 0 (by decide), hs2, ust_c (by decide)]; exact hdd) (by rw [hst4 30 0 0 (by decide), hs4, ust_c (by decide), hst3 30 0 0 (by decide), hs2, ust_c (by decide)]; omega) (lv_sub hl [6, 7, 8, 9, 5, 2, 10, 11, 12, 13, 14, 15, 16] rfl)
set_option maxHeartbeats 1000000 in
set_option maxRecDepth 100000 in
theorem lb_endur {p : Program} {l : Launch} {e : Env} {s : State} {m : MethodId} {below : List Frame} {meth : Method} {c : Code} {b L : Nat} {xs : Nat → Int32} {D : va_G} {cy : Nat → ClassId} {fz : Nat} {A : Nat → Prop} {H : Heap} {locs : List Loc} {cells slots : Nat} {Q : State → Prop} {ls : Array Slot} {ad : Nat → Nat} {n : Nat} {st : St} (C : LC p l s m c b L xs D cy fz A) (hn81 : n = 81) (t : Nat) (mm w v dd wh rw0 cl tl : Int) (la : Int) (wb : Int) (hwb : 0 ≤ wb ∧ wb ≤ 200000) (hG : GH D cy ad n st A s.heap H locs) (hJ : JS wb st) (hdd : st 31 0 0 = dd) (hw : -2147483648 ≤ w ∧ w < 2147483648) (htl : 0 ≤ tl ∧ tl < 3) (hrw : 0 ≤ rw0 ∧ rw0 < 8) (hcl : 0 ≤ cl ∧ cl < 16) (hla : 0 ≤ la ∧ la < 2) (hl : lv_has ls 22 [(16, .int (iI (cl))), (15, .int (iI (rw0))), (14, .int (iI (tl))), (13, .int (iI (la))), (12, .int (iI (wh))), (11, .int (iI (w))), (7, .int (iI (1))), (8, .int (iI (dd))), (9, .int (iI (mm))), (10, .int (iI (((t : Nat) : Int)))), (0, .ref (b)), (1, .ref (ad 21)), (2, .int (iI (v))), (3, .ref (ad 19)), (4, .ref (ad 20)), (5, .ref (ad 31)), (6, .ref (ad 32))]) (hcs : cells + 2000 ≤ room_1.cells ∧ slots + 12000 ≤ room_1.slots) (KK : KKs p l e s m below meth c b D cy A Q ad n v mm t w tl wb (st 30 0 0) cells slots) : W p l e room_1 s m #[Value.ref b] below meth c H locs cells slots Q (F0 m 1050 ls []) := by
  obtain ⟨hx, hb, hml, hown, hts, hX, hbl, hbA, hA, hK, hN, hZ, hlf, hL⟩ := C
  have hI := hJ.1
  have hR := hJ.2.1
  have h33 := hJ.2.2.1.1.1
  have hnl : (n : Int) = 75 + 3 * st 33 0 0 := by omega
  have hn : 75 ≤ n := by omega
  refine lv_aload_n hx hb dL_law_1050 rfl (lv_at hl 11 rfl) ?_
  refine lv_iconst (v := iI (1)) hx hb dL_law_1051 rfl ?_
  refine lv_iload hx hb dL_law_1052 (lv_at hl 5 rfl) ?_
  refine lv_iconst (v := iI (4)) hx hb dL_law_1054 rfl ?_
  refine r_as (y := ((4 : Nat) : Int)) (by omega) ?_
  refine r_ishr hx hb (by omega) (by omega) dL_law_1055 ?_
  refine r_nm (fun v1 ev1 => ?_)
  refine lv_bipush (v := iI (40)) hx hb dL_law_1056 (by decide +kernel) ?_
  refine gp_goi hG (va_runS (As := [.int (iI (v1)), .int (iI (40))]) (rest := [.int (iI (1)), .ref (ad 21)]) ⟨hx, hb, hml, hown, hts⟩ (mL_low l (v1) (40) (by omega) (by omega)) (va_cwS 2 hts gL_law_L_low rfl rfl rfl (by decide +kernel) ⟨Nat.le_of_ble_eq_true rfl, Nat.le_of_ble_eq_true rfl⟩) ⟨p0_blind, p0_pre⟩ rfl rfl hl.1 rfl (lv_room (Nat.le_of_ble_eq_true rfl)) dL_law_1058 ⟨Nat.le_trans (by omega) hcs.1, Nat.le_trans (by omega) hcs.2⟩) (fun r9 H locs hp hG => ?_)
  rw [hp]
  clear hp
  refine r_nm (fun v2 ev2 => ?_)
  have hr3 := @lowF_r ((v1)) ((40)) (by omega)
  rw [← ev2] at hr3
  refine r_iadd hx hb dL_law_1061 ?_
  refine r_nm (fun v4 ev4 => ?_)
  have hkr := kRange_s 1 100000 (v4)
  refine g_goi hG hA (va_runV (As := [.int (iI (v4))]) (rest := []) ⟨hx, hb, hml, hown, hts⟩ (pX5_endurance l D cy ad n st _ fz _ hn hI (by omega) (v4) (by omega) hlf hnl hR (by omega)) (cwV 1 hts gL_law_X5_endurance rfl rfl rfl (by decide +kernel) ⟨Nat.le_of_ble_eq_true rfl, Nat.le_of_ble_eq_true rfl⟩) ⟨g_blind, va_recv hK hG.1 (q0 := 21 - 19) (ci := 5) rfl ((gw_at (k := 21) (by omega)).trans (by rw [gC_21 st ad cy])), g_pre hK hG hA hN hZ⟩ rfl rfl hl.1 rfl (lv_room (Nat.le_of_ble_eq_true rfl)) dL_law_1062 ⟨Nat.le_trans (by omega) hcs.1, Nat.le_trans (by omega) hcs.2⟩) (fun r9 st5 H locs hp hG => ?_)
  obtain ⟨-, ⟨rfl, hs9⟩, hI9⟩ := hp
  have hs2 : st5 = ust st 32 0 0 (v4) := hs9
  obtain ⟨sta, hG, hJ3, hst3⟩ := gh_go hG hI9 (by rw [hs2]; exact PA_u (by decide) hJ.2.2.1) (by rw [hs2]; exact PC_u (by decide) hJ.2.2.2)
  replace hI := hJ3.1
  replace hR := hJ3.2.1
  replace hnl : (n : Int) = 75 + 3 * sta 33 0 0 := by have := hJ3.2.2.1.1.1; omega
  refine r_nm (fun v6 ev6 => ?_)
  refine lv_pop hx hb dL_law_1065 rfl ?_
  replace hJ := JS_mono (wb' := wb + 2048) (by omega) hJ3
  refine W.widen (k := cells + 2000) (n := slots + 12000) (by omega) (by omega) ?_
  exact KK sta (dd) H locs ls hG hJ (by rw [hst3 31 0 0 (by decide), hs2, ust_c (by decide)]; exact hdd) (by rw [hst3 30 0 0 (by decide), hs2, ust_c (by decide)]; omega) (lv_sub hl [6, 7, 8, 9, 5, 2, 10, 11, 12, 13, 14, 15, 16] rfl)
