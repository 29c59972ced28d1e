set_option maxHeartbeats 1000000 in
set_option maxRecDepth 100000 in
theorem lb_weight {p : Program} {l : Launch} {e : Env} {s : State} {m : MethodId} {below : List Frame} {meth : Method} {c : Code} {b L : Nat} {xs : Nat → Int32} {D : va_G} {cy : Nat → ClassId} {fz : Nat} {A : Nat → Prop} {H : Heap} {locs : List Loc} {cells slots : Nat} {Q : State → Prop} {ls : Array Slot} {ad : Nat → Nat} {n : Nat} {st : St} (C : LC p l s m c b L xs D cy fz A) (hn81 : n = 81) (t : Nat) (mm w v dd wh rw0 cl tl : Int) (a a' : Nat) (wb : Int) (hwb : 0 ≤ wb ∧ wb ≤ 200000) (hG : GH D cy ad n st A s.heap H locs) (hJ : JS wb st) (hdd : st 31 0 0 = dd) (hw : -2147483648 ≤ w ∧ w < 2147483648) (htl : 0 ≤ tl ∧ tl < 3) (hrw : 0 ≤ rw0 ∧ rw0 < 8) (hcl : 0 ≤ cl ∧ cl < 16) (ha : (a = 0 ∧ a' = 1) ∨ (a = 1 ∧ a' = 0)) (hl : lv_has ls 22 [(16, .int (iI (cl))), (15, .int (iI (rw0))), (14, .int (iI (tl))), (13, .int (iI (((a : Nat) : Int)))), (12, .int (iI (wh))), (11, .int (iI (w))), (7, .int (iI (1))), (8, .int (iI (dd))), (9, .int (iI (mm))), (10, .int (iI (((t : Nat) : Int)))), (0, .ref (b)), (1, .ref (ad 21)), (2, .int (iI (v))), (3, .ref (ad 19)), (4, .ref (ad 20)), (5, .ref (ad 31)), (6, .ref (ad 32))]) (hcs : cells + 2000 ≤ room_1.cells ∧ slots + 12000 ≤ room_1.slots) (KK : KKs p l e s m below meth c b D cy A Q ad n v mm t w tl wb (st 30 0 0) cells slots) : W p l e room_1 s m #[Value.ref b] below meth c H locs cells slots Q (F0 m 304 ls []) := by
  obtain ⟨hx, hb, hml, hown, hts, hX, hbl, hbA, hA, hK, hN, hZ, hlf, hL⟩ := C
  have hI := hJ.1
  have hR := hJ.2.1
  have h33 := hJ.2.2.1.1.1
  have hnl : (n : Int) = 75 + 3 * st 33 0 0 := by omega
  have hn : 75 ≤ n := by omega
  have haa : a < 2 := by rcases ha with ⟨rfl, -⟩ | ⟨rfl, -⟩ <;> decide
  obtain ⟨⟨h14, -⟩, ⟨h15, h16, h20⟩, ⟨h80, h81, h82⟩, h66, ⟨h60, h61⟩, h83⟩ := JS_a hJ haa
  have ean : (((a : Nat) : Int)).toNat = a := Int.toNat_natCast a
  refine lv_bipush (v := iI (32)) hx hb dL_law_304 (by decide +kernel) ?_
  refine lv_iload hx hb dL_law_306 (lv_at hl 3 rfl) ?_
  refine r_imul hx hb dL_law_308 ?_
  refine r_nm (fun v1 ev1 => ?_)
  refine lv_iconst (v := iI (4)) hx hb dL_law_309 rfl ?_
  refine lv_iload hx hb dL_law_310 (lv_at hl 5 rfl) ?_
  refine lv_bipush (v := iI (6)) hx hb dL_law_312 (by decide +kernel) ?_
  refine r_as (y := ((6 : Nat) : Int)) (by omega) ?_
  refine r_ishr hx hb (by omega) (by omega) dL_law_314 ?_
  refine r_nm (fun v2 ev2 => ?_)
  refine lv_aload_n hx hb dL_law_315 rfl (lv_at hl 13 rfl) ?_
  refine lv_iload hx hb dL_law_316 (lv_at hl 3 rfl) ?_
  refine g_iald hx hb hK hG (19) (kd := 19) (o := 0) rfl rfl (by omega) (cp := 80) (ln := 2) rfl rfl (by omega) dL_law_318 ?_
  refine r_nm (fun v3 ev3 => ?_)
  refine gp_goi hG (va_runS (As := [.int (iI (v2)), .int (iI (v3))]) (rest := [.int (iI (4)), .int (iI (v1))]) ⟨hx, hb, hml, hown, hts⟩ (mL_low l (v2) (v3) (by omega) (by omega)) (va_cwS 2 hts gL_law_L_low rfl rfl rfl (by decide +kernel) ⟨Nat.le_of_ble_eq_true rfl, Nat.le_of_ble_eq_true rfl⟩) ⟨p0_blind, p0_pre⟩ rfl rfl hl.1 rfl (lv_room (Nat.le_of_ble_eq_true rfl)) dL_law_319 ⟨Nat.le_trans (by omega) hcs.1, Nat.le_trans (by omega) hcs.2⟩) (fun r9 H locs hp hG => ?_)
  rw [hp]
  clear hp
  refine r_nm (fun v4 ev4 => ?_)
  have hr5 := @lowF_r ((v2)) ((v3)) (by omega)
  rw [← ev4] at hr5
  refine r_imul hx hb dL_law_322 ?_
  refine r_nm (fun v6 ev6 => ?_)
  refine r_iadd hx hb dL_law_323 ?_
  refine r_nm (fun v7 ev7 => ?_)
  refine lv_iload hx hb dL_law_324 (lv_at hl 5 rfl) ?_
  refine lv_bipush (v := iI (9)) hx hb dL_law_326 (by decide +kernel) ?_
  refine r_as (y := ((9 : Nat) : Int)) (by omega) ?_
  refine r_ishr hx hb (by omega) (by omega) dL_law_328 ?_
  refine r_nm (fun v8 ev8 => ?_)
  refine lv_aload hx hb dL_law_329 (lv_at hl 14 rfl) ?_
  refine lv_iload hx hb dL_law_331 (lv_at hl 3 rfl) ?_
  refine g_iald hx hb hK hG (20) (kd := 20) (o := 0) rfl rfl (by omega) (cp := 81) (ln := 2) rfl rfl (by omega) dL_law_333 ?_
  refine r_nm (fun v9 ev9 => ?_)
  refine gp_goi hG (va_runS (As := [.int (iI (v8)), .int (iI (v9))]) (rest := [.int (iI (v7))]) ⟨hx, hb, hml, hown, hts⟩ (mL_low l (v8) (v9) (by omega) (by omega)) (va_cwS 2 hts gL_law_L_low rfl rfl rfl (by decide +kernel) ⟨Nat.le_of_ble_eq_true rfl, Nat.le_of_ble_eq_true rfl⟩) ⟨p0_blind, p0_pre⟩ rfl rfl hl.1 rfl (lv_room (Nat.le_of_ble_eq_true rfl)) dL_law_334 ⟨Nat.le_trans (by omega) hcs.1, Nat.le_trans (by omega) hcs.2⟩) (fun r9 H locs hp hG => ?_)
  rw [hp]
  clear hp
  refine r_nm (fun v10 ev10 => ?_)
  have hr11 := @lowF_r ((v8)) ((v9)) (by omega)
  rw [← ev10] at hr11
  refine r_iadd hx hb dL_law_337 ?_
  refine r_nm (fun v12 ev12 => ?_)
  refine lv_istore (lv' := [(17, .int (iI (v12))), (16, .int (iI (cl))), (15, .int (iI (rw0))), (14, .int (iI (tl))), (13, .int (iI (((a : Nat) : Int)))), (12, .int (iI (wh))), (11, .int (iI (w))), (7, .int (iI (1))), (8, .int (iI (dd))), (9, .int (iI (mm))), (10, .int (iI (((t : Nat) : Int)))), (0, .ref (b)), (1, .ref (ad 21)), (2, .int (iI (v))), (3, .ref (ad 19)), (4, .ref (ad 20)), (5, .ref (ad 31)), (6, .ref (ad 32))]) hx hb dL_law_338 hl (by decide) rfl (fun ls hl => ?_)
  refine lv_iload hx hb dL_law_340 (lv_at hl 6 rfl) ?_
  refine lv_iconst (v := iI (3)) hx hb dL_law_342 rfl ?_
  refine r_as (y := ((3 : Nat) : Int)) (by omega) ?_
  refine r_ishr hx hb (by omega) (by omega) dL_law_343 ?_
  refine r_nm (fun v13 ev13 => ?_)
  refine lv_sipush (v := iI (511)) hx hb dL_law_344 (by decide +kernel) ?_
  refine gp_goi hG (va_runS (As := [.int (iI (v13)), .int (iI (511))]) (rest := []) ⟨hx, hb, hml, hown, hts⟩ (mL_low l (v13) (511) (by omega) (by omega)) (va_cwS 2 hts gL_law_L_low rfl rfl rfl (by decide +kernel) ⟨Nat.le_of_ble_eq_true rfl, Nat.le_of_ble_eq_true rfl⟩) ⟨p0_blind, p0_pre⟩ rfl rfl hl.1 rfl (lv_room (Nat.le_of_ble_eq_true rfl)) dL_law_347 ⟨Nat.le_trans (by omega) hcs.1, Nat.le_trans (by omega) hcs.2⟩) (fun r9 H locs hp hG => ?_)
  rw [hp]
  clear hp
  refine r_nm (fun v14 ev14 => ?_)
  have hr15 := @lowF_r ((v13)) ((511)) (by omega)
  rw [← ev14] at hr15
  refine lv_sipush (v := iI (255)) hx hb dL_law_350 (by decide +kernel) ?_
  refine r_isub hx hb dL_law_353 ?_
  refine r_nm (fun v16 ev16 => ?_)
  refine lv_istore (lv' := [(18, .int (iI (v16))), (17, .int (iI (v12))), (16, .int (iI (cl))), (15, .int (iI (rw0))), (14, .int (iI (tl))), (13, .int (iI (((a : Nat) : Int)))), (12, .int (iI (wh))), (11, .int (iI (w))), (7, .int (iI (1))), (8, .int (iI (dd))), (9, .int (iI (mm))), (10, .int (iI (((t : Nat) : Int)))), (0, .ref (b)), (1, .ref (ad 21)), (2, .int (iI (v))), (3, .ref (ad 19)), (4, .ref (ad 20)), (5, .ref (ad 31)), (6, .ref (ad 32))]) hx hb dL_law_354 hl (by decide) rfl (fun ls hl => ?_)
  refine lv_aload_n hx hb dL_law_356 rfl (lv_at hl 13 rfl) ?_
  refine lv_iload hx hb dL_law_357 (lv_at hl 5 rfl) ?_
  refine lv_iload hx hb dL_law_359 (lv_at hl 1 rfl) ?_
  refine lv_bipush (v := iI (32)) hx hb dL_law_361 (by decide +kernel) ?_
  refine r_irem hx hb (by omega) dL_law_363 ?_
  refine r_nm (fun v17 ev17 => ?_)
  refine lv_iconst (v := iI (4)) hx hb dL_law_364 rfl ?_
  refine r_idiv hx hb (by omega) dL_law_365 ?_
  refine r_nm (fun v18 ev18 => ?_)
  refine lv_iload hx hb dL_law_366 (lv_at hl 1 rfl) ?_
  refine lv_iconst (v := iI (4)) hx hb dL_law_368 rfl ?_
  refine r_irem hx hb (by omega) dL_law_369 ?_
  refine r_nm (fun v19 ev19 => ?_)
  refine lv_iload hx hb dL_law_370 (lv_at hl 0 rfl) ?_
  have hkw := kWeight_s st ((a : Nat) : Int) (v18) (v19) (v16)
  have hjj : 4 * (v18) + (v19) = (v12) - 32 * ((a : Nat) : Int) := by omega
  have hj32 : 0 ≤ (v12) - 32 * ((a : Nat) : Int) ∧ (v12) - 32 * ((a : Nat) : Int) < 32 := by omega
  refine g_goi hG hA (va_runV (As := [.int (iI (((a : Nat) : Int))), .int (iI (v18)), .int (iI (v19)), .int (iI (v16))]) (rest := []) ⟨hx, hb, hml, hown, hts⟩ (pX5_weight l D cy ad n st _ fz _ hn hI (by omega) (((a : Nat) : Int)) (v18) (v19) (v16) (by omega) (by omega) (by omega) (by omega) hlf hnl hR (by omega)) (cwV 4 hts gL_law_X5_weight rfl rfl rfl (by decide +kernel) ⟨Nat.le_of_ble_eq_true rfl, Nat.le_of_ble_eq_true rfl⟩) ⟨g_blind, va_recv hK hG.1 (q0 := 21 - 19) (ci := 5) rfl ((gw_at (k := 21) (by omega)).trans (by rw [gC_21 st ad cy])), g_pre hK hG hA hN hZ⟩ rfl rfl hl.1 rfl (lv_room (Nat.le_of_ble_eq_true rfl)) dL_law_372 ⟨Nat.le_trans (by omega) hcs.1, Nat.le_trans (by omega) hcs.2⟩) (fun r9 st20 H locs hp hG => ?_)
  obtain ⟨-, ⟨rfl, hs9⟩, hI9⟩ := hp
  have hs2 : st20 = ust st 62 a ((v12) - 32 * ((a : Nat) : Int)) (v16) := by rw [hs9, ean, hjj]
  clear hs9
  replace hI := hI9
  refine r_nm (fun v21 ev21 => ?_)
  have hret : v21 = st 62 a ((v12) - 32 * ((a : Nat) : Int)) := by rw [ev21, ean, hjj]
  have h62r := gI_62 hJ.1 a ((v12) - 32 * ((a : Nat) : Int))
  refine lv_aload hx hb dL_law_375 (lv_at hl 18 rfl) ?_
  refine lv_iload hx hb dL_law_377 (lv_at hl 1 rfl) ?_
  refine g_iald hx hb hK hG (32) (kd := 32) (o := 0) rfl rfl (by omega) (cp := 83) (ln := 64) rfl rfl (by omega) dL_law_379 ?_
  refine r_nm (fun v22 ev22 => ?_)
  have hnew : v22 = st 62 a ((v12) - 32 * ((a : Nat) : Int)) := by rw [ev22, hs2, ust_c (by decide), ← h83 ((v12) - 32 * ((a : Nat) : Int)) hj32]; congr 1; omega
  refine r_icmp_ne (tgt := 387) hx hb (by omega) dL_law_380 (by decide) (fun c23 => ?_) (fun c23 => ?_)
  · skip
    exact absurd c23 (by omega)
  · skip
    refine lv_iconst (v := iI (1)) hx hb dL_law_383 rfl ?_
    refine lv_goto (tgt := 388) hx hb dL_law_384 (by decide) ?_
    refine lv_istore (lv' := [(7, .int (iI (1))), (18, .int (iI (v16))), (17, .int (iI (v12))), (16, .int (iI (cl))), (15, .int (iI (rw0))), (14, .int (iI (tl))), (13, .int (iI (((a : Nat) : Int)))), (12, .int (iI (wh))), (11, .int (iI (w))), (8, .int (iI (dd))), (9, .int (iI (mm))), (10, .int (iI (((t : Nat) : Int)))), (0, .ref (b)), (1, .ref (ad 21)), (2, .int (iI (v))), (3, .ref (ad 19)), (4, .ref (ad 20)), (5, .ref (ad 31)), (6, .ref (ad 32))]) hx hb dL_law_388 hl (by decide) rfl (fun ls hl => ?_)
    refine lv_aload hx hb dL_law_390 (lv_at hl 18 rfl) ?_
    refine lv_iload hx hb dL_law_392 (lv_at hl 2 rfl) ?_
    refine lv_iload hx hb dL_law_394 (lv_at hl 1 rfl) ?_
    refine g_iast hx hb hK hG (32) (kd := 32) (o := 0) rfl rfl (by omega) (cp := 83) (ln := 64) rfl rfl (by omega) dL_law_396 (fun H locs hG => ?_)
    obtain ⟨st24, hst24⟩ : ∃ z : St, z = ust st20 83 (0) (v12) (v16) := ⟨_, rfl⟩
    rw [← hst24] at hG
    replace hI := hst24 ▸ GI_o hI (c := 83) (o := 0) (i := v12) (v := v16) (by decide)
    refine lv_goto (tgt := 1066) hx hb dL_law_397 (by decide) ?_
    have e3 : st24 = ust (ust st 62 a ((v12) - 32 * ((a : Nat) : Int)) (v16)) 83 0 (32 * ((a : Nat) : Int) + ((v12) - 32 * ((a : Nat) : Int))) (v16) := by rw [hst24, hs2]; congr 1; omega
    have hA3 : PA st24 := by rw [e3]; exact PA_wt haa hj32 hJ.2.2.1
    have hC3 : PC st24 := PC_fr (fun c9 o9 i9 hc9 => by rw [e3, ust_c (fun z => absurd (z ▸ hc9) (by decide)), ust_c (fun z => absurd (z ▸ hc9) (by decide))]) hJ.2.2.2
    have hd3 : st24 31 0 0 = dd := by rw [e3, ust_c (by decide), ust_c (by decide)]; exact hdd
    have hn3 : st24 30 0 0 = st 30 0 0 := by rw [e3, ust_c (by decide), ust_c (by decide)]
    obtain ⟨st9, hG, hJ, hst9⟩ := gh_go hG (GI_mono (W' := wb + 2048) (by omega) hI) hA3 hC3
    refine W.widen (k := cells + 2000) (n := slots + 12000) (by omega) (by omega) ?_
    exact KK st9 (dd) H locs ls hG hJ ((hst9 31 0 0 (by decide)).trans hd3) (by rw [hst9 30 0 0 (by decide)]; omega) (lv_sub hl [0, 9, 10, 11, 8, 5, 12, 13, 14, 15, 16, 17, 18] rfl)
