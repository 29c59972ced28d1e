section LROW9
variable {p : Program} {l : Launch} {e : Env} {R : Room} {s : State} {m : MethodId} {below : List Frame} {meth : Method} {c : Code} {H : Heap} {locs : List Loc} {cells slots : Nat} {Q : State → Prop}
variable {pc : Nat} {ls : Array Slot} {rest : List Value}
theorem r_lcz {x y : Int64} (h : x = y) (hx : p.tables.exec = Jvm.exec) (hb : c.code = cL_law) {args : Array Value} (d : decode cL_law pc = .ok (.lcmp, 1)) (kk : W p l e R s m args below meth c H locs cells slots Q (F0 m (pc + 1) ls (.int (iI 0) :: rest))) : W p l e R s m args below meth c H locs cells slots Q (F0 m pc ls (.long y :: .long x :: rest)) := by
  refine W.lcmp hx hb d ?_
  rw [(lg_cmp_eq x y).mpr h]
  exact kk
end LROW9
set_option maxHeartbeats 1000000 in
set_option maxRecDepth 100000 in
theorem lb_wear {p : Program} {l : Launch} {e : Env} {s : State} {m : MethodId} {below : List Frame} {meth : Method} {c : Code} {b L : Nat} {xs : Nat → Int32} {D : va_G} {cy : Nat → ClassId} {fz : Nat} {A : Nat → Prop} {H : Heap} {locs : List Loc} {cells slots : Nat} {Q : State → Prop} {ls : Array Slot} {ad : Nat → Nat} {n : Nat} {st : St} (C : LC p l s m c b L xs D cy fz A) (hn81 : n = 81) (t : Nat) (mm w v dd tl : Int) (wb : Int) (hwb : 0 ≤ wb ∧ wb ≤ 200000) (hG : GH D cy ad n st A s.heap H locs) (hJ : JS wb st) (hdd : st 31 0 0 = dd) (ht40 : t ≤ 40) (hw : -2147483648 ≤ w ∧ w < 2147483648) (htl : 0 ≤ tl ∧ tl < 3) (hl : lv_has ls 22 (llC b ad v dd mm t w tl)) (hcs : cells + 2700 ≤ room_1.cells ∧ slots + 16200 ≤ room_1.slots) (KK : ∀ (H : Heap) (locs : List Loc) (ls : Array Slot), GH D cy ad n st A s.heap H locs → lv_has ls 22 (llB b ad v dd mm (t + 1)) → W p l e room_1 s m #[Value.ref b] below meth c H locs (cells + 2700) (slots + 16200) Q (F0 m 225 ls [])) : W p l e room_1 s m #[Value.ref b] below meth c H locs cells slots Q (F0 m 1262 ls []) := by
  obtain ⟨hx, hb, hml, hown, hts, hX, hbl, hbA, hA, hK, hN, hZ, hlf, hL⟩ := C
  have hI := hJ.1
  have hR := hJ.2.1
  have h33 := hJ.2.2.1.1.1
  have hn : 75 ≤ n := by omega
  have hnl : (n : Int) = 75 + 3 * st 33 0 0 := by omega
  have hkr := kRange_s 0 5 tl
  refine lv_lconst (v := 0) hx hb dL_law_1262 rfl ?_
  refine lv_lstore (lv' := [(17, .long (0)), (7, .int (iI (1))), (8, .int (iI (dd))), (9, .int (iI (mm))), (10, .int (iI (((t : Nat) : Int)))), (11, .int (iI (w))), (14, .int (iI (tl))), (0, .ref (b)), (1, .ref (ad 21)), (2, .int (iI (v))), (3, .ref (ad 19)), (4, .ref (ad 20)), (5, .ref (ad 31)), (6, .ref (ad 32))]) hx hb dL_law_1263 hl (by decide) rfl (fun ls hl => ?_)
  refine lv_iconst (v := iI (0)) hx hb dL_law_1265 rfl ?_
  refine lv_istore (lv' := [(19, .int (iI (0))), (17, .long (0)), (7, .int (iI (1))), (8, .int (iI (dd))), (9, .int (iI (mm))), (10, .int (iI (((t : Nat) : Int)))), (11, .int (iI (w))), (14, .int (iI (tl))), (0, .ref (b)), (1, .ref (ad 21)), (2, .int (iI (v))), (3, .ref (ad 19)), (4, .ref (ad 20)), (5, .ref (ad 31)), (6, .ref (ad 32))]) hx hb dL_law_1266 hl (by decide) rfl (fun ls hl => ?_)
  have hloop1268 : ∀ (N : Nat)  (k : Nat) (H : Heap) (locs : List Loc) (ls : Array Slot), 129 - k < N → (k ≤ 128) →  GH D cy ad n st A s.heap H locs → lv_has ls 22 [(17, .long (lI (weU st (tl) k))), (19, .int (iI (((k : Nat) : Int)))), (7, .int (iI (1))), (8, .int (iI (dd))), (9, .int (iI (mm))), (10, .int (iI (((t : Nat) : Int)))), (11, .int (iI (w))), (14, .int (iI (tl))), (0, .ref (b)), (1, .ref (ad 21)), (2, .int (iI (v))), (3, .ref (ad 19)), (4, .ref (ad 20)), (5, .ref (ad 31)), (6, .ref (ad 32))] → W p l e room_1 s m #[Value.ref b] below meth c H locs (cells + 20 * k) (slots + 120 * k) Q (F0 m 1268 ls []) := by
    intro N
    induction N with
    | zero => intro  k H locs ls hm; exact absurd hm (Nat.not_lt_zero _)
    | succ N ih1268 =>
      intro  k H locs ls hm hk hG hl
      have g40 := gI_40 hI (tl).toNat ((k : Nat) : Int)
      have g41 := gI_41 hI (tl).toNat ((k : Nat) : Int)
      have g43 := gI_43 hI (tl).toNat ((k : Nat) : Int)
      have g44 := gI_44 hI (tl).toNat ((k : Nat) : Int)
      have g449 := hJ.2.2.2.1 (tl).toNat ((k : Nat) : Int)
      have gle := con_le hI (hR.2.2.2.2.2.2.2.2.1 (tl).toNat ((k : Nat) : Int))
      have gcr := conC_r hI (tl).toNat ((k : Nat) : Int) (hR.2.2.2.2.2.2.2.2.1 (tl).toNat ((k : Nat) : Int))
      refine lv_iload hx hb dL_law_1268 (lv_at hl 1 rfl) ?_
      refine lv_sipush (v := iI (128)) hx hb dL_law_1270 (by decide +kernel) ?_
      refine r_icmp_ge (tgt := 1391) hx hb (by omega) dL_law_1273 (by decide) (fun c1 => ?_) (fun c1 => ?_)
      · skip
        refine lv_iload hx hb dL_law_1391 (lv_at hl 2 rfl) ?_
        refine r_if_eq (tgt := 1412) hx hb (by omega) dL_law_1393 (by decide) (fun c2 => ?_) (fun c2 => ?_)
        · skip
          exact absurd c2 (by omega)
        · skip
          refine lv_aload_n hx hb dL_law_1396 rfl (lv_at hl 9 rfl) ?_
          refine lv_iload hx hb dL_law_1397 (lv_at hl 7 rfl) ?_
          refine g_gol hG hA (va_runV (As := [.int (iI (tl))]) (rest := []) ⟨hx, hb, hml, hown, hts⟩ (pX5_wear l D cy ad n st _ fz _ hn hI (by omega) (tl) (by omega) hlf hnl hR (by omega)) (cwV 1 hts gL_law_X5_wear rfl rfl rfl (by decide +kernel) ⟨Nat.le_of_ble_eq_true rfl, Nat.le_of_ble_eq_true rfl⟩) ⟨g_blind, va_recv hK hG.1 (q0 := 21 - 19) (ci := 5) rfl ((gw_at (k := 21) (by omega)).trans (by rw [gC_21 st ad cy])), g_pre hK hG hA hN hZ⟩ rfl rfl hl.1 rfl (lv_room (Nat.le_of_ble_eq_true rfl)) dL_law_1399 ⟨Nat.le_trans (by omega) hcs.1, Nat.le_trans (by omega) hcs.2⟩) (fun r9 s9 H locs hp hG => ?_)
          obtain ⟨rfl, hs9⟩ := hp
          rw [hs9] at hG
          clear hs9
          refine lv_lload hx hb dL_law_1402 (lv_at hl 0 rfl) ?_
          refine r_lcz (by rw [show k = 128 by omega]) hx hb dL_law_1404 ?_
          refine r_if_ne (tgt := 1412) hx hb (by omega) dL_law_1405 (by decide) (fun c3 => ?_) (fun c3 => ?_)
          · skip
            exact absurd rfl c3
          · skip
            refine lv_iconst (v := iI (1)) hx hb dL_law_1408 rfl ?_
            refine lv_goto (tgt := 1413) hx hb dL_law_1409 (by decide) ?_
            refine lv_istore (lv' := [(7, .int (iI (1))), (17, .long (lI (weU st (tl) k))), (19, .int (iI (((k : Nat) : Int)))), (8, .int (iI (dd))), (9, .int (iI (mm))), (10, .int (iI (((t : Nat) : Int)))), (11, .int (iI (w))), (14, .int (iI (tl))), (0, .ref (b)), (1, .ref (ad 21)), (2, .int (iI (v))), (3, .ref (ad 19)), (4, .ref (ad 20)), (5, .ref (ad 31)), (6, .ref (ad 32))]) hx hb dL_law_1413 hl (by decide) rfl (fun ls hl => ?_)
            obtain ⟨v4, ev4⟩ : ∃ y9 : Int, y9 = ((t : Nat) : Int) + (1) := ⟨_, rfl⟩
            refine lv_iinc (v := iI v4) (lv' := [(10, .int (iI (v4))), (7, .int (iI (1))), (17, .long (lI (weU st (tl) k))), (19, .int (iI (((k : Nat) : Int)))), (8, .int (iI (dd))), (9, .int (iI (mm))), (11, .int (iI (w))), (14, .int (iI (tl))), (0, .ref (b)), (1, .ref (ad 21)), (2, .int (iI (v))), (3, .ref (ad 19)), (4, .ref (ad 20)), (5, .ref (ad 31)), (6, .ref (ad 32))]) hx hb dL_law_1415 hl (k := 5) rfl (by rw [ev4]; exact iI_add _ _) (by decide) rfl (fun ls hl => ?_)
            refine lv_goto (tgt := 225) hx hb dL_law_1418 (by decide) ?_
            rw [show v4 = ((t + 1 : Nat) : Int) from by omega] at hl
            refine W.widen (k := cells + 2700) (n := slots + 16200) (by omega) (by omega) ?_
            exact KK H locs ls hG (lv_sub hl [1, 4, 5, 0, 8, 9, 10, 11, 12, 13, 14] rfl)
      · skip
        refine lv_iload hx hb dL_law_1276 (lv_at hl 2 rfl) ?_
        refine r_if_eq (tgt := 1391) hx hb (by omega) dL_law_1278 (by decide) (fun c5 => ?_) (fun c5 => ?_)
        · skip
          exact absurd c5 (by omega)
        · skip
          refine lv_lload hx hb dL_law_1281 (lv_at hl 0 rfl) ?_
          refine lv_aload_n hx hb dL_law_1283 rfl (lv_at hl 9 rfl) ?_
          refine lv_iload hx hb dL_law_1284 (lv_at hl 7 rfl) ?_
          refine lv_iload hx hb dL_law_1286 (lv_at hl 1 rfl) ?_
          refine lv_bipush (v := iI (16)) hx hb dL_law_1288 (by decide +kernel) ?_
          refine r_idiv hx hb (by omega) dL_law_1290 ?_
          refine r_nm (fun v6 ev6 => ?_)
          refine lv_iload hx hb dL_law_1291 (lv_at hl 1 rfl) ?_
          refine lv_bipush (v := iI (16)) hx hb dL_law_1293 (by decide +kernel) ?_
          refine r_irem hx hb (by omega) dL_law_1295 ?_
          refine r_nm (fun v7 ev7 => ?_)
          refine lv_iconst (v := iI (2)) hx hb dL_law_1296 rfl ?_
          have hkc2 := kCell_s tl (v6) (v7) 2
          refine g_goi hG hA (va_runV (As := [.int (iI (tl)), .int (iI (v6)), .int (iI (v7)), .int (iI (2))]) (rest := [.long (lI (weU st (tl) k))]) ⟨hx, hb, hml, hown, hts⟩ (pX5_cell l D cy ad n st _ fz _ hn hI (by omega) (tl) (v6) (v7) (2) (by omega) (by omega) (by omega) (by omega) hlf hnl hR (by omega)) (cwV 4 hts gL_law_X5_cell rfl rfl rfl (by decide +kernel) ⟨Nat.le_of_ble_eq_true rfl, Nat.le_of_ble_eq_true rfl⟩) ⟨g_blind, va_recv hK hG.1 (q0 := 21 - 19) (ci := 5) rfl ((gw_at (k := 21) (by omega)).trans (by rw [gC_21 st ad cy])), g_pre hK hG hA hN hZ⟩ rfl rfl hl.1 rfl (lv_room (Nat.le_of_ble_eq_true rfl)) dL_law_1297 ⟨Nat.le_trans (by omega) hcs.1, Nat.le_trans (by omega) hcs.2⟩) (fun r9 s9 H locs hp hG => ?_)
          obtain ⟨rfl, hs9⟩ := hp
          rw [hs9] at hG
          clear hs9
          refine r_nm (fun v8 ev8 => ?_)
          have hw2 : v8 = st 41 (tl).toNat ((k : Nat) : Int) := by rw [ev8]; show st 41 (tl).toNat (16 * (v6) + (v7)) = _; rw [show 16 * (v6) + (v7) = ((k : Nat) : Int) by omega]
          have hwk : v8 = st 5 0 (128 * tl + ((k : Nat) : Int)) := by have h9 := (hR.2.2.2.2.1 (tl).toNat ((k : Nat) : Int) (by omega) (by omega)).2.1; rw [show (((tl).toNat : Nat) : Int) = tl by omega] at h9; rw [hw2, h9]
          refine lv_i2l (v := lI (v8)) hx hb dL_law_1300 (lI_i2l (by omega) (by omega)) ?_
          refine lv_ladd hx hb dL_law_1301 ?_
          refine r_asL (y := lI (weU st (tl) (k + 1))) (by rw [weU_s, lI_add, hwk]) ?_
          refine lv_lstore (lv' := [(17, .long (lI (weU st (tl) (k + 1)))), (19, .int (iI (((k : Nat) : Int)))), (7, .int (iI (1))), (8, .int (iI (dd))), (9, .int (iI (mm))), (10, .int (iI (((t : Nat) : Int)))), (11, .int (iI (w))), (14, .int (iI (tl))), (0, .ref (b)), (1, .ref (ad 21)), (2, .int (iI (v))), (3, .ref (ad 19)), (4, .ref (ad 20)), (5, .ref (ad 31)), (6, .ref (ad 32))]) hx hb dL_law_1302 hl (by decide) rfl (fun ls hl => ?_)
          refine lv_aload_n hx hb dL_law_1304 rfl (lv_at hl 9 rfl) ?_
          refine lv_iload hx hb dL_law_1305 (lv_at hl 7 rfl) ?_
          refine lv_iload hx hb dL_law_1307 (lv_at hl 1 rfl) ?_
          refine lv_bipush (v := iI (16)) hx hb dL_law_1309 (by decide +kernel) ?_
          refine r_idiv hx hb (by omega) dL_law_1311 ?_
          refine r_nm (fun v9 ev9 => ?_)
          refine lv_iload hx hb dL_law_1312 (lv_at hl 1 rfl) ?_
          refine lv_bipush (v := iI (16)) hx hb dL_law_1314 (by decide +kernel) ?_
          refine r_irem hx hb (by omega) dL_law_1316 ?_
          refine r_nm (fun v10 ev10 => ?_)
          refine lv_iconst (v := iI (4)) hx hb dL_law_1317 rfl ?_
          have hkc4 := kCell_s tl (v9) (v10) 4
          refine g_goi hG hA (va_runV (As := [.int (iI (tl)), .int (iI (v9)), .int (iI (v10)), .int (iI (4))]) (rest := []) ⟨hx, hb, hml, hown, hts⟩ (pX5_cell l D cy ad n st _ fz _ hn hI (by omega) (tl) (v9) (v10) (4) (by omega) (by omega) (by omega) (by omega) hlf hnl hR (by omega)) (cwV 4 hts gL_law_X5_cell rfl rfl rfl (by decide +kernel) ⟨Nat.le_of_ble_eq_true rfl, Nat.le_of_ble_eq_true rfl⟩) ⟨g_blind, va_recv hK hG.1 (q0 := 21 - 19) (ci := 5) rfl ((gw_at (k := 21) (by omega)).trans (by rw [gC_21 st ad cy])), g_pre hK hG hA hN hZ⟩ rfl rfl hl.1 rfl (lv_room (Nat.le_of_ble_eq_true rfl)) dL_law_1318 ⟨Nat.le_trans (by omega) hcs.1, Nat.le_trans (by omega) hcs.2⟩) (fun r9 s9 H locs hp hG => ?_)
          obtain ⟨rfl, hs9⟩ := hp
          rw [hs9] at hG
          clear hs9
          refine r_nm (fun v11 ev11 => ?_)
          have hw4 : v11 = st 44 (tl).toNat ((k : Nat) : Int) := by rw [ev11]; show st 44 (tl).toNat (16 * (v9) + (v10)) = _; rw [show 16 * (v9) + (v10) = ((k : Nat) : Int) by omega]
          refine lv_aload_n hx hb dL_law_1321 rfl (lv_at hl 9 rfl) ?_
          refine lv_iload hx hb dL_law_1322 (lv_at hl 7 rfl) ?_
          refine lv_iload hx hb dL_law_1324 (lv_at hl 1 rfl) ?_
          refine lv_bipush (v := iI (16)) hx hb dL_law_1326 (by decide +kernel) ?_
          refine r_idiv hx hb (by omega) dL_law_1328 ?_
          refine r_nm (fun v12 ev12 => ?_)
          refine lv_iload hx hb dL_law_1329 (lv_at hl 1 rfl) ?_
          refine lv_bipush (v := iI (16)) hx hb dL_law_1331 (by decide +kernel) ?_
          refine r_irem hx hb (by omega) dL_law_1333 ?_
          refine r_nm (fun v13 ev13 => ?_)
          refine lv_iconst (v := iI (3)) hx hb dL_law_1334 rfl ?_
          have hkc3 := kCell_s tl (v12) (v13) 3
          refine g_goi hG hA (va_runV (As := [.int (iI (tl)), .int (iI (v12)), .int (iI (v13)), .int (iI (3))]) (rest := [.int (iI (v11))]) ⟨hx, hb, hml, hown, hts⟩ (pX5_cell l D cy ad n st _ fz _ hn hI (by omega) (tl) (v12) (v13) (3) (by omega) (by omega) (by omega) (by omega) hlf hnl hR (by omega)) (cwV 4 hts gL_law_X5_cell rfl rfl rfl (by decide +kernel) ⟨Nat.le_of_ble_eq_true rfl, Nat.le_of_ble_eq_true rfl⟩) ⟨g_blind, va_recv hK hG.1 (q0 := 21 - 19) (ci := 5) rfl ((gw_at (k := 21) (by omega)).trans (by rw [gC_21 st ad cy])), g_pre hK hG hA hN hZ⟩ rfl rfl hl.1 rfl (lv_room (Nat.le_of_ble_eq_true rfl)) dL_law_1335 ⟨Nat.le_trans (by omega) hcs.1, Nat.le_trans (by omega) hcs.2⟩) (fun r9 s9 H locs hp hG => ?_)
          obtain ⟨rfl, hs9⟩ := hp
          rw [hs9] at hG
          clear hs9
          refine r_nm (fun v14 ev14 => ?_)
          have hw3 : v14 = st 43 (tl).toNat ((k : Nat) : Int) := by rw [ev14]; show st 43 (tl).toNat (16 * (v12) + (v13)) = _; rw [show 16 * (v12) + (v13) = ((k : Nat) : Int) by omega]
          refine r_icmp_gt (tgt := 1382) hx hb (by omega) dL_law_1338 (by decide) (fun c15 => ?_) (fun c15 => ?_)
          · skip
            exact absurd c15 (by omega)
          · skip
            refine lv_aload_n hx hb dL_law_1341 rfl (lv_at hl 9 rfl) ?_
            refine lv_iload hx hb dL_law_1342 (lv_at hl 7 rfl) ?_
            refine lv_iload hx hb dL_law_1344 (lv_at hl 1 rfl) ?_
            refine lv_bipush (v := iI (16)) hx hb dL_law_1346 (by decide +kernel) ?_
            refine r_idiv hx hb (by omega) dL_law_1348 ?_
            refine r_nm (fun v16 ev16 => ?_)
            refine lv_iload hx hb dL_law_1349 (lv_at hl 1 rfl) ?_
            refine lv_bipush (v := iI (16)) hx hb dL_law_1351 (by decide +kernel) ?_
            refine r_irem hx hb (by omega) dL_law_1353 ?_
            refine r_nm (fun v17 ev17 => ?_)
            refine lv_iconst (v := iI (1)) hx hb dL_law_1354 rfl ?_
            have hkc1 := kCell_s tl (v16) (v17) 1
            refine g_goi hG hA (va_runV (As := [.int (iI (tl)), .int (iI (v16)), .int (iI (v17)), .int (iI (1))]) (rest := []) ⟨hx, hb, hml, hown, hts⟩ (pX5_cell l D cy ad n st _ fz _ hn hI (by omega) (tl) (v16) (v17) (1) (by omega) (by omega) (by omega) (by omega) hlf hnl hR (by omega)) (cwV 4 hts gL_law_X5_cell rfl rfl rfl (by decide +kernel) ⟨Nat.le_of_ble_eq_true rfl, Nat.le_of_ble_eq_true rfl⟩) ⟨g_blind, va_recv hK hG.1 (q0 := 21 - 19) (ci := 5) rfl ((gw_at (k := 21) (by omega)).trans (by rw [gC_21 st ad cy])), g_pre hK hG hA hN hZ⟩ rfl rfl hl.1 rfl (lv_room (Nat.le_of_ble_eq_true rfl)) dL_law_1355 ⟨Nat.le_trans (by omega) hcs.1, Nat.le_trans (by omega) hcs.2⟩) (fun r9 s9 H locs hp hG => ?_)
            obtain ⟨rfl, hs9⟩ := hp
            rw [hs9] at hG
            clear hs9
            refine r_nm (fun v18 ev18 => ?_)
            have hw1 : v18 = conC st (tl).toNat ((k : Nat) : Int) := by rw [ev18]; show conC st (tl).toNat (16 * (v16) + (v17)) = _; rw [show 16 * (v16) + (v17) = ((k : Nat) : Int) by omega]
            refine lv_aload_n hx hb dL_law_1358 rfl (lv_at hl 9 rfl) ?_
            refine lv_iload hx hb dL_law_1359 (lv_at hl 7 rfl) ?_
            refine lv_iload hx hb dL_law_1361 (lv_at hl 1 rfl) ?_
            refine lv_bipush (v := iI (16)) hx hb dL_law_1363 (by decide +kernel) ?_
            refine r_idiv hx hb (by omega) dL_law_1365 ?_
            refine r_nm (fun v19 ev19 => ?_)
            refine lv_iload hx hb dL_law_1366 (lv_at hl 1 rfl) ?_
            refine lv_bipush (v := iI (16)) hx hb dL_law_1368 (by decide +kernel) ?_
            refine r_irem hx hb (by omega) dL_law_1370 ?_
            refine r_nm (fun v20 ev20 => ?_)
            refine lv_iconst (v := iI (0)) hx hb dL_law_1371 rfl ?_
            have hkc0 := kCell_s tl (v19) (v20) 0
            refine g_goi hG hA (va_runV (As := [.int (iI (tl)), .int (iI (v19)), .int (iI (v20)), .int (iI (0))]) (rest := [.int (iI (v18))]) ⟨hx, hb, hml, hown, hts⟩ (pX5_cell l D cy ad n st _ fz _ hn hI (by omega) (tl) (v19) (v20) (0) (by omega) (by omega) (by omega) (by omega) hlf hnl hR (by omega)) (cwV 4 hts gL_law_X5_cell rfl rfl rfl (by decide +kernel) ⟨Nat.le_of_ble_eq_true rfl, Nat.le_of_ble_eq_true rfl⟩) ⟨g_blind, va_recv hK hG.1 (q0 := 21 - 19) (ci := 5) rfl ((gw_at (k := 21) (by omega)).trans (by rw [gC_21 st ad cy])), g_pre hK hG hA hN hZ⟩ rfl rfl hl.1 rfl (lv_room (Nat.le_of_ble_eq_true rfl)) dL_law_1372 ⟨Nat.le_trans (by omega) hcs.1, Nat.le_trans (by omega) hcs.2⟩) (fun r9 s9 H locs hp hG => ?_)
            obtain ⟨rfl, hs9⟩ := hp
            rw [hs9] at hG
            clear hs9
            refine r_nm (fun v21 ev21 => ?_)
            have hw0 : v21 = st 40 (tl).toNat ((k : Nat) : Int) := by rw [ev21]; show st 40 (tl).toNat (16 * (v19) + (v20)) = _; rw [show 16 * (v19) + (v20) = ((k : Nat) : Int) by omega]
            refine r_icmp_gt (tgt := 1382) hx hb (by omega) dL_law_1375 (by decide) (fun c22 => ?_) (fun c22 => ?_)
            · skip
              exact absurd c22 (by omega)
            · skip
              refine lv_iconst (v := iI (1)) hx hb dL_law_1378 rfl ?_
              refine lv_goto (tgt := 1383) hx hb dL_law_1379 (by decide) ?_
              refine lv_istore (lv' := [(7, .int (iI (1))), (17, .long (lI (weU st (tl) (k + 1)))), (19, .int (iI (((k : Nat) : Int)))), (8, .int (iI (dd))), (9, .int (iI (mm))), (10, .int (iI (((t : Nat) : Int)))), (11, .int (iI (w))), (14, .int (iI (tl))), (0, .ref (b)), (1, .ref (ad 21)), (2, .int (iI (v))), (3, .ref (ad 19)), (4, .ref (ad 20)), (5, .ref (ad 31)), (6, .ref (ad 32))]) hx hb dL_law_1383 hl (by decide) rfl (fun ls hl => ?_)
              obtain ⟨v23, ev23⟩ : ∃ y9 : Int, y9 = ((k : Nat) : Int) + (1) := ⟨_, rfl⟩
              refine lv_iinc (v := iI v23) (lv' := [(19, .int (iI (v23))), (7, .int (iI (1))), (17, .long (lI (weU st (tl) (k + 1)))), (8, .int (iI (dd))), (9, .int (iI (mm))), (10, .int (iI (((t : Nat) : Int)))), (11, .int (iI (w))), (14, .int (iI (tl))), (0, .ref (b)), (1, .ref (ad 21)), (2, .int (iI (v))), (3, .ref (ad 19)), (4, .ref (ad 20)), (5, .ref (ad 31)), (6, .ref (ad 32))]) hx hb dL_law_1385 hl (k := 2) rfl (by rw [ev23]; exact iI_add _ _) (by decide) rfl (fun ls hl => ?_)
              refine lv_goto (tgt := 1268) hx hb dL_law_1388 (by decide) ?_
              refine W.widen (k := cells + 20 * (k + 1)) (n := slots + 120 * (k + 1)) (by omega) (by omega) ?_
              rw [show (v23 : Int) = (((k + 1) : Nat) : Int) from by omega] at hl
              exact ih1268  (k + 1) _ _ _ (by omega) (by omega) hG (lv_sub hl [2, 0, 1, 3, 4, 5, 6, 7, 8, 9, 10, 11, 12, 13, 14] rfl)
  refine W.widen (k := cells + 20 * 0) (n := slots + 120 * 0) (by omega) (by omega) ?_
  exact hloop1268 _  (0) _ _ _ (Nat.lt_succ_self _) (by omega) hG (lv_sub hl [1, 0, 2, 3, 4, 5, 6, 7, 8, 9, 10, 11, 12, 13, 14] rfl)
set_option maxHeartbeats 1000000 in
set_option maxRecDepth 100000 in
theorem lb_head {p : Program} {l : Launch} {e : Env} {s : State} {m : MethodId} {below : List Frame} {meth : Method} {c : Code} {b L : Nat} {xs : Nat → Int32} {D : va_G} {cy : Nat → ClassId} {fz : Nat} {A : Nat → Prop} {H : Heap} {locs : List Loc} {cells slots : Nat} {Q : State → Prop} {ls : Array Slot} {ad : Nat → Nat} {n : Nat} {st : St} (C : LC p l s m c b L xs D cy fz A) (t : Nat) (mm v dd : Int) (ht40 : t ≤ 41) (hmm : 0 ≤ mm ∧ mm ≤ 40) (hG : GH D cy ad n st A s.heap H locs) (hl : lv_has ls 22 (llB b ad v dd mm t)) (hcs : cells + 0 ≤ room_1.cells ∧ slots + 0 ≤ room_1.slots) (KE : mm ≤ (t : Int) → W p l e room_1 s m #[Value.ref b] below meth c H locs cells slots Q (F0 m 1421 ls [])) (KH : ∀ (pc : Nat), pc ∈ [304, 406, 449, 564, 636, 691, 734, 793, 847, 1050] → ∀ (w wh la tl rw0 cl : Int) (H : Heap) (locs : List Loc) (ls : Array Slot), (-2147483648 ≤ w ∧ w < 2147483648) → (0 ≤ la ∧ la < 2) → (0 ≤ tl ∧ tl < 3) → (0 ≤ rw0 ∧ rw0 < 8) → (0 ≤ cl ∧ cl < 16) → ((t : Int) < mm) → GH D cy ad n st A s.heap H locs → lv_has ls 22 [(16, .int (iI cl)), (15, .int (iI rw0)), (14, .int (iI tl)), (13, .int (iI la)), (12, .int (iI wh)), (11, .int (iI w)), (7, .int (iI 1)), (8, .int (iI dd)), (9, .int (iI mm)), (10, .int (iI (t : Int))), (0, .ref b), (1, .ref (ad 21)), (2, .int (iI v)), (3, .ref (ad 19)), (4, .ref (ad 20)), (5, .ref (ad 31)), (6, .ref (ad 32))] → W p l e room_1 s m #[Value.ref b] below meth c H locs cells slots Q (F0 m pc ls [])) : W p l e room_1 s m #[Value.ref b] below meth c H locs cells slots Q (F0 m 225 ls []) := by
  obtain ⟨hx, hb, hml, hown, hts, hX, hbl, hbA, hA, hK, hN, hZ, hlf, hL⟩ := C
  refine lv_iload hx hb dL_law_225 (lv_at hl 3 rfl) ?_
  refine lv_iload hx hb dL_law_227 (lv_at hl 2 rfl) ?_
  refine r_icmp_ge (tgt := 1421) hx hb (by omega) dL_law_229 (by decide) (fun c1 => ?_) (fun c1 => ?_)
  · skip
    exact KE (by omega)
  · skip
    refine lv_iload hx hb dL_law_232 (lv_at hl 0 rfl) ?_
    refine r_if_eq (tgt := 1421) hx hb (by omega) dL_law_234 (by decide) (fun c2 => ?_) (fun c2 => ?_)
    · skip
      exact absurd c2 (by omega)
    · skip
      refine lv_aload_n hx hb dL_law_237 rfl (lv_at hl 4 rfl) ?_
      refine lv_iload hx hb dL_law_238 (lv_at hl 3 rfl) ?_
      refine gp_goi hG (va_runS (As := [.ref (b), .int (iI (((t : Nat) : Int)))]) (rest := []) ⟨hx, hb, hml, hown, hts⟩ (mL_cell l b L xs (t) (by omega) hL) (va_cwS 2 hts gL_law_L_cell rfl rfl rfl (by decide +kernel) ⟨Nat.le_of_ble_eq_true rfl, Nat.le_of_ble_eq_true rfl⟩) ⟨p1_blind, p1_pre hX hbl hbA hG.2.2⟩ rfl rfl hl.1 rfl (lv_room (Nat.le_of_ble_eq_true rfl)) dL_law_240 ⟨Nat.le_trans (by omega) hcs.1, Nat.le_trans (by omega) hcs.2⟩) (fun r9 H locs hp hG => ?_)
      rw [hp]
      clear hp
      refine r_nm (fun v3 ev3 => ?_)
      have hrv3 := cvF_r xs L (k := t) (by omega)
      rw [← ev3] at hrv3
      refine lv_istore (lv' := [(11, .int (iI (v3))), (7, .int (iI (1))), (8, .int (iI (dd))), (9, .int (iI (mm))), (10, .int (iI (((t : Nat) : Int)))), (0, .ref (b)), (1, .ref (ad 21)), (2, .int (iI (v))), (3, .ref (ad 19)), (4, .ref (ad 20)), (5, .ref (ad 31)), (6, .ref (ad 32))]) hx hb dL_law_243 hl (by decide) rfl (fun ls hl => ?_)
      refine lv_iload hx hb dL_law_245 (lv_at hl 0 rfl) ?_
      refine lv_bipush (v := iI (12)) hx hb dL_law_247 (by decide +kernel) ?_
      refine gp_goi hG (va_runS (As := [.int (iI (v3)), .int (iI (12))]) (rest := []) ⟨hx, hb, hml, hown, hts⟩ (mL_low l (v3) (12) (by omega) (by omega)) (va_cwS 2 hts gL_law_L_low rfl rfl rfl (by decide +kernel) ⟨Nat.le_of_ble_eq_true rfl, Nat.le_of_ble_eq_true rfl⟩) ⟨p0_blind, p0_pre⟩ rfl rfl hl.1 rfl (lv_room (Nat.le_of_ble_eq_true rfl)) dL_law_249 ⟨Nat.le_trans (by omega) hcs.1, Nat.le_trans (by omega) hcs.2⟩) (fun r9 H locs hp hG => ?_)
      rw [hp]
      clear hp
      refine r_nm (fun v4 ev4 => ?_)
      have hr5 := @lowF_r ((v3)) ((12)) (by omega)
      rw [← ev4] at hr5
      refine lv_istore (lv' := [(12, .int (iI (v4))), (11, .int (iI (v3))), (7, .int (iI (1))), (8, .int (iI (dd))), (9, .int (iI (mm))), (10, .int (iI (((t : Nat) : Int)))), (0, .ref (b)), (1, .ref (ad 21)), (2, .int (iI (v))), (3, .ref (ad 19)), (4, .ref (ad 20)), (5, .ref (ad 31)), (6, .ref (ad 32))]) hx hb dL_law_252 hl (by decide) rfl (fun ls hl => ?_)
      refine lv_iload hx hb dL_law_254 (lv_at hl 1 rfl) ?_
      refine lv_iconst (v := iI (4)) hx hb dL_law_256 rfl ?_
      refine r_as (y := ((4 : Nat) : Int)) (by omega) ?_
      refine r_ishr hx hb (by omega) (by omega) dL_law_257 ?_
      refine r_nm (fun v6 ev6 => ?_)
      refine lv_iconst (v := iI (2)) hx hb dL_law_258 rfl ?_
      refine gp_goi hG (va_runS (As := [.int (iI (v6)), .int (iI (2))]) (rest := []) ⟨hx, hb, hml, hown, hts⟩ (mL_low l (v6) (2) (by omega) (by omega)) (va_cwS 2 hts gL_law_L_low rfl rfl rfl (by decide +kernel) ⟨Nat.le_of_ble_eq_true rfl, Nat.le_of_ble_eq_true rfl⟩) ⟨p0_blind, p0_pre⟩ rfl rfl hl.1 rfl (lv_room (Nat.le_of_ble_eq_true rfl)) dL_law_259 ⟨Nat.le_trans (by omega) hcs.1, Nat.le_trans (by omega) hcs.2⟩) (fun r9 H locs hp hG => ?_)
      rw [hp]
      clear hp
      refine r_nm (fun v7 ev7 => ?_)
      have hr8 := @lowF_r ((v6)) ((2)) (by omega)
      rw [← ev7] at hr8
      refine lv_istore (lv' := [(13, .int (iI (v7))), (12, .int (iI (v4))), (11, .int (iI (v3))), (7, .int (iI (1))), (8, .int (iI (dd))), (9, .int (iI (mm))), (10, .int (iI (((t : Nat) : Int)))), (0, .ref (b)), (1, .ref (ad 21)), (2, .int (iI (v))), (3, .ref (ad 19)), (4, .ref (ad 20)), (5, .ref (ad 31)), (6, .ref (ad 32))]) hx hb dL_law_262 hl (by decide) rfl (fun ls hl => ?_)
      refine lv_iload hx hb dL_law_264 (lv_at hl 2 rfl) ?_
      refine lv_iconst (v := iI (5)) hx hb dL_law_266 rfl ?_
      refine r_as (y := ((5 : Nat) : Int)) (by omega) ?_
      refine r_ishr hx hb (by omega) (by omega) dL_law_267 ?_
      refine r_nm (fun v9 ev9 => ?_)
      refine lv_iconst (v := iI (3)) hx hb dL_law_268 rfl ?_
      refine gp_goi hG (va_runS (As := [.int (iI (v9)), .int (iI (3))]) (rest := []) ⟨hx, hb, hml, hown, hts⟩ (mL_low l (v9) (3) (by omega) (by omega)) (va_cwS 2 hts gL_law_L_low rfl rfl rfl (by decide +kernel) ⟨Nat.le_of_ble_eq_true rfl, Nat.le_of_ble_eq_true rfl⟩) ⟨p0_blind, p0_pre⟩ rfl rfl hl.1 rfl (lv_room (Nat.le_of_ble_eq_true rfl)) dL_law_269 ⟨Nat.le_trans (by omega) hcs.1, Nat.le_trans (by omega) hcs.2⟩) (fun r9 H locs hp hG => ?_)
      rw [hp]
      clear hp
      refine r_nm (fun v10 ev10 => ?_)
      have hr11 := @lowF_r ((v9)) ((3)) (by omega)
      rw [← ev10] at hr11
      refine lv_istore (lv' := [(14, .int (iI (v10))), (13, .int (iI (v7))), (12, .int (iI (v4))), (11, .int (iI (v3))), (7, .int (iI (1))), (8, .int (iI (dd))), (9, .int (iI (mm))), (10, .int (iI (((t : Nat) : Int)))), (0, .ref (b)), (1, .ref (ad 21)), (2, .int (iI (v))), (3, .ref (ad 19)), (4, .ref (ad 20)), (5, .ref (ad 31)), (6, .ref (ad 32))]) hx hb dL_law_272 hl (by decide) rfl (fun ls hl => ?_)
      refine lv_iload hx hb dL_law_274 (lv_at hl 3 rfl) ?_
      refine lv_bipush (v := iI (6)) hx hb dL_law_276 (by decide +kernel) ?_
      refine r_as (y := ((6 : Nat) : Int)) (by omega) ?_
      refine r_ishr hx hb (by omega) (by omega) dL_law_278 ?_
      refine r_nm (fun v12 ev12 => ?_)
      refine lv_bipush (v := iI (8)) hx hb dL_law_279 (by decide +kernel) ?_
      refine gp_goi hG (va_runS (As := [.int (iI (v12)), .int (iI (8))]) (rest := []) ⟨hx, hb, hml, hown, hts⟩ (mL_low l (v12) (8) (by omega) (by omega)) (va_cwS 2 hts gL_law_L_low rfl rfl rfl (by decide +kernel) ⟨Nat.le_of_ble_eq_true rfl, Nat.le_of_ble_eq_true rfl⟩) ⟨p0_blind, p0_pre⟩ rfl rfl hl.1 rfl (lv_room (Nat.le_of_ble_eq_true rfl)) dL_law_281 ⟨Nat.le_trans (by omega) hcs.1, Nat.le_trans (by omega) hcs.2⟩) (fun r9 H locs hp hG => ?_)
      rw [hp]
      clear hp
      refine r_nm (fun v13 ev13 => ?_)
      have hr14 := @lowF_r ((v12)) ((8)) (by omega)
      rw [← ev13] at hr14
      refine lv_istore (lv' := [(15, .int (iI (v13))), (14, .int (iI (v10))), (13, .int (iI (v7))), (12, .int (iI (v4))), (11, .int (iI (v3))), (7, .int (iI (1))), (8, .int (iI (dd))), (9, .int (iI (mm))), (10, .int (iI (((t : Nat) : Int)))), (0, .ref (b)), (1, .ref (ad 21)), (2, .int (iI (v))), (3, .ref (ad 19)), (4, .ref (ad 20)), (5, .ref (ad 31)), (6, .ref (ad 32))]) hx hb dL_law_284 hl (by decide) rfl (fun ls hl => ?_)
      refine lv_iload hx hb dL_law_286 (lv_at hl 4 rfl) ?_
      refine lv_bipush (v := iI (9)) hx hb dL_law_288 (by decide +kernel) ?_
      refine r_as (y := ((9 : Nat) : Int)) (by omega) ?_
      refine r_ishr hx hb (by omega) (by omega) dL_law_290 ?_
      refine r_nm (fun v15 ev15 => ?_)
      refine lv_bipush (v := iI (16)) hx hb dL_law_291 (by decide +kernel) ?_
      refine gp_goi hG (va_runS (As := [.int (iI (v15)), .int (iI (16))]) (rest := []) ⟨hx, hb, hml, hown, hts⟩ (mL_low l (v15) (16) (by omega) (by omega)) (va_cwS 2 hts gL_law_L_low rfl rfl rfl (by decide +kernel) ⟨Nat.le_of_ble_eq_true rfl, Nat.le_of_ble_eq_true rfl⟩) ⟨p0_blind, p0_pre⟩ rfl rfl hl.1 rfl (lv_room (Nat.le_of_ble_eq_true rfl)) dL_law_293 ⟨Nat.le_trans (by omega) hcs.1, Nat.le_trans (by omega) hcs.2⟩) (fun r9 H locs hp hG => ?_)
      rw [hp]
      clear hp
      refine r_nm (fun v16 ev16 => ?_)
      have hr17 := @lowF_r ((v15)) ((16)) (by omega)
      rw [← ev16] at hr17
      refine lv_istore (lv' := [(16, .int (iI (v16))), (15, .int (iI (v13))), (14, .int (iI (v10))), (13, .int (iI (v7))), (12, .int (iI (v4))), (11, .int (iI (v3))), (7, .int (iI (1))), (8, .int (iI (dd))), (9, .int (iI (mm))), (10, .int (iI (((t : Nat) : Int)))), (0, .ref (b)), (1, .ref (ad 21)), (2, .int (iI (v))), (3, .ref (ad 19)), (4, .ref (ad 20)), (5, .ref (ad 31)), (6, .ref (ad 32))]) hx hb dL_law_296 hl (by decide) rfl (fun ls hl => ?_)
      refine lv_iload hx hb dL_law_298 (lv_at hl 4 rfl) ?_
      refine lv_iconst (v := iI (2)) hx hb dL_law_300 rfl ?_
      refine r_icmp_ge (tgt := 400) hx hb (by omega) dL_law_301 (by decide) (fun c18 => ?_) (fun c18 => ?_)
      · skip
        refine lv_iload hx hb dL_law_400 (lv_at hl 4 rfl) ?_
        refine lv_iconst (v := iI (4)) hx hb dL_law_402 rfl ?_
        refine r_icmp_ge (tgt := 443) hx hb (by omega) dL_law_403 (by decide) (fun c19 => ?_) (fun c19 => ?_)
        · skip
          refine lv_iload hx hb dL_law_443 (lv_at hl 4 rfl) ?_
          refine lv_iconst (v := iI (4)) hx hb dL_law_445 rfl ?_
          refine r_icmp_ne (tgt := 558) hx hb (by omega) dL_law_446 (by decide) (fun c20 => ?_) (fun c20 => ?_)
          · skip
            refine lv_iload hx hb dL_law_558 (lv_at hl 4 rfl) ?_
            refine lv_iconst (v := iI (5)) hx hb dL_law_560 rfl ?_
            refine r_icmp_ne (tgt := 629) hx hb (by omega) dL_law_561 (by decide) (fun c21 => ?_) (fun c21 => ?_)
            · skip
              refine lv_iload hx hb dL_law_629 (lv_at hl 4 rfl) ?_
              refine lv_bipush (v := iI (6)) hx hb dL_law_631 (by decide +kernel) ?_
              refine r_icmp_ne (tgt := 684) hx hb (by omega) dL_law_633 (by decide) (fun c22 => ?_) (fun c22 => ?_)
              · skip
                refine lv_iload hx hb dL_law_684 (lv_at hl 4 rfl) ?_
                refine lv_bipush (v := iI (7)) hx hb dL_law_686 (by decide +kernel) ?_
                refine r_icmp_ne (tgt := 727) hx hb (by omega) dL_law_688 (by decide) (fun c23 => ?_) (fun c23 => ?_)
                · skip
                  refine lv_iload hx hb dL_law_727 (lv_at hl 4 rfl) ?_
                  refine lv_bipush (v := iI (8)) hx hb dL_law_729 (by decide +kernel) ?_
                  refine r_icmp_ne (tgt := 786) hx hb (by omega) dL_law_731 (by decide) (fun c24 => ?_) (fun c24 => ?_)
                  · skip
                    refine lv_iload hx hb dL_law_786 (lv_at hl 4 rfl) ?_
                    refine lv_bipush (v := iI (9)) hx hb dL_law_788 (by decide +kernel) ?_
                    refine r_icmp_ne (tgt := 840) hx hb (by omega) dL_law_790 (by decide) (fun c25 => ?_) (fun c25 => ?_)
                    · skip
                      refine lv_iload hx hb dL_law_840 (lv_at hl 4 rfl) ?_
                      refine lv_bipush (v := iI (10)) hx hb dL_law_842 (by decide +kernel) ?_
                      refine r_icmp_ne (tgt := 1050) hx hb (by omega) dL_law_844 (by decide) (fun c26 => ?_) (fun c26 => ?_)
                      · skip
                        exact KH 1050 (by decide) (v3) (v4) (v7) (v10) (v13) (v16) H locs ls (by omega) (by omega) (by omega) (by omega) (by omega) (by omega) hG (lv_sub hl [0, 1, 2, 3, 4, 5, 6, 7, 8, 9, 10, 11, 12, 13, 14, 15, 16] rfl)
                      · skip
                        exact KH 847 (by decide) (v3) (v4) (v7) (v10) (v13) (v16) H locs ls (by omega) (by omega) (by omega) (by omega) (by omega) (by omega) hG (lv_sub hl [0, 1, 2, 3, 4, 5, 6, 7, 8, 9, 10, 11, 12, 13, 14, 15, 16] rfl)
                    · skip
                      exact KH 793 (by decide) (v3) (v4) (v7) (v10) (v13) (v16) H locs ls (by omega) (by omega) (by omega) (by omega) (by omega) (by omega) hG (lv_sub hl [0, 1, 2, 3, 4, 5, 6, 7, 8, 9, 10, 11, 12, 13, 14, 15, 16] rfl)
                  · skip
                    exact KH 734 (by decide) (v3) (v4) (v7) (v10) (v13) (v16) H locs ls (by omega) (by omega) (by omega) (by omega) (by omega) (by omega) hG (lv_sub hl [0, 1, 2, 3, 4, 5, 6, 7, 8, 9, 10, 11, 12, 13, 14, 15, 16] rfl)
                · skip
                  exact KH 691 (by decide) (v3) (v4) (v7) (v10) (v13) (v16) H locs ls (by omega) (by omega) (by omega) (by omega) (by omega) (by omega) hG (lv_sub hl [0, 1, 2, 3, 4, 5, 6, 7, 8, 9, 10, 11, 12, 13, 14, 15, 16] rfl)
              · skip
                exact KH 636 (by decide) (v3) (v4) (v7) (v10) (v13) (v16) H locs ls (by omega) (by omega) (by omega) (by omega) (by omega) (by omega) hG (lv_sub hl [0, 1, 2, 3, 4, 5, 6, 7, 8, 9, 10, 11, 12, 13, 14, 15, 16] rfl)
            · skip
              exact KH 564 (by decide) (v3) (v4) (v7) (v10) (v13) (v16) H locs ls (by omega) (by omega) (by omega) (by omega) (by omega) (by omega) hG (lv_sub hl [0, 1, 2, 3, 4, 5, 6, 7, 8, 9, 10, 11, 12, 13, 14, 15, 16] rfl)
          · skip
            exact KH 449 (by decide) (v3) (v4) (v7) (v10) (v13) (v16) H locs ls (by omega) (by omega) (by omega) (by omega) (by omega) (by omega) hG (lv_sub hl [0, 1, 2, 3, 4, 5, 6, 7, 8, 9, 10, 11, 12, 13, 14, 15, 16] rfl)
        · skip
          exact KH 406 (by decide) (v3) (v4) (v7) (v10) (v13) (v16) H locs ls (by omega) (by omega) (by omega) (by omega) (by omega) (by omega) hG (lv_sub hl [0, 1, 2, 3, 4, 5, 6, 7, 8, 9, 10, 11, 12, 13, 14, 15, 16] rfl)
      · skip
        exact KH 304 (by decide) (v3) (v4) (v7) (v10) (v13) (v16) H locs ls (by omega) (by omega) (by omega) (by omega) (by omega) (by omega) hG (lv_sub hl [0, 1, 2, 3, 4, 5, 6, 7, 8, 9, 10, 11, 12, 13, 14, 15, 16] rfl)
