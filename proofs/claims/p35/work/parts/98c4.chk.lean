set_option maxHeartbeats 1000000 in
set_option maxRecDepth 100000 in
theorem lb_chk {p : Program} {l : Launch} {e : Env} {s : State} {m : MethodId} {below : List Frame} {meth : Method} {c : Code} {b L : Nat} {xs : Nat → Int32} {D : va_G} {cy : Nat → ClassId} {fz : Nat} {A : Nat → Prop} {H : Heap} {locs : List Loc} {cells slots : Nat} {Q : State → Prop} {ls : Array Slot} {ad : Nat → Nat} {n : Nat} {st : St} (C : LC p l s m c b L xs D cy fz A) (hn81 : n = 81) (t : Nat) (mm w v dd tl : Int) (wb : Int) (hwb : 0 ≤ wb ∧ wb ≤ 200000) (hG : GH D cy ad n st A s.heap H locs) (hJ : JS wb st) (hdd : st 31 0 0 = dd) (ht40 : t ≤ 40) (hw : -2147483648 ≤ w ∧ w < 2147483648) (htl : 0 ≤ tl ∧ tl < 3) (hl : lv_has ls 22 (llC b ad v dd mm t w tl)) (hcs : cells + 200 ≤ room_1.cells ∧ slots + 1200 ≤ room_1.slots) (KK : ∀ (st' : St) (H : Heap) (locs : List Loc) (ls : Array Slot), GH D cy ad n st' A s.heap H locs → JS wb st' → st' 31 0 0 = dd → st' 30 0 0 = st 30 0 0 → lv_has ls 22 (llC b ad v dd mm t w tl) → W p l e room_1 s m #[Value.ref b] below meth c H locs (cells + 200) (slots + 1200) Q (F0 m 1262 ls [])) : W p l e room_1 s m #[Value.ref b] below meth c H locs cells slots Q (F0 m 1066 ls []) := by
  obtain ⟨hx, hb, hml, hown, hts, hX, hbl, hbA, hA, hK, hN, hZ, hlf, hL⟩ := C
  have hI := hJ.1
  have hR := hJ.2.1
  have h33 := hJ.2.2.1.1.1
  have hn : 75 ≤ n := by omega
  have L_105 := hts (.constantLong RL 105 (2654435761)) (by decide +kernel)
  refine lv_iconst (v := iI (0)) hx hb dL_law_1066 rfl ?_
  refine lv_istore (lv' := [(17, .int (iI (0))), (7, .int (iI (1))), (8, .int (iI (dd))), (9, .int (iI (mm))), (10, .int (iI (((t : Nat) : Int)))), (11, .int (iI (w))), (14, .int (iI (tl))), (0, .ref (b)), (1, .ref (ad 21)), (2, .int (iI (v))), (3, .ref (ad 19)), (4, .ref (ad 20)), (5, .ref (ad 31)), (6, .ref (ad 32))]) hx hb dL_law_1067 hl (by decide) rfl (fun ls hl => ?_)
  have hloop1069 : ∀ (N : Nat)  (k : Nat) (stb : St) (H : Heap) (locs : List Loc) (ls : Array Slot), 3 - k < N → (k ≤ 2) → (JS wb stb) → (stb 31 0 0 = dd) → (stb 30 0 0 = st 30 0 0) → GI wb stb → GH D cy ad n stb A s.heap H locs → lv_has ls 22 [(17, .int (iI (((k : Nat) : Int)))), (7, .int (iI (1))), (8, .int (iI (dd))), (9, .int (iI (mm))), (10, .int (iI (((t : Nat) : Int)))), (11, .int (iI (w))), (14, .int (iI (tl))), (0, .ref (b)), (1, .ref (ad 21)), (2, .int (iI (v))), (3, .ref (ad 19)), (4, .ref (ad 20)), (5, .ref (ad 31)), (6, .ref (ad 32))] → W p l e room_1 s m #[Value.ref b] below meth c H locs (cells + 60 * k) (slots + 360 * k) Q (F0 m 1069 ls []) := by
    intro N
    induction N with
    | zero => intro  k stb H locs ls hm; exact absurd hm (Nat.not_lt_zero _)
    | succ N ih1069 =>
      intro  k stb H locs ls hm hk hJb hdb hnb hI hG hl
      have hR := hJb.2.1
      have hnl : (n : Int) = 75 + 3 * stb 33 0 0 := by have := hJb.2.2.1.1.1; omega
      refine lv_iload hx hb dL_law_1069 (lv_at hl 0 rfl) ?_
      refine lv_iconst (v := iI (2)) hx hb dL_law_1071 rfl ?_
      refine r_icmp_ge (tgt := 1262) hx hb (by omega) dL_law_1072 (by decide) (fun c1 => ?_) (fun c1 => ?_)
      · skip
        refine W.widen (k := cells + 200) (n := slots + 1200) (by omega) (by omega) ?_
        exact KK stb H locs ls hG hJb hdb hnb (lv_sub hl [1, 2, 3, 4, 5, 6, 7, 8, 9, 10, 11, 12, 13] rfl)
      · skip
        refine lv_iload hx hb dL_law_1075 (lv_at hl 1 rfl) ?_
        refine r_if_eq (tgt := 1262) hx hb (by omega) dL_law_1077 (by decide) (fun c2 => ?_) (fun c2 => ?_)
        · skip
          exact absurd c2 (by omega)
        · skip
          refine lv_iload hx hb dL_law_1080 (lv_at hl 5 rfl) ?_
          have hk2 : k < 2 := by omega
          obtain ⟨⟨h14, h33b⟩, ⟨h15, h16, h20⟩, ⟨h80, h81, h82⟩, h66, ⟨h60, h61⟩, h83⟩ := JS_a hJb hk2
          refine lv_i2l (v := lI (w)) hx hb dL_law_1082 (lI_i2l (by omega) (by omega)) ?_
          refine lv_bipush (v := iI (32)) hx hb dL_law_1083 (by decide +kernel) ?_
          refine lv_lshl (v := lI (w) <<< ((iI (32)).toInt64 &&& 63)) hx hb dL_law_1085 (by rfl) ?_
          refine lv_aload_n hx hb dL_law_1086 rfl (lv_at hl 7 rfl) ?_
          refine lv_iload hx hb dL_law_1087 (lv_at hl 4 rfl) ?_
          refine lv_iconst (v := iI (1)) hx hb dL_law_1089 rfl ?_
          refine r_iadd hx hb dL_law_1090 ?_
          refine r_nm (fun v3 ev3 => ?_)
          refine r_as (y := ((t + 1 : Nat) : Int)) (by omega) ?_
          refine gp_goi hG (va_runS (As := [.ref (b), .int (iI (((t + 1 : Nat) : Int)))]) (rest := [.long (lI (w) <<< ((iI (32)).toInt64 &&& 63))]) ⟨hx, hb, hml, hown, hts⟩ (mL_cell l b L xs (t + 1) (by omega) hL) (va_cwS 2 hts gL_law_L_cell rfl rfl rfl (by decide +kernel) ⟨Nat.le_of_ble_eq_true rfl, Nat.le_of_ble_eq_true rfl⟩) ⟨p1_blind, p1_pre hX hbl hbA hG.2.2⟩ rfl rfl hl.1 rfl (lv_room (Nat.le_of_ble_eq_true rfl)) dL_law_1091 ⟨Nat.le_trans (by omega) hcs.1, Nat.le_trans (by omega) hcs.2⟩) (fun r9 H locs hp hG => ?_)
          rw [hp]
          clear hp
          refine r_nm (fun v4 ev4 => ?_)
          have hrv4 := cvF_r xs L (k := t + 1) (by omega)
          rw [← ev4] at hrv4
          refine lv_i2l (v := lI (v4)) hx hb dL_law_1094 (lI_i2l (by omega) (by omega)) ?_
          refine lv_ldc2 hx hb hown L_105 dL_law_1095 ?_
          refine lv_lmul hx hb dL_law_1098 ?_
          refine r_asL (y := (lI (v4)) * (2654435761)) (by rfl) ?_
          refine lv_lxor hx hb dL_law_1099 ?_
          obtain ⟨vec, hvec, hv9⟩ := lN_ex ((lI (w) <<< ((iI (32)).toInt64 &&& 63)) ^^^ ((lI (v4)) * (2654435761)))
          refine r_asL (y := lN vec) hv9 ?_
          refine lv_lstore (lv' := [(18, .long (lN vec)), (17, .int (iI (((k : Nat) : Int)))), (7, .int (iI (1))), (8, .int (iI (dd))), (9, .int (iI (mm))), (10, .int (iI (((t : Nat) : Int)))), (11, .int (iI (w))), (14, .int (iI (tl))), (0, .ref (b)), (1, .ref (ad 21)), (2, .int (iI (v))), (3, .ref (ad 19)), (4, .ref (ad 20)), (5, .ref (ad 31)), (6, .ref (ad 32))]) hx hb dL_law_1100 hl (by decide) rfl (fun ls hl => ?_)
          refine lv_iload hx hb dL_law_1102 (lv_at hl 6 rfl) ?_
          refine lv_bipush (v := iI (8)) hx hb dL_law_1104 (by decide +kernel) ?_
          refine r_as (y := ((8 : Nat) : Int)) (by omega) ?_
          refine r_ishr hx hb (by omega) (by omega) dL_law_1106 ?_
          refine r_nm (fun v5 ev5 => ?_)
          refine lv_aload hx hb dL_law_1107 (lv_at hl 12 rfl) ?_
          refine lv_iload hx hb dL_law_1109 (lv_at hl 1 rfl) ?_
          refine g_iald hx hb hK hG (20) (kd := 20) (o := 0) rfl rfl (by omega) (cp := 81) (ln := 2) rfl rfl (by omega) dL_law_1111 ?_
          refine r_nm (fun v6 ev6 => ?_)
          have ho8 : v6 = stb 61 k 0 := by rw [ev6]; exact h81
          refine gp_goi hG (va_runS (As := [.int (iI (v5)), .int (iI (v6))]) (rest := []) ⟨hx, hb, hml, hown, hts⟩ (mL_low l (v5) (v6) (by omega) (by omega)) (va_cwS 2 hts gL_law_L_low rfl rfl rfl (by decide +kernel) ⟨Nat.le_of_ble_eq_true rfl, Nat.le_of_ble_eq_true rfl⟩) ⟨p0_blind, p0_pre⟩ rfl rfl hl.1 rfl (lv_room (Nat.le_of_ble_eq_true rfl)) dL_law_1112 ⟨Nat.le_trans (by omega) hcs.1, Nat.le_trans (by omega) hcs.2⟩) (fun r9 H locs hp hG => ?_)
          rw [hp]
          clear hp
          refine r_nm (fun v7 ev7 => ?_)
          have hr8 := @lowF_r ((v5)) ((v6)) (by omega)
          rw [← ev7] at hr8
          refine lv_istore (lv' := [(20, .int (iI (v7))), (18, .long (lN vec)), (17, .int (iI (((k : Nat) : Int)))), (7, .int (iI (1))), (8, .int (iI (dd))), (9, .int (iI (mm))), (10, .int (iI (((t : Nat) : Int)))), (11, .int (iI (w))), (14, .int (iI (tl))), (0, .ref (b)), (1, .ref (ad 21)), (2, .int (iI (v))), (3, .ref (ad 19)), (4, .ref (ad 20)), (5, .ref (ad 31)), (6, .ref (ad 32))]) hx hb dL_law_1115 hl (by decide) rfl (fun ls hl => ?_)
          refine lv_aload_n hx hb dL_law_1117 rfl (lv_at hl 10 rfl) ?_
          refine lv_iload hx hb dL_law_1118 (lv_at hl 2 rfl) ?_
          refine lv_lload hx hb dL_law_1120 (lv_at hl 1 rfl) ?_
          refine lv_iload hx hb dL_law_1122 (lv_at hl 0 rfl) ?_
          obtain ⟨o9, ho9⟩ : ∃ z9 : Int, z9 = (v7) := ⟨_, rfl⟩
          have ho9r : 0 ≤ o9 ∧ o9 < stb 16 0 ((k : Nat) : Int) := by omega
          have hka := kAns_s stb ((k : Nat) : Int) (v7)
          refine g_goi hG hA (va_runV (As := [.int (iI (((k : Nat) : Int))), .long (lN vec), .int (iI (v7))]) (rest := []) ⟨hx, hb, hml, hown, hts⟩ (pX5_answer l D cy ad n stb _ fz _ hn hI (by omega) (((k : Nat) : Int)) vec (v7) (by omega) (by omega) hlf hnl hR (by omega) (by omega)) (cwV 3 hts gL_law_X5_answer rfl rfl rfl (by decide +kernel) ⟨Nat.le_of_ble_eq_true rfl, Nat.le_of_ble_eq_true rfl⟩) ⟨g_blind, va_recv hK hG.1 (q0 := 21 - 19) (ci := 5) rfl ((gw_at (k := 21) (by omega)).trans (by rw [gC_21 stb ad cy])), g_pre hK hG hA hN hZ⟩ rfl rfl hl.1 rfl (lv_room (Nat.le_of_ble_eq_true rfl)) dL_law_1124 ⟨Nat.le_trans (by omega) hcs.1, Nat.le_trans (by omega) hcs.2⟩) (fun r9 s9 H locs hp hG => ?_)
          obtain ⟨rfl, hs9⟩ := hp
          rw [hs9] at hG
          clear hs9
          refine r_nm (fun v9 ev9 => ?_)
          have han : v9 = ansU stb ((k : Nat) : Int) o9 vec 8 := by rw [ev9, ho9]
          have har := ansU_b hI ((k : Nat) : Int) o9 vec
          refine lv_aload_n hx hb dL_law_1127 rfl (lv_at hl 10 rfl) ?_
          refine lv_iload hx hb dL_law_1128 (lv_at hl 2 rfl) ?_
          refine lv_lload hx hb dL_law_1130 (lv_at hl 1 rfl) ?_
          refine lv_iload hx hb dL_law_1132 (lv_at hl 0 rfl) ?_
          have hki := kIdl_s stb ((k : Nat) : Int) (v7)
          refine g_goi hG hA (va_runV (As := [.int (iI (((k : Nat) : Int))), .long (lN vec), .int (iI (v7))]) (rest := [.int (iI (v9))]) ⟨hx, hb, hml, hown, hts⟩ (pX5_ideal l D cy ad n stb _ fz _ hn hI (by omega) (((k : Nat) : Int)) vec (v7) (by omega) (by omega) hlf hnl hR (by omega) (by omega)) (cwV 3 hts gL_law_X5_ideal rfl rfl rfl (by decide +kernel) ⟨Nat.le_of_ble_eq_true rfl, Nat.le_of_ble_eq_true rfl⟩) ⟨g_blind, va_recv hK hG.1 (q0 := 21 - 19) (ci := 5) rfl ((gw_at (k := 21) (by omega)).trans (by rw [gC_21 stb ad cy])), g_pre hK hG hA hN hZ⟩ rfl rfl hl.1 rfl (lv_room (Nat.le_of_ble_eq_true rfl)) dL_law_1134 ⟨Nat.le_trans (by omega) hcs.1, Nat.le_trans (by omega) hcs.2⟩) (fun r9 s9 H locs hp hG => ?_)
          obtain ⟨rfl, hs9⟩ := hp
          rw [hs9] at hG
          clear hs9
          refine r_nm (fun v10 ev10 => ?_)
          have hid : v10 = idU stb ((k : Nat) : Int) o9 vec (stb 15 0 ((k : Nat) : Int)).toNat := by rw [ev10, ho9]
          have hidr := idU_b hI ((k : Nat) : Int) o9 vec (stb 15 0 ((k : Nat) : Int)).toNat
          refine r_isub hx hb dL_law_1137 ?_
          refine r_nm (fun v11 ev11 => ?_)
          refine lv_istore (lv' := [(21, .int (iI (v11))), (20, .int (iI (v7))), (18, .long (lN vec)), (17, .int (iI (((k : Nat) : Int)))), (7, .int (iI (1))), (8, .int (iI (dd))), (9, .int (iI (mm))), (10, .int (iI (((t : Nat) : Int)))), (11, .int (iI (w))), (14, .int (iI (tl))), (0, .ref (b)), (1, .ref (ad 21)), (2, .int (iI (v))), (3, .ref (ad 19)), (4, .ref (ad 20)), (5, .ref (ad 31)), (6, .ref (ad 32))]) hx hb dL_law_1138 hl (by decide) rfl (fun ls hl => ?_)
          have hlab1177 : ∀  (H : Heap) (locs : List Loc) (ls : Array Slot),  GH D cy ad n stb A s.heap H locs → lv_has ls 22 [(20, .int (iI (v7))), (18, .long (lN vec)), (17, .int (iI (((k : Nat) : Int)))), (7, .int (iI (1))), (8, .int (iI (dd))), (9, .int (iI (mm))), (10, .int (iI (((t : Nat) : Int)))), (11, .int (iI (w))), (14, .int (iI (tl))), (0, .ref (b)), (1, .ref (ad 21)), (2, .int (iI (v))), (3, .ref (ad 19)), (4, .ref (ad 20)), (5, .ref (ad 31)), (6, .ref (ad 32))] → W p l e room_1 s m #[Value.ref b] below meth c H locs (cells + 60 * k + 20) (slots + 360 * k + 120) Q (F0 m 1177 ls []) := by
            intro  H locs ls  hG hl
            refine lv_iconst (v := iI (1)) hx hb dL_law_1177 rfl ?_
            refine lv_goto (tgt := 1182) hx hb dL_law_1178 (by decide) ?_
            refine lv_istore (lv' := [(7, .int (iI (1))), (20, .int (iI (v7))), (18, .long (lN vec)), (17, .int (iI (((k : Nat) : Int)))), (8, .int (iI (dd))), (9, .int (iI (mm))), (10, .int (iI (((t : Nat) : Int)))), (11, .int (iI (w))), (14, .int (iI (tl))), (0, .ref (b)), (1, .ref (ad 21)), (2, .int (iI (v))), (3, .ref (ad 19)), (4, .ref (ad 20)), (5, .ref (ad 31)), (6, .ref (ad 32))]) hx hb dL_law_1182 hl (by decide) rfl (fun ls hl => ?_)
            refine lv_iload hx hb dL_law_1184 (lv_at hl 0 rfl) ?_
            refine r_if_eq (tgt := 1253) hx hb (by omega) dL_law_1186 (by decide) (fun c12 => ?_) (fun c12 => ?_)
            · skip
              exact absurd c12 (by omega)
            · skip
              have hlab1216 : ∀  (stc : St) (H : Heap) (locs : List Loc) (ls : Array Slot), (JS wb stc) → (stc 31 0 0 = dd) → (stc 30 0 0 = st 30 0 0) → GI wb stc → GH D cy ad n stc A s.heap H locs → lv_has ls 22 [(7, .int (iI (1))), (20, .int (iI (v7))), (18, .long (lN vec)), (17, .int (iI (((k : Nat) : Int)))), (8, .int (iI (dd))), (9, .int (iI (mm))), (10, .int (iI (((t : Nat) : Int)))), (11, .int (iI (w))), (14, .int (iI (tl))), (0, .ref (b)), (1, .ref (ad 21)), (2, .int (iI (v))), (3, .ref (ad 19)), (4, .ref (ad 20)), (5, .ref (ad 31)), (6, .ref (ad 32))] → W p l e room_1 s m #[Value.ref b] below meth c H locs (cells + 60 * k + 30) (slots + 360 * k + 180) Q (F0 m 1216 ls []) := by
                intro  stc H locs ls hJc hdc hnc hI hG hl
                have hR := hJc.2.1
                have hnl : (n : Int) = 75 + 3 * stc 33 0 0 := by have := hJc.2.2.1.1.1; omega
                obtain ⟨⟨j14, j33⟩, -⟩ := JS_a hJc hk2
                refine lv_aload_n hx hb dL_law_1216 rfl (lv_at hl 10 rfl) ?_
                refine lv_iload hx hb dL_law_1217 (lv_at hl 3 rfl) ?_
                refine lv_iconst (v := iI (1)) hx hb dL_law_1219 rfl ?_
                refine lv_iload hx hb dL_law_1220 (lv_at hl 7 rfl) ?_
                refine lv_bipush (v := iI (9)) hx hb dL_law_1222 (by decide +kernel) ?_
                refine gp_goi hG (va_runS (As := [.int (iI (w)), .int (iI (9))]) (rest := [.int (iI (1)), .int (iI (((k : Nat) : Int))), .ref (ad 21)]) ⟨hx, hb, hml, hown, hts⟩ (mL_low l (w) (9) (by omega) (by omega)) (va_cwS 2 hts gL_law_L_low rfl rfl rfl (by decide +kernel) ⟨Nat.le_of_ble_eq_true rfl, Nat.le_of_ble_eq_true rfl⟩) ⟨p0_blind, p0_pre⟩ rfl rfl hl.1 rfl (lv_room (Nat.le_of_ble_eq_true rfl)) dL_law_1224 ⟨Nat.le_trans (by omega) hcs.1, Nat.le_trans (by omega) hcs.2⟩) (fun r9 H locs hp hG => ?_)
                rw [hp]
                clear hp
                refine r_nm (fun v13 ev13 => ?_)
                have hr14 := @lowF_r ((w)) ((9)) (by omega)
                rw [← ev13] at hr14
                have hl1 : v13 = lowF (w) 9 := ev13
                refine r_iadd hx hb dL_law_1227 ?_
                refine r_nm (fun v15 ev15 => ?_)
                have hkp := kPipe_s stc ((k : Nat) : Int) (v15)
                have hch := chP_J hJc hk2
                refine g_goi hG hA (va_runV (As := [.int (iI (((k : Nat) : Int))), .int (iI (v15))]) (rest := []) ⟨hx, hb, hml, hown, hts⟩ (pX5_cycles l D cy ad n stc _ fz _ hn hI (by omega) (((k : Nat) : Int)) (v15) (by omega) (by omega) hlf hnl hR (by omega)) (cwV 2 hts gL_law_X5_cycles rfl rfl rfl (by decide +kernel) ⟨Nat.le_of_ble_eq_true rfl, Nat.le_of_ble_eq_true rfl⟩) ⟨g_blind, va_recv hK hG.1 (q0 := 21 - 19) (ci := 5) rfl ((gw_at (k := 21) (by omega)).trans (by rw [gC_21 stc ad cy])), g_pre hK hG hA hN hZ⟩ rfl rfl hl.1 rfl (lv_room (Nat.le_of_ble_eq_true rfl)) dL_law_1228 ⟨Nat.le_trans (by omega) hcs.1, Nat.le_trans (by omega) hcs.2⟩) (fun r9 st16 H locs hp hG => ?_)
                obtain ⟨-, ⟨rfl, tf9, sg9, hs9⟩, hI9⟩ := hp
                obtain ⟨stf, hstf⟩ : ∃ z9 : St, z9 = st16 := ⟨_, rfl⟩
                rw [← hstf] at hG hs9 hI9
                have hs5 : stf = setT stc tf9 sg9 := hs9
                have hJ5 : JS wb stf := JS_fr (fun c9 o9 i9 h9 => by rw [hs5]; exact setT_c _ _ _ (by omega)) hJc hI9
                replace hI := hI9
                replace hR := hJ5.2.1
                replace hnl : (n : Int) = 75 + 3 * stf 33 0 0 := by have := hJ5.2.2.1.1.1; omega
                refine r_nm (fun v17 ev17 => ?_)
                refine lv_aload_n hx hb dL_law_1231 rfl (lv_at hl 10 rfl) ?_
                refine lv_iload hx hb dL_law_1232 (lv_at hl 3 rfl) ?_
                refine lv_iconst (v := iI (1)) hx hb dL_law_1234 rfl ?_
                refine lv_iload hx hb dL_law_1235 (lv_at hl 7 rfl) ?_
                refine lv_bipush (v := iI (9)) hx hb dL_law_1237 (by decide +kernel) ?_
                refine gp_goi hG (va_runS (As := [.int (iI (w)), .int (iI (9))]) (rest := [.int (iI (1)), .int (iI (((k : Nat) : Int))), .ref (ad 21), .int (iI (v17))]) ⟨hx, hb, hml, hown, hts⟩ (mL_low l (w) (9) (by omega) (by omega)) (va_cwS 2 hts gL_law_L_low rfl rfl rfl (by decide +kernel) ⟨Nat.le_of_ble_eq_true rfl, Nat.le_of_ble_eq_true rfl⟩) ⟨p0_blind, p0_pre⟩ rfl rfl hl.1 rfl (lv_room (Nat.le_of_ble_eq_true rfl)) dL_law_1239 ⟨Nat.le_trans (by omega) hcs.1, Nat.le_trans (by omega) hcs.2⟩) (fun r9 H locs hp hG => ?_)
                rw [hp]
                clear hp
                refine r_nm (fun v18 ev18 => ?_)
                have hr19 := @lowF_r ((w)) ((9)) (by omega)
                rw [← ev18] at hr19
                have hl2 : v18 = lowF (w) 9 := ev18
                refine r_iadd hx hb dL_law_1242 ?_
                refine r_nm (fun v20 ev20 => ?_)
                have hkp2 := kPipe_s stf ((k : Nat) : Int) (v20)
                have hch2 := chP_J hJ5 hk2
                have z14 : stf 14 0 0 = 2 := by rw [hs5, setT_c _ _ _ (by decide)]; exact j14
                refine g_goi hG hA (va_runV (As := [.int (iI (((k : Nat) : Int))), .int (iI (v20))]) (rest := [.int (iI (v17))]) ⟨hx, hb, hml, hown, hts⟩ (pX5_cyclesAnew l D cy ad n stf _ fz _ hn hI (by omega) (((k : Nat) : Int)) (v20) (by omega) (by omega) hlf hnl hR (by omega)) (cwV 2 hts gL_law_X5_cyclesAnew rfl rfl rfl (by decide +kernel) ⟨Nat.le_of_ble_eq_true rfl, Nat.le_of_ble_eq_true rfl⟩) ⟨g_blind, va_recv hK hG.1 (q0 := 21 - 19) (ci := 5) rfl ((gw_at (k := 21) (by omega)).trans (by rw [gC_21 stf ad cy])), g_pre hK hG hA hN hZ⟩ rfl rfl hl.1 rfl (lv_room (Nat.le_of_ble_eq_true rfl)) dL_law_1243 ⟨Nat.le_trans (by omega) hcs.1, Nat.le_trans (by omega) hcs.2⟩) (fun r9 st21 H locs hp hG => ?_)
                obtain ⟨-, ⟨rfl, tf9, sg9, lf9, hs9⟩, hI9⟩ := hp
                obtain ⟨stg, hstg⟩ : ∃ z9 : St, z9 = st21 := ⟨_, rfl⟩
                rw [← hstg] at hG hs9 hI9
                have hs6 : stg = setP (setT stf tf9 sg9) lf9 := hs9
                have hJ7 : JS wb stg := JS_fr (fun c9 o9 i9 h9 => by rw [hs6, setP_c _ _ (by omega)]; exact setT_c _ _ _ (by omega)) hJ5 hI9
                have hd7 : stg 31 0 0 = dd := by rw [hs6, setP_c _ _ (by decide), setT_c _ _ _ (by decide), hs5, setT_c _ _ _ (by decide)]; exact hdc
                have hn7 : stg 30 0 0 = st 30 0 0 := by rw [hs6, setP_c _ _ (by decide), setT_c _ _ _ (by decide), hs5, setT_c _ _ _ (by decide)]; exact hnc
                replace hI := hI9
                have hww : (v20) = 1 + lowF (w) 9 := by omega
                have hce : ∀ x9 : Int, aCyc stf ((k : Nat) : Int) x9 = aCyc stc ((k : Nat) : Int) x9 := fun x9 => aCyc_cg (fun c9 o9 i9 h9 => by rw [hs5]; exact setT_c _ _ _ (by omega)) _ _
                refine r_nm (fun v22 ev22 => ?_)
                rw [hce] at ev22
                refine lv_icmp_ne (tgt := 1253) hx hb dL_law_1246 (by decide) (fun z9 => absurd (congrArg iI (show v17 = v22 by rw [ev17, ev22]; congr 1; omega)) z9) (fun _ => ?_)
                refine lv_iconst (v := iI (1)) hx hb dL_law_1249 rfl ?_
                refine lv_goto (tgt := 1254) hx hb dL_law_1250 (by decide) ?_
                refine lv_istore (lv' := [(7, .int (iI (1))), (20, .int (iI (v7))), (18, .long (lN vec)), (17, .int (iI (((k : Nat) : Int)))), (8, .int (iI (dd))), (9, .int (iI (mm))), (10, .int (iI (((t : Nat) : Int)))), (11, .int (iI (w))), (14, .int (iI (tl))), (0, .ref (b)), (1, .ref (ad 21)), (2, .int (iI (v))), (3, .ref (ad 19)), (4, .ref (ad 20)), (5, .ref (ad 31)), (6, .ref (ad 32))]) hx hb dL_law_1254 hl (by decide) rfl (fun ls hl => ?_)
                obtain ⟨v23, ev23⟩ : ∃ y9 : Int, y9 = ((k : Nat) : Int) + (1) := ⟨_, rfl⟩
                refine lv_iinc (v := iI v23) (lv' := [(17, .int (iI (v23))), (7, .int (iI (1))), (20, .int (iI (v7))), (18, .long (lN vec)), (8, .int (iI (dd))), (9, .int (iI (mm))), (10, .int (iI (((t : Nat) : Int)))), (11, .int (iI (w))), (14, .int (iI (tl))), (0, .ref (b)), (1, .ref (ad 21)), (2, .int (iI (v))), (3, .ref (ad 19)), (4, .ref (ad 20)), (5, .ref (ad 31)), (6, .ref (ad 32))]) hx hb dL_law_1256 hl (k := 3) rfl (by rw [ev23]; exact iI_add _ _) (by decide) rfl (fun ls hl => ?_)
                refine lv_goto (tgt := 1069) hx hb dL_law_1259 (by decide) ?_
                refine W.widen (k := cells + 60 * (k + 1)) (n := slots + 360 * (k + 1)) (by omega) (by omega) ?_
                rw [show (v23 : Int) = (((k + 1) : Nat) : Int) from by omega] at hl
                exact ih1069  (k + 1) stg _ _ _ (by omega) (by omega) (by exact hJ7) (by exact hd7) (by exact hn7) hI hG (lv_sub hl [0, 1, 4, 5, 6, 7, 8, 9, 10, 11, 12, 13, 14, 15] rfl)
              refine lv_aload_n hx hb dL_law_1189 rfl (lv_at hl 12 rfl) ?_
              refine lv_iload hx hb dL_law_1190 (lv_at hl 3 rfl) ?_
              refine g_iald hx hb hK hG (19) (kd := 19) (o := 0) rfl rfl (by omega) (cp := 80) (ln := 2) rfl rfl (by omega) dL_law_1192 ?_
              refine r_nm (fun v24 ev24 => ?_)
              refine lv_iconst (v := iI (4)) hx hb dL_law_1193 rfl ?_
              refine r_icmp_gt (tgt := 1216) hx hb (by omega) dL_law_1194 (by decide) (fun c25 => ?_) (fun c25 => ?_)
              · skip
                refine W.widen (k := cells + 60 * k + 30) (n := slots + 360 * k + 180) (by omega) (by omega) ?_
                exact hlab1216   stb _ _ _ (by first | exact hJb | exact hJ3) (by first | exact hdb | (rw [hs3, setW_c _ _ _ (by decide), hs2, setW_c _ _ _ (by decide)]; exact hdb)) (by first | exact hnb | (rw [hs3, setW_c _ _ _ (by decide), hs2, setW_c _ _ _ (by decide)]; exact hnb)) hI hG (lv_sub hl [0, 1, 2, 3, 4, 5, 6, 7, 8, 9, 10, 11, 12, 13, 14, 15] rfl)
              · skip
                refine lv_aload_n hx hb dL_law_1197 rfl (lv_at hl 10 rfl) ?_
                refine lv_iload hx hb dL_law_1198 (lv_at hl 3 rfl) ?_
                refine lv_iload hx hb dL_law_1200 (lv_at hl 8 rfl) ?_
                have hkm := kMis_s stb ((k : Nat) : Int) tl
                refine g_goi hG hA (va_runV (As := [.int (iI (((k : Nat) : Int))), .int (iI (tl))]) (rest := []) ⟨hx, hb, hml, hown, hts⟩ (pX5_misfits l D cy ad n stb _ fz _ hn hI (by omega) (((k : Nat) : Int)) (tl) (by omega) (by omega) hlf hnl hR (by omega)) (cwV 2 hts gL_law_X5_misfits rfl rfl rfl (by decide +kernel) ⟨Nat.le_of_ble_eq_true rfl, Nat.le_of_ble_eq_true rfl⟩) ⟨g_blind, va_recv hK hG.1 (q0 := 21 - 19) (ci := 5) rfl ((gw_at (k := 21) (by omega)).trans (by rw [gC_21 stb ad cy])), g_pre hK hG hA hN hZ⟩ rfl rfl hl.1 rfl (lv_room (Nat.le_of_ble_eq_true rfl)) dL_law_1202 ⟨Nat.le_trans (by omega) hcs.1, Nat.le_trans (by omega) hcs.2⟩) (fun r9 st26 H locs hp hG => ?_)
                obtain ⟨-, ⟨rfl, cf9, ff9, hs9⟩, hI9⟩ := hp
                obtain ⟨std, hstd⟩ : ∃ z9 : St, z9 = st26 := ⟨_, rfl⟩
                rw [← hstd] at hG hs9 hI9
                have hs2 : std = setW stb cf9 ff9 := hs9
                have hJ2 : JS wb std := JS_fr (fun c9 o9 i9 h9 => by rw [hs2]; exact setW_c _ _ _ (by omega)) hJb hI9
                have hfr := fdV_r hI ((k : Nat) : Int) tl
                replace hI := hI9
                replace hR := hJ2.2.1
                replace hnl : (n : Int) = 75 + 3 * std 33 0 0 := by have := hJ2.2.2.1.1.1; omega
                have u14 : std 14 0 0 = 2 := by rw [hs2, setW_c _ _ _ (by decide)]; exact h14
                have u15 : std 15 0 ((k : Nat) : Int) = stb 60 k 0 := by rw [hs2, setW_c _ _ _ (by decide)]; exact h15
                refine r_nm (fun v27 ev27 => ?_)
                refine lv_aload_n hx hb dL_law_1205 rfl (lv_at hl 10 rfl) ?_
                refine lv_iload hx hb dL_law_1206 (lv_at hl 3 rfl) ?_
                refine lv_iload hx hb dL_law_1208 (lv_at hl 8 rfl) ?_
                have hkma := kMisA_s std ((k : Nat) : Int) tl
                refine g_goi hG hA (va_runV (As := [.int (iI (((k : Nat) : Int))), .int (iI (tl))]) (rest := [.int (iI (v27))]) ⟨hx, hb, hml, hown, hts⟩ (pX5_misfitsAnew l D cy ad n std _ fz _ hn hI (by omega) (((k : Nat) : Int)) (tl) (by omega) (by omega) hlf hnl hR (by omega)) (cwV 2 hts gL_law_X5_misfitsAnew rfl rfl rfl (by decide +kernel) ⟨Nat.le_of_ble_eq_true rfl, Nat.le_of_ble_eq_true rfl⟩) ⟨g_blind, va_recv hK hG.1 (q0 := 21 - 19) (ci := 5) rfl ((gw_at (k := 21) (by omega)).trans (by rw [gC_21 std ad cy])), g_pre hK hG hA hN hZ⟩ rfl rfl hl.1 rfl (lv_room (Nat.le_of_ble_eq_true rfl)) dL_law_1210 ⟨Nat.le_trans (by omega) hcs.1, Nat.le_trans (by omega) hcs.2⟩) (fun r9 st28 H locs hp hG => ?_)
                obtain ⟨-, ⟨rfl, cf9, ff9, hs9⟩, hI9⟩ := hp
                obtain ⟨ste, hste⟩ : ∃ z9 : St, z9 = st28 := ⟨_, rfl⟩
                rw [← hste] at hG hs9 hI9
                have hs3 : ste = setW std cf9 ff9 := hs9
                have hJ3 : JS wb ste := JS_fr (fun c9 o9 i9 h9 => by rw [hs3]; exact setW_c _ _ _ (by omega)) hJ2 hI9
                replace hI := hI9
                replace hR := hJ3.2.1
                replace hnl : (n : Int) = 75 + 3 * ste 33 0 0 := by have := hJ3.2.2.1.1.1; omega
                refine r_nm (fun v29 ev29 => ?_)
                have hfe : fdV std ((k : Nat) : Int) tl = fdV stb ((k : Nat) : Int) tl := fdV_cg (fun c9 o9 i9 h9 => by rw [hs2]; exact setW_c _ _ _ (by omega)) _ _
                refine r_icmp_ne (tgt := 1253) hx hb (by omega) dL_law_1213 (by decide) (fun c30 => ?_) (fun c30 => ?_)
                · skip
                  exact absurd c30 (by omega)
                · skip
                  refine W.widen (k := cells + 60 * k + 30) (n := slots + 360 * k + 180) (by omega) (by omega) ?_
                  exact hlab1216   ste _ _ _ (by first | exact hJb | exact hJ3) (by first | exact hdb | (rw [hs3, setW_c _ _ _ (by decide), hs2, setW_c _ _ _ (by decide)]; exact hdb)) (by first | exact hnb | (rw [hs3, setW_c _ _ _ (by decide), hs2, setW_c _ _ _ (by decide)]; exact hnb)) hI hG (lv_sub hl [0, 1, 2, 3, 4, 5, 6, 7, 8, 9, 10, 11, 12, 13, 14, 15] rfl)
          refine lv_aload_n hx hb dL_law_1140 rfl (lv_at hl 11 rfl) ?_
          refine lv_iload hx hb dL_law_1141 (lv_at hl 3 rfl) ?_
          have hkl := kLay_s stb ((k : Nat) : Int)
          refine g_goi hG hA (va_runV (As := [.int (iI (((k : Nat) : Int)))]) (rest := []) ⟨hx, hb, hml, hown, hts⟩ (pX5_isTrue l D cy ad n stb _ fz _ hn hI (by omega) (((k : Nat) : Int)) (by omega) hlf hnl hR (by omega)) (cwV 1 hts gL_law_X5_isTrue rfl rfl rfl (by decide +kernel) ⟨Nat.le_of_ble_eq_true rfl, Nat.le_of_ble_eq_true rfl⟩) ⟨g_blind, va_recv hK hG.1 (q0 := 21 - 19) (ci := 5) rfl ((gw_at (k := 21) (by omega)).trans (by rw [gC_21 stb ad cy])), g_pre hK hG hA hN hZ⟩ rfl rfl hl.1 rfl (lv_room (Nat.le_of_ble_eq_true rfl)) dL_law_1143 ⟨Nat.le_trans (by omega) hcs.1, Nat.le_trans (by omega) hcs.2⟩) (fun r9 s9 H locs hp hG => ?_)
          obtain ⟨rfl, hs9⟩ := hp
          rw [hs9] at hG
          clear hs9
          refine r_nm (fun v31 ev31 => ?_)
          have htv : v31 = trU stb ((k : Nat) : Int) (16 * (stb 15 0 ((k : Nat) : Int)).toNat) := by rw [ev31, if_neg (by omega)]
          have h01 := trU_r stb ((k : Nat) : Int) (16 * (stb 15 0 ((k : Nat) : Int)).toNat)
          refine r_if_eq (tgt := 1177) hx hb (by omega) dL_law_1146 (by decide) (fun c32 => ?_) (fun c32 => ?_)
          · skip
            refine W.widen (k := cells + 60 * k + 20) (n := slots + 360 * k + 120) (by omega) (by omega) ?_
            exact hlab1177   _ _ _  hG (lv_sub hl [1, 2, 3, 4, 5, 6, 7, 8, 9, 10, 11, 12, 13, 14, 15, 16] rfl)
          · skip
            refine lv_aload_n hx hb dL_law_1149 rfl (lv_at hl 11 rfl) ?_
            refine lv_iload hx hb dL_law_1150 (lv_at hl 3 rfl) ?_
            refine lv_iload hx hb dL_law_1152 (lv_at hl 1 rfl) ?_
            refine lv_iconst (v := iI (0)) hx hb dL_law_1154 rfl ?_
            have hka2 := kAns_s stb ((k : Nat) : Int) (v7)
            have htr1 : trU stb ((k : Nat) : Int) (16 * (stb 15 0 ((k : Nat) : Int)).toNat) = 1 := by omega
            have hbk := bound_ok hI ho9r htr1 vec
            have hq00 := errF_r hI ((k : Nat) : Int) o9 0 0
            have hq01 := errF_r hI ((k : Nat) : Int) o9 0 1
            have hq10 := errF_r hI ((k : Nat) : Int) o9 1 0
            have hq11 := errF_r hI ((k : Nat) : Int) o9 1 1
            have hq20 := errF_r hI ((k : Nat) : Int) o9 2 0
            have hq21 := errF_r hI ((k : Nat) : Int) o9 2 1
            have hq30 := errF_r hI ((k : Nat) : Int) o9 3 0
            have hq31 := errF_r hI ((k : Nat) : Int) o9 3 1
            refine g_goi hG hA (va_runV (As := [.int (iI (((k : Nat) : Int))), .int (iI (v7)), .int (iI (0))]) (rest := []) ⟨hx, hb, hml, hown, hts⟩ (pX5_bound l D cy ad n stb _ fz _ hn hI (by omega) (((k : Nat) : Int)) (v7) (0) (by omega) (by omega) (by omega) hlf hnl hR (by omega) (by omega)) (cwV 3 hts gL_law_X5_bound rfl rfl rfl (by decide +kernel) ⟨Nat.le_of_ble_eq_true rfl, Nat.le_of_ble_eq_true rfl⟩) ⟨g_blind, va_recv hK hG.1 (q0 := 21 - 19) (ci := 5) rfl ((gw_at (k := 21) (by omega)).trans (by rw [gC_21 stb ad cy])), g_pre hK hG hA hN hZ⟩ rfl rfl hl.1 rfl (lv_room (Nat.le_of_ble_eq_true rfl)) dL_law_1155 ⟨Nat.le_trans (by omega) hcs.1, Nat.le_trans (by omega) hcs.2⟩) (fun r9 s9 H locs hp hG => ?_)
            obtain ⟨rfl, hs9⟩ := hp
            rw [hs9] at hG
            clear hs9
            refine r_nm (fun v33 ev33 => ?_)
            have hlo : v33 = 255 * (errF stb ((k : Nat) : Int) o9 0 0 + 16 * errF stb ((k : Nat) : Int) o9 1 0 - (errF stb ((k : Nat) : Int) o9 2 (1 - 0) + 16 * errF stb ((k : Nat) : Int) o9 3 (1 - 0))) := by rw [ev33, ho9]
            rw [show (1 : Int) - 0 = 1 from rfl] at hlo
            rw [show (1 : Int) - 0 = 1 from rfl, show (1 : Int) - 1 = 0 from rfl] at hbk
            refine lv_iload hx hb dL_law_1158 (lv_at hl 0 rfl) ?_
            refine r_icmp_gt (tgt := 1181) hx hb (by omega) dL_law_1160 (by decide) (fun c34 => ?_) (fun c34 => ?_)
            · skip
              exact absurd c34 (by omega)
            · skip
              refine lv_iload hx hb dL_law_1163 (lv_at hl 0 rfl) ?_
              refine lv_aload_n hx hb dL_law_1165 rfl (lv_at hl 11 rfl) ?_
              refine lv_iload hx hb dL_law_1166 (lv_at hl 3 rfl) ?_
              refine lv_iload hx hb dL_law_1168 (lv_at hl 1 rfl) ?_
              refine lv_iconst (v := iI (1)) hx hb dL_law_1170 rfl ?_
              refine g_goi hG hA (va_runV (As := [.int (iI (((k : Nat) : Int))), .int (iI (v7)), .int (iI (1))]) (rest := [.int (iI (v11))]) ⟨hx, hb, hml, hown, hts⟩ (pX5_bound l D cy ad n stb _ fz _ hn hI (by omega) (((k : Nat) : Int)) (v7) (1) (by omega) (by omega) (by omega) hlf hnl hR (by omega) (by omega)) (cwV 3 hts gL_law_X5_bound rfl rfl rfl (by decide +kernel) ⟨Nat.le_of_ble_eq_true rfl, Nat.le_of_ble_eq_true rfl⟩) ⟨g_blind, va_recv hK hG.1 (q0 := 21 - 19) (ci := 5) rfl ((gw_at (k := 21) (by omega)).trans (by rw [gC_21 stb ad cy])), g_pre hK hG hA hN hZ⟩ rfl rfl hl.1 rfl (lv_room (Nat.le_of_ble_eq_true rfl)) dL_law_1171 ⟨Nat.le_trans (by omega) hcs.1, Nat.le_trans (by omega) hcs.2⟩) (fun r9 s9 H locs hp hG => ?_)
              obtain ⟨rfl, hs9⟩ := hp
              rw [hs9] at hG
              clear hs9
              refine r_nm (fun v35 ev35 => ?_)
              have hhi : v35 = 255 * (errF stb ((k : Nat) : Int) o9 0 1 + 16 * errF stb ((k : Nat) : Int) o9 1 1 - (errF stb ((k : Nat) : Int) o9 2 (1 - 1) + 16 * errF stb ((k : Nat) : Int) o9 3 (1 - 1))) := by rw [ev35, ho9]
              rw [show (1 : Int) - 1 = 0 from rfl] at hhi
              refine r_icmp_gt (tgt := 1181) hx hb (by omega) dL_law_1174 (by decide) (fun c36 => ?_) (fun c36 => ?_)
              · skip
                exact absurd c36 (by omega)
              · skip
                refine W.widen (k := cells + 60 * k + 20) (n := slots + 360 * k + 120) (by omega) (by omega) ?_
                exact hlab1177   _ _ _  hG (lv_sub hl [1, 2, 3, 4, 5, 6, 7, 8, 9, 10, 11, 12, 13, 14, 15, 16] rfl)
  refine W.widen (k := cells + 60 * 0) (n := slots + 360 * 0) (by omega) (by omega) ?_
  exact hloop1069 _  (0) st _ _ _ (Nat.lt_succ_self _) (by omega) (by exact hJ) (by exact hdd) (by rfl) hI hG (lv_sub hl [0, 1, 2, 3, 4, 5, 6, 7, 8, 9, 10, 11, 12, 13] rfl)
