set_option maxHeartbeats 1000000 in
set_option maxRecDepth 100000 in
theorem lb_s3 {p : Program} {l : Launch} {e : Env} {s : State} {m : MethodId} {below : List Frame} {meth : Method} {c : Code} {b L : Nat} {xs : Nat → Int32} {D : va_G} {cy : Nat → ClassId} {fz : Nat} {A : Nat → Prop} {H : Heap} {locs : List Loc} {cells slots : Nat} {Q : State → Prop} {ls : Array Slot} {ad : Nat → Nat} {n : Nat} {st : St} (C : LC p l s m c b L xs D cy fz A) (hn81 : n = 81) (v i0 o0 i1 o1 : Int) (hv : -2147483648 ≤ v ∧ v < 2147483648) (hi0 : 1 ≤ i0 ∧ i0 ≤ 4) (hi1 : 1 ≤ i1 ∧ i1 ≤ 8 ∧ o0 ≤ i1) (hG : GH D cy ad n st A s.heap H locs) (hI : GI 0 st) (hR : RY st) (hz : ZI 2 [-1, -1] [-1, -1] [] st) (h60 : st 60 0 0 = i0 ∧ st 60 1 0 = i1 ∧ st 61 0 0 = o0 ∧ st 61 1 0 = o1) (h80 : st 80 0 0 = i0 ∧ st 80 0 1 = i1 ∧ st 81 0 0 = o0 ∧ st 81 0 1 = o1) (h82 : st 82 0 0 = 0 ∧ st 82 0 1 = 1) (h83 : ∀ j : Int, st 83 0 j = 0) (hl : lv_has ls 22 [(0, .ref b), (1, .ref (ad 21)), (2, .int (iI v)), (3, .ref (ad 19)), (4, .ref (ad 20)), (5, .ref (ad 31)), (6, .ref (ad 32))]) (hcs : cells + 100 ≤ room_1.cells ∧ slots + 600 ≤ room_1.slots) (KK : ∀ (st' : St) (mm : Int) (H : Heap) (locs : List Loc) (ls : Array Slot), (0 ≤ mm ∧ mm ≤ 40) → GH D cy ad n st' A s.heap H locs → JS (4096 + 2048 * ((1 : Nat) : Int)) st' → st' 31 0 0 = 0 → st' 30 0 0 = 0 → lv_has ls 22 (llB b ad v 0 mm 1) → W p l e room_1 s m #[Value.ref b] below meth c H locs (cells + 100) (slots + 600) Q (F0 m 225 ls [])) : W p l e room_1 s m #[Value.ref b] below meth c H locs cells slots Q (F0 m 126 ls []) := by
  obtain ⟨hx, hb, hml, hown, hts, hX, hbl, hbA, hA, hK, hN, hZ, hlf, hL⟩ := C
  have hn : 75 ≤ n := by omega
  have h33 := hz.2.1
  have hnl : (n : Int) = 75 + 3 * st 33 0 0 := by omega
  refine lv_aload_n hx hb dL_law_126 rfl (lv_at hl 1 rfl) ?_
  refine lv_iconst (v := iI (0)) hx hb dL_law_127 rfl ?_
  refine lv_iconst (v := iI (1)) hx hb dL_law_128 rfl ?_
  have h14 : st 33 0 0 = st 14 0 0 := hR.1.1
  have q16 : st 61 0 0 = st 16 0 0 := (hR.2.1 0 (by omega)).2.1
  have q15 : st 60 1 0 = st 15 0 1 := (hR.2.1 1 (by omega)).1
  have hkn := kNext_s st 0 1
  refine g_goi hG hA (va_runV (As := [.int (iI (0)), .int (iI (1))]) (rest := []) ⟨hx, hb, hml, hown, hts⟩ (pX5_next l D cy ad n st _ fz _ hn hI (by omega) (0) (1) (by omega) (by omega) hlf hnl hR (by omega)) (cwV 2 hts gL_law_X5_next rfl rfl rfl (by decide +kernel) ⟨Nat.le_of_ble_eq_true rfl, Nat.le_of_ble_eq_true rfl⟩) ⟨g_blind, va_recv hK hG.1 (q0 := 21 - 19) (ci := 5) rfl ((gw_at (k := 21) (by omega)).trans (by rw [gC_21 st ad cy])), g_pre hK hG hA hN hZ⟩ rfl rfl hl.1 rfl (lv_room (Nat.le_of_ble_eq_true rfl)) dL_law_129 ⟨Nat.le_trans (by omega) hcs.1, Nat.le_trans (by omega) hcs.2⟩) (fun r9 st1 H locs hp hG => ?_)
  obtain ⟨-, ⟨rfl, hs9⟩, hI9⟩ := hp
  have hs2 : st1 = ust st 65 0 0 1 := hs9
  obtain ⟨sta, hG, hI, hR, hzsta, hststa⟩ := z_go hG hI9 (by rw [hs2]; exact ZI_next hz) ZK_3
  have hnl : (n : Int) = 75 + 3 * sta 33 0 0 := by have := hzsta.2.1; omega
  refine r_nm (fun v2 ev2 => ?_)
  have hm1 : v2 = -1 := by rw [ev2]; exact (hz.2.2.2.2.1 0 (by decide)).1
  refine lv_iconst (v := iI (-1)) hx hb dL_law_132 rfl ?_
  refine r_icmp_ne (tgt := 140) hx hb (by omega) dL_law_133 (by decide) (fun c3 => ?_) (fun c3 => ?_)
  · skip
    exact absurd c3 (by omega)
  · skip
    refine lv_iconst (v := iI (1)) hx hb dL_law_136 rfl ?_
    refine lv_goto (tgt := 141) hx hb dL_law_137 (by decide) ?_
    refine lv_istore (lv' := [(7, .int (iI (1))), (0, .ref (b)), (1, .ref (ad 21)), (2, .int (iI (v))), (3, .ref (ad 19)), (4, .ref (ad 20)), (5, .ref (ad 31)), (6, .ref (ad 32))]) hx hb dL_law_141 hl (by decide) rfl (fun ls hl => ?_)
    refine lv_iload hx hb dL_law_143 (lv_at hl 0 rfl) ?_
    refine r_if_eq (tgt := 186) hx hb (by omega) dL_law_145 (by decide) (fun c4 => ?_) (fun c4 => ?_)
    · skip
      exact absurd c4 (by omega)
    · skip
      refine lv_aload_n hx hb dL_law_148 rfl (lv_at hl 2 rfl) ?_
      refine lv_iconst (v := iI (0)) hx hb dL_law_149 rfl ?_
      refine lv_iconst (v := iI (0)) hx hb dL_law_150 rfl ?_
      have h14 : sta 33 0 0 = sta 14 0 0 := hR.1.1
      have h33a : sta 33 0 0 = 2 := hzsta.2.1
      have q20 : sta 66 0 0 = sta 20 0 0 := (hR.2.1 0 (by omega)).2.2.2.2
      have q66 : sta 66 0 0 = -1 := (hzsta.2.2.2.2.1 0 (by decide)).2
      have q50 : sta 50 0 0 = 0 := hzsta.2.2.2.2.2 0 (by decide)
      have qp : (sta 50 0 0 = 0 ∧ lonF sta 0 (sta 14 0 0).toNat = -1) ∨ (sta 50 0 0 = 1 ∧ 0 ≤ lonF sta 0 (sta 14 0 0).toNat) := place_k hR (t := 0) (by decide)
      have hkp := kPlace_s sta 0 0
      have hzp := ZI_pl (P' := [0, -1]) (T' := [1]) (q := 0) (t := 0) hzsta (by decide) (by decide) (by decide)
      have hd0 := plC_d hI 0 0
      refine g_goi hG hA (va_runV (As := [.int (iI (0)), .int (iI (0))]) (rest := []) ⟨hx, hb, hml, hown, hts⟩ (pX5_place l D cy ad n sta _ fz _ hn hI (by omega) (0) (0) (by omega) (by omega) hlf hnl hR (by omega)) (cwV 2 hts gL_law_X5_place rfl rfl rfl (by decide +kernel) ⟨Nat.le_of_ble_eq_true rfl, Nat.le_of_ble_eq_true rfl⟩) ⟨g_blind, va_recv hK hG.1 (q0 := 21 - 19) (ci := 5) rfl ((gw_at (k := 21) (by omega)).trans (by rw [gC_21 sta ad cy])), g_pre hK hG hA hN hZ⟩ rfl rfl hl.1 rfl (lv_room (Nat.le_of_ble_eq_true rfl)) dL_law_151 ⟨Nat.le_trans (by omega) hcs.1, Nat.le_trans (by omega) hcs.2⟩) (fun r9 st5 H locs hp hG => ?_)
      obtain ⟨-, ⟨rfl, hs9⟩, hI9⟩ := hp
      have hs3 : st5 = ldCS (plC sta 0 0) 0 0 := hs9
      obtain ⟨stb, hG, hI, hR, hzstb, hststb⟩ := z_go hG hI9 (by rw [hs3]; exact hzp.1) ZK_4
      have hnl : (n : Int) = 75 + 3 * stb 33 0 0 := by have := hzstb.2.1; omega
      have hr0 : rowsD stb 0 := rowsD_cg (x := st5) (fun i9 => hststb 63 0 i9 (by decide)) (hststb 60 0 0 (by decide)) (by rw [hs3]; exact rowsD_ld hd0)
      have eb : ∀ (c o : Nat) (i : Int), (25 ≤ c ∧ c ≠ 34 ∧ c ≠ 35 ∧ c ≠ 50 ∧ c ≠ 63 ∧ c ≠ 66 ∧ c ≠ 65 ∧ ¬ (40 ≤ c ∧ c ≤ 44)) → stb c o i = st c o i := fun c9 o9 i9 h9 => by rw [hststb c9 o9 i9 (by omega), hs3, ld_c _ _ _ _ (by omega), plC_c sta 0 0 o9 i9 (by omega), hststa c9 o9 i9 (by omega), hs2, ust_c (by omega)]
      refine r_nm (fun v6 ev6 => ?_)
      have hm2 : v6 = 0 := by rw [ev6]; exact hzp.2
      refine r_if_ne (tgt := 186) hx hb (by omega) dL_law_154 (by decide) (fun c7 => ?_) (fun c7 => ?_)
      · skip
        exact absurd c7 (by omega)
      · skip
        refine lv_aload_n hx hb dL_law_157 rfl (lv_at hl 2 rfl) ?_
        refine lv_iconst (v := iI (1)) hx hb dL_law_158 rfl ?_
        refine lv_iconst (v := iI (1)) hx hb dL_law_159 rfl ?_
        have h14b : stb 33 0 0 = stb 14 0 0 := hR.1.1
        have h33b : stb 33 0 0 = 2 := hzstb.2.1
        have q20b : stb 66 1 0 = stb 20 0 1 := (hR.2.1 1 (by omega)).2.2.2.2
        have q66b : stb 66 1 0 = -1 := (hzstb.2.2.2.2.1 1 (by decide)).2
        have q50b : stb 50 1 0 = 0 := hzstb.2.2.2.2.2 1 (by decide)
        have qpb : (stb 50 1 0 = 0 ∧ lonF stb 1 (stb 14 0 0).toNat = -1) ∨ (stb 50 1 0 = 1 ∧ 0 ≤ lonF stb 1 (stb 14 0 0).toNat) := place_k hR (t := 1) (by decide)
        have hkpb := kPlace_s stb 1 1
        have hzpb := ZI_pl (P' := [0, 1]) (T' := [1, 1]) (q := 1) (t := 1) hzstb (by decide) (by decide) (by decide)
        have hd1 := plC_d hI 1 1
        refine g_goi hG hA (va_runV (As := [.int (iI (1)), .int (iI (1))]) (rest := []) ⟨hx, hb, hml, hown, hts⟩ (pX5_place l D cy ad n stb _ fz _ hn hI (by omega) (1) (1) (by omega) (by omega) hlf hnl hR (by omega)) (cwV 2 hts gL_law_X5_place rfl rfl rfl (by decide +kernel) ⟨Nat.le_of_ble_eq_true rfl, Nat.le_of_ble_eq_true rfl⟩) ⟨g_blind, va_recv hK hG.1 (q0 := 21 - 19) (ci := 5) rfl ((gw_at (k := 21) (by omega)).trans (by rw [gC_21 stb ad cy])), g_pre hK hG hA hN hZ⟩ rfl rfl hl.1 rfl (lv_room (Nat.le_of_ble_eq_true rfl)) dL_law_160 ⟨Nat.le_trans (by omega) hcs.1, Nat.le_trans (by omega) hcs.2⟩) (fun r9 st8 H locs hp hG => ?_)
        obtain ⟨-, ⟨rfl, hs9⟩, hI9⟩ := hp
        have hs4 : st8 = ldCS (plC stb 1 1) 1 1 := hs9
        have hzu : ZI 2 [1, -1] [0, 1] [1, 1] st8 := by rw [hs4]; exact hzpb.1
        have r1 : rowsD st8 1 := by rw [hs4]; exact rowsD_ld hd1
        have r0 : rowsD st8 0 := rowsD_cg (x := stb) (fun i9 => by rw [hs4, ld_c _ _ _ _ (by decide), plC_rowo 1 1 i9 (by decide)]) (by rw [hs4, ld_c _ _ _ _ (by decide), plC_c stb 1 1 0 0 (by decide)]) hr0
        have ec : ∀ (c o : Nat) (i : Int), (25 ≤ c ∧ c ≠ 34 ∧ c ≠ 35 ∧ c ≠ 50 ∧ c ≠ 63 ∧ c ≠ 66 ∧ c ≠ 65 ∧ ¬ (40 ≤ c ∧ c ≤ 44)) → st8 c o i = st c o i := fun c9 o9 i9 h9 => by rw [hs4, ld_c _ _ _ _ (by omega), plC_c stb 1 1 o9 i9 (by omega)]; exact eb c9 o9 i9 h9
        have hA4 : PA st8 := ZI_PA hzu (by rw [ec 60 0 0 (by decide)]; omega) (by rw [ec 80 0 0 (by decide), ec 80 0 1 (by decide), ec 81 0 0 (by decide), ec 81 0 1 (by decide), ec 60 0 0 (by decide), ec 60 1 0 (by decide), ec 61 0 0 (by decide), ec 61 1 0 (by decide)]; omega) (by rw [ec 82 0 0 (by decide), ec 82 0 1 (by decide)]; exact h82) (fun j9 => by rw [ec 83 0 j9 (by decide)]; exact h83 j9) r0 r1
        obtain ⟨stc, hG, hJc, hstc⟩ := gh_go hG hI9 hA4 (ZI_PC hzu)
        have hI := hJc.1
        have hR := hJc.2.1
        have hnl : (n : Int) = 75 + 3 * stc 33 0 0 := by have := hJc.2.2.1.1.1; omega
        have hzc : ZI 2 [1, -1] [0, 1] [1, 1] stc := ZI_cg (fun c9 o9 i9 h9 _ => hstc c9 o9 i9 h9) hzu
        refine r_nm (fun v9 ev9 => ?_)
        have hm3 : v9 = 0 := by rw [ev9]; exact hzpb.2
        refine r_if_ne (tgt := 186) hx hb (by omega) dL_law_163 (by decide) (fun c10 => ?_) (fun c10 => ?_)
        · skip
          exact absurd c10 (by omega)
        · skip
          refine lv_aload_n hx hb dL_law_166 rfl (lv_at hl 2 rfl) ?_
          refine lv_iconst (v := iI (0)) hx hb dL_law_167 rfl ?_
          obtain ⟨⟨g14, -⟩, -⟩ := JS_a hJc (a := 0) (by decide)
          have hkl := kLay_s stc 0
          refine g_goi hG hA (va_runV (As := [.int (iI (0))]) (rest := []) ⟨hx, hb, hml, hown, hts⟩ (pX5_isTrue l D cy ad n stc _ fz _ hn hI (by omega) (0) (by omega) hlf hnl hR (by omega)) (cwV 1 hts gL_law_X5_isTrue rfl rfl rfl (by decide +kernel) ⟨Nat.le_of_ble_eq_true rfl, Nat.le_of_ble_eq_true rfl⟩) ⟨g_blind, va_recv hK hG.1 (q0 := 21 - 19) (ci := 5) rfl ((gw_at (k := 21) (by omega)).trans (by rw [gC_21 stc ad cy])), g_pre hK hG hA hN hZ⟩ rfl rfl hl.1 rfl (lv_room (Nat.le_of_ble_eq_true rfl)) dL_law_168 ⟨Nat.le_trans (by omega) hcs.1, Nat.le_trans (by omega) hcs.2⟩) (fun r9 s9 H locs hp hG => ?_)
          obtain ⟨rfl, hs9⟩ := hp
          rw [hs9] at hG
          clear hs9
          refine r_nm (fun v11 ev11 => ?_)
          have htv : v11 = 1 := by rw [ev11]; exact (true_v hJc (a := 0) (by decide)).trans (ZI_all hzc _ _ _)
          refine r_if_eq (tgt := 186) hx hb (by omega) dL_law_171 (by decide) (fun c12 => ?_) (fun c12 => ?_)
          · skip
            exact absurd c12 (by omega)
          · skip
            refine lv_aload_n hx hb dL_law_174 rfl (lv_at hl 2 rfl) ?_
            refine lv_iconst (v := iI (1)) hx hb dL_law_175 rfl ?_
            have hkl1 := kLay_s stc 1
            refine g_goi hG hA (va_runV (As := [.int (iI (1))]) (rest := []) ⟨hx, hb, hml, hown, hts⟩ (pX5_isTrue l D cy ad n stc _ fz _ hn hI (by omega) (1) (by omega) hlf hnl hR (by omega)) (cwV 1 hts gL_law_X5_isTrue rfl rfl rfl (by decide +kernel) ⟨Nat.le_of_ble_eq_true rfl, Nat.le_of_ble_eq_true rfl⟩) ⟨g_blind, va_recv hK hG.1 (q0 := 21 - 19) (ci := 5) rfl ((gw_at (k := 21) (by omega)).trans (by rw [gC_21 stc ad cy])), g_pre hK hG hA hN hZ⟩ rfl rfl hl.1 rfl (lv_room (Nat.le_of_ble_eq_true rfl)) dL_law_176 ⟨Nat.le_trans (by omega) hcs.1, Nat.le_trans (by omega) hcs.2⟩) (fun r9 s9 H locs hp hG => ?_)
            obtain ⟨rfl, hs9⟩ := hp
            rw [hs9] at hG
            clear hs9
            refine r_nm (fun v13 ev13 => ?_)
            have htv1 : v13 = 1 := by rw [ev13]; exact (true_v hJc (a := 1) (by decide)).trans (ZI_all hzc _ _ _)
            refine r_if_eq (tgt := 186) hx hb (by omega) dL_law_179 (by decide) (fun c14 => ?_) (fun c14 => ?_)
            · skip
              exact absurd c14 (by omega)
            · skip
              refine lv_iconst (v := iI (1)) hx hb dL_law_182 rfl ?_
              refine lv_goto (tgt := 187) hx hb dL_law_183 (by decide) ?_
              refine lv_istore (lv' := [(7, .int (iI (1))), (0, .ref (b)), (1, .ref (ad 21)), (2, .int (iI (v))), (3, .ref (ad 19)), (4, .ref (ad 20)), (5, .ref (ad 31)), (6, .ref (ad 32))]) hx hb dL_law_187 hl (by decide) rfl (fun ls hl => ?_)
              refine lv_aload_n hx hb dL_law_189 rfl (lv_at hl 2 rfl) ?_
              refine lv_iconst (v := iI (0)) hx hb dL_law_190 rfl ?_
              refine lv_iload_n hx hb dL_law_191 rfl (lv_at hl 3 rfl) ?_
              refine lv_iconst (v := iI (5)) hx hb dL_law_192 rfl ?_
              refine r_as (y := ((5 : Nat) : Int)) (by omega) ?_
              refine r_ishr hx hb (by omega) (by omega) dL_law_193 ?_
              refine r_nm (fun v15 ev15 => ?_)
              refine lv_bipush (v := iI (12)) hx hb dL_law_194 (by decide +kernel) ?_
              refine gp_goi hG (va_runS (As := [.int (iI (v15)), .int (iI (12))]) (rest := [.int (iI (0)), .ref (ad 21)]) ⟨hx, hb, hml, hown, hts⟩ (mL_low l (v15) (12) (by omega) (by omega)) (va_cwS 2 hts gL_law_L_low rfl rfl rfl (by decide +kernel) ⟨Nat.le_of_ble_eq_true rfl, Nat.le_of_ble_eq_true rfl⟩) ⟨p0_blind, p0_pre⟩ rfl rfl hl.1 rfl (lv_room (Nat.le_of_ble_eq_true rfl)) dL_law_196 ⟨Nat.le_trans (by omega) hcs.1, Nat.le_trans (by omega) hcs.2⟩) (fun r9 H locs hp hG => ?_)
              rw [hp]
              clear hp
              refine r_nm (fun v16 ev16 => ?_)
              have hr17 := @lowF_r ((v15)) ((12)) (by omega)
              rw [← ev16] at hr17
              have hks := kShift_s stc 0 (v16)
              refine g_goi hG hA (va_runV (As := [.int (iI (0)), .int (iI (v16))]) (rest := []) ⟨hx, hb, hml, hown, hts⟩ (pX5_shift l D cy ad n stc _ fz _ hn hI (by omega) (0) (v16) (by omega) (by omega) hlf hnl hR (by omega)) (cwV 2 hts gL_law_X5_shift rfl rfl rfl (by decide +kernel) ⟨Nat.le_of_ble_eq_true rfl, Nat.le_of_ble_eq_true rfl⟩) ⟨g_blind, va_recv hK hG.1 (q0 := 21 - 19) (ci := 5) rfl ((gw_at (k := 21) (by omega)).trans (by rw [gC_21 stc ad cy])), g_pre hK hG hA hN hZ⟩ rfl rfl hl.1 rfl (lv_room (Nat.le_of_ble_eq_true rfl)) dL_law_199 ⟨Nat.le_trans (by omega) hcs.1, Nat.le_trans (by omega) hcs.2⟩) (fun r9 st18 H locs hp hG => ?_)
              obtain ⟨-, ⟨rfl, hs9⟩, hI9⟩ := hp
              have hs5 : st18 = ust stc 64 0 0 (v16) := hs9
              obtain ⟨std, hG, hJf, hstf⟩ := gh_go hG hI9 (by rw [hs5]; exact PA_64 (by decide) hJc.2.2.1) (by rw [hs5]; exact PC_u (by decide) hJc.2.2.2)
              have hd0 : std 31 0 0 = 0 := by rw [hstf 31 0 0 (by decide), hs5, ust_c (by decide)]; exact hzc.1.2.2
              have hn0 : std 30 0 0 = 0 := by rw [hstf 30 0 0 (by decide), hs5, ust_c (by decide)]; exact hzc.1.2.1
              refine r_nm (fun v19 ev19 => ?_)
              refine lv_pop hx hb dL_law_202 rfl ?_
              refine lv_iconst (v := iI (0)) hx hb dL_law_203 rfl ?_
              refine lv_istore (lv' := [(8, .int (iI (0))), (7, .int (iI (1))), (0, .ref (b)), (1, .ref (ad 21)), (2, .int (iI (v))), (3, .ref (ad 19)), (4, .ref (ad 20)), (5, .ref (ad 31)), (6, .ref (ad 32))]) hx hb dL_law_204 hl (by decide) rfl (fun ls hl => ?_)
              refine lv_aload_n hx hb dL_law_206 rfl (lv_at hl 2 rfl) ?_
              refine va_slen hx hb hX hbl hbA hG.2.2 dL_law_207 ?_
              refine r_asI (y := (L : Int)) rfl ?_
              refine lv_bipush (v := iI (40)) hx hb dL_law_208 (by decide +kernel) ?_
              refine r_icmp_ge (tgt := 218) hx hb (by omega) dL_law_210 (by decide) (fun c20 => ?_) (fun c20 => ?_)
              · skip
                refine lv_bipush (v := iI (40)) hx hb dL_law_218 (by decide +kernel) ?_
                refine lv_istore (lv' := [(9, .int (iI (40))), (8, .int (iI (0))), (7, .int (iI (1))), (0, .ref (b)), (1, .ref (ad 21)), (2, .int (iI (v))), (3, .ref (ad 19)), (4, .ref (ad 20)), (5, .ref (ad 31)), (6, .ref (ad 32))]) hx hb dL_law_220 hl (by decide) rfl (fun ls hl => ?_)
                refine lv_iconst (v := iI (1)) hx hb dL_law_222 rfl ?_
                refine lv_istore (lv' := [(10, .int (iI (1))), (9, .int (iI (40))), (8, .int (iI (0))), (7, .int (iI (1))), (0, .ref (b)), (1, .ref (ad 21)), (2, .int (iI (v))), (3, .ref (ad 19)), (4, .ref (ad 20)), (5, .ref (ad 31)), (6, .ref (ad 32))]) hx hb dL_law_223 hl (by decide) rfl (fun ls hl => ?_)
                refine W.widen (k := cells + 100) (n := slots + 600) (by omega) (by omega) ?_
                exact KK std _ H locs ls (by omega) hG (JS_mono (by omega) hJf) hd0 hn0 (lv_sub hl [3, 2, 1, 0, 4, 5, 6, 7, 8, 9, 10] rfl)
              · skip
                refine lv_aload_n hx hb dL_law_213 rfl (lv_at hl 2 rfl) ?_
                refine va_slen hx hb hX hbl hbA hG.2.2 dL_law_214 ?_
                refine r_asI (y := (L : Int)) rfl ?_
                refine lv_goto (tgt := 220) hx hb dL_law_215 (by decide) ?_
                refine lv_istore (lv' := [(9, .int (iI ((L : Int)))), (8, .int (iI (0))), (7, .int (iI (1))), (0, .ref (b)), (1, .ref (ad 21)), (2, .int (iI (v))), (3, .ref (ad 19)), (4, .ref (ad 20)), (5, .ref (ad 31)), (6, .ref (ad 32))]) hx hb dL_law_220 hl (by decide) rfl (fun ls hl => ?_)
                refine lv_iconst (v := iI (1)) hx hb dL_law_222 rfl ?_
                refine lv_istore (lv' := [(10, .int (iI (1))), (9, .int (iI ((L : Int)))), (8, .int (iI (0))), (7, .int (iI (1))), (0, .ref (b)), (1, .ref (ad 21)), (2, .int (iI (v))), (3, .ref (ad 19)), (4, .ref (ad 20)), (5, .ref (ad 31)), (6, .ref (ad 32))]) hx hb dL_law_223 hl (by decide) rfl (fun ls hl => ?_)
                refine W.widen (k := cells + 100) (n := slots + 600) (by omega) (by omega) ?_
                exact KK std _ H locs ls (by omega) hG (JS_mono (by omega) hJf) hd0 hn0 (lv_sub hl [3, 2, 1, 0, 4, 5, 6, 7, 8, 9, 10] rfl)
