set_option maxHeartbeats 1000000 in
set_option maxRecDepth 100000 in
theorem lb_place {p : Program} {l : Launch} {e : Env} {s : State} {m : MethodId} {below : List Frame} {meth : Method} {c : Code} {b L : Nat} {xs : Nat → Int32} {D : va_G} {cy : Nat → ClassId} {fz : Nat} {A : Nat → Prop} {H : Heap} {locs : List Loc} {cells slots : Nat} {Q : State → Prop} {ls : Array Slot} {ad : Nat → Nat} {n : Nat} {st : St} (C : LC p l s m c b L xs D cy fz A) (hn81 : n = 81) (t : Nat) (mm w v dd wh rw0 cl tl : Int) (a a' : Nat) (wb : Int) (hwb : 0 ≤ wb ∧ wb ≤ 200000) (hG : GH D cy ad n st A s.heap H locs) (hJ : JS wb st) (hdd : st 31 0 0 = dd) (hw : -2147483648 ≤ w ∧ w < 2147483648) (htl : 0 ≤ tl ∧ tl < 3) (hrw : 0 ≤ rw0 ∧ rw0 < 8) (hcl : 0 ≤ cl ∧ cl < 16) (ha : (a = 0 ∧ a' = 1) ∨ (a = 1 ∧ a' = 0)) (hl : lv_has ls 22 [(16, .int (iI (cl))), (15, .int (iI (rw0))), (14, .int (iI (tl))), (13, .int (iI (((a : Nat) : Int)))), (12, .int (iI (wh))), (11, .int (iI (w))), (7, .int (iI (1))), (8, .int (iI (dd))), (9, .int (iI (mm))), (10, .int (iI (((t : Nat) : Int)))), (0, .ref (b)), (1, .ref (ad 21)), (2, .int (iI (v))), (3, .ref (ad 19)), (4, .ref (ad 20)), (5, .ref (ad 31)), (6, .ref (ad 32))]) (hcs : cells + 2000 ≤ room_1.cells ∧ slots + 12000 ≤ room_1.slots) (KK : KKs p l e s m below meth c b D cy A Q ad n v mm t w tl wb (st 30 0 0) cells slots) : W p l e room_1 s m #[Value.ref b] below meth c H locs cells slots Q (F0 m 847 ls []) := by
  obtain ⟨hx, hb, hml, hown, hts, hX, hbl, hbA, hA, hK, hN, hZ, hlf, hL⟩ := C
  have hI := hJ.1
  have hR := hJ.2.1
  have h33 := hJ.2.2.1.1.1
  have hnl : (n : Int) = 75 + 3 * st 33 0 0 := by omega
  have hn : 75 ≤ n := by omega
  have haa : a < 2 := by rcases ha with ⟨rfl, -⟩ | ⟨rfl, -⟩ <;> decide
  obtain ⟨⟨h14, -⟩, ⟨h15, h16, h20⟩, ⟨h80, h81, h82⟩, h66, ⟨h60, h61⟩, h83⟩ := JS_a hJ haa
  have ean : (((a : Nat) : Int)).toNat = a := Int.toNat_natCast a
  have haa2 : a' < 2 := by rcases ha with ⟨-, rfl⟩ | ⟨-, rfl⟩ <;> decide
  obtain ⟨-, -, ⟨-, -, b82⟩, b66, -, -⟩ := JS_a hJ haa2
  have hx6 : st 66 a 0 ≠ st 66 a' 0 := by have h9 := hJ.2.2.1.2.2.1.2.2.2.2; rcases ha with ⟨rfl, rfl⟩ | ⟨rfl, rfl⟩; exact h9; exact fun e9 => h9 e9.symm
  have ha1 : ((a' : Nat) : Int) = 1 - ((a : Nat) : Int) := by omega
  have hlab865 : ∀ (ot : Int) (H : Heap) (locs : List Loc) (ls : Array Slot), (0 ≤ ot ∧ ot ≤ 3) → (ot ≠ st 66 a' 0) →  GH D cy ad n st A s.heap H locs → lv_has ls 22 [(16, .int (iI (cl))), (15, .int (iI (rw0))), (14, .int (iI (tl))), (13, .int (iI (((a : Nat) : Int)))), (12, .int (iI (wh))), (11, .int (iI (w))), (7, .int (iI (1))), (8, .int (iI (dd))), (9, .int (iI (mm))), (10, .int (iI (((t : Nat) : Int)))), (0, .ref (b)), (1, .ref (ad 21)), (2, .int (iI (v))), (3, .ref (ad 19)), (4, .ref (ad 20)), (5, .ref (ad 31)), (6, .ref (ad 32))] → W p l e room_1 s m #[Value.ref b] below meth c H locs cells slots Q (F0 m 865 ls [.int (iI (ot))]) := by
    intro ot H locs ls hot hone hG hl
    refine lv_istore (lv' := [(17, .int (iI (ot))), (16, .int (iI (cl))), (15, .int (iI (rw0))), (14, .int (iI (tl))), (13, .int (iI (((a : Nat) : Int)))), (12, .int (iI (wh))), (11, .int (iI (w))), (7, .int (iI (1))), (8, .int (iI (dd))), (9, .int (iI (mm))), (10, .int (iI (((t : Nat) : Int)))), (0, .ref (b)), (1, .ref (ad 21)), (2, .int (iI (v))), (3, .ref (ad 19)), (4, .ref (ad 20)), (5, .ref (ad 31)), (6, .ref (ad 32))]) hx hb dL_law_865 hl (by decide) rfl (fun ls hl => ?_)
    refine lv_aload_n hx hb dL_law_867 rfl (lv_at hl 12 rfl) ?_
    refine lv_iload hx hb dL_law_868 (lv_at hl 4 rfl) ?_
    refine lv_iload hx hb dL_law_870 (lv_at hl 0 rfl) ?_
    have hkm := kMis_s st ((a : Nat) : Int) ot
    refine g_goi hG hA (va_runV (As := [.int (iI (((a : Nat) : Int))), .int (iI (ot))]) (rest := []) ⟨hx, hb, hml, hown, hts⟩ (pX5_misfits l D cy ad n st _ fz _ hn hI (by omega) (((a : Nat) : Int)) (ot) (by omega) (by omega) hlf hnl hR (by omega)) (cwV 2 hts gL_law_X5_misfits rfl rfl rfl (by decide +kernel) ⟨Nat.le_of_ble_eq_true rfl, Nat.le_of_ble_eq_true rfl⟩) ⟨g_blind, va_recv hK hG.1 (q0 := 21 - 19) (ci := 5) rfl ((gw_at (k := 21) (by omega)).trans (by rw [gC_21 st ad cy])), g_pre hK hG hA hN hZ⟩ rfl rfl hl.1 rfl (lv_room (Nat.le_of_ble_eq_true rfl)) dL_law_872 ⟨Nat.le_trans (by omega) hcs.1, Nat.le_trans (by omega) hcs.2⟩) (fun r9 st1 H locs hp hG => ?_)
    obtain ⟨-, ⟨rfl, cf9, ff9, hs9⟩, hI9⟩ := hp
    obtain ⟨sta, hsta⟩ : ∃ z9 : St, z9 = st1 := ⟨_, rfl⟩
    rw [← hsta] at hG hs9 hI9
    have hs2 : sta = setW st cf9 ff9 := hs9
    have hJ2 : JS wb sta := JS_fr (fun c9 o9 i9 h9 => by rw [hs2]; exact setW_c _ _ _ (by omega)) hJ hI9
    replace hI := hI9
    replace hR := hJ2.2.1
    replace hnl : (n : Int) = 75 + 3 * sta 33 0 0 := by have := hJ2.2.2.1.1.1; omega
    obtain ⟨⟨g14, g33⟩, ⟨g15, g16, g20⟩, ⟨g80, g81, g82⟩, g66, ⟨g60, g61⟩, g83⟩ := JS_a hJ2 haa
    have e66 : ∀ o9 : Nat, sta 66 o9 0 = st 66 o9 0 := fun o9 => by rw [hs2]; exact setW_c _ _ _ (by decide)
    refine r_nm (fun v2 ev2 => ?_)
    have hfr := fdV_r hJ.1 ((a : Nat) : Int) ot
    have hfd : v2 = dpV (cstC sta a (ot).toNat) (sta 60 a 0).toNat 0 := by rw [ev2, fdV_cg (y := sta) (fun c9 o9 i9 h9 => by rw [hs2]; exact (setW_c _ _ _ (by omega)).symm)]; have h9 := fd_cst hJ2.2.1 hJ2.1 (q := a) (t := (ot).toNat) (by omega) (by omega); rw [show (((ot).toNat : Nat) : Int) = ot by omega] at h9; exact h9
    rw [← ev2] at hfr
    refine lv_istore (lv' := [(18, .int (iI (v2))), (17, .int (iI (ot))), (16, .int (iI (cl))), (15, .int (iI (rw0))), (14, .int (iI (tl))), (13, .int (iI (((a : Nat) : Int)))), (12, .int (iI (wh))), (11, .int (iI (w))), (7, .int (iI (1))), (8, .int (iI (dd))), (9, .int (iI (mm))), (10, .int (iI (((t : Nat) : Int)))), (0, .ref (b)), (1, .ref (ad 21)), (2, .int (iI (v))), (3, .ref (ad 19)), (4, .ref (ad 20)), (5, .ref (ad 31)), (6, .ref (ad 32))]) hx hb dL_law_875 hl (by decide) rfl (fun ls hl => ?_)
    refine lv_aload_n hx hb dL_law_877 rfl (lv_at hl 13 rfl) ?_
    refine lv_iload hx hb dL_law_878 (lv_at hl 5 rfl) ?_
    have hkp := kPlaced_s sta ((a : Nat) : Int)
    refine g_goi hG hA (va_runV (As := [.int (iI (((a : Nat) : Int)))]) (rest := []) ⟨hx, hb, hml, hown, hts⟩ (pX5_lift l D cy ad n sta _ fz _ hn hI (by omega) (((a : Nat) : Int)) (by omega) hlf hnl hR (by omega)) (cwV 1 hts gL_law_X5_lift rfl rfl rfl (by decide +kernel) ⟨Nat.le_of_ble_eq_true rfl, Nat.le_of_ble_eq_true rfl⟩) ⟨g_blind, va_recv hK hG.1 (q0 := 21 - 19) (ci := 5) rfl ((gw_at (k := 21) (by omega)).trans (by rw [gC_21 sta ad cy])), g_pre hK hG hA hN hZ⟩ rfl rfl hl.1 rfl (lv_room (Nat.le_of_ble_eq_true rfl)) dL_law_880 ⟨Nat.le_trans (by omega) hcs.1, Nat.le_trans (by omega) hcs.2⟩) (fun r9 st3 H locs hp hG => ?_)
    obtain ⟨-, ⟨rfl, hs9⟩, hI9⟩ := hp
    have hs3 : st3 = ust (ust sta 66 a 0 (-1)) 50 (sta 66 a 0).toNat 0 0 := by rw [hs9, ean]
    have hci := CI_lift (wb := wb) ha hJ2.1 hJ2.2.2.1 hJ2.2.2.2
    obtain ⟨stb, hstb⟩ : ∃ z9 : St, z9 = gh st3 := ⟨_, rfl⟩
    have hb25 : ∀ (c o : Nat) (i : Int), 25 ≤ c → stb c o i = st3 c o i := fun c9 o9 i9 hc9 => by rw [hstb]; exact gh_c _ hc9
    have q33 : stb 33 0 0 = 2 := by rw [hb25 33 0 0 (by decide), hs3, ust_c (by decide), ust_c (by decide)]; exact g33
    replace hG := GH_cg (fun c9 o9 i9 hc9 => (hb25 c9 o9 i9 hc9).symm) hG
    replace hR : RY stb := by rw [hstb]; exact RY_gh (hs3 ▸ hci) (by rw [hs3, ust_c (by decide), ust_c (by decide)]; omega)
    replace hI : GI wb stb := by rw [hstb]; exact GI_gh hI9
    replace hnl : (n : Int) = 75 + 3 * stb 33 0 0 := by omega
    have qb66 : stb 66 a 0 = -1 := by rw [hb25 66 _ _ (by decide), hs3, ust_c (by decide), ust_s]
    have q14 : stb 14 0 0 = 2 := by rw [← hR.1.1]; exact q33
    have q15 := (hR.2.1 a (by omega)).1
    have q60 := gI_60 hI a 0
    refine r_nm (fun v4 ev4 => ?_)
    have hret : v4 = sta 66 a 0 := by rw [ev4, ean]
    refine lv_aload hx hb dL_law_883 (lv_at hl 17 rfl) ?_
    refine lv_iload hx hb dL_law_885 (lv_at hl 5 rfl) ?_
    refine g_iald hx hb hK hG (31) (kd := 31) (o := 0) rfl rfl (by omega) (cp := 82) (ln := 2) rfl rfl (by omega) dL_law_887 ?_
    refine r_nm (fun v5 ev5 => ?_)
    have htl9 : v5 = sta 66 a 0 := by rw [ev5, hb25 82 _ _ (by decide), hs3, ust_c (by decide), ust_c (by decide)]; exact g82
    refine r_icmp_ne (tgt := 916) hx hb (by omega) dL_law_888 (by decide) (fun c6 => ?_) (fun c6 => ?_)
    · skip
      exact absurd c6 (by omega)
    · skip
      refine lv_aload_n hx hb dL_law_891 rfl (lv_at hl 13 rfl) ?_
      refine lv_iload hx hb dL_law_892 (lv_at hl 5 rfl) ?_
      refine lv_iconst (v := iI (0)) hx hb dL_law_894 rfl ?_
      have hkr := kRow_s stb ((a : Nat) : Int) 0
      refine g_goi hG hA (va_runV (As := [.int (iI (((a : Nat) : Int))), .int (iI (0))]) (rest := []) ⟨hx, hb, hml, hown, hts⟩ (pX5_rowOf l D cy ad n stb _ fz _ hn hI (by omega) (((a : Nat) : Int)) (0) (by omega) (by omega) hlf hnl hR (by omega)) (cwV 2 hts gL_law_X5_rowOf rfl rfl rfl (by decide +kernel) ⟨Nat.le_of_ble_eq_true rfl, Nat.le_of_ble_eq_true rfl⟩) ⟨g_blind, va_recv hK hG.1 (q0 := 21 - 19) (ci := 5) rfl ((gw_at (k := 21) (by omega)).trans (by rw [gC_21 stb ad cy])), g_pre hK hG hA hN hZ⟩ rfl rfl hl.1 rfl (lv_room (Nat.le_of_ble_eq_true rfl)) dL_law_895 ⟨Nat.le_trans (by omega) hcs.1, Nat.le_trans (by omega) hcs.2⟩) (fun r9 s9 H locs hp hG => ?_)
      obtain ⟨rfl, hs9⟩ := hp
      rw [hs9] at hG
      clear hs9
      refine r_nm (fun v7 ev7 => ?_)
      have hrv : v7 = -1 := by rw [ev7, ean, if_pos (by rw [qb66]; decide)]
      refine lv_iconst (v := iI (-1)) hx hb dL_law_898 rfl ?_
      refine r_icmp_ne (tgt := 916) hx hb (by omega) dL_law_899 (by decide) (fun c8 => ?_) (fun c8 => ?_)
      · skip
        exact absurd c8 (by omega)
      · skip
        refine lv_aload_n hx hb dL_law_902 rfl (lv_at hl 13 rfl) ?_
        refine lv_iload hx hb dL_law_903 (lv_at hl 5 rfl) ?_
        have hkl := kLay_s stb ((a : Nat) : Int)
        refine g_goi hG hA (va_runV (As := [.int (iI (((a : Nat) : Int)))]) (rest := []) ⟨hx, hb, hml, hown, hts⟩ (pX5_tileOf l D cy ad n stb _ fz _ hn hI (by omega) (((a : Nat) : Int)) (by omega) hlf hnl hR (by omega)) (cwV 1 hts gL_law_X5_tileOf rfl rfl rfl (by decide +kernel) ⟨Nat.le_of_ble_eq_true rfl, Nat.le_of_ble_eq_true rfl⟩) ⟨g_blind, va_recv hK hG.1 (q0 := 21 - 19) (ci := 5) rfl ((gw_at (k := 21) (by omega)).trans (by rw [gC_21 stb ad cy])), g_pre hK hG hA hN hZ⟩ rfl rfl hl.1 rfl (lv_room (Nat.le_of_ble_eq_true rfl)) dL_law_905 ⟨Nat.le_trans (by omega) hcs.1, Nat.le_trans (by omega) hcs.2⟩) (fun r9 s9 H locs hp hG => ?_)
        obtain ⟨rfl, hs9⟩ := hp
        rw [hs9] at hG
        clear hs9
        refine r_nm (fun v9 ev9 => ?_)
        have htv : v9 = -1 := by rw [ev9, ean]; exact qb66
        refine lv_iconst (v := iI (-1)) hx hb dL_law_908 rfl ?_
        refine r_icmp_ne (tgt := 916) hx hb (by omega) dL_law_909 (by decide) (fun c10 => ?_) (fun c10 => ?_)
        · skip
          exact absurd c10 (by omega)
        · skip
          refine lv_iconst (v := iI (1)) hx hb dL_law_912 rfl ?_
          refine lv_goto (tgt := 917) hx hb dL_law_913 (by decide) ?_
          refine lv_istore (lv' := [(7, .int (iI (1))), (18, .int (iI (v2))), (17, .int (iI (ot))), (16, .int (iI (cl))), (15, .int (iI (rw0))), (14, .int (iI (tl))), (13, .int (iI (((a : Nat) : Int)))), (12, .int (iI (wh))), (11, .int (iI (w))), (8, .int (iI (dd))), (9, .int (iI (mm))), (10, .int (iI (((t : Nat) : Int)))), (0, .ref (b)), (1, .ref (ad 21)), (2, .int (iI (v))), (3, .ref (ad 19)), (4, .ref (ad 20)), (5, .ref (ad 31)), (6, .ref (ad 32))]) hx hb dL_law_917 hl (by decide) rfl (fun ls hl => ?_)
          refine lv_aload hx hb dL_law_919 (lv_at hl 17 rfl) ?_
          refine lv_iload hx hb dL_law_921 (lv_at hl 6 rfl) ?_
          refine lv_iload hx hb dL_law_923 (lv_at hl 2 rfl) ?_
          refine g_iast hx hb hK hG (31) (kd := 31) (o := 0) rfl rfl (by omega) (cp := 82) (ln := 2) rfl rfl (by omega) dL_law_925 (fun H locs hG => ?_)
          obtain ⟨st11, hst11⟩ : ∃ z : St, z = ust stb 82 (0) (((a : Nat) : Int)) (ot) := ⟨_, rfl⟩
          rw [← hst11] at hG
          replace hI := hst11 ▸ GI_o hI (c := 82) (o := 0) (i := ((a : Nat) : Int)) (v := ot) (by decide)
          replace hR : RY st11 := RY_fr (fun c9 o9 i9 h9 => by rw [hst11]; exact ust_c (fun e9 => h9 (e9 ▸ by decide))) hR
          replace hnl : (n : Int) = 75 + 3 * st11 33 0 0 := by rw [hst11, ust_c (by decide)]; exact hnl
          refine lv_aload_n hx hb dL_law_926 rfl (lv_at hl 13 rfl) ?_
          refine lv_iload hx hb dL_law_927 (lv_at hl 6 rfl) ?_
          refine lv_iload hx hb dL_law_929 (lv_at hl 2 rfl) ?_
          have hkp2 := kPlace_s st11 ((a : Nat) : Int) ot
          have qp := place_k hR (t := (ot).toNat) (by omega)
          rw [show (((ot).toNat : Nat) : Int) = ot by omega] at qp
          have q50 : st11 50 (ot).toNat 0 = 0 := by
            rw [hst11, ust_c (by decide), hb25 50 _ _ (by decide), hs3]
            by_cases h9 : (ot).toNat = (sta 66 a 0).toNat
            · rw [h9, ust_s]
            · rw [ust_o h9, ust_c (by decide)]
              have h8 := hJ2.2.2.1.2.2.2.2.2.2.1 (ot).toNat (by omega)
              have h7 := e66 a
              have h6 := e66 a'
              rcases ha with ⟨rfl, rfl⟩ | ⟨rfl, rfl⟩
              · omega
              · omega
          have q14c : st11 14 0 0 = 2 := by rw [hst11, ust_c (by decide)]; exact q14
          have q20 : st11 20 0 ((a : Nat) : Int) = -1 := by rw [← (hR.2.1 a (by omega)).2.2.2.2, hst11, ust_c (by decide)]; exact qb66
          refine g_goi hG hA (va_runV (As := [.int (iI (((a : Nat) : Int))), .int (iI (ot))]) (rest := []) ⟨hx, hb, hml, hown, hts⟩ (pX5_place l D cy ad n st11 _ fz _ hn hI (by omega) (((a : Nat) : Int)) (ot) (by omega) (by omega) hlf hnl hR (by omega)) (cwV 2 hts gL_law_X5_place rfl rfl rfl (by decide +kernel) ⟨Nat.le_of_ble_eq_true rfl, Nat.le_of_ble_eq_true rfl⟩) ⟨g_blind, va_recv hK hG.1 (q0 := 21 - 19) (ci := 5) rfl ((gw_at (k := 21) (by omega)).trans (by rw [gC_21 st11 ad cy])), g_pre hK hG hA hN hZ⟩ rfl rfl hl.1 rfl (lv_room (Nat.le_of_ble_eq_true rfl)) dL_law_931 ⟨Nat.le_trans (by omega) hcs.1, Nat.le_trans (by omega) hcs.2⟩) (fun r9 st12 H locs hp hG => ?_)
          obtain ⟨-, ⟨rfl, hs9⟩, hI9⟩ := hp
          have hs4 : st12 = ldCS (plC st11 a (ot).toNat) a (ot).toNat := by rw [hs9, ean]
          obtain ⟨hA5, hC5, ⟨k66, k31, k30⟩, hfit⟩ := place_back ha hJ2 (fun c9 o9 i9 h9 => (hb25 c9 o9 i9 h9).trans (by rw [hs3])) hst11 hI hs4 hI9 hot (by rw [e66]; exact hone)
          obtain ⟨std, hG, hJ4, hst4⟩ := gh_go hG hI9 (hA5) (hC5)
          replace hI := hJ4.1
          replace hR := hJ4.2.1
          replace hnl : (n : Int) = 75 + 3 * std 33 0 0 := by have := hJ4.2.2.1.1.1; omega
          obtain ⟨⟨n14, n33⟩, ⟨n15, n16, n20⟩, ⟨n80, n81, n82⟩, n66, ⟨n60, n61⟩, n83⟩ := JS_a hJ4 haa
          have m66 : std 66 a 0 = ot := by rw [hst4 66 _ _ (by decide)]; exact k66
          refine r_nm (fun v13 ev13 => ?_)
          refine lv_pop hx hb dL_law_934 rfl ?_
          refine lv_iload hx hb dL_law_935 (lv_at hl 0 rfl) ?_
          refine r_if_eq (tgt := 979) hx hb (by omega) dL_law_937 (by decide) (fun c14 => ?_) (fun c14 => ?_)
          · skip
            exact absurd c14 (by omega)
          · skip
            refine lv_aload_n hx hb dL_law_940 rfl (lv_at hl 13 rfl) ?_
            refine lv_iload hx hb dL_law_941 (lv_at hl 6 rfl) ?_
            have hkl := kLay_s std ((a : Nat) : Int)
            refine g_goi hG hA (va_runV (As := [.int (iI (((a : Nat) : Int)))]) (rest := []) ⟨hx, hb, hml, hown, hts⟩ (pX5_tileOf l D cy ad n std _ fz _ hn hI (by omega) (((a : Nat) : Int)) (by omega) hlf hnl hR (by omega)) (cwV 1 hts gL_law_X5_tileOf rfl rfl rfl (by decide +kernel) ⟨Nat.le_of_ble_eq_true rfl, Nat.le_of_ble_eq_true rfl⟩) ⟨g_blind, va_recv hK hG.1 (q0 := 21 - 19) (ci := 5) rfl ((gw_at (k := 21) (by omega)).trans (by rw [gC_21 std ad cy])), g_pre hK hG hA hN hZ⟩ rfl rfl hl.1 rfl (lv_room (Nat.le_of_ble_eq_true rfl)) dL_law_943 ⟨Nat.le_trans (by omega) hcs.1, Nat.le_trans (by omega) hcs.2⟩) (fun r9 s9 H locs hp hG => ?_)
            obtain ⟨rfl, hs9⟩ := hp
            rw [hs9] at hG
            clear hs9
            refine r_nm (fun v15 ev15 => ?_)
            have htv2 : v15 = ot := by rw [ev15, ean]; exact m66
            refine lv_iload hx hb dL_law_946 (lv_at hl 2 rfl) ?_
            refine r_icmp_ne (tgt := 979) hx hb (by omega) dL_law_948 (by decide) (fun c16 => ?_) (fun c16 => ?_)
            · skip
              exact absurd c16 (by omega)
            · skip
              refine lv_aload_n hx hb dL_law_951 rfl (lv_at hl 13 rfl) ?_
              refine lv_aload hx hb dL_law_952 (lv_at hl 18 rfl) ?_
              refine lv_iload hx hb dL_law_954 (lv_at hl 6 rfl) ?_
              refine lv_iload hx hb dL_law_956 (lv_at hl 2 rfl) ?_
              refine lv_aload_n hx hb dL_law_958 rfl (lv_at hl 15 rfl) ?_
              refine lv_iload hx hb dL_law_959 (lv_at hl 6 rfl) ?_
              refine g_iald hx hb hK hG (19) (kd := 19) (o := 0) rfl rfl (by omega) (cp := 80) (ln := 2) rfl rfl (by omega) dL_law_961 ?_
              refine r_nm (fun v17 ev17 => ?_)
              have hi9 : v17 = std 60 a 0 := by rw [ev17]; exact n80
              refine lv_aload hx hb dL_law_962 (lv_at hl 16 rfl) ?_
              refine lv_iload hx hb dL_law_964 (lv_at hl 6 rfl) ?_
              refine g_iald hx hb hK hG (20) (kd := 20) (o := 0) rfl rfl (by omega) (cp := 81) (ln := 2) rfl rfl (by omega) dL_law_966 ?_
              refine r_nm (fun v18 ev18 => ?_)
              have ho9 : v18 = std 61 a 0 := by rw [ev18]; exact n81
              refine g_goi hG hA (va_runS (As := [.ref (ad 21), .ref (ad 32), .int (iI (((a : Nat) : Int))), .int (iI (ot)), .int (iI (v17)), .int (iI (v18))]) (rest := []) ⟨hx, hb, hml, hown, hts⟩ (mL_misfits l D cy ad n std _ fz _ hn hI (by omega) (((a : Nat) : Int)) (ot) (v17) (v18) hlf hnl hR (by omega) (by omega) (by rw [ean]; omega) (by rw [ean]; omega) (by omega) (by rw [ean]; omega) (by rw [ean]; exact n83)) (va_cwS 6 hts gL_law_L_misfits rfl rfl rfl (by decide +kernel) ⟨Nat.le_of_ble_eq_true rfl, Nat.le_of_ble_eq_true rfl⟩) ⟨g_blind, g_pre hK hG hA hN hZ⟩ rfl rfl hl.1 rfl (lv_room (Nat.le_of_ble_eq_true rfl)) dL_law_967 ⟨Nat.le_trans (by omega) hcs.1, Nat.le_trans (by omega) hcs.2⟩) (fun r9 s9 H locs hp hG => ?_)
              obtain ⟨rfl, hs9⟩ := hp
              rw [hs9] at hG
              clear hs9
              refine r_nm (fun v19 ev19 => ?_)
              have hlm : v19 = lmF std a (ot).toNat := by rw [ev19, ean]
              have hlr := lmF_r hI a (ot).toNat
              have hle : dpV (cstC sta a (ot).toNat) (sta 60 a 0).toNat 0 ≤ lmF std a (ot).toNat := by rw [lmF_cg hst4]; exact hfit
              refine lv_iload hx hb dL_law_970 (lv_at hl 1 rfl) ?_
              refine r_icmp_lt (tgt := 979) hx hb (by omega) dL_law_972 (by decide) (fun c20 => ?_) (fun c20 => ?_)
              · skip
                exact absurd c20 (by omega)
              · skip
                refine lv_iconst (v := iI (1)) hx hb dL_law_975 rfl ?_
                refine lv_goto (tgt := 980) hx hb dL_law_976 (by decide) ?_
                refine lv_istore (lv' := [(7, .int (iI (1))), (18, .int (iI (v2))), (17, .int (iI (ot))), (16, .int (iI (cl))), (15, .int (iI (rw0))), (14, .int (iI (tl))), (13, .int (iI (((a : Nat) : Int)))), (12, .int (iI (wh))), (11, .int (iI (w))), (8, .int (iI (dd))), (9, .int (iI (mm))), (10, .int (iI (((t : Nat) : Int)))), (0, .ref (b)), (1, .ref (ad 21)), (2, .int (iI (v))), (3, .ref (ad 19)), (4, .ref (ad 20)), (5, .ref (ad 31)), (6, .ref (ad 32))]) hx hb dL_law_980 hl (by decide) rfl (fun ls hl => ?_)
                refine lv_iconst (v := iI (0)) hx hb dL_law_982 rfl ?_
                refine lv_istore (lv' := [(19, .int (iI (0))), (7, .int (iI (1))), (18, .int (iI (v2))), (17, .int (iI (ot))), (16, .int (iI (cl))), (15, .int (iI (rw0))), (14, .int (iI (tl))), (13, .int (iI (((a : Nat) : Int)))), (12, .int (iI (wh))), (11, .int (iI (w))), (8, .int (iI (dd))), (9, .int (iI (mm))), (10, .int (iI (((t : Nat) : Int)))), (0, .ref (b)), (1, .ref (ad 21)), (2, .int (iI (v))), (3, .ref (ad 19)), (4, .ref (ad 20)), (5, .ref (ad 31)), (6, .ref (ad 32))]) hx hb dL_law_983 hl (by decide) rfl (fun ls hl => ?_)
                have hloop985 : ∀ (N : Nat)  (i : Nat) (H : Heap) (locs : List Loc) (ls : Array Slot), 9 - i < N → ((i : Int) ≤ std 60 a 0) →  GH D cy ad n std A s.heap H locs → lv_has ls 22 [(19, .int (iI (((i : Nat) : Int)))), (7, .int (iI (1))), (18, .int (iI (v2))), (17, .int (iI (ot))), (16, .int (iI (cl))), (15, .int (iI (rw0))), (14, .int (iI (tl))), (13, .int (iI (((a : Nat) : Int)))), (12, .int (iI (wh))), (11, .int (iI (w))), (8, .int (iI (dd))), (9, .int (iI (mm))), (10, .int (iI (((t : Nat) : Int)))), (0, .ref (b)), (1, .ref (ad 21)), (2, .int (iI (v))), (3, .ref (ad 19)), (4, .ref (ad 20)), (5, .ref (ad 31)), (6, .ref (ad 32))] → W p l e room_1 s m #[Value.ref b] below meth c H locs (cells + 1300 + 40 * i) (slots + 7800 + 240 * i) Q (F0 m 985 ls []) := by
                  intro N
                  induction N with
                  | zero => intro  i H locs ls hm; exact absurd hm (Nat.not_lt_zero _)
                  | succ N ih985 =>
                    intro  i H locs ls hm hi hG hl
                    refine lv_iload hx hb dL_law_985 (lv_at hl 0 rfl) ?_
                    refine lv_aload_n hx hb dL_law_987 rfl (lv_at hl 16 rfl) ?_
                    refine lv_iload hx hb dL_law_988 (lv_at hl 7 rfl) ?_
                    refine g_iald hx hb hK hG (19) (kd := 19) (o := 0) rfl rfl (by omega) (cp := 80) (ln := 2) rfl rfl (by omega) dL_law_990 ?_
                    refine r_nm (fun v21 ev21 => ?_)
                    have hi8 : v21 = std 60 a 0 := by rw [ev21]; exact n80
                    refine r_icmp_ge (tgt := 1047) hx hb (by omega) dL_law_991 (by decide) (fun c22 => ?_) (fun c22 => ?_)
                    · skip
                      refine lv_goto (tgt := 1066) hx hb dL_law_1047 (by decide) ?_
                      replace hJ := hJ4
                      refine W.widen (k := cells + 2000) (n := slots + 12000) (by omega) (by omega) ?_
                      exact KK std (dd) H locs ls hG hJ (by rw [hst4 31 0 0 (by decide), k31, hs2, setW_c _ _ _ (by decide)]; exact hdd) (by rw [hst4 30 0 0 (by decide), k30, hs2, setW_c _ _ _ (by decide)]; omega) (lv_sub hl [1, 10, 11, 12, 9, 6, 13, 14, 15, 16, 17, 18, 19] rfl)
                    · skip
                      refine lv_iconst (v := iI (0)) hx hb dL_law_994 rfl ?_
                      refine lv_istore (lv' := [(20, .int (iI (0))), (19, .int (iI (((i : Nat) : Int)))), (7, .int (iI (1))), (18, .int (iI (v2))), (17, .int (iI (ot))), (16, .int (iI (cl))), (15, .int (iI (rw0))), (14, .int (iI (tl))), (13, .int (iI (((a : Nat) : Int)))), (12, .int (iI (wh))), (11, .int (iI (w))), (8, .int (iI (dd))), (9, .int (iI (mm))), (10, .int (iI (((t : Nat) : Int)))), (0, .ref (b)), (1, .ref (ad 21)), (2, .int (iI (v))), (3, .ref (ad 19)), (4, .ref (ad 20)), (5, .ref (ad 31)), (6, .ref (ad 32))]) hx hb dL_law_995 hl (by decide) rfl (fun ls hl => ?_)
                      have hloop997 : ∀ (N : Nat)  (j : Nat) (H : Heap) (locs : List Loc) (ls : Array Slot), 9 - j < N → (j ≤ i) →  GH D cy ad n std A s.heap H locs → lv_has ls 22 [(20, .int (iI (((j : Nat) : Int)))), (19, .int (iI (((i : Nat) : Int)))), (7, .int (iI (1))), (18, .int (iI (v2))), (17, .int (iI (ot))), (16, .int (iI (cl))), (15, .int (iI (rw0))), (14, .int (iI (tl))), (13, .int (iI (((a : Nat) : Int)))), (12, .int (iI (wh))), (11, .int (iI (w))), (8, .int (iI (dd))), (9, .int (iI (mm))), (10, .int (iI (((t : Nat) : Int)))), (0, .ref (b)), (1, .ref (ad 21)), (2, .int (iI (v))), (3, .ref (ad 19)), (4, .ref (ad 20)), (5, .ref (ad 31)), (6, .ref (ad 32))] → W p l e room_1 s m #[Value.ref b] below meth c H locs (cells + 1300 + 40 * i + 4 * j) (slots + 7800 + 240 * i + 24 * j) Q (F0 m 997 ls []) := by
                        intro N
                        induction N with
                        | zero => intro  j H locs ls hm; exact absurd hm (Nat.not_lt_zero _)
                        | succ N ih997 =>
                          intro  j H locs ls hm hj hG hl
                          refine lv_iload hx hb dL_law_997 (lv_at hl 0 rfl) ?_
                          refine lv_iload hx hb dL_law_999 (lv_at hl 1 rfl) ?_
                          refine r_icmp_ge (tgt := 1041) hx hb (by omega) dL_law_1001 (by decide) (fun c23 => ?_) (fun c23 => ?_)
                          · skip
                            obtain ⟨v24, ev24⟩ : ∃ y9 : Int, y9 = ((i : Nat) : Int) + (1) := ⟨_, rfl⟩
                            refine lv_iinc (v := iI v24) (lv' := [(19, .int (iI (v24))), (20, .int (iI (((j : Nat) : Int)))), (7, .int (iI (1))), (18, .int (iI (v2))), (17, .int (iI (ot))), (16, .int (iI (cl))), (15, .int (iI (rw0))), (14, .int (iI (tl))), (13, .int (iI (((a : Nat) : Int)))), (12, .int (iI (wh))), (11, .int (iI (w))), (8, .int (iI (dd))), (9, .int (iI (mm))), (10, .int (iI (((t : Nat) : Int)))), (0, .ref (b)), (1, .ref (ad 21)), (2, .int (iI (v))), (3, .ref (ad 19)), (4, .ref (ad 20)), (5, .ref (ad 31)), (6, .ref (ad 32))]) hx hb dL_law_1041 hl (k := 1) rfl (by rw [ev24]; exact iI_add _ _) (by decide) rfl (fun ls hl => ?_)
                            refine lv_goto (tgt := 985) hx hb dL_law_1044 (by decide) ?_
                            refine W.widen (k := cells + 1300 + 40 * (i + 1)) (n := slots + 7800 + 240 * (i + 1)) (by omega) (by omega) ?_
                            rw [show (v24 : Int) = (((i + 1) : Nat) : Int) from by omega] at hl
                            exact ih985  (i + 1) _ _ _ (by omega) (by omega) hG (lv_sub hl [0, 2, 3, 4, 5, 6, 7, 8, 9, 10, 11, 12, 13, 14, 15, 16, 17, 18, 19, 20] rfl)
                          · skip
                            refine lv_iload hx hb dL_law_1004 (lv_at hl 2 rfl) ?_
                            refine r_if_eq (tgt := 1032) hx hb (by omega) dL_law_1006 (by decide) (fun c25 => ?_) (fun c25 => ?_)
                            · skip
                              exact absurd c25 (by omega)
                            · skip
                              refine lv_aload_n hx hb dL_law_1009 rfl (lv_at hl 15 rfl) ?_
                              refine lv_iload hx hb dL_law_1010 (lv_at hl 8 rfl) ?_
                              refine lv_iload hx hb dL_law_1012 (lv_at hl 1 rfl) ?_
                              have hkr2 := kRow_s std ((a : Nat) : Int) (i : Int)
                              refine g_goi hG hA (va_runV (As := [.int (iI (((a : Nat) : Int))), .int (iI (((i : Nat) : Int)))]) (rest := []) ⟨hx, hb, hml, hown, hts⟩ (pX5_rowOf l D cy ad n std _ fz _ hn hI (by omega) (((a : Nat) : Int)) (((i : Nat) : Int)) (by omega) (by omega) hlf hnl hR (by omega)) (cwV 2 hts gL_law_X5_rowOf rfl rfl rfl (by decide +kernel) ⟨Nat.le_of_ble_eq_true rfl, Nat.le_of_ble_eq_true rfl⟩) ⟨g_blind, va_recv hK hG.1 (q0 := 21 - 19) (ci := 5) rfl ((gw_at (k := 21) (by omega)).trans (by rw [gC_21 std ad cy])), g_pre hK hG hA hN hZ⟩ rfl rfl hl.1 rfl (lv_room (Nat.le_of_ble_eq_true rfl)) dL_law_1014 ⟨Nat.le_trans (by omega) hcs.1, Nat.le_trans (by omega) hcs.2⟩) (fun r9 s9 H locs hp hG => ?_)
                              obtain ⟨rfl, hs9⟩ := hp
                              rw [hs9] at hG
                              clear hs9
                              refine r_nm (fun v26 ev26 => ?_)
                              have hr1 : v26 = std 63 a (i : Int) := by rw [ev26, ean, if_neg (by omega)]
                              have hr1r := gI_63 hI a (i : Int)
                              refine lv_aload_n hx hb dL_law_1017 rfl (lv_at hl 15 rfl) ?_
                              refine lv_iload hx hb dL_law_1018 (lv_at hl 8 rfl) ?_
                              refine lv_iload hx hb dL_law_1020 (lv_at hl 0 rfl) ?_
                              have hkr3 := kRow_s std ((a : Nat) : Int) (j : Int)
                              refine g_goi hG hA (va_runV (As := [.int (iI (((a : Nat) : Int))), .int (iI (((j : Nat) : Int)))]) (rest := [.int (iI (v26))]) ⟨hx, hb, hml, hown, hts⟩ (pX5_rowOf l D cy ad n std _ fz _ hn hI (by omega) (((a : Nat) : Int)) (((j : Nat) : Int)) (by omega) (by omega) hlf hnl hR (by omega)) (cwV 2 hts gL_law_X5_rowOf rfl rfl rfl (by decide +kernel) ⟨Nat.le_of_ble_eq_true rfl, Nat.le_of_ble_eq_true rfl⟩) ⟨g_blind, va_recv hK hG.1 (q0 := 21 - 19) (ci := 5) rfl ((gw_at (k := 21) (by omega)).trans (by rw [gC_21 std ad cy])), g_pre hK hG hA hN hZ⟩ rfl rfl hl.1 rfl (lv_room (Nat.le_of_ble_eq_true rfl)) dL_law_1022 ⟨Nat.le_trans (by omega) hcs.1, Nat.le_trans (by omega) hcs.2⟩) (fun r9 s9 H locs hp hG => ?_)
                              obtain ⟨rfl, hs9⟩ := hp
                              rw [hs9] at hG
                              clear hs9
                              refine r_nm (fun v27 ev27 => ?_)
                              have hr2 : v27 = std 63 a (j : Int) := by rw [ev27, ean, if_neg (by omega)]
                              have hr2r := gI_63 hI a (j : Int)
                              have hdis := hJ4.2.2.1.2.2.2.2.1 a j i haa (by omega) (by omega)
                              refine r_icmp_eq (tgt := 1032) hx hb (by omega) dL_law_1025 (by decide) (fun c28 => ?_) (fun c28 => ?_)
                              · skip
                                exact absurd c28 (by omega)
                              · skip
                                refine lv_iconst (v := iI (1)) hx hb dL_law_1028 rfl ?_
                                refine lv_goto (tgt := 1033) hx hb dL_law_1029 (by decide) ?_
                                refine lv_istore (lv' := [(7, .int (iI (1))), (20, .int (iI (((j : Nat) : Int)))), (19, .int (iI (((i : Nat) : Int)))), (18, .int (iI (v2))), (17, .int (iI (ot))), (16, .int (iI (cl))), (15, .int (iI (rw0))), (14, .int (iI (tl))), (13, .int (iI (((a : Nat) : Int)))), (12, .int (iI (wh))), (11, .int (iI (w))), (8, .int (iI (dd))), (9, .int (iI (mm))), (10, .int (iI (((t : Nat) : Int)))), (0, .ref (b)), (1, .ref (ad 21)), (2, .int (iI (v))), (3, .ref (ad 19)), (4, .ref (ad 20)), (5, .ref (ad 31)), (6, .ref (ad 32))]) hx hb dL_law_1033 hl (by decide) rfl (fun ls hl => ?_)
                                obtain ⟨v29, ev29⟩ : ∃ y9 : Int, y9 = ((j : Nat) : Int) + (1) := ⟨_, rfl⟩
                                refine lv_iinc (v := iI v29) (lv' := [(20, .int (iI (v29))), (7, .int (iI (1))), (19, .int (iI (((i : Nat) : Int)))), (18, .int (iI (v2))), (17, .int (iI (ot))), (16, .int (iI (cl))), (15, .int (iI (rw0))), (14, .int (iI (tl))), (13, .int (iI (((a : Nat) : Int)))), (12, .int (iI (wh))), (11, .int (iI (w))), (8, .int (iI (dd))), (9, .int (iI (mm))), (10, .int (iI (((t : Nat) : Int)))), (0, .ref (b)), (1, .ref (ad 21)), (2, .int (iI (v))), (3, .ref (ad 19)), (4, .ref (ad 20)), (5, .ref (ad 31)), (6, .ref (ad 32))]) hx hb dL_law_1035 hl (k := 1) rfl (by rw [ev29]; exact iI_add _ _) (by decide) rfl (fun ls hl => ?_)
                                refine lv_goto (tgt := 997) hx hb dL_law_1038 (by decide) ?_
                                refine W.widen (k := cells + 1300 + 40 * i + 4 * (j + 1)) (n := slots + 7800 + 240 * i + 24 * (j + 1)) (by omega) (by omega) ?_
                                rw [show (v29 : Int) = (((j + 1) : Nat) : Int) from by omega] at hl
                                exact ih997  (j + 1) _ _ _ (by omega) (by omega) hG (lv_sub hl [0, 2, 1, 3, 4, 5, 6, 7, 8, 9, 10, 11, 12, 13, 14, 15, 16, 17, 18, 19, 20] rfl)
                      refine W.widen (k := cells + 1300 + 40 * i + 4 * 0) (n := slots + 7800 + 240 * i + 24 * 0) (by omega) (by omega) ?_
                      exact hloop997 _  (0) _ _ _ (Nat.lt_succ_self _) (by omega) hG (lv_sub hl [0, 1, 2, 3, 4, 5, 6, 7, 8, 9, 10, 11, 12, 13, 14, 15, 16, 17, 18, 19, 20] rfl)
                refine W.widen (k := cells + 1300 + 40 * 0) (n := slots + 7800 + 240 * 0) (by omega) (by omega) ?_
                exact hloop985 _  (0) _ _ _ (Nat.lt_succ_self _) (by omega) hG (lv_sub hl [0, 1, 2, 3, 4, 5, 6, 7, 8, 9, 10, 11, 12, 13, 14, 15, 16, 17, 18, 19] rfl)
  refine lv_iload hx hb dL_law_847 (lv_at hl 2 rfl) ?_
  refine lv_aload hx hb dL_law_849 (lv_at hl 15 rfl) ?_
  refine lv_iconst (v := iI (1)) hx hb dL_law_851 rfl ?_
  refine lv_iload hx hb dL_law_852 (lv_at hl 3 rfl) ?_
  refine r_isub hx hb dL_law_854 ?_
  refine r_nm (fun v30 ev30 => ?_)
  refine g_iald hx hb hK hG (31) (kd := 31) (o := 0) rfl rfl (by omega) (cp := 82) (ln := 2) rfl rfl (by omega) dL_law_855 ?_
  refine r_nm (fun v31 ev31 => ?_)
  have hta : v31 = st 66 a' 0 := by rw [ev31, ← b82]; congr 1; omega
  refine r_icmp_ne (tgt := 863) hx hb (by omega) dL_law_856 (by decide) (fun c32 => ?_) (fun c32 => ?_)
  · skip
    refine lv_iload hx hb dL_law_863 (lv_at hl 2 rfl) ?_
    exact hlab865 (tl)  _ _ _ (by omega) (by omega) hG (lv_sub hl [0, 1, 2, 3, 4, 5, 6, 7, 8, 9, 10, 11, 12, 13, 14, 15, 16] rfl)
  · skip
    refine lv_iconst (v := iI (3)) hx hb dL_law_859 rfl ?_
    refine lv_goto (tgt := 865) hx hb dL_law_860 (by decide) ?_
    exact hlab865 (3)  _ _ _ (by omega) (by omega) hG (lv_sub hl [0, 1, 2, 3, 4, 5, 6, 7, 8, 9, 10, 11, 12, 13, 14, 15, 16] rfl)
