set_option maxHeartbeats 400000 in
set_option maxRecDepth 100000 in
theorem mX5_next (l : Launch) (D : va_G) (cy : Nat → ClassId) (ad : Nat → Nat) (n : Nat) (st : St) (sz fz : Nat) (wb : Int) (hn : 75 ≤ n) (hI : GI wb st) (hW : wb ≤ 2000000) (a : Int) (b : Int) (ha : -2147483648 ≤ a ∧ a < 2147483648) (hb : -2147483648 ≤ b ∧ b < 2147483648) (hlf : l.stackTraces = false) (hnl : (n : Int) = 75 + 3 * st 33 0 0) (hR : RY st) : vx_Met l yX5_next wsX5_next ({ frames := 7, cells := 3, slots := 18, locals := 111 }) (va_Pc [.ref (ad 21), .int (iI (a)), .int (iI (b))] (gB D cy ad n st sz fz)) (va_Qi (fun (r : Int32) (st' : St) => kNext st a b = 0 ∧ (r = iI (st 65 (a).toNat 0) ∧ st' = ust st 65 (a).toNat 0 b) ∧ GI wb st') (gP D cy ad n) (gA n ad sz)) (gX D cy ad n (fun (E : String) (st' : St) => xE [xI, xA] E (kNext st a b) ∧ st' = st) (gA n ad sz)) 3 18 (gA n ad sz) := by
  refine vx_ofW (cc := cX5_next) (maxL := 6) (ret := (some .int)) (by decide) rfl ?_
  intro p e s m args below meth c s₁ B hml hnt hv
  obtain ⟨rfl, hsz, hP, hK, hD0, hN, hZ⟩ := hv
  have hx := B.exec
  have hb := B.bytes
  have hr := B.returns
  have hts := atoms_spec (ws := wsX5_next) B.pre
  have hown : s.vm.findClass RX5 = some m.cls := findClass_of_methodNamed B.named
  have hlocks := B.notSynchronized
  subst hsz
  have hA : ∀ q : Nat, s.heap.size ≤ q → gA n ad s.heap.size q := fun q h => Or.inr h
  have hG : GH D cy ad n st (gA n ad s.heap.size) s.heap s.heap [] := ⟨hP, gw_A hD0, va_S.rf⟩
  have hl := lv_entry ([.ref (ad 21), .int (iI (a)), .int (iI (b))]) (n := 6) (Nat.le_of_ble_eq_true rfl)
  rw [lg_entry_eq]
  generalize (lg_sl ([.ref (ad 21), .int (iI (a)), .int (iI (b))]) ++ List.replicate (6 - (lg_sl ([.ref (ad 21), .int (iI (a)), .int (iI (b))])).length) Slot.unset).toArray = ls at hl ⊢
  have hl : lv_has ls 6 [(0, .ref (ad 21)), (1, .int (iI (a))), (2, .int (iI (b)))] := hl
  have hin5 : ∀ w ∈ u_ws RX5 TX5 6, w ∈ wsX5_next := by decide +kernel
  have hin0 : ∀ w ∈ u_ws RX0 TX0 8, w ∈ wsX5_next := by decide +kernel
  have L_95 := hts (.fieldLink RX5 95 "Crossbarry$Layer" "nextLayer" "LCrossbarry$Layer;") (by decide +kernel)
  have L_99 := hts (.fieldLink RX5 99 "Crossbarry$Layer" "number" "I") (by decide +kernel)
  obtain ⟨⟨hR1, hR2, hR3, hR4⟩, hRl, hRw, hRr, hRc, hRt, hRo, hRk, hsc, hsi, hch, hun, hfr⟩ := id hR
  have h33 := gI_33 hI 0 0
  refine lv_aload_n hx hb dX5_next_0 rfl (lv_at hl 0 rfl) ?_
  refine lv_iload_n hx hb dX5_next_1 rfl (lv_at hl 1 rfl) ?_
  refine gx_gor hG hA (vx_runV (As := [.int (iI (a))]) (rest := []) ⟨hx, hb, hml, hown, hts⟩ (mX5_layerAt l D cy ad n st _ fz wb hn hI (by omega) (a) hlf hnl (by omega)) (cwV 1 hts gX5_next_X5_layerAt rfl rfl rfl (by decide +kernel) ⟨Nat.le_of_ble_eq_true rfl, Nat.le_of_ble_eq_true rfl⟩) ⟨g_blind, va_recv hK hG.1 (q0 := 21 - 19) (ci := 5) rfl ((gw_at (k := 21) (by omega)).trans (by rw [gC_21 st ad cy])), g_pre hK hG hA hN hZ⟩ rfl rfl hl.1 rfl (lv_room (Nat.le_of_ble_eq_true rfl)) dX5_next_2 ⟨Nat.le_of_ble_eq_true rfl, Nat.le_of_ble_eq_true rfl⟩) (fun E9 st9 H locs ce9 q9 hp hG hce hcv hcl => ?_) (fun s9 H locs hp hG => ?_)
  · skip
    obtain ⟨⟨rfl, hcx⟩, hs9⟩ := hp
    rw [hs9] at hG
    clear hs9
    exact g_out hnt hlocks hG hce hcv hcl (by
      refine ⟨?_, rfl⟩
      have hks := kNext_s st a b
      first
        | exact ⟨0, rfl, by omega⟩
        | exact ⟨1, rfl, by omega⟩
        | exact ⟨2, rfl, by omega⟩) (Nat.le_of_ble_eq_true rfl) (Nat.le_of_ble_eq_true rfl)
  obtain ⟨hcr, hs9⟩ := hp
  rw [hs9] at hG
  clear hs9
  obtain ⟨q, hq⟩ : ∃ z9 : Nat, z9 = ((a)).toNat := ⟨_, rfl⟩
  rw [← hq]
  have huq : ((q : Nat) : Int) = (a) := by omega
  have hlq := hRl q (by omega)
  rw [huq] at hlq
  have hcq := hch a (by omega) (by omega)
  refine lv_astore_n (lv' := [(3, .ref (ad (75 + 3 * q))), (0, .ref (ad 21)), (1, .int (iI (a))), (2, .int (iI (b)))]) hx hb dX5_next_5 rfl hl (by decide) rfl (fun ls hl => ?_)
  refine lv_iload_n hx hb dX5_next_6 rfl (lv_at hl 3 rfl) ?_
  refine lv_iconst (v := iI (-1)) hx hb dX5_next_7 rfl ?_
  refine r_icmp_ne (tgt := 15) hx hb (by omega) dX5_next_8 (by decide) (fun c1 => ?_) (fun c1 => ?_)
  · skip
    refine lv_aload_n hx hb dX5_next_15 rfl (lv_at hl 1 rfl) ?_
    refine lv_iload_n hx hb dX5_next_16 rfl (lv_at hl 3 rfl) ?_
    refine gx_gor hG hA (vx_runV (As := [.int (iI (b))]) (rest := []) ⟨hx, hb, hml, hown, hts⟩ (mX5_layerAt l D cy ad n st _ fz wb hn hI (by omega) (b) hlf hnl (by omega)) (cwV 1 hts gX5_next_X5_layerAt rfl rfl rfl (by decide +kernel) ⟨Nat.le_of_ble_eq_true rfl, Nat.le_of_ble_eq_true rfl⟩) ⟨g_blind, va_recv hK hG.1 (q0 := 21 - 19) (ci := 5) rfl ((gw_at (k := 21) (by omega)).trans (by rw [gC_21 st ad cy])), g_pre hK hG hA hN hZ⟩ rfl rfl hl.1 rfl (lv_room (Nat.le_of_ble_eq_true rfl)) dX5_next_17 ⟨Nat.le_of_ble_eq_true rfl, Nat.le_of_ble_eq_true rfl⟩) (fun E9 st9 H locs ce9 q9 hp hG hce hcv hcl => ?_) (fun s9 H locs hp hG => ?_)
    · skip
      obtain ⟨⟨rfl, hcx⟩, hs9⟩ := hp
      rw [hs9] at hG
      clear hs9
      exact g_out hnt hlocks hG hce hcv hcl (by
        refine ⟨?_, rfl⟩
        have hks := kNext_s st a b
        first
          | exact ⟨0, rfl, by omega⟩
          | exact ⟨1, rfl, by omega⟩
          | exact ⟨2, rfl, by omega⟩) (Nat.le_of_ble_eq_true rfl) (Nat.le_of_ble_eq_true rfl)
    obtain ⟨hcr, hs9⟩ := hp
    rw [hs9] at hG
    clear hs9
    obtain ⟨q2, hq2⟩ : ∃ z9 : Nat, z9 = ((b)).toNat := ⟨_, rfl⟩
    rw [← hq2]
    have huq2 : ((q2 : Nat) : Int) = (b) := by omega
    have hlq2 := hRl q2 (by omega)
    rw [huq2] at hlq2
    refine lv_astore (lv' := [(4, .ref (ad (75 + 3 * q2))), (3, .ref (ad (75 + 3 * q))), (0, .ref (ad 21)), (1, .int (iI (a))), (2, .int (iI (b)))]) hx hb dX5_next_20 hl (by decide) rfl (fun ls hl => ?_)
    refine lv_aload hx hb dX5_next_22 (lv_at hl 0 rfl) ?_
    refine lv_ifnull hx hb dX5_next_24 ?_
    refine lv_aload_n hx hb dX5_next_27 rfl (lv_at hl 1 rfl) ?_
    refine lv_aload hx hb dX5_next_28 (lv_at hl 0 rfl) ?_
    refine g_goi hG hA (va_runV (As := [.ref (ad (75 + 3 * q2))]) (rest := []) ⟨hx, hb, hml, hown, hts⟩ (mX0_canGoOnTo l D cy ad n st _ fz wb hn hI (by omega) (q) (q2) (by omega) (by omega) (by omega) (by omega)) (cwV 1 hts gX5_next_X0_canGoOnTo rfl rfl rfl (by decide +kernel) ⟨Nat.le_of_ble_eq_true rfl, Nat.le_of_ble_eq_true rfl⟩) ⟨g_blind, va_recv hK hG.1 (q0 := (75 + 3 * q) - 19) (ci := 0) rfl ((gw_at (k := 75 + 3 * q) (by omega)).trans (by rw [gC_l st ad cy q])), g_pre hK hG hA hN hZ⟩ rfl rfl hl.1 rfl (lv_room (Nat.le_of_ble_eq_true rfl)) dX5_next_30 ⟨Nat.le_of_ble_eq_true rfl, Nat.le_of_ble_eq_true rfl⟩) (fun r9 s9 H locs hp hG => ?_)
    obtain ⟨rfl, hs9⟩ := hp
    rw [hs9] at hG
    clear hs9
    refine r_nm (fun v2 ev2 => ?_)
    have hgo := goC_s st q q2
    refine r_if_ne (tgt := 46) hx hb (by omega) dX5_next_33 (by decide) (fun c3 => ?_) (fun c3 => ?_)
    · skip
      refine lv_aload_n hx hb dX5_next_46 rfl (lv_at hl 1 rfl) ?_
      refine g_get hx hb hts hin0 hown hK hG (key := 75 + 3 * q) (by omega) (gC_l st ad cy q) rfl 6 (by decide) L_95 (fun _ h9 => h9) rfl dX5_next_47 ?_
      refine g_refs (fun hn4 => ?_) (fun t5 ht5 => ?_)
      · skip
        have hrhn4 := gI_65 hI q 0
        refine lv_ifnonnullN hx hb dX5_next_50 ?_
        refine lv_iconst (v := iI (-1)) hx hb dX5_next_53 rfl ?_
        refine lv_goto (tgt := 64) hx hb dX5_next_54 (by decide) ?_
        refine lv_istore (lv' := [(5, .int (iI (-1))), (4, .ref (ad (75 + 3 * q2))), (3, .ref (ad (75 + 3 * q))), (0, .ref (ad 21)), (1, .int (iI (a))), (2, .int (iI (b)))]) hx hb dX5_next_64 hl (by decide) rfl (fun ls hl => ?_)
        refine lv_aload_n hx hb dX5_next_66 rfl (lv_at hl 2 rfl) ?_
        refine lv_aload hx hb dX5_next_67 (lv_at hl 1 rfl) ?_
        refine g_put hx hb hts hin0 tyX0 tyX0_ok nmX0 hown hK hG (key := 75 + 3 * q) (by omega) (gC_l st ad cy q) rfl 6 (by decide) L_95 (fun _ h9 => h9) rfl (ty := (.object "Crossbarry$Layer")) (by decide +kernel) rfl rfl (Nat.le_of_ble_eq_true rfl) dX5_next_69 (ust st 65 q 0 (((q2 : Nat) : Int))) (fun j _ => gU_65r st ad cy (o := q) q2 j) (fun H locs hG => ?_)
        obtain ⟨st6, hst6⟩ : ∃ z : St, z = ust st 65 (q) (0) (((q2 : Nat) : Int)) := ⟨_, rfl⟩
        rw [← hst6] at hG
        replace hI := hst6 ▸ gIu_65 hI (q) (0) (v := ((q2 : Nat) : Int)) (by omega)
        refine lv_iload hx hb dX5_next_72 (lv_at hl 0 rfl) ?_
        refine W.widen (k := 3) (n := 18) (by omega) (by omega) ?_
        refine vx_ret ?_
        exact g_iret hx hb hr hlocks hG (by
          have hks := kNext_s st a b
          refine ⟨by omega, ?_, hI⟩
          try rw [← hq]
          exact ⟨by first | rfl | (congr 1; done) | (congr 1; omega), by rw [hst6]; first | rfl | (congr 1; done) | (congr 1; omega)⟩) dX5_next_74
      · skip
        have hrt5 := gI_65 hI q 0
        have hbt5 : t5 < 6 := by omega
        refine lv_ifnonnull (tgt := 57) hx hb dX5_next_50 (by decide) ?_
        refine lv_aload_n hx hb dX5_next_57 rfl (lv_at hl 1 rfl) ?_
        refine g_get hx hb hts hin0 hown hK hG (key := 75 + 3 * q) (by omega) (gC_l st ad cy q) rfl 6 (by decide) L_95 (fun _ h9 => h9) rfl dX5_next_58 ?_
        refine g_refs (fun hn9 => absurd hn9 (by omega)) (fun tz9 htz9 => ?_)
        rw [show tz9 = t5 by omega]
        clear htz9
        refine g_get hx hb hts hin0 hown hK hG (key := 75 + 3 * t5) (by omega) (gC_l st ad cy t5) rfl 0 (by decide) L_99 (fun _ h9 => h9) rfl dX5_next_61 ?_
        refine lv_istore (lv' := [(5, .int (iI (((t5 : Nat) : Int)))), (4, .ref (ad (75 + 3 * q2))), (3, .ref (ad (75 + 3 * q))), (0, .ref (ad 21)), (1, .int (iI (a))), (2, .int (iI (b)))]) hx hb dX5_next_64 hl (by decide) rfl (fun ls hl => ?_)
        refine lv_aload_n hx hb dX5_next_66 rfl (lv_at hl 2 rfl) ?_
        refine lv_aload hx hb dX5_next_67 (lv_at hl 1 rfl) ?_
        refine g_put hx hb hts hin0 tyX0 tyX0_ok nmX0 hown hK hG (key := 75 + 3 * q) (by omega) (gC_l st ad cy q) rfl 6 (by decide) L_95 (fun _ h9 => h9) rfl (ty := (.object "Crossbarry$Layer")) (by decide +kernel) rfl rfl (Nat.le_of_ble_eq_true rfl) dX5_next_69 (ust st 65 q 0 (((q2 : Nat) : Int))) (fun j _ => gU_65r st ad cy (o := q) q2 j) (fun H locs hG => ?_)
        obtain ⟨st7, hst7⟩ : ∃ z : St, z = ust st 65 (q) (0) (((q2 : Nat) : Int)) := ⟨_, rfl⟩
        rw [← hst7] at hG
        replace hI := hst7 ▸ gIu_65 hI (q) (0) (v := ((q2 : Nat) : Int)) (by omega)
        refine lv_iload hx hb dX5_next_72 (lv_at hl 0 rfl) ?_
        refine W.widen (k := 3) (n := 18) (by omega) (by omega) ?_
        refine vx_ret ?_
        exact g_iret hx hb hr hlocks hG (by
          have hks := kNext_s st a b
          refine ⟨by omega, ?_, hI⟩
          try rw [← hq]
          exact ⟨by first | rfl | (congr 1; done) | (congr 1; omega), by rw [hst7]; first | rfl | (congr 1; done) | (congr 1; omega)⟩) dX5_next_74
    · skip
      exact g_xthrow (ik := 90) (is := 92) (ic := 94) (cls := xA) (text := "no chain can go on there") hx hb hlf hown hts xftA xnbA xgdA (by decide +kernel) (by decide +kernel) (by decide +kernel) (by decide +kernel) hN hZ hG (hl.1.trans hml.symm) dX5_next_36 dX5_next_39 dX5_next_40 dX5_next_42 dX5_next_45 hnt (Nat.le_of_ble_eq_true rfl) (Nat.le_of_ble_eq_true rfl) (Nat.le_of_ble_eq_true rfl) (Nat.le_of_ble_eq_true rfl) hlocks (by
        refine ⟨?_, rfl⟩
        have hks := kNext_s st a b
        first
          | exact ⟨0, rfl, by omega⟩
          | exact ⟨1, rfl, by omega⟩
          | exact ⟨2, rfl, by omega⟩) (Nat.le_of_ble_eq_true rfl) (Nat.le_of_ble_eq_true rfl)
  · skip
    refine lv_null hx hb dX5_next_11 ?_
    refine lv_goto (tgt := 20) hx hb dX5_next_12 (by decide) ?_
    refine lv_astoreN (lv' := [(4, .null), (3, .ref (ad (75 + 3 * q))), (0, .ref (ad 21)), (1, .int (iI (a))), (2, .int (iI (b)))]) hx hb dX5_next_20 hl (by decide) rfl (fun ls hl => ?_)
    refine lv_aloadN hx hb dX5_next_22 (lv_at hl 0 rfl) ?_
    refine lv_ifnullN (tgt := 46) hx hb dX5_next_24 (by decide) ?_
    refine lv_aload_n hx hb dX5_next_46 rfl (lv_at hl 1 rfl) ?_
    refine g_get hx hb hts hin0 hown hK hG (key := 75 + 3 * q) (by omega) (gC_l st ad cy q) rfl 6 (by decide) L_95 (fun _ h9 => h9) rfl dX5_next_47 ?_
    refine g_refs (fun hn8 => ?_) (fun t9 ht9 => ?_)
    · skip
      have hrhn8 := gI_65 hI q 0
      refine lv_ifnonnullN hx hb dX5_next_50 ?_
      refine lv_iconst (v := iI (-1)) hx hb dX5_next_53 rfl ?_
      refine lv_goto (tgt := 64) hx hb dX5_next_54 (by decide) ?_
      refine lv_istore (lv' := [(5, .int (iI (-1))), (4, .null), (3, .ref (ad (75 + 3 * q))), (0, .ref (ad 21)), (1, .int (iI (a))), (2, .int (iI (b)))]) hx hb dX5_next_64 hl (by decide) rfl (fun ls hl => ?_)
      refine lv_aload_n hx hb dX5_next_66 rfl (lv_at hl 2 rfl) ?_
      refine lv_aloadN hx hb dX5_next_67 (lv_at hl 1 rfl) ?_
      refine g_put hx hb hts hin0 tyX0 tyX0_ok nmX0 hown hK hG (key := 75 + 3 * q) (by omega) (gC_l st ad cy q) rfl 6 (by decide) L_95 (fun _ h9 => h9) rfl (ty := (.object "Crossbarry$Layer")) (by decide +kernel) rfl rfl (Nat.le_of_ble_eq_true rfl) dX5_next_69 (ust st 65 q 0 (-1)) (fun j _ => gU_65n st ad cy (o := q) j) (fun H locs hG => ?_)
      obtain ⟨st10, hst10⟩ : ∃ z : St, z = ust st 65 (q) (0) (-1) := ⟨_, rfl⟩
      rw [← hst10] at hG
      replace hI := hst10 ▸ gIu_65 hI (q) (0) (v := -1) (by omega)
      refine lv_iload hx hb dX5_next_72 (lv_at hl 0 rfl) ?_
      refine W.widen (k := 3) (n := 18) (by omega) (by omega) ?_
      refine vx_ret ?_
      exact g_iret hx hb hr hlocks hG (by
        have hks := kNext_s st a b
        refine ⟨by omega, ?_, hI⟩
        try rw [← hq]
        exact ⟨by first | rfl | (congr 1; done) | (congr 1; omega), by rw [hst10]; first | rfl | (congr 1; done) | (congr 1; omega)⟩) dX5_next_74
    · skip
      have hrt9 := gI_65 hI q 0
      have hbt9 : t9 < 6 := by omega
      refine lv_ifnonnull (tgt := 57) hx hb dX5_next_50 (by decide) ?_
      refine lv_aload_n hx hb dX5_next_57 rfl (lv_at hl 1 rfl) ?_
      refine g_get hx hb hts hin0 hown hK hG (key := 75 + 3 * q) (by omega) (gC_l st ad cy q) rfl 6 (by decide) L_95 (fun _ h9 => h9) rfl dX5_next_58 ?_
      refine g_refs (fun hn9 => absurd hn9 (by omega)) (fun tz9 htz9 => ?_)
      rw [show tz9 = t9 by omega]
      clear htz9
      refine g_get hx hb hts hin0 hown hK hG (key := 75 + 3 * t9) (by omega) (gC_l st ad cy t9) rfl 0 (by decide) L_99 (fun _ h9 => h9) rfl dX5_next_61 ?_
      refine lv_istore (lv' := [(5, .int (iI (((t9 : Nat) : Int)))), (4, .null), (3, .ref (ad (75 + 3 * q))), (0, .ref (ad 21)), (1, .int (iI (a))), (2, .int (iI (b)))]) hx hb dX5_next_64 hl (by decide) rfl (fun ls hl => ?_)
      refine lv_aload_n hx hb dX5_next_66 rfl (lv_at hl 2 rfl) ?_
      refine lv_aloadN hx hb dX5_next_67 (lv_at hl 1 rfl) ?_
      refine g_put hx hb hts hin0 tyX0 tyX0_ok nmX0 hown hK hG (key := 75 + 3 * q) (by omega) (gC_l st ad cy q) rfl 6 (by decide) L_95 (fun _ h9 => h9) rfl (ty := (.object "Crossbarry$Layer")) (by decide +kernel) rfl rfl (Nat.le_of_ble_eq_true rfl) dX5_next_69 (ust st 65 q 0 (-1)) (fun j _ => gU_65n st ad cy (o := q) j) (fun H locs hG => ?_)
      obtain ⟨st11, hst11⟩ : ∃ z : St, z = ust st 65 (q) (0) (-1) := ⟨_, rfl⟩
      rw [← hst11] at hG
      replace hI := hst11 ▸ gIu_65 hI (q) (0) (v := -1) (by omega)
      refine lv_iload hx hb dX5_next_72 (lv_at hl 0 rfl) ?_
      refine W.widen (k := 3) (n := 18) (by omega) (by omega) ?_
      refine vx_ret ?_
      exact g_iret hx hb hr hlocks hG (by
        have hks := kNext_s st a b
        refine ⟨by omega, ?_, hI⟩
        try rw [← hq]
        exact ⟨by first | rfl | (congr 1; done) | (congr 1; omega), by rw [hst11]; first | rfl | (congr 1; done) | (congr 1; omega)⟩) dX5_next_74
set_option maxHeartbeats 400000 in
set_option maxRecDepth 100000 in
theorem mX5_load (l : Launch) (D : va_G) (cy : Nat → ClassId) (ad : Nat → Nat) (n : Nat) (st : St) (sz fz : Nat) (wb : Int) (hn : 75 ≤ n) (hI : GI wb st) (hW : wb ≤ 1900000) (a : Int) (ha : -2147483648 ≤ a ∧ a < 2147483648) (hlf : l.stackTraces = false) (hnl : (n : Int) = 75 + 3 * st 33 0 0) (hR : RY st) : vx_Met l yX5_load wsX5_load ({ frames := 7, cells := 2, slots := 12, locals := 111 }) (va_Pc [.ref (ad 21), .int (iI (a))] (gB D cy ad n st sz fz)) (va_Qi (fun (r : Int32) (st' : St) => kPlaced st a = 0 ∧ (r = iI (ldCF st (a).toNat (st 66 (a).toNat 0).toNat) ∧ st' = ldCS st (a).toNat (st 66 (a).toNat 0).toNat) ∧ GI (wb + 2048) st') (gP D cy ad n) (gA n ad sz)) (gX D cy ad n (fun (E : String) (st' : St) => xE [xI, xS] E (kPlaced st a) ∧ st' = st) (gA n ad sz)) 2 12 (gA n ad sz) := by
  refine vx_ofW (cc := cX5_load) (maxL := 3) (ret := (some .int)) (by decide) rfl ?_
  intro p e s m args below meth c s₁ B hml hnt hv
  obtain ⟨rfl, hsz, hP, hK, hD0, hN, hZ⟩ := hv
  have hx := B.exec
  have hb := B.bytes
  have hr := B.returns
  have hts := atoms_spec (ws := wsX5_load) B.pre
  have hown : s.vm.findClass RX5 = some m.cls := findClass_of_methodNamed B.named
  have hlocks := B.notSynchronized
  subst hsz
  have hA : ∀ q : Nat, s.heap.size ≤ q → gA n ad s.heap.size q := fun q h => Or.inr h
  have hG : GH D cy ad n st (gA n ad s.heap.size) s.heap s.heap [] := ⟨hP, gw_A hD0, va_S.rf⟩
  have hl := lv_entry ([.ref (ad 21), .int (iI (a))]) (n := 3) (Nat.le_of_ble_eq_true rfl)
  rw [lg_entry_eq]
  generalize (lg_sl ([.ref (ad 21), .int (iI (a))]) ++ List.replicate (3 - (lg_sl ([.ref (ad 21), .int (iI (a))])).length) Slot.unset).toArray = ls at hl ⊢
  have hl : lv_has ls 3 [(0, .ref (ad 21)), (1, .int (iI (a)))] := hl
  have hin5 : ∀ w ∈ u_ws RX5 TX5 6, w ∈ wsX5_load := by decide +kernel
  have hin0 : ∀ w ∈ u_ws RX0 TX0 8, w ∈ wsX5_load := by decide +kernel
  have L_12 := hts (.fieldLink RX5 12 "Crossbarry" "setting" "LCrossbarry$Setting;") (by decide +kernel)
  obtain ⟨⟨hR1, hR2, hR3, hR4⟩, hRl, hRw, hRr, hRc, hRt, hRo, hRk, hsc, hsi, hch, hun, hfr⟩ := id hR
  have h33 := gI_33 hI 0 0
  refine lv_aload_n hx hb dX5_load_0 rfl (lv_at hl 0 rfl) ?_
  refine lv_iload_n hx hb dX5_load_1 rfl (lv_at hl 1 rfl) ?_
  refine gx_gor hG hA (vx_runV (As := [.int (iI (a))]) (rest := []) ⟨hx, hb, hml, hown, hts⟩ (mX5_layerAt l D cy ad n st _ fz wb hn hI (by omega) (a) hlf hnl (by omega)) (cwV 1 hts gX5_load_X5_layerAt rfl rfl rfl (by decide +kernel) ⟨Nat.le_of_ble_eq_true rfl, Nat.le_of_ble_eq_true rfl⟩) ⟨g_blind, va_recv hK hG.1 (q0 := 21 - 19) (ci := 5) rfl ((gw_at (k := 21) (by omega)).trans (by rw [gC_21 st ad cy])), g_pre hK hG hA hN hZ⟩ rfl rfl hl.1 rfl (lv_room (Nat.le_of_ble_eq_true rfl)) dX5_load_2 ⟨Nat.le_of_ble_eq_true rfl, Nat.le_of_ble_eq_true rfl⟩) (fun E9 st9 H locs ce9 q9 hp hG hce hcv hcl => ?_) (fun s9 H locs hp hG => ?_)
  · skip
    obtain ⟨⟨rfl, hcx⟩, hs9⟩ := hp
    rw [hs9] at hG
    clear hs9
    exact g_out hnt hlocks hG hce hcv hcl (by
      refine ⟨?_, rfl⟩
      have hks := kPlaced_s st a
      first
        | exact ⟨0, rfl, by omega⟩
        | exact ⟨1, rfl, by omega⟩
        | exact ⟨2, rfl, by omega⟩) (Nat.le_of_ble_eq_true rfl) (Nat.le_of_ble_eq_true rfl)
  obtain ⟨hcr, hs9⟩ := hp
  rw [hs9] at hG
  clear hs9
  obtain ⟨q, hq⟩ : ∃ z9 : Nat, z9 = ((a)).toNat := ⟨_, rfl⟩
  rw [← hq]
  have huq : ((q : Nat) : Int) = (a) := by omega
  have hlq := hRl q (by omega)
  rw [huq] at hlq
  refine lv_astore_n (lv' := [(2, .ref (ad (75 + 3 * q))), (0, .ref (ad 21)), (1, .int (iI (a)))]) hx hb dX5_load_5 rfl hl (by decide) rfl (fun ls hl => ?_)
  refine lv_aload_n hx hb dX5_load_6 rfl (lv_at hl 0 rfl) ?_
  refine lv_aload_n hx hb dX5_load_7 rfl (lv_at hl 0 rfl) ?_
  refine gx_gor hG hA (vx_runS (As := [.ref (ad (75 + 3 * q))]) (rest := [.ref (ad (75 + 3 * q))]) ⟨hx, hb, hml, hown, hts⟩ (mX5_groundOf l D cy ad n st _ fz wb hn hI (by omega) (q) hlf (by omega)) (va_cwS 1 hts gX5_load_X5_groundOf rfl rfl rfl (by decide +kernel) ⟨Nat.le_of_ble_eq_true rfl, Nat.le_of_ble_eq_true rfl⟩) ⟨g_blind, g_pre hK hG hA hN hZ⟩ rfl rfl hl.1 rfl (lv_room (Nat.le_of_ble_eq_true rfl)) dX5_load_8 ⟨Nat.le_of_ble_eq_true rfl, Nat.le_of_ble_eq_true rfl⟩) (fun E9 st9 H locs ce9 q9 hp hG hce hcv hcl => ?_) (fun s9 H locs hp hG => ?_)
  · skip
    obtain ⟨⟨rfl, hcx⟩, hs9⟩ := hp
    rw [hs9] at hG
    clear hs9
    have hg66 := gI_66 (st := st) (by assumption) (q) 0
    exact g_out hnt hlocks hG hce hcv hcl (by
      refine ⟨?_, rfl⟩
      have hks := kPlaced_s st a
      first
        | exact ⟨0, rfl, by omega⟩
        | exact ⟨1, rfl, by omega⟩
        | exact ⟨2, rfl, by omega⟩) (Nat.le_of_ble_eq_true rfl) (Nat.le_of_ble_eq_true rfl)
  obtain ⟨hcr, hs9⟩ := hp
  rw [hs9] at hG
  clear hs9
  obtain ⟨t, ht⟩ : ∃ z9 : Nat, z9 = (st 66 (q) 0).toNat := ⟨_, rfl⟩
  rw [← ht]
  have hut : ((t : Nat) : Int) = st 66 (q) 0 := by omega
  have hrt := gI_66 (st := st) (by assumption) (q) 0
  have hbt : t < 6 := by omega
  refine lv_aload_n hx hb dX5_load_11 rfl (lv_at hl 1 rfl) ?_
  refine g_get hx hb hts hin5 hown hK hG (key := 21) (by omega) (gC_21 st ad cy) rfl 0 (by decide) L_12 (fun _ h9 => h9) rfl dX5_load_12 ?_
  refine g_goi hG hA (va_runV (As := [.ref (ad (33 + 7 * t)), .ref (ad 22)]) (rest := []) ⟨hx, hb, hml, hown, hts⟩ (mX0_writeOn l D cy ad n st _ fz wb hn hI (by omega) (q) (t) (by omega) (by omega) hsc) (cwV 2 hts gX5_load_X0_writeOn rfl rfl rfl (by decide +kernel) ⟨Nat.le_of_ble_eq_true rfl, Nat.le_of_ble_eq_true rfl⟩) ⟨g_blind, va_recv hK hG.1 (q0 := (75 + 3 * q) - 19) (ci := 0) rfl ((gw_at (k := 75 + 3 * q) (by omega)).trans (by rw [gC_l st ad cy q])), g_pre hK hG hA hN hZ⟩ rfl rfl hl.1 rfl (lv_room (Nat.le_of_ble_eq_true rfl)) dX5_load_15 ⟨Nat.le_of_ble_eq_true rfl, Nat.le_of_ble_eq_true rfl⟩) (fun r9 st1 H locs hp hG => ?_)
  obtain ⟨rfl, hs9, hI⟩ := hp
  refine r_nm (fun v2 ev2 => ?_)
  refine W.widen (k := 2) (n := 12) (by omega) (by omega) ?_
  refine vx_ret ?_
  exact g_iret hx hb hr hlocks hG (by
    have hks := kPlaced_s st a
    refine ⟨by omega, ?_, hI⟩
    try rw [← hq]
    try rw [← ht]
    exact ⟨by subst_vars; rfl, hs9⟩) dX5_load_18
set_option maxHeartbeats 400000 in
set_option maxRecDepth 100000 in
theorem mX5_lift (l : Launch) (D : va_G) (cy : Nat → ClassId) (ad : Nat → Nat) (n : Nat) (st : St) (sz fz : Nat) (wb : Int) (hn : 75 ≤ n) (hI : GI wb st) (hW : wb ≤ 2000000) (a : Int) (ha : -2147483648 ≤ a ∧ a < 2147483648) (hlf : l.stackTraces = false) (hnl : (n : Int) = 75 + 3 * st 33 0 0) (hR : RY st) : vx_Met l yX5_lift wsX5_lift ({ frames := 7, cells := 2, slots := 12, locals := 111 }) (va_Pc [.ref (ad 21), .int (iI (a))] (gB D cy ad n st sz fz)) (va_Qi (fun (r : Int32) (st' : St) => kPlaced st a = 0 ∧ (r = iI (st 66 (a).toNat 0) ∧ st' = ust (ust st 66 (a).toNat 0 (-1)) 50 (st 66 (a).toNat 0).toNat 0 0) ∧ GI wb st') (gP D cy ad n) (gA n ad sz)) (gX D cy ad n (fun (E : String) (st' : St) => xE [xI, xS] E (kPlaced st a) ∧ st' = st) (gA n ad sz)) 2 12 (gA n ad sz) := by
  refine vx_ofW (cc := cX5_lift) (maxL := 4) (ret := (some .int)) (by decide) rfl ?_
  intro p e s m args below meth c s₁ B hml hnt hv
  obtain ⟨rfl, hsz, hP, hK, hD0, hN, hZ⟩ := hv
  have hx := B.exec
  have hb := B.bytes
  have hr := B.returns
  have hts := atoms_spec (ws := wsX5_lift) B.pre
  have hown : s.vm.findClass RX5 = some m.cls := findClass_of_methodNamed B.named
  have hlocks := B.notSynchronized
  subst hsz
  have hA : ∀ q : Nat, s.heap.size ≤ q → gA n ad s.heap.size q := fun q h => Or.inr h
  have hG : GH D cy ad n st (gA n ad s.heap.size) s.heap s.heap [] := ⟨hP, gw_A hD0, va_S.rf⟩
  have hl := lv_entry ([.ref (ad 21), .int (iI (a))]) (n := 4) (Nat.le_of_ble_eq_true rfl)
  rw [lg_entry_eq]
  generalize (lg_sl ([.ref (ad 21), .int (iI (a))]) ++ List.replicate (4 - (lg_sl ([.ref (ad 21), .int (iI (a))])).length) Slot.unset).toArray = ls at hl ⊢
  have hl : lv_has ls 4 [(0, .ref (ad 21)), (1, .int (iI (a)))] := hl
  have hin5 : ∀ w ∈ u_ws RX5 TX5 6, w ∈ wsX5_lift := by decide +kernel
  have hin0 : ∀ w ∈ u_ws RX0 TX0 8, w ∈ wsX5_lift := by decide +kernel
  have hin4 : ∀ w ∈ u_ws RX4 TX4 12, w ∈ wsX5_lift := by decide +kernel
  have L_106 := hts (.fieldLink RX5 106 "Crossbarry$Layer" "ground" "LCrossbarry$Tile;") (by decide +kernel)
  have L_110 := hts (.fieldLink RX5 110 "Crossbarry$Tile" "isTaken" "Z") (by decide +kernel)
  have L_132 := hts (.fieldLink RX5 132 "Crossbarry$Tile" "number" "I") (by decide +kernel)
  obtain ⟨⟨hR1, hR2, hR3, hR4⟩, hRl, hRw, hRr, hRc, hRt, hRo, hRk, hsc, hsi, hch, hun, hfr⟩ := id hR
  have h33 := gI_33 hI 0 0
  refine lv_aload_n hx hb dX5_lift_0 rfl (lv_at hl 0 rfl) ?_
  refine lv_iload_n hx hb dX5_lift_1 rfl (lv_at hl 1 rfl) ?_
  refine gx_gor hG hA (vx_runV (As := [.int (iI (a))]) (rest := []) ⟨hx, hb, hml, hown, hts⟩ (mX5_layerAt l D cy ad n st _ fz wb hn hI (by omega) (a) hlf hnl (by omega)) (cwV 1 hts gX5_lift_X5_layerAt rfl rfl rfl (by decide +kernel) ⟨Nat.le_of_ble_eq_true rfl, Nat.le_of_ble_eq_true rfl⟩) ⟨g_blind, va_recv hK hG.1 (q0 := 21 - 19) (ci := 5) rfl ((gw_at (k := 21) (by omega)).trans (by rw [gC_21 st ad cy])), g_pre hK hG hA hN hZ⟩ rfl rfl hl.1 rfl (lv_room (Nat.le_of_ble_eq_true rfl)) dX5_lift_2 ⟨Nat.le_of_ble_eq_true rfl, Nat.le_of_ble_eq_true rfl⟩) (fun E9 st9 H locs ce9 q9 hp hG hce hcv hcl => ?_) (fun s9 H locs hp hG => ?_)
  · skip
    obtain ⟨⟨rfl, hcx⟩, hs9⟩ := hp
    rw [hs9] at hG
    clear hs9
    exact g_out hnt hlocks hG hce hcv hcl (by
      refine ⟨?_, rfl⟩
      have hks := kPlaced_s st a
      first
        | exact ⟨0, rfl, by omega⟩
        | exact ⟨1, rfl, by omega⟩
        | exact ⟨2, rfl, by omega⟩) (Nat.le_of_ble_eq_true rfl) (Nat.le_of_ble_eq_true rfl)
  obtain ⟨hcr, hs9⟩ := hp
  rw [hs9] at hG
  clear hs9
  obtain ⟨q, hq⟩ : ∃ z9 : Nat, z9 = ((a)).toNat := ⟨_, rfl⟩
  rw [← hq]
  have huq : ((q : Nat) : Int) = (a) := by omega
  have hlq := hRl q (by omega)
  rw [huq] at hlq
  refine lv_astore_n (lv' := [(2, .ref (ad (75 + 3 * q))), (0, .ref (ad 21)), (1, .int (iI (a)))]) hx hb dX5_lift_5 rfl hl (by decide) rfl (fun ls hl => ?_)
  refine lv_aload_n hx hb dX5_lift_6 rfl (lv_at hl 0 rfl) ?_
  refine gx_gor hG hA (vx_runS (As := [.ref (ad (75 + 3 * q))]) (rest := []) ⟨hx, hb, hml, hown, hts⟩ (mX5_groundOf l D cy ad n st _ fz wb hn hI (by omega) (q) hlf (by omega)) (va_cwS 1 hts gX5_lift_X5_groundOf rfl rfl rfl (by decide +kernel) ⟨Nat.le_of_ble_eq_true rfl, Nat.le_of_ble_eq_true rfl⟩) ⟨g_blind, g_pre hK hG hA hN hZ⟩ rfl rfl hl.1 rfl (lv_room (Nat.le_of_ble_eq_true rfl)) dX5_lift_7 ⟨Nat.le_of_ble_eq_true rfl, Nat.le_of_ble_eq_true rfl⟩) (fun E9 st9 H locs ce9 q9 hp hG hce hcv hcl => ?_) (fun s9 H locs hp hG => ?_)
  · skip
    obtain ⟨⟨rfl, hcx⟩, hs9⟩ := hp
    rw [hs9] at hG
    clear hs9
    have hg66 := gI_66 (st := st) (by assumption) (q) 0
    exact g_out hnt hlocks hG hce hcv hcl (by
      refine ⟨?_, rfl⟩
      have hks := kPlaced_s st a
      first
        | exact ⟨0, rfl, by omega⟩
        | exact ⟨1, rfl, by omega⟩
        | exact ⟨2, rfl, by omega⟩) (Nat.le_of_ble_eq_true rfl) (Nat.le_of_ble_eq_true rfl)
  obtain ⟨hcr, hs9⟩ := hp
  rw [hs9] at hG
  clear hs9
  obtain ⟨t, ht⟩ : ∃ z9 : Nat, z9 = (st 66 (q) 0).toNat := ⟨_, rfl⟩
  rw [← ht]
  have hut : ((t : Nat) : Int) = st 66 (q) 0 := by omega
  have hrt := gI_66 (st := st) (by assumption) (q) 0
  have hbt : t < 6 := by omega
  refine lv_astore_n (lv' := [(3, .ref (ad (33 + 7 * t))), (2, .ref (ad (75 + 3 * q))), (0, .ref (ad 21)), (1, .int (iI (a)))]) hx hb dX5_lift_10 rfl hl (by decide) rfl (fun ls hl => ?_)
  refine lv_aload_n hx hb dX5_lift_11 rfl (lv_at hl 1 rfl) ?_
  refine lv_null hx hb dX5_lift_12 ?_
  refine g_put hx hb hts hin0 tyX0 tyX0_ok nmX0 hown hK hG (key := 75 + 3 * q) (by omega) (gC_l st ad cy q) rfl 7 (by decide) L_106 (fun _ h9 => h9) rfl (ty := (.object "Crossbarry$Tile")) (by decide +kernel) rfl rfl (Nat.le_of_ble_eq_true rfl) dX5_lift_13 (ust st 66 q 0 (-1)) (fun j _ => gU_66n st ad cy (o := q) j) (fun H locs hG => ?_)
  obtain ⟨st1, hst1⟩ : ∃ z : St, z = ust st 66 (q) (0) (-1) := ⟨_, rfl⟩
  rw [← hst1] at hG
  replace hI := hst1 ▸ gIu_66 hI (q) (0) (v := -1) (by omega)
  refine lv_aload_n hx hb dX5_lift_16 rfl (lv_at hl 0 rfl) ?_
  refine lv_iconst (v := iI (0)) hx hb dX5_lift_17 rfl ?_
  refine g_put hx hb hts hin4 tyX4 tyX4_ok nmX4 hown hK hG (key := 33 + 7 * t) (by omega) (gC_t st1 ad cy hbt) rfl 11 (by decide) L_110 (fun _ h9 => h9) rfl (ty := .boolean) (by decide +kernel) (narZ (by omega)) (fitZ (by omega)) (Nat.le_of_ble_eq_true rfl) dX5_lift_18 (ust st1 50 t 0 (0)) (fun j _ => gU_50 st1 ad cy hbt (0) j) (fun H locs hG => ?_)
  obtain ⟨st2, hst2⟩ : ∃ z : St, z = ust st1 50 (t) (0) (0) := ⟨_, rfl⟩
  rw [← hst2] at hG
  replace hI := hst2 ▸ gIu_50 hI (t) (0) (v := 0) (by omega)
  refine lv_aload_n hx hb dX5_lift_21 rfl (lv_at hl 0 rfl) ?_
  refine g_get hx hb hts hin4 hown hK hG (key := 33 + 7 * t) (by omega) (gC_t st2 ad cy hbt) rfl 0 (by decide) L_132 (fun _ h9 => h9) rfl dX5_lift_22 ?_
  refine W.widen (k := 2) (n := 12) (by omega) (by omega) ?_
  refine vx_ret ?_
  exact g_iret hx hb hr hlocks hG (by
    have hks := kPlaced_s st a
    refine ⟨by omega, ?_, hI⟩
    try rw [← hq]
    try rw [← ht]
    exact ⟨by first | rfl | (congr 1; done) | (congr 1; omega), by subst_vars; rfl⟩) dX5_lift_25
set_option maxHeartbeats 400000 in
set_option maxRecDepth 100000 in
theorem mX5_stick (l : Launch) (D : va_G) (cy : Nat → ClassId) (ad : Nat → Nat) (n : Nat) (st : St) (sz fz : Nat) (wb : Int) (hn : 75 ≤ n) (hI : GI wb st) (hW : wb ≤ 2000000) (t0 : Int) (r0 : Int) (d : Int) (v : Int) (ht0 : -2147483648 ≤ t0 ∧ t0 < 2147483648) (hr0 : -2147483648 ≤ r0 ∧ r0 < 2147483648) (hd : -2147483648 ≤ d ∧ d < 2147483648) (hv0 : -2147483648 ≤ v ∧ v < 2147483648) (hlf : l.stackTraces = false) (hnl : (n : Int) = 75 + 3 * st 33 0 0) (hR : RY st) : vx_Met l yX5_stick wsX5_stick ({ frames := 7, cells := 5, slots := 30, locals := 112 }) (va_Pc [.ref (ad 21), .int (iI (t0)), .int (iI (r0)), .int (iI (d)), .int (iI (v))] (gB D cy ad n st sz fz)) (va_Qv (fun (st' : St) => kStick st t0 r0 d v = 0 ∧ (st' = bsC st (t0).toNat (16 * r0 + d) v) ∧ GI wb st') (gP D cy ad n) (gA n ad sz)) (gX D cy ad n (fun (E : String) (st' : St) => xE [xI, xA, xS] E (kStick st t0 r0 d v) ∧ st' = st) (gA n ad sz)) 5 30 (gA n ad sz) := by
  refine vx_ofW (cc := cX5_stick) (maxL := 6) (ret := none) (by decide) rfl ?_
  intro p e s m args below meth c s₁ B hml hnt hv
  obtain ⟨rfl, hsz, hP, hK, hD0, hN, hZ⟩ := hv
  have hx := B.exec
  have hb := B.bytes
  have hr := B.returns
  have hts := atoms_spec (ws := wsX5_stick) B.pre
  have hown : s.vm.findClass RX5 = some m.cls := findClass_of_methodNamed B.named
  have hlocks := B.notSynchronized
  subst hsz
  have hA : ∀ q : Nat, s.heap.size ≤ q → gA n ad s.heap.size q := fun q h => Or.inr h
  have hG : GH D cy ad n st (gA n ad s.heap.size) s.heap s.heap [] := ⟨hP, gw_A hD0, va_S.rf⟩
  have hl := lv_entry ([.ref (ad 21), .int (iI (t0)), .int (iI (r0)), .int (iI (d)), .int (iI (v))]) (n := 6) (Nat.le_of_ble_eq_true rfl)
  rw [lg_entry_eq]
  generalize (lg_sl ([.ref (ad 21), .int (iI (t0)), .int (iI (r0)), .int (iI (d)), .int (iI (v))]) ++ List.replicate (6 - (lg_sl ([.ref (ad 21), .int (iI (t0)), .int (iI (r0)), .int (iI (d)), .int (iI (v))])).length) Slot.unset).toArray = ls at hl ⊢
  have hl : lv_has ls 6 [(0, .ref (ad 21)), (1, .int (iI (t0))), (2, .int (iI (r0))), (3, .int (iI (d))), (4, .int (iI (v)))] := hl
  have hin5 : ∀ w ∈ u_ws RX5 TX5 6, w ∈ wsX5_stick := by decide +kernel
  have hin4 : ∀ w ∈ u_ws RX4 TX4 12, w ∈ wsX5_stick := by decide +kernel
  obtain ⟨⟨hR1, hR2, hR3, hR4⟩, hRl, hRw, hRr, hRc, hRt, hRo, hRk, hsc, hsi, hch, hun, hfr⟩ := id hR
  have h33 := gI_33 hI 0 0
  refine lv_aload_n hx hb dX5_stick_0 rfl (lv_at hl 0 rfl) ?_
  refine lv_iload_n hx hb dX5_stick_1 rfl (lv_at hl 1 rfl) ?_
  refine gx_gor hG hA (vx_runV (As := [.int (iI (t0))]) (rest := []) ⟨hx, hb, hml, hown, hts⟩ (mX5_tileAt l D cy ad n st _ fz wb hn hI (by omega) (t0) hlf (by omega)) (cwV 1 hts gX5_stick_X5_tileAt rfl rfl rfl (by decide +kernel) ⟨Nat.le_of_ble_eq_true rfl, Nat.le_of_ble_eq_true rfl⟩) ⟨g_blind, va_recv hK hG.1 (q0 := 21 - 19) (ci := 5) rfl ((gw_at (k := 21) (by omega)).trans (by rw [gC_21 st ad cy])), g_pre hK hG hA hN hZ⟩ rfl rfl hl.1 rfl (lv_room (Nat.le_of_ble_eq_true rfl)) dX5_stick_2 ⟨Nat.le_of_ble_eq_true rfl, Nat.le_of_ble_eq_true rfl⟩) (fun E9 st9 H locs ce9 q9 hp hG hce hcv hcl => ?_) (fun s9 H locs hp hG => ?_)
  · skip
    obtain ⟨⟨rfl, hcx⟩, hs9⟩ := hp
    rw [hs9] at hG
    clear hs9
    exact g_out hnt hlocks hG hce hcv hcl (by
      refine ⟨?_, rfl⟩
      have hks := kStick_s st t0 r0 d v
      first
        | exact ⟨0, rfl, by omega⟩
        | exact ⟨1, rfl, by omega⟩
        | exact ⟨2, rfl, by omega⟩) (Nat.le_of_ble_eq_true rfl) (Nat.le_of_ble_eq_true rfl)
  obtain ⟨hcr, hs9⟩ := hp
  rw [hs9] at hG
  clear hs9
  obtain ⟨t, ht⟩ : ∃ z9 : Nat, z9 = ((t0)).toNat := ⟨_, rfl⟩
  rw [← ht]
  have hut : ((t : Nat) : Int) = (t0) := by omega
  have hbt : t < 6 := by omega
  refine lv_astore (lv' := [(5, .ref (ad (33 + 7 * t))), (0, .ref (ad 21)), (1, .int (iI (t0))), (2, .int (iI (r0))), (3, .int (iI (d))), (4, .int (iI (v)))]) hx hb dX5_stick_5 hl (by decide) rfl (fun ls hl => ?_)
  refine lv_iload_n hx hb dX5_stick_7 rfl (lv_at hl 3 rfl) ?_
  refine lv_bipush (v := iI (8)) hx hb dX5_stick_8 (by decide +kernel) ?_
  refine gx_gov hG hA (vx_runS (As := [.int (iI (r0)), .int (iI (8))]) (rest := []) ⟨hx, hb, hml, hown, hts⟩ (mX5_checkIndex l D cy ad n st _ fz wb hn hI (by omega) (r0) (8) hlf (by omega) (by omega)) (va_cwS 2 hts gX5_stick_X5_checkIndex rfl rfl rfl (by decide +kernel) ⟨Nat.le_of_ble_eq_true rfl, Nat.le_of_ble_eq_true rfl⟩) ⟨g_blind, g_pre hK hG hA hN hZ⟩ rfl rfl hl.1 rfl (lv_room (Nat.le_of_ble_eq_true rfl)) dX5_stick_10 ⟨Nat.le_of_ble_eq_true rfl, Nat.le_of_ble_eq_true rfl⟩) (fun E9 st9 H locs ce9 q9 hp hG hce hcv hcl => ?_) (fun s9 H locs hp hG => ?_)
  · skip
    obtain ⟨⟨rfl, hcx⟩, hs9⟩ := hp
    rw [hs9] at hG
    clear hs9
    exact g_out hnt hlocks hG hce hcv hcl (by
      refine ⟨?_, rfl⟩
      have hks := kStick_s st t0 r0 d v
      first
        | exact ⟨0, rfl, by omega⟩
        | exact ⟨1, rfl, by omega⟩
        | exact ⟨2, rfl, by omega⟩) (Nat.le_of_ble_eq_true rfl) (Nat.le_of_ble_eq_true rfl)
  obtain ⟨hcr, hs9⟩ := hp
  rw [hs9] at hG
  clear hs9
  refine lv_iload_n hx hb dX5_stick_13 rfl (lv_at hl 4 rfl) ?_
  refine lv_bipush (v := iI (16)) hx hb dX5_stick_14 (by decide +kernel) ?_
  refine gx_gov hG hA (vx_runS (As := [.int (iI (d)), .int (iI (16))]) (rest := []) ⟨hx, hb, hml, hown, hts⟩ (mX5_checkIndex l D cy ad n st _ fz wb hn hI (by omega) (d) (16) hlf (by omega) (by omega)) (va_cwS 2 hts gX5_stick_X5_checkIndex rfl rfl rfl (by decide +kernel) ⟨Nat.le_of_ble_eq_true rfl, Nat.le_of_ble_eq_true rfl⟩) ⟨g_blind, g_pre hK hG hA hN hZ⟩ rfl rfl hl.1 rfl (lv_room (Nat.le_of_ble_eq_true rfl)) dX5_stick_16 ⟨Nat.le_of_ble_eq_true rfl, Nat.le_of_ble_eq_true rfl⟩) (fun E9 st9 H locs ce9 q9 hp hG hce hcv hcl => ?_) (fun s9 H locs hp hG => ?_)
  · skip
    obtain ⟨⟨rfl, hcx⟩, hs9⟩ := hp
    rw [hs9] at hG
    clear hs9
    exact g_out hnt hlocks hG hce hcv hcl (by
      refine ⟨?_, rfl⟩
      have hks := kStick_s st t0 r0 d v
      first
        | exact ⟨0, rfl, by omega⟩
        | exact ⟨1, rfl, by omega⟩
        | exact ⟨2, rfl, by omega⟩) (Nat.le_of_ble_eq_true rfl) (Nat.le_of_ble_eq_true rfl)
  obtain ⟨hcr, hs9⟩ := hp
  rw [hs9] at hG
  clear hs9
  refine lv_iload hx hb dX5_stick_19 (lv_at hl 5 rfl) ?_
  refine lv_iconst (v := iI (0)) hx hb dX5_stick_21 rfl ?_
  refine lv_bipush (v := iI (15)) hx hb dX5_stick_22 (by decide +kernel) ?_
  refine gx_gov hG hA (vx_runS (As := [.int (iI (v)), .int (iI (0)), .int (iI (15))]) (rest := []) ⟨hx, hb, hml, hown, hts⟩ (mX5_checkArgument l D cy ad n st _ fz wb hn hI (by omega) (v) (0) (15) hlf (by omega) (by omega) (by omega)) (va_cwS 3 hts gX5_stick_X5_checkArgument rfl rfl rfl (by decide +kernel) ⟨Nat.le_of_ble_eq_true rfl, Nat.le_of_ble_eq_true rfl⟩) ⟨g_blind, g_pre hK hG hA hN hZ⟩ rfl rfl hl.1 rfl (lv_room (Nat.le_of_ble_eq_true rfl)) dX5_stick_24 ⟨Nat.le_of_ble_eq_true rfl, Nat.le_of_ble_eq_true rfl⟩) (fun E9 st9 H locs ce9 q9 hp hG hce hcv hcl => ?_) (fun s9 H locs hp hG => ?_)
  · skip
    obtain ⟨⟨rfl, hcx⟩, hs9⟩ := hp
    rw [hs9] at hG
    clear hs9
    exact g_out hnt hlocks hG hce hcv hcl (by
      refine ⟨?_, rfl⟩
      have hks := kStick_s st t0 r0 d v
      first
        | exact ⟨0, rfl, by omega⟩
        | exact ⟨1, rfl, by omega⟩
        | exact ⟨2, rfl, by omega⟩) (Nat.le_of_ble_eq_true rfl) (Nat.le_of_ble_eq_true rfl)
  obtain ⟨hcr, hs9⟩ := hp
  rw [hs9] at hG
  clear hs9
  refine lv_aload hx hb dX5_stick_27 (lv_at hl 0 rfl) ?_
  refine lv_iload_n hx hb dX5_stick_29 rfl (lv_at hl 3 rfl) ?_
  refine lv_iload_n hx hb dX5_stick_30 rfl (lv_at hl 4 rfl) ?_
  refine lv_iload hx hb dX5_stick_31 (lv_at hl 5 rfl) ?_
  have htc := hRc t (16 * r0 + d) (by omega) (by omega)
  rw [hut, ← Int.add_assoc] at htc
  have h439 := gI_43 hI t (16 * r0 + d)
  refine g_goi hG hA (va_runV (As := [.int (iI (r0)), .int (iI (d)), .int (iI (v))]) (rest := []) ⟨hx, hb, hml, hown, hts⟩ (mX4_becomesStuck l D cy ad n st _ fz wb hn hI (by omega) (t) (r0) (d) (v) (by omega) (by omega) (by omega) (by omega)) (cwV 3 hts gX5_stick_X4_becomesStuck rfl rfl rfl (by decide +kernel) ⟨Nat.le_of_ble_eq_true rfl, Nat.le_of_ble_eq_true rfl⟩) ⟨g_blind, va_recv hK hG.1 (q0 := (33 + 7 * t) - 19) (ci := 4) rfl ((gw_at (k := 33 + 7 * t) (by omega)).trans (by rw [gC_t st ad cy hbt])), g_pre hK hG hA hN hZ⟩ rfl rfl hl.1 rfl (lv_room (Nat.le_of_ble_eq_true rfl)) dX5_stick_33 ⟨Nat.le_of_ble_eq_true rfl, Nat.le_of_ble_eq_true rfl⟩) (fun r9 st1 H locs hp hG => ?_)
  obtain ⟨rfl, hs9, hI⟩ := hp
  refine r_nm (fun v2 ev2 => ?_)
  refine r_if_ne (tgt := 49) hx hb (by omega) dX5_stick_36 (by decide) (fun c3 => ?_) (fun c3 => ?_)
  · skip
    refine W.widen (k := 5) (n := 30) (by omega) (by omega) ?_
    refine vx_ret ?_
    exact g_vret hx hb hr hlocks hG (by
      have hks := kStick_s st t0 r0 d v
      refine ⟨by omega, ?_, hI⟩
      try rw [← ht]
      exact hs9) dX5_stick_49
  · skip
    exact g_xthrow (ik := 53) (is := 137) (ic := 57) (cls := xS) (text := "the cell is stuck") hx hb hlf hown hts xftS xnbS xgdS (by decide +kernel) (by decide +kernel) (by decide +kernel) (by decide +kernel) hN hZ hG (hl.1.trans hml.symm) dX5_stick_39 dX5_stick_42 dX5_stick_43 dX5_stick_45 dX5_stick_48 hnt (Nat.le_of_ble_eq_true rfl) (Nat.le_of_ble_eq_true rfl) (Nat.le_of_ble_eq_true rfl) (Nat.le_of_ble_eq_true rfl) hlocks (by
      refine ⟨?_, by rw [hs9]; unfold bsC; rw [if_pos (by omega)]⟩
      have hks := kStick_s st t0 r0 d v
      exact ⟨2, rfl, by omega⟩) (Nat.le_of_ble_eq_true rfl) (Nat.le_of_ble_eq_true rfl)
set_option maxHeartbeats 400000 in
set_option maxRecDepth 100000 in
theorem mX5_endurance (l : Launch) (D : va_G) (cy : Nat → ClassId) (ad : Nat → Nat) (n : Nat) (st : St) (sz fz : Nat) (wb : Int) (hn : 75 ≤ n) (hI : GI wb st) (hW : wb ≤ 2000000) (v : Int) (hv0 : -2147483648 ≤ v ∧ v < 2147483648) (hlf : l.stackTraces = false) (hnl : (n : Int) = 75 + 3 * st 33 0 0) (hR : RY st) : vx_Met l yX5_endurance wsX5_endurance ({ frames := 7, cells := 1, slots := 6, locals := 112 }) (va_Pc [.ref (ad 21), .int (iI (v))] (gB D cy ad n st sz fz)) (va_Qi (fun (r : Int32) (st' : St) => kRange 1 100000 v = 0 ∧ (r = iI (st 32 0 0) ∧ st' = ust st 32 0 0 v) ∧ GI wb st') (gP D cy ad n) (gA n ad sz)) (gX D cy ad n (fun (E : String) (st' : St) => xE [xA] E (kRange 1 100000 v) ∧ st' = st) (gA n ad sz)) 1 6 (gA n ad sz) := by
  refine vx_ofW (cc := cX5_endurance) (maxL := 3) (ret := (some .int)) (by decide) rfl ?_
  intro p e s m args below meth c s₁ B hml hnt hv
  obtain ⟨rfl, hsz, hP, hK, hD0, hN, hZ⟩ := hv
  have hx := B.exec
  have hb := B.bytes
  have hr := B.returns
  have hts := atoms_spec (ws := wsX5_endurance) B.pre
  have hown : s.vm.findClass RX5 = some m.cls := findClass_of_methodNamed B.named
  have hlocks := B.notSynchronized
  subst hsz
  have hA : ∀ q : Nat, s.heap.size ≤ q → gA n ad s.heap.size q := fun q h => Or.inr h
  have hG : GH D cy ad n st (gA n ad s.heap.size) s.heap s.heap [] := ⟨hP, gw_A hD0, va_S.rf⟩
  have hl := lv_entry ([.ref (ad 21), .int (iI (v))]) (n := 3) (Nat.le_of_ble_eq_true rfl)
  rw [lg_entry_eq]
  generalize (lg_sl ([.ref (ad 21), .int (iI (v))]) ++ List.replicate (3 - (lg_sl ([.ref (ad 21), .int (iI (v))])).length) Slot.unset).toArray = ls at hl ⊢
  have hl : lv_has ls 3 [(0, .ref (ad 21)), (1, .int (iI (v)))] := hl
  have hin5 : ∀ w ∈ u_ws RX5 TX5 6, w ∈ wsX5_endurance := by decide +kernel
  have hin3 : ∀ w ∈ u_ws RX3 TX3 3, w ∈ wsX5_endurance := by decide +kernel
  have L_12 := hts (.fieldLink RX5 12 "Crossbarry" "setting" "LCrossbarry$Setting;") (by decide +kernel)
  have L_147 := hts (.constant RX5 147 (100000)) (by decide +kernel)
  have L_148 := hts (.fieldLink RX5 148 "Crossbarry$Setting" "mostWear" "I") (by decide +kernel)
  obtain ⟨⟨hR1, hR2, hR3, hR4⟩, hRl, hRw, hRr, hRc, hRt, hRo, hRk, hsc, hsi, hch, hun, hfr⟩ := id hR
  have h33 := gI_33 hI 0 0
  refine lv_iload_n hx hb dX5_endurance_0 rfl (lv_at hl 1 rfl) ?_
  refine lv_iconst (v := iI (1)) hx hb dX5_endurance_1 rfl ?_
  refine lv_ldc hx hb hown L_147 dX5_endurance_2 ?_
  refine r_asI (y := 100000) (by decide +kernel) ?_
  refine gx_gov hG hA (vx_runS (As := [.int (iI (v)), .int (iI (1)), .int (iI (100000))]) (rest := []) ⟨hx, hb, hml, hown, hts⟩ (mX5_checkArgument l D cy ad n st _ fz wb hn hI (by omega) (v) (1) (100000) hlf (by omega) (by omega) (by omega)) (va_cwS 3 hts gX5_endurance_X5_checkArgument rfl rfl rfl (by decide +kernel) ⟨Nat.le_of_ble_eq_true rfl, Nat.le_of_ble_eq_true rfl⟩) ⟨g_blind, g_pre hK hG hA hN hZ⟩ rfl rfl hl.1 rfl (lv_room (Nat.le_of_ble_eq_true rfl)) dX5_endurance_4 ⟨Nat.le_of_ble_eq_true rfl, Nat.le_of_ble_eq_true rfl⟩) (fun E9 st9 H locs ce9 q9 hp hG hce hcv hcl => ?_) (fun s9 H locs hp hG => ?_)
  · skip
    obtain ⟨⟨rfl, hcx⟩, hs9⟩ := hp
    rw [hs9] at hG
    clear hs9
    exact g_out hnt hlocks hG hce hcv hcl (by
      refine ⟨?_, rfl⟩
      have hks := kRange_s 1 100000 v
      first
        | exact ⟨0, rfl, by omega⟩
        | exact ⟨1, rfl, by omega⟩
        | exact ⟨2, rfl, by omega⟩) (Nat.le_of_ble_eq_true rfl) (Nat.le_of_ble_eq_true rfl)
  obtain ⟨hcr, hs9⟩ := hp
  rw [hs9] at hG
  clear hs9
  refine lv_aload_n hx hb dX5_endurance_7 rfl (lv_at hl 0 rfl) ?_
  refine g_get hx hb hts hin5 hown hK hG (key := 21) (by omega) (gC_21 st ad cy) rfl 0 (by decide) L_12 (fun _ h9 => h9) rfl dX5_endurance_8 ?_
  refine g_get hx hb hts hin3 hown hK hG (key := 22) (by omega) (gC_22 st ad cy) rfl 2 (by decide) L_148 (fun _ h9 => h9) rfl dX5_endurance_11 ?_
  have hr1 := gI_32 hI (0) (0)
  refine r_nm (fun v2 ev2 => ?_)
  rw [← ev2] at hr1
  refine lv_istore_n (lv' := [(2, .int (iI (v2))), (0, .ref (ad 21)), (1, .int (iI (v)))]) hx hb dX5_endurance_14 rfl hl (by decide) rfl (fun ls hl => ?_)
  refine lv_aload_n hx hb dX5_endurance_15 rfl (lv_at hl 1 rfl) ?_
  refine g_get hx hb hts hin5 hown hK hG (key := 21) (by omega) (gC_21 st ad cy) rfl 0 (by decide) L_12 (fun _ h9 => h9) rfl dX5_endurance_16 ?_
  refine lv_iload_n hx hb dX5_endurance_19 rfl (lv_at hl 2 rfl) ?_
  refine g_put hx hb hts hin3 tyX3 tyX3_ok nmX3 hown hK hG (key := 22) (by omega) (gC_22 st ad cy) rfl 2 (by decide) L_148 (fun _ h9 => h9) rfl (ty := .int) (by decide +kernel) rfl rfl (Nat.le_of_ble_eq_true rfl) dX5_endurance_20 (ust st 32 0 0 (v)) (fun j _ => gU_32 st ad cy (v) j) (fun H locs hG => ?_)
  obtain ⟨st3, hst3⟩ : ∃ z : St, z = ust st 32 (0) (0) (v) := ⟨_, rfl⟩
  rw [← hst3] at hG
  replace hI := hst3 ▸ gIu_32 hI (0) (0) (v := v) (by omega)
  refine lv_iload_n hx hb dX5_endurance_23 rfl (lv_at hl 0 rfl) ?_
  refine W.widen (k := 1) (n := 6) (by omega) (by omega) ?_
  refine vx_ret ?_
  exact g_iret hx hb hr hlocks hG (by
    have hks := kRange_s 1 100000 v
    refine ⟨by omega, ?_, hI⟩
    exact ⟨by subst_vars; rfl, by subst_vars; rfl⟩) dX5_endurance_24
set_option maxHeartbeats 400000 in
set_option maxRecDepth 100000 in
theorem mX5_pass (l : Launch) (D : va_G) (cy : Nat → ClassId) (ad : Nat → Nat) (n : Nat) (st : St) (sz fz : Nat) (wb : Int) (hn : 75 ≤ n) (hI : GI wb st) (hW : wb ≤ 2000000) (v : Int) (hv0 : -2147483648 ≤ v ∧ v < 2147483648) (hlf : l.stackTraces = false) (hnl : (n : Int) = 75 + 3 * st 33 0 0) (hR : RY st) : vx_Met l yX5_pass wsX5_pass ({ frames := 7, cells := 2, slots := 12, locals := 112 }) (va_Pc [.ref (ad 21), .int (iI (v))] (gB D cy ad n st sz fz)) (va_Qi (fun (r : Int32) (st' : St) => kPass st v = 0 ∧ (r = iI (st 30 0 0 + v) ∧ st' = ust st 30 0 0 (st 30 0 0 + v)) ∧ GI wb st') (gP D cy ad n) (gA n ad sz)) (gX D cy ad n (fun (E : String) (st' : St) => xE [xA, xS] E (kPass st v) ∧ st' = st) (gA n ad sz)) 2 12 (gA n ad sz) := by
  refine vx_ofW (cc := cX5_pass) (maxL := 2) (ret := (some .int)) (by decide) rfl ?_
  intro p e s m args below meth c s₁ B hml hnt hv
  obtain ⟨rfl, hsz, hP, hK, hD0, hN, hZ⟩ := hv
  have hx := B.exec
  have hb := B.bytes
  have hr := B.returns
  have hts := atoms_spec (ws := wsX5_pass) B.pre
  have hown : s.vm.findClass RX5 = some m.cls := findClass_of_methodNamed B.named
  have hlocks := B.notSynchronized
  subst hsz
  have hA : ∀ q : Nat, s.heap.size ≤ q → gA n ad s.heap.size q := fun q h => Or.inr h
  have hG : GH D cy ad n st (gA n ad s.heap.size) s.heap s.heap [] := ⟨hP, gw_A hD0, va_S.rf⟩
  have hl := lv_entry ([.ref (ad 21), .int (iI (v))]) (n := 2) (Nat.le_of_ble_eq_true rfl)
  rw [lg_entry_eq]
  generalize (lg_sl ([.ref (ad 21), .int (iI (v))]) ++ List.replicate (2 - (lg_sl ([.ref (ad 21), .int (iI (v))])).length) Slot.unset).toArray = ls at hl ⊢
  have hl : lv_has ls 2 [(0, .ref (ad 21)), (1, .int (iI (v)))] := hl
  have hin5 : ∀ w ∈ u_ws RX5 TX5 6, w ∈ wsX5_pass := by decide +kernel
  have hin3 : ∀ w ∈ u_ws RX3 TX3 3, w ∈ wsX5_pass := by decide +kernel
  have L_12 := hts (.fieldLink RX5 12 "Crossbarry" "setting" "LCrossbarry$Setting;") (by decide +kernel)
  have L_151 := hts (.fieldLink RX5 151 "Crossbarry$Setting" "now" "I") (by decide +kernel)
  have L_154 := hts (.constant RX5 154 (1000000)) (by decide +kernel)
  obtain ⟨⟨hR1, hR2, hR3, hR4⟩, hRl, hRw, hRr, hRc, hRt, hRo, hRk, hsc, hsi, hch, hun, hfr⟩ := id hR
  have h33 := gI_33 hI 0 0
  refine lv_iload_n hx hb dX5_pass_0 rfl (lv_at hl 1 rfl) ?_
  refine lv_iconst (v := iI (1)) hx hb dX5_pass_1 rfl ?_
  refine lv_sipush (v := iI (10000)) hx hb dX5_pass_2 (by decide +kernel) ?_
  refine gx_gov hG hA (vx_runS (As := [.int (iI (v)), .int (iI (1)), .int (iI (10000))]) (rest := []) ⟨hx, hb, hml, hown, hts⟩ (mX5_checkArgument l D cy ad n st _ fz wb hn hI (by omega) (v) (1) (10000) hlf (by omega) (by omega) (by omega)) (va_cwS 3 hts gX5_pass_X5_checkArgument rfl rfl rfl (by decide +kernel) ⟨Nat.le_of_ble_eq_true rfl, Nat.le_of_ble_eq_true rfl⟩) ⟨g_blind, g_pre hK hG hA hN hZ⟩ rfl rfl hl.1 rfl (lv_room (Nat.le_of_ble_eq_true rfl)) dX5_pass_5 ⟨Nat.le_of_ble_eq_true rfl, Nat.le_of_ble_eq_true rfl⟩) (fun E9 st9 H locs ce9 q9 hp hG hce hcv hcl => ?_) (fun s9 H locs hp hG => ?_)
  · skip
    obtain ⟨⟨rfl, hcx⟩, hs9⟩ := hp
    rw [hs9] at hG
    clear hs9
    exact g_out hnt hlocks hG hce hcv hcl (by
      refine ⟨?_, rfl⟩
      have hks := kPass_s st v
      first
        | exact ⟨0, rfl, by omega⟩
        | exact ⟨1, rfl, by omega⟩
        | exact ⟨2, rfl, by omega⟩) (Nat.le_of_ble_eq_true rfl) (Nat.le_of_ble_eq_true rfl)
  obtain ⟨hcr, hs9⟩ := hp
  rw [hs9] at hG
  clear hs9
  refine lv_aload_n hx hb dX5_pass_8 rfl (lv_at hl 0 rfl) ?_
  refine g_get hx hb hts hin5 hown hK hG (key := 21) (by omega) (gC_21 st ad cy) rfl 0 (by decide) L_12 (fun _ h9 => h9) rfl dX5_pass_9 ?_
  refine g_get hx hb hts hin3 hown hK hG (key := 22) (by omega) (gC_22 st ad cy) rfl 0 (by decide) L_151 (fun _ h9 => h9) rfl dX5_pass_12 ?_
  have hr1 := gI_30 hI (0) (0)
  refine r_nm (fun v2 ev2 => ?_)
  rw [← ev2] at hr1
  refine lv_iload_n hx hb dX5_pass_15 rfl (lv_at hl 1 rfl) ?_
  refine r_iadd hx hb dX5_pass_16 ?_
  refine r_nm (fun v3 ev3 => ?_)
  refine lv_ldc hx hb hown L_154 dX5_pass_17 ?_
  refine r_asI (y := 1000000) (by decide +kernel) ?_
  refine r_icmp_le (tgt := 32) hx hb (by omega) dX5_pass_19 (by decide) (fun c4 => ?_) (fun c4 => ?_)
  · skip
    refine lv_aload_n hx hb dX5_pass_32 rfl (lv_at hl 0 rfl) ?_
    refine g_get hx hb hts hin5 hown hK hG (key := 21) (by omega) (gC_21 st ad cy) rfl 0 (by decide) L_12 (fun _ h9 => h9) rfl dX5_pass_33 ?_
    refine lv_dup hx hb dX5_pass_36 rfl ?_
    refine g_get hx hb hts hin3 hown hK hG (key := 22) (by omega) (gC_22 st ad cy) rfl 0 (by decide) L_151 (fun _ h9 => h9) rfl dX5_pass_37 ?_
    have hr5 := gI_30 hI (0) (0)
    refine r_nm (fun v6 ev6 => ?_)
    rw [← ev6] at hr5
    refine lv_iload_n hx hb dX5_pass_40 rfl (lv_at hl 1 rfl) ?_
    refine r_iadd hx hb dX5_pass_41 ?_
    refine r_nm (fun v7 ev7 => ?_)
    refine g_put hx hb hts hin3 tyX3 tyX3_ok nmX3 hown hK hG (key := 22) (by omega) (gC_22 st ad cy) rfl 0 (by decide) L_151 (fun _ h9 => h9) rfl (ty := .int) (by decide +kernel) rfl rfl (Nat.le_of_ble_eq_true rfl) dX5_pass_42 (ust st 30 0 0 (v7)) (fun j _ => gU_30 st ad cy (v7) j) (fun H locs hG => ?_)
    obtain ⟨st8, hst8⟩ : ∃ z : St, z = ust st 30 (0) (0) (v7) := ⟨_, rfl⟩
    rw [← hst8] at hG
    replace hI := hst8 ▸ gIu_30 hI (0) (0) (v := v7) (by omega)
    refine lv_aload_n hx hb dX5_pass_45 rfl (lv_at hl 0 rfl) ?_
    refine g_get hx hb hts hin5 hown hK hG (key := 21) (by omega) (gC_21 st8 ad cy) rfl 0 (by decide) L_12 (fun _ h9 => h9) rfl dX5_pass_46 ?_
    refine g_get hx hb hts hin3 hown hK hG (key := 22) (by omega) (gC_22 st8 ad cy) rfl 0 (by decide) L_151 (fun _ h9 => h9) rfl dX5_pass_49 ?_
    have hr9 := gI_30 hI (0) (0)
    have kq10 : st8 30 (0) (0) = v7 := by rw [hst8, ust_s]
    rw [kq10] at hr9
    refine r_as kq10 ?_
    clear kq10
    refine W.widen (k := 2) (n := 12) (by omega) (by omega) ?_
    refine vx_ret ?_
    exact g_iret hx hb hr hlocks hG (by
      have hks := kPass_s st v
      refine ⟨by omega, ?_, hI⟩
      exact ⟨by first | rfl | (congr 1; done) | (congr 1; omega), by rw [hst8]; first | rfl | (congr 1; done) | (congr 1; omega)⟩) dX5_pass_52
  · skip
    exact g_xthrow (ik := 53) (is := 155) (ic := 57) (cls := xS) (text := "the hour would be above 1000000") hx hb hlf hown hts xftS xnbS xgdS (by decide +kernel) (by decide +kernel) (by decide +kernel) (by decide +kernel) hN hZ hG (hl.1.trans hml.symm) dX5_pass_22 dX5_pass_25 dX5_pass_26 dX5_pass_28 dX5_pass_31 hnt (Nat.le_of_ble_eq_true rfl) (Nat.le_of_ble_eq_true rfl) (Nat.le_of_ble_eq_true rfl) (Nat.le_of_ble_eq_true rfl) hlocks (by
      refine ⟨?_, rfl⟩
      have hks := kPass_s st v
      first
        | exact ⟨0, rfl, by omega⟩
        | exact ⟨1, rfl, by omega⟩
        | exact ⟨2, rfl, by omega⟩) (Nat.le_of_ble_eq_true rfl) (Nat.le_of_ble_eq_true rfl)
set_option maxHeartbeats 400000 in
set_option maxRecDepth 100000 in
theorem mX5_converter (l : Launch) (D : va_G) (cy : Nat → ClassId) (ad : Nat → Nat) (n : Nat) (st : St) (sz fz : Nat) (wb : Int) (hn : 75 ≤ n) (hI : GI wb st) (hW : wb ≤ 2000000) (t0 : Int) (a : Int) (b : Int) (ht0 : -2147483648 ≤ t0 ∧ t0 < 2147483648) (ha : -2147483648 ≤ a ∧ a < 2147483648) (hb : -2147483648 ≤ b ∧ b < 2147483648) (hlf : l.stackTraces = false) (hnl : (n : Int) = 75 + 3 * st 33 0 0) (hR : RY st) : vx_Met l yX5_converter wsX5_converter ({ frames := 7, cells := 3, slots := 18, locals := 112 }) (va_Pc [.ref (ad 21), .int (iI (t0)), .int (iI (a)), .int (iI (b))] (gB D cy ad n st sz fz)) (va_Qi (fun (r : Int32) (st' : St) => kConv t0 a b = 0 ∧ (r = iI (1000 * st 46 (t0).toNat 0 + st 47 (t0).toNat 0) ∧ st' = ust (ust st 46 (t0).toNat 0 a) 47 (t0).toNat 0 b) ∧ GI wb st') (gP D cy ad n) (gA n ad sz)) (gX D cy ad n (fun (E : String) (st' : St) => xE [xI, xA] E (kConv t0 a b) ∧ st' = st) (gA n ad sz)) 3 18 (gA n ad sz) := by
  refine vx_ofW (cc := cX5_converter) (maxL := 6) (ret := (some .int)) (by decide) rfl ?_
  intro p e s m args below meth c s₁ B hml hnt hv
  obtain ⟨rfl, hsz, hP, hK, hD0, hN, hZ⟩ := hv
  have hx := B.exec
  have hb := B.bytes
  have hr := B.returns
  have hts := atoms_spec (ws := wsX5_converter) B.pre
  have hown : s.vm.findClass RX5 = some m.cls := findClass_of_methodNamed B.named
  have hlocks := B.notSynchronized
  subst hsz
  have hA : ∀ q : Nat, s.heap.size ≤ q → gA n ad s.heap.size q := fun q h => Or.inr h
  have hG : GH D cy ad n st (gA n ad s.heap.size) s.heap s.heap [] := ⟨hP, gw_A hD0, va_S.rf⟩
  have hl := lv_entry ([.ref (ad 21), .int (iI (t0)), .int (iI (a)), .int (iI (b))]) (n := 6) (Nat.le_of_ble_eq_true rfl)
  rw [lg_entry_eq]
  generalize (lg_sl ([.ref (ad 21), .int (iI (t0)), .int (iI (a)), .int (iI (b))]) ++ List.replicate (6 - (lg_sl ([.ref (ad 21), .int (iI (t0)), .int (iI (a)), .int (iI (b))])).length) Slot.unset).toArray = ls at hl ⊢
  have hl : lv_has ls 6 [(0, .ref (ad 21)), (1, .int (iI (t0))), (2, .int (iI (a))), (3, .int (iI (b)))] := hl
  have hin5 : ∀ w ∈ u_ws RX5 TX5 6, w ∈ wsX5_converter := by decide +kernel
  have hin4 : ∀ w ∈ u_ws RX4 TX4 12, w ∈ wsX5_converter := by decide +kernel
  have L_157 := hts (.fieldLink RX5 157 "Crossbarry$Tile" "readStep" "I") (by decide +kernel)
  have L_160 := hts (.fieldLink RX5 160 "Crossbarry$Tile" "readTop" "I") (by decide +kernel)
  obtain ⟨⟨hR1, hR2, hR3, hR4⟩, hRl, hRw, hRr, hRc, hRt, hRo, hRk, hsc, hsi, hch, hun, hfr⟩ := id hR
  have h33 := gI_33 hI 0 0
  refine lv_aload_n hx hb dX5_converter_0 rfl (lv_at hl 0 rfl) ?_
  refine lv_iload_n hx hb dX5_converter_1 rfl (lv_at hl 1 rfl) ?_
  refine gx_gor hG hA (vx_runV (As := [.int (iI (t0))]) (rest := []) ⟨hx, hb, hml, hown, hts⟩ (mX5_tileAt l D cy ad n st _ fz wb hn hI (by omega) (t0) hlf (by omega)) (cwV 1 hts gX5_converter_X5_tileAt rfl rfl rfl (by decide +kernel) ⟨Nat.le_of_ble_eq_true rfl, Nat.le_of_ble_eq_true rfl⟩) ⟨g_blind, va_recv hK hG.1 (q0 := 21 - 19) (ci := 5) rfl ((gw_at (k := 21) (by omega)).trans (by rw [gC_21 st ad cy])), g_pre hK hG hA hN hZ⟩ rfl rfl hl.1 rfl (lv_room (Nat.le_of_ble_eq_true rfl)) dX5_converter_2 ⟨Nat.le_of_ble_eq_true rfl, Nat.le_of_ble_eq_true rfl⟩) (fun E9 st9 H locs ce9 q9 hp hG hce hcv hcl => ?_) (fun s9 H locs hp hG => ?_)
  · skip
    obtain ⟨⟨rfl, hcx⟩, hs9⟩ := hp
    rw [hs9] at hG
    clear hs9
    exact g_out hnt hlocks hG hce hcv hcl (by
      refine ⟨?_, rfl⟩
      have hks := kConv_s t0 a b
      first
        | exact ⟨0, rfl, by omega⟩
        | exact ⟨1, rfl, by omega⟩
        | exact ⟨2, rfl, by omega⟩) (Nat.le_of_ble_eq_true rfl) (Nat.le_of_ble_eq_true rfl)
  obtain ⟨hcr, hs9⟩ := hp
  rw [hs9] at hG
  clear hs9
  obtain ⟨t, ht⟩ : ∃ z9 : Nat, z9 = ((t0)).toNat := ⟨_, rfl⟩
  rw [← ht]
  have hut : ((t : Nat) : Int) = (t0) := by omega
  have hbt : t < 6 := by omega
  refine lv_astore (lv' := [(4, .ref (ad (33 + 7 * t))), (0, .ref (ad 21)), (1, .int (iI (t0))), (2, .int (iI (a))), (3, .int (iI (b)))]) hx hb dX5_converter_5 hl (by decide) rfl (fun ls hl => ?_)
  refine lv_iload_n hx hb dX5_converter_7 rfl (lv_at hl 3 rfl) ?_
  refine lv_iconst (v := iI (1)) hx hb dX5_converter_8 rfl ?_
  refine lv_bipush (v := iI (16)) hx hb dX5_converter_9 (by decide +kernel) ?_
  refine gx_gov hG hA (vx_runS (As := [.int (iI (a)), .int (iI (1)), .int (iI (16))]) (rest := []) ⟨hx, hb, hml, hown, hts⟩ (mX5_checkArgument l D cy ad n st _ fz wb hn hI (by omega) (a) (1) (16) hlf (by omega) (by omega) (by omega)) (va_cwS 3 hts gX5_converter_X5_checkArgument rfl rfl rfl (by decide +kernel) ⟨Nat.le_of_ble_eq_true rfl, Nat.le_of_ble_eq_true rfl⟩) ⟨g_blind, g_pre hK hG hA hN hZ⟩ rfl rfl hl.1 rfl (lv_room (Nat.le_of_ble_eq_true rfl)) dX5_converter_11 ⟨Nat.le_of_ble_eq_true rfl, Nat.le_of_ble_eq_true rfl⟩) (fun E9 st9 H locs ce9 q9 hp hG hce hcv hcl => ?_) (fun s9 H locs hp hG => ?_)
  · skip
    obtain ⟨⟨rfl, hcx⟩, hs9⟩ := hp
    rw [hs9] at hG
    clear hs9
    exact g_out hnt hlocks hG hce hcv hcl (by
      refine ⟨?_, rfl⟩
      have hks := kConv_s t0 a b
      first
        | exact ⟨0, rfl, by omega⟩
        | exact ⟨1, rfl, by omega⟩
        | exact ⟨2, rfl, by omega⟩) (Nat.le_of_ble_eq_true rfl) (Nat.le_of_ble_eq_true rfl)
  obtain ⟨hcr, hs9⟩ := hp
  rw [hs9] at hG
  clear hs9
  refine lv_iload_n hx hb dX5_converter_14 rfl (lv_at hl 4 rfl) ?_
  refine lv_iconst (v := iI (1)) hx hb dX5_converter_15 rfl ?_
  refine lv_bipush (v := iI (127)) hx hb dX5_converter_16 (by decide +kernel) ?_
  refine gx_gov hG hA (vx_runS (As := [.int (iI (b)), .int (iI (1)), .int (iI (127))]) (rest := []) ⟨hx, hb, hml, hown, hts⟩ (mX5_checkArgument l D cy ad n st _ fz wb hn hI (by omega) (b) (1) (127) hlf (by omega) (by omega) (by omega)) (va_cwS 3 hts gX5_converter_X5_checkArgument rfl rfl rfl (by decide +kernel) ⟨Nat.le_of_ble_eq_true rfl, Nat.le_of_ble_eq_true rfl⟩) ⟨g_blind, g_pre hK hG hA hN hZ⟩ rfl rfl hl.1 rfl (lv_room (Nat.le_of_ble_eq_true rfl)) dX5_converter_18 ⟨Nat.le_of_ble_eq_true rfl, Nat.le_of_ble_eq_true rfl⟩) (fun E9 st9 H locs ce9 q9 hp hG hce hcv hcl => ?_) (fun s9 H locs hp hG => ?_)
  · skip
    obtain ⟨⟨rfl, hcx⟩, hs9⟩ := hp
    rw [hs9] at hG
    clear hs9
    exact g_out hnt hlocks hG hce hcv hcl (by
      refine ⟨?_, rfl⟩
      have hks := kConv_s t0 a b
      first
        | exact ⟨0, rfl, by omega⟩
        | exact ⟨1, rfl, by omega⟩
        | exact ⟨2, rfl, by omega⟩) (Nat.le_of_ble_eq_true rfl) (Nat.le_of_ble_eq_true rfl)
  obtain ⟨hcr, hs9⟩ := hp
  rw [hs9] at hG
  clear hs9
  refine lv_sipush (v := iI (1000)) hx hb dX5_converter_21 (by decide +kernel) ?_
  refine lv_aload hx hb dX5_converter_24 (lv_at hl 0 rfl) ?_
  refine g_get hx hb hts hin4 hown hK hG (key := 33 + 7 * t) (by omega) (gC_t st ad cy hbt) rfl 7 (by decide) L_157 (fun _ h9 => h9) rfl dX5_converter_26 ?_
  have hr1 := gI_46 hI (t) (0)
  refine r_nm (fun v2 ev2 => ?_)
  rw [← ev2] at hr1
  refine r_imul hx hb dX5_converter_29 ?_
  refine r_nm (fun v3 ev3 => ?_)
  refine lv_aload hx hb dX5_converter_30 (lv_at hl 0 rfl) ?_
  refine g_get hx hb hts hin4 hown hK hG (key := 33 + 7 * t) (by omega) (gC_t st ad cy hbt) rfl 8 (by decide) L_160 (fun _ h9 => h9) rfl dX5_converter_32 ?_
  have hr4 := gI_47 hI (t) (0)
  refine r_nm (fun v5 ev5 => ?_)
  rw [← ev5] at hr4
  refine r_iadd hx hb dX5_converter_35 ?_
  refine r_nm (fun v6 ev6 => ?_)
  refine lv_istore (lv' := [(5, .int (iI (v6))), (4, .ref (ad (33 + 7 * t))), (0, .ref (ad 21)), (1, .int (iI (t0))), (2, .int (iI (a))), (3, .int (iI (b)))]) hx hb dX5_converter_36 hl (by decide) rfl (fun ls hl => ?_)
  refine lv_aload hx hb dX5_converter_38 (lv_at hl 1 rfl) ?_
  refine lv_iload_n hx hb dX5_converter_40 rfl (lv_at hl 4 rfl) ?_
  refine g_put hx hb hts hin4 tyX4 tyX4_ok nmX4 hown hK hG (key := 33 + 7 * t) (by omega) (gC_t st ad cy hbt) rfl 7 (by decide) L_157 (fun _ h9 => h9) rfl (ty := .int) (by decide +kernel) rfl rfl (Nat.le_of_ble_eq_true rfl) dX5_converter_41 (ust st 46 t 0 (a)) (fun j _ => gU_46 st ad cy hbt (a) j) (fun H locs hG => ?_)
  obtain ⟨st7, hst7⟩ : ∃ z : St, z = ust st 46 (t) (0) (a) := ⟨_, rfl⟩
  rw [← hst7] at hG
  replace hI := hst7 ▸ gIu_46 hI (t) (0) (v := a) (by omega)
  refine lv_aload hx hb dX5_converter_44 (lv_at hl 1 rfl) ?_
  refine lv_iload_n hx hb dX5_converter_46 rfl (lv_at hl 5 rfl) ?_
  refine g_put hx hb hts hin4 tyX4 tyX4_ok nmX4 hown hK hG (key := 33 + 7 * t) (by omega) (gC_t st7 ad cy hbt) rfl 8 (by decide) L_160 (fun _ h9 => h9) rfl (ty := .int) (by decide +kernel) rfl rfl (Nat.le_of_ble_eq_true rfl) dX5_converter_47 (ust st7 47 t 0 (b)) (fun j _ => gU_47 st7 ad cy hbt (b) j) (fun H locs hG => ?_)
  obtain ⟨st8, hst8⟩ : ∃ z : St, z = ust st7 47 (t) (0) (b) := ⟨_, rfl⟩
  rw [← hst8] at hG
  replace hI := hst8 ▸ gIu_47 hI (t) (0) (v := b) (by omega)
  refine lv_iload hx hb dX5_converter_50 (lv_at hl 0 rfl) ?_
  refine W.widen (k := 3) (n := 18) (by omega) (by omega) ?_
  refine vx_ret ?_
  exact g_iret hx hb hr hlocks hG (by
    have hks := kConv_s t0 a b
    refine ⟨by omega, ?_, hI⟩
    try rw [← ht]
    exact ⟨by first | rfl | (congr 1; done) | (congr 1; omega), by subst_vars; rfl⟩) dX5_converter_52
set_option maxHeartbeats 400000 in
set_option maxRecDepth 100000 in
theorem mX5_offset (l : Launch) (D : va_G) (cy : Nat → ClassId) (ad : Nat → Nat) (n : Nat) (st : St) (sz fz : Nat) (wb : Int) (hn : 75 ≤ n) (hI : GI wb st) (hW : wb ≤ 2000000) (t0 : Int) (d : Int) (v : Int) (ht0 : -2147483648 ≤ t0 ∧ t0 < 2147483648) (hd : -2147483648 ≤ d ∧ d < 2147483648) (hv0 : -2147483648 ≤ v ∧ v < 2147483648) (hlf : l.stackTraces = false) (hnl : (n : Int) = 75 + 3 * st 33 0 0) (hR : RY st) : vx_Met l yX5_offset wsX5_offset ({ frames := 7, cells := 3, slots := 18, locals := 112 }) (va_Pc [.ref (ad 21), .int (iI (t0)), .int (iI (d)), .int (iI (v))] (gB D cy ad n st sz fz)) (va_Qi (fun (r : Int32) (st' : St) => kOffs t0 d v = 0 ∧ (r = iI (st 45 (t0).toNat d) ∧ st' = ust st 45 (t0).toNat d v) ∧ GI wb st') (gP D cy ad n) (gA n ad sz)) (gX D cy ad n (fun (E : String) (st' : St) => xE [xI, xA] E (kOffs t0 d v) ∧ st' = st) (gA n ad sz)) 3 18 (gA n ad sz) := by
  refine vx_ofW (cc := cX5_offset) (maxL := 6) (ret := (some .int)) (by decide) rfl ?_
  intro p e s m args below meth c s₁ B hml hnt hv
  obtain ⟨rfl, hsz, hP, hK, hD0, hN, hZ⟩ := hv
  have hx := B.exec
  have hb := B.bytes
  have hr := B.returns
  have hts := atoms_spec (ws := wsX5_offset) B.pre
  have hown : s.vm.findClass RX5 = some m.cls := findClass_of_methodNamed B.named
  have hlocks := B.notSynchronized
  subst hsz
  have hA : ∀ q : Nat, s.heap.size ≤ q → gA n ad s.heap.size q := fun q h => Or.inr h
  have hG : GH D cy ad n st (gA n ad s.heap.size) s.heap s.heap [] := ⟨hP, gw_A hD0, va_S.rf⟩
  have hl := lv_entry ([.ref (ad 21), .int (iI (t0)), .int (iI (d)), .int (iI (v))]) (n := 6) (Nat.le_of_ble_eq_true rfl)
  rw [lg_entry_eq]
  generalize (lg_sl ([.ref (ad 21), .int (iI (t0)), .int (iI (d)), .int (iI (v))]) ++ List.replicate (6 - (lg_sl ([.ref (ad 21), .int (iI (t0)), .int (iI (d)), .int (iI (v))])).length) Slot.unset).toArray = ls at hl ⊢
  have hl : lv_has ls 6 [(0, .ref (ad 21)), (1, .int (iI (t0))), (2, .int (iI (d))), (3, .int (iI (v)))] := hl
  have hin5 : ∀ w ∈ u_ws RX5 TX5 6, w ∈ wsX5_offset := by decide +kernel
  have hin4 : ∀ w ∈ u_ws RX4 TX4 12, w ∈ wsX5_offset := by decide +kernel
  have L_163 := hts (.fieldLink RX5 163 "Crossbarry$Tile" "offsets" "[I") (by decide +kernel)
  obtain ⟨⟨hR1, hR2, hR3, hR4⟩, hRl, hRw, hRr, hRc, hRt, hRo, hRk, hsc, hsi, hch, hun, hfr⟩ := id hR
  have h33 := gI_33 hI 0 0
  refine lv_aload_n hx hb dX5_offset_0 rfl (lv_at hl 0 rfl) ?_
  refine lv_iload_n hx hb dX5_offset_1 rfl (lv_at hl 1 rfl) ?_
  refine gx_gor hG hA (vx_runV (As := [.int (iI (t0))]) (rest := []) ⟨hx, hb, hml, hown, hts⟩ (mX5_tileAt l D cy ad n st _ fz wb hn hI (by omega) (t0) hlf (by omega)) (cwV 1 hts gX5_offset_X5_tileAt rfl rfl rfl (by decide +kernel) ⟨Nat.le_of_ble_eq_true rfl, Nat.le_of_ble_eq_true rfl⟩) ⟨g_blind, va_recv hK hG.1 (q0 := 21 - 19) (ci := 5) rfl ((gw_at (k := 21) (by omega)).trans (by rw [gC_21 st ad cy])), g_pre hK hG hA hN hZ⟩ rfl rfl hl.1 rfl (lv_room (Nat.le_of_ble_eq_true rfl)) dX5_offset_2 ⟨Nat.le_of_ble_eq_true rfl, Nat.le_of_ble_eq_true rfl⟩) (fun E9 st9 H locs ce9 q9 hp hG hce hcv hcl => ?_) (fun s9 H locs hp hG => ?_)
  · skip
    obtain ⟨⟨rfl, hcx⟩, hs9⟩ := hp
    rw [hs9] at hG
    clear hs9
    exact g_out hnt hlocks hG hce hcv hcl (by
      refine ⟨?_, rfl⟩
      have hks := kOffs_s t0 d v
      first
        | exact ⟨0, rfl, by omega⟩
        | exact ⟨1, rfl, by omega⟩
        | exact ⟨2, rfl, by omega⟩) (Nat.le_of_ble_eq_true rfl) (Nat.le_of_ble_eq_true rfl)
  obtain ⟨hcr, hs9⟩ := hp
  rw [hs9] at hG
  clear hs9
  obtain ⟨t, ht⟩ : ∃ z9 : Nat, z9 = ((t0)).toNat := ⟨_, rfl⟩
  rw [← ht]
  have hut : ((t : Nat) : Int) = (t0) := by omega
  have hbt : t < 6 := by omega
  refine lv_astore (lv' := [(4, .ref (ad (33 + 7 * t))), (0, .ref (ad 21)), (1, .int (iI (t0))), (2, .int (iI (d))), (3, .int (iI (v)))]) hx hb dX5_offset_5 hl (by decide) rfl (fun ls hl => ?_)
  refine lv_iload_n hx hb dX5_offset_7 rfl (lv_at hl 3 rfl) ?_
  refine lv_bipush (v := iI (16)) hx hb dX5_offset_8 (by decide +kernel) ?_
  refine gx_gov hG hA (vx_runS (As := [.int (iI (d)), .int (iI (16))]) (rest := []) ⟨hx, hb, hml, hown, hts⟩ (mX5_checkIndex l D cy ad n st _ fz wb hn hI (by omega) (d) (16) hlf (by omega) (by omega)) (va_cwS 2 hts gX5_offset_X5_checkIndex rfl rfl rfl (by decide +kernel) ⟨Nat.le_of_ble_eq_true rfl, Nat.le_of_ble_eq_true rfl⟩) ⟨g_blind, g_pre hK hG hA hN hZ⟩ rfl rfl hl.1 rfl (lv_room (Nat.le_of_ble_eq_true rfl)) dX5_offset_10 ⟨Nat.le_of_ble_eq_true rfl, Nat.le_of_ble_eq_true rfl⟩) (fun E9 st9 H locs ce9 q9 hp hG hce hcv hcl => ?_) (fun s9 H locs hp hG => ?_)
  · skip
    obtain ⟨⟨rfl, hcx⟩, hs9⟩ := hp
    rw [hs9] at hG
    clear hs9
    exact g_out hnt hlocks hG hce hcv hcl (by
      refine ⟨?_, rfl⟩
      have hks := kOffs_s t0 d v
      first
        | exact ⟨0, rfl, by omega⟩
        | exact ⟨1, rfl, by omega⟩
        | exact ⟨2, rfl, by omega⟩) (Nat.le_of_ble_eq_true rfl) (Nat.le_of_ble_eq_true rfl)
  obtain ⟨hcr, hs9⟩ := hp
  rw [hs9] at hG
  clear hs9
  refine lv_iload_n hx hb dX5_offset_13 rfl (lv_at hl 4 rfl) ?_
  refine lv_bipush (v := iI (-3)) hx hb dX5_offset_14 (by decide +kernel) ?_
  refine lv_iconst (v := iI (3)) hx hb dX5_offset_16 rfl ?_
  refine gx_gov hG hA (vx_runS (As := [.int (iI (v)), .int (iI (-3)), .int (iI (3))]) (rest := []) ⟨hx, hb, hml, hown, hts⟩ (mX5_checkArgument l D cy ad n st _ fz wb hn hI (by omega) (v) (-3) (3) hlf (by omega) (by omega) (by omega)) (va_cwS 3 hts gX5_offset_X5_checkArgument rfl rfl rfl (by decide +kernel) ⟨Nat.le_of_ble_eq_true rfl, Nat.le_of_ble_eq_true rfl⟩) ⟨g_blind, g_pre hK hG hA hN hZ⟩ rfl rfl hl.1 rfl (lv_room (Nat.le_of_ble_eq_true rfl)) dX5_offset_17 ⟨Nat.le_of_ble_eq_true rfl, Nat.le_of_ble_eq_true rfl⟩) (fun E9 st9 H locs ce9 q9 hp hG hce hcv hcl => ?_) (fun s9 H locs hp hG => ?_)
  · skip
    obtain ⟨⟨rfl, hcx⟩, hs9⟩ := hp
    rw [hs9] at hG
    clear hs9
    exact g_out hnt hlocks hG hce hcv hcl (by
      refine ⟨?_, rfl⟩
      have hks := kOffs_s t0 d v
      first
        | exact ⟨0, rfl, by omega⟩
        | exact ⟨1, rfl, by omega⟩
        | exact ⟨2, rfl, by omega⟩) (Nat.le_of_ble_eq_true rfl) (Nat.le_of_ble_eq_true rfl)
  obtain ⟨hcr, hs9⟩ := hp
  rw [hs9] at hG
  clear hs9
  refine lv_aload hx hb dX5_offset_20 (lv_at hl 0 rfl) ?_
  refine g_get hx hb hts hin4 hown hK hG (key := 33 + 7 * t) (by omega) (gC_t st ad cy hbt) rfl 6 (by decide) L_163 (fun _ h9 => h9) rfl dX5_offset_22 ?_
  refine lv_iload_n hx hb dX5_offset_25 rfl (lv_at hl 3 rfl) ?_
  refine g_iald hx hb hK hG (39 + 7 * t) (kd := 39) (o := t) (gk_t (o := t) (j := 6) hbt (by decide)) rfl (by omega) (cp := 45) (ln := 16) rfl rfl (by omega) dX5_offset_26 ?_
  have hr1 := gI_45 hI (t) (d)
  refine r_nm (fun v2 ev2 => ?_)
  rw [← ev2] at hr1
  refine lv_istore (lv' := [(5, .int (iI (v2))), (4, .ref (ad (33 + 7 * t))), (0, .ref (ad 21)), (1, .int (iI (t0))), (2, .int (iI (d))), (3, .int (iI (v)))]) hx hb dX5_offset_27 hl (by decide) rfl (fun ls hl => ?_)
  refine lv_aload hx hb dX5_offset_29 (lv_at hl 1 rfl) ?_
  refine g_get hx hb hts hin4 hown hK hG (key := 33 + 7 * t) (by omega) (gC_t st ad cy hbt) rfl 6 (by decide) L_163 (fun _ h9 => h9) rfl dX5_offset_31 ?_
  refine lv_iload_n hx hb dX5_offset_34 rfl (lv_at hl 4 rfl) ?_
  refine lv_iload_n hx hb dX5_offset_35 rfl (lv_at hl 5 rfl) ?_
  refine g_iast hx hb hK hG (39 + 7 * t) (kd := 39) (o := t) (gk_t (o := t) (j := 6) hbt (by decide)) rfl (by omega) (cp := 45) (ln := 16) rfl rfl (by omega) dX5_offset_36 (fun H locs hG => ?_)
  obtain ⟨st3, hst3⟩ : ∃ z : St, z = ust st 45 (t) (d) (v) := ⟨_, rfl⟩
  rw [← hst3] at hG
  replace hI := hst3 ▸ gIu_45 hI (t) (d) (v := v) (by omega)
  refine lv_iload hx hb dX5_offset_37 (lv_at hl 0 rfl) ?_
  refine W.widen (k := 3) (n := 18) (by omega) (by omega) ?_
  refine vx_ret ?_
  exact g_iret hx hb hr hlocks hG (by
    have hks := kOffs_s t0 d v
    refine ⟨by omega, ?_, hI⟩
    try rw [← ht]
    exact ⟨by subst_vars; rfl, by subst_vars; rfl⟩) dX5_offset_39
set_option maxHeartbeats 400000 in
set_option maxRecDepth 100000 in
theorem mX5_calibrate (l : Launch) (D : va_G) (cy : Nat → ClassId) (ad : Nat → Nat) (n : Nat) (st : St) (sz fz : Nat) (wb : Int) (hn : 75 ≤ n) (hI : GI wb st) (hW : wb ≤ 2000000) (t0 : Int) (v : Int) (ht0 : -2147483648 ≤ t0 ∧ t0 < 2147483648) (hv0 : -2147483648 ≤ v ∧ v < 2147483648) (hlf : l.stackTraces = false) (hnl : (n : Int) = 75 + 3 * st 33 0 0) (hR : RY st) (hvz : v = 0 ∨ v = 1) : vx_Met l yX5_calibrate wsX5_calibrate ({ frames := 7, cells := 1, slots := 6, locals := 111 }) (va_Pc [.ref (ad 21), .int (iI (t0)), .int (iI (v))] (gB D cy ad n st sz fz)) (va_Qi (fun (r : Int32) (st' : St) => kRange 0 5 t0 = 0 ∧ (r = iI (st 48 (t0).toNat 0) ∧ st' = ust st 48 (t0).toNat 0 v) ∧ GI wb st') (gP D cy ad n) (gA n ad sz)) (gX D cy ad n (fun (E : String) (st' : St) => xE [xI] E (kRange 0 5 t0) ∧ st' = st) (gA n ad sz)) 1 6 (gA n ad sz) := by
  refine vx_ofW (cc := cX5_calibrate) (maxL := 5) (ret := (some .boolean)) (by decide) rfl ?_
  intro p e s m args below meth c s₁ B hml hnt hv
  obtain ⟨rfl, hsz, hP, hK, hD0, hN, hZ⟩ := hv
  have hx := B.exec
  have hb := B.bytes
  have hr := B.returns
  have hts := atoms_spec (ws := wsX5_calibrate) B.pre
  have hown : s.vm.findClass RX5 = some m.cls := findClass_of_methodNamed B.named
  have hlocks := B.notSynchronized
  subst hsz
  have hA : ∀ q : Nat, s.heap.size ≤ q → gA n ad s.heap.size q := fun q h => Or.inr h
  have hG : GH D cy ad n st (gA n ad s.heap.size) s.heap s.heap [] := ⟨hP, gw_A hD0, va_S.rf⟩
  have hl := lv_entry ([.ref (ad 21), .int (iI (t0)), .int (iI (v))]) (n := 5) (Nat.le_of_ble_eq_true rfl)
  rw [lg_entry_eq]
  generalize (lg_sl ([.ref (ad 21), .int (iI (t0)), .int (iI (v))]) ++ List.replicate (5 - (lg_sl ([.ref (ad 21), .int (iI (t0)), .int (iI (v))])).length) Slot.unset).toArray = ls at hl ⊢
  have hl : lv_has ls 5 [(0, .ref (ad 21)), (1, .int (iI (t0))), (2, .int (iI (v)))] := hl
  have hin5 : ∀ w ∈ u_ws RX5 TX5 6, w ∈ wsX5_calibrate := by decide +kernel
  have hin4 : ∀ w ∈ u_ws RX4 TX4 12, w ∈ wsX5_calibrate := by decide +kernel
  have L_167 := hts (.fieldLink RX5 167 "Crossbarry$Tile" "isCalibrated" "Z") (by decide +kernel)
  obtain ⟨⟨hR1, hR2, hR3, hR4⟩, hRl, hRw, hRr, hRc, hRt, hRo, hRk, hsc, hsi, hch, hun, hfr⟩ := id hR
  have h33 := gI_33 hI 0 0
  refine lv_aload_n hx hb dX5_calibrate_0 rfl (lv_at hl 0 rfl) ?_
  refine lv_iload_n hx hb dX5_calibrate_1 rfl (lv_at hl 1 rfl) ?_
  refine gx_gor hG hA (vx_runV (As := [.int (iI (t0))]) (rest := []) ⟨hx, hb, hml, hown, hts⟩ (mX5_tileAt l D cy ad n st _ fz wb hn hI (by omega) (t0) hlf (by omega)) (cwV 1 hts gX5_calibrate_X5_tileAt rfl rfl rfl (by decide +kernel) ⟨Nat.le_of_ble_eq_true rfl, Nat.le_of_ble_eq_true rfl⟩) ⟨g_blind, va_recv hK hG.1 (q0 := 21 - 19) (ci := 5) rfl ((gw_at (k := 21) (by omega)).trans (by rw [gC_21 st ad cy])), g_pre hK hG hA hN hZ⟩ rfl rfl hl.1 rfl (lv_room (Nat.le_of_ble_eq_true rfl)) dX5_calibrate_2 ⟨Nat.le_of_ble_eq_true rfl, Nat.le_of_ble_eq_true rfl⟩) (fun E9 st9 H locs ce9 q9 hp hG hce hcv hcl => ?_) (fun s9 H locs hp hG => ?_)
  · skip
    obtain ⟨⟨rfl, hcx⟩, hs9⟩ := hp
    rw [hs9] at hG
    clear hs9
    exact g_out hnt hlocks hG hce hcv hcl (by
      refine ⟨?_, rfl⟩
      have hks := kRange_s 0 5 t0
      first
        | exact ⟨0, rfl, by omega⟩
        | exact ⟨1, rfl, by omega⟩
        | exact ⟨2, rfl, by omega⟩) (Nat.le_of_ble_eq_true rfl) (Nat.le_of_ble_eq_true rfl)
  obtain ⟨hcr, hs9⟩ := hp
  rw [hs9] at hG
  clear hs9
  obtain ⟨t, ht⟩ : ∃ z9 : Nat, z9 = ((t0)).toNat := ⟨_, rfl⟩
  rw [← ht]
  have hut : ((t : Nat) : Int) = (t0) := by omega
  have hbt : t < 6 := by omega
  refine lv_astore_n (lv' := [(3, .ref (ad (33 + 7 * t))), (0, .ref (ad 21)), (1, .int (iI (t0))), (2, .int (iI (v)))]) hx hb dX5_calibrate_5 rfl hl (by decide) rfl (fun ls hl => ?_)
  refine lv_aload_n hx hb dX5_calibrate_6 rfl (lv_at hl 0 rfl) ?_
  refine g_get hx hb hts hin4 hown hK hG (key := 33 + 7 * t) (by omega) (gC_t st ad cy hbt) rfl 9 (by decide) L_167 (fun _ h9 => h9) rfl dX5_calibrate_7 ?_
  have hr1 := gI_48 hI (t) (0)
  refine r_nm (fun v2 ev2 => ?_)
  rw [← ev2] at hr1
  refine lv_istore (lv' := [(4, .int (iI (v2))), (3, .ref (ad (33 + 7 * t))), (0, .ref (ad 21)), (1, .int (iI (t0))), (2, .int (iI (v)))]) hx hb dX5_calibrate_10 hl (by decide) rfl (fun ls hl => ?_)
  refine lv_aload_n hx hb dX5_calibrate_12 rfl (lv_at hl 1 rfl) ?_
  refine lv_iload_n hx hb dX5_calibrate_13 rfl (lv_at hl 4 rfl) ?_
  refine g_put hx hb hts hin4 tyX4 tyX4_ok nmX4 hown hK hG (key := 33 + 7 * t) (by omega) (gC_t st ad cy hbt) rfl 9 (by decide) L_167 (fun _ h9 => h9) rfl (ty := .boolean) (by decide +kernel) (narZ (by omega)) (fitZ (by omega)) (Nat.le_of_ble_eq_true rfl) dX5_calibrate_14 (ust st 48 t 0 (v)) (fun j _ => gU_48 st ad cy hbt (v) j) (fun H locs hG => ?_)
  obtain ⟨st3, hst3⟩ : ∃ z : St, z = ust st 48 (t) (0) (v) := ⟨_, rfl⟩
  rw [← hst3] at hG
  replace hI := hst3 ▸ gIu_48 hI (t) (0) (v := v) (by omega)
  refine lv_iload hx hb dX5_calibrate_17 (lv_at hl 0 rfl) ?_
  refine W.widen (k := 1) (n := 6) (by omega) (by omega) ?_
  refine vx_ret ?_
  exact g_zret hx hb hr hlocks (narZ (by omega)) hG (by
    have hks := kRange_s 0 5 t0
    refine ⟨by omega, ?_, hI⟩
    try rw [← ht]
    exact ⟨by subst_vars; rfl, by subst_vars; rfl⟩) dX5_calibrate_19
set_option maxHeartbeats 400000 in
set_option maxRecDepth 100000 in
theorem mX5_converters (l : Launch) (D : va_G) (cy : Nat → ClassId) (ad : Nat → Nat) (n : Nat) (st : St) (sz fz : Nat) (wb : Int) (hn : 75 ≤ n) (hI : GI wb st) (hW : wb ≤ 2000000) (t0 : Int) (v : Int) (ht0 : -2147483648 ≤ t0 ∧ t0 < 2147483648) (hv0 : -2147483648 ≤ v ∧ v < 2147483648) (hlf : l.stackTraces = false) (hnl : (n : Int) = 75 + 3 * st 33 0 0) (hR : RY st) : vx_Met l yX5_converters wsX5_converters ({ frames := 7, cells := 3, slots := 18, locals := 112 }) (va_Pc [.ref (ad 21), .int (iI (t0)), .int (iI (v))] (gB D cy ad n st sz fz)) (va_Qi (fun (r : Int32) (st' : St) => kMany t0 v = 0 ∧ (r = iI (st 49 (t0).toNat 0) ∧ st' = ust st 49 (t0).toNat 0 v) ∧ GI wb st') (gP D cy ad n) (gA n ad sz)) (gX D cy ad n (fun (E : String) (st' : St) => xE [xI, xA] E (kMany t0 v) ∧ st' = st) (gA n ad sz)) 3 18 (gA n ad sz) := by
  refine vx_ofW (cc := cX5_converters) (maxL := 5) (ret := (some .int)) (by decide) rfl ?_
  intro p e s m args below meth c s₁ B hml hnt hv
  obtain ⟨rfl, hsz, hP, hK, hD0, hN, hZ⟩ := hv
  have hx := B.exec
  have hb := B.bytes
  have hr := B.returns
  have hts := atoms_spec (ws := wsX5_converters) B.pre
  have hown : s.vm.findClass RX5 = some m.cls := findClass_of_methodNamed B.named
  have hlocks := B.notSynchronized
  subst hsz
  have hA : ∀ q : Nat, s.heap.size ≤ q → gA n ad s.heap.size q := fun q h => Or.inr h
  have hG : GH D cy ad n st (gA n ad s.heap.size) s.heap s.heap [] := ⟨hP, gw_A hD0, va_S.rf⟩
  have hl := lv_entry ([.ref (ad 21), .int (iI (t0)), .int (iI (v))]) (n := 5) (Nat.le_of_ble_eq_true rfl)
  rw [lg_entry_eq]
  generalize (lg_sl ([.ref (ad 21), .int (iI (t0)), .int (iI (v))]) ++ List.replicate (5 - (lg_sl ([.ref (ad 21), .int (iI (t0)), .int (iI (v))])).length) Slot.unset).toArray = ls at hl ⊢
  have hl : lv_has ls 5 [(0, .ref (ad 21)), (1, .int (iI (t0))), (2, .int (iI (v)))] := hl
  have hin5 : ∀ w ∈ u_ws RX5 TX5 6, w ∈ wsX5_converters := by decide +kernel
  have hin4 : ∀ w ∈ u_ws RX4 TX4 12, w ∈ wsX5_converters := by decide +kernel
  have L_177 := hts (.fieldLink RX5 177 "Crossbarry$Tile" "converterCount" "I") (by decide +kernel)
  obtain ⟨⟨hR1, hR2, hR3, hR4⟩, hRl, hRw, hRr, hRc, hRt, hRo, hRk, hsc, hsi, hch, hun, hfr⟩ := id hR
  have h33 := gI_33 hI 0 0
  refine lv_aload_n hx hb dX5_converters_0 rfl (lv_at hl 0 rfl) ?_
  refine lv_iload_n hx hb dX5_converters_1 rfl (lv_at hl 1 rfl) ?_
  refine gx_gor hG hA (vx_runV (As := [.int (iI (t0))]) (rest := []) ⟨hx, hb, hml, hown, hts⟩ (mX5_tileAt l D cy ad n st _ fz wb hn hI (by omega) (t0) hlf (by omega)) (cwV 1 hts gX5_converters_X5_tileAt rfl rfl rfl (by decide +kernel) ⟨Nat.le_of_ble_eq_true rfl, Nat.le_of_ble_eq_true rfl⟩) ⟨g_blind, va_recv hK hG.1 (q0 := 21 - 19) (ci := 5) rfl ((gw_at (k := 21) (by omega)).trans (by rw [gC_21 st ad cy])), g_pre hK hG hA hN hZ⟩ rfl rfl hl.1 rfl (lv_room (Nat.le_of_ble_eq_true rfl)) dX5_converters_2 ⟨Nat.le_of_ble_eq_true rfl, Nat.le_of_ble_eq_true rfl⟩) (fun E9 st9 H locs ce9 q9 hp hG hce hcv hcl => ?_) (fun s9 H locs hp hG => ?_)
  · skip
    obtain ⟨⟨rfl, hcx⟩, hs9⟩ := hp
    rw [hs9] at hG
    clear hs9
    exact g_out hnt hlocks hG hce hcv hcl (by
      refine ⟨?_, rfl⟩
      have hks := kMany_s t0 v
      first
        | exact ⟨0, rfl, by omega⟩
        | exact ⟨1, rfl, by omega⟩
        | exact ⟨2, rfl, by omega⟩) (Nat.le_of_ble_eq_true rfl) (Nat.le_of_ble_eq_true rfl)
  obtain ⟨hcr, hs9⟩ := hp
  rw [hs9] at hG
  clear hs9
  obtain ⟨t, ht⟩ : ∃ z9 : Nat, z9 = ((t0)).toNat := ⟨_, rfl⟩
  rw [← ht]
  have hut : ((t : Nat) : Int) = (t0) := by omega
  have hbt : t < 6 := by omega
  refine lv_astore_n (lv' := [(3, .ref (ad (33 + 7 * t))), (0, .ref (ad 21)), (1, .int (iI (t0))), (2, .int (iI (v)))]) hx hb dX5_converters_5 rfl hl (by decide) rfl (fun ls hl => ?_)
  refine lv_iload_n hx hb dX5_converters_6 rfl (lv_at hl 3 rfl) ?_
  refine lv_iconst (v := iI (1)) hx hb dX5_converters_7 rfl ?_
  refine lv_bipush (v := iI (16)) hx hb dX5_converters_8 (by decide +kernel) ?_
  refine gx_gov hG hA (vx_runS (As := [.int (iI (v)), .int (iI (1)), .int (iI (16))]) (rest := []) ⟨hx, hb, hml, hown, hts⟩ (mX5_checkArgument l D cy ad n st _ fz wb hn hI (by omega) (v) (1) (16) hlf (by omega) (by omega) (by omega)) (va_cwS 3 hts gX5_converters_X5_checkArgument rfl rfl rfl (by decide +kernel) ⟨Nat.le_of_ble_eq_true rfl, Nat.le_of_ble_eq_true rfl⟩) ⟨g_blind, g_pre hK hG hA hN hZ⟩ rfl rfl hl.1 rfl (lv_room (Nat.le_of_ble_eq_true rfl)) dX5_converters_10 ⟨Nat.le_of_ble_eq_true rfl, Nat.le_of_ble_eq_true rfl⟩) (fun E9 st9 H locs ce9 q9 hp hG hce hcv hcl => ?_) (fun s9 H locs hp hG => ?_)
  · skip
    obtain ⟨⟨rfl, hcx⟩, hs9⟩ := hp
    rw [hs9] at hG
    clear hs9
    exact g_out hnt hlocks hG hce hcv hcl (by
      refine ⟨?_, rfl⟩
      have hks := kMany_s t0 v
      first
        | exact ⟨0, rfl, by omega⟩
        | exact ⟨1, rfl, by omega⟩
        | exact ⟨2, rfl, by omega⟩) (Nat.le_of_ble_eq_true rfl) (Nat.le_of_ble_eq_true rfl)
  obtain ⟨hcr, hs9⟩ := hp
  rw [hs9] at hG
  clear hs9
  refine lv_iload_n hx hb dX5_converters_13 rfl (lv_at hl 3 rfl) ?_
  refine r_as (y := ((v.toNat : Nat) : Int)) (by omega) ?_
  have hbp := bitP v.toNat (by omega)
  refine g_goi hG hA (va_runS (As := [.int (iI (((v.toNat : Nat) : Int)))]) (rest := []) ⟨hx, hb, hml, hown, hts⟩ (mJ6_bitCount l D cy ad n st _ fz wb hn hI (by omega) (v.toNat) (by omega)) (va_cwS 1 hts gX5_converters_J6_bitCount_0f7a4 rfl rfl rfl (by decide +kernel) ⟨Nat.le_of_ble_eq_true rfl, Nat.le_of_ble_eq_true rfl⟩) ⟨g_blind, g_pre hK hG hA hN hZ⟩ rfl rfl hl.1 rfl (lv_room (Nat.le_of_ble_eq_true rfl)) dX5_converters_14 ⟨Nat.le_of_ble_eq_true rfl, Nat.le_of_ble_eq_true rfl⟩) (fun r9 s9 H locs hp hG => ?_)
  obtain ⟨rfl, hs9⟩ := hp
  rw [hs9] at hG
  clear hs9
  refine r_nm (fun v1 ev1 => ?_)
  have hr2 := onesI (v.toNat)
  rw [← ev1] at hr2
  refine lv_iconst (v := iI (1)) hx hb dX5_converters_17 rfl ?_
  refine r_icmp_eq (tgt := 31) hx hb (by omega) dX5_converters_18 (by decide) (fun c3 => ?_) (fun c3 => ?_)
  · skip
    refine lv_aload_n hx hb dX5_converters_31 rfl (lv_at hl 0 rfl) ?_
    refine g_get hx hb hts hin4 hown hK hG (key := 33 + 7 * t) (by omega) (gC_t st ad cy hbt) rfl 10 (by decide) L_177 (fun _ h9 => h9) rfl dX5_converters_32 ?_
    have hr4 := gI_49 hI (t) (0)
    refine r_nm (fun v5 ev5 => ?_)
    rw [← ev5] at hr4
    refine lv_istore (lv' := [(4, .int (iI (v5))), (3, .ref (ad (33 + 7 * t))), (0, .ref (ad 21)), (1, .int (iI (t0))), (2, .int (iI (v)))]) hx hb dX5_converters_35 hl (by decide) rfl (fun ls hl => ?_)
    refine lv_aload_n hx hb dX5_converters_37 rfl (lv_at hl 1 rfl) ?_
    refine lv_iload_n hx hb dX5_converters_38 rfl (lv_at hl 4 rfl) ?_
    refine g_put hx hb hts hin4 tyX4 tyX4_ok nmX4 hown hK hG (key := 33 + 7 * t) (by omega) (gC_t st ad cy hbt) rfl 10 (by decide) L_177 (fun _ h9 => h9) rfl (ty := .int) (by decide +kernel) rfl rfl (Nat.le_of_ble_eq_true rfl) dX5_converters_39 (ust st 49 t 0 (v)) (fun j _ => gU_49 st ad cy hbt (v) j) (fun H locs hG => ?_)
    obtain ⟨st6, hst6⟩ : ∃ z : St, z = ust st 49 (t) (0) (v) := ⟨_, rfl⟩
    rw [← hst6] at hG
    replace hI := hst6 ▸ gIu_49 hI (t) (0) (v := v) (by omega)
    refine lv_iload hx hb dX5_converters_42 (lv_at hl 0 rfl) ?_
    refine W.widen (k := 3) (n := 18) (by omega) (by omega) ?_
    refine vx_ret ?_
    exact g_iret hx hb hr hlocks hG (by
      have hks := kMany_s t0 v
      refine ⟨by omega, ?_, hI⟩
      try rw [← ht]
      exact ⟨by subst_vars; rfl, by subst_vars; rfl⟩) dX5_converters_44
  · skip
    exact g_xthrow (ik := 90) (is := 175) (ic := 94) (cls := xA) (text := "no such number of converters") hx hb hlf hown hts xftA xnbA xgdA (by decide +kernel) (by decide +kernel) (by decide +kernel) (by decide +kernel) hN hZ hG (hl.1.trans hml.symm) dX5_converters_21 dX5_converters_24 dX5_converters_25 dX5_converters_27 dX5_converters_30 hnt (Nat.le_of_ble_eq_true rfl) (Nat.le_of_ble_eq_true rfl) (Nat.le_of_ble_eq_true rfl) (Nat.le_of_ble_eq_true rfl) hlocks (by
      refine ⟨?_, rfl⟩
      have hks := kMany_s t0 v
      first
        | exact ⟨0, rfl, by omega⟩
        | exact ⟨1, rfl, by omega⟩
        | exact ⟨2, rfl, by omega⟩) (Nat.le_of_ble_eq_true rfl) (Nat.le_of_ble_eq_true rfl)
set_option maxHeartbeats 400000 in
set_option maxRecDepth 100000 in
theorem mX5_cell (l : Launch) (D : va_G) (cy : Nat → ClassId) (ad : Nat → Nat) (n : Nat) (st : St) (sz fz : Nat) (wb : Int) (hn : 75 ≤ n) (hI : GI wb st) (hW : wb ≤ 2000000) (t0 : Int) (r0 : Int) (d : Int) (w : Int) (ht0 : -2147483648 ≤ t0 ∧ t0 < 2147483648) (hr0 : -2147483648 ≤ r0 ∧ r0 < 2147483648) (hd : -2147483648 ≤ d ∧ d < 2147483648) (hw : -2147483648 ≤ w ∧ w < 2147483648) (hlf : l.stackTraces = false) (hnl : (n : Int) = 75 + 3 * st 33 0 0) (hR : RY st) : vx_Met l yX5_cell wsX5_cell ({ frames := 7, cells := 4, slots := 24, locals := 111 }) (va_Pc [.ref (ad 21), .int (iI (t0)), .int (iI (r0)), .int (iI (d)), .int (iI (w))] (gB D cy ad n st sz fz)) (va_Qi (fun (r : Int32) (st' : St) => kCell t0 r0 d w = 0 ∧ (r = iI (aCellC st (t0).toNat (16 * r0 + d) w) ∧ st' = st) ∧ GI wb st') (gP D cy ad n) (gA n ad sz)) (gX D cy ad n (fun (E : String) (st' : St) => xE [xI] E (kCell t0 r0 d w) ∧ st' = st) (gA n ad sz)) 4 24 (gA n ad sz) := by
  refine vx_ofW (cc := cX5_cell) (maxL := 7) (ret := (some .int)) (by decide) rfl ?_
  intro p e s m args below meth c s₁ B hml hnt hv
  obtain ⟨rfl, hsz, hP, hK, hD0, hN, hZ⟩ := hv
  have hx := B.exec
  have hb := B.bytes
  have hr := B.returns
  have hts := atoms_spec (ws := wsX5_cell) B.pre
  have hown : s.vm.findClass RX5 = some m.cls := findClass_of_methodNamed B.named
  have hlocks := B.notSynchronized
  subst hsz
  have hA : ∀ q : Nat, s.heap.size ≤ q → gA n ad s.heap.size q := fun q h => Or.inr h
  have hG : GH D cy ad n st (gA n ad s.heap.size) s.heap s.heap [] := ⟨hP, gw_A hD0, va_S.rf⟩
  have hl := lv_entry ([.ref (ad 21), .int (iI (t0)), .int (iI (r0)), .int (iI (d)), .int (iI (w))]) (n := 7) (Nat.le_of_ble_eq_true rfl)
  rw [lg_entry_eq]
  generalize (lg_sl ([.ref (ad 21), .int (iI (t0)), .int (iI (r0)), .int (iI (d)), .int (iI (w))]) ++ List.replicate (7 - (lg_sl ([.ref (ad 21), .int (iI (t0)), .int (iI (r0)), .int (iI (d)), .int (iI (w))])).length) Slot.unset).toArray = ls at hl ⊢
  have hl : lv_has ls 7 [(0, .ref (ad 21)), (1, .int (iI (t0))), (2, .int (iI (r0))), (3, .int (iI (d))), (4, .int (iI (w)))] := hl
  have hin5 : ∀ w ∈ u_ws RX5 TX5 6, w ∈ wsX5_cell := by decide +kernel
  have hin4 : ∀ w ∈ u_ws RX4 TX4 12, w ∈ wsX5_cell := by decide +kernel
  have L_12 := hts (.fieldLink RX5 12 "Crossbarry" "setting" "LCrossbarry$Setting;") (by decide +kernel)
  have L_183 := hts (.fieldLink RX5 183 "Crossbarry$Tile" "states" "[I") (by decide +kernel)
  have L_190 := hts (.fieldLink RX5 190 "Crossbarry$Tile" "wears" "[I") (by decide +kernel)
  have L_193 := hts (.fieldLink RX5 193 "Crossbarry$Tile" "isStuck" "[Z") (by decide +kernel)
  have L_197 := hts (.fieldLink RX5 197 "Crossbarry$Tile" "isKnown" "[Z") (by decide +kernel)
  obtain ⟨⟨hR1, hR2, hR3, hR4⟩, hRl, hRw, hRr, hRc, hRt, hRo, hRk, hsc, hsi, hch, hun, hfr⟩ := id hR
  have h33 := gI_33 hI 0 0
  refine lv_aload_n hx hb dX5_cell_0 rfl (lv_at hl 0 rfl) ?_
  refine lv_iload_n hx hb dX5_cell_1 rfl (lv_at hl 1 rfl) ?_
  refine gx_gor hG hA (vx_runV (As := [.int (iI (t0))]) (rest := []) ⟨hx, hb, hml, hown, hts⟩ (mX5_tileAt l D cy ad n st _ fz wb hn hI (by omega) (t0) hlf (by omega)) (cwV 1 hts gX5_cell_X5_tileAt rfl rfl rfl (by decide +kernel) ⟨Nat.le_of_ble_eq_true rfl, Nat.le_of_ble_eq_true rfl⟩) ⟨g_blind, va_recv hK hG.1 (q0 := 21 - 19) (ci := 5) rfl ((gw_at (k := 21) (by omega)).trans (by rw [gC_21 st ad cy])), g_pre hK hG hA hN hZ⟩ rfl rfl hl.1 rfl (lv_room (Nat.le_of_ble_eq_true rfl)) dX5_cell_2 ⟨Nat.le_of_ble_eq_true rfl, Nat.le_of_ble_eq_true rfl⟩) (fun E9 st9 H locs ce9 q9 hp hG hce hcv hcl => ?_) (fun s9 H locs hp hG => ?_)
  · skip
    obtain ⟨⟨rfl, hcx⟩, hs9⟩ := hp
    rw [hs9] at hG
    clear hs9
    exact g_out hnt hlocks hG hce hcv hcl (by
      refine ⟨?_, rfl⟩
      have hks := kCell_s t0 r0 d w
      first
        | exact ⟨0, rfl, by omega⟩
        | exact ⟨1, rfl, by omega⟩
        | exact ⟨2, rfl, by omega⟩) (Nat.le_of_ble_eq_true rfl) (Nat.le_of_ble_eq_true rfl)
  obtain ⟨hcr, hs9⟩ := hp
  rw [hs9] at hG
  clear hs9
  obtain ⟨t, ht⟩ : ∃ z9 : Nat, z9 = ((t0)).toNat := ⟨_, rfl⟩
  rw [← ht]
  have hut : ((t : Nat) : Int) = (t0) := by omega
  have hbt : t < 6 := by omega
  refine lv_astore (lv' := [(5, .ref (ad (33 + 7 * t))), (0, .ref (ad 21)), (1, .int (iI (t0))), (2, .int (iI (r0))), (3, .int (iI (d))), (4, .int (iI (w)))]) hx hb dX5_cell_5 hl (by decide) rfl (fun ls hl => ?_)
  refine lv_iload_n hx hb dX5_cell_7 rfl (lv_at hl 3 rfl) ?_
  refine lv_bipush (v := iI (8)) hx hb dX5_cell_8 (by decide +kernel) ?_
  refine gx_gov hG hA (vx_runS (As := [.int (iI (r0)), .int (iI (8))]) (rest := []) ⟨hx, hb, hml, hown, hts⟩ (mX5_checkIndex l D cy ad n st _ fz wb hn hI (by omega) (r0) (8) hlf (by omega) (by omega)) (va_cwS 2 hts gX5_cell_X5_checkIndex rfl rfl rfl (by decide +kernel) ⟨Nat.le_of_ble_eq_true rfl, Nat.le_of_ble_eq_true rfl⟩) ⟨g_blind, g_pre hK hG hA hN hZ⟩ rfl rfl hl.1 rfl (lv_room (Nat.le_of_ble_eq_true rfl)) dX5_cell_10 ⟨Nat.le_of_ble_eq_true rfl, Nat.le_of_ble_eq_true rfl⟩) (fun E9 st9 H locs ce9 q9 hp hG hce hcv hcl => ?_) (fun s9 H locs hp hG => ?_)
  · skip
    obtain ⟨⟨rfl, hcx⟩, hs9⟩ := hp
    rw [hs9] at hG
    clear hs9
    exact g_out hnt hlocks hG hce hcv hcl (by
      refine ⟨?_, rfl⟩
      have hks := kCell_s t0 r0 d w
      first
        | exact ⟨0, rfl, by omega⟩
        | exact ⟨1, rfl, by omega⟩
        | exact ⟨2, rfl, by omega⟩) (Nat.le_of_ble_eq_true rfl) (Nat.le_of_ble_eq_true rfl)
  obtain ⟨hcr, hs9⟩ := hp
  rw [hs9] at hG
  clear hs9
  refine lv_iload_n hx hb dX5_cell_13 rfl (lv_at hl 4 rfl) ?_
  refine lv_bipush (v := iI (16)) hx hb dX5_cell_14 (by decide +kernel) ?_
  refine gx_gov hG hA (vx_runS (As := [.int (iI (d)), .int (iI (16))]) (rest := []) ⟨hx, hb, hml, hown, hts⟩ (mX5_checkIndex l D cy ad n st _ fz wb hn hI (by omega) (d) (16) hlf (by omega) (by omega)) (va_cwS 2 hts gX5_cell_X5_checkIndex rfl rfl rfl (by decide +kernel) ⟨Nat.le_of_ble_eq_true rfl, Nat.le_of_ble_eq_true rfl⟩) ⟨g_blind, g_pre hK hG hA hN hZ⟩ rfl rfl hl.1 rfl (lv_room (Nat.le_of_ble_eq_true rfl)) dX5_cell_16 ⟨Nat.le_of_ble_eq_true rfl, Nat.le_of_ble_eq_true rfl⟩) (fun E9 st9 H locs ce9 q9 hp hG hce hcv hcl => ?_) (fun s9 H locs hp hG => ?_)
  · skip
    obtain ⟨⟨rfl, hcx⟩, hs9⟩ := hp
    rw [hs9] at hG
    clear hs9
    exact g_out hnt hlocks hG hce hcv hcl (by
      refine ⟨?_, rfl⟩
      have hks := kCell_s t0 r0 d w
      first
        | exact ⟨0, rfl, by omega⟩
        | exact ⟨1, rfl, by omega⟩
        | exact ⟨2, rfl, by omega⟩) (Nat.le_of_ble_eq_true rfl) (Nat.le_of_ble_eq_true rfl)
  obtain ⟨hcr, hs9⟩ := hp
  rw [hs9] at hG
  clear hs9
  refine lv_iload hx hb dX5_cell_19 (lv_at hl 5 rfl) ?_
  refine lv_iconst (v := iI (5)) hx hb dX5_cell_21 rfl ?_
  refine gx_gov hG hA (vx_runS (As := [.int (iI (w)), .int (iI (5))]) (rest := []) ⟨hx, hb, hml, hown, hts⟩ (mX5_checkIndex l D cy ad n st _ fz wb hn hI (by omega) (w) (5) hlf (by omega) (by omega)) (va_cwS 2 hts gX5_cell_X5_checkIndex rfl rfl rfl (by decide +kernel) ⟨Nat.le_of_ble_eq_true rfl, Nat.le_of_ble_eq_true rfl⟩) ⟨g_blind, g_pre hK hG hA hN hZ⟩ rfl rfl hl.1 rfl (lv_room (Nat.le_of_ble_eq_true rfl)) dX5_cell_22 ⟨Nat.le_of_ble_eq_true rfl, Nat.le_of_ble_eq_true rfl⟩) (fun E9 st9 H locs ce9 q9 hp hG hce hcv hcl => ?_) (fun s9 H locs hp hG => ?_)
  · skip
    obtain ⟨⟨rfl, hcx⟩, hs9⟩ := hp
    rw [hs9] at hG
    clear hs9
    exact g_out hnt hlocks hG hce hcv hcl (by
      refine ⟨?_, rfl⟩
      have hks := kCell_s t0 r0 d w
      first
        | exact ⟨0, rfl, by omega⟩
        | exact ⟨1, rfl, by omega⟩
        | exact ⟨2, rfl, by omega⟩) (Nat.le_of_ble_eq_true rfl) (Nat.le_of_ble_eq_true rfl)
  obtain ⟨hcr, hs9⟩ := hp
  rw [hs9] at hG
  clear hs9
  refine lv_iload_n hx hb dX5_cell_25 rfl (lv_at hl 3 rfl) ?_
  refine lv_iload_n hx hb dX5_cell_26 rfl (lv_at hl 4 rfl) ?_
  refine g_goi hG hA (va_runS (As := [.int (iI (r0)), .int (iI (d))]) (rest := []) ⟨hx, hb, hml, hown, hts⟩ (mX5_indexOf l D cy ad n st _ fz wb hn hI (by omega) (r0) (d) ) (va_cwS 2 hts gX5_cell_X5_indexOf rfl rfl rfl (by decide +kernel) ⟨Nat.le_of_ble_eq_true rfl, Nat.le_of_ble_eq_true rfl⟩) ⟨g_blind, g_pre hK hG hA hN hZ⟩ rfl rfl hl.1 rfl (lv_room (Nat.le_of_ble_eq_true rfl)) dX5_cell_27 ⟨Nat.le_of_ble_eq_true rfl, Nat.le_of_ble_eq_true rfl⟩) (fun r9 s9 H locs hp hG => ?_)
  obtain ⟨rfl, hs9⟩ := hp
  rw [hs9] at hG
  clear hs9
  refine r_nm (fun v1 ev1 => ?_)
  obtain ⟨ix, hix⟩ : ∃ z9 : Int, z9 = 16 * r0 + d := ⟨_, rfl⟩
  refine r_as (y := ix) (by omega) ?_
  refine lv_istore (lv' := [(6, .int (iI (ix))), (5, .ref (ad (33 + 7 * t))), (0, .ref (ad 21)), (1, .int (iI (t0))), (2, .int (iI (r0))), (3, .int (iI (d))), (4, .int (iI (w)))]) hx hb dX5_cell_30 hl (by decide) rfl (fun ls hl => ?_)
  refine lv_iload hx hb dX5_cell_32 (lv_at hl 6 rfl) ?_
  by_cases hsw2 : w = 0
  · skip
    refine lv_tableIn (off := 30) (tgt := 64) hx hb dX5_cell_34 (by rw [iI_toInt (by omega) (by omega)]; omega) (by rw [iI_toInt (by omega) (by omega)]; omega) (by rw [iI_toInt (by omega) (by omega)]; rw [hsw2]; rfl) (by decide) ?_
    refine lv_aload hx hb dX5_cell_64 (lv_at hl 1 rfl) ?_
    refine g_get hx hb hts hin4 hown hK hG (key := 33 + 7 * t) (by omega) (gC_t st ad cy hbt) rfl 1 (by decide) L_183 (fun _ h9 => h9) rfl dX5_cell_66 ?_
    refine lv_iload hx hb dX5_cell_69 (lv_at hl 0 rfl) ?_
    refine g_iald hx hb hK hG (34 + 7 * t) (kd := 34) (o := t) (gk_t (o := t) (j := 1) hbt (by decide)) rfl (by omega) (cp := 40) (ln := 128) rfl rfl (by omega) dX5_cell_71 ?_
    have hr3 := gI_40 hI (t) (ix)
    refine r_nm (fun v4 ev4 => ?_)
    rw [← ev4] at hr3
    refine W.widen (k := 4) (n := 24) (by omega) (by omega) ?_
    refine vx_ret ?_
    exact g_iret hx hb hr hlocks hG (by
      have hks := kCell_s t0 r0 d w
      refine ⟨by omega, ?_, hI⟩
      try rw [← ht]
      refine ⟨?_, rfl⟩
      congr 1
      unfold aCellC
      first
        | (rw [if_pos (by omega)]; subst_vars; rfl)
        | (rw [if_neg (by omega), if_pos (by omega)]; subst_vars; rfl)
        | (rw [if_neg (by omega), if_neg (by omega), if_pos (by omega)]; subst_vars; rfl)
        | (rw [if_neg (by omega), if_neg (by omega), if_neg (by omega), if_pos (by omega)]; omega)
        | (rw [if_neg (by omega), if_neg (by omega), if_neg (by omega), if_neg (by omega)]; omega)) dX5_cell_72
  · skip
    by_cases hsw5 : w = 1
    · skip
      refine lv_tableIn (off := 39) (tgt := 73) hx hb dX5_cell_34 (by rw [iI_toInt (by omega) (by omega)]; omega) (by rw [iI_toInt (by omega) (by omega)]; omega) (by rw [iI_toInt (by omega) (by omega)]; rw [hsw5]; rfl) (by decide) ?_
      refine lv_aload hx hb dX5_cell_73 (lv_at hl 1 rfl) ?_
      refine lv_iload_n hx hb dX5_cell_75 rfl (lv_at hl 4 rfl) ?_
      refine lv_iload_n hx hb dX5_cell_76 rfl (lv_at hl 5 rfl) ?_
      refine lv_aload_n hx hb dX5_cell_77 rfl (lv_at hl 2 rfl) ?_
      refine g_get hx hb hts hin5 hown hK hG (key := 21) (by omega) (gC_21 st ad cy) rfl 0 (by decide) L_12 (fun _ h9 => h9) rfl dX5_cell_78 ?_
      refine g_goi hG hA (va_runV (As := [.int (iI (r0)), .int (iI (d)), .ref (ad 22)]) (rest := []) ⟨hx, hb, hml, hown, hts⟩ (mX4_conducted l D cy ad n st _ fz wb hn hI (by omega) (t) (r0) (d) (by omega) (by omega) (by omega) hsc) (cwV 3 hts gX5_cell_X4_conducted rfl rfl rfl (by decide +kernel) ⟨Nat.le_of_ble_eq_true rfl, Nat.le_of_ble_eq_true rfl⟩) ⟨g_blind, va_recv hK hG.1 (q0 := (33 + 7 * t) - 19) (ci := 4) rfl ((gw_at (k := 33 + 7 * t) (by omega)).trans (by rw [gC_t st ad cy hbt])), g_pre hK hG hA hN hZ⟩ rfl rfl hl.1 rfl (lv_room (Nat.le_of_ble_eq_true rfl)) dX5_cell_81 ⟨Nat.le_of_ble_eq_true rfl, Nat.le_of_ble_eq_true rfl⟩) (fun r9 s9 H locs hp hG => ?_)
      obtain ⟨rfl, hs9⟩ := hp
      rw [hs9] at hG
      clear hs9
      refine r_nm (fun v6 ev6 => ?_)
      have hr7 := conC_r hI (t) (16 * (r0) + (d)) (hsc (t) _)
      rw [← ev6] at hr7
      refine W.widen (k := 4) (n := 24) (by omega) (by omega) ?_
      refine vx_ret ?_
      exact g_iret hx hb hr hlocks hG (by
        have hks := kCell_s t0 r0 d w
        refine ⟨by omega, ?_, hI⟩
        try rw [← ht]
        refine ⟨?_, rfl⟩
        congr 1
        unfold aCellC
        first
          | (rw [if_pos (by omega)]; subst_vars; rfl)
          | (rw [if_neg (by omega), if_pos (by omega)]; subst_vars; rfl)
          | (rw [if_neg (by omega), if_neg (by omega), if_pos (by omega)]; subst_vars; rfl)
          | (rw [if_neg (by omega), if_neg (by omega), if_neg (by omega), if_pos (by omega)]; omega)
          | (rw [if_neg (by omega), if_neg (by omega), if_neg (by omega), if_neg (by omega)]; omega)) dX5_cell_84
    · skip
      by_cases hsw8 : w = 2
      · skip
        refine lv_tableIn (off := 51) (tgt := 85) hx hb dX5_cell_34 (by rw [iI_toInt (by omega) (by omega)]; omega) (by rw [iI_toInt (by omega) (by omega)]; omega) (by rw [iI_toInt (by omega) (by omega)]; rw [hsw8]; rfl) (by decide) ?_
        refine lv_aload hx hb dX5_cell_85 (lv_at hl 1 rfl) ?_
        refine g_get hx hb hts hin4 hown hK hG (key := 33 + 7 * t) (by omega) (gC_t st ad cy hbt) rfl 2 (by decide) L_190 (fun _ h9 => h9) rfl dX5_cell_87 ?_
        refine lv_iload hx hb dX5_cell_90 (lv_at hl 0 rfl) ?_
        refine g_iald hx hb hK hG (35 + 7 * t) (kd := 35) (o := t) (gk_t (o := t) (j := 2) hbt (by decide)) rfl (by omega) (cp := 41) (ln := 128) rfl rfl (by omega) dX5_cell_92 ?_
        have hr9 := gI_41 hI (t) (ix)
        refine r_nm (fun v10 ev10 => ?_)
        rw [← ev10] at hr9
        refine W.widen (k := 4) (n := 24) (by omega) (by omega) ?_
        refine vx_ret ?_
        exact g_iret hx hb hr hlocks hG (by
          have hks := kCell_s t0 r0 d w
          refine ⟨by omega, ?_, hI⟩
          try rw [← ht]
          refine ⟨?_, rfl⟩
          congr 1
          unfold aCellC
          first
            | (rw [if_pos (by omega)]; subst_vars; rfl)
            | (rw [if_neg (by omega), if_pos (by omega)]; subst_vars; rfl)
            | (rw [if_neg (by omega), if_neg (by omega), if_pos (by omega)]; subst_vars; rfl)
            | (rw [if_neg (by omega), if_neg (by omega), if_neg (by omega), if_pos (by omega)]; omega)
            | (rw [if_neg (by omega), if_neg (by omega), if_neg (by omega), if_neg (by omega)]; omega)) dX5_cell_93
      · skip
        by_cases hsw11 : w = 3
        · skip
          refine lv_tableIn (off := 60) (tgt := 94) hx hb dX5_cell_34 (by rw [iI_toInt (by omega) (by omega)]; omega) (by rw [iI_toInt (by omega) (by omega)]; omega) (by rw [iI_toInt (by omega) (by omega)]; rw [hsw11]; rfl) (by decide) ?_
          refine lv_aload hx hb dX5_cell_94 (lv_at hl 1 rfl) ?_
          refine g_get hx hb hts hin4 hown hK hG (key := 33 + 7 * t) (by omega) (gC_t st ad cy hbt) rfl 4 (by decide) L_193 (fun _ h9 => h9) rfl dX5_cell_96 ?_
          refine lv_iload hx hb dX5_cell_99 (lv_at hl 0 rfl) ?_
          refine g_zald hx hb hK hG (37 + 7 * t) (kd := 37) (o := t) (gk_t (o := t) (j := 4) hbt (by decide)) rfl (by omega) (cp := 43) (ln := 128) rfl rfl (by omega) dX5_cell_101 ?_
          have hr12 := gI_43 hI (t) (ix)
          refine r_nm (fun v13 ev13 => ?_)
          rw [← ev13] at hr12
          rw [hix] at ev13
          refine r_if_eq (tgt := 109) hx hb (by omega) dX5_cell_102 (by decide) (fun c14 => ?_) (fun c14 => ?_)
          · skip
            refine lv_iconst (v := iI (0)) hx hb dX5_cell_109 rfl ?_
            refine W.widen (k := 4) (n := 24) (by omega) (by omega) ?_
            refine vx_ret ?_
            exact g_iret hx hb hr hlocks hG (by
              have hks := kCell_s t0 r0 d w
              refine ⟨by omega, ?_, hI⟩
              try rw [← ht]
              refine ⟨?_, rfl⟩
              congr 1
              unfold aCellC
              first
                | (rw [if_pos (by omega)]; subst_vars; rfl)
                | (rw [if_neg (by omega), if_pos (by omega)]; subst_vars; rfl)
                | (rw [if_neg (by omega), if_neg (by omega), if_pos (by omega)]; subst_vars; rfl)
                | (rw [if_neg (by omega), if_neg (by omega), if_neg (by omega), if_pos (by omega)]; omega)
                | (rw [if_neg (by omega), if_neg (by omega), if_neg (by omega), if_neg (by omega)]; omega)) dX5_cell_110
          · skip
            refine lv_iconst (v := iI (1)) hx hb dX5_cell_105 rfl ?_
            refine lv_goto (tgt := 110) hx hb dX5_cell_106 (by decide) ?_
            refine W.widen (k := 4) (n := 24) (by omega) (by omega) ?_
            refine vx_ret ?_
            exact g_iret hx hb hr hlocks hG (by
              have hks := kCell_s t0 r0 d w
              refine ⟨by omega, ?_, hI⟩
              try rw [← ht]
              refine ⟨?_, rfl⟩
              congr 1
              unfold aCellC
              first
                | (rw [if_pos (by omega)]; subst_vars; rfl)
                | (rw [if_neg (by omega), if_pos (by omega)]; subst_vars; rfl)
                | (rw [if_neg (by omega), if_neg (by omega), if_pos (by omega)]; subst_vars; rfl)
                | (rw [if_neg (by omega), if_neg (by omega), if_neg (by omega), if_pos (by omega)]; omega)
                | (rw [if_neg (by omega), if_neg (by omega), if_neg (by omega), if_neg (by omega)]; omega)) dX5_cell_110
        · skip
          refine lv_tableOut (tgt := 111) hx hb dX5_cell_34 (by rw [iI_toInt (by omega) (by omega)]; right; omega) (by decide) ?_
          refine lv_aload hx hb dX5_cell_111 (lv_at hl 1 rfl) ?_
          refine g_get hx hb hts hin4 hown hK hG (key := 33 + 7 * t) (by omega) (gC_t st ad cy hbt) rfl 5 (by decide) L_197 (fun _ h9 => h9) rfl dX5_cell_113 ?_
          refine lv_iload hx hb dX5_cell_116 (lv_at hl 0 rfl) ?_
          refine g_zald hx hb hK hG (38 + 7 * t) (kd := 38) (o := t) (gk_t (o := t) (j := 5) hbt (by decide)) rfl (by omega) (cp := 44) (ln := 128) rfl rfl (by omega) dX5_cell_118 ?_
          have hr15 := gI_44 hI (t) (ix)
          refine r_nm (fun v16 ev16 => ?_)
          rw [← ev16] at hr15
          rw [hix] at ev16
          refine r_if_eq (tgt := 126) hx hb (by omega) dX5_cell_119 (by decide) (fun c17 => ?_) (fun c17 => ?_)
          · skip
            refine lv_iconst (v := iI (0)) hx hb dX5_cell_126 rfl ?_
            refine W.widen (k := 4) (n := 24) (by omega) (by omega) ?_
            refine vx_ret ?_
            exact g_iret hx hb hr hlocks hG (by
              have hks := kCell_s t0 r0 d w
              refine ⟨by omega, ?_, hI⟩
              try rw [← ht]
              refine ⟨?_, rfl⟩
              congr 1
              unfold aCellC
              first
                | (rw [if_pos (by omega)]; subst_vars; rfl)
                | (rw [if_neg (by omega), if_pos (by omega)]; subst_vars; rfl)
                | (rw [if_neg (by omega), if_neg (by omega), if_pos (by omega)]; subst_vars; rfl)
                | (rw [if_neg (by omega), if_neg (by omega), if_neg (by omega), if_pos (by omega)]; omega)
                | (rw [if_neg (by omega), if_neg (by omega), if_neg (by omega), if_neg (by omega)]; omega)) dX5_cell_127
          · skip
            refine lv_iconst (v := iI (1)) hx hb dX5_cell_122 rfl ?_
            refine lv_goto (tgt := 127) hx hb dX5_cell_123 (by decide) ?_
            refine W.widen (k := 4) (n := 24) (by omega) (by omega) ?_
            refine vx_ret ?_
            exact g_iret hx hb hr hlocks hG (by
              have hks := kCell_s t0 r0 d w
              refine ⟨by omega, ?_, hI⟩
              try rw [← ht]
              refine ⟨?_, rfl⟩
              congr 1
              unfold aCellC
              first
                | (rw [if_pos (by omega)]; subst_vars; rfl)
                | (rw [if_neg (by omega), if_pos (by omega)]; subst_vars; rfl)
                | (rw [if_neg (by omega), if_neg (by omega), if_pos (by omega)]; subst_vars; rfl)
                | (rw [if_neg (by omega), if_neg (by omega), if_neg (by omega), if_pos (by omega)]; omega)
                | (rw [if_neg (by omega), if_neg (by omega), if_neg (by omega), if_neg (by omega)]; omega)) dX5_cell_127
set_option maxHeartbeats 400000 in
set_option maxRecDepth 100000 in
theorem mX5_rowOf (l : Launch) (D : va_G) (cy : Nat → ClassId) (ad : Nat → Nat) (n : Nat) (st : St) (sz fz : Nat) (wb : Int) (hn : 75 ≤ n) (hI : GI wb st) (hW : wb ≤ 2000000) (a : Int) (i : Int) (ha : -2147483648 ≤ a ∧ a < 2147483648) (hi : -2147483648 ≤ i ∧ i < 2147483648) (hlf : l.stackTraces = false) (hnl : (n : Int) = 75 + 3 * st 33 0 0) (hR : RY st) : vx_Met l yX5_rowOf wsX5_rowOf ({ frames := 7, cells := 2, slots := 12, locals := 111 }) (va_Pc [.ref (ad 21), .int (iI (a)), .int (iI (i))] (gB D cy ad n st sz fz)) (va_Qi (fun (r : Int32) (st' : St) => kRow st a i = 0 ∧ (r = iI (if st 66 (a).toNat 0 < 0 then -1 else st 63 (a).toNat i) ∧ st' = st) ∧ GI wb st') (gP D cy ad n) (gA n ad sz)) (gX D cy ad n (fun (E : String) (st' : St) => xE [xI] E (kRow st a i) ∧ st' = st) (gA n ad sz)) 2 12 (gA n ad sz) := by
  refine vx_ofW (cc := cX5_rowOf) (maxL := 4) (ret := (some .int)) (by decide) rfl ?_
  intro p e s m args below meth c s₁ B hml hnt hv
  obtain ⟨rfl, hsz, hP, hK, hD0, hN, hZ⟩ := hv
  have hx := B.exec
  have hb := B.bytes
  have hr := B.returns
  have hts := atoms_spec (ws := wsX5_rowOf) B.pre
  have hown : s.vm.findClass RX5 = some m.cls := findClass_of_methodNamed B.named
  have hlocks := B.notSynchronized
  subst hsz
  have hA : ∀ q : Nat, s.heap.size ≤ q → gA n ad s.heap.size q := fun q h => Or.inr h
  have hG : GH D cy ad n st (gA n ad s.heap.size) s.heap s.heap [] := ⟨hP, gw_A hD0, va_S.rf⟩
  have hl := lv_entry ([.ref (ad 21), .int (iI (a)), .int (iI (i))]) (n := 4) (Nat.le_of_ble_eq_true rfl)
  rw [lg_entry_eq]
  generalize (lg_sl ([.ref (ad 21), .int (iI (a)), .int (iI (i))]) ++ List.replicate (4 - (lg_sl ([.ref (ad 21), .int (iI (a)), .int (iI (i))])).length) Slot.unset).toArray = ls at hl ⊢
  have hl : lv_has ls 4 [(0, .ref (ad 21)), (1, .int (iI (a))), (2, .int (iI (i)))] := hl
  have hin5 : ∀ w ∈ u_ws RX5 TX5 6, w ∈ wsX5_rowOf := by decide +kernel
  have hin0 : ∀ w ∈ u_ws RX0 TX0 8, w ∈ wsX5_rowOf := by decide +kernel
  have L_106 := hts (.fieldLink RX5 106 "Crossbarry$Layer" "ground" "LCrossbarry$Tile;") (by decide +kernel)
  have L_200 := hts (.fieldLink RX5 200 "Crossbarry$Layer" "rows" "[I") (by decide +kernel)
  have L_66 := hts (.fieldLink RX5 66 "Crossbarry$Layer" "inputs" "I") (by decide +kernel)
  obtain ⟨⟨hR1, hR2, hR3, hR4⟩, hRl, hRw, hRr, hRc, hRt, hRo, hRk, hsc, hsi, hch, hun, hfr⟩ := id hR
  have h33 := gI_33 hI 0 0
  refine lv_aload_n hx hb dX5_rowOf_0 rfl (lv_at hl 0 rfl) ?_
  refine lv_iload_n hx hb dX5_rowOf_1 rfl (lv_at hl 1 rfl) ?_
  refine gx_gor hG hA (vx_runV (As := [.int (iI (a))]) (rest := []) ⟨hx, hb, hml, hown, hts⟩ (mX5_layerAt l D cy ad n st _ fz wb hn hI (by omega) (a) hlf hnl (by omega)) (cwV 1 hts gX5_rowOf_X5_layerAt rfl rfl rfl (by decide +kernel) ⟨Nat.le_of_ble_eq_true rfl, Nat.le_of_ble_eq_true rfl⟩) ⟨g_blind, va_recv hK hG.1 (q0 := 21 - 19) (ci := 5) rfl ((gw_at (k := 21) (by omega)).trans (by rw [gC_21 st ad cy])), g_pre hK hG hA hN hZ⟩ rfl rfl hl.1 rfl (lv_room (Nat.le_of_ble_eq_true rfl)) dX5_rowOf_2 ⟨Nat.le_of_ble_eq_true rfl, Nat.le_of_ble_eq_true rfl⟩) (fun E9 st9 H locs ce9 q9 hp hG hce hcv hcl => ?_) (fun s9 H locs hp hG => ?_)
  · skip
    obtain ⟨⟨rfl, hcx⟩, hs9⟩ := hp
    rw [hs9] at hG
    clear hs9
    exact g_out hnt hlocks hG hce hcv hcl (by
      refine ⟨?_, rfl⟩
      have hks := kRow_s st a i
      first
        | exact ⟨0, rfl, by omega⟩
        | exact ⟨1, rfl, by omega⟩
        | exact ⟨2, rfl, by omega⟩) (Nat.le_of_ble_eq_true rfl) (Nat.le_of_ble_eq_true rfl)
  obtain ⟨hcr, hs9⟩ := hp
  rw [hs9] at hG
  clear hs9
  obtain ⟨q, hq⟩ : ∃ z9 : Nat, z9 = ((a)).toNat := ⟨_, rfl⟩
  rw [← hq]
  have huq : ((q : Nat) : Int) = (a) := by omega
  have hlq := hRl q (by omega)
  rw [huq] at hlq
  refine lv_astore_n (lv' := [(3, .ref (ad (75 + 3 * q))), (0, .ref (ad 21)), (1, .int (iI (a))), (2, .int (iI (i)))]) hx hb dX5_rowOf_5 rfl hl (by decide) rfl (fun ls hl => ?_)
  refine lv_iload_n hx hb dX5_rowOf_6 rfl (lv_at hl 3 rfl) ?_
  refine lv_aload_n hx hb dX5_rowOf_7 rfl (lv_at hl 0 rfl) ?_
  refine g_get hx hb hts hin0 hown hK hG (key := 75 + 3 * q) (by omega) (gC_l st ad cy q) rfl 1 (by decide) L_66 (fun _ h9 => h9) rfl dX5_rowOf_8 ?_
  have hr1 := gI_60 hI (q) (0)
  refine r_nm (fun v2 ev2 => ?_)
  rw [← ev2] at hr1
  refine gx_gov hG hA (vx_runS (As := [.int (iI (i)), .int (iI (v2))]) (rest := []) ⟨hx, hb, hml, hown, hts⟩ (mX5_checkIndex l D cy ad n st _ fz wb hn hI (by omega) (i) (v2) hlf (by omega) (by omega)) (va_cwS 2 hts gX5_rowOf_X5_checkIndex rfl rfl rfl (by decide +kernel) ⟨Nat.le_of_ble_eq_true rfl, Nat.le_of_ble_eq_true rfl⟩) ⟨g_blind, g_pre hK hG hA hN hZ⟩ rfl rfl hl.1 rfl (lv_room (Nat.le_of_ble_eq_true rfl)) dX5_rowOf_11 ⟨Nat.le_of_ble_eq_true rfl, Nat.le_of_ble_eq_true rfl⟩) (fun E9 st9 H locs ce9 q9 hp hG hce hcv hcl => ?_) (fun s9 H locs hp hG => ?_)
  · skip
    obtain ⟨⟨rfl, hcx⟩, hs9⟩ := hp
    rw [hs9] at hG
    clear hs9
    exact g_out hnt hlocks hG hce hcv hcl (by
      refine ⟨?_, rfl⟩
      have hks := kRow_s st a i
      first
        | exact ⟨0, rfl, by omega⟩
        | exact ⟨1, rfl, by omega⟩
        | exact ⟨2, rfl, by omega⟩) (Nat.le_of_ble_eq_true rfl) (Nat.le_of_ble_eq_true rfl)
  obtain ⟨hcr, hs9⟩ := hp
  rw [hs9] at hG
  clear hs9
  refine lv_aload_n hx hb dX5_rowOf_14 rfl (lv_at hl 0 rfl) ?_
  refine g_get hx hb hts hin0 hown hK hG (key := 75 + 3 * q) (by omega) (gC_l st ad cy q) rfl 7 (by decide) L_106 (fun _ h9 => h9) rfl dX5_rowOf_15 ?_
  refine g_refs (fun hn3 => ?_) (fun t4 ht4 => ?_)
  · skip
    have hrhn3 := gI_66 hI q 0
    refine lv_ifnonnullN hx hb dX5_rowOf_18 ?_
    refine lv_iconst (v := iI (-1)) hx hb dX5_rowOf_21 rfl ?_
    refine lv_goto (tgt := 31) hx hb dX5_rowOf_22 (by decide) ?_
    refine W.widen (k := 2) (n := 12) (by omega) (by omega) ?_
    refine vx_ret ?_
    exact g_iret hx hb hr hlocks hG (by
      have hks := kRow_s st a i
      refine ⟨by omega, ?_, hI⟩
      try rw [← hq]
      refine ⟨?_, rfl⟩
      congr 1
      first
        | rw [if_pos (by omega)]
        | (rw [if_neg (by omega)]; subst_vars; rfl)) dX5_rowOf_31
  · skip
    have hrt4 := gI_66 hI q 0
    have hbt4 : t4 < 6 := by omega
    refine lv_ifnonnull (tgt := 25) hx hb dX5_rowOf_18 (by decide) ?_
    refine lv_aload_n hx hb dX5_rowOf_25 rfl (lv_at hl 0 rfl) ?_
    refine g_get hx hb hts hin0 hown hK hG (key := 75 + 3 * q) (by omega) (gC_l st ad cy q) rfl 4 (by decide) L_200 (fun _ h9 => h9) rfl dX5_rowOf_26 ?_
    refine lv_iload_n hx hb dX5_rowOf_29 rfl (lv_at hl 3 rfl) ?_
    refine g_iald hx hb hK hG (77 + 3 * q) (kd := 42) (o := q) (gk_l (o := q) (j := 2) (by decide)) rfl (by omega) (cp := 63) (ln := 8) rfl rfl (by omega) dX5_rowOf_30 ?_
    have hr5 := gI_63 hI (q) (i)
    refine r_nm (fun v6 ev6 => ?_)
    rw [← ev6] at hr5
    refine W.widen (k := 2) (n := 12) (by omega) (by omega) ?_
    refine vx_ret ?_
    exact g_iret hx hb hr hlocks hG (by
      have hks := kRow_s st a i
      refine ⟨by omega, ?_, hI⟩
      try rw [← hq]
      refine ⟨?_, rfl⟩
      congr 1
      first
        | rw [if_pos (by omega)]
        | (rw [if_neg (by omega)]; subst_vars; rfl)) dX5_rowOf_31
set_option maxHeartbeats 400000 in
set_option maxRecDepth 100000 in
theorem mX5_tileOf (l : Launch) (D : va_G) (cy : Nat → ClassId) (ad : Nat → Nat) (n : Nat) (st : St) (sz fz : Nat) (wb : Int) (hn : 75 ≤ n) (hI : GI wb st) (hW : wb ≤ 2000000) (a : Int) (ha : -2147483648 ≤ a ∧ a < 2147483648) (hlf : l.stackTraces = false) (hnl : (n : Int) = 75 + 3 * st 33 0 0) (hR : RY st) : vx_Met l yX5_tileOf wsX5_tileOf ({ frames := 7, cells := 1, slots := 6, locals := 111 }) (va_Pc [.ref (ad 21), .int (iI (a))] (gB D cy ad n st sz fz)) (va_Qi (fun (r : Int32) (st' : St) => kLay st a = 0 ∧ (r = iI (st 66 (a).toNat 0) ∧ st' = st) ∧ GI wb st') (gP D cy ad n) (gA n ad sz)) (gX D cy ad n (fun (E : String) (st' : St) => xE [xI] E (kLay st a) ∧ st' = st) (gA n ad sz)) 1 6 (gA n ad sz) := by
  refine vx_ofW (cc := cX5_tileOf) (maxL := 3) (ret := (some .int)) (by decide) rfl ?_
  intro p e s m args below meth c s₁ B hml hnt hv
  obtain ⟨rfl, hsz, hP, hK, hD0, hN, hZ⟩ := hv
  have hx := B.exec
  have hb := B.bytes
  have hr := B.returns
  have hts := atoms_spec (ws := wsX5_tileOf) B.pre
  have hown : s.vm.findClass RX5 = some m.cls := findClass_of_methodNamed B.named
  have hlocks := B.notSynchronized
  subst hsz
  have hA : ∀ q : Nat, s.heap.size ≤ q → gA n ad s.heap.size q := fun q h => Or.inr h
  have hG : GH D cy ad n st (gA n ad s.heap.size) s.heap s.heap [] := ⟨hP, gw_A hD0, va_S.rf⟩
  have hl := lv_entry ([.ref (ad 21), .int (iI (a))]) (n := 3) (Nat.le_of_ble_eq_true rfl)
  rw [lg_entry_eq]
  generalize (lg_sl ([.ref (ad 21), .int (iI (a))]) ++ List.replicate (3 - (lg_sl ([.ref (ad 21), .int (iI (a))])).length) Slot.unset).toArray = ls at hl ⊢
  have hl : lv_has ls 3 [(0, .ref (ad 21)), (1, .int (iI (a)))] := hl
  have hin5 : ∀ w ∈ u_ws RX5 TX5 6, w ∈ wsX5_tileOf := by decide +kernel
  have hin0 : ∀ w ∈ u_ws RX0 TX0 8, w ∈ wsX5_tileOf := by decide +kernel
  have hin4 : ∀ w ∈ u_ws RX4 TX4 12, w ∈ wsX5_tileOf := by decide +kernel
  have L_106 := hts (.fieldLink RX5 106 "Crossbarry$Layer" "ground" "LCrossbarry$Tile;") (by decide +kernel)
  have L_132 := hts (.fieldLink RX5 132 "Crossbarry$Tile" "number" "I") (by decide +kernel)
  obtain ⟨⟨hR1, hR2, hR3, hR4⟩, hRl, hRw, hRr, hRc, hRt, hRo, hRk, hsc, hsi, hch, hun, hfr⟩ := id hR
  have h33 := gI_33 hI 0 0
  refine lv_aload_n hx hb dX5_tileOf_0 rfl (lv_at hl 0 rfl) ?_
  refine lv_iload_n hx hb dX5_tileOf_1 rfl (lv_at hl 1 rfl) ?_
  refine gx_gor hG hA (vx_runV (As := [.int (iI (a))]) (rest := []) ⟨hx, hb, hml, hown, hts⟩ (mX5_layerAt l D cy ad n st _ fz wb hn hI (by omega) (a) hlf hnl (by omega)) (cwV 1 hts gX5_tileOf_X5_layerAt rfl rfl rfl (by decide +kernel) ⟨Nat.le_of_ble_eq_true rfl, Nat.le_of_ble_eq_true rfl⟩) ⟨g_blind, va_recv hK hG.1 (q0 := 21 - 19) (ci := 5) rfl ((gw_at (k := 21) (by omega)).trans (by rw [gC_21 st ad cy])), g_pre hK hG hA hN hZ⟩ rfl rfl hl.1 rfl (lv_room (Nat.le_of_ble_eq_true rfl)) dX5_tileOf_2 ⟨Nat.le_of_ble_eq_true rfl, Nat.le_of_ble_eq_true rfl⟩) (fun E9 st9 H locs ce9 q9 hp hG hce hcv hcl => ?_) (fun s9 H locs hp hG => ?_)
  · skip
    obtain ⟨⟨rfl, hcx⟩, hs9⟩ := hp
    rw [hs9] at hG
    clear hs9
    exact g_out hnt hlocks hG hce hcv hcl (by
      refine ⟨?_, rfl⟩
      have hks := kLay_s st a
      first
        | exact ⟨0, rfl, by omega⟩
        | exact ⟨1, rfl, by omega⟩
        | exact ⟨2, rfl, by omega⟩) (Nat.le_of_ble_eq_true rfl) (Nat.le_of_ble_eq_true rfl)
  obtain ⟨hcr, hs9⟩ := hp
  rw [hs9] at hG
  clear hs9
  obtain ⟨q, hq⟩ : ∃ z9 : Nat, z9 = ((a)).toNat := ⟨_, rfl⟩
  rw [← hq]
  have huq : ((q : Nat) : Int) = (a) := by omega
  have hlq := hRl q (by omega)
  rw [huq] at hlq
  refine lv_astore_n (lv' := [(2, .ref (ad (75 + 3 * q))), (0, .ref (ad 21)), (1, .int (iI (a)))]) hx hb dX5_tileOf_5 rfl hl (by decide) rfl (fun ls hl => ?_)
  refine lv_aload_n hx hb dX5_tileOf_6 rfl (lv_at hl 0 rfl) ?_
  refine g_get hx hb hts hin0 hown hK hG (key := 75 + 3 * q) (by omega) (gC_l st ad cy q) rfl 7 (by decide) L_106 (fun _ h9 => h9) rfl dX5_tileOf_7 ?_
  refine g_refs (fun hn1 => ?_) (fun t2 ht2 => ?_)
  · skip
    have hrhn1 := gI_66 hI q 0
    refine lv_ifnonnullN hx hb dX5_tileOf_10 ?_
    refine lv_iconst (v := iI (-1)) hx hb dX5_tileOf_13 rfl ?_
    refine lv_goto (tgt := 24) hx hb dX5_tileOf_14 (by decide) ?_
    refine W.widen (k := 1) (n := 6) (by omega) (by omega) ?_
    refine vx_ret ?_
    exact g_iret hx hb hr hlocks hG (by
      have hks := kLay_s st a
      refine ⟨by omega, ?_, hI⟩
      try rw [← hq]
      refine ⟨?_, rfl⟩
      congr 1
      omega) dX5_tileOf_24
  · skip
    have hrt2 := gI_66 hI q 0
    have hbt2 : t2 < 6 := by omega
    refine lv_ifnonnull (tgt := 17) hx hb dX5_tileOf_10 (by decide) ?_
    refine lv_aload_n hx hb dX5_tileOf_17 rfl (lv_at hl 0 rfl) ?_
    refine g_get hx hb hts hin0 hown hK hG (key := 75 + 3 * q) (by omega) (gC_l st ad cy q) rfl 7 (by decide) L_106 (fun _ h9 => h9) rfl dX5_tileOf_18 ?_
    refine g_refs (fun hn9 => absurd hn9 (by omega)) (fun tz9 htz9 => ?_)
    rw [show tz9 = t2 by omega]
    clear htz9
    refine g_get hx hb hts hin4 hown hK hG (key := 33 + 7 * t2) (by omega) (gC_t st ad cy hbt2) rfl 0 (by decide) L_132 (fun _ h9 => h9) rfl dX5_tileOf_21 ?_
    refine W.widen (k := 1) (n := 6) (by omega) (by omega) ?_
    refine vx_ret ?_
    exact g_iret hx hb hr hlocks hG (by
      have hks := kLay_s st a
      refine ⟨by omega, ?_, hI⟩
      try rw [← hq]
      refine ⟨?_, rfl⟩
      congr 1
      omega) dX5_tileOf_24
