set_option maxHeartbeats 400000 in
set_option maxRecDepth 100000 in
theorem mX6_layer (l : Launch) (D : va_G) (cy : Nat → ClassId) (ad : Nat → Nat) (n : Nat) (st : St) (sz fz : Nat) (wb : Int) (hn : 75 ≤ n) (hI : GI wb st) (hW : wb ≤ 2000000) (a : Int) (b : Int) (ha : -2147483648 ≤ a ∧ a < 2147483648) (hb : -2147483648 ≤ b ∧ b < 2147483648) : Met l yX6_layer wsX6_layer ({ frames := 1, cells := 0, slots := 0, locals := 22 }) (va_Pc [.ref (ad 0), .int (iI (a)), .int (iI (b))] (gB D cy ad n st sz fz)) (va_Qi (fun (r : Int32) (st' : St) => r = iI (aLayer st a b) ∧ st' = sLayer st a b ∧ GI wb st') (gP D cy ad n) (gA n ad sz)) 0 0 (gA n ad sz) := by
  refine Met.ofW (cc := cX6_layer) (maxL := 3) (ret := (some .int)) (by decide) rfl ?_
  intro p e s m args below meth c s₁ B hml hv
  obtain ⟨rfl, hsz, hP, hK, hD0, hN, hZ⟩ := hv
  have hx := B.exec
  have hb := B.bytes
  have hr := B.returns
  have hts := atoms_spec (ws := wsX6_layer) B.pre
  have hown : s.vm.findClass RX6 = some m.cls := findClass_of_methodNamed B.named
  have hlocks := B.notSynchronized
  subst hsz
  have hA : ∀ q : Nat, s.heap.size ≤ q → gA n ad s.heap.size q := fun q h => Or.inr h
  have hG : GH D cy ad n st (gA n ad s.heap.size) s.heap s.heap [] := ⟨hP, gw_A hD0, va_S.rf⟩
  have hl := lv_entry ([.ref (ad 0), .int (iI (a)), .int (iI (b))]) (n := 3) (Nat.le_of_ble_eq_true rfl)
  rw [lg_entry_eq]
  generalize (lg_sl ([.ref (ad 0), .int (iI (a)), .int (iI (b))]) ++ List.replicate (3 - (lg_sl ([.ref (ad 0), .int (iI (a)), .int (iI (b))])).length) Slot.unset).toArray = ls at hl ⊢
  have hl : lv_has ls 3 [(0, .ref (ad 0)), (1, .int (iI (a))), (2, .int (iI (b)))] := hl
  have hin6 : ∀ w ∈ u_ws RX6 TX6 25, w ∈ wsX6_layer := by decide +kernel
  have L_45 := hts (.fieldLink RX6 45 "CrossbarryModel" "inputs" "[I") (by decide +kernel)
  have L_48 := hts (.fieldLink RX6 48 "CrossbarryModel" "outputs" "[I") (by decide +kernel)
  have L_57 := hts (.fieldLink RX6 57 "CrossbarryModel" "nexts" "[I") (by decide +kernel)
  have L_60 := hts (.fieldLink RX6 60 "CrossbarryModel" "tileAt" "[I") (by decide +kernel)
  have L_75 := hts (.fieldLink RX6 75 "CrossbarryModel" "thrown" "I") (by decide +kernel)
  have L_78 := hts (.fieldLink RX6 78 "CrossbarryModel" "many" "I") (by decide +kernel)
  have hmn := gI_14 hI 0 0
  refine lv_aload_n hx hb dX6_layer_0 rfl (lv_at hl 0 rfl) ?_
  have hlab38 : ∀ (t : Int) (H : Heap) (locs : List Loc) (ls : Array Slot), (t = (kLayer st a b)) →  GH D cy ad n st (gA n ad s.heap.size) s.heap H locs → lv_has ls 3 [(0, .ref (ad 0)), (1, .int (iI (a))), (2, .int (iI (b)))] → W p l e (headSpec wsX6_layer { frames := 1, cells := 0, slots := 0, locals := 22 }).room s m (#[.ref (ad 0), .int (iI (a)), .int (iI (b))] : Array Value) below meth c H locs 0 0 (MQ below (va_Qi (fun (r : Int32) (st' : St) => r = iI (aLayer st a b) ∧ st' = sLayer st a b ∧ GI wb st') (gP D cy ad n) (gA n ad s.heap.size)) (#[.ref (ad 0), .int (iI (a)), .int (iI (b))] : Array Value) s 0 0 (gA n ad s.heap.size)) (F0 m 38 ls [.int (iI (t)), .ref (ad 0)]) := by
    intro t H locs ls ht hG hl
    have hks := kLayer_s st a b
    refine g_put hx hb hts hin6 tyX6 tyX6_ok nmX6 hown hK hG (key := 0) (by omega) (gC_0 st ad cy) rfl 0 (by decide) L_75 (fun _ h9 => h9) rfl (ty := .int) (by decide +kernel) rfl rfl (Nat.le_of_ble_eq_true rfl) dX6_layer_38 (ust st 0 0 0 (t)) (fun j _ => gU_0 st ad cy (t) j) (fun H locs hG => ?_)
    obtain ⟨st1, hst1⟩ : ∃ z : St, z = ust st 0 (0) (0) (t) := ⟨_, rfl⟩
    rw [← hst1] at hG
    replace hI := hst1 ▸ gIu_0 hI (0) (0) (v := t) (by omega)
    refine lv_aload_n hx hb dX6_layer_41 rfl (lv_at hl 0 rfl) ?_
    refine g_get hx hb hts hin6 hown hK hG (key := 0) (by omega) (gC_0 st1 ad cy) rfl 0 (by decide) L_75 (fun _ h9 => h9) rfl dX6_layer_42 ?_
    have hr2 := gI_0 hI (0) (0)
    have kq3 : st1 0 (0) (0) = t := by rw [hst1, ust_s]
    rw [kq3] at hr2
    refine r_as kq3 ?_
    clear kq3
    refine r_if_le (tgt := 50) hx hb (by omega) dX6_layer_45 (by decide) (fun c4 => ?_) (fun c4 => ?_)
    · skip
      refine lv_aload_n hx hb dX6_layer_50 rfl (lv_at hl 0 rfl) ?_
      refine g_get hx hb hts hin6 hown hK hG (key := 0) (by omega) (gC_0 st1 ad cy) rfl 15 (by decide) L_45 (fun _ h9 => h9) rfl dX6_layer_51 ?_
      refine lv_aload_n hx hb dX6_layer_54 rfl (lv_at hl 0 rfl) ?_
      refine g_get hx hb hts hin6 hown hK hG (key := 0) (by omega) (gC_0 st1 ad cy) rfl 14 (by decide) L_78 (fun _ h9 => h9) rfl dX6_layer_55 ?_
      have hr5 := gI_14 hI (0) (0)
      have kq6 : st1 14 (0) (0) = st 14 (0) (0) := by rw [hst1, ust_c (by decide)]
      rw [kq6] at hr5
      refine r_as kq6 ?_
      clear kq6
      refine r_nm (fun v7 ev7 => ?_)
      rw [← ev7] at hr5
      refine lv_iload_n hx hb dX6_layer_58 rfl (lv_at hl 1 rfl) ?_
      refine g_iast hx hb hK hG (11) (kd := 11) (o := 0) rfl rfl (by omega) (cp := 15) (ln := 6) rfl rfl (by omega) dX6_layer_59 (fun H locs hG => ?_)
      obtain ⟨st8, hst8⟩ : ∃ z : St, z = ust st1 15 (0) (v7) (a) := ⟨_, rfl⟩
      rw [← hst8] at hG
      replace hI := hst8 ▸ gIu_15 hI (0) (v7) (v := a) (by omega)
      refine lv_aload_n hx hb dX6_layer_60 rfl (lv_at hl 0 rfl) ?_
      refine g_get hx hb hts hin6 hown hK hG (key := 0) (by omega) (gC_0 st8 ad cy) rfl 16 (by decide) L_48 (fun _ h9 => h9) rfl dX6_layer_61 ?_
      refine lv_aload_n hx hb dX6_layer_64 rfl (lv_at hl 0 rfl) ?_
      refine g_get hx hb hts hin6 hown hK hG (key := 0) (by omega) (gC_0 st8 ad cy) rfl 14 (by decide) L_78 (fun _ h9 => h9) rfl dX6_layer_65 ?_
      have hr9 := gI_14 hI (0) (0)
      have kq10 : st8 14 (0) (0) = st 14 (0) (0) := by rw [hst8, ust_c (by decide), hst1, ust_c (by decide)]
      rw [kq10] at hr9
      refine r_as kq10 ?_
      clear kq10
      refine r_nm (fun v11 ev11 => ?_)
      rw [← ev11] at hr9
      refine lv_iload_n hx hb dX6_layer_68 rfl (lv_at hl 2 rfl) ?_
      refine g_iast hx hb hK hG (12) (kd := 12) (o := 0) rfl rfl (by omega) (cp := 16) (ln := 6) rfl rfl (by omega) dX6_layer_69 (fun H locs hG => ?_)
      obtain ⟨st12, hst12⟩ : ∃ z : St, z = ust st8 16 (0) (v11) (b) := ⟨_, rfl⟩
      rw [← hst12] at hG
      replace hI := hst12 ▸ gIu_16 hI (0) (v11) (v := b) (by omega)
      refine lv_aload_n hx hb dX6_layer_70 rfl (lv_at hl 0 rfl) ?_
      refine g_get hx hb hts hin6 hown hK hG (key := 0) (by omega) (gC_0 st12 ad cy) rfl 19 (by decide) L_57 (fun _ h9 => h9) rfl dX6_layer_71 ?_
      refine lv_aload_n hx hb dX6_layer_74 rfl (lv_at hl 0 rfl) ?_
      refine g_get hx hb hts hin6 hown hK hG (key := 0) (by omega) (gC_0 st12 ad cy) rfl 14 (by decide) L_78 (fun _ h9 => h9) rfl dX6_layer_75 ?_
      have hr13 := gI_14 hI (0) (0)
      have kq14 : st12 14 (0) (0) = st 14 (0) (0) := by rw [hst12, ust_c (by decide), hst8, ust_c (by decide), hst1, ust_c (by decide)]
      rw [kq14] at hr13
      refine r_as kq14 ?_
      clear kq14
      refine r_nm (fun v15 ev15 => ?_)
      rw [← ev15] at hr13
      refine lv_iconst (v := iI (-1)) hx hb dX6_layer_78 rfl ?_
      refine g_iast hx hb hK hG (15) (kd := 15) (o := 0) rfl rfl (by omega) (cp := 19) (ln := 6) rfl rfl (by omega) dX6_layer_79 (fun H locs hG => ?_)
      obtain ⟨st16, hst16⟩ : ∃ z : St, z = ust st12 19 (0) (v15) (-1) := ⟨_, rfl⟩
      rw [← hst16] at hG
      replace hI := hst16 ▸ gIu_19 hI (0) (v15) (v := -1) (by omega)
      refine lv_aload_n hx hb dX6_layer_80 rfl (lv_at hl 0 rfl) ?_
      refine g_get hx hb hts hin6 hown hK hG (key := 0) (by omega) (gC_0 st16 ad cy) rfl 20 (by decide) L_60 (fun _ h9 => h9) rfl dX6_layer_81 ?_
      refine lv_aload_n hx hb dX6_layer_84 rfl (lv_at hl 0 rfl) ?_
      refine g_get hx hb hts hin6 hown hK hG (key := 0) (by omega) (gC_0 st16 ad cy) rfl 14 (by decide) L_78 (fun _ h9 => h9) rfl dX6_layer_85 ?_
      have hr17 := gI_14 hI (0) (0)
      have kq18 : st16 14 (0) (0) = st 14 (0) (0) := by rw [hst16, ust_c (by decide), hst12, ust_c (by decide), hst8, ust_c (by decide), hst1, ust_c (by decide)]
      rw [kq18] at hr17
      refine r_as kq18 ?_
      clear kq18
      refine r_nm (fun v19 ev19 => ?_)
      rw [← ev19] at hr17
      refine lv_iconst (v := iI (-1)) hx hb dX6_layer_88 rfl ?_
      refine g_iast hx hb hK hG (16) (kd := 16) (o := 0) rfl rfl (by omega) (cp := 20) (ln := 6) rfl rfl (by omega) dX6_layer_89 (fun H locs hG => ?_)
      obtain ⟨st20, hst20⟩ : ∃ z : St, z = ust st16 20 (0) (v19) (-1) := ⟨_, rfl⟩
      rw [← hst20] at hG
      replace hI := hst20 ▸ gIu_20 hI (0) (v19) (v := -1) (by omega)
      refine lv_aload_n hx hb dX6_layer_90 rfl (lv_at hl 0 rfl) ?_
      refine lv_dup hx hb dX6_layer_91 rfl ?_
      refine g_get hx hb hts hin6 hown hK hG (key := 0) (by omega) (gC_0 st20 ad cy) rfl 14 (by decide) L_78 (fun _ h9 => h9) rfl dX6_layer_92 ?_
      have hr21 := gI_14 hI (0) (0)
      have kq22 : st20 14 (0) (0) = st 14 (0) (0) := by rw [hst20, ust_c (by decide), hst16, ust_c (by decide), hst12, ust_c (by decide), hst8, ust_c (by decide), hst1, ust_c (by decide)]
      rw [kq22] at hr21
      refine r_as kq22 ?_
      clear kq22
      refine r_nm (fun v23 ev23 => ?_)
      rw [← ev23] at hr21
      refine lv_iconst (v := iI (1)) hx hb dX6_layer_95 rfl ?_
      refine r_iadd hx hb dX6_layer_96 ?_
      refine r_nm (fun v24 ev24 => ?_)
      refine g_put hx hb hts hin6 tyX6 tyX6_ok nmX6 hown hK hG (key := 0) (by omega) (gC_0 st20 ad cy) rfl 14 (by decide) L_78 (fun _ h9 => h9) rfl (ty := .int) (by decide +kernel) rfl rfl (Nat.le_of_ble_eq_true rfl) dX6_layer_97 (ust st20 14 0 0 (v24)) (fun j _ => gU_14 st20 ad cy (v24) j) (fun H locs hG => ?_)
      obtain ⟨st25, hst25⟩ : ∃ z : St, z = ust st20 14 (0) (0) (v24) := ⟨_, rfl⟩
      rw [← hst25] at hG
      replace hI := hst25 ▸ gIu_14 hI (0) (0) (v := v24) (by omega)
      refine lv_aload_n hx hb dX6_layer_100 rfl (lv_at hl 0 rfl) ?_
      refine g_get hx hb hts hin6 hown hK hG (key := 0) (by omega) (gC_0 st25 ad cy) rfl 14 (by decide) L_78 (fun _ h9 => h9) rfl dX6_layer_101 ?_
      have hr26 := gI_14 hI (0) (0)
      have kq27 : st25 14 (0) (0) = v24 := by rw [hst25, ust_s]
      rw [kq27] at hr26
      refine r_as kq27 ?_
      clear kq27
      refine lv_iconst (v := iI (1)) hx hb dX6_layer_104 rfl ?_
      refine r_isub hx hb dX6_layer_105 ?_
      refine r_nm (fun v28 ev28 => ?_)
      exact g_iret hx hb hr hlocks hG (by
        have hz := ht
        first
          | (refine ⟨?_, ?_, hI⟩
             · congr 1; unfold aLayer; rw [if_neg (by omega)]
             · unfold sLayer; rw [if_neg (by omega), ← ht]; assumption)
          | (refine ⟨?_, ?_, hI⟩
             · congr 1; unfold aLayer; rw [if_pos (by omega)]; first | omega | (subst_vars; rfl)
             · unfold sLayer; rw [if_pos (by omega), ← ht]; subst_vars; rfl)) dX6_layer_106
    · skip
      refine lv_iconst (v := iI (0)) hx hb dX6_layer_48 rfl ?_
      exact g_iret hx hb hr hlocks hG (by
        have hz := ht
        first
          | (refine ⟨?_, ?_, hI⟩
             · congr 1; unfold aLayer; rw [if_neg (by omega)]
             · unfold sLayer; rw [if_neg (by omega), ← ht]; assumption)
          | (refine ⟨?_, ?_, hI⟩
             · congr 1; unfold aLayer; rw [if_pos (by omega)]; first | omega | (subst_vars; rfl)
             · unfold sLayer; rw [if_pos (by omega), ← ht]; subst_vars; rfl)) dX6_layer_49
  refine lv_iload_n hx hb dX6_layer_1 rfl (lv_at hl 1 rfl) ?_
  refine lv_iconst (v := iI (1)) hx hb dX6_layer_2 rfl ?_
  refine lv_bipush (v := iI (8)) hx hb dX6_layer_3 (by decide +kernel) ?_
  refine g_goi hG hA (va_runS (As := [.int (iI (a)), .int (iI (1)), .int (iI (8))]) (rest := [.ref (ad 0)]) ⟨hx, hb, hml, hown, hts⟩ (mX6_in l D cy ad n st _ fz wb hn hI (by omega) (a) (1) (8) (by omega) (by omega) (by omega)) (va_cwS 3 hts gX6_layer_X6_in rfl rfl rfl (by decide +kernel) ⟨Nat.le_of_ble_eq_true rfl, Nat.le_of_ble_eq_true rfl⟩) ⟨g_blind, g_pre hK hG hA hN hZ⟩ rfl rfl hl.1 rfl (lv_room (Nat.le_of_ble_eq_true rfl)) dX6_layer_5 ⟨Nat.zero_le _, Nat.zero_le _⟩) (fun r9 s9 H locs hp hG => ?_)
  obtain ⟨rfl, hs9⟩ := hp
  rw [hs9] at hG
  clear hs9
  refine r_nm (fun v29 ev29 => ?_)
  have hr30 := inF_s (a) (1) (8)
  rw [← ev29] at hr30
  refine r_if_eq (tgt := 20) hx hb (by omega) dX6_layer_8 (by decide) (fun c31 => ?_) (fun c31 => ?_)
  · skip
    refine lv_iconst (v := iI (1)) hx hb dX6_layer_20 rfl ?_
    refine lv_goto (tgt := 38) hx hb dX6_layer_21 (by decide) ?_
    exact hlab38 (1)  _ _ _ (by have hks := kLayer_s st a b; omega) hG (lv_sub hl [0, 1, 2] rfl)
  · skip
    refine lv_iload_n hx hb dX6_layer_11 rfl (lv_at hl 2 rfl) ?_
    refine lv_iconst (v := iI (1)) hx hb dX6_layer_12 rfl ?_
    refine lv_iconst (v := iI (4)) hx hb dX6_layer_13 rfl ?_
    refine g_goi hG hA (va_runS (As := [.int (iI (b)), .int (iI (1)), .int (iI (4))]) (rest := [.ref (ad 0)]) ⟨hx, hb, hml, hown, hts⟩ (mX6_in l D cy ad n st _ fz wb hn hI (by omega) (b) (1) (4) (by omega) (by omega) (by omega)) (va_cwS 3 hts gX6_layer_X6_in rfl rfl rfl (by decide +kernel) ⟨Nat.le_of_ble_eq_true rfl, Nat.le_of_ble_eq_true rfl⟩) ⟨g_blind, g_pre hK hG hA hN hZ⟩ rfl rfl hl.1 rfl (lv_room (Nat.le_of_ble_eq_true rfl)) dX6_layer_14 ⟨Nat.zero_le _, Nat.zero_le _⟩) (fun r9 s9 H locs hp hG => ?_)
    obtain ⟨rfl, hs9⟩ := hp
    rw [hs9] at hG
    clear hs9
    refine r_nm (fun v32 ev32 => ?_)
    have hr33 := inF_s (b) (1) (4)
    rw [← ev32] at hr33
    refine r_if_ne (tgt := 24) hx hb (by omega) dX6_layer_17 (by decide) (fun c34 => ?_) (fun c34 => ?_)
    · skip
      refine lv_aload_n hx hb dX6_layer_24 rfl (lv_at hl 0 rfl) ?_
      refine g_get hx hb hts hin6 hown hK hG (key := 0) (by omega) (gC_0 st ad cy) rfl 14 (by decide) L_78 (fun _ h9 => h9) rfl dX6_layer_25 ?_
      have hr35 := gI_14 hI (0) (0)
      refine r_nm (fun v36 ev36 => ?_)
      rw [← ev36] at hr35
      refine lv_bipush (v := iI (6)) hx hb dX6_layer_28 (by decide +kernel) ?_
      refine r_icmp_ne (tgt := 37) hx hb (by omega) dX6_layer_30 (by decide) (fun c37 => ?_) (fun c37 => ?_)
      · skip
        refine lv_iconst (v := iI (0)) hx hb dX6_layer_37 rfl ?_
        exact hlab38 (0)  _ _ _ (by have hks := kLayer_s st a b; omega) hG (lv_sub hl [0, 1, 2] rfl)
      · skip
        refine lv_iconst (v := iI (2)) hx hb dX6_layer_33 rfl ?_
        refine lv_goto (tgt := 38) hx hb dX6_layer_34 (by decide) ?_
        exact hlab38 (2)  _ _ _ (by have hks := kLayer_s st a b; omega) hG (lv_sub hl [0, 1, 2] rfl)
    · skip
      refine lv_iconst (v := iI (1)) hx hb dX6_layer_20 rfl ?_
      refine lv_goto (tgt := 38) hx hb dX6_layer_21 (by decide) ?_
      exact hlab38 (1)  _ _ _ (by have hks := kLayer_s st a b; omega) hG (lv_sub hl [0, 1, 2] rfl)
set_option maxHeartbeats 400000 in
set_option maxRecDepth 100000 in
theorem mX6_weight (l : Launch) (D : va_G) (cy : Nat → ClassId) (ad : Nat → Nat) (n : Nat) (st : St) (sz fz : Nat) (wb : Int) (hn : 75 ≤ n) (hI : GI wb st) (hW : wb ≤ 2000000) (a : Int) (i : Int) (o : Int) (w : Int) (ha : -2147483648 ≤ a ∧ a < 2147483648) (hi : -2147483648 ≤ i ∧ i < 2147483648) (ho : -2147483648 ≤ o ∧ o < 2147483648) (hw : -2147483648 ≤ w ∧ w < 2147483648) : Met l yX6_weight wsX6_weight ({ frames := 2, cells := 0, slots := 0, locals := 43 }) (va_Pc [.ref (ad 0), .int (iI (a)), .int (iI (i)), .int (iI (o)), .int (iI (w))] (gB D cy ad n st sz fz)) (va_Qi (fun (r : Int32) (st' : St) => r = iI (aWeight st a i o w) ∧ st' = sWeight st a i o w ∧ GI wb st') (gP D cy ad n) (gA n ad sz)) 0 0 (gA n ad sz) := by
  refine Met.ofW (cc := cX6_weight) (maxL := 7) (ret := (some .int)) (by decide) rfl ?_
  intro p e s m args below meth c s₁ B hml hv
  obtain ⟨rfl, hsz, hP, hK, hD0, hN, hZ⟩ := hv
  have hx := B.exec
  have hb := B.bytes
  have hr := B.returns
  have hts := atoms_spec (ws := wsX6_weight) B.pre
  have hown : s.vm.findClass RX6 = some m.cls := findClass_of_methodNamed B.named
  have hlocks := B.notSynchronized
  subst hsz
  have hA : ∀ q : Nat, s.heap.size ≤ q → gA n ad s.heap.size q := fun q h => Or.inr h
  have hG : GH D cy ad n st (gA n ad s.heap.size) s.heap s.heap [] := ⟨hP, gw_A hD0, va_S.rf⟩
  have hl := lv_entry ([.ref (ad 0), .int (iI (a)), .int (iI (i)), .int (iI (o)), .int (iI (w))]) (n := 7) (Nat.le_of_ble_eq_true rfl)
  rw [lg_entry_eq]
  generalize (lg_sl ([.ref (ad 0), .int (iI (a)), .int (iI (i)), .int (iI (o)), .int (iI (w))]) ++ List.replicate (7 - (lg_sl ([.ref (ad 0), .int (iI (a)), .int (iI (i)), .int (iI (o)), .int (iI (w))])).length) Slot.unset).toArray = ls at hl ⊢
  have hl : lv_has ls 7 [(0, .ref (ad 0)), (1, .int (iI (a))), (2, .int (iI (i))), (3, .int (iI (o))), (4, .int (iI (w)))] := hl
  have hin6 : ∀ w ∈ u_ws RX6 TX6 25, w ∈ wsX6_weight := by decide +kernel
  have L_45 := hts (.fieldLink RX6 45 "CrossbarryModel" "inputs" "[I") (by decide +kernel)
  have L_48 := hts (.fieldLink RX6 48 "CrossbarryModel" "outputs" "[I") (by decide +kernel)
  have L_51 := hts (.fieldLink RX6 51 "CrossbarryModel" "weights" "[I") (by decide +kernel)
  have L_75 := hts (.fieldLink RX6 75 "CrossbarryModel" "thrown" "I") (by decide +kernel)
  have hmn := gI_14 hI 0 0
  have hw15 := gI_15 hI 0 a
  have hw16 := gI_16 hI 0 a
  have hlab45 : ∀ (isv : Int) (H : Heap) (locs : List Loc) (ls : Array Slot), ((isv = 1 ∧ ((0 ≤ a ∧ a < st 14 0 0) ∧ (0 ≤ i ∧ i < st 15 0 a) ∧ 0 ≤ o ∧ o < st 16 0 a)) ∨ (isv = 0 ∧ ¬ ((0 ≤ a ∧ a < st 14 0 0) ∧ (0 ≤ i ∧ i < st 15 0 a) ∧ 0 ≤ o ∧ o < st 16 0 a))) →  GH D cy ad n st (gA n ad s.heap.size) s.heap H locs → lv_has ls 7 [(0, .ref (ad 0)), (1, .int (iI (a))), (2, .int (iI (i))), (3, .int (iI (o))), (4, .int (iI (w)))] → W p l e (headSpec wsX6_weight { frames := 2, cells := 0, slots := 0, locals := 43 }).room s m (#[.ref (ad 0), .int (iI (a)), .int (iI (i)), .int (iI (o)), .int (iI (w))] : Array Value) below meth c H locs 0 0 (MQ below (va_Qi (fun (r : Int32) (st' : St) => r = iI (aWeight st a i o w) ∧ st' = sWeight st a i o w ∧ GI wb st') (gP D cy ad n) (gA n ad s.heap.size)) (#[.ref (ad 0), .int (iI (a)), .int (iI (i)), .int (iI (o)), .int (iI (w))] : Array Value) s 0 0 (gA n ad s.heap.size)) (F0 m 45 ls [.int (iI (isv))]) := by
    intro isv H locs ls his hG hl
    have hmn := gI_14 hI 0 0
    refine lv_istore (lv' := [(5, .int (iI (isv))), (0, .ref (ad 0)), (1, .int (iI (a))), (2, .int (iI (i))), (3, .int (iI (o))), (4, .int (iI (w)))]) hx hb dX6_weight_45 hl (by decide) rfl (fun ls hl => ?_)
    refine lv_aload_n hx hb dX6_weight_47 rfl (lv_at hl 1 rfl) ?_
    have hlab76 : ∀ (t : Int) (H : Heap) (locs : List Loc) (ls : Array Slot), (t = (kWeight st a i o w)) →  GH D cy ad n st (gA n ad s.heap.size) s.heap H locs → lv_has ls 7 [(5, .int (iI (isv))), (0, .ref (ad 0)), (1, .int (iI (a))), (2, .int (iI (i))), (3, .int (iI (o))), (4, .int (iI (w)))] → W p l e (headSpec wsX6_weight { frames := 2, cells := 0, slots := 0, locals := 43 }).room s m (#[.ref (ad 0), .int (iI (a)), .int (iI (i)), .int (iI (o)), .int (iI (w))] : Array Value) below meth c H locs 0 0 (MQ below (va_Qi (fun (r : Int32) (st' : St) => r = iI (aWeight st a i o w) ∧ st' = sWeight st a i o w ∧ GI wb st') (gP D cy ad n) (gA n ad s.heap.size)) (#[.ref (ad 0), .int (iI (a)), .int (iI (i)), .int (iI (o)), .int (iI (w))] : Array Value) s 0 0 (gA n ad s.heap.size)) (F0 m 76 ls [.int (iI (t)), .ref (ad 0)]) := by
      intro t H locs ls ht hG hl
      have hks := kWeight_s st a i o w
      refine g_put hx hb hts hin6 tyX6 tyX6_ok nmX6 hown hK hG (key := 0) (by omega) (gC_0 st ad cy) rfl 0 (by decide) L_75 (fun _ h9 => h9) rfl (ty := .int) (by decide +kernel) rfl rfl (Nat.le_of_ble_eq_true rfl) dX6_weight_76 (ust st 0 0 0 (t)) (fun j _ => gU_0 st ad cy (t) j) (fun H locs hG => ?_)
      obtain ⟨st1, hst1⟩ : ∃ z : St, z = ust st 0 (0) (0) (t) := ⟨_, rfl⟩
      rw [← hst1] at hG
      replace hI := hst1 ▸ gIu_0 hI (0) (0) (v := t) (by omega)
      refine lv_aload_n hx hb dX6_weight_79 rfl (lv_at hl 1 rfl) ?_
      refine g_get hx hb hts hin6 hown hK hG (key := 0) (by omega) (gC_0 st1 ad cy) rfl 0 (by decide) L_75 (fun _ h9 => h9) rfl dX6_weight_80 ?_
      have hr2 := gI_0 hI (0) (0)
      have kq3 : st1 0 (0) (0) = t := by rw [hst1, ust_s]
      rw [kq3] at hr2
      refine r_as kq3 ?_
      clear kq3
      refine r_if_le (tgt := 88) hx hb (by omega) dX6_weight_83 (by decide) (fun c4 => ?_) (fun c4 => ?_)
      · skip
        refine lv_aload_n hx hb dX6_weight_88 rfl (lv_at hl 1 rfl) ?_
        refine g_get hx hb hts hin6 hown hK hG (key := 0) (by omega) (gC_0 st1 ad cy) rfl 17 (by decide) L_51 (fun _ h9 => h9) rfl dX6_weight_89 ?_
        refine lv_iload_n hx hb dX6_weight_92 rfl (lv_at hl 2 rfl) ?_
        refine lv_iload_n hx hb dX6_weight_93 rfl (lv_at hl 3 rfl) ?_
        refine lv_iload_n hx hb dX6_weight_94 rfl (lv_at hl 4 rfl) ?_
        refine g_goi hG hA (va_runS (As := [.int (iI (a)), .int (iI (i)), .int (iI (o))]) (rest := [.ref (ad 13)]) ⟨hx, hb, hml, hown, hts⟩ (mX6_weightAt l D cy ad n st1 _ fz wb hn hI (by omega) (a) (i) (o) ) (va_cwS 3 hts gX6_weight_X6_weightAt rfl rfl rfl (by decide +kernel) ⟨Nat.le_of_ble_eq_true rfl, Nat.le_of_ble_eq_true rfl⟩) ⟨g_blind, g_pre hK hG hA hN hZ⟩ rfl rfl hl.1 rfl (lv_room (Nat.le_of_ble_eq_true rfl)) dX6_weight_95 ⟨Nat.zero_le _, Nat.zero_le _⟩) (fun r9 s9 H locs hp hG => ?_)
        obtain ⟨rfl, hs9⟩ := hp
        rw [hs9] at hG
        clear hs9
        refine r_nm (fun v5 ev5 => ?_)
        refine g_iald hx hb hK hG (13) (kd := 13) (o := 0) rfl rfl (by omega) (cp := 17) (ln := 192) rfl rfl (by omega) dX6_weight_98 ?_
        have hr6 := gI_17 hI (0) (v5)
        have kq7 : st1 17 (0) (v5) = st 17 (0) (v5) := by rw [hst1, ust_c (by decide)]
        rw [kq7] at hr6
        refine r_as kq7 ?_
        clear kq7
        refine r_nm (fun v8 ev8 => ?_)
        rw [← ev8] at hr6
        refine lv_istore (lv' := [(6, .int (iI (v8))), (5, .int (iI (isv))), (0, .ref (ad 0)), (1, .int (iI (a))), (2, .int (iI (i))), (3, .int (iI (o))), (4, .int (iI (w)))]) hx hb dX6_weight_99 hl (by decide) rfl (fun ls hl => ?_)
        refine lv_aload_n hx hb dX6_weight_101 rfl (lv_at hl 2 rfl) ?_
        refine g_get hx hb hts hin6 hown hK hG (key := 0) (by omega) (gC_0 st1 ad cy) rfl 17 (by decide) L_51 (fun _ h9 => h9) rfl dX6_weight_102 ?_
        refine lv_iload_n hx hb dX6_weight_105 rfl (lv_at hl 3 rfl) ?_
        refine lv_iload_n hx hb dX6_weight_106 rfl (lv_at hl 4 rfl) ?_
        refine lv_iload_n hx hb dX6_weight_107 rfl (lv_at hl 5 rfl) ?_
        refine g_goi hG hA (va_runS (As := [.int (iI (a)), .int (iI (i)), .int (iI (o))]) (rest := [.ref (ad 13)]) ⟨hx, hb, hml, hown, hts⟩ (mX6_weightAt l D cy ad n st1 _ fz wb hn hI (by omega) (a) (i) (o) ) (va_cwS 3 hts gX6_weight_X6_weightAt rfl rfl rfl (by decide +kernel) ⟨Nat.le_of_ble_eq_true rfl, Nat.le_of_ble_eq_true rfl⟩) ⟨g_blind, g_pre hK hG hA hN hZ⟩ rfl rfl hl.1 rfl (lv_room (Nat.le_of_ble_eq_true rfl)) dX6_weight_108 ⟨Nat.zero_le _, Nat.zero_le _⟩) (fun r9 s9 H locs hp hG => ?_)
        obtain ⟨rfl, hs9⟩ := hp
        rw [hs9] at hG
        clear hs9
        refine r_nm (fun v9 ev9 => ?_)
        refine lv_iload hx hb dX6_weight_111 (lv_at hl 6 rfl) ?_
        refine g_iast hx hb hK hG (13) (kd := 13) (o := 0) rfl rfl (by omega) (cp := 17) (ln := 192) rfl rfl (by omega) dX6_weight_113 (fun H locs hG => ?_)
        obtain ⟨st10, hst10⟩ : ∃ z : St, z = ust st1 17 (0) (v9) (w) := ⟨_, rfl⟩
        rw [← hst10] at hG
        replace hI := hst10 ▸ gIu_17 hI (0) (v9) (v := w) (by omega)
        refine lv_iload hx hb dX6_weight_114 (lv_at hl 0 rfl) ?_
        exact g_iret hx hb hr hlocks hG (by
          have hz := ht
          first
            | (refine ⟨?_, ?_, hI⟩
               · congr 1; unfold aWeight; rw [if_neg (by omega)]
               · unfold sWeight; rw [if_neg (by omega), ← ht]; assumption)
            | (refine ⟨?_, ?_, hI⟩
               · congr 1; unfold aWeight; rw [if_pos (by omega)]; first | omega | (subst_vars; rfl)
               · unfold sWeight; rw [if_pos (by omega), ← ht]; subst_vars; rfl)) dX6_weight_116
      · skip
        refine lv_iconst (v := iI (0)) hx hb dX6_weight_86 rfl ?_
        exact g_iret hx hb hr hlocks hG (by
          have hz := ht
          first
            | (refine ⟨?_, ?_, hI⟩
               · congr 1; unfold aWeight; rw [if_neg (by omega)]
               · unfold sWeight; rw [if_neg (by omega), ← ht]; assumption)
            | (refine ⟨?_, ?_, hI⟩
               · congr 1; unfold aWeight; rw [if_pos (by omega)]; first | omega | (subst_vars; rfl)
               · unfold sWeight; rw [if_pos (by omega), ← ht]; subst_vars; rfl)) dX6_weight_87
    refine lv_iload hx hb dX6_weight_48 (lv_at hl 0 rfl) ?_
    refine r_if_ne (tgt := 57) hx hb (by omega) dX6_weight_50 (by decide) (fun c11 => ?_) (fun c11 => ?_)
    · skip
      refine lv_iload hx hb dX6_weight_57 (lv_at hl 5 rfl) ?_
      refine lv_sipush (v := iI (-255)) hx hb dX6_weight_59 (by decide +kernel) ?_
      refine lv_sipush (v := iI (255)) hx hb dX6_weight_62 (by decide +kernel) ?_
      refine g_goi hG hA (va_runS (As := [.int (iI (w)), .int (iI (-255)), .int (iI (255))]) (rest := [.ref (ad 0)]) ⟨hx, hb, hml, hown, hts⟩ (mX6_in l D cy ad n st _ fz wb hn hI (by omega) (w) (-255) (255) (by omega) (by omega) (by omega)) (va_cwS 3 hts gX6_weight_X6_in rfl rfl rfl (by decide +kernel) ⟨Nat.le_of_ble_eq_true rfl, Nat.le_of_ble_eq_true rfl⟩) ⟨g_blind, g_pre hK hG hA hN hZ⟩ rfl rfl hl.1 rfl (lv_room (Nat.le_of_ble_eq_true rfl)) dX6_weight_65 ⟨Nat.zero_le _, Nat.zero_le _⟩) (fun r9 s9 H locs hp hG => ?_)
      obtain ⟨rfl, hs9⟩ := hp
      rw [hs9] at hG
      clear hs9
      refine r_nm (fun v12 ev12 => ?_)
      have hr13 := inF_s (w) (-255) (255)
      rw [← ev12] at hr13
      refine r_if_eq (tgt := 75) hx hb (by omega) dX6_weight_68 (by decide) (fun c14 => ?_) (fun c14 => ?_)
      · skip
        refine lv_iconst (v := iI (2)) hx hb dX6_weight_75 rfl ?_
        exact hlab76 (2)  _ _ _ (by have hks := kWeight_s st a i o w; omega) hG (lv_sub hl [0, 1, 2, 3, 4, 5] rfl)
      · skip
        refine lv_iconst (v := iI (0)) hx hb dX6_weight_71 rfl ?_
        refine lv_goto (tgt := 76) hx hb dX6_weight_72 (by decide) ?_
        exact hlab76 (0)  _ _ _ (by have hks := kWeight_s st a i o w; omega) hG (lv_sub hl [0, 1, 2, 3, 4, 5] rfl)
    · skip
      refine lv_iconst (v := iI (1)) hx hb dX6_weight_53 rfl ?_
      refine lv_goto (tgt := 76) hx hb dX6_weight_54 (by decide) ?_
      exact hlab76 (1)  _ _ _ (by have hks := kWeight_s st a i o w; omega) hG (lv_sub hl [0, 1, 2, 3, 4, 5] rfl)
  refine lv_aload_n hx hb dX6_weight_0 rfl (lv_at hl 0 rfl) ?_
  refine lv_iload_n hx hb dX6_weight_1 rfl (lv_at hl 1 rfl) ?_
  refine g_goi hG hA (va_runV (As := [.int (iI (a))]) (rest := []) ⟨hx, hb, hml, hown, hts⟩ (mX6_isLayer l D cy ad n st _ fz wb hn hI (by omega) (a) (by omega)) (cwV 1 hts gX6_weight_X6_isLayer rfl rfl rfl (by decide +kernel) ⟨Nat.le_of_ble_eq_true rfl, Nat.le_of_ble_eq_true rfl⟩) ⟨g_blind, va_recv hK hG.1 (q0 := 0) (ci := 6) rfl ((gw_at (by omega)).trans (by rw [gC_0 st ad cy])), g_pre hK hG hA hN hZ⟩ rfl rfl hl.1 rfl (lv_room (Nat.le_of_ble_eq_true rfl)) dX6_weight_2 ⟨Nat.zero_le _, Nat.zero_le _⟩) (fun r9 s9 H locs hp hG => ?_)
  obtain ⟨rfl, hs9⟩ := hp
  rw [hs9] at hG
  clear hs9
  refine r_nm (fun v15 ev15 => ?_)
  have hr16 := inF_s (a) 0 (st 14 0 0 - 1)
  rw [← ev15] at hr16
  refine r_if_eq (tgt := 44) hx hb (by omega) dX6_weight_5 (by decide) (fun c17 => ?_) (fun c17 => ?_)
  · skip
    refine lv_iconst (v := iI (0)) hx hb dX6_weight_44 rfl ?_
    exact hlab45 (0)  _ _ _ (by omega) hG (lv_sub hl [0, 1, 2, 3, 4] rfl)
  · skip
    refine lv_iload_n hx hb dX6_weight_8 rfl (lv_at hl 2 rfl) ?_
    refine lv_iconst (v := iI (0)) hx hb dX6_weight_9 rfl ?_
    refine lv_aload_n hx hb dX6_weight_10 rfl (lv_at hl 0 rfl) ?_
    refine g_get hx hb hts hin6 hown hK hG (key := 0) (by omega) (gC_0 st ad cy) rfl 15 (by decide) L_45 (fun _ h9 => h9) rfl dX6_weight_11 ?_
    refine lv_iload_n hx hb dX6_weight_14 rfl (lv_at hl 1 rfl) ?_
    refine g_iald hx hb hK hG (11) (kd := 11) (o := 0) rfl rfl (by omega) (cp := 15) (ln := 6) rfl rfl (by omega) dX6_weight_15 ?_
    have hr18 := gI_15 hI (0) (a)
    refine r_nm (fun v19 ev19 => ?_)
    rw [← ev19] at hr18
    refine lv_iconst (v := iI (1)) hx hb dX6_weight_16 rfl ?_
    refine r_isub hx hb dX6_weight_17 ?_
    refine r_nm (fun v20 ev20 => ?_)
    refine g_goi hG hA (va_runS (As := [.int (iI (i)), .int (iI (0)), .int (iI (v20))]) (rest := []) ⟨hx, hb, hml, hown, hts⟩ (mX6_in l D cy ad n st _ fz wb hn hI (by omega) (i) (0) (v20) (by omega) (by omega) (by omega)) (va_cwS 3 hts gX6_weight_X6_in rfl rfl rfl (by decide +kernel) ⟨Nat.le_of_ble_eq_true rfl, Nat.le_of_ble_eq_true rfl⟩) ⟨g_blind, g_pre hK hG hA hN hZ⟩ rfl rfl hl.1 rfl (lv_room (Nat.le_of_ble_eq_true rfl)) dX6_weight_18 ⟨Nat.zero_le _, Nat.zero_le _⟩) (fun r9 s9 H locs hp hG => ?_)
    obtain ⟨rfl, hs9⟩ := hp
    rw [hs9] at hG
    clear hs9
    refine r_nm (fun v21 ev21 => ?_)
    have hr22 := inF_s (i) (0) (v20)
    rw [← ev21] at hr22
    refine r_if_eq (tgt := 44) hx hb (by omega) dX6_weight_21 (by decide) (fun c23 => ?_) (fun c23 => ?_)
    · skip
      refine lv_iconst (v := iI (0)) hx hb dX6_weight_44 rfl ?_
      exact hlab45 (0)  _ _ _ (by omega) hG (lv_sub hl [0, 1, 2, 3, 4] rfl)
    · skip
      refine lv_iload_n hx hb dX6_weight_24 rfl (lv_at hl 3 rfl) ?_
      refine lv_iconst (v := iI (0)) hx hb dX6_weight_25 rfl ?_
      refine lv_aload_n hx hb dX6_weight_26 rfl (lv_at hl 0 rfl) ?_
      refine g_get hx hb hts hin6 hown hK hG (key := 0) (by omega) (gC_0 st ad cy) rfl 16 (by decide) L_48 (fun _ h9 => h9) rfl dX6_weight_27 ?_
      refine lv_iload_n hx hb dX6_weight_30 rfl (lv_at hl 1 rfl) ?_
      refine g_iald hx hb hK hG (12) (kd := 12) (o := 0) rfl rfl (by omega) (cp := 16) (ln := 6) rfl rfl (by omega) dX6_weight_31 ?_
      have hr24 := gI_16 hI (0) (a)
      refine r_nm (fun v25 ev25 => ?_)
      rw [← ev25] at hr24
      refine lv_iconst (v := iI (1)) hx hb dX6_weight_32 rfl ?_
      refine r_isub hx hb dX6_weight_33 ?_
      refine r_nm (fun v26 ev26 => ?_)
      refine g_goi hG hA (va_runS (As := [.int (iI (o)), .int (iI (0)), .int (iI (v26))]) (rest := []) ⟨hx, hb, hml, hown, hts⟩ (mX6_in l D cy ad n st _ fz wb hn hI (by omega) (o) (0) (v26) (by omega) (by omega) (by omega)) (va_cwS 3 hts gX6_weight_X6_in rfl rfl rfl (by decide +kernel) ⟨Nat.le_of_ble_eq_true rfl, Nat.le_of_ble_eq_true rfl⟩) ⟨g_blind, g_pre hK hG hA hN hZ⟩ rfl rfl hl.1 rfl (lv_room (Nat.le_of_ble_eq_true rfl)) dX6_weight_34 ⟨Nat.zero_le _, Nat.zero_le _⟩) (fun r9 s9 H locs hp hG => ?_)
      obtain ⟨rfl, hs9⟩ := hp
      rw [hs9] at hG
      clear hs9
      refine r_nm (fun v27 ev27 => ?_)
      have hr28 := inF_s (o) (0) (v26)
      rw [← ev27] at hr28
      refine r_if_eq (tgt := 44) hx hb (by omega) dX6_weight_37 (by decide) (fun c29 => ?_) (fun c29 => ?_)
      · skip
        refine lv_iconst (v := iI (0)) hx hb dX6_weight_44 rfl ?_
        exact hlab45 (0)  _ _ _ (by omega) hG (lv_sub hl [0, 1, 2, 3, 4] rfl)
      · skip
        refine lv_iconst (v := iI (1)) hx hb dX6_weight_40 rfl ?_
        refine lv_goto (tgt := 45) hx hb dX6_weight_41 (by decide) ?_
        exact hlab45 (1)  _ _ _ (by omega) hG (lv_sub hl [0, 1, 2, 3, 4] rfl)
set_option maxHeartbeats 400000 in
set_option maxRecDepth 100000 in
theorem mX6_shift (l : Launch) (D : va_G) (cy : Nat → ClassId) (ad : Nat → Nat) (n : Nat) (st : St) (sz fz : Nat) (wb : Int) (hn : 75 ≤ n) (hI : GI wb st) (hW : wb ≤ 2000000) (a : Int) (b : Int) (ha : -2147483648 ≤ a ∧ a < 2147483648) (hb : -2147483648 ≤ b ∧ b < 2147483648) : Met l yX6_shift wsX6_shift ({ frames := 2, cells := 0, slots := 0, locals := 43 }) (va_Pc [.ref (ad 0), .int (iI (a)), .int (iI (b))] (gB D cy ad n st sz fz)) (va_Qi (fun (r : Int32) (st' : St) => r = iI (aShift st a b) ∧ st' = sShift st a b ∧ GI wb st') (gP D cy ad n) (gA n ad sz)) 0 0 (gA n ad sz) := by
  refine Met.ofW (cc := cX6_shift) (maxL := 4) (ret := (some .int)) (by decide) rfl ?_
  intro p e s m args below meth c s₁ B hml hv
  obtain ⟨rfl, hsz, hP, hK, hD0, hN, hZ⟩ := hv
  have hx := B.exec
  have hb := B.bytes
  have hr := B.returns
  have hts := atoms_spec (ws := wsX6_shift) B.pre
  have hown : s.vm.findClass RX6 = some m.cls := findClass_of_methodNamed B.named
  have hlocks := B.notSynchronized
  subst hsz
  have hA : ∀ q : Nat, s.heap.size ≤ q → gA n ad s.heap.size q := fun q h => Or.inr h
  have hG : GH D cy ad n st (gA n ad s.heap.size) s.heap s.heap [] := ⟨hP, gw_A hD0, va_S.rf⟩
  have hl := lv_entry ([.ref (ad 0), .int (iI (a)), .int (iI (b))]) (n := 4) (Nat.le_of_ble_eq_true rfl)
  rw [lg_entry_eq]
  generalize (lg_sl ([.ref (ad 0), .int (iI (a)), .int (iI (b))]) ++ List.replicate (4 - (lg_sl ([.ref (ad 0), .int (iI (a)), .int (iI (b))])).length) Slot.unset).toArray = ls at hl ⊢
  have hl : lv_has ls 4 [(0, .ref (ad 0)), (1, .int (iI (a))), (2, .int (iI (b)))] := hl
  have hin6 : ∀ w ∈ u_ws RX6 TX6 25, w ∈ wsX6_shift := by decide +kernel
  have L_54 := hts (.fieldLink RX6 54 "CrossbarryModel" "shifts" "[I") (by decide +kernel)
  have L_75 := hts (.fieldLink RX6 75 "CrossbarryModel" "thrown" "I") (by decide +kernel)
  have hmn := gI_14 hI 0 0
  refine lv_aload_n hx hb dX6_shift_0 rfl (lv_at hl 0 rfl) ?_
  have hlab28 : ∀ (t : Int) (H : Heap) (locs : List Loc) (ls : Array Slot), (t = (kShift st a b)) →  GH D cy ad n st (gA n ad s.heap.size) s.heap H locs → lv_has ls 4 [(0, .ref (ad 0)), (1, .int (iI (a))), (2, .int (iI (b)))] → W p l e (headSpec wsX6_shift { frames := 2, cells := 0, slots := 0, locals := 43 }).room s m (#[.ref (ad 0), .int (iI (a)), .int (iI (b))] : Array Value) below meth c H locs 0 0 (MQ below (va_Qi (fun (r : Int32) (st' : St) => r = iI (aShift st a b) ∧ st' = sShift st a b ∧ GI wb st') (gP D cy ad n) (gA n ad s.heap.size)) (#[.ref (ad 0), .int (iI (a)), .int (iI (b))] : Array Value) s 0 0 (gA n ad s.heap.size)) (F0 m 28 ls [.int (iI (t)), .ref (ad 0)]) := by
    intro t H locs ls ht hG hl
    have hks := kShift_s st a b
    refine g_put hx hb hts hin6 tyX6 tyX6_ok nmX6 hown hK hG (key := 0) (by omega) (gC_0 st ad cy) rfl 0 (by decide) L_75 (fun _ h9 => h9) rfl (ty := .int) (by decide +kernel) rfl rfl (Nat.le_of_ble_eq_true rfl) dX6_shift_28 (ust st 0 0 0 (t)) (fun j _ => gU_0 st ad cy (t) j) (fun H locs hG => ?_)
    obtain ⟨st1, hst1⟩ : ∃ z : St, z = ust st 0 (0) (0) (t) := ⟨_, rfl⟩
    rw [← hst1] at hG
    replace hI := hst1 ▸ gIu_0 hI (0) (0) (v := t) (by omega)
    refine lv_aload_n hx hb dX6_shift_31 rfl (lv_at hl 0 rfl) ?_
    refine g_get hx hb hts hin6 hown hK hG (key := 0) (by omega) (gC_0 st1 ad cy) rfl 0 (by decide) L_75 (fun _ h9 => h9) rfl dX6_shift_32 ?_
    have hr2 := gI_0 hI (0) (0)
    have kq3 : st1 0 (0) (0) = t := by rw [hst1, ust_s]
    rw [kq3] at hr2
    refine r_as kq3 ?_
    clear kq3
    refine r_if_le (tgt := 40) hx hb (by omega) dX6_shift_35 (by decide) (fun c4 => ?_) (fun c4 => ?_)
    · skip
      refine lv_aload_n hx hb dX6_shift_40 rfl (lv_at hl 0 rfl) ?_
      refine g_get hx hb hts hin6 hown hK hG (key := 0) (by omega) (gC_0 st1 ad cy) rfl 18 (by decide) L_54 (fun _ h9 => h9) rfl dX6_shift_41 ?_
      refine lv_iload_n hx hb dX6_shift_44 rfl (lv_at hl 1 rfl) ?_
      refine g_iald hx hb hK hG (14) (kd := 14) (o := 0) rfl rfl (by omega) (cp := 18) (ln := 6) rfl rfl (by omega) dX6_shift_45 ?_
      have hr5 := gI_18 hI (0) (a)
      have kq6 : st1 18 (0) (a) = st 18 (0) (a) := by rw [hst1, ust_c (by decide)]
      rw [kq6] at hr5
      refine r_as kq6 ?_
      clear kq6
      refine r_nm (fun v7 ev7 => ?_)
      rw [← ev7] at hr5
      refine lv_istore_n (lv' := [(3, .int (iI (v7))), (0, .ref (ad 0)), (1, .int (iI (a))), (2, .int (iI (b)))]) hx hb dX6_shift_46 rfl hl (by decide) rfl (fun ls hl => ?_)
      refine lv_aload_n hx hb dX6_shift_47 rfl (lv_at hl 1 rfl) ?_
      refine g_get hx hb hts hin6 hown hK hG (key := 0) (by omega) (gC_0 st1 ad cy) rfl 18 (by decide) L_54 (fun _ h9 => h9) rfl dX6_shift_48 ?_
      refine lv_iload_n hx hb dX6_shift_51 rfl (lv_at hl 2 rfl) ?_
      refine lv_iload_n hx hb dX6_shift_52 rfl (lv_at hl 3 rfl) ?_
      refine g_iast hx hb hK hG (14) (kd := 14) (o := 0) rfl rfl (by omega) (cp := 18) (ln := 6) rfl rfl (by omega) dX6_shift_53 (fun H locs hG => ?_)
      obtain ⟨st8, hst8⟩ : ∃ z : St, z = ust st1 18 (0) (a) (b) := ⟨_, rfl⟩
      rw [← hst8] at hG
      replace hI := hst8 ▸ gIu_18 hI (0) (a) (v := b) (by omega)
      refine lv_iload_n hx hb dX6_shift_54 rfl (lv_at hl 0 rfl) ?_
      exact g_iret hx hb hr hlocks hG (by
        have hz := ht
        first
          | (refine ⟨?_, ?_, hI⟩
             · congr 1; unfold aShift; rw [if_neg (by omega)]
             · unfold sShift; rw [if_neg (by omega), ← ht]; assumption)
          | (refine ⟨?_, ?_, hI⟩
             · congr 1; unfold aShift; rw [if_pos (by omega)]; first | omega | (subst_vars; rfl)
             · unfold sShift; rw [if_pos (by omega), ← ht]; subst_vars; rfl)) dX6_shift_55
    · skip
      refine lv_iconst (v := iI (0)) hx hb dX6_shift_38 rfl ?_
      exact g_iret hx hb hr hlocks hG (by
        have hz := ht
        first
          | (refine ⟨?_, ?_, hI⟩
             · congr 1; unfold aShift; rw [if_neg (by omega)]
             · unfold sShift; rw [if_neg (by omega), ← ht]; assumption)
          | (refine ⟨?_, ?_, hI⟩
             · congr 1; unfold aShift; rw [if_pos (by omega)]; first | omega | (subst_vars; rfl)
             · unfold sShift; rw [if_pos (by omega), ← ht]; subst_vars; rfl)) dX6_shift_39
  refine lv_aload_n hx hb dX6_shift_1 rfl (lv_at hl 0 rfl) ?_
  refine lv_iload_n hx hb dX6_shift_2 rfl (lv_at hl 1 rfl) ?_
  refine g_goi hG hA (va_runV (As := [.int (iI (a))]) (rest := [.ref (ad 0)]) ⟨hx, hb, hml, hown, hts⟩ (mX6_isLayer l D cy ad n st _ fz wb hn hI (by omega) (a) (by omega)) (cwV 1 hts gX6_shift_X6_isLayer rfl rfl rfl (by decide +kernel) ⟨Nat.le_of_ble_eq_true rfl, Nat.le_of_ble_eq_true rfl⟩) ⟨g_blind, va_recv hK hG.1 (q0 := 0) (ci := 6) rfl ((gw_at (by omega)).trans (by rw [gC_0 st ad cy])), g_pre hK hG hA hN hZ⟩ rfl rfl hl.1 rfl (lv_room (Nat.le_of_ble_eq_true rfl)) dX6_shift_3 ⟨Nat.zero_le _, Nat.zero_le _⟩) (fun r9 s9 H locs hp hG => ?_)
  obtain ⟨rfl, hs9⟩ := hp
  rw [hs9] at hG
  clear hs9
  refine r_nm (fun v9 ev9 => ?_)
  have hr10 := inF_s (a) 0 (st 14 0 0 - 1)
  rw [← ev9] at hr10
  refine r_if_ne (tgt := 13) hx hb (by omega) dX6_shift_6 (by decide) (fun c11 => ?_) (fun c11 => ?_)
  · skip
    refine lv_iload_n hx hb dX6_shift_13 rfl (lv_at hl 2 rfl) ?_
    refine lv_iconst (v := iI (0)) hx hb dX6_shift_14 rfl ?_
    refine lv_bipush (v := iI (20)) hx hb dX6_shift_15 (by decide +kernel) ?_
    refine g_goi hG hA (va_runS (As := [.int (iI (b)), .int (iI (0)), .int (iI (20))]) (rest := [.ref (ad 0)]) ⟨hx, hb, hml, hown, hts⟩ (mX6_in l D cy ad n st _ fz wb hn hI (by omega) (b) (0) (20) (by omega) (by omega) (by omega)) (va_cwS 3 hts gX6_shift_X6_in rfl rfl rfl (by decide +kernel) ⟨Nat.le_of_ble_eq_true rfl, Nat.le_of_ble_eq_true rfl⟩) ⟨g_blind, g_pre hK hG hA hN hZ⟩ rfl rfl hl.1 rfl (lv_room (Nat.le_of_ble_eq_true rfl)) dX6_shift_17 ⟨Nat.zero_le _, Nat.zero_le _⟩) (fun r9 s9 H locs hp hG => ?_)
    obtain ⟨rfl, hs9⟩ := hp
    rw [hs9] at hG
    clear hs9
    refine r_nm (fun v12 ev12 => ?_)
    have hr13 := inF_s (b) (0) (20)
    rw [← ev12] at hr13
    refine r_if_eq (tgt := 27) hx hb (by omega) dX6_shift_20 (by decide) (fun c14 => ?_) (fun c14 => ?_)
    · skip
      refine lv_iconst (v := iI (2)) hx hb dX6_shift_27 rfl ?_
      exact hlab28 (2)  _ _ _ (by have hks := kShift_s st a b; omega) hG (lv_sub hl [0, 1, 2] rfl)
    · skip
      refine lv_iconst (v := iI (0)) hx hb dX6_shift_23 rfl ?_
      refine lv_goto (tgt := 28) hx hb dX6_shift_24 (by decide) ?_
      exact hlab28 (0)  _ _ _ (by have hks := kShift_s st a b; omega) hG (lv_sub hl [0, 1, 2] rfl)
  · skip
    refine lv_iconst (v := iI (1)) hx hb dX6_shift_9 rfl ?_
    refine lv_goto (tgt := 28) hx hb dX6_shift_10 (by decide) ?_
    exact hlab28 (1)  _ _ _ (by have hks := kShift_s st a b; omega) hG (lv_sub hl [0, 1, 2] rfl)
set_option maxHeartbeats 400000 in
set_option maxRecDepth 100000 in
theorem mX6_drift (l : Launch) (D : va_G) (cy : Nat → ClassId) (ad : Nat → Nat) (n : Nat) (st : St) (sz fz : Nat) (wb : Int) (hn : 75 ≤ n) (hI : GI wb st) (hW : wb ≤ 2000000) (v : Int) (hv : -2147483648 ≤ v ∧ v < 2147483648) : Met l yX6_drift wsX6_drift ({ frames := 1, cells := 0, slots := 0, locals := 22 }) (va_Pc [.ref (ad 0), .int (iI (v))] (gB D cy ad n st sz fz)) (va_Qi (fun (r : Int32) (st' : St) => r = iI (aDrift st v) ∧ st' = sDrift st v ∧ GI wb st') (gP D cy ad n) (gA n ad sz)) 0 0 (gA n ad sz) := by
  refine Met.ofW (cc := cX6_drift) (maxL := 3) (ret := (some .int)) (by decide) rfl ?_
  intro p e s m args below meth c s₁ B hml hv
  obtain ⟨rfl, hsz, hP, hK, hD0, hN, hZ⟩ := hv
  have hx := B.exec
  have hb := B.bytes
  have hr := B.returns
  have hts := atoms_spec (ws := wsX6_drift) B.pre
  have hown : s.vm.findClass RX6 = some m.cls := findClass_of_methodNamed B.named
  have hlocks := B.notSynchronized
  subst hsz
  have hA : ∀ q : Nat, s.heap.size ≤ q → gA n ad s.heap.size q := fun q h => Or.inr h
  have hG : GH D cy ad n st (gA n ad s.heap.size) s.heap s.heap [] := ⟨hP, gw_A hD0, va_S.rf⟩
  have hl := lv_entry ([.ref (ad 0), .int (iI (v))]) (n := 3) (Nat.le_of_ble_eq_true rfl)
  rw [lg_entry_eq]
  generalize (lg_sl ([.ref (ad 0), .int (iI (v))]) ++ List.replicate (3 - (lg_sl ([.ref (ad 0), .int (iI (v))])).length) Slot.unset).toArray = ls at hl ⊢
  have hl : lv_has ls 3 [(0, .ref (ad 0)), (1, .int (iI (v)))] := hl
  have hin6 : ∀ w ∈ u_ws RX6 TX6 25, w ∈ wsX6_drift := by decide +kernel
  have L_75 := hts (.fieldLink RX6 75 "CrossbarryModel" "thrown" "I") (by decide +kernel)
  have L_89 := hts (.fieldLink RX6 89 "CrossbarryModel" "driftHours" "I") (by decide +kernel)
  have hmn := gI_14 hI 0 0
  refine lv_aload_n hx hb dX6_drift_0 rfl (lv_at hl 0 rfl) ?_
  have hlab17 : ∀ (t : Int) (H : Heap) (locs : List Loc) (ls : Array Slot), (t = (kRange 0 1000 v)) →  GH D cy ad n st (gA n ad s.heap.size) s.heap H locs → lv_has ls 3 [(0, .ref (ad 0)), (1, .int (iI (v)))] → W p l e (headSpec wsX6_drift { frames := 1, cells := 0, slots := 0, locals := 22 }).room s m (#[.ref (ad 0), .int (iI (v))] : Array Value) below meth c H locs 0 0 (MQ below (va_Qi (fun (r : Int32) (st' : St) => r = iI (aDrift st v) ∧ st' = sDrift st v ∧ GI wb st') (gP D cy ad n) (gA n ad s.heap.size)) (#[.ref (ad 0), .int (iI (v))] : Array Value) s 0 0 (gA n ad s.heap.size)) (F0 m 17 ls [.int (iI (t)), .ref (ad 0)]) := by
    intro t H locs ls ht hG hl
    have hks := kRange_s 0 1000 v
    refine g_put hx hb hts hin6 tyX6 tyX6_ok nmX6 hown hK hG (key := 0) (by omega) (gC_0 st ad cy) rfl 0 (by decide) L_75 (fun _ h9 => h9) rfl (ty := .int) (by decide +kernel) rfl rfl (Nat.le_of_ble_eq_true rfl) dX6_drift_17 (ust st 0 0 0 (t)) (fun j _ => gU_0 st ad cy (t) j) (fun H locs hG => ?_)
    obtain ⟨st1, hst1⟩ : ∃ z : St, z = ust st 0 (0) (0) (t) := ⟨_, rfl⟩
    rw [← hst1] at hG
    replace hI := hst1 ▸ gIu_0 hI (0) (0) (v := t) (by omega)
    refine lv_aload_n hx hb dX6_drift_20 rfl (lv_at hl 0 rfl) ?_
    refine g_get hx hb hts hin6 hown hK hG (key := 0) (by omega) (gC_0 st1 ad cy) rfl 0 (by decide) L_75 (fun _ h9 => h9) rfl dX6_drift_21 ?_
    have hr2 := gI_0 hI (0) (0)
    have kq3 : st1 0 (0) (0) = t := by rw [hst1, ust_s]
    rw [kq3] at hr2
    refine r_as kq3 ?_
    clear kq3
    refine r_if_le (tgt := 29) hx hb (by omega) dX6_drift_24 (by decide) (fun c4 => ?_) (fun c4 => ?_)
    · skip
      refine lv_aload_n hx hb dX6_drift_29 rfl (lv_at hl 0 rfl) ?_
      refine g_get hx hb hts hin6 hown hK hG (key := 0) (by omega) (gC_0 st1 ad cy) rfl 2 (by decide) L_89 (fun _ h9 => h9) rfl dX6_drift_30 ?_
      have hr5 := gI_2 hI (0) (0)
      have kq6 : st1 2 (0) (0) = st 2 (0) (0) := by rw [hst1, ust_c (by decide)]
      rw [kq6] at hr5
      refine r_as kq6 ?_
      clear kq6
      refine r_nm (fun v7 ev7 => ?_)
      rw [← ev7] at hr5
      refine lv_istore_n (lv' := [(2, .int (iI (v7))), (0, .ref (ad 0)), (1, .int (iI (v)))]) hx hb dX6_drift_33 rfl hl (by decide) rfl (fun ls hl => ?_)
      refine lv_aload_n hx hb dX6_drift_34 rfl (lv_at hl 1 rfl) ?_
      refine lv_iload_n hx hb dX6_drift_35 rfl (lv_at hl 2 rfl) ?_
      refine g_put hx hb hts hin6 tyX6 tyX6_ok nmX6 hown hK hG (key := 0) (by omega) (gC_0 st1 ad cy) rfl 2 (by decide) L_89 (fun _ h9 => h9) rfl (ty := .int) (by decide +kernel) rfl rfl (Nat.le_of_ble_eq_true rfl) dX6_drift_36 (ust st1 2 0 0 (v)) (fun j _ => gU_2 st1 ad cy (v) j) (fun H locs hG => ?_)
      obtain ⟨st8, hst8⟩ : ∃ z : St, z = ust st1 2 (0) (0) (v) := ⟨_, rfl⟩
      rw [← hst8] at hG
      replace hI := hst8 ▸ gIu_2 hI (0) (0) (v := v) (by omega)
      refine lv_iload_n hx hb dX6_drift_39 rfl (lv_at hl 0 rfl) ?_
      exact g_iret hx hb hr hlocks hG (by
        have hz := ht
        first
          | (refine ⟨?_, ?_, hI⟩
             · congr 1; unfold aDrift; rw [if_neg (by omega)]
             · unfold sDrift; rw [if_neg (by omega), ← ht]; assumption)
          | (refine ⟨?_, ?_, hI⟩
             · congr 1; unfold aDrift; rw [if_pos (by omega)]; first | omega | (subst_vars; rfl)
             · unfold sDrift; rw [if_pos (by omega), ← ht]; subst_vars; rfl)) dX6_drift_40
    · skip
      refine lv_iconst (v := iI (0)) hx hb dX6_drift_27 rfl ?_
      exact g_iret hx hb hr hlocks hG (by
        have hz := ht
        first
          | (refine ⟨?_, ?_, hI⟩
             · congr 1; unfold aDrift; rw [if_neg (by omega)]
             · unfold sDrift; rw [if_neg (by omega), ← ht]; assumption)
          | (refine ⟨?_, ?_, hI⟩
             · congr 1; unfold aDrift; rw [if_pos (by omega)]; first | omega | (subst_vars; rfl)
             · unfold sDrift; rw [if_pos (by omega), ← ht]; subst_vars; rfl)) dX6_drift_28
  refine lv_iload_n hx hb dX6_drift_1 rfl (lv_at hl 1 rfl) ?_
  refine lv_iconst (v := iI (0)) hx hb dX6_drift_2 rfl ?_
  refine lv_sipush (v := iI (1000)) hx hb dX6_drift_3 (by decide +kernel) ?_
  refine g_goi hG hA (va_runS (As := [.int (iI (v)), .int (iI (0)), .int (iI (1000))]) (rest := [.ref (ad 0)]) ⟨hx, hb, hml, hown, hts⟩ (mX6_in l D cy ad n st _ fz wb hn hI (by omega) (v) (0) (1000) (by omega) (by omega) (by omega)) (va_cwS 3 hts gX6_drift_X6_in rfl rfl rfl (by decide +kernel) ⟨Nat.le_of_ble_eq_true rfl, Nat.le_of_ble_eq_true rfl⟩) ⟨g_blind, g_pre hK hG hA hN hZ⟩ rfl rfl hl.1 rfl (lv_room (Nat.le_of_ble_eq_true rfl)) dX6_drift_6 ⟨Nat.zero_le _, Nat.zero_le _⟩) (fun r9 s9 H locs hp hG => ?_)
  obtain ⟨rfl, hs9⟩ := hp
  rw [hs9] at hG
  clear hs9
  refine r_nm (fun v9 ev9 => ?_)
  have hr10 := inF_s (v) (0) (1000)
  rw [← ev9] at hr10
  refine r_if_eq (tgt := 16) hx hb (by omega) dX6_drift_9 (by decide) (fun c11 => ?_) (fun c11 => ?_)
  · skip
    refine lv_iconst (v := iI (1)) hx hb dX6_drift_16 rfl ?_
    exact hlab17 (1)  _ _ _ (by have hks := kRange_s 0 1000 v; omega) hG (lv_sub hl [0, 1] rfl)
  · skip
    refine lv_iconst (v := iI (0)) hx hb dX6_drift_12 rfl ?_
    refine lv_goto (tgt := 17) hx hb dX6_drift_13 (by decide) ?_
    exact hlab17 (0)  _ _ _ (by have hks := kRange_s 0 1000 v; omega) hG (lv_sub hl [0, 1] rfl)
set_option maxHeartbeats 400000 in
set_option maxRecDepth 100000 in
theorem mX6_endurance (l : Launch) (D : va_G) (cy : Nat → ClassId) (ad : Nat → Nat) (n : Nat) (st : St) (sz fz : Nat) (wb : Int) (hn : 75 ≤ n) (hI : GI wb st) (hW : wb ≤ 2000000) (v : Int) (hv : -2147483648 ≤ v ∧ v < 2147483648) : Met l yX6_endurance wsX6_endurance ({ frames := 1, cells := 0, slots := 0, locals := 22 }) (va_Pc [.ref (ad 0), .int (iI (v))] (gB D cy ad n st sz fz)) (va_Qi (fun (r : Int32) (st' : St) => r = iI (aEndur st v) ∧ st' = sEndur st v ∧ GI wb st') (gP D cy ad n) (gA n ad sz)) 0 0 (gA n ad sz) := by
  refine Met.ofW (cc := cX6_endurance) (maxL := 3) (ret := (some .int)) (by decide) rfl ?_
  intro p e s m args below meth c s₁ B hml hv
  obtain ⟨rfl, hsz, hP, hK, hD0, hN, hZ⟩ := hv
  have hx := B.exec
  have hb := B.bytes
  have hr := B.returns
  have hts := atoms_spec (ws := wsX6_endurance) B.pre
  have hown : s.vm.findClass RX6 = some m.cls := findClass_of_methodNamed B.named
  have hlocks := B.notSynchronized
  subst hsz
  have hA : ∀ q : Nat, s.heap.size ≤ q → gA n ad s.heap.size q := fun q h => Or.inr h
  have hG : GH D cy ad n st (gA n ad s.heap.size) s.heap s.heap [] := ⟨hP, gw_A hD0, va_S.rf⟩
  have hl := lv_entry ([.ref (ad 0), .int (iI (v))]) (n := 3) (Nat.le_of_ble_eq_true rfl)
  rw [lg_entry_eq]
  generalize (lg_sl ([.ref (ad 0), .int (iI (v))]) ++ List.replicate (3 - (lg_sl ([.ref (ad 0), .int (iI (v))])).length) Slot.unset).toArray = ls at hl ⊢
  have hl : lv_has ls 3 [(0, .ref (ad 0)), (1, .int (iI (v)))] := hl
  have hin6 : ∀ w ∈ u_ws RX6 TX6 25, w ∈ wsX6_endurance := by decide +kernel
  have L_152 := hts (.constant RX6 152 (100000)) (by decide +kernel)
  have L_7 := hts (.fieldLink RX6 7 "CrossbarryModel" "most" "I") (by decide +kernel)
  have L_75 := hts (.fieldLink RX6 75 "CrossbarryModel" "thrown" "I") (by decide +kernel)
  have hmn := gI_14 hI 0 0
  refine lv_aload_n hx hb dX6_endurance_0 rfl (lv_at hl 0 rfl) ?_
  have hlab16 : ∀ (t : Int) (H : Heap) (locs : List Loc) (ls : Array Slot), (t = (kRange 1 100000 v)) →  GH D cy ad n st (gA n ad s.heap.size) s.heap H locs → lv_has ls 3 [(0, .ref (ad 0)), (1, .int (iI (v)))] → W p l e (headSpec wsX6_endurance { frames := 1, cells := 0, slots := 0, locals := 22 }).room s m (#[.ref (ad 0), .int (iI (v))] : Array Value) below meth c H locs 0 0 (MQ below (va_Qi (fun (r : Int32) (st' : St) => r = iI (aEndur st v) ∧ st' = sEndur st v ∧ GI wb st') (gP D cy ad n) (gA n ad s.heap.size)) (#[.ref (ad 0), .int (iI (v))] : Array Value) s 0 0 (gA n ad s.heap.size)) (F0 m 16 ls [.int (iI (t)), .ref (ad 0)]) := by
    intro t H locs ls ht hG hl
    have hks := kRange_s 1 100000 v
    refine g_put hx hb hts hin6 tyX6 tyX6_ok nmX6 hown hK hG (key := 0) (by omega) (gC_0 st ad cy) rfl 0 (by decide) L_75 (fun _ h9 => h9) rfl (ty := .int) (by decide +kernel) rfl rfl (Nat.le_of_ble_eq_true rfl) dX6_endurance_16 (ust st 0 0 0 (t)) (fun j _ => gU_0 st ad cy (t) j) (fun H locs hG => ?_)
    obtain ⟨st1, hst1⟩ : ∃ z : St, z = ust st 0 (0) (0) (t) := ⟨_, rfl⟩
    rw [← hst1] at hG
    replace hI := hst1 ▸ gIu_0 hI (0) (0) (v := t) (by omega)
    refine lv_aload_n hx hb dX6_endurance_19 rfl (lv_at hl 0 rfl) ?_
    refine g_get hx hb hts hin6 hown hK hG (key := 0) (by omega) (gC_0 st1 ad cy) rfl 0 (by decide) L_75 (fun _ h9 => h9) rfl dX6_endurance_20 ?_
    have hr2 := gI_0 hI (0) (0)
    have kq3 : st1 0 (0) (0) = t := by rw [hst1, ust_s]
    rw [kq3] at hr2
    refine r_as kq3 ?_
    clear kq3
    refine r_if_le (tgt := 28) hx hb (by omega) dX6_endurance_23 (by decide) (fun c4 => ?_) (fun c4 => ?_)
    · skip
      refine lv_aload_n hx hb dX6_endurance_28 rfl (lv_at hl 0 rfl) ?_
      refine g_get hx hb hts hin6 hown hK hG (key := 0) (by omega) (gC_0 st1 ad cy) rfl 3 (by decide) L_7 (fun _ h9 => h9) rfl dX6_endurance_29 ?_
      have hr5 := gI_3 hI (0) (0)
      have kq6 : st1 3 (0) (0) = st 3 (0) (0) := by rw [hst1, ust_c (by decide)]
      rw [kq6] at hr5
      refine r_as kq6 ?_
      clear kq6
      refine r_nm (fun v7 ev7 => ?_)
      rw [← ev7] at hr5
      refine lv_istore_n (lv' := [(2, .int (iI (v7))), (0, .ref (ad 0)), (1, .int (iI (v)))]) hx hb dX6_endurance_32 rfl hl (by decide) rfl (fun ls hl => ?_)
      refine lv_aload_n hx hb dX6_endurance_33 rfl (lv_at hl 1 rfl) ?_
      refine lv_iload_n hx hb dX6_endurance_34 rfl (lv_at hl 2 rfl) ?_
      refine g_put hx hb hts hin6 tyX6 tyX6_ok nmX6 hown hK hG (key := 0) (by omega) (gC_0 st1 ad cy) rfl 3 (by decide) L_7 (fun _ h9 => h9) rfl (ty := .int) (by decide +kernel) rfl rfl (Nat.le_of_ble_eq_true rfl) dX6_endurance_35 (ust st1 3 0 0 (v)) (fun j _ => gU_3 st1 ad cy (v) j) (fun H locs hG => ?_)
      obtain ⟨st8, hst8⟩ : ∃ z : St, z = ust st1 3 (0) (0) (v) := ⟨_, rfl⟩
      rw [← hst8] at hG
      replace hI := hst8 ▸ gIu_3 hI (0) (0) (v := v) (by omega)
      refine lv_iload_n hx hb dX6_endurance_38 rfl (lv_at hl 0 rfl) ?_
      exact g_iret hx hb hr hlocks hG (by
        have hz := ht
        first
          | (refine ⟨?_, ?_, hI⟩
             · congr 1; unfold aEndur; rw [if_neg (by omega)]
             · unfold sEndur; rw [if_neg (by omega), ← ht]; assumption)
          | (refine ⟨?_, ?_, hI⟩
             · congr 1; unfold aEndur; rw [if_pos (by omega)]; first | omega | (subst_vars; rfl)
             · unfold sEndur; rw [if_pos (by omega), ← ht]; subst_vars; rfl)) dX6_endurance_39
    · skip
      refine lv_iconst (v := iI (0)) hx hb dX6_endurance_26 rfl ?_
      exact g_iret hx hb hr hlocks hG (by
        have hz := ht
        first
          | (refine ⟨?_, ?_, hI⟩
             · congr 1; unfold aEndur; rw [if_neg (by omega)]
             · unfold sEndur; rw [if_neg (by omega), ← ht]; assumption)
          | (refine ⟨?_, ?_, hI⟩
             · congr 1; unfold aEndur; rw [if_pos (by omega)]; first | omega | (subst_vars; rfl)
             · unfold sEndur; rw [if_pos (by omega), ← ht]; subst_vars; rfl)) dX6_endurance_27
  refine lv_iload_n hx hb dX6_endurance_1 rfl (lv_at hl 1 rfl) ?_
  refine lv_iconst (v := iI (1)) hx hb dX6_endurance_2 rfl ?_
  refine lv_ldc hx hb hown L_152 dX6_endurance_3 ?_
  refine r_asI (y := 100000) (by decide +kernel) ?_
  refine g_goi hG hA (va_runS (As := [.int (iI (v)), .int (iI (1)), .int (iI (100000))]) (rest := [.ref (ad 0)]) ⟨hx, hb, hml, hown, hts⟩ (mX6_in l D cy ad n st _ fz wb hn hI (by omega) (v) (1) (100000) (by omega) (by omega) (by omega)) (va_cwS 3 hts gX6_endurance_X6_in rfl rfl rfl (by decide +kernel) ⟨Nat.le_of_ble_eq_true rfl, Nat.le_of_ble_eq_true rfl⟩) ⟨g_blind, g_pre hK hG hA hN hZ⟩ rfl rfl hl.1 rfl (lv_room (Nat.le_of_ble_eq_true rfl)) dX6_endurance_5 ⟨Nat.zero_le _, Nat.zero_le _⟩) (fun r9 s9 H locs hp hG => ?_)
  obtain ⟨rfl, hs9⟩ := hp
  rw [hs9] at hG
  clear hs9
  refine r_nm (fun v9 ev9 => ?_)
  have hr10 := inF_s (v) (1) (100000)
  rw [← ev9] at hr10
  refine r_if_eq (tgt := 15) hx hb (by omega) dX6_endurance_8 (by decide) (fun c11 => ?_) (fun c11 => ?_)
  · skip
    refine lv_iconst (v := iI (1)) hx hb dX6_endurance_15 rfl ?_
    exact hlab16 (1)  _ _ _ (by have hks := kRange_s 1 100000 v; omega) hG (lv_sub hl [0, 1] rfl)
  · skip
    refine lv_iconst (v := iI (0)) hx hb dX6_endurance_11 rfl ?_
    refine lv_goto (tgt := 16) hx hb dX6_endurance_12 (by decide) ?_
    exact hlab16 (0)  _ _ _ (by have hks := kRange_s 1 100000 v; omega) hG (lv_sub hl [0, 1] rfl)
set_option maxHeartbeats 400000 in
set_option maxRecDepth 100000 in
theorem mX6_pass (l : Launch) (D : va_G) (cy : Nat → ClassId) (ad : Nat → Nat) (n : Nat) (st : St) (sz fz : Nat) (wb : Int) (hn : 75 ≤ n) (hI : GI wb st) (hW : wb ≤ 2000000) (v : Int) (hv : -2147483648 ≤ v ∧ v < 2147483648) : Met l yX6_pass wsX6_pass ({ frames := 1, cells := 0, slots := 0, locals := 22 }) (va_Pc [.ref (ad 0), .int (iI (v))] (gB D cy ad n st sz fz)) (va_Qi (fun (r : Int32) (st' : St) => r = iI (aPass st v) ∧ st' = sPass st v ∧ GI wb st') (gP D cy ad n) (gA n ad sz)) 0 0 (gA n ad sz) := by
  refine Met.ofW (cc := cX6_pass) (maxL := 2) (ret := (some .int)) (by decide) rfl ?_
  intro p e s m args below meth c s₁ B hml hv
  obtain ⟨rfl, hsz, hP, hK, hD0, hN, hZ⟩ := hv
  have hx := B.exec
  have hb := B.bytes
  have hr := B.returns
  have hts := atoms_spec (ws := wsX6_pass) B.pre
  have hown : s.vm.findClass RX6 = some m.cls := findClass_of_methodNamed B.named
  have hlocks := B.notSynchronized
  subst hsz
  have hA : ∀ q : Nat, s.heap.size ≤ q → gA n ad s.heap.size q := fun q h => Or.inr h
  have hG : GH D cy ad n st (gA n ad s.heap.size) s.heap s.heap [] := ⟨hP, gw_A hD0, va_S.rf⟩
  have hl := lv_entry ([.ref (ad 0), .int (iI (v))]) (n := 2) (Nat.le_of_ble_eq_true rfl)
  rw [lg_entry_eq]
  generalize (lg_sl ([.ref (ad 0), .int (iI (v))]) ++ List.replicate (2 - (lg_sl ([.ref (ad 0), .int (iI (v))])).length) Slot.unset).toArray = ls at hl ⊢
  have hl : lv_has ls 2 [(0, .ref (ad 0)), (1, .int (iI (v)))] := hl
  have hin6 : ∀ w ∈ u_ws RX6 TX6 25, w ∈ wsX6_pass := by decide +kernel
  have L_153 := hts (.constant RX6 153 (1000000)) (by decide +kernel)
  have L_75 := hts (.fieldLink RX6 75 "CrossbarryModel" "thrown" "I") (by decide +kernel)
  have L_92 := hts (.fieldLink RX6 92 "CrossbarryModel" "now" "I") (by decide +kernel)
  have hmn := gI_14 hI 0 0
  refine lv_aload_n hx hb dX6_pass_0 rfl (lv_at hl 0 rfl) ?_
  have hlab32 : ∀ (t : Int) (H : Heap) (locs : List Loc) (ls : Array Slot), (t = (kPass st v)) →  GH D cy ad n st (gA n ad s.heap.size) s.heap H locs → lv_has ls 2 [(0, .ref (ad 0)), (1, .int (iI (v)))] → W p l e (headSpec wsX6_pass { frames := 1, cells := 0, slots := 0, locals := 22 }).room s m (#[.ref (ad 0), .int (iI (v))] : Array Value) below meth c H locs 0 0 (MQ below (va_Qi (fun (r : Int32) (st' : St) => r = iI (aPass st v) ∧ st' = sPass st v ∧ GI wb st') (gP D cy ad n) (gA n ad s.heap.size)) (#[.ref (ad 0), .int (iI (v))] : Array Value) s 0 0 (gA n ad s.heap.size)) (F0 m 32 ls [.int (iI (t)), .ref (ad 0)]) := by
    intro t H locs ls ht hG hl
    have hks := kPass_s st v
    refine g_put hx hb hts hin6 tyX6 tyX6_ok nmX6 hown hK hG (key := 0) (by omega) (gC_0 st ad cy) rfl 0 (by decide) L_75 (fun _ h9 => h9) rfl (ty := .int) (by decide +kernel) rfl rfl (Nat.le_of_ble_eq_true rfl) dX6_pass_32 (ust st 0 0 0 (t)) (fun j _ => gU_0 st ad cy (t) j) (fun H locs hG => ?_)
    obtain ⟨st1, hst1⟩ : ∃ z : St, z = ust st 0 (0) (0) (t) := ⟨_, rfl⟩
    rw [← hst1] at hG
    replace hI := hst1 ▸ gIu_0 hI (0) (0) (v := t) (by omega)
    refine lv_aload_n hx hb dX6_pass_35 rfl (lv_at hl 0 rfl) ?_
    refine g_get hx hb hts hin6 hown hK hG (key := 0) (by omega) (gC_0 st1 ad cy) rfl 0 (by decide) L_75 (fun _ h9 => h9) rfl dX6_pass_36 ?_
    have hr2 := gI_0 hI (0) (0)
    have kq3 : st1 0 (0) (0) = t := by rw [hst1, ust_s]
    rw [kq3] at hr2
    refine r_as kq3 ?_
    clear kq3
    refine r_if_le (tgt := 44) hx hb (by omega) dX6_pass_39 (by decide) (fun c4 => ?_) (fun c4 => ?_)
    · skip
      refine lv_aload_n hx hb dX6_pass_44 rfl (lv_at hl 0 rfl) ?_
      refine lv_dup hx hb dX6_pass_45 rfl ?_
      refine g_get hx hb hts hin6 hown hK hG (key := 0) (by omega) (gC_0 st1 ad cy) rfl 1 (by decide) L_92 (fun _ h9 => h9) rfl dX6_pass_46 ?_
      have hr5 := gI_1 hI (0) (0)
      have kq6 : st1 1 (0) (0) = st 1 (0) (0) := by rw [hst1, ust_c (by decide)]
      rw [kq6] at hr5
      refine r_as kq6 ?_
      clear kq6
      refine r_nm (fun v7 ev7 => ?_)
      rw [← ev7] at hr5
      refine lv_iload_n hx hb dX6_pass_49 rfl (lv_at hl 1 rfl) ?_
      refine r_iadd hx hb dX6_pass_50 ?_
      refine r_nm (fun v8 ev8 => ?_)
      refine g_put hx hb hts hin6 tyX6 tyX6_ok nmX6 hown hK hG (key := 0) (by omega) (gC_0 st1 ad cy) rfl 1 (by decide) L_92 (fun _ h9 => h9) rfl (ty := .int) (by decide +kernel) rfl rfl (Nat.le_of_ble_eq_true rfl) dX6_pass_51 (ust st1 1 0 0 (v8)) (fun j _ => gU_1 st1 ad cy (v8) j) (fun H locs hG => ?_)
      obtain ⟨st9, hst9⟩ : ∃ z : St, z = ust st1 1 (0) (0) (v8) := ⟨_, rfl⟩
      rw [← hst9] at hG
      replace hI := hst9 ▸ gIu_1 hI (0) (0) (v := v8) (by omega)
      refine lv_aload_n hx hb dX6_pass_54 rfl (lv_at hl 0 rfl) ?_
      refine g_get hx hb hts hin6 hown hK hG (key := 0) (by omega) (gC_0 st9 ad cy) rfl 1 (by decide) L_92 (fun _ h9 => h9) rfl dX6_pass_55 ?_
      have hr10 := gI_1 hI (0) (0)
      have kq11 : st9 1 (0) (0) = v8 := by rw [hst9, ust_s]
      rw [kq11] at hr10
      refine r_as kq11 ?_
      clear kq11
      exact g_iret hx hb hr hlocks hG (by
        have hz := ht
        first
          | (refine ⟨?_, ?_, hI⟩
             · congr 1; unfold aPass; rw [if_neg (by omega)]
             · unfold sPass; rw [if_neg (by omega), ← ht]; assumption)
          | (refine ⟨?_, ?_, hI⟩
             · congr 1; unfold aPass; rw [if_pos (by omega)]; first | omega | (subst_vars; rfl)
             · unfold sPass; rw [if_pos (by omega), ← ht]; subst_vars; rfl)) dX6_pass_58
    · skip
      refine lv_iconst (v := iI (0)) hx hb dX6_pass_42 rfl ?_
      exact g_iret hx hb hr hlocks hG (by
        have hz := ht
        first
          | (refine ⟨?_, ?_, hI⟩
             · congr 1; unfold aPass; rw [if_neg (by omega)]
             · unfold sPass; rw [if_neg (by omega), ← ht]; assumption)
          | (refine ⟨?_, ?_, hI⟩
             · congr 1; unfold aPass; rw [if_pos (by omega)]; first | omega | (subst_vars; rfl)
             · unfold sPass; rw [if_pos (by omega), ← ht]; subst_vars; rfl)) dX6_pass_43
  refine lv_iload_n hx hb dX6_pass_1 rfl (lv_at hl 1 rfl) ?_
  refine lv_iconst (v := iI (1)) hx hb dX6_pass_2 rfl ?_
  refine lv_sipush (v := iI (10000)) hx hb dX6_pass_3 (by decide +kernel) ?_
  refine g_goi hG hA (va_runS (As := [.int (iI (v)), .int (iI (1)), .int (iI (10000))]) (rest := [.ref (ad 0)]) ⟨hx, hb, hml, hown, hts⟩ (mX6_in l D cy ad n st _ fz wb hn hI (by omega) (v) (1) (10000) (by omega) (by omega) (by omega)) (va_cwS 3 hts gX6_pass_X6_in rfl rfl rfl (by decide +kernel) ⟨Nat.le_of_ble_eq_true rfl, Nat.le_of_ble_eq_true rfl⟩) ⟨g_blind, g_pre hK hG hA hN hZ⟩ rfl rfl hl.1 rfl (lv_room (Nat.le_of_ble_eq_true rfl)) dX6_pass_6 ⟨Nat.zero_le _, Nat.zero_le _⟩) (fun r9 s9 H locs hp hG => ?_)
  obtain ⟨rfl, hs9⟩ := hp
  rw [hs9] at hG
  clear hs9
  refine r_nm (fun v12 ev12 => ?_)
  have hr13 := inF_s (v) (1) (10000)
  rw [← ev12] at hr13
  refine r_if_ne (tgt := 16) hx hb (by omega) dX6_pass_9 (by decide) (fun c14 => ?_) (fun c14 => ?_)
  · skip
    refine lv_aload_n hx hb dX6_pass_16 rfl (lv_at hl 0 rfl) ?_
    refine g_get hx hb hts hin6 hown hK hG (key := 0) (by omega) (gC_0 st ad cy) rfl 1 (by decide) L_92 (fun _ h9 => h9) rfl dX6_pass_17 ?_
    have hr15 := gI_1 hI (0) (0)
    refine r_nm (fun v16 ev16 => ?_)
    rw [← ev16] at hr15
    refine lv_iload_n hx hb dX6_pass_20 rfl (lv_at hl 1 rfl) ?_
    refine r_iadd hx hb dX6_pass_21 ?_
    refine r_nm (fun v17 ev17 => ?_)
    refine lv_ldc hx hb hown L_153 dX6_pass_22 ?_
    refine r_asI (y := 1000000) (by decide +kernel) ?_
    refine r_icmp_le (tgt := 31) hx hb (by omega) dX6_pass_24 (by decide) (fun c18 => ?_) (fun c18 => ?_)
    · skip
      refine lv_iconst (v := iI (0)) hx hb dX6_pass_31 rfl ?_
      exact hlab32 (0)  _ _ _ (by have hks := kPass_s st v; omega) hG (lv_sub hl [0, 1] rfl)
    · skip
      refine lv_iconst (v := iI (2)) hx hb dX6_pass_27 rfl ?_
      refine lv_goto (tgt := 32) hx hb dX6_pass_28 (by decide) ?_
      exact hlab32 (2)  _ _ _ (by have hks := kPass_s st v; omega) hG (lv_sub hl [0, 1] rfl)
  · skip
    refine lv_iconst (v := iI (1)) hx hb dX6_pass_12 rfl ?_
    refine lv_goto (tgt := 32) hx hb dX6_pass_13 (by decide) ?_
    exact hlab32 (1)  _ _ _ (by have hks := kPass_s st v; omega) hG (lv_sub hl [0, 1] rfl)
set_option maxHeartbeats 400000 in
set_option maxRecDepth 100000 in
theorem mX6_converter (l : Launch) (D : va_G) (cy : Nat → ClassId) (ad : Nat → Nat) (n : Nat) (st : St) (sz fz : Nat) (wb : Int) (hn : 75 ≤ n) (hI : GI wb st) (hW : wb ≤ 2000000) (t0 : Int) (a : Int) (b : Int) (ht0 : -2147483648 ≤ t0 ∧ t0 < 2147483648) (ha : -2147483648 ≤ a ∧ a < 2147483648) (hb : -2147483648 ≤ b ∧ b < 2147483648) : Met l yX6_converter wsX6_converter ({ frames := 2, cells := 0, slots := 0, locals := 42 }) (va_Pc [.ref (ad 0), .int (iI (t0)), .int (iI (a)), .int (iI (b))] (gB D cy ad n st sz fz)) (va_Qi (fun (r : Int32) (st' : St) => r = iI (aConv st t0 a b) ∧ st' = sConv st t0 a b ∧ GI wb st') (gP D cy ad n) (gA n ad sz)) 0 0 (gA n ad sz) := by
  refine Met.ofW (cc := cX6_converter) (maxL := 5) (ret := (some .int)) (by decide) rfl ?_
  intro p e s m args below meth c s₁ B hml hv
  obtain ⟨rfl, hsz, hP, hK, hD0, hN, hZ⟩ := hv
  have hx := B.exec
  have hb := B.bytes
  have hr := B.returns
  have hts := atoms_spec (ws := wsX6_converter) B.pre
  have hown : s.vm.findClass RX6 = some m.cls := findClass_of_methodNamed B.named
  have hlocks := B.notSynchronized
  subst hsz
  have hA : ∀ q : Nat, s.heap.size ≤ q → gA n ad s.heap.size q := fun q h => Or.inr h
  have hG : GH D cy ad n st (gA n ad s.heap.size) s.heap s.heap [] := ⟨hP, gw_A hD0, va_S.rf⟩
  have hl := lv_entry ([.ref (ad 0), .int (iI (t0)), .int (iI (a)), .int (iI (b))]) (n := 5) (Nat.le_of_ble_eq_true rfl)
  rw [lg_entry_eq]
  generalize (lg_sl ([.ref (ad 0), .int (iI (t0)), .int (iI (a)), .int (iI (b))]) ++ List.replicate (5 - (lg_sl ([.ref (ad 0), .int (iI (t0)), .int (iI (a)), .int (iI (b))])).length) Slot.unset).toArray = ls at hl ⊢
  have hl : lv_has ls 5 [(0, .ref (ad 0)), (1, .int (iI (t0))), (2, .int (iI (a))), (3, .int (iI (b)))] := hl
  have hin6 : ∀ w ∈ u_ws RX6 TX6 25, w ∈ wsX6_converter := by decide +kernel
  have L_30 := hts (.fieldLink RX6 30 "CrossbarryModel" "steps" "[I") (by decide +kernel)
  have L_33 := hts (.fieldLink RX6 33 "CrossbarryModel" "tops" "[I") (by decide +kernel)
  have L_75 := hts (.fieldLink RX6 75 "CrossbarryModel" "thrown" "I") (by decide +kernel)
  have hmn := gI_14 hI 0 0
  refine lv_aload_n hx hb dX6_converter_0 rfl (lv_at hl 0 rfl) ?_
  have hlab37 : ∀ (t : Int) (H : Heap) (locs : List Loc) (ls : Array Slot), (t = (kConv t0 a b)) →  GH D cy ad n st (gA n ad s.heap.size) s.heap H locs → lv_has ls 5 [(0, .ref (ad 0)), (1, .int (iI (t0))), (2, .int (iI (a))), (3, .int (iI (b)))] → W p l e (headSpec wsX6_converter { frames := 2, cells := 0, slots := 0, locals := 42 }).room s m (#[.ref (ad 0), .int (iI (t0)), .int (iI (a)), .int (iI (b))] : Array Value) below meth c H locs 0 0 (MQ below (va_Qi (fun (r : Int32) (st' : St) => r = iI (aConv st t0 a b) ∧ st' = sConv st t0 a b ∧ GI wb st') (gP D cy ad n) (gA n ad s.heap.size)) (#[.ref (ad 0), .int (iI (t0)), .int (iI (a)), .int (iI (b))] : Array Value) s 0 0 (gA n ad s.heap.size)) (F0 m 37 ls [.int (iI (t)), .ref (ad 0)]) := by
    intro t H locs ls ht hG hl
    have hks := kConv_s t0 a b
    refine g_put hx hb hts hin6 tyX6 tyX6_ok nmX6 hown hK hG (key := 0) (by omega) (gC_0 st ad cy) rfl 0 (by decide) L_75 (fun _ h9 => h9) rfl (ty := .int) (by decide +kernel) rfl rfl (Nat.le_of_ble_eq_true rfl) dX6_converter_37 (ust st 0 0 0 (t)) (fun j _ => gU_0 st ad cy (t) j) (fun H locs hG => ?_)
    obtain ⟨st1, hst1⟩ : ∃ z : St, z = ust st 0 (0) (0) (t) := ⟨_, rfl⟩
    rw [← hst1] at hG
    replace hI := hst1 ▸ gIu_0 hI (0) (0) (v := t) (by omega)
    refine lv_aload_n hx hb dX6_converter_40 rfl (lv_at hl 0 rfl) ?_
    refine g_get hx hb hts hin6 hown hK hG (key := 0) (by omega) (gC_0 st1 ad cy) rfl 0 (by decide) L_75 (fun _ h9 => h9) rfl dX6_converter_41 ?_
    have hr2 := gI_0 hI (0) (0)
    have kq3 : st1 0 (0) (0) = t := by rw [hst1, ust_s]
    rw [kq3] at hr2
    refine r_as kq3 ?_
    clear kq3
    refine r_if_le (tgt := 49) hx hb (by omega) dX6_converter_44 (by decide) (fun c4 => ?_) (fun c4 => ?_)
    · skip
      refine lv_sipush (v := iI (1000)) hx hb dX6_converter_49 (by decide +kernel) ?_
      refine lv_aload_n hx hb dX6_converter_52 rfl (lv_at hl 0 rfl) ?_
      refine g_get hx hb hts hin6 hown hK hG (key := 0) (by omega) (gC_0 st1 ad cy) rfl 9 (by decide) L_30 (fun _ h9 => h9) rfl dX6_converter_53 ?_
      refine lv_iload_n hx hb dX6_converter_56 rfl (lv_at hl 1 rfl) ?_
      refine g_iald hx hb hK hG (6) (kd := 6) (o := 0) rfl rfl (by omega) (cp := 9) (ln := 6) rfl rfl (by omega) dX6_converter_57 ?_
      have hr5 := gI_9 hI (0) (t0)
      have kq6 : st1 9 (0) (t0) = st 9 (0) (t0) := by rw [hst1, ust_c (by decide)]
      rw [kq6] at hr5
      refine r_as kq6 ?_
      clear kq6
      refine r_nm (fun v7 ev7 => ?_)
      rw [← ev7] at hr5
      refine r_imul hx hb dX6_converter_58 ?_
      refine r_nm (fun v8 ev8 => ?_)
      refine lv_aload_n hx hb dX6_converter_59 rfl (lv_at hl 0 rfl) ?_
      refine g_get hx hb hts hin6 hown hK hG (key := 0) (by omega) (gC_0 st1 ad cy) rfl 10 (by decide) L_33 (fun _ h9 => h9) rfl dX6_converter_60 ?_
      refine lv_iload_n hx hb dX6_converter_63 rfl (lv_at hl 1 rfl) ?_
      refine g_iald hx hb hK hG (7) (kd := 7) (o := 0) rfl rfl (by omega) (cp := 10) (ln := 6) rfl rfl (by omega) dX6_converter_64 ?_
      have hr9 := gI_10 hI (0) (t0)
      have kq10 : st1 10 (0) (t0) = st 10 (0) (t0) := by rw [hst1, ust_c (by decide)]
      rw [kq10] at hr9
      refine r_as kq10 ?_
      clear kq10
      refine r_nm (fun v11 ev11 => ?_)
      rw [← ev11] at hr9
      refine r_iadd hx hb dX6_converter_65 ?_
      refine r_nm (fun v12 ev12 => ?_)
      refine lv_istore (lv' := [(4, .int (iI (v12))), (0, .ref (ad 0)), (1, .int (iI (t0))), (2, .int (iI (a))), (3, .int (iI (b)))]) hx hb dX6_converter_66 hl (by decide) rfl (fun ls hl => ?_)
      refine lv_aload_n hx hb dX6_converter_68 rfl (lv_at hl 1 rfl) ?_
      refine g_get hx hb hts hin6 hown hK hG (key := 0) (by omega) (gC_0 st1 ad cy) rfl 9 (by decide) L_30 (fun _ h9 => h9) rfl dX6_converter_69 ?_
      refine lv_iload_n hx hb dX6_converter_72 rfl (lv_at hl 2 rfl) ?_
      refine lv_iload_n hx hb dX6_converter_73 rfl (lv_at hl 3 rfl) ?_
      refine g_iast hx hb hK hG (6) (kd := 6) (o := 0) rfl rfl (by omega) (cp := 9) (ln := 6) rfl rfl (by omega) dX6_converter_74 (fun H locs hG => ?_)
      obtain ⟨st13, hst13⟩ : ∃ z : St, z = ust st1 9 (0) (t0) (a) := ⟨_, rfl⟩
      rw [← hst13] at hG
      replace hI := hst13 ▸ gIu_9 hI (0) (t0) (v := a) (by omega)
      refine lv_aload_n hx hb dX6_converter_75 rfl (lv_at hl 1 rfl) ?_
      refine g_get hx hb hts hin6 hown hK hG (key := 0) (by omega) (gC_0 st13 ad cy) rfl 10 (by decide) L_33 (fun _ h9 => h9) rfl dX6_converter_76 ?_
      refine lv_iload_n hx hb dX6_converter_79 rfl (lv_at hl 2 rfl) ?_
      refine lv_iload_n hx hb dX6_converter_80 rfl (lv_at hl 4 rfl) ?_
      refine g_iast hx hb hK hG (7) (kd := 7) (o := 0) rfl rfl (by omega) (cp := 10) (ln := 6) rfl rfl (by omega) dX6_converter_81 (fun H locs hG => ?_)
      obtain ⟨st14, hst14⟩ : ∃ z : St, z = ust st13 10 (0) (t0) (b) := ⟨_, rfl⟩
      rw [← hst14] at hG
      replace hI := hst14 ▸ gIu_10 hI (0) (t0) (v := b) (by omega)
      refine lv_iload hx hb dX6_converter_82 (lv_at hl 0 rfl) ?_
      exact g_iret hx hb hr hlocks hG (by
        have hz := ht
        first
          | (refine ⟨?_, ?_, hI⟩
             · congr 1; unfold aConv; rw [if_neg (by omega)]
             · unfold sConv; rw [if_neg (by omega), ← ht]; assumption)
          | (refine ⟨?_, ?_, hI⟩
             · congr 1; unfold aConv; rw [if_pos (by omega)]; first | omega | (subst_vars; rfl)
             · unfold sConv; rw [if_pos (by omega), ← ht]; subst_vars; rfl)) dX6_converter_84
    · skip
      refine lv_iconst (v := iI (0)) hx hb dX6_converter_47 rfl ?_
      exact g_iret hx hb hr hlocks hG (by
        have hz := ht
        first
          | (refine ⟨?_, ?_, hI⟩
             · congr 1; unfold aConv; rw [if_neg (by omega)]
             · unfold sConv; rw [if_neg (by omega), ← ht]; assumption)
          | (refine ⟨?_, ?_, hI⟩
             · congr 1; unfold aConv; rw [if_pos (by omega)]; first | omega | (subst_vars; rfl)
             · unfold sConv; rw [if_pos (by omega), ← ht]; subst_vars; rfl)) dX6_converter_48
  refine lv_iload_n hx hb dX6_converter_1 rfl (lv_at hl 1 rfl) ?_
  refine g_goi hG hA (va_runS (As := [.int (iI (t0))]) (rest := [.ref (ad 0)]) ⟨hx, hb, hml, hown, hts⟩ (mX6_isTile l D cy ad n st _ fz wb hn hI (by omega) (t0) (by omega)) (va_cwS 1 hts gX6_converter_X6_isTile rfl rfl rfl (by decide +kernel) ⟨Nat.le_of_ble_eq_true rfl, Nat.le_of_ble_eq_true rfl⟩) ⟨g_blind, g_pre hK hG hA hN hZ⟩ rfl rfl hl.1 rfl (lv_room (Nat.le_of_ble_eq_true rfl)) dX6_converter_2 ⟨Nat.zero_le _, Nat.zero_le _⟩) (fun r9 s9 H locs hp hG => ?_)
  obtain ⟨rfl, hs9⟩ := hp
  rw [hs9] at hG
  clear hs9
  refine r_nm (fun v15 ev15 => ?_)
  have hr16 := inF_s (t0) 0 5
  rw [← ev15] at hr16
  refine r_if_ne (tgt := 12) hx hb (by omega) dX6_converter_5 (by decide) (fun c17 => ?_) (fun c17 => ?_)
  · skip
    refine lv_iload_n hx hb dX6_converter_12 rfl (lv_at hl 2 rfl) ?_
    refine lv_iconst (v := iI (1)) hx hb dX6_converter_13 rfl ?_
    refine lv_bipush (v := iI (16)) hx hb dX6_converter_14 (by decide +kernel) ?_
    refine g_goi hG hA (va_runS (As := [.int (iI (a)), .int (iI (1)), .int (iI (16))]) (rest := [.ref (ad 0)]) ⟨hx, hb, hml, hown, hts⟩ (mX6_in l D cy ad n st _ fz wb hn hI (by omega) (a) (1) (16) (by omega) (by omega) (by omega)) (va_cwS 3 hts gX6_converter_X6_in rfl rfl rfl (by decide +kernel) ⟨Nat.le_of_ble_eq_true rfl, Nat.le_of_ble_eq_true rfl⟩) ⟨g_blind, g_pre hK hG hA hN hZ⟩ rfl rfl hl.1 rfl (lv_room (Nat.le_of_ble_eq_true rfl)) dX6_converter_16 ⟨Nat.zero_le _, Nat.zero_le _⟩) (fun r9 s9 H locs hp hG => ?_)
    obtain ⟨rfl, hs9⟩ := hp
    rw [hs9] at hG
    clear hs9
    refine r_nm (fun v18 ev18 => ?_)
    have hr19 := inF_s (a) (1) (16)
    rw [← ev18] at hr19
    refine r_if_eq (tgt := 36) hx hb (by omega) dX6_converter_19 (by decide) (fun c20 => ?_) (fun c20 => ?_)
    · skip
      refine lv_iconst (v := iI (2)) hx hb dX6_converter_36 rfl ?_
      exact hlab37 (2)  _ _ _ (by have hks := kConv_s t0 a b; omega) hG (lv_sub hl [0, 1, 2, 3] rfl)
    · skip
      refine lv_iload_n hx hb dX6_converter_22 rfl (lv_at hl 3 rfl) ?_
      refine lv_iconst (v := iI (1)) hx hb dX6_converter_23 rfl ?_
      refine lv_bipush (v := iI (127)) hx hb dX6_converter_24 (by decide +kernel) ?_
      refine g_goi hG hA (va_runS (As := [.int (iI (b)), .int (iI (1)), .int (iI (127))]) (rest := [.ref (ad 0)]) ⟨hx, hb, hml, hown, hts⟩ (mX6_in l D cy ad n st _ fz wb hn hI (by omega) (b) (1) (127) (by omega) (by omega) (by omega)) (va_cwS 3 hts gX6_converter_X6_in rfl rfl rfl (by decide +kernel) ⟨Nat.le_of_ble_eq_true rfl, Nat.le_of_ble_eq_true rfl⟩) ⟨g_blind, g_pre hK hG hA hN hZ⟩ rfl rfl hl.1 rfl (lv_room (Nat.le_of_ble_eq_true rfl)) dX6_converter_26 ⟨Nat.zero_le _, Nat.zero_le _⟩) (fun r9 s9 H locs hp hG => ?_)
      obtain ⟨rfl, hs9⟩ := hp
      rw [hs9] at hG
      clear hs9
      refine r_nm (fun v21 ev21 => ?_)
      have hr22 := inF_s (b) (1) (127)
      rw [← ev21] at hr22
      refine r_if_eq (tgt := 36) hx hb (by omega) dX6_converter_29 (by decide) (fun c23 => ?_) (fun c23 => ?_)
      · skip
        refine lv_iconst (v := iI (2)) hx hb dX6_converter_36 rfl ?_
        exact hlab37 (2)  _ _ _ (by have hks := kConv_s t0 a b; omega) hG (lv_sub hl [0, 1, 2, 3] rfl)
      · skip
        refine lv_iconst (v := iI (0)) hx hb dX6_converter_32 rfl ?_
        refine lv_goto (tgt := 37) hx hb dX6_converter_33 (by decide) ?_
        exact hlab37 (0)  _ _ _ (by have hks := kConv_s t0 a b; omega) hG (lv_sub hl [0, 1, 2, 3] rfl)
  · skip
    refine lv_iconst (v := iI (1)) hx hb dX6_converter_8 rfl ?_
    refine lv_goto (tgt := 37) hx hb dX6_converter_9 (by decide) ?_
    exact hlab37 (1)  _ _ _ (by have hks := kConv_s t0 a b; omega) hG (lv_sub hl [0, 1, 2, 3] rfl)
set_option maxHeartbeats 400000 in
set_option maxRecDepth 100000 in
theorem mX6_offset (l : Launch) (D : va_G) (cy : Nat → ClassId) (ad : Nat → Nat) (n : Nat) (st : St) (sz fz : Nat) (wb : Int) (hn : 75 ≤ n) (hI : GI wb st) (hW : wb ≤ 2000000) (t0 : Int) (d : Int) (v : Int) (ht0 : -2147483648 ≤ t0 ∧ t0 < 2147483648) (hd : -2147483648 ≤ d ∧ d < 2147483648) (hv : -2147483648 ≤ v ∧ v < 2147483648) : Met l yX6_offset wsX6_offset ({ frames := 2, cells := 0, slots := 0, locals := 42 }) (va_Pc [.ref (ad 0), .int (iI (t0)), .int (iI (d)), .int (iI (v))] (gB D cy ad n st sz fz)) (va_Qi (fun (r : Int32) (st' : St) => r = iI (aOffs st t0 d v) ∧ st' = sOffs st t0 d v ∧ GI wb st') (gP D cy ad n) (gA n ad sz)) 0 0 (gA n ad sz) := by
  refine Met.ofW (cc := cX6_offset) (maxL := 5) (ret := (some .int)) (by decide) rfl ?_
  intro p e s m args below meth c s₁ B hml hv
  obtain ⟨rfl, hsz, hP, hK, hD0, hN, hZ⟩ := hv
  have hx := B.exec
  have hb := B.bytes
  have hr := B.returns
  have hts := atoms_spec (ws := wsX6_offset) B.pre
  have hown : s.vm.findClass RX6 = some m.cls := findClass_of_methodNamed B.named
  have hlocks := B.notSynchronized
  subst hsz
  have hA : ∀ q : Nat, s.heap.size ≤ q → gA n ad s.heap.size q := fun q h => Or.inr h
  have hG : GH D cy ad n st (gA n ad s.heap.size) s.heap s.heap [] := ⟨hP, gw_A hD0, va_S.rf⟩
  have hl := lv_entry ([.ref (ad 0), .int (iI (t0)), .int (iI (d)), .int (iI (v))]) (n := 5) (Nat.le_of_ble_eq_true rfl)
  rw [lg_entry_eq]
  generalize (lg_sl ([.ref (ad 0), .int (iI (t0)), .int (iI (d)), .int (iI (v))]) ++ List.replicate (5 - (lg_sl ([.ref (ad 0), .int (iI (t0)), .int (iI (d)), .int (iI (v))])).length) Slot.unset).toArray = ls at hl ⊢
  have hl : lv_has ls 5 [(0, .ref (ad 0)), (1, .int (iI (t0))), (2, .int (iI (d))), (3, .int (iI (v)))] := hl
  have hin6 : ∀ w ∈ u_ws RX6 TX6 25, w ∈ wsX6_offset := by decide +kernel
  have L_36 := hts (.fieldLink RX6 36 "CrossbarryModel" "offsets" "[I") (by decide +kernel)
  have L_75 := hts (.fieldLink RX6 75 "CrossbarryModel" "thrown" "I") (by decide +kernel)
  have hmn := gI_14 hI 0 0
  refine lv_aload_n hx hb dX6_offset_0 rfl (lv_at hl 0 rfl) ?_
  have hlab37 : ∀ (t : Int) (H : Heap) (locs : List Loc) (ls : Array Slot), (t = (kOffs t0 d v)) →  GH D cy ad n st (gA n ad s.heap.size) s.heap H locs → lv_has ls 5 [(0, .ref (ad 0)), (1, .int (iI (t0))), (2, .int (iI (d))), (3, .int (iI (v)))] → W p l e (headSpec wsX6_offset { frames := 2, cells := 0, slots := 0, locals := 42 }).room s m (#[.ref (ad 0), .int (iI (t0)), .int (iI (d)), .int (iI (v))] : Array Value) below meth c H locs 0 0 (MQ below (va_Qi (fun (r : Int32) (st' : St) => r = iI (aOffs st t0 d v) ∧ st' = sOffs st t0 d v ∧ GI wb st') (gP D cy ad n) (gA n ad s.heap.size)) (#[.ref (ad 0), .int (iI (t0)), .int (iI (d)), .int (iI (v))] : Array Value) s 0 0 (gA n ad s.heap.size)) (F0 m 37 ls [.int (iI (t)), .ref (ad 0)]) := by
    intro t H locs ls ht hG hl
    have hks := kOffs_s t0 d v
    refine g_put hx hb hts hin6 tyX6 tyX6_ok nmX6 hown hK hG (key := 0) (by omega) (gC_0 st ad cy) rfl 0 (by decide) L_75 (fun _ h9 => h9) rfl (ty := .int) (by decide +kernel) rfl rfl (Nat.le_of_ble_eq_true rfl) dX6_offset_37 (ust st 0 0 0 (t)) (fun j _ => gU_0 st ad cy (t) j) (fun H locs hG => ?_)
    obtain ⟨st1, hst1⟩ : ∃ z : St, z = ust st 0 (0) (0) (t) := ⟨_, rfl⟩
    rw [← hst1] at hG
    replace hI := hst1 ▸ gIu_0 hI (0) (0) (v := t) (by omega)
    refine lv_aload_n hx hb dX6_offset_40 rfl (lv_at hl 0 rfl) ?_
    refine g_get hx hb hts hin6 hown hK hG (key := 0) (by omega) (gC_0 st1 ad cy) rfl 0 (by decide) L_75 (fun _ h9 => h9) rfl dX6_offset_41 ?_
    have hr2 := gI_0 hI (0) (0)
    have kq3 : st1 0 (0) (0) = t := by rw [hst1, ust_s]
    rw [kq3] at hr2
    refine r_as kq3 ?_
    clear kq3
    refine r_if_le (tgt := 49) hx hb (by omega) dX6_offset_44 (by decide) (fun c4 => ?_) (fun c4 => ?_)
    · skip
      refine lv_aload_n hx hb dX6_offset_49 rfl (lv_at hl 0 rfl) ?_
      refine g_get hx hb hts hin6 hown hK hG (key := 0) (by omega) (gC_0 st1 ad cy) rfl 11 (by decide) L_36 (fun _ h9 => h9) rfl dX6_offset_50 ?_
      refine lv_bipush (v := iI (16)) hx hb dX6_offset_53 (by decide +kernel) ?_
      refine lv_iload_n hx hb dX6_offset_55 rfl (lv_at hl 1 rfl) ?_
      refine r_imul hx hb dX6_offset_56 ?_
      refine r_nm (fun v5 ev5 => ?_)
      refine lv_iload_n hx hb dX6_offset_57 rfl (lv_at hl 2 rfl) ?_
      refine r_iadd hx hb dX6_offset_58 ?_
      refine r_nm (fun v6 ev6 => ?_)
      refine g_iald hx hb hK hG (8) (kd := 8) (o := 0) rfl rfl (by omega) (cp := 11) (ln := 96) rfl rfl (by omega) dX6_offset_59 ?_
      have hr7 := gI_11 hI (0) (v6)
      have kq8 : st1 11 (0) (v6) = st 11 (0) (v6) := by rw [hst1, ust_c (by decide)]
      rw [kq8] at hr7
      refine r_as kq8 ?_
      clear kq8
      refine r_nm (fun v9 ev9 => ?_)
      rw [← ev9] at hr7
      refine lv_istore (lv' := [(4, .int (iI (v9))), (0, .ref (ad 0)), (1, .int (iI (t0))), (2, .int (iI (d))), (3, .int (iI (v)))]) hx hb dX6_offset_60 hl (by decide) rfl (fun ls hl => ?_)
      refine lv_aload_n hx hb dX6_offset_62 rfl (lv_at hl 1 rfl) ?_
      refine g_get hx hb hts hin6 hown hK hG (key := 0) (by omega) (gC_0 st1 ad cy) rfl 11 (by decide) L_36 (fun _ h9 => h9) rfl dX6_offset_63 ?_
      refine lv_bipush (v := iI (16)) hx hb dX6_offset_66 (by decide +kernel) ?_
      refine lv_iload_n hx hb dX6_offset_68 rfl (lv_at hl 2 rfl) ?_
      refine r_imul hx hb dX6_offset_69 ?_
      refine r_nm (fun v10 ev10 => ?_)
      refine lv_iload_n hx hb dX6_offset_70 rfl (lv_at hl 3 rfl) ?_
      refine r_iadd hx hb dX6_offset_71 ?_
      refine r_nm (fun v11 ev11 => ?_)
      refine lv_iload_n hx hb dX6_offset_72 rfl (lv_at hl 4 rfl) ?_
      refine g_iast hx hb hK hG (8) (kd := 8) (o := 0) rfl rfl (by omega) (cp := 11) (ln := 96) rfl rfl (by omega) dX6_offset_73 (fun H locs hG => ?_)
      obtain ⟨st12, hst12⟩ : ∃ z : St, z = ust st1 11 (0) (v11) (v) := ⟨_, rfl⟩
      rw [← hst12] at hG
      replace hI := hst12 ▸ gIu_11 hI (0) (v11) (v := v) (by omega)
      refine lv_iload hx hb dX6_offset_74 (lv_at hl 0 rfl) ?_
      exact g_iret hx hb hr hlocks hG (by
        have hz := ht
        first
          | (refine ⟨?_, ?_, hI⟩
             · congr 1; unfold aOffs; rw [if_neg (by omega)]
             · unfold sOffs; rw [if_neg (by omega), ← ht]; assumption)
          | (refine ⟨?_, ?_, hI⟩
             · congr 1; unfold aOffs; rw [if_pos (by omega)]; first | omega | (subst_vars; rfl)
             · unfold sOffs; rw [if_pos (by omega), ← ht]; subst_vars; rfl)) dX6_offset_76
    · skip
      refine lv_iconst (v := iI (0)) hx hb dX6_offset_47 rfl ?_
      exact g_iret hx hb hr hlocks hG (by
        have hz := ht
        first
          | (refine ⟨?_, ?_, hI⟩
             · congr 1; unfold aOffs; rw [if_neg (by omega)]
             · unfold sOffs; rw [if_neg (by omega), ← ht]; assumption)
          | (refine ⟨?_, ?_, hI⟩
             · congr 1; unfold aOffs; rw [if_pos (by omega)]; first | omega | (subst_vars; rfl)
             · unfold sOffs; rw [if_pos (by omega), ← ht]; subst_vars; rfl)) dX6_offset_48
  refine lv_iload_n hx hb dX6_offset_1 rfl (lv_at hl 1 rfl) ?_
  refine g_goi hG hA (va_runS (As := [.int (iI (t0))]) (rest := [.ref (ad 0)]) ⟨hx, hb, hml, hown, hts⟩ (mX6_isTile l D cy ad n st _ fz wb hn hI (by omega) (t0) (by omega)) (va_cwS 1 hts gX6_offset_X6_isTile rfl rfl rfl (by decide +kernel) ⟨Nat.le_of_ble_eq_true rfl, Nat.le_of_ble_eq_true rfl⟩) ⟨g_blind, g_pre hK hG hA hN hZ⟩ rfl rfl hl.1 rfl (lv_room (Nat.le_of_ble_eq_true rfl)) dX6_offset_2 ⟨Nat.zero_le _, Nat.zero_le _⟩) (fun r9 s9 H locs hp hG => ?_)
  obtain ⟨rfl, hs9⟩ := hp
  rw [hs9] at hG
  clear hs9
  refine r_nm (fun v13 ev13 => ?_)
  have hr14 := inF_s (t0) 0 5
  rw [← ev13] at hr14
  refine r_if_eq (tgt := 18) hx hb (by omega) dX6_offset_5 (by decide) (fun c15 => ?_) (fun c15 => ?_)
  · skip
    refine lv_iconst (v := iI (1)) hx hb dX6_offset_18 rfl ?_
    refine lv_goto (tgt := 37) hx hb dX6_offset_19 (by decide) ?_
    exact hlab37 (1)  _ _ _ (by have hks := kOffs_s t0 d v; omega) hG (lv_sub hl [0, 1, 2, 3] rfl)
  · skip
    refine lv_iload_n hx hb dX6_offset_8 rfl (lv_at hl 2 rfl) ?_
    refine lv_iconst (v := iI (0)) hx hb dX6_offset_9 rfl ?_
    refine lv_bipush (v := iI (15)) hx hb dX6_offset_10 (by decide +kernel) ?_
    refine g_goi hG hA (va_runS (As := [.int (iI (d)), .int (iI (0)), .int (iI (15))]) (rest := [.ref (ad 0)]) ⟨hx, hb, hml, hown, hts⟩ (mX6_in l D cy ad n st _ fz wb hn hI (by omega) (d) (0) (15) (by omega) (by omega) (by omega)) (va_cwS 3 hts gX6_offset_X6_in rfl rfl rfl (by decide +kernel) ⟨Nat.le_of_ble_eq_true rfl, Nat.le_of_ble_eq_true rfl⟩) ⟨g_blind, g_pre hK hG hA hN hZ⟩ rfl rfl hl.1 rfl (lv_room (Nat.le_of_ble_eq_true rfl)) dX6_offset_12 ⟨Nat.zero_le _, Nat.zero_le _⟩) (fun r9 s9 H locs hp hG => ?_)
    obtain ⟨rfl, hs9⟩ := hp
    rw [hs9] at hG
    clear hs9
    refine r_nm (fun v16 ev16 => ?_)
    have hr17 := inF_s (d) (0) (15)
    rw [← ev16] at hr17
    refine r_if_ne (tgt := 22) hx hb (by omega) dX6_offset_15 (by decide) (fun c18 => ?_) (fun c18 => ?_)
    · skip
      refine lv_iload_n hx hb dX6_offset_22 rfl (lv_at hl 3 rfl) ?_
      refine lv_bipush (v := iI (-3)) hx hb dX6_offset_23 (by decide +kernel) ?_
      refine lv_iconst (v := iI (3)) hx hb dX6_offset_25 rfl ?_
      refine g_goi hG hA (va_runS (As := [.int (iI (v)), .int (iI (-3)), .int (iI (3))]) (rest := [.ref (ad 0)]) ⟨hx, hb, hml, hown, hts⟩ (mX6_in l D cy ad n st _ fz wb hn hI (by omega) (v) (-3) (3) (by omega) (by omega) (by omega)) (va_cwS 3 hts gX6_offset_X6_in rfl rfl rfl (by decide +kernel) ⟨Nat.le_of_ble_eq_true rfl, Nat.le_of_ble_eq_true rfl⟩) ⟨g_blind, g_pre hK hG hA hN hZ⟩ rfl rfl hl.1 rfl (lv_room (Nat.le_of_ble_eq_true rfl)) dX6_offset_26 ⟨Nat.zero_le _, Nat.zero_le _⟩) (fun r9 s9 H locs hp hG => ?_)
      obtain ⟨rfl, hs9⟩ := hp
      rw [hs9] at hG
      clear hs9
      refine r_nm (fun v19 ev19 => ?_)
      have hr20 := inF_s (v) (-3) (3)
      rw [← ev19] at hr20
      refine r_if_eq (tgt := 36) hx hb (by omega) dX6_offset_29 (by decide) (fun c21 => ?_) (fun c21 => ?_)
      · skip
        refine lv_iconst (v := iI (2)) hx hb dX6_offset_36 rfl ?_
        exact hlab37 (2)  _ _ _ (by have hks := kOffs_s t0 d v; omega) hG (lv_sub hl [0, 1, 2, 3] rfl)
      · skip
        refine lv_iconst (v := iI (0)) hx hb dX6_offset_32 rfl ?_
        refine lv_goto (tgt := 37) hx hb dX6_offset_33 (by decide) ?_
        exact hlab37 (0)  _ _ _ (by have hks := kOffs_s t0 d v; omega) hG (lv_sub hl [0, 1, 2, 3] rfl)
    · skip
      refine lv_iconst (v := iI (1)) hx hb dX6_offset_18 rfl ?_
      refine lv_goto (tgt := 37) hx hb dX6_offset_19 (by decide) ?_
      exact hlab37 (1)  _ _ _ (by have hks := kOffs_s t0 d v; omega) hG (lv_sub hl [0, 1, 2, 3] rfl)
set_option maxHeartbeats 400000 in
set_option maxRecDepth 100000 in
theorem mX6_converters (l : Launch) (D : va_G) (cy : Nat → ClassId) (ad : Nat → Nat) (n : Nat) (st : St) (sz fz : Nat) (wb : Int) (hn : 75 ≤ n) (hI : GI wb st) (hW : wb ≤ 2000000) (t0 : Int) (v : Int) (ht0 : -2147483648 ≤ t0 ∧ t0 < 2147483648) (hv : -2147483648 ≤ v ∧ v < 2147483648) : Met l yX6_converters wsX6_converters ({ frames := 2, cells := 0, slots := 0, locals := 42 }) (va_Pc [.ref (ad 0), .int (iI (t0)), .int (iI (v))] (gB D cy ad n st sz fz)) (va_Qi (fun (r : Int32) (st' : St) => r = iI (aMany st t0 v) ∧ st' = sMany st t0 v ∧ GI wb st') (gP D cy ad n) (gA n ad sz)) 0 0 (gA n ad sz) := by
  refine Met.ofW (cc := cX6_converters) (maxL := 4) (ret := (some .int)) (by decide) rfl ?_
  intro p e s m args below meth c s₁ B hml hv
  obtain ⟨rfl, hsz, hP, hK, hD0, hN, hZ⟩ := hv
  have hx := B.exec
  have hb := B.bytes
  have hr := B.returns
  have hts := atoms_spec (ws := wsX6_converters) B.pre
  have hown : s.vm.findClass RX6 = some m.cls := findClass_of_methodNamed B.named
  have hlocks := B.notSynchronized
  subst hsz
  have hA : ∀ q : Nat, s.heap.size ≤ q → gA n ad s.heap.size q := fun q h => Or.inr h
  have hG : GH D cy ad n st (gA n ad s.heap.size) s.heap s.heap [] := ⟨hP, gw_A hD0, va_S.rf⟩
  have hl := lv_entry ([.ref (ad 0), .int (iI (t0)), .int (iI (v))]) (n := 4) (Nat.le_of_ble_eq_true rfl)
  rw [lg_entry_eq]
  generalize (lg_sl ([.ref (ad 0), .int (iI (t0)), .int (iI (v))]) ++ List.replicate (4 - (lg_sl ([.ref (ad 0), .int (iI (t0)), .int (iI (v))])).length) Slot.unset).toArray = ls at hl ⊢
  have hl : lv_has ls 4 [(0, .ref (ad 0)), (1, .int (iI (t0))), (2, .int (iI (v)))] := hl
  have hin6 : ∀ w ∈ u_ws RX6 TX6 25, w ∈ wsX6_converters := by decide +kernel
  have L_42 := hts (.fieldLink RX6 42 "CrossbarryModel" "converterMany" "[I") (by decide +kernel)
  have L_75 := hts (.fieldLink RX6 75 "CrossbarryModel" "thrown" "I") (by decide +kernel)
  have hmn := gI_14 hI 0 0
  refine lv_aload_n hx hb dX6_converters_0 rfl (lv_at hl 0 rfl) ?_
  have hlab44 : ∀ (t : Int) (H : Heap) (locs : List Loc) (ls : Array Slot), (t = (kMany t0 v)) →  GH D cy ad n st (gA n ad s.heap.size) s.heap H locs → lv_has ls 4 [(0, .ref (ad 0)), (1, .int (iI (t0))), (2, .int (iI (v)))] → W p l e (headSpec wsX6_converters { frames := 2, cells := 0, slots := 0, locals := 42 }).room s m (#[.ref (ad 0), .int (iI (t0)), .int (iI (v))] : Array Value) below meth c H locs 0 0 (MQ below (va_Qi (fun (r : Int32) (st' : St) => r = iI (aMany st t0 v) ∧ st' = sMany st t0 v ∧ GI wb st') (gP D cy ad n) (gA n ad s.heap.size)) (#[.ref (ad 0), .int (iI (t0)), .int (iI (v))] : Array Value) s 0 0 (gA n ad s.heap.size)) (F0 m 44 ls [.int (iI (t)), .ref (ad 0)]) := by
    intro t H locs ls ht hG hl
    have hks := kMany_s t0 v
    refine g_put hx hb hts hin6 tyX6 tyX6_ok nmX6 hown hK hG (key := 0) (by omega) (gC_0 st ad cy) rfl 0 (by decide) L_75 (fun _ h9 => h9) rfl (ty := .int) (by decide +kernel) rfl rfl (Nat.le_of_ble_eq_true rfl) dX6_converters_44 (ust st 0 0 0 (t)) (fun j _ => gU_0 st ad cy (t) j) (fun H locs hG => ?_)
    obtain ⟨st1, hst1⟩ : ∃ z : St, z = ust st 0 (0) (0) (t) := ⟨_, rfl⟩
    rw [← hst1] at hG
    replace hI := hst1 ▸ gIu_0 hI (0) (0) (v := t) (by omega)
    refine lv_aload_n hx hb dX6_converters_47 rfl (lv_at hl 0 rfl) ?_
    refine g_get hx hb hts hin6 hown hK hG (key := 0) (by omega) (gC_0 st1 ad cy) rfl 0 (by decide) L_75 (fun _ h9 => h9) rfl dX6_converters_48 ?_
    have hr2 := gI_0 hI (0) (0)
    have kq3 : st1 0 (0) (0) = t := by rw [hst1, ust_s]
    rw [kq3] at hr2
    refine r_as kq3 ?_
    clear kq3
    refine r_if_le (tgt := 56) hx hb (by omega) dX6_converters_51 (by decide) (fun c4 => ?_) (fun c4 => ?_)
    · skip
      refine lv_aload_n hx hb dX6_converters_56 rfl (lv_at hl 0 rfl) ?_
      refine g_get hx hb hts hin6 hown hK hG (key := 0) (by omega) (gC_0 st1 ad cy) rfl 13 (by decide) L_42 (fun _ h9 => h9) rfl dX6_converters_57 ?_
      refine lv_iload_n hx hb dX6_converters_60 rfl (lv_at hl 1 rfl) ?_
      refine g_iald hx hb hK hG (10) (kd := 10) (o := 0) rfl rfl (by omega) (cp := 13) (ln := 6) rfl rfl (by omega) dX6_converters_61 ?_
      have hr5 := gI_13 hI (0) (t0)
      have kq6 : st1 13 (0) (t0) = st 13 (0) (t0) := by rw [hst1, ust_c (by decide)]
      rw [kq6] at hr5
      refine r_as kq6 ?_
      clear kq6
      refine r_nm (fun v7 ev7 => ?_)
      rw [← ev7] at hr5
      refine lv_istore_n (lv' := [(3, .int (iI (v7))), (0, .ref (ad 0)), (1, .int (iI (t0))), (2, .int (iI (v)))]) hx hb dX6_converters_62 rfl hl (by decide) rfl (fun ls hl => ?_)
      refine lv_aload_n hx hb dX6_converters_63 rfl (lv_at hl 1 rfl) ?_
      refine g_get hx hb hts hin6 hown hK hG (key := 0) (by omega) (gC_0 st1 ad cy) rfl 13 (by decide) L_42 (fun _ h9 => h9) rfl dX6_converters_64 ?_
      refine lv_iload_n hx hb dX6_converters_67 rfl (lv_at hl 2 rfl) ?_
      refine lv_iload_n hx hb dX6_converters_68 rfl (lv_at hl 3 rfl) ?_
      refine g_iast hx hb hK hG (10) (kd := 10) (o := 0) rfl rfl (by omega) (cp := 13) (ln := 6) rfl rfl (by omega) dX6_converters_69 (fun H locs hG => ?_)
      obtain ⟨st8, hst8⟩ : ∃ z : St, z = ust st1 13 (0) (t0) (v) := ⟨_, rfl⟩
      rw [← hst8] at hG
      replace hI := hst8 ▸ gIu_13 hI (0) (t0) (v := v) (by omega)
      refine lv_iload_n hx hb dX6_converters_70 rfl (lv_at hl 0 rfl) ?_
      exact g_iret hx hb hr hlocks hG (by
        have hz := ht
        first
          | (refine ⟨?_, ?_, hI⟩
             · congr 1; unfold aMany; rw [if_neg (by omega)]
             · unfold sMany; rw [if_neg (by omega), ← ht]; assumption)
          | (refine ⟨?_, ?_, hI⟩
             · congr 1; unfold aMany; rw [if_pos (by omega)]; first | omega | (subst_vars; rfl)
             · unfold sMany; rw [if_pos (by omega), ← ht]; subst_vars; rfl)) dX6_converters_71
    · skip
      refine lv_iconst (v := iI (0)) hx hb dX6_converters_54 rfl ?_
      exact g_iret hx hb hr hlocks hG (by
        have hz := ht
        first
          | (refine ⟨?_, ?_, hI⟩
             · congr 1; unfold aMany; rw [if_neg (by omega)]
             · unfold sMany; rw [if_neg (by omega), ← ht]; assumption)
          | (refine ⟨?_, ?_, hI⟩
             · congr 1; unfold aMany; rw [if_pos (by omega)]; first | omega | (subst_vars; rfl)
             · unfold sMany; rw [if_pos (by omega), ← ht]; subst_vars; rfl)) dX6_converters_55
  refine lv_iload_n hx hb dX6_converters_1 rfl (lv_at hl 1 rfl) ?_
  refine g_goi hG hA (va_runS (As := [.int (iI (t0))]) (rest := [.ref (ad 0)]) ⟨hx, hb, hml, hown, hts⟩ (mX6_isTile l D cy ad n st _ fz wb hn hI (by omega) (t0) (by omega)) (va_cwS 1 hts gX6_converters_X6_isTile rfl rfl rfl (by decide +kernel) ⟨Nat.le_of_ble_eq_true rfl, Nat.le_of_ble_eq_true rfl⟩) ⟨g_blind, g_pre hK hG hA hN hZ⟩ rfl rfl hl.1 rfl (lv_room (Nat.le_of_ble_eq_true rfl)) dX6_converters_2 ⟨Nat.zero_le _, Nat.zero_le _⟩) (fun r9 s9 H locs hp hG => ?_)
  obtain ⟨rfl, hs9⟩ := hp
  rw [hs9] at hG
  clear hs9
  refine r_nm (fun v9 ev9 => ?_)
  have hr10 := inF_s (t0) 0 5
  rw [← ev9] at hr10
  refine r_if_ne (tgt := 12) hx hb (by omega) dX6_converters_5 (by decide) (fun c11 => ?_) (fun c11 => ?_)
  · skip
    refine lv_iload_n hx hb dX6_converters_12 rfl (lv_at hl 2 rfl) ?_
    refine lv_iconst (v := iI (1)) hx hb dX6_converters_13 rfl ?_
    refine r_icmp_eq (tgt := 39) hx hb (by omega) dX6_converters_14 (by decide) (fun c12 => ?_) (fun c12 => ?_)
    · skip
      refine lv_iconst (v := iI (0)) hx hb dX6_converters_39 rfl ?_
      refine lv_goto (tgt := 44) hx hb dX6_converters_40 (by decide) ?_
      exact hlab44 (0)  _ _ _ (by have hks := kMany_s t0 v; omega) hG (lv_sub hl [0, 1, 2] rfl)
    · skip
      refine lv_iload_n hx hb dX6_converters_17 rfl (lv_at hl 2 rfl) ?_
      refine lv_iconst (v := iI (2)) hx hb dX6_converters_18 rfl ?_
      refine r_icmp_eq (tgt := 39) hx hb (by omega) dX6_converters_19 (by decide) (fun c13 => ?_) (fun c13 => ?_)
      · skip
        refine lv_iconst (v := iI (0)) hx hb dX6_converters_39 rfl ?_
        refine lv_goto (tgt := 44) hx hb dX6_converters_40 (by decide) ?_
        exact hlab44 (0)  _ _ _ (by have hks := kMany_s t0 v; omega) hG (lv_sub hl [0, 1, 2] rfl)
      · skip
        refine lv_iload_n hx hb dX6_converters_22 rfl (lv_at hl 2 rfl) ?_
        refine lv_iconst (v := iI (4)) hx hb dX6_converters_23 rfl ?_
        refine r_icmp_eq (tgt := 39) hx hb (by omega) dX6_converters_24 (by decide) (fun c14 => ?_) (fun c14 => ?_)
        · skip
          refine lv_iconst (v := iI (0)) hx hb dX6_converters_39 rfl ?_
          refine lv_goto (tgt := 44) hx hb dX6_converters_40 (by decide) ?_
          exact hlab44 (0)  _ _ _ (by have hks := kMany_s t0 v; omega) hG (lv_sub hl [0, 1, 2] rfl)
        · skip
          refine lv_iload_n hx hb dX6_converters_27 rfl (lv_at hl 2 rfl) ?_
          refine lv_bipush (v := iI (8)) hx hb dX6_converters_28 (by decide +kernel) ?_
          refine r_icmp_eq (tgt := 39) hx hb (by omega) dX6_converters_30 (by decide) (fun c15 => ?_) (fun c15 => ?_)
          · skip
            refine lv_iconst (v := iI (0)) hx hb dX6_converters_39 rfl ?_
            refine lv_goto (tgt := 44) hx hb dX6_converters_40 (by decide) ?_
            exact hlab44 (0)  _ _ _ (by have hks := kMany_s t0 v; omega) hG (lv_sub hl [0, 1, 2] rfl)
          · skip
            refine lv_iload_n hx hb dX6_converters_33 rfl (lv_at hl 2 rfl) ?_
            refine lv_bipush (v := iI (16)) hx hb dX6_converters_34 (by decide +kernel) ?_
            refine r_icmp_ne (tgt := 43) hx hb (by omega) dX6_converters_36 (by decide) (fun c16 => ?_) (fun c16 => ?_)
            · skip
              refine lv_iconst (v := iI (2)) hx hb dX6_converters_43 rfl ?_
              exact hlab44 (2)  _ _ _ (by have hks := kMany_s t0 v; omega) hG (lv_sub hl [0, 1, 2] rfl)
            · skip
              refine lv_iconst (v := iI (0)) hx hb dX6_converters_39 rfl ?_
              refine lv_goto (tgt := 44) hx hb dX6_converters_40 (by decide) ?_
              exact hlab44 (0)  _ _ _ (by have hks := kMany_s t0 v; omega) hG (lv_sub hl [0, 1, 2] rfl)
  · skip
    refine lv_iconst (v := iI (1)) hx hb dX6_converters_8 rfl ?_
    refine lv_goto (tgt := 44) hx hb dX6_converters_9 (by decide) ?_
    exact hlab44 (1)  _ _ _ (by have hks := kMany_s t0 v; omega) hG (lv_sub hl [0, 1, 2] rfl)
set_option maxHeartbeats 400000 in
set_option maxRecDepth 100000 in
theorem mX6_placedCode (l : Launch) (D : va_G) (cy : Nat → ClassId) (ad : Nat → Nat) (n : Nat) (st : St) (sz fz : Nat) (wb : Int) (hn : 75 ≤ n) (hI : GI wb st) (hW : wb ≤ 2000000) (a : Int) (ha : -2147483648 ≤ a ∧ a < 2147483648) : Met l yX6_placedCode wsX6_placedCode ({ frames := 2, cells := 0, slots := 0, locals := 43 }) (va_Pc [.ref (ad 0), .int (iI (a))] (gB D cy ad n st sz fz)) (va_Qi (fun (r : Int32) (st' : St) => r = iI (kPlaced st a) ∧ st' = st) (gP D cy ad n) (gA n ad sz)) 0 0 (gA n ad sz) := by
  refine Met.ofW (cc := cX6_placedCode) (maxL := 2) (ret := (some .int)) (by decide) rfl ?_
  intro p e s m args below meth c s₁ B hml hv
  obtain ⟨rfl, hsz, hP, hK, hD0, hN, hZ⟩ := hv
  have hx := B.exec
  have hb := B.bytes
  have hr := B.returns
  have hts := atoms_spec (ws := wsX6_placedCode) B.pre
  have hown : s.vm.findClass RX6 = some m.cls := findClass_of_methodNamed B.named
  have hlocks := B.notSynchronized
  subst hsz
  have hA : ∀ q : Nat, s.heap.size ≤ q → gA n ad s.heap.size q := fun q h => Or.inr h
  have hG : GH D cy ad n st (gA n ad s.heap.size) s.heap s.heap [] := ⟨hP, gw_A hD0, va_S.rf⟩
  have hl := lv_entry ([.ref (ad 0), .int (iI (a))]) (n := 2) (Nat.le_of_ble_eq_true rfl)
  rw [lg_entry_eq]
  generalize (lg_sl ([.ref (ad 0), .int (iI (a))]) ++ List.replicate (2 - (lg_sl ([.ref (ad 0), .int (iI (a))])).length) Slot.unset).toArray = ls at hl ⊢
  have hl : lv_has ls 2 [(0, .ref (ad 0)), (1, .int (iI (a)))] := hl
  have hin6 : ∀ w ∈ u_ws RX6 TX6 25, w ∈ wsX6_placedCode := by decide +kernel
  have L_60 := hts (.fieldLink RX6 60 "CrossbarryModel" "tileAt" "[I") (by decide +kernel)
  have hmn := gI_14 hI 0 0
  refine lv_aload_n hx hb dX6_placedCode_0 rfl (lv_at hl 0 rfl) ?_
  refine lv_iload_n hx hb dX6_placedCode_1 rfl (lv_at hl 1 rfl) ?_
  refine g_goi hG hA (va_runV (As := [.int (iI (a))]) (rest := []) ⟨hx, hb, hml, hown, hts⟩ (mX6_isLayer l D cy ad n st _ fz wb hn hI (by omega) (a) (by omega)) (cwV 1 hts gX6_placedCode_X6_isLayer rfl rfl rfl (by decide +kernel) ⟨Nat.le_of_ble_eq_true rfl, Nat.le_of_ble_eq_true rfl⟩) ⟨g_blind, va_recv hK hG.1 (q0 := 0) (ci := 6) rfl ((gw_at (by omega)).trans (by rw [gC_0 st ad cy])), g_pre hK hG hA hN hZ⟩ rfl rfl hl.1 rfl (lv_room (Nat.le_of_ble_eq_true rfl)) dX6_placedCode_2 ⟨Nat.zero_le _, Nat.zero_le _⟩) (fun r9 s9 H locs hp hG => ?_)
  obtain ⟨rfl, hs9⟩ := hp
  rw [hs9] at hG
  clear hs9
  refine r_nm (fun v1 ev1 => ?_)
  have hr2 := inF_s (a) 0 (st 14 0 0 - 1)
  rw [← ev1] at hr2
  refine r_if_ne (tgt := 12) hx hb (by omega) dX6_placedCode_5 (by decide) (fun c3 => ?_) (fun c3 => ?_)
  · skip
    refine lv_aload_n hx hb dX6_placedCode_12 rfl (lv_at hl 0 rfl) ?_
    refine g_get hx hb hts hin6 hown hK hG (key := 0) (by omega) (gC_0 st ad cy) rfl 20 (by decide) L_60 (fun _ h9 => h9) rfl dX6_placedCode_13 ?_
    refine lv_iload_n hx hb dX6_placedCode_16 rfl (lv_at hl 1 rfl) ?_
    refine g_iald hx hb hK hG (16) (kd := 16) (o := 0) rfl rfl (by omega) (cp := 20) (ln := 6) rfl rfl (by omega) dX6_placedCode_17 ?_
    have hr4 := gI_20 hI (0) (a)
    refine r_nm (fun v5 ev5 => ?_)
    rw [← ev5] at hr4
    refine lv_iconst (v := iI (-1)) hx hb dX6_placedCode_18 rfl ?_
    refine r_icmp_ne (tgt := 26) hx hb (by omega) dX6_placedCode_19 (by decide) (fun c6 => ?_) (fun c6 => ?_)
    · skip
      refine lv_iconst (v := iI (0)) hx hb dX6_placedCode_26 rfl ?_
      exact g_iret hx hb hr hlocks hG (by
        refine ⟨?_, rfl⟩
        congr 1
        have := kPlaced_s st a
        subst_vars
        omega) dX6_placedCode_27
    · skip
      refine lv_iconst (v := iI (2)) hx hb dX6_placedCode_22 rfl ?_
      refine lv_goto (tgt := 27) hx hb dX6_placedCode_23 (by decide) ?_
      exact g_iret hx hb hr hlocks hG (by
        refine ⟨?_, rfl⟩
        congr 1
        have := kPlaced_s st a
        subst_vars
        omega) dX6_placedCode_27
  · skip
    refine lv_iconst (v := iI (1)) hx hb dX6_placedCode_8 rfl ?_
    refine lv_goto (tgt := 27) hx hb dX6_placedCode_9 (by decide) ?_
    exact g_iret hx hb hr hlocks hG (by
      refine ⟨?_, rfl⟩
      congr 1
      have := kPlaced_s st a
      subst_vars
      omega) dX6_placedCode_27
set_option maxHeartbeats 400000 in
set_option maxRecDepth 100000 in
theorem mX6_sticks (l : Launch) (D : va_G) (cy : Nat → ClassId) (ad : Nat → Nat) (n : Nat) (st : St) (sz fz : Nat) (wb : Int) (hn : 75 ≤ n) (hI : GI wb st) (hW : wb ≤ 2000000) (i : Int) (v : Int) (hi : 0 ≤ i ∧ i < 768) (hv : 0 ≤ v ∧ v ≤ 15) : Met l yX6_sticks wsX6_sticks ({ frames := 0, cells := 0, slots := 0, locals := 0 }) (va_Pc [.ref (ad 0), .int (iI (i)), .int (iI (v))] (gB D cy ad n st sz fz)) (va_Qv (fun (st' : St) => st' = sSticks st i v ∧ GI wb st') (gP D cy ad n) (gA n ad sz)) 0 0 (gA n ad sz) := by
  refine Met.ofW (cc := cX6_sticks) (maxL := 3) (ret := none) (by decide) rfl ?_
  intro p e s m args below meth c s₁ B hml hv
  obtain ⟨rfl, hsz, hP, hK, hD0, hN, hZ⟩ := hv
  have hx := B.exec
  have hb := B.bytes
  have hr := B.returns
  have hts := atoms_spec (ws := wsX6_sticks) B.pre
  have hown : s.vm.findClass RX6 = some m.cls := findClass_of_methodNamed B.named
  have hlocks := B.notSynchronized
  subst hsz
  have hA : ∀ q : Nat, s.heap.size ≤ q → gA n ad s.heap.size q := fun q h => Or.inr h
  have hG : GH D cy ad n st (gA n ad s.heap.size) s.heap s.heap [] := ⟨hP, gw_A hD0, va_S.rf⟩
  have hl := lv_entry ([.ref (ad 0), .int (iI (i)), .int (iI (v))]) (n := 3) (Nat.le_of_ble_eq_true rfl)
  rw [lg_entry_eq]
  generalize (lg_sl ([.ref (ad 0), .int (iI (i)), .int (iI (v))]) ++ List.replicate (3 - (lg_sl ([.ref (ad 0), .int (iI (i)), .int (iI (v))])).length) Slot.unset).toArray = ls at hl ⊢
  have hl : lv_has ls 3 [(0, .ref (ad 0)), (1, .int (iI (i))), (2, .int (iI (v)))] := hl
  have hin6 : ∀ w ∈ u_ws RX6 TX6 25, w ∈ wsX6_sticks := by decide +kernel
  have L_13 := hts (.fieldLink RX6 13 "CrossbarryModel" "states" "[I") (by decide +kernel)
  have L_23 := hts (.fieldLink RX6 23 "CrossbarryModel" "isStuck" "[Z") (by decide +kernel)
  refine lv_aload_n hx hb dX6_sticks_0 rfl (lv_at hl 0 rfl) ?_
  refine g_get hx hb hts hin6 hown hK hG (key := 0) (by omega) (gC_0 st ad cy) rfl 7 (by decide) L_23 (fun _ h9 => h9) rfl dX6_sticks_1 ?_
  refine lv_iload_n hx hb dX6_sticks_4 rfl (lv_at hl 1 rfl) ?_
  refine lv_iconst (v := iI (1)) hx hb dX6_sticks_5 rfl ?_
  refine g_zast hx hb hK hG (4) (kd := 4) (o := 0) rfl rfl (by omega) (cp := 7) (ln := 768) rfl rfl (by omega) (by omega) dX6_sticks_6 (fun H locs hG => ?_)
  obtain ⟨st1, hst1⟩ : ∃ z : St, z = ust st 7 (0) (i) (1) := ⟨_, rfl⟩
  rw [← hst1] at hG
  replace hI := hst1 ▸ gIu_7 hI (0) (i) (v := 1) (by omega)
  refine lv_aload_n hx hb dX6_sticks_7 rfl (lv_at hl 0 rfl) ?_
  refine g_get hx hb hts hin6 hown hK hG (key := 0) (by omega) (gC_0 st1 ad cy) rfl 4 (by decide) L_13 (fun _ h9 => h9) rfl dX6_sticks_8 ?_
  refine lv_iload_n hx hb dX6_sticks_11 rfl (lv_at hl 1 rfl) ?_
  refine lv_iload_n hx hb dX6_sticks_12 rfl (lv_at hl 2 rfl) ?_
  refine g_iast hx hb hK hG (1) (kd := 1) (o := 0) rfl rfl (by omega) (cp := 4) (ln := 768) rfl rfl (by omega) dX6_sticks_13 (fun H locs hG => ?_)
  obtain ⟨st2, hst2⟩ : ∃ z : St, z = ust st1 4 (0) (i) (v) := ⟨_, rfl⟩
  rw [← hst2] at hG
  replace hI := hst2 ▸ gIu_4 hI (0) (i) (v := v) (by omega)
  exact g_vret hx hb hr hlocks hG (by
    exact ⟨by unfold sSticks; subst_vars; rfl, hI⟩) dX6_sticks_14
set_option maxHeartbeats 400000 in
set_option maxRecDepth 100000 in
theorem mX6_lift (l : Launch) (D : va_G) (cy : Nat → ClassId) (ad : Nat → Nat) (n : Nat) (st : St) (sz fz : Nat) (wb : Int) (hn : 75 ≤ n) (hI : GI wb st) (hW : wb ≤ 2000000) (a : Int) (ha : -2147483648 ≤ a ∧ a < 2147483648) : Met l yX6_lift wsX6_lift ({ frames := 3, cells := 0, slots := 0, locals := 64 }) (va_Pc [.ref (ad 0), .int (iI (a))] (gB D cy ad n st sz fz)) (va_Qi (fun (r : Int32) (st' : St) => r = iI (aLift st a) ∧ st' = sLift st a ∧ GI wb st') (gP D cy ad n) (gA n ad sz)) 0 0 (gA n ad sz) := by
  refine Met.ofW (cc := cX6_lift) (maxL := 3) (ret := (some .int)) (by decide) rfl ?_
  intro p e s m args below meth c s₁ B hml hv
  obtain ⟨rfl, hsz, hP, hK, hD0, hN, hZ⟩ := hv
  have hx := B.exec
  have hb := B.bytes
  have hr := B.returns
  have hts := atoms_spec (ws := wsX6_lift) B.pre
  have hown : s.vm.findClass RX6 = some m.cls := findClass_of_methodNamed B.named
  have hlocks := B.notSynchronized
  subst hsz
  have hA : ∀ q : Nat, s.heap.size ≤ q → gA n ad s.heap.size q := fun q h => Or.inr h
  have hG : GH D cy ad n st (gA n ad s.heap.size) s.heap s.heap [] := ⟨hP, gw_A hD0, va_S.rf⟩
  have hl := lv_entry ([.ref (ad 0), .int (iI (a))]) (n := 3) (Nat.le_of_ble_eq_true rfl)
  rw [lg_entry_eq]
  generalize (lg_sl ([.ref (ad 0), .int (iI (a))]) ++ List.replicate (3 - (lg_sl ([.ref (ad 0), .int (iI (a))])).length) Slot.unset).toArray = ls at hl ⊢
  have hl : lv_has ls 3 [(0, .ref (ad 0)), (1, .int (iI (a)))] := hl
  have hin6 : ∀ w ∈ u_ws RX6 TX6 25, w ∈ wsX6_lift := by decide +kernel
  have L_60 := hts (.fieldLink RX6 60 "CrossbarryModel" "tileAt" "[I") (by decide +kernel)
  have L_75 := hts (.fieldLink RX6 75 "CrossbarryModel" "thrown" "I") (by decide +kernel)
  have hmn := gI_14 hI 0 0
  refine lv_aload_n hx hb dX6_lift_0 rfl (lv_at hl 0 rfl) ?_
  have hlab6 : ∀ (t : Int) (H : Heap) (locs : List Loc) (ls : Array Slot), (t = (kPlaced st a)) →  GH D cy ad n st (gA n ad s.heap.size) s.heap H locs → lv_has ls 3 [(0, .ref (ad 0)), (1, .int (iI (a)))] → W p l e (headSpec wsX6_lift { frames := 3, cells := 0, slots := 0, locals := 64 }).room s m (#[.ref (ad 0), .int (iI (a))] : Array Value) below meth c H locs 0 0 (MQ below (va_Qi (fun (r : Int32) (st' : St) => r = iI (aLift st a) ∧ st' = sLift st a ∧ GI wb st') (gP D cy ad n) (gA n ad s.heap.size)) (#[.ref (ad 0), .int (iI (a))] : Array Value) s 0 0 (gA n ad s.heap.size)) (F0 m 6 ls [.int (iI (t)), .ref (ad 0)]) := by
    intro t H locs ls ht hG hl
    have hks := kPlaced_s st a
    refine g_put hx hb hts hin6 tyX6 tyX6_ok nmX6 hown hK hG (key := 0) (by omega) (gC_0 st ad cy) rfl 0 (by decide) L_75 (fun _ h9 => h9) rfl (ty := .int) (by decide +kernel) rfl rfl (Nat.le_of_ble_eq_true rfl) dX6_lift_6 (ust st 0 0 0 (t)) (fun j _ => gU_0 st ad cy (t) j) (fun H locs hG => ?_)
    obtain ⟨st1, hst1⟩ : ∃ z : St, z = ust st 0 (0) (0) (t) := ⟨_, rfl⟩
    rw [← hst1] at hG
    replace hI := hst1 ▸ gIu_0 hI (0) (0) (v := t) (by omega)
    refine lv_aload_n hx hb dX6_lift_9 rfl (lv_at hl 0 rfl) ?_
    refine g_get hx hb hts hin6 hown hK hG (key := 0) (by omega) (gC_0 st1 ad cy) rfl 0 (by decide) L_75 (fun _ h9 => h9) rfl dX6_lift_10 ?_
    have hr2 := gI_0 hI (0) (0)
    have kq3 : st1 0 (0) (0) = t := by rw [hst1, ust_s]
    rw [kq3] at hr2
    refine r_as kq3 ?_
    clear kq3
    refine r_if_le (tgt := 18) hx hb (by omega) dX6_lift_13 (by decide) (fun c4 => ?_) (fun c4 => ?_)
    · skip
      refine lv_aload_n hx hb dX6_lift_18 rfl (lv_at hl 0 rfl) ?_
      refine g_get hx hb hts hin6 hown hK hG (key := 0) (by omega) (gC_0 st1 ad cy) rfl 20 (by decide) L_60 (fun _ h9 => h9) rfl dX6_lift_19 ?_
      refine lv_iload_n hx hb dX6_lift_22 rfl (lv_at hl 1 rfl) ?_
      refine g_iald hx hb hK hG (16) (kd := 16) (o := 0) rfl rfl (by omega) (cp := 20) (ln := 6) rfl rfl (by omega) dX6_lift_23 ?_
      have hr5 := gI_20 hI (0) (a)
      have kq6 : st1 20 (0) (a) = st 20 (0) (a) := by rw [hst1, ust_c (by decide)]
      rw [kq6] at hr5
      refine r_as kq6 ?_
      clear kq6
      refine r_nm (fun v7 ev7 => ?_)
      rw [← ev7] at hr5
      refine lv_istore_n (lv' := [(2, .int (iI (v7))), (0, .ref (ad 0)), (1, .int (iI (a)))]) hx hb dX6_lift_24 rfl hl (by decide) rfl (fun ls hl => ?_)
      refine lv_aload_n hx hb dX6_lift_25 rfl (lv_at hl 1 rfl) ?_
      refine g_get hx hb hts hin6 hown hK hG (key := 0) (by omega) (gC_0 st1 ad cy) rfl 20 (by decide) L_60 (fun _ h9 => h9) rfl dX6_lift_26 ?_
      refine lv_iload_n hx hb dX6_lift_29 rfl (lv_at hl 2 rfl) ?_
      refine lv_iconst (v := iI (-1)) hx hb dX6_lift_30 rfl ?_
      refine g_iast hx hb hK hG (16) (kd := 16) (o := 0) rfl rfl (by omega) (cp := 20) (ln := 6) rfl rfl (by omega) dX6_lift_31 (fun H locs hG => ?_)
      obtain ⟨st8, hst8⟩ : ∃ z : St, z = ust st1 20 (0) (a) (-1) := ⟨_, rfl⟩
      rw [← hst8] at hG
      replace hI := hst8 ▸ gIu_20 hI (0) (a) (v := -1) (by omega)
      refine lv_iload_n hx hb dX6_lift_32 rfl (lv_at hl 0 rfl) ?_
      exact g_iret hx hb hr hlocks hG (by
        have hz := ht
        first
          | (refine ⟨?_, ?_, hI⟩
             · congr 1; unfold aLift; rw [if_neg (by omega)]
             · unfold sLift; rw [if_neg (by omega), ← ht]; assumption)
          | (refine ⟨?_, ?_, hI⟩
             · congr 1; unfold aLift; rw [if_pos (by omega)]; first | omega | (subst_vars; rfl)
             · unfold sLift; rw [if_pos (by omega), ← ht]; subst_vars; rfl)) dX6_lift_33
    · skip
      refine lv_iconst (v := iI (0)) hx hb dX6_lift_16 rfl ?_
      exact g_iret hx hb hr hlocks hG (by
        have hz := ht
        first
          | (refine ⟨?_, ?_, hI⟩
             · congr 1; unfold aLift; rw [if_neg (by omega)]
             · unfold sLift; rw [if_neg (by omega), ← ht]; assumption)
          | (refine ⟨?_, ?_, hI⟩
             · congr 1; unfold aLift; rw [if_pos (by omega)]; first | omega | (subst_vars; rfl)
             · unfold sLift; rw [if_pos (by omega), ← ht]; subst_vars; rfl)) dX6_lift_17
  refine lv_aload_n hx hb dX6_lift_1 rfl (lv_at hl 0 rfl) ?_
  refine lv_iload_n hx hb dX6_lift_2 rfl (lv_at hl 1 rfl) ?_
  refine g_goi hG hA (va_runV (As := [.int (iI (a))]) (rest := [.ref (ad 0)]) ⟨hx, hb, hml, hown, hts⟩ (mX6_placedCode l D cy ad n st _ fz wb hn hI (by omega) (a) (by omega)) (cwV 1 hts gX6_lift_X6_placedCode rfl rfl rfl (by decide +kernel) ⟨Nat.le_of_ble_eq_true rfl, Nat.le_of_ble_eq_true rfl⟩) ⟨g_blind, va_recv hK hG.1 (q0 := 0) (ci := 6) rfl ((gw_at (by omega)).trans (by rw [gC_0 st ad cy])), g_pre hK hG hA hN hZ⟩ rfl rfl hl.1 rfl (lv_room (Nat.le_of_ble_eq_true rfl)) dX6_lift_3 ⟨Nat.zero_le _, Nat.zero_le _⟩) (fun r9 s9 H locs hp hG => ?_)
  obtain ⟨rfl, hs9⟩ := hp
  rw [hs9] at hG
  clear hs9
  refine r_nm (fun v9 ev9 => ?_)
  have hr10 := kPlaced_s st (a)
  rw [← ev9] at hr10
  exact hlab6 (v9)  _ _ _ (by have hks := kPlaced_s st a; omega) hG (lv_sub hl [0, 1] rfl)
set_option maxHeartbeats 400000 in
set_option maxRecDepth 100000 in
theorem mX6_calibrate (l : Launch) (D : va_G) (cy : Nat → ClassId) (ad : Nat → Nat) (n : Nat) (st : St) (sz fz : Nat) (wb : Int) (hn : 75 ≤ n) (hI : GI wb st) (hW : wb ≤ 2000000) (t0 : Int) (v : Int) (ht0 : -2147483648 ≤ t0 ∧ t0 < 2147483648) (hv : -2147483648 ≤ v ∧ v < 2147483648) (hvz : v = 0 ∨ v = 1) : Met l yX6_calibrate wsX6_calibrate ({ frames := 2, cells := 0, slots := 0, locals := 42 }) (va_Pc [.ref (ad 0), .int (iI (t0)), .int (iI (v))] (gB D cy ad n st sz fz)) (va_Qi (fun (r : Int32) (st' : St) => r = iI (aCal st t0) ∧ st' = sCal st t0 v ∧ GI wb st') (gP D cy ad n) (gA n ad sz)) 0 0 (gA n ad sz) := by
  refine Met.ofW (cc := cX6_calibrate) (maxL := 4) (ret := (some .boolean)) (by decide) rfl ?_
  intro p e s m args below meth c s₁ B hml hv
  obtain ⟨rfl, hsz, hP, hK, hD0, hN, hZ⟩ := hv
  have hx := B.exec
  have hb := B.bytes
  have hr := B.returns
  have hts := atoms_spec (ws := wsX6_calibrate) B.pre
  have hown : s.vm.findClass RX6 = some m.cls := findClass_of_methodNamed B.named
  have hlocks := B.notSynchronized
  subst hsz
  have hA : ∀ q : Nat, s.heap.size ≤ q → gA n ad s.heap.size q := fun q h => Or.inr h
  have hG : GH D cy ad n st (gA n ad s.heap.size) s.heap s.heap [] := ⟨hP, gw_A hD0, va_S.rf⟩
  have hl := lv_entry ([.ref (ad 0), .int (iI (t0)), .int (iI (v))]) (n := 4) (Nat.le_of_ble_eq_true rfl)
  rw [lg_entry_eq]
  generalize (lg_sl ([.ref (ad 0), .int (iI (t0)), .int (iI (v))]) ++ List.replicate (4 - (lg_sl ([.ref (ad 0), .int (iI (t0)), .int (iI (v))])).length) Slot.unset).toArray = ls at hl ⊢
  have hl : lv_has ls 4 [(0, .ref (ad 0)), (1, .int (iI (t0))), (2, .int (iI (v)))] := hl
  have hin6 : ∀ w ∈ u_ws RX6 TX6 25, w ∈ wsX6_calibrate := by decide +kernel
  have L_39 := hts (.fieldLink RX6 39 "CrossbarryModel" "isCalibrated" "[Z") (by decide +kernel)
  have L_75 := hts (.fieldLink RX6 75 "CrossbarryModel" "thrown" "I") (by decide +kernel)
  have hmn := gI_14 hI 0 0
  refine lv_aload_n hx hb dX6_calibrate_0 rfl (lv_at hl 0 rfl) ?_
  have hlab13 : ∀ (t : Int) (H : Heap) (locs : List Loc) (ls : Array Slot), (t = (kRange 0 5 t0)) →  GH D cy ad n st (gA n ad s.heap.size) s.heap H locs → lv_has ls 4 [(0, .ref (ad 0)), (1, .int (iI (t0))), (2, .int (iI (v)))] → W p l e (headSpec wsX6_calibrate { frames := 2, cells := 0, slots := 0, locals := 42 }).room s m (#[.ref (ad 0), .int (iI (t0)), .int (iI (v))] : Array Value) below meth c H locs 0 0 (MQ below (va_Qi (fun (r : Int32) (st' : St) => r = iI (aCal st t0) ∧ st' = sCal st t0 v ∧ GI wb st') (gP D cy ad n) (gA n ad s.heap.size)) (#[.ref (ad 0), .int (iI (t0)), .int (iI (v))] : Array Value) s 0 0 (gA n ad s.heap.size)) (F0 m 13 ls [.int (iI (t)), .ref (ad 0)]) := by
    intro t H locs ls ht hG hl
    have hks := kRange_s 0 5 t0
    refine g_put hx hb hts hin6 tyX6 tyX6_ok nmX6 hown hK hG (key := 0) (by omega) (gC_0 st ad cy) rfl 0 (by decide) L_75 (fun _ h9 => h9) rfl (ty := .int) (by decide +kernel) rfl rfl (Nat.le_of_ble_eq_true rfl) dX6_calibrate_13 (ust st 0 0 0 (t)) (fun j _ => gU_0 st ad cy (t) j) (fun H locs hG => ?_)
    obtain ⟨st1, hst1⟩ : ∃ z : St, z = ust st 0 (0) (0) (t) := ⟨_, rfl⟩
    rw [← hst1] at hG
    replace hI := hst1 ▸ gIu_0 hI (0) (0) (v := t) (by omega)
    refine lv_aload_n hx hb dX6_calibrate_16 rfl (lv_at hl 0 rfl) ?_
    refine g_get hx hb hts hin6 hown hK hG (key := 0) (by omega) (gC_0 st1 ad cy) rfl 0 (by decide) L_75 (fun _ h9 => h9) rfl dX6_calibrate_17 ?_
    have hr2 := gI_0 hI (0) (0)
    have kq3 : st1 0 (0) (0) = t := by rw [hst1, ust_s]
    rw [kq3] at hr2
    refine r_as kq3 ?_
    clear kq3
    refine r_if_le (tgt := 25) hx hb (by omega) dX6_calibrate_20 (by decide) (fun c4 => ?_) (fun c4 => ?_)
    · skip
      refine lv_aload_n hx hb dX6_calibrate_25 rfl (lv_at hl 0 rfl) ?_
      refine g_get hx hb hts hin6 hown hK hG (key := 0) (by omega) (gC_0 st1 ad cy) rfl 12 (by decide) L_39 (fun _ h9 => h9) rfl dX6_calibrate_26 ?_
      refine lv_iload_n hx hb dX6_calibrate_29 rfl (lv_at hl 1 rfl) ?_
      refine g_zald hx hb hK hG (9) (kd := 9) (o := 0) rfl rfl (by omega) (cp := 12) (ln := 6) rfl rfl (by omega) dX6_calibrate_30 ?_
      have hr5 := gI_12 hI (0) (t0)
      have kq6 : st1 12 (0) (t0) = st 12 (0) (t0) := by rw [hst1, ust_c (by decide)]
      rw [kq6] at hr5
      refine r_as kq6 ?_
      clear kq6
      refine r_nm (fun v7 ev7 => ?_)
      rw [← ev7] at hr5
      refine lv_istore_n (lv' := [(3, .int (iI (v7))), (0, .ref (ad 0)), (1, .int (iI (t0))), (2, .int (iI (v)))]) hx hb dX6_calibrate_31 rfl hl (by decide) rfl (fun ls hl => ?_)
      refine lv_aload_n hx hb dX6_calibrate_32 rfl (lv_at hl 1 rfl) ?_
      refine g_get hx hb hts hin6 hown hK hG (key := 0) (by omega) (gC_0 st1 ad cy) rfl 12 (by decide) L_39 (fun _ h9 => h9) rfl dX6_calibrate_33 ?_
      refine lv_iload_n hx hb dX6_calibrate_36 rfl (lv_at hl 2 rfl) ?_
      refine lv_iload_n hx hb dX6_calibrate_37 rfl (lv_at hl 3 rfl) ?_
      refine g_zast hx hb hK hG (9) (kd := 9) (o := 0) rfl rfl (by omega) (cp := 12) (ln := 6) rfl rfl (by omega) (by omega) dX6_calibrate_38 (fun H locs hG => ?_)
      obtain ⟨st8, hst8⟩ : ∃ z : St, z = ust st1 12 (0) (t0) (v) := ⟨_, rfl⟩
      rw [← hst8] at hG
      replace hI := hst8 ▸ gIu_12 hI (0) (t0) (v := v) (by omega)
      refine lv_iload_n hx hb dX6_calibrate_39 rfl (lv_at hl 0 rfl) ?_
      exact g_zret hx hb hr hlocks (narZ (by omega)) hG (by
        have hz := ht
        first
          | (refine ⟨?_, ?_, hI⟩
             · congr 1; unfold aCal; rw [if_neg (by omega)]
             · unfold sCal; rw [if_neg (by omega), ← ht]; assumption)
          | (refine ⟨?_, ?_, hI⟩
             · congr 1; unfold aCal; rw [if_pos (by omega)]; first | omega | (subst_vars; rfl)
             · unfold sCal; rw [if_pos (by omega), ← ht]; subst_vars; rfl)) dX6_calibrate_40
    · skip
      refine lv_iconst (v := iI (0)) hx hb dX6_calibrate_23 rfl ?_
      exact g_zret hx hb hr hlocks (narZ (by omega)) hG (by
        have hz := ht
        first
          | (refine ⟨?_, ?_, hI⟩
             · congr 1; unfold aCal; rw [if_neg (by omega)]
             · unfold sCal; rw [if_neg (by omega), ← ht]; assumption)
          | (refine ⟨?_, ?_, hI⟩
             · congr 1; unfold aCal; rw [if_pos (by omega)]; first | omega | (subst_vars; rfl)
             · unfold sCal; rw [if_pos (by omega), ← ht]; subst_vars; rfl)) dX6_calibrate_24
  refine lv_iload_n hx hb dX6_calibrate_1 rfl (lv_at hl 1 rfl) ?_
  refine g_goi hG hA (va_runS (As := [.int (iI (t0))]) (rest := [.ref (ad 0)]) ⟨hx, hb, hml, hown, hts⟩ (mX6_isTile l D cy ad n st _ fz wb hn hI (by omega) (t0) (by omega)) (va_cwS 1 hts gX6_calibrate_X6_isTile rfl rfl rfl (by decide +kernel) ⟨Nat.le_of_ble_eq_true rfl, Nat.le_of_ble_eq_true rfl⟩) ⟨g_blind, g_pre hK hG hA hN hZ⟩ rfl rfl hl.1 rfl (lv_room (Nat.le_of_ble_eq_true rfl)) dX6_calibrate_2 ⟨Nat.zero_le _, Nat.zero_le _⟩) (fun r9 s9 H locs hp hG => ?_)
  obtain ⟨rfl, hs9⟩ := hp
  rw [hs9] at hG
  clear hs9
  refine r_nm (fun v9 ev9 => ?_)
  have hr10 := inF_s (t0) 0 5
  rw [← ev9] at hr10
  refine r_if_eq (tgt := 12) hx hb (by omega) dX6_calibrate_5 (by decide) (fun c11 => ?_) (fun c11 => ?_)
  · skip
    refine lv_iconst (v := iI (1)) hx hb dX6_calibrate_12 rfl ?_
    exact hlab13 (1)  _ _ _ (by have hks := kRange_s 0 5 t0; omega) hG (lv_sub hl [0, 1, 2] rfl)
  · skip
    refine lv_iconst (v := iI (0)) hx hb dX6_calibrate_8 rfl ?_
    refine lv_goto (tgt := 13) hx hb dX6_calibrate_9 (by decide) ?_
    exact hlab13 (0)  _ _ _ (by have hks := kRange_s 0 5 t0; omega) hG (lv_sub hl [0, 1, 2] rfl)
set_option maxHeartbeats 400000 in
set_option maxRecDepth 100000 in
theorem mX6_tileOf (l : Launch) (D : va_G) (cy : Nat → ClassId) (ad : Nat → Nat) (n : Nat) (st : St) (sz fz : Nat) (wb : Int) (hn : 75 ≤ n) (hI : GI wb st) (hW : wb ≤ 2000000) (a : Int) (ha : -2147483648 ≤ a ∧ a < 2147483648) : Met l yX6_tileOf wsX6_tileOf ({ frames := 2, cells := 0, slots := 0, locals := 43 }) (va_Pc [.ref (ad 0), .int (iI (a))] (gB D cy ad n st sz fz)) (va_Qi (fun (r : Int32) (st' : St) => r = iI (aTile st a) ∧ st' = ust st 0 0 0 (kLay st a) ∧ GI wb st') (gP D cy ad n) (gA n ad sz)) 0 0 (gA n ad sz) := by
  refine Met.ofW (cc := cX6_tileOf) (maxL := 2) (ret := (some .int)) (by decide) rfl ?_
  intro p e s m args below meth c s₁ B hml hv
  obtain ⟨rfl, hsz, hP, hK, hD0, hN, hZ⟩ := hv
  have hx := B.exec
  have hb := B.bytes
  have hr := B.returns
  have hts := atoms_spec (ws := wsX6_tileOf) B.pre
  have hown : s.vm.findClass RX6 = some m.cls := findClass_of_methodNamed B.named
  have hlocks := B.notSynchronized
  subst hsz
  have hA : ∀ q : Nat, s.heap.size ≤ q → gA n ad s.heap.size q := fun q h => Or.inr h
  have hG : GH D cy ad n st (gA n ad s.heap.size) s.heap s.heap [] := ⟨hP, gw_A hD0, va_S.rf⟩
  have hl := lv_entry ([.ref (ad 0), .int (iI (a))]) (n := 2) (Nat.le_of_ble_eq_true rfl)
  rw [lg_entry_eq]
  generalize (lg_sl ([.ref (ad 0), .int (iI (a))]) ++ List.replicate (2 - (lg_sl ([.ref (ad 0), .int (iI (a))])).length) Slot.unset).toArray = ls at hl ⊢
  have hl : lv_has ls 2 [(0, .ref (ad 0)), (1, .int (iI (a)))] := hl
  have hin6 : ∀ w ∈ u_ws RX6 TX6 25, w ∈ wsX6_tileOf := by decide +kernel
  have L_60 := hts (.fieldLink RX6 60 "CrossbarryModel" "tileAt" "[I") (by decide +kernel)
  have L_75 := hts (.fieldLink RX6 75 "CrossbarryModel" "thrown" "I") (by decide +kernel)
  have hmn := gI_14 hI 0 0
  refine lv_aload_n hx hb dX6_tileOf_0 rfl (lv_at hl 0 rfl) ?_
  have hlab14 : ∀ (t : Int) (H : Heap) (locs : List Loc) (ls : Array Slot), (t = kLay st a) →  GH D cy ad n st (gA n ad s.heap.size) s.heap H locs → lv_has ls 2 [(0, .ref (ad 0)), (1, .int (iI (a)))] → W p l e (headSpec wsX6_tileOf { frames := 2, cells := 0, slots := 0, locals := 43 }).room s m (#[.ref (ad 0), .int (iI (a))] : Array Value) below meth c H locs 0 0 (MQ below (va_Qi (fun (r : Int32) (st' : St) => r = iI (aTile st a) ∧ st' = ust st 0 0 0 (kLay st a) ∧ GI wb st') (gP D cy ad n) (gA n ad s.heap.size)) (#[.ref (ad 0), .int (iI (a))] : Array Value) s 0 0 (gA n ad s.heap.size)) (F0 m 14 ls [.int (iI (t)), .ref (ad 0)]) := by
    intro t H locs ls ht hG hl
    have hks := kLay_s st a
    refine g_put hx hb hts hin6 tyX6 tyX6_ok nmX6 hown hK hG (key := 0) (by omega) (gC_0 st ad cy) rfl 0 (by decide) L_75 (fun _ h9 => h9) rfl (ty := .int) (by decide +kernel) rfl rfl (Nat.le_of_ble_eq_true rfl) dX6_tileOf_14 (ust st 0 0 0 (t)) (fun j _ => gU_0 st ad cy (t) j) (fun H locs hG => ?_)
    obtain ⟨st1, hst1⟩ : ∃ z : St, z = ust st 0 (0) (0) (t) := ⟨_, rfl⟩
    rw [← hst1] at hG
    replace hI := hst1 ▸ gIu_0 hI (0) (0) (v := t) (by omega)
    refine lv_aload_n hx hb dX6_tileOf_17 rfl (lv_at hl 0 rfl) ?_
    refine g_get hx hb hts hin6 hown hK hG (key := 0) (by omega) (gC_0 st1 ad cy) rfl 0 (by decide) L_75 (fun _ h9 => h9) rfl dX6_tileOf_18 ?_
    have hr2 := gI_0 hI (0) (0)
    have kq3 : st1 0 (0) (0) = t := by rw [hst1, ust_s]
    rw [kq3] at hr2
    refine r_as kq3 ?_
    clear kq3
    refine r_if_le (tgt := 28) hx hb (by omega) dX6_tileOf_21 (by decide) (fun c4 => ?_) (fun c4 => ?_)
    · skip
      refine lv_aload_n hx hb dX6_tileOf_28 rfl (lv_at hl 0 rfl) ?_
      refine g_get hx hb hts hin6 hown hK hG (key := 0) (by omega) (gC_0 st1 ad cy) rfl 20 (by decide) L_60 (fun _ h9 => h9) rfl dX6_tileOf_29 ?_
      refine lv_iload_n hx hb dX6_tileOf_32 rfl (lv_at hl 1 rfl) ?_
      refine g_iald hx hb hK hG (16) (kd := 16) (o := 0) rfl rfl (by omega) (cp := 20) (ln := 6) rfl rfl (by omega) dX6_tileOf_33 ?_
      have hr5 := gI_20 hI (0) (a)
      have kq6 : st1 20 (0) (a) = st 20 (0) (a) := by rw [hst1, ust_c (by decide)]
      rw [kq6] at hr5
      refine r_as kq6 ?_
      clear kq6
      refine r_nm (fun v7 ev7 => ?_)
      rw [← ev7] at hr5
      exact g_iret hx hb hr hlocks hG (by
        first
          | (refine ⟨?_, ?_, hI⟩
             · congr 1; unfold aTile; rw [if_neg (by omega)]
             · rw [← ht]; assumption)
          | (refine ⟨?_, ?_, hI⟩
             · congr 1; unfold aTile; rw [if_pos (by omega)]; first | omega | (subst_vars; rfl) | (rw [if_pos (by omega)]; first | omega | (subst_vars; rfl)) | (rw [if_neg (by omega)]; first | omega | (subst_vars; rfl))
             · rw [← ht]; assumption)) dX6_tileOf_34
    · skip
      refine lv_iconst (v := iI (0)) hx hb dX6_tileOf_24 rfl ?_
      refine lv_goto (tgt := 34) hx hb dX6_tileOf_25 (by decide) ?_
      exact g_iret hx hb hr hlocks hG (by
        first
          | (refine ⟨?_, ?_, hI⟩
             · congr 1; unfold aTile; rw [if_neg (by omega)]
             · rw [← ht]; assumption)
          | (refine ⟨?_, ?_, hI⟩
             · congr 1; unfold aTile; rw [if_pos (by omega)]; first | omega | (subst_vars; rfl) | (rw [if_pos (by omega)]; first | omega | (subst_vars; rfl)) | (rw [if_neg (by omega)]; first | omega | (subst_vars; rfl))
             · rw [← ht]; assumption)) dX6_tileOf_34
  refine lv_aload_n hx hb dX6_tileOf_1 rfl (lv_at hl 0 rfl) ?_
  refine lv_iload_n hx hb dX6_tileOf_2 rfl (lv_at hl 1 rfl) ?_
  refine g_goi hG hA (va_runV (As := [.int (iI (a))]) (rest := [.ref (ad 0)]) ⟨hx, hb, hml, hown, hts⟩ (mX6_isLayer l D cy ad n st _ fz wb hn hI (by omega) (a) (by omega)) (cwV 1 hts gX6_tileOf_X6_isLayer rfl rfl rfl (by decide +kernel) ⟨Nat.le_of_ble_eq_true rfl, Nat.le_of_ble_eq_true rfl⟩) ⟨g_blind, va_recv hK hG.1 (q0 := 0) (ci := 6) rfl ((gw_at (by omega)).trans (by rw [gC_0 st ad cy])), g_pre hK hG hA hN hZ⟩ rfl rfl hl.1 rfl (lv_room (Nat.le_of_ble_eq_true rfl)) dX6_tileOf_3 ⟨Nat.zero_le _, Nat.zero_le _⟩) (fun r9 s9 H locs hp hG => ?_)
  obtain ⟨rfl, hs9⟩ := hp
  rw [hs9] at hG
  clear hs9
  refine r_nm (fun v8 ev8 => ?_)
  have hr9 := inF_s (a) 0 (st 14 0 0 - 1)
  rw [← ev8] at hr9
  refine r_if_eq (tgt := 13) hx hb (by omega) dX6_tileOf_6 (by decide) (fun c10 => ?_) (fun c10 => ?_)
  · skip
    refine lv_iconst (v := iI (1)) hx hb dX6_tileOf_13 rfl ?_
    exact hlab14 (1)  _ _ _ (by have hks := kLay_s st a; omega) hG (lv_sub hl [0, 1] rfl)
  · skip
    refine lv_iconst (v := iI (0)) hx hb dX6_tileOf_9 rfl ?_
    refine lv_goto (tgt := 14) hx hb dX6_tileOf_10 (by decide) ?_
    exact hlab14 (0)  _ _ _ (by have hks := kLay_s st a; omega) hG (lv_sub hl [0, 1] rfl)
set_option maxHeartbeats 400000 in
set_option maxRecDepth 100000 in
theorem mX6_rowOf (l : Launch) (D : va_G) (cy : Nat → ClassId) (ad : Nat → Nat) (n : Nat) (st : St) (sz fz : Nat) (wb : Int) (hn : 75 ≤ n) (hI : GI wb st) (hW : wb ≤ 2000000) (a : Int) (i : Int) (ha : -2147483648 ≤ a ∧ a < 2147483648) (hi : -2147483648 ≤ i ∧ i < 2147483648) : Met l yX6_rowOf wsX6_rowOf ({ frames := 2, cells := 0, slots := 0, locals := 43 }) (va_Pc [.ref (ad 0), .int (iI (a)), .int (iI (i))] (gB D cy ad n st sz fz)) (va_Qi (fun (r : Int32) (st' : St) => r = iI (aRow st a i) ∧ st' = ust st 0 0 0 (kRow st a i) ∧ GI wb st') (gP D cy ad n) (gA n ad sz)) 0 0 (gA n ad sz) := by
  refine Met.ofW (cc := cX6_rowOf) (maxL := 3) (ret := (some .int)) (by decide) rfl ?_
  intro p e s m args below meth c s₁ B hml hv
  obtain ⟨rfl, hsz, hP, hK, hD0, hN, hZ⟩ := hv
  have hx := B.exec
  have hb := B.bytes
  have hr := B.returns
  have hts := atoms_spec (ws := wsX6_rowOf) B.pre
  have hown : s.vm.findClass RX6 = some m.cls := findClass_of_methodNamed B.named
  have hlocks := B.notSynchronized
  subst hsz
  have hA : ∀ q : Nat, s.heap.size ≤ q → gA n ad s.heap.size q := fun q h => Or.inr h
  have hG : GH D cy ad n st (gA n ad s.heap.size) s.heap s.heap [] := ⟨hP, gw_A hD0, va_S.rf⟩
  have hl := lv_entry ([.ref (ad 0), .int (iI (a)), .int (iI (i))]) (n := 3) (Nat.le_of_ble_eq_true rfl)
  rw [lg_entry_eq]
  generalize (lg_sl ([.ref (ad 0), .int (iI (a)), .int (iI (i))]) ++ List.replicate (3 - (lg_sl ([.ref (ad 0), .int (iI (a)), .int (iI (i))])).length) Slot.unset).toArray = ls at hl ⊢
  have hl : lv_has ls 3 [(0, .ref (ad 0)), (1, .int (iI (a))), (2, .int (iI (i)))] := hl
  have hin6 : ∀ w ∈ u_ws RX6 TX6 25, w ∈ wsX6_rowOf := by decide +kernel
  have L_45 := hts (.fieldLink RX6 45 "CrossbarryModel" "inputs" "[I") (by decide +kernel)
  have L_60 := hts (.fieldLink RX6 60 "CrossbarryModel" "tileAt" "[I") (by decide +kernel)
  have L_63 := hts (.fieldLink RX6 63 "CrossbarryModel" "rows" "[I") (by decide +kernel)
  have L_75 := hts (.fieldLink RX6 75 "CrossbarryModel" "thrown" "I") (by decide +kernel)
  have hmn := gI_14 hI 0 0
  have hw15 := gI_15 hI 0 a
  refine lv_aload_n hx hb dX6_rowOf_0 rfl (lv_at hl 0 rfl) ?_
  have hlab30 : ∀ (t : Int) (H : Heap) (locs : List Loc) (ls : Array Slot), (t = kRow st a i) →  GH D cy ad n st (gA n ad s.heap.size) s.heap H locs → lv_has ls 3 [(0, .ref (ad 0)), (1, .int (iI (a))), (2, .int (iI (i)))] → W p l e (headSpec wsX6_rowOf { frames := 2, cells := 0, slots := 0, locals := 43 }).room s m (#[.ref (ad 0), .int (iI (a)), .int (iI (i))] : Array Value) below meth c H locs 0 0 (MQ below (va_Qi (fun (r : Int32) (st' : St) => r = iI (aRow st a i) ∧ st' = ust st 0 0 0 (kRow st a i) ∧ GI wb st') (gP D cy ad n) (gA n ad s.heap.size)) (#[.ref (ad 0), .int (iI (a)), .int (iI (i))] : Array Value) s 0 0 (gA n ad s.heap.size)) (F0 m 30 ls [.int (iI (t)), .ref (ad 0)]) := by
    intro t H locs ls ht hG hl
    have hks := kRow_s st a i
    refine g_put hx hb hts hin6 tyX6 tyX6_ok nmX6 hown hK hG (key := 0) (by omega) (gC_0 st ad cy) rfl 0 (by decide) L_75 (fun _ h9 => h9) rfl (ty := .int) (by decide +kernel) rfl rfl (Nat.le_of_ble_eq_true rfl) dX6_rowOf_30 (ust st 0 0 0 (t)) (fun j _ => gU_0 st ad cy (t) j) (fun H locs hG => ?_)
    obtain ⟨st1, hst1⟩ : ∃ z : St, z = ust st 0 (0) (0) (t) := ⟨_, rfl⟩
    rw [← hst1] at hG
    replace hI := hst1 ▸ gIu_0 hI (0) (0) (v := t) (by omega)
    refine lv_aload_n hx hb dX6_rowOf_33 rfl (lv_at hl 0 rfl) ?_
    refine g_get hx hb hts hin6 hown hK hG (key := 0) (by omega) (gC_0 st1 ad cy) rfl 0 (by decide) L_75 (fun _ h9 => h9) rfl dX6_rowOf_34 ?_
    have hr2 := gI_0 hI (0) (0)
    have kq3 : st1 0 (0) (0) = t := by rw [hst1, ust_s]
    rw [kq3] at hr2
    refine r_as kq3 ?_
    clear kq3
    refine r_if_le (tgt := 42) hx hb (by omega) dX6_rowOf_37 (by decide) (fun c4 => ?_) (fun c4 => ?_)
    · skip
      refine lv_aload_n hx hb dX6_rowOf_42 rfl (lv_at hl 0 rfl) ?_
      refine g_get hx hb hts hin6 hown hK hG (key := 0) (by omega) (gC_0 st1 ad cy) rfl 20 (by decide) L_60 (fun _ h9 => h9) rfl dX6_rowOf_43 ?_
      refine lv_iload_n hx hb dX6_rowOf_46 rfl (lv_at hl 1 rfl) ?_
      refine g_iald hx hb hK hG (16) (kd := 16) (o := 0) rfl rfl (by omega) (cp := 20) (ln := 6) rfl rfl (by omega) dX6_rowOf_47 ?_
      have hr5 := gI_20 hI (0) (a)
      have kq6 : st1 20 (0) (a) = st 20 (0) (a) := by rw [hst1, ust_c (by decide)]
      rw [kq6] at hr5
      refine r_as kq6 ?_
      clear kq6
      refine r_nm (fun v7 ev7 => ?_)
      rw [← ev7] at hr5
      refine lv_iconst (v := iI (-1)) hx hb dX6_rowOf_48 rfl ?_
      refine r_icmp_ne (tgt := 56) hx hb (by omega) dX6_rowOf_49 (by decide) (fun c8 => ?_) (fun c8 => ?_)
      · skip
        refine lv_aload_n hx hb dX6_rowOf_56 rfl (lv_at hl 0 rfl) ?_
        refine g_get hx hb hts hin6 hown hK hG (key := 0) (by omega) (gC_0 st1 ad cy) rfl 21 (by decide) L_63 (fun _ h9 => h9) rfl dX6_rowOf_57 ?_
        refine lv_bipush (v := iI (8)) hx hb dX6_rowOf_60 (by decide +kernel) ?_
        refine lv_iload_n hx hb dX6_rowOf_62 rfl (lv_at hl 1 rfl) ?_
        refine r_imul hx hb dX6_rowOf_63 ?_
        refine r_nm (fun v9 ev9 => ?_)
        refine lv_iload_n hx hb dX6_rowOf_64 rfl (lv_at hl 2 rfl) ?_
        refine r_iadd hx hb dX6_rowOf_65 ?_
        refine r_nm (fun v10 ev10 => ?_)
        refine g_iald hx hb hK hG (17) (kd := 17) (o := 0) rfl rfl (by omega) (cp := 21) (ln := 48) rfl rfl (by omega) dX6_rowOf_66 ?_
        have hr11 := gI_21 hI (0) (v10)
        have kq12 : st1 21 (0) (v10) = st 21 (0) (v10) := by rw [hst1, ust_c (by decide)]
        rw [kq12] at hr11
        refine r_as kq12 ?_
        clear kq12
        refine r_nm (fun v13 ev13 => ?_)
        rw [← ev13] at hr11
        exact g_iret hx hb hr hlocks hG (by
          first
            | (refine ⟨?_, ?_, hI⟩
               · congr 1; unfold aRow; rw [if_neg (by omega)]
               · rw [← ht]; assumption)
            | (refine ⟨?_, ?_, hI⟩
               · congr 1; unfold aRow; rw [if_pos (by omega)]; first | omega | (subst_vars; rfl) | (rw [if_pos (by omega)]; first | omega | (subst_vars; rfl)) | (rw [if_neg (by omega)]; first | omega | (subst_vars; rfl))
               · rw [← ht]; assumption)) dX6_rowOf_67
      · skip
        refine lv_iconst (v := iI (-1)) hx hb dX6_rowOf_52 rfl ?_
        refine lv_goto (tgt := 67) hx hb dX6_rowOf_53 (by decide) ?_
        exact g_iret hx hb hr hlocks hG (by
          first
            | (refine ⟨?_, ?_, hI⟩
               · congr 1; unfold aRow; rw [if_neg (by omega)]
               · rw [← ht]; assumption)
            | (refine ⟨?_, ?_, hI⟩
               · congr 1; unfold aRow; rw [if_pos (by omega)]; first | omega | (subst_vars; rfl) | (rw [if_pos (by omega)]; first | omega | (subst_vars; rfl)) | (rw [if_neg (by omega)]; first | omega | (subst_vars; rfl))
               · rw [← ht]; assumption)) dX6_rowOf_67
    · skip
      refine lv_iconst (v := iI (0)) hx hb dX6_rowOf_40 rfl ?_
      exact g_iret hx hb hr hlocks hG (by
        first
          | (refine ⟨?_, ?_, hI⟩
             · congr 1; unfold aRow; rw [if_neg (by omega)]
             · rw [← ht]; assumption)
          | (refine ⟨?_, ?_, hI⟩
             · congr 1; unfold aRow; rw [if_pos (by omega)]; first | omega | (subst_vars; rfl) | (rw [if_pos (by omega)]; first | omega | (subst_vars; rfl)) | (rw [if_neg (by omega)]; first | omega | (subst_vars; rfl))
             · rw [← ht]; assumption)) dX6_rowOf_41
  refine lv_aload_n hx hb dX6_rowOf_1 rfl (lv_at hl 0 rfl) ?_
  refine lv_iload_n hx hb dX6_rowOf_2 rfl (lv_at hl 1 rfl) ?_
  refine g_goi hG hA (va_runV (As := [.int (iI (a))]) (rest := [.ref (ad 0)]) ⟨hx, hb, hml, hown, hts⟩ (mX6_isLayer l D cy ad n st _ fz wb hn hI (by omega) (a) (by omega)) (cwV 1 hts gX6_rowOf_X6_isLayer rfl rfl rfl (by decide +kernel) ⟨Nat.le_of_ble_eq_true rfl, Nat.le_of_ble_eq_true rfl⟩) ⟨g_blind, va_recv hK hG.1 (q0 := 0) (ci := 6) rfl ((gw_at (by omega)).trans (by rw [gC_0 st ad cy])), g_pre hK hG hA hN hZ⟩ rfl rfl hl.1 rfl (lv_room (Nat.le_of_ble_eq_true rfl)) dX6_rowOf_3 ⟨Nat.zero_le _, Nat.zero_le _⟩) (fun r9 s9 H locs hp hG => ?_)
  obtain ⟨rfl, hs9⟩ := hp
  rw [hs9] at hG
  clear hs9
  refine r_nm (fun v14 ev14 => ?_)
  have hr15 := inF_s (a) 0 (st 14 0 0 - 1)
  rw [← ev14] at hr15
  refine r_if_eq (tgt := 29) hx hb (by omega) dX6_rowOf_6 (by decide) (fun c16 => ?_) (fun c16 => ?_)
  · skip
    refine lv_iconst (v := iI (1)) hx hb dX6_rowOf_29 rfl ?_
    exact hlab30 (1)  _ _ _ (by have hks := kRow_s st a i; omega) hG (lv_sub hl [0, 1, 2] rfl)
  · skip
    refine lv_iload_n hx hb dX6_rowOf_9 rfl (lv_at hl 2 rfl) ?_
    refine lv_iconst (v := iI (0)) hx hb dX6_rowOf_10 rfl ?_
    refine lv_aload_n hx hb dX6_rowOf_11 rfl (lv_at hl 0 rfl) ?_
    refine g_get hx hb hts hin6 hown hK hG (key := 0) (by omega) (gC_0 st ad cy) rfl 15 (by decide) L_45 (fun _ h9 => h9) rfl dX6_rowOf_12 ?_
    refine lv_iload_n hx hb dX6_rowOf_15 rfl (lv_at hl 1 rfl) ?_
    refine g_iald hx hb hK hG (11) (kd := 11) (o := 0) rfl rfl (by omega) (cp := 15) (ln := 6) rfl rfl (by omega) dX6_rowOf_16 ?_
    have hr17 := gI_15 hI (0) (a)
    refine r_nm (fun v18 ev18 => ?_)
    rw [← ev18] at hr17
    refine lv_iconst (v := iI (1)) hx hb dX6_rowOf_17 rfl ?_
    refine r_isub hx hb dX6_rowOf_18 ?_
    refine r_nm (fun v19 ev19 => ?_)
    refine g_goi hG hA (va_runS (As := [.int (iI (i)), .int (iI (0)), .int (iI (v19))]) (rest := [.ref (ad 0)]) ⟨hx, hb, hml, hown, hts⟩ (mX6_in l D cy ad n st _ fz wb hn hI (by omega) (i) (0) (v19) (by omega) (by omega) (by omega)) (va_cwS 3 hts gX6_rowOf_X6_in rfl rfl rfl (by decide +kernel) ⟨Nat.le_of_ble_eq_true rfl, Nat.le_of_ble_eq_true rfl⟩) ⟨g_blind, g_pre hK hG hA hN hZ⟩ rfl rfl hl.1 rfl (lv_room (Nat.le_of_ble_eq_true rfl)) dX6_rowOf_19 ⟨Nat.zero_le _, Nat.zero_le _⟩) (fun r9 s9 H locs hp hG => ?_)
    obtain ⟨rfl, hs9⟩ := hp
    rw [hs9] at hG
    clear hs9
    refine r_nm (fun v20 ev20 => ?_)
    have hr21 := inF_s (i) (0) (v19)
    rw [← ev20] at hr21
    refine r_if_eq (tgt := 29) hx hb (by omega) dX6_rowOf_22 (by decide) (fun c22 => ?_) (fun c22 => ?_)
    · skip
      refine lv_iconst (v := iI (1)) hx hb dX6_rowOf_29 rfl ?_
      exact hlab30 (1)  _ _ _ (by have hks := kRow_s st a i; omega) hG (lv_sub hl [0, 1, 2] rfl)
    · skip
      refine lv_iconst (v := iI (0)) hx hb dX6_rowOf_25 rfl ?_
      refine lv_goto (tgt := 30) hx hb dX6_rowOf_26 (by decide) ?_
      exact hlab30 (0)  _ _ _ (by have hks := kRow_s st a i; omega) hG (lv_sub hl [0, 1, 2] rfl)
