set_option maxHeartbeats 400000 in
set_option maxRecDepth 100000 in
theorem mX6_hour (l : Launch) (D : va_G) (cy : Nat → ClassId) (ad : Nat → Nat) (n : Nat) (st : St) (sz fz : Nat) (wb : Int) (hn : 75 ≤ n) (hI : GI wb st) (hW : wb ≤ 2000000)   : Met l yX6_hour wsX6_hour ({ frames := 0, cells := 0, slots := 0, locals := 0 }) (va_Pc [.ref (ad 0)] (gB D cy ad n st sz fz)) (va_Qi (fun (r : Int32) (st' : St) => r = iI (st 1 0 0) ∧ st' = ust st 0 0 0 0 ∧ GI wb st') (gP D cy ad n) (gA n ad sz)) 0 0 (gA n ad sz) := by
  refine Met.ofW (cc := cX6_hour) (maxL := 1) (ret := (some .int)) (by decide) rfl ?_
  intro p e s m args below meth c s₁ B hml hv
  obtain ⟨rfl, hsz, hP, hK, hD0, hN, hZ⟩ := hv
  have hx := B.exec
  have hb := B.bytes
  have hr := B.returns
  have hts := atoms_spec (ws := wsX6_hour) B.pre
  have hown : s.vm.findClass RX6 = some m.cls := findClass_of_methodNamed B.named
  have hlocks := B.notSynchronized
  subst hsz
  have hA : ∀ q : Nat, s.heap.size ≤ q → gA n ad s.heap.size q := fun q h => Or.inr h
  have hG : GH D cy ad n st (gA n ad s.heap.size) s.heap s.heap [] := ⟨hP, gw_A hD0, va_S.rf⟩
  have hl := lv_entry ([.ref (ad 0)]) (n := 1) (Nat.le_of_ble_eq_true rfl)
  rw [lg_entry_eq]
  generalize (lg_sl ([.ref (ad 0)]) ++ List.replicate (1 - (lg_sl ([.ref (ad 0)])).length) Slot.unset).toArray = ls at hl ⊢
  have hl : lv_has ls 1 [(0, .ref (ad 0))] := hl
  have hin6 : ∀ w ∈ u_ws RX6 TX6 25, w ∈ wsX6_hour := by decide +kernel
  have L_75 := hts (.fieldLink RX6 75 "CrossbarryModel" "thrown" "I") (by decide +kernel)
  have L_92 := hts (.fieldLink RX6 92 "CrossbarryModel" "now" "I") (by decide +kernel)
  refine lv_aload_n hx hb dX6_hour_0 rfl (lv_at hl 0 rfl) ?_
  refine lv_iconst (v := iI (0)) hx hb dX6_hour_1 rfl ?_
  refine g_put hx hb hts hin6 tyX6 tyX6_ok nmX6 hown hK hG (key := 0) (by omega) (gC_0 st ad cy) rfl 0 (by decide) L_75 (fun _ h9 => h9) rfl (ty := .int) (by decide +kernel) rfl rfl (Nat.le_of_ble_eq_true rfl) dX6_hour_2 (ust st 0 0 0 (0)) (fun j _ => gU_0 st ad cy (0) j) (fun H locs hG => ?_)
  obtain ⟨st1, hst1⟩ : ∃ z : St, z = ust st 0 (0) (0) (0) := ⟨_, rfl⟩
  rw [← hst1] at hG
  replace hI := hst1 ▸ gIu_0 hI (0) (0) (v := 0) (by omega)
  refine lv_aload_n hx hb dX6_hour_5 rfl (lv_at hl 0 rfl) ?_
  refine g_get hx hb hts hin6 hown hK hG (key := 0) (by omega) (gC_0 st1 ad cy) rfl 1 (by decide) L_92 (fun _ h9 => h9) rfl dX6_hour_6 ?_
  have hr2 := gI_1 hI (0) (0)
  have kq3 : st1 1 (0) (0) = st 1 (0) (0) := by rw [hst1, ust_c (by decide)]
  rw [kq3] at hr2
  refine r_as kq3 ?_
  clear kq3
  refine r_nm (fun v4 ev4 => ?_)
  rw [← ev4] at hr2
  exact g_iret hx hb hr hlocks hG (by
    exact ⟨by congr 1, by assumption, hI⟩) dX6_hour_9
set_option maxHeartbeats 400000 in
set_option maxRecDepth 100000 in
theorem mX6_next (l : Launch) (D : va_G) (cy : Nat → ClassId) (ad : Nat → Nat) (n : Nat) (st : St) (sz fz : Nat) (wb : Int) (hn : 75 ≤ n) (hI : GI wb st) (hW : wb ≤ 2000000) (a : Int) (b : Int) (ha : -2147483648 ≤ a ∧ a < 2147483648) (hb0 : -2147483648 ≤ b ∧ b < 2147483648) : Met l yX6_next wsX6_next ({ frames := 2, cells := 0, slots := 0, locals := 43 }) (va_Pc [.ref (ad 0), .int (iI (a)), .int (iI (b))] (gB D cy ad n st sz fz)) (va_Qi (fun (r : Int32) (st' : St) => r = iI (aNext st a b) ∧ st' = sNext st a b ∧ GI wb st') (gP D cy ad n) (gA n ad sz)) 0 0 (gA n ad sz) := by
  refine Met.ofW (cc := cX6_next) (maxL := 4) (ret := (some .int)) (by decide) rfl ?_
  intro p e s m args below meth c s₁ B hml hv
  obtain ⟨rfl, hsz, hP, hK, hD0, hN, hZ⟩ := hv
  have hx := B.exec
  have hb := B.bytes
  have hr := B.returns
  have hts := atoms_spec (ws := wsX6_next) B.pre
  have hown : s.vm.findClass RX6 = some m.cls := findClass_of_methodNamed B.named
  have hlocks := B.notSynchronized
  subst hsz
  have hA : ∀ q : Nat, s.heap.size ≤ q → gA n ad s.heap.size q := fun q h => Or.inr h
  have hG : GH D cy ad n st (gA n ad s.heap.size) s.heap s.heap [] := ⟨hP, gw_A hD0, va_S.rf⟩
  have hl := lv_entry ([.ref (ad 0), .int (iI (a)), .int (iI (b))]) (n := 4) (Nat.le_of_ble_eq_true rfl)
  rw [lg_entry_eq]
  generalize (lg_sl ([.ref (ad 0), .int (iI (a)), .int (iI (b))]) ++ List.replicate (4 - (lg_sl ([.ref (ad 0), .int (iI (a)), .int (iI (b))])).length) Slot.unset).toArray = ls at hl ⊢
  have hl : lv_has ls 4 [(0, .ref (ad 0)), (1, .int (iI (a))), (2, .int (iI (b)))] := hl
  have hin6 : ∀ w ∈ u_ws RX6 TX6 25, w ∈ wsX6_next := by decide +kernel
  have L_45 := hts (.fieldLink RX6 45 "CrossbarryModel" "inputs" "[I") (by decide +kernel)
  have L_48 := hts (.fieldLink RX6 48 "CrossbarryModel" "outputs" "[I") (by decide +kernel)
  have L_57 := hts (.fieldLink RX6 57 "CrossbarryModel" "nexts" "[I") (by decide +kernel)
  have L_75 := hts (.fieldLink RX6 75 "CrossbarryModel" "thrown" "I") (by decide +kernel)
  have hmn := gI_14 hI 0 0
  have hks := kNext_s st a b
  have hlab71 : ∀  (sta : St) (H : Heap) (locs : List Loc) (ls : Array Slot), (sta = ust st 0 0 0 (kNext st a b)) → GI wb sta → GH D cy ad n sta (gA n ad s.heap.size) s.heap H locs → lv_has ls 4 [(0, .ref (ad 0)), (1, .int (iI (a))), (2, .int (iI (b)))] → W p l e (headSpec wsX6_next { frames := 2, cells := 0, slots := 0, locals := 43 }).room s m (#[.ref (ad 0), .int (iI (a)), .int (iI (b))] : Array Value) below meth c H locs 0 0 (MQ below (va_Qi (fun (r : Int32) (st' : St) => r = iI (aNext st a b) ∧ st' = sNext st a b ∧ GI wb st') (gP D cy ad n) (gA n ad s.heap.size)) (#[.ref (ad 0), .int (iI (a)), .int (iI (b))] : Array Value) s 0 0 (gA n ad s.heap.size)) (F0 m 71 ls []) := by
    intro  sta H locs ls hsta hI hG hl
    have hfr : ∀ c o i, (c < 0 ∨ 0 < c) → sta c o i = st c o i := fun c o i h => by rw [hsta]; exact ust_c (by omega)
    have ht9 : sta 0 0 0 = kNext st a b := by rw [hsta]; exact ust_s
    refine lv_aload_n hx hb dX6_next_71 rfl (lv_at hl 0 rfl) ?_
    refine g_get hx hb hts hin6 hown hK hG (key := 0) (by omega) (gC_0 sta ad cy) rfl 0 (by decide) L_75 (fun _ h9 => h9) rfl dX6_next_72 ?_
    have hr1 := gI_0 hI (0) (0)
    refine r_nm (fun v2 ev2 => ?_)
    rw [← ev2] at hr1
    refine r_if_le (tgt := 80) hx hb (by omega) dX6_next_75 (by decide) (fun c3 => ?_) (fun c3 => ?_)
    · skip
      refine lv_aload_n hx hb dX6_next_80 rfl (lv_at hl 0 rfl) ?_
      refine g_get hx hb hts hin6 hown hK hG (key := 0) (by omega) (gC_0 sta ad cy) rfl 19 (by decide) L_57 (fun _ h9 => h9) rfl dX6_next_81 ?_
      refine lv_iload_n hx hb dX6_next_84 rfl (lv_at hl 1 rfl) ?_
      refine g_iald hx hb hK hG (15) (kd := 15) (o := 0) rfl rfl (by omega) (cp := 19) (ln := 6) rfl rfl (by omega) dX6_next_85 ?_
      have hr4 := gI_19 hI (0) (a)
      have kq5 : sta 19 (0) (a) = st 19 (0) (a) := by rw [hfr _ _ _ (by decide)]
      rw [kq5] at hr4
      refine r_as kq5 ?_
      clear kq5
      refine r_nm (fun v6 ev6 => ?_)
      rw [← ev6] at hr4
      refine lv_istore_n (lv' := [(3, .int (iI (v6))), (0, .ref (ad 0)), (1, .int (iI (a))), (2, .int (iI (b)))]) hx hb dX6_next_86 rfl hl (by decide) rfl (fun ls hl => ?_)
      refine lv_aload_n hx hb dX6_next_87 rfl (lv_at hl 1 rfl) ?_
      refine g_get hx hb hts hin6 hown hK hG (key := 0) (by omega) (gC_0 sta ad cy) rfl 19 (by decide) L_57 (fun _ h9 => h9) rfl dX6_next_88 ?_
      refine lv_iload_n hx hb dX6_next_91 rfl (lv_at hl 2 rfl) ?_
      refine lv_iload_n hx hb dX6_next_92 rfl (lv_at hl 3 rfl) ?_
      refine g_iast hx hb hK hG (15) (kd := 15) (o := 0) rfl rfl (by omega) (cp := 19) (ln := 6) rfl rfl (by omega) dX6_next_93 (fun H locs hG => ?_)
      obtain ⟨st7, hst7⟩ : ∃ z : St, z = ust sta 19 (0) (a) (b) := ⟨_, rfl⟩
      rw [← hst7] at hG
      replace hI := hst7 ▸ gIu_19 hI (0) (a) (v := b) (by omega)
      refine lv_iload_n hx hb dX6_next_94 rfl (lv_at hl 0 rfl) ?_
      exact g_iret hx hb hr hlocks hG (by
        first
          | (refine ⟨?_, ?_, hI⟩
             · congr 1; unfold aNext; rw [if_neg (by omega)]
             · unfold sNext; rw [if_neg (by omega)]; assumption)
          | (refine ⟨?_, ?_, hI⟩
             · congr 1; unfold aNext; rw [if_pos (by omega)]; first | omega | (subst_vars; rfl)
             · unfold sNext; rw [if_pos (by omega)]; subst_vars; rfl)) dX6_next_95
    · skip
      refine lv_iconst (v := iI (0)) hx hb dX6_next_78 rfl ?_
      exact g_iret hx hb hr hlocks hG (by
        first
          | (refine ⟨?_, ?_, hI⟩
             · congr 1; unfold aNext; rw [if_neg (by omega)]
             · unfold sNext; rw [if_neg (by omega)]; assumption)
          | (refine ⟨?_, ?_, hI⟩
             · congr 1; unfold aNext; rw [if_pos (by omega)]; first | omega | (subst_vars; rfl)
             · unfold sNext; rw [if_pos (by omega)]; subst_vars; rfl)) dX6_next_79
  refine lv_aload_n hx hb dX6_next_0 rfl (lv_at hl 0 rfl) ?_
  have hlab27 : ∀ (t1 : Int) (H : Heap) (locs : List Loc) (ls : Array Slot), ((t1 = 0 ∧ ((0 ≤ a ∧ a < st 14 0 0) ∧ (b = -1 ∨ (0 ≤ b ∧ b < st 14 0 0)))) ∨ (t1 = 1 ∧ ¬ ((0 ≤ a ∧ a < st 14 0 0) ∧ (b = -1 ∨ (0 ≤ b ∧ b < st 14 0 0))))) →  GH D cy ad n st (gA n ad s.heap.size) s.heap H locs → lv_has ls 4 [(0, .ref (ad 0)), (1, .int (iI (a))), (2, .int (iI (b)))] → W p l e (headSpec wsX6_next { frames := 2, cells := 0, slots := 0, locals := 43 }).room s m (#[.ref (ad 0), .int (iI (a)), .int (iI (b))] : Array Value) below meth c H locs 0 0 (MQ below (va_Qi (fun (r : Int32) (st' : St) => r = iI (aNext st a b) ∧ st' = sNext st a b ∧ GI wb st') (gP D cy ad n) (gA n ad s.heap.size)) (#[.ref (ad 0), .int (iI (a)), .int (iI (b))] : Array Value) s 0 0 (gA n ad s.heap.size)) (F0 m 27 ls [.int (iI (t1)), .ref (ad 0)]) := by
    intro t1 H locs ls ht1 hG hl
    refine g_put hx hb hts hin6 tyX6 tyX6_ok nmX6 hown hK hG (key := 0) (by omega) (gC_0 st ad cy) rfl 0 (by decide) L_75 (fun _ h9 => h9) rfl (ty := .int) (by decide +kernel) rfl rfl (Nat.le_of_ble_eq_true rfl) dX6_next_27 (ust st 0 0 0 (t1)) (fun j _ => gU_0 st ad cy (t1) j) (fun H locs hG => ?_)
    obtain ⟨st8, hst8⟩ : ∃ z : St, z = ust st 0 (0) (0) (t1) := ⟨_, rfl⟩
    rw [← hst8] at hG
    replace hI := hst8 ▸ gIu_0 hI (0) (0) (v := t1) (by omega)
    refine lv_aload_n hx hb dX6_next_30 rfl (lv_at hl 0 rfl) ?_
    refine g_get hx hb hts hin6 hown hK hG (key := 0) (by omega) (gC_0 st8 ad cy) rfl 0 (by decide) L_75 (fun _ h9 => h9) rfl dX6_next_31 ?_
    have hr9 := gI_0 hI (0) (0)
    have kq10 : st8 0 (0) (0) = t1 := by rw [hst8, ust_s]
    rw [kq10] at hr9
    refine r_as kq10 ?_
    clear kq10
    refine r_if_ne (tgt := 71) hx hb (by omega) dX6_next_34 (by decide) (fun c11 => ?_) (fun c11 => ?_)
    · skip
      exact hlab71   st8 _ _ _ (by first | (rw [show kNext st a b = t1 by omega]; assumption) | (subst_vars; rw [ust_ust])) hI hG (lv_sub hl [0, 1, 2] rfl)
    · skip
      refine lv_iload_n hx hb dX6_next_37 rfl (lv_at hl 2 rfl) ?_
      refine lv_iconst (v := iI (-1)) hx hb dX6_next_38 rfl ?_
      refine r_icmp_eq (tgt := 71) hx hb (by omega) dX6_next_39 (by decide) (fun c12 => ?_) (fun c12 => ?_)
      · skip
        exact hlab71   st8 _ _ _ (by first | (rw [show kNext st a b = t1 by omega]; assumption) | (subst_vars; rw [ust_ust])) hI hG (lv_sub hl [0, 1, 2] rfl)
      · skip
        refine lv_aload_n hx hb dX6_next_42 rfl (lv_at hl 0 rfl) ?_
        have hlab68 : ∀ (t2 : Int) (H : Heap) (locs : List Loc) (ls : Array Slot), (t2 = kNext st a b) →  GH D cy ad n st8 (gA n ad s.heap.size) s.heap H locs → lv_has ls 4 [(0, .ref (ad 0)), (1, .int (iI (a))), (2, .int (iI (b)))] → W p l e (headSpec wsX6_next { frames := 2, cells := 0, slots := 0, locals := 43 }).room s m (#[.ref (ad 0), .int (iI (a)), .int (iI (b))] : Array Value) below meth c H locs 0 0 (MQ below (va_Qi (fun (r : Int32) (st' : St) => r = iI (aNext st a b) ∧ st' = sNext st a b ∧ GI wb st') (gP D cy ad n) (gA n ad s.heap.size)) (#[.ref (ad 0), .int (iI (a)), .int (iI (b))] : Array Value) s 0 0 (gA n ad s.heap.size)) (F0 m 68 ls [.int (iI (t2)), .ref (ad 0)]) := by
          intro t2 H locs ls ht2 hG hl
          refine g_put hx hb hts hin6 tyX6 tyX6_ok nmX6 hown hK hG (key := 0) (by omega) (gC_0 st8 ad cy) rfl 0 (by decide) L_75 (fun _ h9 => h9) rfl (ty := .int) (by decide +kernel) rfl rfl (Nat.le_of_ble_eq_true rfl) dX6_next_68 (ust st8 0 0 0 (t2)) (fun j _ => gU_0 st8 ad cy (t2) j) (fun H locs hG => ?_)
          obtain ⟨st13, hst13⟩ : ∃ z : St, z = ust st8 0 (0) (0) (t2) := ⟨_, rfl⟩
          rw [← hst13] at hG
          replace hI := hst13 ▸ gIu_0 hI (0) (0) (v := t2) (by omega)
          exact hlab71   st13 _ _ _ (by first | (rw [show kNext st a b = t1 by omega]; assumption) | (subst_vars; rw [ust_ust])) hI hG (lv_sub hl [0, 1, 2] rfl)
        refine lv_iload_n hx hb dX6_next_43 rfl (lv_at hl 2 rfl) ?_
        refine lv_iload_n hx hb dX6_next_44 rfl (lv_at hl 1 rfl) ?_
        refine r_icmp_le (tgt := 67) hx hb (by omega) dX6_next_45 (by decide) (fun c14 => ?_) (fun c14 => ?_)
        · skip
          refine lv_iconst (v := iI (2)) hx hb dX6_next_67 rfl ?_
          exact hlab68 (2)  _ _ _ (by omega) hG (lv_sub hl [0, 1, 2] rfl)
        · skip
          refine lv_aload_n hx hb dX6_next_48 rfl (lv_at hl 0 rfl) ?_
          refine g_get hx hb hts hin6 hown hK hG (key := 0) (by omega) (gC_0 st8 ad cy) rfl 15 (by decide) L_45 (fun _ h9 => h9) rfl dX6_next_49 ?_
          refine lv_iload_n hx hb dX6_next_52 rfl (lv_at hl 2 rfl) ?_
          refine g_iald hx hb hK hG (11) (kd := 11) (o := 0) rfl rfl (by omega) (cp := 15) (ln := 6) rfl rfl (by omega) dX6_next_53 ?_
          have hr15 := gI_15 hI (0) (b)
          have kq16 : st8 15 (0) (b) = st 15 (0) (b) := by rw [hst8, ust_c (by decide)]
          rw [kq16] at hr15
          refine r_as kq16 ?_
          clear kq16
          refine r_nm (fun v17 ev17 => ?_)
          rw [← ev17] at hr15
          refine lv_aload_n hx hb dX6_next_54 rfl (lv_at hl 0 rfl) ?_
          refine g_get hx hb hts hin6 hown hK hG (key := 0) (by omega) (gC_0 st8 ad cy) rfl 16 (by decide) L_48 (fun _ h9 => h9) rfl dX6_next_55 ?_
          refine lv_iload_n hx hb dX6_next_58 rfl (lv_at hl 1 rfl) ?_
          refine g_iald hx hb hK hG (12) (kd := 12) (o := 0) rfl rfl (by omega) (cp := 16) (ln := 6) rfl rfl (by omega) dX6_next_59 ?_
          have hr18 := gI_16 hI (0) (a)
          have kq19 : st8 16 (0) (a) = st 16 (0) (a) := by rw [hst8, ust_c (by decide)]
          rw [kq19] at hr18
          refine r_as kq19 ?_
          clear kq19
          refine r_nm (fun v20 ev20 => ?_)
          rw [← ev20] at hr18
          refine r_icmp_lt (tgt := 67) hx hb (by omega) dX6_next_60 (by decide) (fun c21 => ?_) (fun c21 => ?_)
          · skip
            refine lv_iconst (v := iI (2)) hx hb dX6_next_67 rfl ?_
            exact hlab68 (2)  _ _ _ (by omega) hG (lv_sub hl [0, 1, 2] rfl)
          · skip
            refine lv_iconst (v := iI (0)) hx hb dX6_next_63 rfl ?_
            refine lv_goto (tgt := 68) hx hb dX6_next_64 (by decide) ?_
            exact hlab68 (0)  _ _ _ (by omega) hG (lv_sub hl [0, 1, 2] rfl)
  refine lv_aload_n hx hb dX6_next_1 rfl (lv_at hl 0 rfl) ?_
  refine lv_iload_n hx hb dX6_next_2 rfl (lv_at hl 1 rfl) ?_
  refine g_goi hG hA (va_runV (As := [.int (iI (a))]) (rest := [.ref (ad 0)]) ⟨hx, hb, hml, hown, hts⟩ (mX6_isLayer l D cy ad n st _ fz wb hn hI (by omega) (a) (by omega)) (cwV 1 hts gX6_next_X6_isLayer rfl rfl rfl (by decide +kernel) ⟨Nat.le_of_ble_eq_true rfl, Nat.le_of_ble_eq_true rfl⟩) ⟨g_blind, va_recv hK hG.1 (q0 := 0) (ci := 6) rfl ((gw_at (by omega)).trans (by rw [gC_0 st ad cy])), g_pre hK hG hA hN hZ⟩ rfl rfl hl.1 rfl (lv_room (Nat.le_of_ble_eq_true rfl)) dX6_next_3 ⟨Nat.zero_le _, Nat.zero_le _⟩) (fun r9 s9 H locs hp hG => ?_)
  obtain ⟨rfl, hs9⟩ := hp
  rw [hs9] at hG
  clear hs9
  refine r_nm (fun v22 ev22 => ?_)
  have hr23 := inF_s (a) 0 (st 14 0 0 - 1)
  rw [← ev22] at hr23
  refine r_if_eq (tgt := 22) hx hb (by omega) dX6_next_6 (by decide) (fun c24 => ?_) (fun c24 => ?_)
  · skip
    refine lv_iconst (v := iI (1)) hx hb dX6_next_22 rfl ?_
    refine lv_goto (tgt := 27) hx hb dX6_next_23 (by decide) ?_
    exact hlab27 (1)  _ _ _ (by omega) hG (lv_sub hl [0, 1, 2] rfl)
  · skip
    refine lv_iload_n hx hb dX6_next_9 rfl (lv_at hl 2 rfl) ?_
    refine lv_iconst (v := iI (-1)) hx hb dX6_next_10 rfl ?_
    refine r_icmp_eq (tgt := 26) hx hb (by omega) dX6_next_11 (by decide) (fun c25 => ?_) (fun c25 => ?_)
    · skip
      refine lv_iconst (v := iI (0)) hx hb dX6_next_26 rfl ?_
      exact hlab27 (0)  _ _ _ (by omega) hG (lv_sub hl [0, 1, 2] rfl)
    · skip
      refine lv_aload_n hx hb dX6_next_14 rfl (lv_at hl 0 rfl) ?_
      refine lv_iload_n hx hb dX6_next_15 rfl (lv_at hl 2 rfl) ?_
      refine g_goi hG hA (va_runV (As := [.int (iI (b))]) (rest := [.ref (ad 0)]) ⟨hx, hb, hml, hown, hts⟩ (mX6_isLayer l D cy ad n st _ fz wb hn hI (by omega) (b) (by omega)) (cwV 1 hts gX6_next_X6_isLayer rfl rfl rfl (by decide +kernel) ⟨Nat.le_of_ble_eq_true rfl, Nat.le_of_ble_eq_true rfl⟩) ⟨g_blind, va_recv hK hG.1 (q0 := 0) (ci := 6) rfl ((gw_at (by omega)).trans (by rw [gC_0 st ad cy])), g_pre hK hG hA hN hZ⟩ rfl rfl hl.1 rfl (lv_room (Nat.le_of_ble_eq_true rfl)) dX6_next_16 ⟨Nat.zero_le _, Nat.zero_le _⟩) (fun r9 s9 H locs hp hG => ?_)
      obtain ⟨rfl, hs9⟩ := hp
      rw [hs9] at hG
      clear hs9
      refine r_nm (fun v26 ev26 => ?_)
      have hr27 := inF_s (b) 0 (st 14 0 0 - 1)
      rw [← ev26] at hr27
      refine r_if_ne (tgt := 26) hx hb (by omega) dX6_next_19 (by decide) (fun c28 => ?_) (fun c28 => ?_)
      · skip
        refine lv_iconst (v := iI (0)) hx hb dX6_next_26 rfl ?_
        exact hlab27 (0)  _ _ _ (by omega) hG (lv_sub hl [0, 1, 2] rfl)
      · skip
        refine lv_iconst (v := iI (1)) hx hb dX6_next_22 rfl ?_
        refine lv_goto (tgt := 27) hx hb dX6_next_23 (by decide) ?_
        exact hlab27 (1)  _ _ _ (by omega) hG (lv_sub hl [0, 1, 2] rfl)
set_option maxHeartbeats 400000 in
set_option maxRecDepth 100000 in
theorem mX6_stick (l : Launch) (D : va_G) (cy : Nat → ClassId) (ad : Nat → Nat) (n : Nat) (st : St) (sz fz : Nat) (wb : Int) (hn : 75 ≤ n) (hI : GI wb st) (hW : wb ≤ 2000000) (t0 : Int) (b : Int) (d : Int) (v : Int) (ht0 : -2147483648 ≤ t0 ∧ t0 < 2147483648) (hb : -2147483648 ≤ b ∧ b < 2147483648) (hd : -2147483648 ≤ d ∧ d < 2147483648) (hv : -2147483648 ≤ v ∧ v < 2147483648) : Met l yX6_stick wsX6_stick ({ frames := 3, cells := 0, slots := 0, locals := 64 }) (va_Pc [.ref (ad 0), .int (iI (t0)), .int (iI (b)), .int (iI (d)), .int (iI (v))] (gB D cy ad n st sz fz)) (va_Qv (fun (st' : St) => st' = sStick st t0 b d v ∧ GI wb st') (gP D cy ad n) (gA n ad sz)) 0 0 (gA n ad sz) := by
  refine Met.ofW (cc := cX6_stick) (maxL := 5) (ret := none) (by decide) rfl ?_
  intro p e s m args below meth c s₁ B hml hv
  obtain ⟨rfl, hsz, hP, hK, hD0, hN, hZ⟩ := hv
  have hx := B.exec
  have hb := B.bytes
  have hr := B.returns
  have hts := atoms_spec (ws := wsX6_stick) B.pre
  have hown : s.vm.findClass RX6 = some m.cls := findClass_of_methodNamed B.named
  have hlocks := B.notSynchronized
  subst hsz
  have hA : ∀ q : Nat, s.heap.size ≤ q → gA n ad s.heap.size q := fun q h => Or.inr h
  have hG : GH D cy ad n st (gA n ad s.heap.size) s.heap s.heap [] := ⟨hP, gw_A hD0, va_S.rf⟩
  have hl := lv_entry ([.ref (ad 0), .int (iI (t0)), .int (iI (b)), .int (iI (d)), .int (iI (v))]) (n := 5) (Nat.le_of_ble_eq_true rfl)
  rw [lg_entry_eq]
  generalize (lg_sl ([.ref (ad 0), .int (iI (t0)), .int (iI (b)), .int (iI (d)), .int (iI (v))]) ++ List.replicate (5 - (lg_sl ([.ref (ad 0), .int (iI (t0)), .int (iI (b)), .int (iI (d)), .int (iI (v))])).length) Slot.unset).toArray = ls at hl ⊢
  have hl : lv_has ls 5 [(0, .ref (ad 0)), (1, .int (iI (t0))), (2, .int (iI (b))), (3, .int (iI (d))), (4, .int (iI (v)))] := hl
  have hin6 : ∀ w ∈ u_ws RX6 TX6 25, w ∈ wsX6_stick := by decide +kernel
  have L_23 := hts (.fieldLink RX6 23 "CrossbarryModel" "isStuck" "[Z") (by decide +kernel)
  have L_75 := hts (.fieldLink RX6 75 "CrossbarryModel" "thrown" "I") (by decide +kernel)
  refine lv_aload_n hx hb dX6_stick_0 rfl (lv_at hl 0 rfl) ?_
  have hlab48 : ∀ (t : Int) (H : Heap) (locs : List Loc) (ls : Array Slot), (t = kStick st t0 b d v) →  GH D cy ad n st (gA n ad s.heap.size) s.heap H locs → lv_has ls 5 [(0, .ref (ad 0)), (1, .int (iI (t0))), (2, .int (iI (b))), (3, .int (iI (d))), (4, .int (iI (v)))] → W p l e (headSpec wsX6_stick { frames := 3, cells := 0, slots := 0, locals := 64 }).room s m (#[.ref (ad 0), .int (iI (t0)), .int (iI (b)), .int (iI (d)), .int (iI (v))] : Array Value) below meth c H locs 0 0 (MQ below (va_Qv (fun (st' : St) => st' = sStick st t0 b d v ∧ GI wb st') (gP D cy ad n) (gA n ad s.heap.size)) (#[.ref (ad 0), .int (iI (t0)), .int (iI (b)), .int (iI (d)), .int (iI (v))] : Array Value) s 0 0 (gA n ad s.heap.size)) (F0 m 48 ls [.int (iI (t)), .ref (ad 0)]) := by
    intro t H locs ls ht hG hl
    have hks := kStick_s st t0 b d v
    refine g_put hx hb hts hin6 tyX6 tyX6_ok nmX6 hown hK hG (key := 0) (by omega) (gC_0 st ad cy) rfl 0 (by decide) L_75 (fun _ h9 => h9) rfl (ty := .int) (by decide +kernel) rfl rfl (Nat.le_of_ble_eq_true rfl) dX6_stick_48 (ust st 0 0 0 (t)) (fun j _ => gU_0 st ad cy (t) j) (fun H locs hG => ?_)
    obtain ⟨st1, hst1⟩ : ∃ z : St, z = ust st 0 (0) (0) (t) := ⟨_, rfl⟩
    rw [← hst1] at hG
    replace hI := hst1 ▸ gIu_0 hI (0) (0) (v := t) (by omega)
    refine lv_aload_n hx hb dX6_stick_51 rfl (lv_at hl 0 rfl) ?_
    refine g_get hx hb hts hin6 hown hK hG (key := 0) (by omega) (gC_0 st1 ad cy) rfl 0 (by decide) L_75 (fun _ h9 => h9) rfl dX6_stick_52 ?_
    have hr2 := gI_0 hI (0) (0)
    have kq3 : st1 0 (0) (0) = t := by rw [hst1, ust_s]
    rw [kq3] at hr2
    refine r_as kq3 ?_
    clear kq3
    refine r_if_ne (tgt := 70) hx hb (by omega) dX6_stick_55 (by decide) (fun c4 => ?_) (fun c4 => ?_)
    · skip
      exact g_vret hx hb hr hlocks hG (by
        refine ⟨?_, hI⟩
        unfold sStick
        first
          | (rw [if_neg (by omega), ← ht]; assumption)
          | (rw [if_pos (by omega), ← ht]; subst_vars; rfl)) dX6_stick_70
    · skip
      refine lv_aload_n hx hb dX6_stick_58 rfl (lv_at hl 0 rfl) ?_
      refine lv_iload_n hx hb dX6_stick_59 rfl (lv_at hl 1 rfl) ?_
      refine lv_iload_n hx hb dX6_stick_60 rfl (lv_at hl 2 rfl) ?_
      refine lv_iload_n hx hb dX6_stick_61 rfl (lv_at hl 3 rfl) ?_
      refine g_goi hG hA (va_runS (As := [.int (iI (t0)), .int (iI (b)), .int (iI (d))]) (rest := [.ref (ad 0)]) ⟨hx, hb, hml, hown, hts⟩ (mX6_cellAt l D cy ad n st1 _ fz wb hn hI (by omega) (t0) (b) (d) ) (va_cwS 3 hts gX6_stick_X6_cellAt rfl rfl rfl (by decide +kernel) ⟨Nat.le_of_ble_eq_true rfl, Nat.le_of_ble_eq_true rfl⟩) ⟨g_blind, g_pre hK hG hA hN hZ⟩ rfl rfl hl.1 rfl (lv_room (Nat.le_of_ble_eq_true rfl)) dX6_stick_62 ⟨Nat.zero_le _, Nat.zero_le _⟩) (fun r9 s9 H locs hp hG => ?_)
      obtain ⟨rfl, hs9⟩ := hp
      rw [hs9] at hG
      clear hs9
      refine r_nm (fun v5 ev5 => ?_)
      refine lv_iload hx hb dX6_stick_65 (lv_at hl 4 rfl) ?_
      refine g_gov hG hA (va_runV (As := [.int (iI (v5)), .int (iI (v))]) (rest := []) ⟨hx, hb, hml, hown, hts⟩ (mX6_sticks l D cy ad n st1 _ fz wb hn hI (by omega) (v5) (v) (by omega) (by omega)) (cwV 2 hts gX6_stick_X6_sticks rfl rfl rfl (by decide +kernel) ⟨Nat.le_of_ble_eq_true rfl, Nat.le_of_ble_eq_true rfl⟩) ⟨g_blind, va_recv hK hG.1 (q0 := 0) (ci := 6) rfl ((gw_at (by omega)).trans (by rw [gC_0 st1 ad cy])), g_pre hK hG hA hN hZ⟩ rfl rfl hl.1 rfl (lv_room (Nat.le_of_ble_eq_true rfl)) dX6_stick_67 ⟨Nat.zero_le _, Nat.zero_le _⟩) (fun st6 H locs hp => ?_)
      intro hG
      obtain ⟨hs9, hI⟩ := hp
      exact g_vret hx hb hr hlocks hG (by
        refine ⟨?_, hI⟩
        unfold sStick
        first
          | (rw [if_neg (by omega), ← ht]; assumption)
          | (rw [if_pos (by omega), ← ht]; subst_vars; rfl)) dX6_stick_70
  refine lv_iload_n hx hb dX6_stick_1 rfl (lv_at hl 1 rfl) ?_
  refine lv_iload_n hx hb dX6_stick_2 rfl (lv_at hl 2 rfl) ?_
  refine lv_iload_n hx hb dX6_stick_3 rfl (lv_at hl 3 rfl) ?_
  refine g_goi hG hA (va_runS (As := [.int (iI (t0)), .int (iI (b)), .int (iI (d))]) (rest := [.ref (ad 0)]) ⟨hx, hb, hml, hown, hts⟩ (mX6_isCell l D cy ad n st _ fz wb hn hI (by omega) (t0) (b) (d) (by omega) (by omega) (by omega)) (va_cwS 3 hts gX6_stick_X6_isCell rfl rfl rfl (by decide +kernel) ⟨Nat.le_of_ble_eq_true rfl, Nat.le_of_ble_eq_true rfl⟩) ⟨g_blind, g_pre hK hG hA hN hZ⟩ rfl rfl hl.1 rfl (lv_room (Nat.le_of_ble_eq_true rfl)) dX6_stick_4 ⟨Nat.zero_le _, Nat.zero_le _⟩) (fun r9 s9 H locs hp hG => ?_)
  obtain ⟨rfl, hs9⟩ := hp
  rw [hs9] at hG
  clear hs9
  refine r_nm (fun v7 ev7 => ?_)
  have hr8 := isCellF_s (t0) (b) (d)
  rw [← ev7] at hr8
  refine r_if_ne (tgt := 14) hx hb (by omega) dX6_stick_7 (by decide) (fun c9 => ?_) (fun c9 => ?_)
  · skip
    refine lv_iload hx hb dX6_stick_14 (lv_at hl 4 rfl) ?_
    refine lv_iconst (v := iI (0)) hx hb dX6_stick_16 rfl ?_
    refine lv_bipush (v := iI (15)) hx hb dX6_stick_17 (by decide +kernel) ?_
    refine g_goi hG hA (va_runS (As := [.int (iI (v)), .int (iI (0)), .int (iI (15))]) (rest := [.ref (ad 0)]) ⟨hx, hb, hml, hown, hts⟩ (mX6_in l D cy ad n st _ fz wb hn hI (by omega) (v) (0) (15) (by omega) (by omega) (by omega)) (va_cwS 3 hts gX6_stick_X6_in rfl rfl rfl (by decide +kernel) ⟨Nat.le_of_ble_eq_true rfl, Nat.le_of_ble_eq_true rfl⟩) ⟨g_blind, g_pre hK hG hA hN hZ⟩ rfl rfl hl.1 rfl (lv_room (Nat.le_of_ble_eq_true rfl)) dX6_stick_19 ⟨Nat.zero_le _, Nat.zero_le _⟩) (fun r9 s9 H locs hp hG => ?_)
    obtain ⟨rfl, hs9⟩ := hp
    rw [hs9] at hG
    clear hs9
    refine r_nm (fun v10 ev10 => ?_)
    have hr11 := inF_s (v) (0) (15)
    rw [← ev10] at hr11
    refine r_if_ne (tgt := 29) hx hb (by omega) dX6_stick_22 (by decide) (fun c12 => ?_) (fun c12 => ?_)
    · skip
      refine lv_aload_n hx hb dX6_stick_29 rfl (lv_at hl 0 rfl) ?_
      refine g_get hx hb hts hin6 hown hK hG (key := 0) (by omega) (gC_0 st ad cy) rfl 7 (by decide) L_23 (fun _ h9 => h9) rfl dX6_stick_30 ?_
      refine lv_iload_n hx hb dX6_stick_33 rfl (lv_at hl 1 rfl) ?_
      refine lv_iload_n hx hb dX6_stick_34 rfl (lv_at hl 2 rfl) ?_
      refine lv_iload_n hx hb dX6_stick_35 rfl (lv_at hl 3 rfl) ?_
      refine g_goi hG hA (va_runS (As := [.int (iI (t0)), .int (iI (b)), .int (iI (d))]) (rest := [.ref (ad 4), .ref (ad 0)]) ⟨hx, hb, hml, hown, hts⟩ (mX6_cellAt l D cy ad n st _ fz wb hn hI (by omega) (t0) (b) (d) ) (va_cwS 3 hts gX6_stick_X6_cellAt rfl rfl rfl (by decide +kernel) ⟨Nat.le_of_ble_eq_true rfl, Nat.le_of_ble_eq_true rfl⟩) ⟨g_blind, g_pre hK hG hA hN hZ⟩ rfl rfl hl.1 rfl (lv_room (Nat.le_of_ble_eq_true rfl)) dX6_stick_36 ⟨Nat.zero_le _, Nat.zero_le _⟩) (fun r9 s9 H locs hp hG => ?_)
      obtain ⟨rfl, hs9⟩ := hp
      rw [hs9] at hG
      clear hs9
      refine r_nm (fun v13 ev13 => ?_)
      refine g_zald hx hb hK hG (4) (kd := 4) (o := 0) rfl rfl (by omega) (cp := 7) (ln := 768) rfl rfl (by omega) dX6_stick_39 ?_
      have hr14 := gI_7 hI (0) (v13)
      refine r_nm (fun v15 ev15 => ?_)
      rw [← ev15] at hr14
      refine r_if_eq (tgt := 47) hx hb (by omega) dX6_stick_40 (by decide) (fun c16 => ?_) (fun c16 => ?_)
      · skip
        refine lv_iconst (v := iI (0)) hx hb dX6_stick_47 rfl ?_
        exact hlab48 (0)  _ _ _ (by have hks := kStick_s st t0 b d v; subst_vars; omega) hG (lv_sub hl [0, 1, 2, 3, 4] rfl)
      · skip
        refine lv_iconst (v := iI (3)) hx hb dX6_stick_43 rfl ?_
        refine lv_goto (tgt := 48) hx hb dX6_stick_44 (by decide) ?_
        exact hlab48 (3)  _ _ _ (by have hks := kStick_s st t0 b d v; subst_vars; omega) hG (lv_sub hl [0, 1, 2, 3, 4] rfl)
    · skip
      refine lv_iconst (v := iI (2)) hx hb dX6_stick_25 rfl ?_
      refine lv_goto (tgt := 48) hx hb dX6_stick_26 (by decide) ?_
      exact hlab48 (2)  _ _ _ (by have hks := kStick_s st t0 b d v; subst_vars; omega) hG (lv_sub hl [0, 1, 2, 3, 4] rfl)
  · skip
    refine lv_iconst (v := iI (1)) hx hb dX6_stick_10 rfl ?_
    refine lv_goto (tgt := 48) hx hb dX6_stick_11 (by decide) ?_
    exact hlab48 (1)  _ _ _ (by have hks := kStick_s st t0 b d v; subst_vars; omega) hG (lv_sub hl [0, 1, 2, 3, 4] rfl)
set_option maxHeartbeats 400000 in
set_option maxRecDepth 100000 in
theorem mX6_reads (l : Launch) (D : va_G) (cy : Nat → ClassId) (ad : Nat → Nat) (n : Nat) (st : St) (sz fz : Nat) (wb : Int) (hn : 75 ≤ n) (hI : GI wb st) (hW : wb ≤ 2000000) (t0 : Int) (d : Int) (cur : Int) (ht : 0 ≤ t0 ∧ t0 < 6) (hd : 0 ≤ d ∧ d < 16) (hcur : -100000 ≤ cur ∧ cur ≤ 100000) : Met l yX6_reads wsX6_reads ({ frames := 0, cells := 0, slots := 0, locals := 0 }) (va_Pc [.ref (ad 0), .int (iI (t0)), .int (iI (d)), .int (iI (cur))] (gB D cy ad n st sz fz)) (va_Qi (fun (r : Int32) (st' : St) => r = iI (readV (st 9 0 t0) (st 10 0 t0) (st 12 0 t0) (st 11 0 (16 * t0 + d)) cur) ∧ st' = st) (gP D cy ad n) (gA n ad sz)) 0 0 (gA n ad sz) := by
  refine Met.ofW (cc := cX6_reads) (maxL := 5) (ret := (some .int)) (by decide) rfl ?_
  intro p e s m args below meth c s₁ B hml hv
  obtain ⟨rfl, hsz, hP, hK, hD0, hN, hZ⟩ := hv
  have hx := B.exec
  have hb := B.bytes
  have hr := B.returns
  have hts := atoms_spec (ws := wsX6_reads) B.pre
  have hown : s.vm.findClass RX6 = some m.cls := findClass_of_methodNamed B.named
  have hlocks := B.notSynchronized
  subst hsz
  have hA : ∀ q : Nat, s.heap.size ≤ q → gA n ad s.heap.size q := fun q h => Or.inr h
  have hG : GH D cy ad n st (gA n ad s.heap.size) s.heap s.heap [] := ⟨hP, gw_A hD0, va_S.rf⟩
  have hl := lv_entry ([.ref (ad 0), .int (iI (t0)), .int (iI (d)), .int (iI (cur))]) (n := 5) (Nat.le_of_ble_eq_true rfl)
  rw [lg_entry_eq]
  generalize (lg_sl ([.ref (ad 0), .int (iI (t0)), .int (iI (d)), .int (iI (cur))]) ++ List.replicate (5 - (lg_sl ([.ref (ad 0), .int (iI (t0)), .int (iI (d)), .int (iI (cur))])).length) Slot.unset).toArray = ls at hl ⊢
  have hl : lv_has ls 5 [(0, .ref (ad 0)), (1, .int (iI (t0))), (2, .int (iI (d))), (3, .int (iI (cur)))] := hl
  have hin6 : ∀ w ∈ u_ws RX6 TX6 25, w ∈ wsX6_reads := by decide +kernel
  have L_30 := hts (.fieldLink RX6 30 "CrossbarryModel" "steps" "[I") (by decide +kernel)
  have L_33 := hts (.fieldLink RX6 33 "CrossbarryModel" "tops" "[I") (by decide +kernel)
  have L_36 := hts (.fieldLink RX6 36 "CrossbarryModel" "offsets" "[I") (by decide +kernel)
  have L_39 := hts (.fieldLink RX6 39 "CrossbarryModel" "isCalibrated" "[Z") (by decide +kernel)
  have hof := gI_11 hI 0 (16 * t0 + d)
  have hlab26 : ∀ (z : Int) (H : Heap) (locs : List Loc) (ls : Array Slot), (z = cur + (if st 12 0 t0 = 1 then 0 else st 11 0 (16 * t0 + d))) → (-100003 ≤ z ∧ z ≤ 100003) →  GH D cy ad n st (gA n ad s.heap.size) s.heap H locs → lv_has ls 5 [(0, .ref (ad 0)), (1, .int (iI (t0))), (2, .int (iI (d))), (3, .int (iI (cur)))] → W p l e (headSpec wsX6_reads { frames := 0, cells := 0, slots := 0, locals := 0 }).room s m (#[.ref (ad 0), .int (iI (t0)), .int (iI (d)), .int (iI (cur))] : Array Value) below meth c H locs 0 0 (MQ below (va_Qi (fun (r : Int32) (st' : St) => r = iI (readV (st 9 0 t0) (st 10 0 t0) (st 12 0 t0) (st 11 0 (16 * t0 + d)) cur) ∧ st' = st) (gP D cy ad n) (gA n ad s.heap.size)) (#[.ref (ad 0), .int (iI (t0)), .int (iI (d)), .int (iI (cur))] : Array Value) s 0 0 (gA n ad s.heap.size)) (F0 m 26 ls [.int (iI (z))]) := by
    intro z H locs ls hz hzr hG hl
    refine lv_istore (lv' := [(4, .int (iI (z))), (0, .ref (ad 0)), (1, .int (iI (t0))), (2, .int (iI (d))), (3, .int (iI (cur)))]) hx hb dX6_reads_26 hl (by decide) rfl (fun ls hl => ?_)
    have hlab39 : ∀ (y : Int) (H : Heap) (locs : List Loc) (ls : Array Slot), (y = max 0 (z)) → (0 ≤ y ∧ y ≤ 100003) →  GH D cy ad n st (gA n ad s.heap.size) s.heap H locs → lv_has ls 5 [(4, .int (iI (z))), (0, .ref (ad 0)), (1, .int (iI (t0))), (2, .int (iI (d))), (3, .int (iI (cur)))] → W p l e (headSpec wsX6_reads { frames := 0, cells := 0, slots := 0, locals := 0 }).room s m (#[.ref (ad 0), .int (iI (t0)), .int (iI (d)), .int (iI (cur))] : Array Value) below meth c H locs 0 0 (MQ below (va_Qi (fun (r : Int32) (st' : St) => r = iI (readV (st 9 0 t0) (st 10 0 t0) (st 12 0 t0) (st 11 0 (16 * t0 + d)) cur) ∧ st' = st) (gP D cy ad n) (gA n ad s.heap.size)) (#[.ref (ad 0), .int (iI (t0)), .int (iI (d)), .int (iI (cur))] : Array Value) s 0 0 (gA n ad s.heap.size)) (F0 m 39 ls [.int (iI (y))]) := by
      intro y H locs ls hy hyr hG hl
      refine lv_aload_n hx hb dX6_reads_39 rfl (lv_at hl 1 rfl) ?_
      refine g_get hx hb hts hin6 hown hK hG (key := 0) (by omega) (gC_0 st ad cy) rfl 9 (by decide) L_30 (fun _ h9 => h9) rfl dX6_reads_40 ?_
      refine lv_iload_n hx hb dX6_reads_43 rfl (lv_at hl 2 rfl) ?_
      refine g_iald hx hb hK hG (6) (kd := 6) (o := 0) rfl rfl (by omega) (cp := 9) (ln := 6) rfl rfl (by omega) dX6_reads_44 ?_
      have hr1 := gI_9 hI (0) (t0)
      refine r_nm (fun v2 ev2 => ?_)
      rw [← ev2] at hr1
      refine r_idiv hx hb (by omega) dX6_reads_45 ?_
      refine r_nm (fun v3 ev3 => ?_)
      have hr4 := divB (x := y) (y := v2) (by omega) (by omega)
      rw [← ev3] at hr4
      refine lv_istore (lv' := [(4, .int (iI (v3))), (0, .ref (ad 0)), (1, .int (iI (t0))), (2, .int (iI (d))), (3, .int (iI (cur)))]) hx hb dX6_reads_46 hl (by decide) rfl (fun ls hl => ?_)
      have hlab70 : ∀ (x : Int) (H : Heap) (locs : List Loc) (ls : Array Slot), (x = min (st 10 0 t0) (v3)) → (-1 ≤ x) →  GH D cy ad n st (gA n ad s.heap.size) s.heap H locs → lv_has ls 5 [(4, .int (iI (v3))), (0, .ref (ad 0)), (1, .int (iI (t0))), (2, .int (iI (d))), (3, .int (iI (cur)))] → W p l e (headSpec wsX6_reads { frames := 0, cells := 0, slots := 0, locals := 0 }).room s m (#[.ref (ad 0), .int (iI (t0)), .int (iI (d)), .int (iI (cur))] : Array Value) below meth c H locs 0 0 (MQ below (va_Qi (fun (r : Int32) (st' : St) => r = iI (readV (st 9 0 t0) (st 10 0 t0) (st 12 0 t0) (st 11 0 (16 * t0 + d)) cur) ∧ st' = st) (gP D cy ad n) (gA n ad s.heap.size)) (#[.ref (ad 0), .int (iI (t0)), .int (iI (d)), .int (iI (cur))] : Array Value) s 0 0 (gA n ad s.heap.size)) (F0 m 70 ls [.int (iI (x))]) := by
        intro x H locs ls hx9 hxr hG hl
        refine lv_aload_n hx hb dX6_reads_70 rfl (lv_at hl 1 rfl) ?_
        refine g_get hx hb hts hin6 hown hK hG (key := 0) (by omega) (gC_0 st ad cy) rfl 9 (by decide) L_30 (fun _ h9 => h9) rfl dX6_reads_71 ?_
        refine lv_iload_n hx hb dX6_reads_74 rfl (lv_at hl 2 rfl) ?_
        refine g_iald hx hb hK hG (6) (kd := 6) (o := 0) rfl rfl (by omega) (cp := 9) (ln := 6) rfl rfl (by omega) dX6_reads_75 ?_
        have hr5 := gI_9 hI (0) (t0)
        refine r_nm (fun v6 ev6 => ?_)
        rw [← ev6] at hr5
        refine r_imul hx hb dX6_reads_76 ?_
        refine r_nm (fun v7 ev7 => ?_)
        exact g_iret hx hb hr hlocks hG (by
          refine ⟨?_, rfl⟩
          congr 1
          unfold readV
          subst_vars
          rfl) dX6_reads_77
      refine lv_iload hx hb dX6_reads_48 (lv_at hl 0 rfl) ?_
      refine lv_aload_n hx hb dX6_reads_50 rfl (lv_at hl 1 rfl) ?_
      refine g_get hx hb hts hin6 hown hK hG (key := 0) (by omega) (gC_0 st ad cy) rfl 10 (by decide) L_33 (fun _ h9 => h9) rfl dX6_reads_51 ?_
      refine lv_iload_n hx hb dX6_reads_54 rfl (lv_at hl 2 rfl) ?_
      refine g_iald hx hb hK hG (7) (kd := 7) (o := 0) rfl rfl (by omega) (cp := 10) (ln := 6) rfl rfl (by omega) dX6_reads_55 ?_
      have hr8 := gI_10 hI (0) (t0)
      refine r_nm (fun v9 ev9 => ?_)
      rw [← ev9] at hr8
      refine r_icmp_le (tgt := 68) hx hb (by omega) dX6_reads_56 (by decide) (fun c10 => ?_) (fun c10 => ?_)
      · skip
        refine lv_iload hx hb dX6_reads_68 (lv_at hl 0 rfl) ?_
        exact hlab70 (v3)  _ _ _ (by omega) (by omega) hG (lv_sub hl [0, 1, 2, 3, 4] rfl)
      · skip
        refine lv_aload_n hx hb dX6_reads_59 rfl (lv_at hl 1 rfl) ?_
        refine g_get hx hb hts hin6 hown hK hG (key := 0) (by omega) (gC_0 st ad cy) rfl 10 (by decide) L_33 (fun _ h9 => h9) rfl dX6_reads_60 ?_
        refine lv_iload_n hx hb dX6_reads_63 rfl (lv_at hl 2 rfl) ?_
        refine g_iald hx hb hK hG (7) (kd := 7) (o := 0) rfl rfl (by omega) (cp := 10) (ln := 6) rfl rfl (by omega) dX6_reads_64 ?_
        have hr11 := gI_10 hI (0) (t0)
        refine r_nm (fun v12 ev12 => ?_)
        rw [← ev12] at hr11
        refine lv_goto (tgt := 70) hx hb dX6_reads_65 (by decide) ?_
        exact hlab70 (v12)  _ _ _ (by omega) (by omega) hG (lv_sub hl [0, 1, 2, 3, 4] rfl)
    refine lv_iload hx hb dX6_reads_28 (lv_at hl 0 rfl) ?_
    refine r_if_ge (tgt := 37) hx hb (by omega) dX6_reads_30 (by decide) (fun c13 => ?_) (fun c13 => ?_)
    · skip
      refine lv_iload hx hb dX6_reads_37 (lv_at hl 0 rfl) ?_
      exact hlab39 (z)  _ _ _ (by omega) (by omega) hG (lv_sub hl [0, 1, 2, 3, 4] rfl)
    · skip
      refine lv_iconst (v := iI (0)) hx hb dX6_reads_33 rfl ?_
      refine lv_goto (tgt := 39) hx hb dX6_reads_34 (by decide) ?_
      exact hlab39 (0)  _ _ _ (by omega) (by omega) hG (lv_sub hl [0, 1, 2, 3, 4] rfl)
  refine lv_iload_n hx hb dX6_reads_0 rfl (lv_at hl 3 rfl) ?_
  refine lv_aload_n hx hb dX6_reads_1 rfl (lv_at hl 0 rfl) ?_
  refine g_get hx hb hts hin6 hown hK hG (key := 0) (by omega) (gC_0 st ad cy) rfl 12 (by decide) L_39 (fun _ h9 => h9) rfl dX6_reads_2 ?_
  refine lv_iload_n hx hb dX6_reads_5 rfl (lv_at hl 1 rfl) ?_
  refine g_zald hx hb hK hG (9) (kd := 9) (o := 0) rfl rfl (by omega) (cp := 12) (ln := 6) rfl rfl (by omega) dX6_reads_6 ?_
  have hr14 := gI_12 hI (0) (t0)
  refine r_nm (fun v15 ev15 => ?_)
  rw [← ev15] at hr14
  refine r_if_eq (tgt := 14) hx hb (by omega) dX6_reads_7 (by decide) (fun c16 => ?_) (fun c16 => ?_)
  · skip
    refine lv_aload_n hx hb dX6_reads_14 rfl (lv_at hl 0 rfl) ?_
    refine g_get hx hb hts hin6 hown hK hG (key := 0) (by omega) (gC_0 st ad cy) rfl 11 (by decide) L_36 (fun _ h9 => h9) rfl dX6_reads_15 ?_
    refine lv_bipush (v := iI (16)) hx hb dX6_reads_18 (by decide +kernel) ?_
    refine lv_iload_n hx hb dX6_reads_20 rfl (lv_at hl 1 rfl) ?_
    refine r_imul hx hb dX6_reads_21 ?_
    refine r_nm (fun v17 ev17 => ?_)
    refine lv_iload_n hx hb dX6_reads_22 rfl (lv_at hl 2 rfl) ?_
    refine r_iadd hx hb dX6_reads_23 ?_
    refine r_nm (fun v18 ev18 => ?_)
    refine g_iald hx hb hK hG (8) (kd := 8) (o := 0) rfl rfl (by omega) (cp := 11) (ln := 96) rfl rfl (by omega) dX6_reads_24 ?_
    have hr19 := gI_11 hI (0) (v18)
    refine r_nm (fun v20 ev20 => ?_)
    rw [← ev20] at hr19
    refine r_iadd hx hb dX6_reads_25 ?_
    refine r_nm (fun v21 ev21 => ?_)
    exact hlab26 (v21)  _ _ _ (by first | (rw [if_pos (by omega)]; first | omega | (subst_vars; rfl)) | (rw [if_neg (by omega)]; first | omega | (subst_vars; rfl))) (by omega) hG (lv_sub hl [0, 1, 2, 3] rfl)
  · skip
    refine lv_iconst (v := iI (0)) hx hb dX6_reads_10 rfl ?_
    refine lv_goto (tgt := 25) hx hb dX6_reads_11 (by decide) ?_
    refine r_iadd hx hb dX6_reads_25 ?_
    refine r_nm (fun v22 ev22 => ?_)
    exact hlab26 (v22)  _ _ _ (by first | (rw [if_pos (by omega)]; first | omega | (subst_vars; rfl)) | (rw [if_neg (by omega)]; first | omega | (subst_vars; rfl))) (by omega) hG (lv_sub hl [0, 1, 2, 3] rfl)
set_option maxHeartbeats 400000 in
set_option maxRecDepth 100000 in
theorem mX6_cyclesOf (l : Launch) (D : va_G) (cy : Nat → ClassId) (ad : Nat → Nat) (n : Nat) (st : St) (sz fz : Nat) (wb : Int) (hn : 75 ≤ n) (hI : GI wb st) (hW : wb ≤ 2000000) (a : Int) (ha : 0 ≤ a ∧ a < 6) (htl : 0 ≤ st 20 0 a) : Met l yX6_cyclesOf wsX6_cyclesOf ({ frames := 0, cells := 0, slots := 0, locals := 0 }) (va_Pc [.ref (ad 0), .int (iI (a))] (gB D cy ad n st sz fz)) (va_Qi (fun (r : Int32) (st' : St) => r = iI (cyF (st 16 0 a) (st 13 0 (st 20 0 a))) ∧ st' = st) (gP D cy ad n) (gA n ad sz)) 0 0 (gA n ad sz) := by
  refine Met.ofW (cc := cX6_cyclesOf) (maxL := 3) (ret := (some .int)) (by decide) rfl ?_
  intro p e s m args below meth c s₁ B hml hv
  obtain ⟨rfl, hsz, hP, hK, hD0, hN, hZ⟩ := hv
  have hx := B.exec
  have hb := B.bytes
  have hr := B.returns
  have hts := atoms_spec (ws := wsX6_cyclesOf) B.pre
  have hown : s.vm.findClass RX6 = some m.cls := findClass_of_methodNamed B.named
  have hlocks := B.notSynchronized
  subst hsz
  have hA : ∀ q : Nat, s.heap.size ≤ q → gA n ad s.heap.size q := fun q h => Or.inr h
  have hG : GH D cy ad n st (gA n ad s.heap.size) s.heap s.heap [] := ⟨hP, gw_A hD0, va_S.rf⟩
  have hl := lv_entry ([.ref (ad 0), .int (iI (a))]) (n := 3) (Nat.le_of_ble_eq_true rfl)
  rw [lg_entry_eq]
  generalize (lg_sl ([.ref (ad 0), .int (iI (a))]) ++ List.replicate (3 - (lg_sl ([.ref (ad 0), .int (iI (a))])).length) Slot.unset).toArray = ls at hl ⊢
  have hl : lv_has ls 3 [(0, .ref (ad 0)), (1, .int (iI (a)))] := hl
  have hin6 : ∀ w ∈ u_ws RX6 TX6 25, w ∈ wsX6_cyclesOf := by decide +kernel
  have L_42 := hts (.fieldLink RX6 42 "CrossbarryModel" "converterMany" "[I") (by decide +kernel)
  have L_48 := hts (.fieldLink RX6 48 "CrossbarryModel" "outputs" "[I") (by decide +kernel)
  have L_60 := hts (.fieldLink RX6 60 "CrossbarryModel" "tileAt" "[I") (by decide +kernel)
  refine lv_aload_n hx hb dX6_cyclesOf_0 rfl (lv_at hl 0 rfl) ?_
  refine g_get hx hb hts hin6 hown hK hG (key := 0) (by omega) (gC_0 st ad cy) rfl 13 (by decide) L_42 (fun _ h9 => h9) rfl dX6_cyclesOf_1 ?_
  refine lv_aload_n hx hb dX6_cyclesOf_4 rfl (lv_at hl 0 rfl) ?_
  refine g_get hx hb hts hin6 hown hK hG (key := 0) (by omega) (gC_0 st ad cy) rfl 20 (by decide) L_60 (fun _ h9 => h9) rfl dX6_cyclesOf_5 ?_
  refine lv_iload_n hx hb dX6_cyclesOf_8 rfl (lv_at hl 1 rfl) ?_
  refine g_iald hx hb hK hG (16) (kd := 16) (o := 0) rfl rfl (by omega) (cp := 20) (ln := 6) rfl rfl (by omega) dX6_cyclesOf_9 ?_
  have hr1 := gI_20 hI (0) (a)
  refine r_nm (fun v2 ev2 => ?_)
  rw [← ev2] at hr1
  refine g_iald hx hb hK hG (10) (kd := 10) (o := 0) rfl rfl (by omega) (cp := 13) (ln := 6) rfl rfl (by omega) dX6_cyclesOf_10 ?_
  have hr3 := gI_13 hI (0) (v2)
  refine r_nm (fun v4 ev4 => ?_)
  rw [← ev4] at hr3
  refine lv_istore_n (lv' := [(2, .int (iI (v4))), (0, .ref (ad 0)), (1, .int (iI (a)))]) hx hb dX6_cyclesOf_11 rfl hl (by decide) rfl (fun ls hl => ?_)
  refine lv_bipush (v := iI (8)) hx hb dX6_cyclesOf_12 (by decide +kernel) ?_
  refine lv_iconst (v := iI (4)) hx hb dX6_cyclesOf_14 rfl ?_
  refine lv_aload_n hx hb dX6_cyclesOf_15 rfl (lv_at hl 1 rfl) ?_
  refine g_get hx hb hts hin6 hown hK hG (key := 0) (by omega) (gC_0 st ad cy) rfl 16 (by decide) L_48 (fun _ h9 => h9) rfl dX6_cyclesOf_16 ?_
  refine lv_iload_n hx hb dX6_cyclesOf_19 rfl (lv_at hl 2 rfl) ?_
  refine g_iald hx hb hK hG (12) (kd := 12) (o := 0) rfl rfl (by omega) (cp := 16) (ln := 6) rfl rfl (by omega) dX6_cyclesOf_20 ?_
  have hr5 := gI_16 hI (0) (a)
  refine r_nm (fun v6 ev6 => ?_)
  rw [← ev6] at hr5
  refine r_imul hx hb dX6_cyclesOf_21 ?_
  refine r_nm (fun v7 ev7 => ?_)
  refine lv_iload_n hx hb dX6_cyclesOf_22 rfl (lv_at hl 0 rfl) ?_
  refine r_iadd hx hb dX6_cyclesOf_23 ?_
  refine r_nm (fun v8 ev8 => ?_)
  refine lv_iconst (v := iI (1)) hx hb dX6_cyclesOf_24 rfl ?_
  refine r_isub hx hb dX6_cyclesOf_25 ?_
  refine r_nm (fun v9 ev9 => ?_)
  refine lv_iload_n hx hb dX6_cyclesOf_26 rfl (lv_at hl 0 rfl) ?_
  refine r_idiv hx hb (by omega) dX6_cyclesOf_27 ?_
  refine r_nm (fun v10 ev10 => ?_)
  have hr11 := divB (x := v9) (y := v4) (by omega) (by omega)
  rw [← ev10] at hr11
  refine r_imul hx hb dX6_cyclesOf_28 ?_
  refine r_nm (fun v12 ev12 => ?_)
  exact g_iret hx hb hr hlocks hG (by
    refine ⟨?_, rfl⟩
    congr 1
    unfold cyF
    subst_vars
    rfl) dX6_cyclesOf_29
set_option maxHeartbeats 400000 in
set_option maxRecDepth 100000 in
theorem mX6_load (l : Launch) (D : va_G) (cy : Nat → ClassId) (ad : Nat → Nat) (n : Nat) (st : St) (sz fz : Nat) (wb : Int) (hn : 75 ≤ n) (hI : GI wb st) (hW : wb ≤ 1890000) (a : Int) (ha : -2147483648 ≤ a ∧ a < 2147483648) (hsi : ∀ j : Int, st 6 0 j ≤ st 1 0 0) : Met l yX6_load wsX6_load ({ frames := 3, cells := 0, slots := 0, locals := 74 }) (va_Pc [.ref (ad 0), .int (iI (a))] (gB D cy ad n st sz fz)) (va_Qi (fun (r : Int32) (st' : St) => r = iI (if kPlaced st a = 0 then ldF (ust st 0 0 0 (kPlaced st a)) a else 0) ∧ st' = (if kPlaced st a = 0 then ldS (ust st 0 0 0 (kPlaced st a)) a else ust st 0 0 0 (kPlaced st a)) ∧ GI (wb + 2048) st') (gP D cy ad n) (gA n ad sz)) 0 0 (gA n ad sz) := by
  refine Met.ofW (cc := cX6_load) (maxL := 2) (ret := (some .int)) (by decide) rfl ?_
  intro p e s m args below meth c s₁ B hml hv
  obtain ⟨rfl, hsz, hP, hK, hD0, hN, hZ⟩ := hv
  have hx := B.exec
  have hb := B.bytes
  have hr := B.returns
  have hts := atoms_spec (ws := wsX6_load) B.pre
  have hown : s.vm.findClass RX6 = some m.cls := findClass_of_methodNamed B.named
  have hlocks := B.notSynchronized
  subst hsz
  have hA : ∀ q : Nat, s.heap.size ≤ q → gA n ad s.heap.size q := fun q h => Or.inr h
  have hG : GH D cy ad n st (gA n ad s.heap.size) s.heap s.heap [] := ⟨hP, gw_A hD0, va_S.rf⟩
  have hl := lv_entry ([.ref (ad 0), .int (iI (a))]) (n := 2) (Nat.le_of_ble_eq_true rfl)
  rw [lg_entry_eq]
  generalize (lg_sl ([.ref (ad 0), .int (iI (a))]) ++ List.replicate (2 - (lg_sl ([.ref (ad 0), .int (iI (a))])).length) Slot.unset).toArray = ls at hl ⊢
  have hl : lv_has ls 2 [(0, .ref (ad 0)), (1, .int (iI (a)))] := hl
  have hin6 : ∀ w ∈ u_ws RX6 TX6 25, w ∈ wsX6_load := by decide +kernel
  have L_75 := hts (.fieldLink RX6 75 "CrossbarryModel" "thrown" "I") (by decide +kernel)
  have hmn := gI_14 hI 0 0
  have h20 := gI_20 hI 0 a
  refine lv_aload_n hx hb dX6_load_0 rfl (lv_at hl 0 rfl) ?_
  refine lv_aload_n hx hb dX6_load_1 rfl (lv_at hl 0 rfl) ?_
  refine lv_iload_n hx hb dX6_load_2 rfl (lv_at hl 1 rfl) ?_
  refine g_goi hG hA (va_runV (As := [.int (iI (a))]) (rest := [.ref (ad 0)]) ⟨hx, hb, hml, hown, hts⟩ (mX6_placedCode l D cy ad n st _ fz wb hn hI (by omega) (a) (by omega)) (cwV 1 hts gX6_load_X6_placedCode rfl rfl rfl (by decide +kernel) ⟨Nat.le_of_ble_eq_true rfl, Nat.le_of_ble_eq_true rfl⟩) ⟨g_blind, va_recv hK hG.1 (q0 := 0) (ci := 6) rfl ((gw_at (by omega)).trans (by rw [gC_0 st ad cy])), g_pre hK hG hA hN hZ⟩ rfl rfl hl.1 rfl (lv_room (Nat.le_of_ble_eq_true rfl)) dX6_load_3 ⟨Nat.zero_le _, Nat.zero_le _⟩) (fun r9 s9 H locs hp hG => ?_)
  obtain ⟨rfl, hs9⟩ := hp
  rw [hs9] at hG
  clear hs9
  refine r_nm (fun v1 ev1 => ?_)
  have hr2 := kPlaced_s st (a)
  rw [← ev1] at hr2
  refine g_put hx hb hts hin6 tyX6 tyX6_ok nmX6 hown hK hG (key := 0) (by omega) (gC_0 st ad cy) rfl 0 (by decide) L_75 (fun _ h9 => h9) rfl (ty := .int) (by decide +kernel) rfl rfl (Nat.le_of_ble_eq_true rfl) dX6_load_6 (ust st 0 0 0 (v1)) (fun j _ => gU_0 st ad cy (v1) j) (fun H locs hG => ?_)
  obtain ⟨st3, hst3⟩ : ∃ z : St, z = ust st 0 (0) (0) (v1) := ⟨_, rfl⟩
  rw [← hst3] at hG
  replace hI := hst3 ▸ gIu_0 hI (0) (0) (v := v1) (by omega)
  refine lv_aload_n hx hb dX6_load_9 rfl (lv_at hl 0 rfl) ?_
  refine g_get hx hb hts hin6 hown hK hG (key := 0) (by omega) (gC_0 st3 ad cy) rfl 0 (by decide) L_75 (fun _ h9 => h9) rfl dX6_load_10 ?_
  have hr4 := gI_0 hI (0) (0)
  have kq5 : st3 0 (0) (0) = v1 := by rw [hst3, ust_s]
  rw [kq5] at hr4
  refine r_as kq5 ?_
  clear kq5
  refine r_if_le (tgt := 20) hx hb (by omega) dX6_load_13 (by decide) (fun c6 => ?_) (fun c6 => ?_)
  · skip
    refine lv_aload_n hx hb dX6_load_20 rfl (lv_at hl 0 rfl) ?_
    refine lv_iload_n hx hb dX6_load_21 rfl (lv_at hl 1 rfl) ?_
    refine g_goi hG hA (va_runV (As := [.int (iI (a))]) (rest := []) ⟨hx, hb, hml, hown, hts⟩ (mX6_loads l D cy ad n st3 _ fz wb hn hI (by omega) (a) (by omega) (by rw [hst3, ust_c (by decide)]; omega) (fun j => by rw [hst3, ust_c (by decide), ust_c (by decide)]; exact hsi j)) (cwV 1 hts gX6_load_X6_loads rfl rfl rfl (by decide +kernel) ⟨Nat.le_of_ble_eq_true rfl, Nat.le_of_ble_eq_true rfl⟩) ⟨g_blind, va_recv hK hG.1 (q0 := 0) (ci := 6) rfl ((gw_at (by omega)).trans (by rw [gC_0 st3 ad cy])), g_pre hK hG hA hN hZ⟩ rfl rfl hl.1 rfl (lv_room (Nat.le_of_ble_eq_true rfl)) dX6_load_22 ⟨Nat.zero_le _, Nat.zero_le _⟩) (fun r9 st7 H locs hp hG => ?_)
    obtain ⟨rfl, hs9, hI⟩ := hp
    refine r_nm (fun v8 ev8 => ?_)
    exact g_iret hx hb hr hlocks hG (by
      first
        | (rw [if_neg (by omega), if_neg (by omega)]; exact ⟨rfl, by subst_vars; rfl, GI_mono (by omega) hI⟩)
        | (rw [if_pos (by omega), if_pos (by omega)]; refine ⟨by subst_vars; rfl, by subst_vars; rfl, hI⟩)) dX6_load_25
  · skip
    refine lv_iconst (v := iI (0)) hx hb dX6_load_16 rfl ?_
    refine lv_goto (tgt := 25) hx hb dX6_load_17 (by decide) ?_
    exact g_iret hx hb hr hlocks hG (by
      first
        | (rw [if_neg (by omega), if_neg (by omega)]; exact ⟨rfl, by subst_vars; rfl, GI_mono (by omega) hI⟩)
        | (rw [if_pos (by omega), if_pos (by omega)]; refine ⟨by subst_vars; rfl, by subst_vars; rfl, hI⟩)) dX6_load_25
