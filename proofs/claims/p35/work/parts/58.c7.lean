set_option maxHeartbeats 400000 in
set_option maxRecDepth 100000 in
theorem mX1_clear (l : Launch) (D : va_G) (cy : Nat → ClassId) (ad : Nat → Nat) (n : Nat) (st : St) (sz fz : Nat) (wb : Int) (hn : 75 ≤ n) (hI : GI wb st) (hW : wb ≤ 2000000)   : Met l yX1_clear wsX1_clear ({ frames := 0, cells := 0, slots := 0, locals := 0 }) (va_Pc [.ref (ad 28)] (gB D cy ad n st sz fz)) (va_Qv (fun (st' : St) => st' = ust st 36 0 0 0 ∧ GI wb st') (gP D cy ad n) (gA n ad sz)) 0 0 (gA n ad sz) := by
  refine Met.ofW (cc := cX1_clear) (maxL := 1) (ret := none) (by decide) rfl ?_
  intro p e s m args below meth c s₁ B hml hv
  obtain ⟨rfl, hsz, hP, hK, hD0, hN, hZ⟩ := hv
  have hx := B.exec
  have hb := B.bytes
  have hr := B.returns
  have hts := atoms_spec (ws := wsX1_clear) B.pre
  have hown : s.vm.findClass RX1 = some m.cls := findClass_of_methodNamed B.named
  have hlocks := B.notSynchronized
  subst hsz
  have hA : ∀ q : Nat, s.heap.size ≤ q → gA n ad s.heap.size q := fun q h => Or.inr h
  have hG : GH D cy ad n st (gA n ad s.heap.size) s.heap s.heap [] := ⟨hP, gw_A hD0, va_S.rf⟩
  have hl := lv_entry ([.ref (ad 28)]) (n := 1) (Nat.le_of_ble_eq_true rfl)
  rw [lg_entry_eq]
  generalize (lg_sl ([.ref (ad 28)]) ++ List.replicate (1 - (lg_sl ([.ref (ad 28)])).length) Slot.unset).toArray = ls at hl ⊢
  have hl : lv_has ls 1 [(0, .ref (ad 28))] := hl
  have hin1 : ∀ w ∈ u_ws RX1 TX1 3, w ∈ wsX1_clear := by decide +kernel
  have L_18 := hts (.fieldLink RX1 18 "Crossbarry$Pipeline" "stages" "I") (by decide +kernel)
  refine lv_aload_n hx hb dX1_clear_0 rfl (lv_at hl 0 rfl) ?_
  refine lv_iconst (v := iI (0)) hx hb dX1_clear_1 rfl ?_
  refine g_put hx hb hts hin1 tyX1 tyX1_ok nmX1 hown hK hG (key := 28) (by omega) (gC_28 st ad cy) rfl 2 (by decide) L_18 (fun _ h9 => h9) rfl (ty := .int) (by decide +kernel) rfl rfl (Nat.le_of_ble_eq_true rfl) dX1_clear_2 (ust st 36 0 0 (0)) (fun j _ => gU_36 st ad cy (0) j) (fun H locs hG => ?_)
  obtain ⟨st1, hst1⟩ : ∃ z : St, z = ust st 36 (0) (0) (0) := ⟨_, rfl⟩
  rw [← hst1] at hG
  replace hI := hst1 ▸ gIu_36 hI (0) (0) (v := 0) (by omega)
  exact g_vret hx hb hr hlocks hG (by
    exact ⟨by subst_vars; rfl, hI⟩) dX1_clear_5
set_option maxHeartbeats 400000 in
set_option maxRecDepth 100000 in
theorem mX1_add (l : Launch) (D : va_G) (cy : Nat → ClassId) (ad : Nat → Nat) (n : Nat) (st : St) (sz fz : Nat) (wb : Int) (hn : 75 ≤ n) (hI : GI wb st) (hW : wb ≤ 2000000) (v : Int) (hv0 : 0 ≤ v ∧ v ≤ 128) (hsg : st 36 0 0 < 6) : Met l yX1_add wsX1_add ({ frames := 0, cells := 0, slots := 0, locals := 0 }) (va_Pc [.ref (ad 28), .int (iI (v))] (gB D cy ad n st sz fz)) (va_Qv (fun (st' : St) => st' = ust (ust st 37 0 (st 36 0 0) v) 36 0 0 (st 36 0 0 + 1) ∧ GI wb st') (gP D cy ad n) (gA n ad sz)) 0 0 (gA n ad sz) := by
  refine Met.ofW (cc := cX1_add) (maxL := 2) (ret := none) (by decide) rfl ?_
  intro p e s m args below meth c s₁ B hml hv
  obtain ⟨rfl, hsz, hP, hK, hD0, hN, hZ⟩ := hv
  have hx := B.exec
  have hb := B.bytes
  have hr := B.returns
  have hts := atoms_spec (ws := wsX1_add) B.pre
  have hown : s.vm.findClass RX1 = some m.cls := findClass_of_methodNamed B.named
  have hlocks := B.notSynchronized
  subst hsz
  have hA : ∀ q : Nat, s.heap.size ≤ q → gA n ad s.heap.size q := fun q h => Or.inr h
  have hG : GH D cy ad n st (gA n ad s.heap.size) s.heap s.heap [] := ⟨hP, gw_A hD0, va_S.rf⟩
  have hl := lv_entry ([.ref (ad 28), .int (iI (v))]) (n := 2) (Nat.le_of_ble_eq_true rfl)
  rw [lg_entry_eq]
  generalize (lg_sl ([.ref (ad 28), .int (iI (v))]) ++ List.replicate (2 - (lg_sl ([.ref (ad 28), .int (iI (v))])).length) Slot.unset).toArray = ls at hl ⊢
  have hl : lv_has ls 2 [(0, .ref (ad 28)), (1, .int (iI (v)))] := hl
  have hin1 : ∀ w ∈ u_ws RX1 TX1 3, w ∈ wsX1_add := by decide +kernel
  have L_18 := hts (.fieldLink RX1 18 "Crossbarry$Pipeline" "stages" "I") (by decide +kernel)
  have L_9 := hts (.fieldLink RX1 9 "Crossbarry$Pipeline" "takes" "[I") (by decide +kernel)
  refine lv_aload_n hx hb dX1_add_0 rfl (lv_at hl 0 rfl) ?_
  refine g_get hx hb hts hin1 hown hK hG (key := 28) (by omega) (gC_28 st ad cy) rfl 2 (by decide) L_18 (fun _ h9 => h9) rfl dX1_add_1 ?_
  have hr1 := gI_36 hI (0) (0)
  refine r_nm (fun v2 ev2 => ?_)
  rw [← ev2] at hr1
  refine lv_bipush (v := iI (6)) hx hb dX1_add_4 (by decide +kernel) ?_
  refine r_icmp_ge (tgt := 29) hx hb (by omega) dX1_add_6 (by decide) (fun c3 => ?_) (fun c3 => ?_)
  · skip
    exact absurd c3 (by omega)
  · skip
    refine lv_aload_n hx hb dX1_add_9 rfl (lv_at hl 0 rfl) ?_
    refine g_get hx hb hts hin1 hown hK hG (key := 28) (by omega) (gC_28 st ad cy) rfl 0 (by decide) L_9 (fun _ h9 => h9) rfl dX1_add_10 ?_
    refine lv_aload_n hx hb dX1_add_13 rfl (lv_at hl 0 rfl) ?_
    refine g_get hx hb hts hin1 hown hK hG (key := 28) (by omega) (gC_28 st ad cy) rfl 2 (by decide) L_18 (fun _ h9 => h9) rfl dX1_add_14 ?_
    have hr4 := gI_36 hI (0) (0)
    refine r_nm (fun v5 ev5 => ?_)
    rw [← ev5] at hr4
    refine lv_iload_n hx hb dX1_add_17 rfl (lv_at hl 1 rfl) ?_
    refine g_iast hx hb hK hG (29) (kd := 29) (o := 0) rfl rfl (by omega) (cp := 37) (ln := 6) rfl rfl (by omega) dX1_add_18 (fun H locs hG => ?_)
    obtain ⟨st6, hst6⟩ : ∃ z : St, z = ust st 37 (0) (v5) (v) := ⟨_, rfl⟩
    rw [← hst6] at hG
    replace hI := hst6 ▸ gIu_37 hI (0) (v5) (v := v) (by omega)
    refine lv_aload_n hx hb dX1_add_19 rfl (lv_at hl 0 rfl) ?_
    refine lv_dup hx hb dX1_add_20 rfl ?_
    refine g_get hx hb hts hin1 hown hK hG (key := 28) (by omega) (gC_28 st6 ad cy) rfl 2 (by decide) L_18 (fun _ h9 => h9) rfl dX1_add_21 ?_
    have hr7 := gI_36 hI (0) (0)
    have kq8 : st6 36 (0) (0) = st 36 (0) (0) := by rw [hst6, ust_c (by decide)]
    rw [kq8] at hr7
    refine r_as kq8 ?_
    clear kq8
    refine r_nm (fun v9 ev9 => ?_)
    rw [← ev9] at hr7
    refine lv_iconst (v := iI (1)) hx hb dX1_add_24 rfl ?_
    refine r_iadd hx hb dX1_add_25 ?_
    refine r_nm (fun v10 ev10 => ?_)
    refine g_put hx hb hts hin1 tyX1 tyX1_ok nmX1 hown hK hG (key := 28) (by omega) (gC_28 st6 ad cy) rfl 2 (by decide) L_18 (fun _ h9 => h9) rfl (ty := .int) (by decide +kernel) rfl rfl (Nat.le_of_ble_eq_true rfl) dX1_add_26 (ust st6 36 0 0 (v10)) (fun j _ => gU_36 st6 ad cy (v10) j) (fun H locs hG => ?_)
    obtain ⟨st11, hst11⟩ : ∃ z : St, z = ust st6 36 (0) (0) (v10) := ⟨_, rfl⟩
    rw [← hst11] at hG
    replace hI := hst11 ▸ gIu_36 hI (0) (0) (v := v10) (by omega)
    exact g_vret hx hb hr hlocks hG (by
      exact ⟨by subst_vars; rfl, hI⟩) dX1_add_29
set_option maxHeartbeats 400000 in
set_option maxRecDepth 100000 in
theorem mX1_cyclesReckoned (l : Launch) (D : va_G) (cy : Nat → ClassId) (ad : Nat → Nat) (n : Nat) (st : St) (sz fz : Nat) (wb : Int) (hn : 75 ≤ n) (hI : GI wb st) (hW : wb ≤ 2000000) (w : Int) (hw : 1 ≤ w ∧ w ≤ 1000) : Met l yX1_cyclesReckoned wsX1_cyclesReckoned ({ frames := 1, cells := 0, slots := 0, locals := 21 }) (va_Pc [.ref (ad 28), .int (iI (w))] (gB D cy ad n st sz fz)) (va_Qi (fun (r : Int32) (st' : St) => r = iI (tkS st (st 36 0 0).toNat + (w - 1) * tkM st (st 36 0 0).toNat) ∧ st' = st) (gP D cy ad n) (gA n ad sz)) 0 0 (gA n ad sz) := by
  refine Met.ofW (cc := cX1_cyclesReckoned) (maxL := 5) (ret := (some .int)) (by decide) rfl ?_
  intro p e s m args below meth c s₁ B hml hv
  obtain ⟨rfl, hsz, hP, hK, hD0, hN, hZ⟩ := hv
  have hx := B.exec
  have hb := B.bytes
  have hr := B.returns
  have hts := atoms_spec (ws := wsX1_cyclesReckoned) B.pre
  have hown : s.vm.findClass RX1 = some m.cls := findClass_of_methodNamed B.named
  have hlocks := B.notSynchronized
  subst hsz
  have hA : ∀ q : Nat, s.heap.size ≤ q → gA n ad s.heap.size q := fun q h => Or.inr h
  have hG : GH D cy ad n st (gA n ad s.heap.size) s.heap s.heap [] := ⟨hP, gw_A hD0, va_S.rf⟩
  have hl := lv_entry ([.ref (ad 28), .int (iI (w))]) (n := 5) (Nat.le_of_ble_eq_true rfl)
  rw [lg_entry_eq]
  generalize (lg_sl ([.ref (ad 28), .int (iI (w))]) ++ List.replicate (5 - (lg_sl ([.ref (ad 28), .int (iI (w))])).length) Slot.unset).toArray = ls at hl ⊢
  have hl : lv_has ls 5 [(0, .ref (ad 28)), (1, .int (iI (w)))] := hl
  have hin1 : ∀ w ∈ u_ws RX1 TX1 3, w ∈ wsX1_cyclesReckoned := by decide +kernel
  have L_18 := hts (.fieldLink RX1 18 "Crossbarry$Pipeline" "stages" "I") (by decide +kernel)
  have L_22 := hts (.methodLink RX1 22 Lib.Math.max.name) (by decide +kernel)
  have L_9 := hts (.fieldLink RX1 9 "Crossbarry$Pipeline" "takes" "[I") (by decide +kernel)
  have Lcmax := hts (.code Lib.Math.max.name Lib.Math.max.code 2 (some .int)) (by decide +kernel)
  have Li := hts (.initialized "java/lang/Math") (by decide +kernel)
  have Lsmax := hts (.static Lib.Math.max.name) (by decide +kernel)
  have h36 := gI_36 hI 0 0
  refine lv_iconst (v := iI (0)) hx hb dX1_cyclesReckoned_0 rfl ?_
  refine lv_istore_n (lv' := [(2, .int (iI (0))), (0, .ref (ad 28)), (1, .int (iI (w)))]) hx hb dX1_cyclesReckoned_1 rfl hl (by decide) rfl (fun ls hl => ?_)
  refine lv_iconst (v := iI (0)) hx hb dX1_cyclesReckoned_2 rfl ?_
  refine lv_istore_n (lv' := [(3, .int (iI (0))), (2, .int (iI (0))), (0, .ref (ad 28)), (1, .int (iI (w)))]) hx hb dX1_cyclesReckoned_3 rfl hl (by decide) rfl (fun ls hl => ?_)
  refine lv_iconst (v := iI (0)) hx hb dX1_cyclesReckoned_4 rfl ?_
  refine lv_istore (lv' := [(4, .int (iI (0))), (3, .int (iI (0))), (2, .int (iI (0))), (0, .ref (ad 28)), (1, .int (iI (w)))]) hx hb dX1_cyclesReckoned_5 hl (by decide) rfl (fun ls hl => ?_)
  have hloop7 : ∀ (N : Nat)  (k : Nat) (H : Heap) (locs : List Loc) (ls : Array Slot), 7 - k < N → ((k : Int) ≤ st 36 0 0) →  GH D cy ad n st (gA n ad s.heap.size) s.heap H locs → lv_has ls 5 [(2, .int (iI (tkS st k))), (3, .int (iI (tkM st k))), (4, .int (iI (((k : Nat) : Int)))), (0, .ref (ad 28)), (1, .int (iI (w)))] → W p l e (headSpec wsX1_cyclesReckoned { frames := 1, cells := 0, slots := 0, locals := 21 }).room s m (#[.ref (ad 28), .int (iI (w))] : Array Value) below meth c H locs 0 0 (MQ below (va_Qi (fun (r : Int32) (st' : St) => r = iI (tkS st (st 36 0 0).toNat + (w - 1) * tkM st (st 36 0 0).toNat) ∧ st' = st) (gP D cy ad n) (gA n ad s.heap.size)) (#[.ref (ad 28), .int (iI (w))] : Array Value) s 0 0 (gA n ad s.heap.size)) (F0 m 7 ls []) := by
    intro N
    induction N with
    | zero => intro  k H locs ls hm; exact absurd hm (Nat.not_lt_zero _)
    | succ N ih7 =>
      intro  k H locs ls hm hk hG hl
      have htm := tkM_r hI k
      refine lv_iload hx hb dX1_cyclesReckoned_7 (lv_at hl 2 rfl) ?_
      refine lv_aload_n hx hb dX1_cyclesReckoned_9 rfl (lv_at hl 3 rfl) ?_
      refine g_get hx hb hts hin1 hown hK hG (key := 28) (by omega) (gC_28 st ad cy) rfl 2 (by decide) L_18 (fun _ h9 => h9) rfl dX1_cyclesReckoned_10 ?_
      have hr1 := gI_36 hI (0) (0)
      refine r_nm (fun v2 ev2 => ?_)
      rw [← ev2] at hr1
      refine r_icmp_ge (tgt := 44) hx hb (by omega) dX1_cyclesReckoned_13 (by decide) (fun c3 => ?_) (fun c3 => ?_)
      · skip
        refine lv_iload_n hx hb dX1_cyclesReckoned_44 rfl (lv_at hl 0 rfl) ?_
        refine lv_iload_n hx hb dX1_cyclesReckoned_45 rfl (lv_at hl 4 rfl) ?_
        refine lv_iconst (v := iI (1)) hx hb dX1_cyclesReckoned_46 rfl ?_
        refine r_isub hx hb dX1_cyclesReckoned_47 ?_
        refine r_nm (fun v4 ev4 => ?_)
        refine lv_iload_n hx hb dX1_cyclesReckoned_48 rfl (lv_at hl 1 rfl) ?_
        refine r_imul hx hb dX1_cyclesReckoned_49 ?_
        refine r_nm (fun v5 ev5 => ?_)
        refine r_iadd hx hb dX1_cyclesReckoned_50 ?_
        refine r_nm (fun v6 ev6 => ?_)
        exact g_iret hx hb hr hlocks hG (by
          refine ⟨?_, rfl⟩
          congr 1
          rw [show (st 36 0 0).toNat = k by omega]
          subst_vars
          rfl) dX1_cyclesReckoned_51
      · skip
        refine lv_iload_n hx hb dX1_cyclesReckoned_16 rfl (lv_at hl 0 rfl) ?_
        refine lv_aload_n hx hb dX1_cyclesReckoned_17 rfl (lv_at hl 3 rfl) ?_
        refine g_get hx hb hts hin1 hown hK hG (key := 28) (by omega) (gC_28 st ad cy) rfl 0 (by decide) L_9 (fun _ h9 => h9) rfl dX1_cyclesReckoned_18 ?_
        refine lv_iload hx hb dX1_cyclesReckoned_21 (lv_at hl 2 rfl) ?_
        refine g_iald hx hb hK hG (29) (kd := 29) (o := 0) rfl rfl (by omega) (cp := 37) (ln := 6) rfl rfl (by omega) dX1_cyclesReckoned_23 ?_
        have hr7 := gI_37 hI (0) (((k : Nat) : Int))
        refine r_nm (fun v8 ev8 => ?_)
        rw [← ev8] at hr7
        refine r_iadd hx hb dX1_cyclesReckoned_24 ?_
        refine r_nm (fun v9 ev9 => ?_)
        refine lv_istore_n (lv' := [(2, .int (iI (v9))), (3, .int (iI (tkM st k))), (4, .int (iI (((k : Nat) : Int)))), (0, .ref (ad 28)), (1, .int (iI (w)))]) hx hb dX1_cyclesReckoned_25 rfl hl (by decide) rfl (fun ls hl => ?_)
        refine lv_iload_n hx hb dX1_cyclesReckoned_26 rfl (lv_at hl 1 rfl) ?_
        refine lv_aload_n hx hb dX1_cyclesReckoned_27 rfl (lv_at hl 3 rfl) ?_
        refine g_get hx hb hts hin1 hown hK hG (key := 28) (by omega) (gC_28 st ad cy) rfl 0 (by decide) L_9 (fun _ h9 => h9) rfl dX1_cyclesReckoned_28 ?_
        refine lv_iload hx hb dX1_cyclesReckoned_31 (lv_at hl 2 rfl) ?_
        refine g_iald hx hb hK hG (29) (kd := 29) (o := 0) rfl rfl (by omega) (cp := 37) (ln := 6) rfl rfl (by omega) dX1_cyclesReckoned_33 ?_
        have hr10 := gI_37 hI (0) (((k : Nat) : Int))
        refine r_nm (fun v11 ev11 => ?_)
        rw [← ev11] at hr10
        refine va_mmax hx hb (hml.trans hl.1.symm) hown L_22 Lsmax Li Lcmax (Nat.le_of_ble_eq_true rfl) (Nat.le_of_ble_eq_true rfl) (by omega) (by omega) dX1_cyclesReckoned_34 ?_
        refine r_asI (y := max (tkM st k) (v11)) (iI_max (by omega)) ?_
        refine r_nm (fun v12 ev12 => ?_)
        refine lv_istore_n (lv' := [(3, .int (iI (v12))), (2, .int (iI (v9))), (4, .int (iI (((k : Nat) : Int)))), (0, .ref (ad 28)), (1, .int (iI (w)))]) hx hb dX1_cyclesReckoned_37 rfl hl (by decide) rfl (fun ls hl => ?_)
        obtain ⟨v13, ev13⟩ : ∃ y9 : Int, y9 = ((k : Nat) : Int) + (1) := ⟨_, rfl⟩
        refine lv_iinc (v := iI v13) (lv' := [(4, .int (iI (v13))), (3, .int (iI (v12))), (2, .int (iI (v9))), (0, .ref (ad 28)), (1, .int (iI (w)))]) hx hb dX1_cyclesReckoned_38 hl (k := 2) rfl (by rw [ev13]; exact iI_add _ _) (by decide) rfl (fun ls hl => ?_)
        refine lv_goto (tgt := 7) hx hb dX1_cyclesReckoned_41 (by decide) ?_
        rw [show (v9 : Int) = tkS st (k + 1) from by (rw [tkS_s]; subst_vars; rfl)] at hl
        rw [show (v12 : Int) = tkM st (k + 1) from by (rw [tkM_s]; subst_vars; rfl)] at hl
        rw [show (v13 : Int) = (((k + 1) : Nat) : Int) from by omega] at hl
        exact ih7  (k + 1) _ _ _ (by omega) (by omega) hG (lv_sub hl [2, 1, 0, 3, 4] rfl)
  exact hloop7 _  (0) _ _ _ (Nat.lt_succ_self _) (by omega) hG (lv_sub hl [2, 1, 0, 3, 4] rfl)
set_option maxHeartbeats 400000 in
set_option maxRecDepth 100000 in
theorem mX1_work (l : Launch) (D : va_G) (cy : Nat → ClassId) (ad : Nat → Nat) (n : Nat) (st : St) (sz fz : Nat) (wb : Int) (hn : 75 ≤ n) (hI : GI wb st) (hW : wb ≤ 2000000)   : Met l yX1_work wsX1_work ({ frames := 0, cells := 0, slots := 0, locals := 0 }) (va_Pc [.ref (ad 28)] (gB D cy ad n st sz fz)) (va_Qv (fun (st' : St) => st' = setP st (lfW st (st 36 0 0).toNat) ∧ GI wb st') (gP D cy ad n) (gA n ad sz)) 0 0 (gA n ad sz) := by
  refine Met.ofW (cc := cX1_work) (maxL := 2) (ret := none) (by decide) rfl ?_
  intro p e s m args below meth c s₁ B hml hv
  obtain ⟨rfl, hsz, hP, hK, hD0, hN, hZ⟩ := hv
  have hx := B.exec
  have hb := B.bytes
  have hr := B.returns
  have hts := atoms_spec (ws := wsX1_work) B.pre
  have hown : s.vm.findClass RX1 = some m.cls := findClass_of_methodNamed B.named
  have hlocks := B.notSynchronized
  subst hsz
  have hA : ∀ q : Nat, s.heap.size ≤ q → gA n ad s.heap.size q := fun q h => Or.inr h
  have hG : GH D cy ad n st (gA n ad s.heap.size) s.heap s.heap [] := ⟨hP, gw_A hD0, va_S.rf⟩
  have hl := lv_entry ([.ref (ad 28)]) (n := 2) (Nat.le_of_ble_eq_true rfl)
  rw [lg_entry_eq]
  generalize (lg_sl ([.ref (ad 28)]) ++ List.replicate (2 - (lg_sl ([.ref (ad 28)])).length) Slot.unset).toArray = ls at hl ⊢
  have hl : lv_has ls 2 [(0, .ref (ad 28))] := hl
  have hin1 : ∀ w ∈ u_ws RX1 TX1 3, w ∈ wsX1_work := by decide +kernel
  have L_15 := hts (.fieldLink RX1 15 "Crossbarry$Pipeline" "left" "[I") (by decide +kernel)
  have L_18 := hts (.fieldLink RX1 18 "Crossbarry$Pipeline" "stages" "I") (by decide +kernel)
  have h36 := gI_36 hI 0 0
  refine lv_iconst (v := iI (0)) hx hb dX1_work_0 rfl ?_
  refine lv_istore_n (lv' := [(1, .int (iI (0))), (0, .ref (ad 28))]) hx hb dX1_work_1 rfl hl (by decide) rfl (fun ls hl => ?_)
  have hloop2 : ∀ (N : Nat)  (k : Nat) (stb : St) (H : Heap) (locs : List Loc) (ls : Array Slot), 7 - k < N → ((k : Int) ≤ st 36 0 0) → (stb = setP st (lfW st k)) → GI wb stb → GH D cy ad n stb (gA n ad s.heap.size) s.heap H locs → lv_has ls 2 [(1, .int (iI (((k : Nat) : Int)))), (0, .ref (ad 28))] → W p l e (headSpec wsX1_work { frames := 0, cells := 0, slots := 0, locals := 0 }).room s m (#[.ref (ad 28)] : Array Value) below meth c H locs 0 0 (MQ below (va_Qv (fun (st' : St) => st' = setP st (lfW st (st 36 0 0).toNat) ∧ GI wb st') (gP D cy ad n) (gA n ad s.heap.size)) (#[.ref (ad 28)] : Array Value) s 0 0 (gA n ad s.heap.size)) (F0 m 2 ls []) := by
    intro N
    induction N with
    | zero => intro  k stb H locs ls hm; exact absurd hm (Nat.not_lt_zero _)
    | succ N ih2 =>
      intro  k stb H locs ls hm hk hstb hI hG hl
      have hfb : ∀ c o i, (c < 38 ∨ 38 < c) → stb c o i = st c o i := fun c o i h => by rw [hstb]; exact setP_c _ _ h
      refine lv_iload_n hx hb dX1_work_2 rfl (lv_at hl 0 rfl) ?_
      refine lv_aload_n hx hb dX1_work_3 rfl (lv_at hl 1 rfl) ?_
      refine g_get hx hb hts hin1 hown hK hG (key := 28) (by omega) (gC_28 stb ad cy) rfl 2 (by decide) L_18 (fun _ h9 => h9) rfl dX1_work_4 ?_
      have hr1 := gI_36 hI (0) (0)
      have kq2 : stb 36 (0) (0) = st 36 (0) (0) := by rw [hfb _ _ _ (by decide)]
      rw [kq2] at hr1
      refine r_as kq2 ?_
      clear kq2
      refine r_nm (fun v3 ev3 => ?_)
      rw [← ev3] at hr1
      refine r_icmp_ge (tgt := 35) hx hb (by omega) dX1_work_7 (by decide) (fun c4 => ?_) (fun c4 => ?_)
      · skip
        exact g_vret hx hb hr hlocks hG (by
          rw [show (st 36 0 0).toNat = k by omega]
          exact ⟨hstb, hI⟩) dX1_work_35
      · skip
        refine lv_aload_n hx hb dX1_work_10 rfl (lv_at hl 1 rfl) ?_
        refine g_get hx hb hts hin1 hown hK hG (key := 28) (by omega) (gC_28 stb ad cy) rfl 1 (by decide) L_15 (fun _ h9 => h9) rfl dX1_work_11 ?_
        refine lv_iload_n hx hb dX1_work_14 rfl (lv_at hl 0 rfl) ?_
        refine g_iald hx hb hK hG (30) (kd := 30) (o := 0) rfl rfl (by omega) (cp := 38) (ln := 6) rfl rfl (by omega) dX1_work_15 ?_
        have hr5 := gI_38 hI (0) (((k : Nat) : Int))
        refine r_nm (fun v6 ev6 => ?_)
        rw [← ev6] at hr5
        have hl9 : v6 = st 38 0 (k : Int) := by rw [ev6, hstb, setP_r, lfW_k]
        refine r_if_le (tgt := 29) hx hb (by omega) dX1_work_16 (by decide) (fun c7 => ?_) (fun c7 => ?_)
        · skip
          obtain ⟨v8, ev8⟩ : ∃ y9 : Int, y9 = ((k : Nat) : Int) + (1) := ⟨_, rfl⟩
          refine lv_iinc (v := iI v8) (lv' := [(1, .int (iI (v8))), (0, .ref (ad 28))]) hx hb dX1_work_29 hl (k := 0) rfl (by rw [ev8]; exact iI_add _ _) (by decide) rfl (fun ls hl => ?_)
          refine lv_goto (tgt := 2) hx hb dX1_work_32 (by decide) ?_
          rw [show (v8 : Int) = (((k + 1) : Nat) : Int) from by omega] at hl
          exact ih2  (k + 1) stb _ _ _ (by omega) (by omega) (by first | (rw [hstb, ← lfW_n st k (by omega)]; done) | (rw [hstb, hstb, setP_u, lfW_s st k (by omega) (by omega)])) hI hG (lv_sub hl [0, 1] rfl)
        · skip
          refine lv_aload_n hx hb dX1_work_19 rfl (lv_at hl 1 rfl) ?_
          refine g_get hx hb hts hin1 hown hK hG (key := 28) (by omega) (gC_28 stb ad cy) rfl 1 (by decide) L_15 (fun _ h9 => h9) rfl dX1_work_20 ?_
          refine lv_iload_n hx hb dX1_work_23 rfl (lv_at hl 0 rfl) ?_
          refine lv_dup2_11 hx hb dX1_work_24 rfl rfl ?_
          refine g_iald hx hb hK hG (30) (kd := 30) (o := 0) rfl rfl (by omega) (cp := 38) (ln := 6) rfl rfl (by omega) dX1_work_25 ?_
          have hr9 := gI_38 hI (0) (((k : Nat) : Int))
          refine r_nm (fun v10 ev10 => ?_)
          rw [← ev10] at hr9
          have hl8 : v10 = st 38 0 (k : Int) := by rw [ev10, hstb, setP_r, lfW_k]
          refine lv_iconst (v := iI (1)) hx hb dX1_work_26 rfl ?_
          refine r_isub hx hb dX1_work_27 ?_
          refine r_nm (fun v11 ev11 => ?_)
          refine g_iast hx hb hK hG (30) (kd := 30) (o := 0) rfl rfl (by omega) (cp := 38) (ln := 6) rfl rfl (by omega) dX1_work_28 (fun H locs hG => ?_)
          obtain ⟨st12, hst12⟩ : ∃ z : St, z = ust stb 38 (0) (((k : Nat) : Int)) (v11) := ⟨_, rfl⟩
          rw [← hst12] at hG
          replace hI := hst12 ▸ gIu_38 hI (0) (((k : Nat) : Int)) (v := v11) (by omega)
          obtain ⟨v13, ev13⟩ : ∃ y9 : Int, y9 = ((k : Nat) : Int) + (1) := ⟨_, rfl⟩
          refine lv_iinc (v := iI v13) (lv' := [(1, .int (iI (v13))), (0, .ref (ad 28))]) hx hb dX1_work_29 hl (k := 0) rfl (by rw [ev13]; exact iI_add _ _) (by decide) rfl (fun ls hl => ?_)
          refine lv_goto (tgt := 2) hx hb dX1_work_32 (by decide) ?_
          rw [show (v13 : Int) = (((k + 1) : Nat) : Int) from by omega] at hl
          exact ih2  (k + 1) st12 _ _ _ (by omega) (by omega) (by first | (rw [hstb, ← lfW_n st k (by omega)]; done) | (rw [hst12, hstb, setP_u, lfW_s st k (by omega) (by omega)])) hI hG (lv_sub hl [0, 1] rfl)
  exact hloop2 _  (0) st _ _ _ (Nat.lt_succ_self _) (by omega) (by rw [lfW_0]; exact setP_self st) hI hG (lv_sub hl [0, 1] rfl)
