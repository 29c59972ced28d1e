set_option maxHeartbeats 400000 in
set_option maxRecDepth 100000 in
theorem mX1_clear (l : Launch) (D : va_G) (cy : Nat → ClassId) (ad : Nat → Nat) (n : Nat) (st : St) (sz fz : Nat) (wb : Int) (hn : 75 ≤ n) (hI : GI wb st) (hW : wb ≤ 2000000)   : Met l yX1_clear wsX1_clear ({ frames := 0, cells := 0, slots := 0, locals := 0 }) (va_Pc [.ref (ad 28)] (gB D cy ad n st sz fz)) (va_Qv (fun (st' : St) => st' = ust st 36 0 0 0 ∧ GI wb st') (gP D cy ad n) (gA n ad sz)) 0 0 (gA n ad sz) := by
  refine Met.ofW (cc := cX1_clear) (maxL := 1) (ret := none) (by decide) rfl ?_
  intro p e s m args below meth c s₁ B hml hv
  obtain ⟨rfl, hsz, hP, hK, hD0, hN, hZ⟩ := hv
  have hx := B.exec
  have hb := B.bytes
  have hr := B.returns
  have hts := atoms_spec (ws := wsX1_clear) B.pre
  have hown : s.vm.findClass RX1 = some m.cls := findClass_of_methodNamed B.named
  have hlocks := B.notSynchronized
  subst hsz
  have hA : ∀ q : Nat, s.heap.size ≤ q → gA n ad s.heap.size q := fun q h => Or.inr h
  have hG : GH D cy ad n st (gA n ad s.heap.size) s.heap s.heap [] := ⟨hP, gw_A hD0, va_S.rf⟩
  have hl := lv_entry ([.ref (ad 28)]) (n := 1) (Nat.le_of_ble_eq_true rfl)
  rw [lg_entry_eq]
  generalize (lg_sl ([.ref (ad 28)]) ++ List.replicate (1 - (lg_sl ([.ref (ad 28)])).length) Slot.unset).toArray = ls at hl ⊢
  have hl : lv_has ls 1 [(0, .ref (ad 28))] := hl
  have hin1 : ∀ w ∈ u_ws RX1 TX1 3, w ∈ wsX1_clear := by decide +kernel
  have L_18 := hts (.fieldLink RX1 18 "Crossbarry$Pipeline" "stages" "I") (by decide +kernel)
  refine lv_aload_n hx hb dX1_clear_0 rfl (lv_at hl 0 rfl) ?_
  refine lv_iconst (v := iI (0)) hx hb dX1_clear_1 rfl ?_
  refine g_put hx hb hts hin1 tyX1 tyX1_ok nmX1 hown hK hG (key := 28) (by omega) (gC_28 st ad cy) rfl 2 (by decide) L_18 (fun _ h9 => h9) rfl (ty := .int) (by decide +kernel) rfl rfl (Nat.le_of_ble_eq_true rfl) dX1_clear_2 (ust st 36 0 0 (0)) (fun j _ => gU_36 st ad cy (0) j) (fun H locs hG => ?_)
  obtain ⟨st1, hst1⟩ : ∃ z : St, z = ust st 36 (0) (0) (0) := ⟨_, rfl⟩
  rw [← hst1] at hG
  replace hI := hst1 ▸ gIu_36 hI (0) (0) (v := 0) (by omega)
  exact g_vret hx hb hr hlocks hG (by
    exact ⟨by subst_vars; rfl, hI⟩) dX1_clear_5
set_option maxHeartbeats 400000 in
set_option maxRecDepth 100000 in
theorem mX1_add (l : Launch) (D : va_G) (cy : Nat → ClassId) (ad : Nat → Nat) (n : Nat) (st : St) (sz fz : Nat) (wb : Int) (hn : 75 ≤ n) (hI : GI wb st) (hW : wb ≤ 2000000) (v : Int) (hv0 : 0 ≤ v ∧ v ≤ 128) (hsg : st 36 0 0 < 6) : Met l yX1_add wsX1_add ({ frames := 0, cells := 0, slots := 0, locals := 0 }) (va_Pc [.ref (ad 28), .int (iI (v))] (gB D cy ad n st sz fz)) (va_Qv (fun (st' : St) => st' = ust (ust st 37 0 (st 36 0 0) v) 36 0 0 (st 36 0 0 + 1) ∧ GI wb st') (gP D cy ad n) (gA n ad sz)) 0 0 (gA n ad sz) := by
  refine Met.ofW (cc := cX1_add) (maxL := 2) (ret := none) (by decide) rfl ?_
  intro p e s m args below meth c s₁ B hml hv
  obtain ⟨rfl, hsz, hP, hK, hD0, hN, hZ⟩ := hv
  have hx := B.exec
  have hb := B.bytes
  have hr := B.returns
  have hts := atoms_spec (ws := wsX1_add) B.pre
  have hown : s.vm.findClass RX1 = some m.cls := findClass_of_methodNamed B.named
  have hlocks := B.notSynchronized
  subst hsz
  have hA : ∀ q : Nat, s.heap.size ≤ q → gA n ad s.heap.size q := fun q h => Or.inr h
  have hG : GH D cy ad n st (gA n ad s.heap.size) s.heap s.heap [] := ⟨hP, gw_A hD0, va_S.rf⟩
  have hl := lv_entry ([.ref (ad 28), .int (iI (v))]) (n := 2) (Nat.le_of_ble_eq_true rfl)
  rw [lg_entry_eq]
  generalize (lg_sl ([.ref (ad 28), .int (iI (v))]) ++ List.replicate (2 - (lg_sl ([.ref (ad 28), .int (iI (v))])).length) Slot.unset).toArray = ls at hl ⊢
  have hl : lv_has ls 2 [(0, .ref (ad 28)), (1, .int (iI (v)))] := hl
  have hin1 : ∀ w ∈ u_ws RX1 TX1 3, w ∈ wsX1_add := by decide +kernel
  have L_18 := hts (.fieldLink RX1 18 "Crossbarry$Pipeline" "stages" "I") (by decide +kernel)
  have L_9 := hts (.fieldLink RX1 9 "Crossbarry$Pipeline" "takes" "[I") (by decide +kernel)
  refine lv_aload_n hx hb dX1_add_0 rfl (lv_at hl 0 rfl) ?_
  refine g_get hx hb hts hin1 hown hK hG (key := 28) (by omega) (gC_28 st ad cy) rfl 2 (by decide) L_18 (fun _ h9 => h9) rfl dX1_add_1 ?_
  have hr1 := gI_36 hI (0) (0)
  refine r_nm (fun v2 ev2 => ?_)
  rw [← ev2] at hr1
  refine lv_bipush (v := iI (6)) hx hb dX1_add_4 (by decide +kernel) ?_
  refine r_icmp_ge (tgt := 29) hx hb (by omega) dX1_add_6 (by decide) (fun c3 => ?_) (fun c3 => ?_)
  · skip
    exact absurd c3 (by omega)
  · skip
    refine lv_aload_n hx hb dX1_add_9 rfl (lv_at hl 0 rfl) ?_
    refine g_get hx hb hts hin1 hown hK hG (key := 28) (by omega) (gC_28 st ad cy) rfl 0 (by decide) L_9 (fun _ h9 => h9) rfl dX1_add_10 ?_
    refine lv_aload_n hx hb dX1_add_13 rfl (lv_at hl 0 rfl) ?_
    refine g_get hx hb hts hin1 hown hK hG (key := 28) (by omega) (gC_28 st ad cy) rfl 2 (by decide) L_18 (fun _ h9 => h9) rfl dX1_add_14 ?_
    have hr4 := gI_36 hI (0) (0)
    refine r_nm (fun v5 ev5 => ?_)
    rw [← ev5] at hr4
    refine lv_iload_n hx hb dX1_add_17 rfl (lv_at hl 1 rfl) ?_
    refine g_iast hx hb hK hG (29) (kd := 29) (o := 0) rfl rfl (by omega) (cp := 37) (ln := 6) rfl rfl (by omega) dX1_add_18 (fun H locs hG => ?_)
    obtain ⟨st6, hst6⟩ : ∃ z : St, z = ust st 37 (0) (v5) (v) := ⟨_, rfl⟩
    rw [← hst6] at hG
    replace hI := hst6 ▸ gIu_37 hI (0) (v5) (v := v) (by omega)
    refine lv_aload_n hx hb dX1_add_19 rfl (lv_at hl 0 rfl) ?_
    refine lv_dup hx hb dX1_add_20 rfl ?_
    refine g_get hx hb hts hin1 hown hK hG (key := 28) (by omega) (gC_28 st6 ad cy) rfl 2 (by decide) L_18 (fun _ h9 => h9) rfl dX1_add_21 ?_
    have hr7 := gI_36 hI (0) (0)
    have kq8 : st6 36 (0) (0) = st 36 (0) (0) := by rw [hst6, ust_c (by decide)]
    rw [kq8] at hr7
    refine r_as kq8 ?_
    clear kq8
    refine r_nm (fun v9 ev9 => ?_)
    rw [← ev9] at hr7
    refine lv_iconst (v := iI (1)) hx hb dX1_add_24 rfl ?_
    refine r_iadd hx hb dX1_add_25 ?_
    refine r_nm (fun v10 ev10 => ?_)
    refine g_put hx hb hts hin1 tyX1 tyX1_ok nmX1 hown hK hG (key := 28) (by omega) (gC_28 st6 ad cy) rfl 2 (by decide) L_18 (fun _ h9 => h9) rfl (ty := .int) (by decide +kernel) rfl rfl (Nat.le_of_ble_eq_true rfl) dX1_add_26 (ust st6 36 0 0 (v10)) (fun j _ => gU_36 st6 ad cy (v10) j) (fun H locs hG => ?_)
    obtain ⟨st11, hst11⟩ : ∃ z : St, z = ust st6 36 (0) (0) (v10) := ⟨_, rfl⟩
    rw [← hst11] at hG
    replace hI := hst11 ▸ gIu_36 hI (0) (0) (v := v10) (by omega)
    exact g_vret hx hb hr hlocks hG (by
      exact ⟨by subst_vars; rfl, hI⟩) dX1_add_29
