set_option maxHeartbeats 400000 in
set_option maxRecDepth 100000 in
theorem mX2_fewestWith (l : Launch) (D : va_G) (cy : Nat → ClassId) (ad : Nat → Nat) (n : Nat) (st : St) (sz fz : Nat) (wb : Int) (hn : 75 ≤ n) (hI : GI wb st) (hW : wb ≤ 2000000) (i : Int) (rr : Nat) (S : Nat) (hi : 0 ≤ i ∧ i < 8) (hrr : rr < 8) (hS : S < 256) : Met l yX2_fewestWith wsX2_fewestWith ({ frames := 0, cells := 0, slots := 0, locals := 0 }) (va_Pc [.ref (ad 25), .int (iI (i)), .int (iI (((rr : Nat) : Int))), .int (iI (((S : Nat) : Int)))] (gB D cy ad n st sz fz)) (va_Qi (fun (r : Int32) (st' : St) => r = iI (st 34 0 (8 * i + ((rr : Nat) : Int)) + st 35 0 ((S ||| 2 ^ rr : Nat) : Int)) ∧ st' = st) (gP D cy ad n) (gA n ad sz)) 0 0 (gA n ad sz) := by
  refine Met.ofW (cc := cX2_fewestWith) (maxL := 4) (ret := (some .int)) (by decide) rfl ?_
  intro p e s m args below meth c s₁ B hml hv
  obtain ⟨rfl, hsz, hP, hK, hD0, hN, hZ⟩ := hv
  have hx := B.exec
  have hb := B.bytes
  have hr := B.returns
  have hts := atoms_spec (ws := wsX2_fewestWith) B.pre
  have hown : s.vm.findClass RX2 = some m.cls := findClass_of_methodNamed B.named
  have hlocks := B.notSynchronized
  subst hsz
  have hA : ∀ q : Nat, s.heap.size ≤ q → gA n ad s.heap.size q := fun q h => Or.inr h
  have hG : GH D cy ad n st (gA n ad s.heap.size) s.heap s.heap [] := ⟨hP, gw_A hD0, va_S.rf⟩
  have hl := lv_entry ([.ref (ad 25), .int (iI (i)), .int (iI (((rr : Nat) : Int))), .int (iI (((S : Nat) : Int)))]) (n := 4) (Nat.le_of_ble_eq_true rfl)
  rw [lg_entry_eq]
  generalize (lg_sl ([.ref (ad 25), .int (iI (i)), .int (iI (((rr : Nat) : Int))), .int (iI (((S : Nat) : Int)))]) ++ List.replicate (4 - (lg_sl ([.ref (ad 25), .int (iI (i)), .int (iI (((rr : Nat) : Int))), .int (iI (((S : Nat) : Int)))])).length) Slot.unset).toArray = ls at hl ⊢
  have hl : lv_has ls 4 [(0, .ref (ad 25)), (1, .int (iI (i))), (2, .int (iI (((rr : Nat) : Int)))), (3, .int (iI (((S : Nat) : Int))))] := hl
  have hin2 : ∀ w ∈ u_ws RX2 TX2 2, w ∈ wsX2_fewestWith := by decide +kernel
  have L_15 := hts (.fieldLink RX2 15 "Crossbarry$Seating" "fewest" "[I") (by decide +kernel)
  have L_9 := hts (.fieldLink RX2 9 "Crossbarry$Seating" "misfitTable" "[I") (by decide +kernel)
  have hob := or_b S hS rr hrr
  refine lv_aload_n hx hb dX2_fewestWith_0 rfl (lv_at hl 0 rfl) ?_
  refine g_get hx hb hts hin2 hown hK hG (key := 25) (by omega) (gC_25 st ad cy) rfl 0 (by decide) L_9 (fun _ h9 => h9) rfl dX2_fewestWith_1 ?_
  refine lv_iload_n hx hb dX2_fewestWith_4 rfl (lv_at hl 1 rfl) ?_
  refine lv_bipush (v := iI (8)) hx hb dX2_fewestWith_5 (by decide +kernel) ?_
  refine r_imul hx hb dX2_fewestWith_7 ?_
  refine r_nm (fun v1 ev1 => ?_)
  refine lv_iload_n hx hb dX2_fewestWith_8 rfl (lv_at hl 2 rfl) ?_
  refine r_iadd hx hb dX2_fewestWith_9 ?_
  refine r_nm (fun v2 ev2 => ?_)
  refine g_iald hx hb hK hG (26) (kd := 26) (o := 0) rfl rfl (by omega) (cp := 34) (ln := 64) rfl rfl (by omega) dX2_fewestWith_10 ?_
  have hr3 := gI_34 hI (0) (v2)
  refine r_nm (fun v4 ev4 => ?_)
  rw [← ev4] at hr3
  refine lv_aload_n hx hb dX2_fewestWith_11 rfl (lv_at hl 0 rfl) ?_
  refine g_get hx hb hts hin2 hown hK hG (key := 25) (by omega) (gC_25 st ad cy) rfl 1 (by decide) L_15 (fun _ h9 => h9) rfl dX2_fewestWith_12 ?_
  refine lv_iload_n hx hb dX2_fewestWith_15 rfl (lv_at hl 3 rfl) ?_
  refine lv_iconst (v := iI (1)) hx hb dX2_fewestWith_16 rfl ?_
  refine lv_iload_n hx hb dX2_fewestWith_17 rfl (lv_at hl 2 rfl) ?_
  refine r_as (y := ((rr : Nat) : Int)) (by rfl) ?_
  refine r_ishl hx hb (by omega) dX2_fewestWith_18 ?_
  refine r_nm (fun v5 ev5 => ?_)
  have hsl : v5 = ((2 ^ rr : Nat) : Int) := by rw [ev5]; push_cast; omega
  refine r_as (y := ((2 ^ rr : Nat) : Int)) (by exact hsl) ?_
  refine r_as2 (y := ((S : Nat) : Int)) (by rfl) ?_
  refine r_ior hx hb dX2_fewestWith_19 ?_
  refine r_nm (fun v6 ev6 => ?_)
  refine g_iald hx hb hK hG (27) (kd := 27) (o := 0) rfl rfl (by omega) (cp := 35) (ln := 256) rfl rfl (by omega) dX2_fewestWith_20 ?_
  have hr7 := gI_35 hI (0) (v6)
  refine r_nm (fun v8 ev8 => ?_)
  rw [← ev8] at hr7
  refine r_iadd hx hb dX2_fewestWith_21 ?_
  refine r_nm (fun v9 ev9 => ?_)
  exact g_iret hx hb hr hlocks hG (by
    refine ⟨?_, rfl⟩
    congr 1
    subst_vars
    rw [Int.mul_comm i 8]) dX2_fewestWith_22
