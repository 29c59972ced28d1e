set_option maxHeartbeats 400000 in
set_option maxRecDepth 100000 in
theorem mJ6_bitCount (l : Launch) (D : va_G) (cy : Nat → ClassId) (ad : Nat → Nat) (n : Nat) (st : St) (sz fz : Nat) (wb : Int) (hn : 75 ≤ n) (hI : GI wb st) (hW : wb ≤ 2000000) (S : Nat) (hS : S < 256) : Met l yJ6_bitCount_0f7a4 wsJ6_bitCount_0f7a4 ({ frames := 0, cells := 0, slots := 0, locals := 0 }) (va_Pc [.int (iI (((S : Nat) : Int)))] (gB D cy ad n st sz fz)) (va_Qi (fun (r : Int32) (st' : St) => r = iI (((onesU S 8 : Nat) : Int)) ∧ st' = st) (gP D cy ad n) (gA n ad sz)) 0 0 (gA n ad sz) := by
  refine Met.ofW (cc := cJ6_bitCount_0f7a4) (maxL := 1) (ret := (some .int)) (by decide) rfl ?_
  intro p e s m args below meth c s₁ B hml hv
  obtain ⟨rfl, hsz, hP, hK, hD0, hN, hZ⟩ := hv
  have hx := B.exec
  have hb := B.bytes
  have hr := B.returns
  have hts := atoms_spec (ws := wsJ6_bitCount_0f7a4) B.pre
  have hown : s.vm.findClass RJ6 = some m.cls := findClass_of_methodNamed B.named
  have hlocks := B.notSynchronized
  subst hsz
  have hA : ∀ q : Nat, s.heap.size ≤ q → gA n ad s.heap.size q := fun q h => Or.inr h
  have hG : GH D cy ad n st (gA n ad s.heap.size) s.heap s.heap [] := ⟨hP, gw_A hD0, va_S.rf⟩
  have hl := lv_entry ([.int (iI (((S : Nat) : Int)))]) (n := 1) (Nat.le_of_ble_eq_true rfl)
  rw [lg_entry_eq]
  generalize (lg_sl ([.int (iI (((S : Nat) : Int)))]) ++ List.replicate (1 - (lg_sl ([.int (iI (((S : Nat) : Int)))])).length) Slot.unset).toArray = ls at hl ⊢
  have hl : lv_has ls 1 [(0, .int (iI (((S : Nat) : Int))))] := hl
  have L_265 := hts (.constant RJ6 265 (1431655765)) (by decide +kernel)
  have L_266 := hts (.constant RJ6 266 (858993459)) (by decide +kernel)
  have L_267 := hts (.constant RJ6 267 (252645135)) (by decide +kernel)
  refine lv_iload_n hx hb dJ6_bitCount_0f7a4_0 rfl (lv_at hl 0 rfl) ?_
  refine lv_iload_n hx hb dJ6_bitCount_0f7a4_1 rfl (lv_at hl 0 rfl) ?_
  refine lv_iconst (v := 1) hx hb dJ6_bitCount_0f7a4_2 rfl ?_
  refine lv_iushr (v := sr32 (iI (((S : Nat) : Int))) (1)) hx hb dJ6_bitCount_0f7a4_3 rfl ?_
  refine lv_topi (fun w1 ew1 => ?_)
  refine lv_ldcw hx hb hown L_265 dJ6_bitCount_0f7a4_4 ?_
  refine lv_iand hx hb dJ6_bitCount_0f7a4_7 ?_
  refine lv_topi (fun w2 ew2 => ?_)
  refine lv_isub hx hb dJ6_bitCount_0f7a4_8 ?_
  refine lv_topi (fun w3 ew3 => ?_)
  refine lv_istore_n (lv' := [(0, .int (w3))]) hx hb dJ6_bitCount_0f7a4_9 rfl hl (by decide) rfl (fun ls hl => ?_)
  refine lv_iload_n hx hb dJ6_bitCount_0f7a4_10 rfl (lv_at hl 0 rfl) ?_
  refine lv_ldcw hx hb hown L_266 dJ6_bitCount_0f7a4_11 ?_
  refine lv_iand hx hb dJ6_bitCount_0f7a4_14 ?_
  refine lv_topi (fun w4 ew4 => ?_)
  refine lv_iload_n hx hb dJ6_bitCount_0f7a4_15 rfl (lv_at hl 0 rfl) ?_
  refine lv_iconst (v := 2) hx hb dJ6_bitCount_0f7a4_16 rfl ?_
  refine lv_iushr (v := sr32 (w3) (2)) hx hb dJ6_bitCount_0f7a4_17 rfl ?_
  refine lv_topi (fun w5 ew5 => ?_)
  refine lv_ldcw hx hb hown L_266 dJ6_bitCount_0f7a4_18 ?_
  refine lv_iand hx hb dJ6_bitCount_0f7a4_21 ?_
  refine lv_topi (fun w6 ew6 => ?_)
  refine lv_iadd hx hb dJ6_bitCount_0f7a4_22 ?_
  refine lv_topi (fun w7 ew7 => ?_)
  refine lv_istore_n (lv' := [(0, .int (w7))]) hx hb dJ6_bitCount_0f7a4_23 rfl hl (by decide) rfl (fun ls hl => ?_)
  refine lv_iload_n hx hb dJ6_bitCount_0f7a4_24 rfl (lv_at hl 0 rfl) ?_
  refine lv_iload_n hx hb dJ6_bitCount_0f7a4_25 rfl (lv_at hl 0 rfl) ?_
  refine lv_iconst (v := 4) hx hb dJ6_bitCount_0f7a4_26 rfl ?_
  refine lv_iushr (v := sr32 (w7) (4)) hx hb dJ6_bitCount_0f7a4_27 rfl ?_
  refine lv_topi (fun w8 ew8 => ?_)
  refine lv_iadd hx hb dJ6_bitCount_0f7a4_28 ?_
  refine lv_topi (fun w9 ew9 => ?_)
  refine lv_ldcw hx hb hown L_267 dJ6_bitCount_0f7a4_29 ?_
  refine lv_iand hx hb dJ6_bitCount_0f7a4_32 ?_
  refine lv_topi (fun w10 ew10 => ?_)
  refine lv_istore_n (lv' := [(0, .int (w10))]) hx hb dJ6_bitCount_0f7a4_33 rfl hl (by decide) rfl (fun ls hl => ?_)
  refine lv_iload_n hx hb dJ6_bitCount_0f7a4_34 rfl (lv_at hl 0 rfl) ?_
  refine lv_iload_n hx hb dJ6_bitCount_0f7a4_35 rfl (lv_at hl 0 rfl) ?_
  refine lv_bipush (v := 8) hx hb dJ6_bitCount_0f7a4_36 (by decide +kernel) ?_
  refine lv_iushr (v := sr32 (w10) (8)) hx hb dJ6_bitCount_0f7a4_38 rfl ?_
  refine lv_topi (fun w11 ew11 => ?_)
  refine lv_iadd hx hb dJ6_bitCount_0f7a4_39 ?_
  refine lv_topi (fun w12 ew12 => ?_)
  refine lv_istore_n (lv' := [(0, .int (w12))]) hx hb dJ6_bitCount_0f7a4_40 rfl hl (by decide) rfl (fun ls hl => ?_)
  refine lv_iload_n hx hb dJ6_bitCount_0f7a4_41 rfl (lv_at hl 0 rfl) ?_
  refine lv_iload_n hx hb dJ6_bitCount_0f7a4_42 rfl (lv_at hl 0 rfl) ?_
  refine lv_bipush (v := 16) hx hb dJ6_bitCount_0f7a4_43 (by decide +kernel) ?_
  refine lv_iushr (v := sr32 (w12) (16)) hx hb dJ6_bitCount_0f7a4_45 rfl ?_
  refine lv_topi (fun w13 ew13 => ?_)
  refine lv_iadd hx hb dJ6_bitCount_0f7a4_46 ?_
  refine lv_topi (fun w14 ew14 => ?_)
  refine lv_istore_n (lv' := [(0, .int (w14))]) hx hb dJ6_bitCount_0f7a4_47 rfl hl (by decide) rfl (fun ls hl => ?_)
  refine lv_iload_n hx hb dJ6_bitCount_0f7a4_48 rfl (lv_at hl 0 rfl) ?_
  refine lv_bipush (v := 63) hx hb dJ6_bitCount_0f7a4_49 (by decide +kernel) ?_
  refine lv_iand hx hb dJ6_bitCount_0f7a4_51 ?_
  refine lv_topi (fun w15 ew15 => ?_)
  exact g_iret hx hb hr hlocks hG (by
    refine ⟨?_, rfl⟩
    rw [← bitC_e S hS]
    subst_vars
    rfl) dJ6_bitCount_0f7a4_52
set_option maxHeartbeats 400000 in
set_option maxRecDepth 100000 in
theorem mX1_moveOn (l : Launch) (D : va_G) (cy : Nat → ClassId) (ad : Nat → Nat) (n : Nat) (st : St) (sz fz : Nat) (wb : Int) (hn : 75 ≤ n) (hI : GI wb st) (hW : wb ≤ 2000000)   : Met l yX1_moveOn wsX1_moveOn ({ frames := 0, cells := 0, slots := 0, locals := 0 }) (va_Pc [.ref (ad 28)] (gB D cy ad n st sz fz)) (va_Qi (fun (r : Int32) (st' : St) => r = iI (mvF (st 37 0) (st 36 0 0) (st 36 0 0).toNat (st 38 0, 0)).2 ∧ st' = setP st (mvF (st 37 0) (st 36 0 0) (st 36 0 0).toNat (st 38 0, 0)).1 ∧ GI wb st') (gP D cy ad n) (gA n ad sz)) 0 0 (gA n ad sz) := by
  refine Met.ofW (cc := cX1_moveOn) (maxL := 3) (ret := (some .int)) (by decide) rfl ?_
  intro p e s m args below meth c s₁ B hml hv
  obtain ⟨rfl, hsz, hP, hK, hD0, hN, hZ⟩ := hv
  have hx := B.exec
  have hb := B.bytes
  have hr := B.returns
  have hts := atoms_spec (ws := wsX1_moveOn) B.pre
  have hown : s.vm.findClass RX1 = some m.cls := findClass_of_methodNamed B.named
  have hlocks := B.notSynchronized
  subst hsz
  have hA : ∀ q : Nat, s.heap.size ≤ q → gA n ad s.heap.size q := fun q h => Or.inr h
  have hG : GH D cy ad n st (gA n ad s.heap.size) s.heap s.heap [] := ⟨hP, gw_A hD0, va_S.rf⟩
  have hl := lv_entry ([.ref (ad 28)]) (n := 3) (Nat.le_of_ble_eq_true rfl)
  rw [lg_entry_eq]
  generalize (lg_sl ([.ref (ad 28)]) ++ List.replicate (3 - (lg_sl ([.ref (ad 28)])).length) Slot.unset).toArray = ls at hl ⊢
  have hl : lv_has ls 3 [(0, .ref (ad 28))] := hl
  have hin1 : ∀ w ∈ u_ws RX1 TX1 3, w ∈ wsX1_moveOn := by decide +kernel
  have L_15 := hts (.fieldLink RX1 15 "Crossbarry$Pipeline" "left" "[I") (by decide +kernel)
  have L_18 := hts (.fieldLink RX1 18 "Crossbarry$Pipeline" "stages" "I") (by decide +kernel)
  have L_9 := hts (.fieldLink RX1 9 "Crossbarry$Pipeline" "takes" "[I") (by decide +kernel)
  have h36 := gI_36 hI 0 0
  refine lv_iconst (v := iI (0)) hx hb dX1_moveOn_0 rfl ?_
  refine lv_istore_n (lv' := [(1, .int (iI (0))), (0, .ref (ad 28))]) hx hb dX1_moveOn_1 rfl hl (by decide) rfl (fun ls hl => ?_)
  refine lv_aload_n hx hb dX1_moveOn_2 rfl (lv_at hl 1 rfl) ?_
  refine g_get hx hb hts hin1 hown hK hG (key := 28) (by omega) (gC_28 st ad cy) rfl 2 (by decide) L_18 (fun _ h9 => h9) rfl dX1_moveOn_3 ?_
  have hr1 := gI_36 hI (0) (0)
  refine r_nm (fun v2 ev2 => ?_)
  rw [← ev2] at hr1
  refine lv_iconst (v := iI (1)) hx hb dX1_moveOn_6 rfl ?_
  refine r_isub hx hb dX1_moveOn_7 ?_
  refine r_nm (fun v3 ev3 => ?_)
  refine lv_istore_n (lv' := [(2, .int (iI (v3))), (1, .int (iI (0))), (0, .ref (ad 28))]) hx hb dX1_moveOn_8 rfl hl (by decide) rfl (fun ls hl => ?_)
  have hloop9 : ∀ (N : Nat) (x1 : Int) (x2 : Int) (k : Nat) (lf : Int → Int) (stb : St) (H : Heap) (locs : List Loc) (ls : Array Slot), k < N → ((k : Int) ≤ st 36 0 0) → (x2 = (k : Int) - 1) → (0 ≤ x1 ∧ x1 + (k : Int) ≤ 6) → (stb = setP st lf) → (mvF (st 37 0) (st 36 0 0) k (lf, x1) = mvF (st 37 0) (st 36 0 0) (st 36 0 0).toNat (st 38 0, 0)) → GI wb stb → GH D cy ad n stb (gA n ad s.heap.size) s.heap H locs → lv_has ls 3 [(1, .int (iI (x1))), (2, .int (iI (x2))), (0, .ref (ad 28))] → W p l e (headSpec wsX1_moveOn { frames := 0, cells := 0, slots := 0, locals := 0 }).room s m (#[.ref (ad 28)] : Array Value) below meth c H locs 0 0 (MQ below (va_Qi (fun (r : Int32) (st' : St) => r = iI (mvF (st 37 0) (st 36 0 0) (st 36 0 0).toNat (st 38 0, 0)).2 ∧ st' = setP st (mvF (st 37 0) (st 36 0 0) (st 36 0 0).toNat (st 38 0, 0)).1 ∧ GI wb st') (gP D cy ad n) (gA n ad s.heap.size)) (#[.ref (ad 28)] : Array Value) s 0 0 (gA n ad s.heap.size)) (F0 m 9 ls []) := by
    intro N
    induction N with
    | zero => intro x1 x2 k lf stb H locs ls hm; exact absurd hm (Nat.not_lt_zero _)
    | succ N ih9 =>
      intro x1 x2 k lf stb H locs ls hm hk hx2 hx1 hstb hres hI hG hl
      have hfb : ∀ c o i, (c < 38 ∨ 38 < c) → stb c o i = st c o i := fun c o i h => by rw [hstb]; exact setP_c _ _ h
      refine lv_iload_n hx hb dX1_moveOn_9 rfl (lv_at hl 1 rfl) ?_
      refine r_if_lt (tgt := 89) hx hb (by omega) dX1_moveOn_10 (by decide) (fun c4 => ?_) (fun c4 => ?_)
      · skip
        have hk0 : k = 0 := by omega
        subst hk0
        have hz : (lf, x1) = mvF (st 37 0) (st 36 0 0) (st 36 0 0).toNat (st 38 0, 0) := hres
        refine lv_iload_n hx hb dX1_moveOn_89 rfl (lv_at hl 0 rfl) ?_
        exact g_iret hx hb hr hlocks hG (by
          rw [← hz]
          exact ⟨rfl, hstb, hI⟩) dX1_moveOn_90
      · skip
        obtain ⟨k1, rfl⟩ : ∃ k1 : Nat, k = k1 + 1 := ⟨k - 1, by omega⟩
        refine lv_aload_n hx hb dX1_moveOn_13 rfl (lv_at hl 2 rfl) ?_
        refine g_get hx hb hts hin1 hown hK hG (key := 28) (by omega) (gC_28 stb ad cy) rfl 1 (by decide) L_15 (fun _ h9 => h9) rfl dX1_moveOn_14 ?_
        refine lv_iload_n hx hb dX1_moveOn_17 rfl (lv_at hl 1 rfl) ?_
        refine g_iald hx hb hK hG (30) (kd := 30) (o := 0) rfl rfl (by omega) (cp := 38) (ln := 6) rfl rfl (by omega) dX1_moveOn_18 ?_
        have hr5 := gI_38 hI (0) (x2)
        refine r_nm (fun v6 ev6 => ?_)
        rw [← ev6] at hr5
        have hl1 : v6 = lf x2 := by rw [ev6, hstb, setP_r]
        refine r_if_eq (tgt := 25) hx hb (by omega) dX1_moveOn_19 (by decide) (fun c7 => ?_) (fun c7 => ?_)
        · skip
          refine lv_iload_n hx hb dX1_moveOn_25 rfl (lv_at hl 1 rfl) ?_
          refine lv_aload_n hx hb dX1_moveOn_26 rfl (lv_at hl 2 rfl) ?_
          refine g_get hx hb hts hin1 hown hK hG (key := 28) (by omega) (gC_28 stb ad cy) rfl 2 (by decide) L_18 (fun _ h9 => h9) rfl dX1_moveOn_27 ?_
          have hr8 := gI_36 hI (0) (0)
          have kq9 : stb 36 (0) (0) = st 36 (0) (0) := by rw [hfb _ _ _ (by decide)]
          rw [kq9] at hr8
          refine r_as kq9 ?_
          clear kq9
          refine r_nm (fun v10 ev10 => ?_)
          rw [← ev10] at hr8
          refine lv_iconst (v := iI (1)) hx hb dX1_moveOn_30 rfl ?_
          refine r_isub hx hb dX1_moveOn_31 ?_
          refine r_nm (fun v11 ev11 => ?_)
          refine r_icmp_ne (tgt := 48) hx hb (by omega) dX1_moveOn_32 (by decide) (fun c12 => ?_) (fun c12 => ?_)
          · skip
            refine lv_aload_n hx hb dX1_moveOn_48 rfl (lv_at hl 2 rfl) ?_
            refine g_get hx hb hts hin1 hown hK hG (key := 28) (by omega) (gC_28 stb ad cy) rfl 1 (by decide) L_15 (fun _ h9 => h9) rfl dX1_moveOn_49 ?_
            refine lv_iload_n hx hb dX1_moveOn_52 rfl (lv_at hl 1 rfl) ?_
            refine lv_iconst (v := iI (1)) hx hb dX1_moveOn_53 rfl ?_
            refine r_iadd hx hb dX1_moveOn_54 ?_
            refine r_nm (fun v13 ev13 => ?_)
            obtain ⟨jx, hjx⟩ : ∃ z9 : Int, z9 = v13 := ⟨_, rfl⟩
            have hjx1 : jx = x2 + 1 := by omega
            refine r_as (y := jx) (by omega) ?_
            refine g_iald hx hb hK hG (30) (kd := 30) (o := 0) rfl rfl (by omega) (cp := 38) (ln := 6) rfl rfl (by omega) dX1_moveOn_55 ?_
            have hr14 := gI_38 hI (0) (jx)
            refine r_nm (fun v15 ev15 => ?_)
            rw [← ev15] at hr14
            have hl2 : v15 = lf jx := by rw [ev15, hstb, setP_r]
            refine lv_iconst (v := iI (-1)) hx hb dX1_moveOn_56 rfl ?_
            refine r_icmp_ne (tgt := 83) hx hb (by omega) dX1_moveOn_57 (by decide) (fun c16 => ?_) (fun c16 => ?_)
            · skip
              obtain ⟨v17, ev17⟩ : ∃ y9 : Int, y9 = x2 + (-1) := ⟨_, rfl⟩
              refine lv_iinc (v := iI v17) (lv' := [(2, .int (iI (v17))), (1, .int (iI (x1))), (0, .ref (ad 28))]) hx hb dX1_moveOn_83 hl (k := 1) rfl (by rw [ev17]; exact iI_add _ _) (by decide) rfl (fun ls hl => ?_)
              refine lv_goto (tgt := 9) hx hb dX1_moveOn_86 (by decide) ?_
              exact ih9 (x1) (v17) (k1) (stb 38 0) stb _ _ _ (by omega) (by omega) (by omega) (by omega) (by first | exact (setP_q hPx).1 | exact (setP_q hPw).1 | exact (setP_q hstb).1) (by first | (rw [(setP_q hPx).2, ← hres]; exact (mvF_m (by omega) (by omega) (by omega) (by omega) (by omega) (by omega)).symm) | (rw [(setP_q hPw).2, ← hres]; exact (mvF_o (by omega) (by omega) (by omega) (by omega)).symm) | (rw [(setP_q hstb).2, ← hres]; first | exact (mvF_n (i := x2) (j := x2 + 1) (by omega) rfl (Or.inl (by omega))).symm | exact (mvF_n (i := x2) (j := jx) (by omega) (by omega) (Or.inr ⟨by omega, by omega⟩)).symm)) hI hG (lv_sub hl [1, 0, 2] rfl)
            · skip
              refine lv_aload_n hx hb dX1_moveOn_60 rfl (lv_at hl 2 rfl) ?_
              refine g_get hx hb hts hin1 hown hK hG (key := 28) (by omega) (gC_28 stb ad cy) rfl 1 (by decide) L_15 (fun _ h9 => h9) rfl dX1_moveOn_61 ?_
              refine lv_iload_n hx hb dX1_moveOn_64 rfl (lv_at hl 1 rfl) ?_
              refine lv_iconst (v := iI (-1)) hx hb dX1_moveOn_65 rfl ?_
              refine g_iast hx hb hK hG (30) (kd := 30) (o := 0) rfl rfl (by omega) (cp := 38) (ln := 6) rfl rfl (by omega) dX1_moveOn_66 (fun H locs hG => ?_)
              obtain ⟨st18, hst18⟩ : ∃ z : St, z = ust stb 38 (0) (x2) (-1) := ⟨_, rfl⟩
              rw [← hst18] at hG
              replace hI := hst18 ▸ gIu_38 hI (0) (x2) (v := -1) (by omega)
              have hPw := setP_w hstb hst18
              refine lv_aload_n hx hb dX1_moveOn_67 rfl (lv_at hl 2 rfl) ?_
              refine g_get hx hb hts hin1 hown hK hG (key := 28) (by omega) (gC_28 st18 ad cy) rfl 1 (by decide) L_15 (fun _ h9 => h9) rfl dX1_moveOn_68 ?_
              refine lv_iload_n hx hb dX1_moveOn_71 rfl (lv_at hl 1 rfl) ?_
              refine lv_iconst (v := iI (1)) hx hb dX1_moveOn_72 rfl ?_
              refine r_iadd hx hb dX1_moveOn_73 ?_
              refine r_nm (fun v19 ev19 => ?_)
              refine r_as (y := jx) (by omega) ?_
              refine lv_aload_n hx hb dX1_moveOn_74 rfl (lv_at hl 2 rfl) ?_
              refine g_get hx hb hts hin1 hown hK hG (key := 28) (by omega) (gC_28 st18 ad cy) rfl 0 (by decide) L_9 (fun _ h9 => h9) rfl dX1_moveOn_75 ?_
              refine lv_iload_n hx hb dX1_moveOn_78 rfl (lv_at hl 1 rfl) ?_
              refine lv_iconst (v := iI (1)) hx hb dX1_moveOn_79 rfl ?_
              refine r_iadd hx hb dX1_moveOn_80 ?_
              refine r_nm (fun v20 ev20 => ?_)
              refine r_as (y := jx) (by omega) ?_
              refine g_iald hx hb hK hG (29) (kd := 29) (o := 0) rfl rfl (by omega) (cp := 37) (ln := 6) rfl rfl (by omega) dX1_moveOn_81 ?_
              have hr21 := gI_37 hI (0) (jx)
              have kq22 : st18 37 (0) (jx) = st 37 (0) (jx) := by rw [hst18, ust_c (by decide), hfb _ _ _ (by decide)]
              rw [kq22] at hr21
              refine r_as kq22 ?_
              clear kq22
              refine r_nm (fun v23 ev23 => ?_)
              rw [← ev23] at hr21
              refine g_iast hx hb hK hG (30) (kd := 30) (o := 0) rfl rfl (by omega) (cp := 38) (ln := 6) rfl rfl (by omega) dX1_moveOn_82 (fun H locs hG => ?_)
              obtain ⟨st24, hst24⟩ : ∃ z : St, z = ust st18 38 (0) (jx) (v23) := ⟨_, rfl⟩
              rw [← hst24] at hG
              replace hI := hst24 ▸ gIu_38 hI (0) (jx) (v := v23) (by omega)
              have hPx := setP_w hPw hst24
              obtain ⟨v25, ev25⟩ : ∃ y9 : Int, y9 = x2 + (-1) := ⟨_, rfl⟩
              refine lv_iinc (v := iI v25) (lv' := [(2, .int (iI (v25))), (1, .int (iI (x1))), (0, .ref (ad 28))]) hx hb dX1_moveOn_83 hl (k := 1) rfl (by rw [ev25]; exact iI_add _ _) (by decide) rfl (fun ls hl => ?_)
              refine lv_goto (tgt := 9) hx hb dX1_moveOn_86 (by decide) ?_
              exact ih9 (x1) (v25) (k1) (st24 38 0) st24 _ _ _ (by omega) (by omega) (by omega) (by omega) (by first | exact (setP_q hPx).1 | exact (setP_q hPw).1 | exact (setP_q hstb).1) (by first | (rw [(setP_q hPx).2, ← hres]; exact (mvF_m (by omega) (by omega) (by omega) (by omega) (by omega) (by omega)).symm) | (rw [(setP_q hPw).2, ← hres]; exact (mvF_o (by omega) (by omega) (by omega) (by omega)).symm) | (rw [(setP_q hstb).2, ← hres]; first | exact (mvF_n (i := x2) (j := x2 + 1) (by omega) rfl (Or.inl (by omega))).symm | exact (mvF_n (i := x2) (j := jx) (by omega) (by omega) (Or.inr ⟨by omega, by omega⟩)).symm)) hI hG (lv_sub hl [1, 0, 2] rfl)
          · skip
            refine lv_aload_n hx hb dX1_moveOn_35 rfl (lv_at hl 2 rfl) ?_
            refine g_get hx hb hts hin1 hown hK hG (key := 28) (by omega) (gC_28 stb ad cy) rfl 1 (by decide) L_15 (fun _ h9 => h9) rfl dX1_moveOn_36 ?_
            refine lv_iload_n hx hb dX1_moveOn_39 rfl (lv_at hl 1 rfl) ?_
            refine lv_iconst (v := iI (-1)) hx hb dX1_moveOn_40 rfl ?_
            refine g_iast hx hb hK hG (30) (kd := 30) (o := 0) rfl rfl (by omega) (cp := 38) (ln := 6) rfl rfl (by omega) dX1_moveOn_41 (fun H locs hG => ?_)
            obtain ⟨st26, hst26⟩ : ∃ z : St, z = ust stb 38 (0) (x2) (-1) := ⟨_, rfl⟩
            rw [← hst26] at hG
            replace hI := hst26 ▸ gIu_38 hI (0) (x2) (v := -1) (by omega)
            have hPw := setP_w hstb hst26
            obtain ⟨v27, ev27⟩ : ∃ y9 : Int, y9 = x1 + (1) := ⟨_, rfl⟩
            refine lv_iinc (v := iI v27) (lv' := [(1, .int (iI (v27))), (2, .int (iI (x2))), (0, .ref (ad 28))]) hx hb dX1_moveOn_42 hl (k := 0) rfl (by rw [ev27]; exact iI_add _ _) (by decide) rfl (fun ls hl => ?_)
            refine lv_goto (tgt := 83) hx hb dX1_moveOn_45 (by decide) ?_
            obtain ⟨v28, ev28⟩ : ∃ y9 : Int, y9 = x2 + (-1) := ⟨_, rfl⟩
            refine lv_iinc (v := iI v28) (lv' := [(2, .int (iI (v28))), (1, .int (iI (v27))), (0, .ref (ad 28))]) hx hb dX1_moveOn_83 hl (k := 1) rfl (by rw [ev28]; exact iI_add _ _) (by decide) rfl (fun ls hl => ?_)
            refine lv_goto (tgt := 9) hx hb dX1_moveOn_86 (by decide) ?_
            exact ih9 (v27) (v28) (k1) (st26 38 0) st26 _ _ _ (by omega) (by omega) (by omega) (by omega) (by first | exact (setP_q hPx).1 | exact (setP_q hPw).1 | exact (setP_q hstb).1) (by first | (rw [(setP_q hPx).2, ← hres]; exact (mvF_m (by omega) (by omega) (by omega) (by omega) (by omega) (by omega)).symm) | (rw [(setP_q hPw).2, ← hres]; exact (mvF_o (by omega) (by omega) (by omega) (by omega)).symm) | (rw [(setP_q hstb).2, ← hres]; first | exact (mvF_n (i := x2) (j := x2 + 1) (by omega) rfl (Or.inl (by omega))).symm | exact (mvF_n (i := x2) (j := jx) (by omega) (by omega) (Or.inr ⟨by omega, by omega⟩)).symm)) hI hG (lv_sub hl [1, 0, 2] rfl)
        · skip
          refine lv_goto (tgt := 83) hx hb dX1_moveOn_22 (by decide) ?_
          obtain ⟨v29, ev29⟩ : ∃ y9 : Int, y9 = x2 + (-1) := ⟨_, rfl⟩
          refine lv_iinc (v := iI v29) (lv' := [(2, .int (iI (v29))), (1, .int (iI (x1))), (0, .ref (ad 28))]) hx hb dX1_moveOn_83 hl (k := 1) rfl (by rw [ev29]; exact iI_add _ _) (by decide) rfl (fun ls hl => ?_)
          refine lv_goto (tgt := 9) hx hb dX1_moveOn_86 (by decide) ?_
          exact ih9 (x1) (v29) (k1) (stb 38 0) stb _ _ _ (by omega) (by omega) (by omega) (by omega) (by first | exact (setP_q hPx).1 | exact (setP_q hPw).1 | exact (setP_q hstb).1) (by first | (rw [(setP_q hPx).2, ← hres]; exact (mvF_m (by omega) (by omega) (by omega) (by omega) (by omega) (by omega)).symm) | (rw [(setP_q hPw).2, ← hres]; exact (mvF_o (by omega) (by omega) (by omega) (by omega)).symm) | (rw [(setP_q hstb).2, ← hres]; first | exact (mvF_n (i := x2) (j := x2 + 1) (by omega) rfl (Or.inl (by omega))).symm | exact (mvF_n (i := x2) (j := jx) (by omega) (by omega) (Or.inr ⟨by omega, by omega⟩)).symm)) hI hG (lv_sub hl [1, 0, 2] rfl)
  exact hloop9 _ (0) (v3) ((st 36 0 0).toNat) (st 38 0) st _ _ _ (Nat.lt_succ_self _) (by omega) (by omega) (by omega) (by exact setP_self st) (by rfl) hI hG (lv_sub hl [1, 0, 2] rfl)
set_option maxHeartbeats 400000 in
set_option maxRecDepth 100000 in
theorem mX1_cyclesCounted (l : Launch) (D : va_G) (cy : Nat → ClassId) (ad : Nat → Nat) (n : Nat) (st : St) (sz fz : Nat) (wb : Int) (hn : 75 ≤ n) (hI : GI wb st) (hW : wb ≤ 2000000) (w : Int) (hw : 1 ≤ w ∧ w ≤ 1000) : Met l yX1_cyclesCounted wsX1_cyclesCounted ({ frames := 1, cells := 0, slots := 0, locals := 22 }) (va_Pc [.ref (ad 28), .int (iI (w))] (gB D cy ad n st sz fz)) (va_Qi (fun (r : Int32) (st' : St) => r = iI (cyV st w) ∧ (∃ lf : Int → Int, st' = setP st lf) ∧ GI wb st') (gP D cy ad n) (gA n ad sz)) 0 0 (gA n ad sz) := by
  refine Met.ofW (cc := cX1_cyclesCounted) (maxL := 5) (ret := (some .int)) (by decide) rfl ?_
  intro p e s m args below meth c s₁ B hml hv
  obtain ⟨rfl, hsz, hP, hK, hD0, hN, hZ⟩ := hv
  have hx := B.exec
  have hb := B.bytes
  have hr := B.returns
  have hts := atoms_spec (ws := wsX1_cyclesCounted) B.pre
  have hown : s.vm.findClass RX1 = some m.cls := findClass_of_methodNamed B.named
  have hlocks := B.notSynchronized
  subst hsz
  have hA : ∀ q : Nat, s.heap.size ≤ q → gA n ad s.heap.size q := fun q h => Or.inr h
  have hG : GH D cy ad n st (gA n ad s.heap.size) s.heap s.heap [] := ⟨hP, gw_A hD0, va_S.rf⟩
  have hl := lv_entry ([.ref (ad 28), .int (iI (w))]) (n := 5) (Nat.le_of_ble_eq_true rfl)
  rw [lg_entry_eq]
  generalize (lg_sl ([.ref (ad 28), .int (iI (w))]) ++ List.replicate (5 - (lg_sl ([.ref (ad 28), .int (iI (w))])).length) Slot.unset).toArray = ls at hl ⊢
  have hl : lv_has ls 5 [(0, .ref (ad 28)), (1, .int (iI (w)))] := hl
  have hin1 : ∀ w ∈ u_ws RX1 TX1 3, w ∈ wsX1_cyclesCounted := by decide +kernel
  have L_15 := hts (.fieldLink RX1 15 "Crossbarry$Pipeline" "left" "[I") (by decide +kernel)
  have L_18 := hts (.fieldLink RX1 18 "Crossbarry$Pipeline" "stages" "I") (by decide +kernel)
  have L_28 := hts (.constant RX1 28 (1000000)) (by decide +kernel)
  have L_9 := hts (.fieldLink RX1 9 "Crossbarry$Pipeline" "takes" "[I") (by decide +kernel)
  have h36 := gI_36 hI 0 0
  refine lv_iconst (v := iI (0)) hx hb dX1_cyclesCounted_0 rfl ?_
  refine lv_istore_n (lv' := [(2, .int (iI (0))), (0, .ref (ad 28)), (1, .int (iI (w)))]) hx hb dX1_cyclesCounted_1 rfl hl (by decide) rfl (fun ls hl => ?_)
  have hloop2 : ∀ (N : Nat)  (k : Nat) (sta : St) (H : Heap) (locs : List Loc) (ls : Array Slot), 7 - k < N → ((k : Int) ≤ st 36 0 0) → (sta = setP st (lfN st k)) → GI wb sta → GH D cy ad n sta (gA n ad s.heap.size) s.heap H locs → lv_has ls 5 [(2, .int (iI (((k : Nat) : Int)))), (0, .ref (ad 28)), (1, .int (iI (w)))] → W p l e (headSpec wsX1_cyclesCounted { frames := 1, cells := 0, slots := 0, locals := 22 }).room s m (#[.ref (ad 28), .int (iI (w))] : Array Value) below meth c H locs 0 0 (MQ below (va_Qi (fun (r : Int32) (st' : St) => r = iI (cyV st w) ∧ (∃ lf : Int → Int, st' = setP st lf) ∧ GI wb st') (gP D cy ad n) (gA n ad s.heap.size)) (#[.ref (ad 28), .int (iI (w))] : Array Value) s 0 0 (gA n ad s.heap.size)) (F0 m 2 ls []) := by
    intro N
    induction N with
    | zero => intro  k sta H locs ls hm; exact absurd hm (Nat.not_lt_zero _)
    | succ N ih2 =>
      intro  k sta H locs ls hm hk hsta hI hG hl
      have hfa : ∀ c o i, (c < 38 ∨ 38 < c) → sta c o i = st c o i := fun c o i h => by rw [hsta]; exact setP_c _ _ h
      refine lv_iload_n hx hb dX1_cyclesCounted_2 rfl (lv_at hl 0 rfl) ?_
      refine lv_aload_n hx hb dX1_cyclesCounted_3 rfl (lv_at hl 1 rfl) ?_
      refine g_get hx hb hts hin1 hown hK hG (key := 28) (by omega) (gC_28 sta ad cy) rfl 2 (by decide) L_18 (fun _ h9 => h9) rfl dX1_cyclesCounted_4 ?_
      have hr1 := gI_36 hI (0) (0)
      have kq2 : sta 36 (0) (0) = st 36 (0) (0) := by rw [hfa _ _ _ (by decide)]
      rw [kq2] at hr1
      refine r_as kq2 ?_
      clear kq2
      refine r_nm (fun v3 ev3 => ?_)
      rw [← ev3] at hr1
      refine r_icmp_ge (tgt := 23) hx hb (by omega) dX1_cyclesCounted_7 (by decide) (fun c4 => ?_) (fun c4 => ?_)
      · skip
        refine lv_iconst (v := iI (0)) hx hb dX1_cyclesCounted_23 rfl ?_
        refine lv_istore_n (lv' := [(2, .int (iI (0))), (0, .ref (ad 28)), (1, .int (iI (w)))]) hx hb dX1_cyclesCounted_24 rfl hl (by decide) rfl (fun ls hl => ?_)
        refine lv_iconst (v := iI (0)) hx hb dX1_cyclesCounted_25 rfl ?_
        refine lv_istore_n (lv' := [(3, .int (iI (0))), (2, .int (iI (0))), (0, .ref (ad 28)), (1, .int (iI (w)))]) hx hb dX1_cyclesCounted_26 rfl hl (by decide) rfl (fun ls hl => ?_)
        refine lv_iconst (v := iI (0)) hx hb dX1_cyclesCounted_27 rfl ?_
        refine lv_istore (lv' := [(4, .int (iI (0))), (3, .int (iI (0))), (2, .int (iI (0))), (0, .ref (ad 28)), (1, .int (iI (w)))]) hx hb dX1_cyclesCounted_28 hl (by decide) rfl (fun ls hl => ?_)
        have hloop30 : ∀ (N : Nat) (x2 : Int) (x3 : Int) (x4 : Int) (f : Nat) (lf : Int → Int) (stb : St) (H : Heap) (locs : List Loc) (ls : Array Slot), f < N → ((f : Int) + x4 = 1000000 ∧ 0 ≤ x4) → (0 ≤ x2 ∧ x2 ≤ w) → (0 ≤ x3 ∧ x3 < w) → (stb = setP st lf) → (cyC (st 37 0) (st 36 0 0) w f lf x2 x3 x4 = cyV st w) → GI wb stb → GH D cy ad n stb (gA n ad s.heap.size) s.heap H locs → lv_has ls 5 [(2, .int (iI (x2))), (3, .int (iI (x3))), (4, .int (iI (x4))), (0, .ref (ad 28)), (1, .int (iI (w)))] → W p l e (headSpec wsX1_cyclesCounted { frames := 1, cells := 0, slots := 0, locals := 22 }).room s m (#[.ref (ad 28), .int (iI (w))] : Array Value) below meth c H locs 0 0 (MQ below (va_Qi (fun (r : Int32) (st' : St) => r = iI (cyV st w) ∧ (∃ lf : Int → Int, st' = setP st lf) ∧ GI wb st') (gP D cy ad n) (gA n ad s.heap.size)) (#[.ref (ad 28), .int (iI (w))] : Array Value) s 0 0 (gA n ad s.heap.size)) (F0 m 30 ls []) := by
          intro N
          induction N with
          | zero => intro x2 x3 x4 f lf stb H locs ls hm; exact absurd hm (Nat.not_lt_zero _)
          | succ N ih30 =>
            intro x2 x3 x4 f lf stb H locs ls hm hf hx2 hx3 hstb hres hI hG hl
            have hfb : ∀ c o i, (c < 38 ∨ 38 < c) → stb c o i = st c o i := fun c o i h => by rw [hstb]; exact setP_c _ _ h
            refine lv_iload hx hb dX1_cyclesCounted_30 (lv_at hl 2 rfl) ?_
            refine lv_ldc hx hb hown L_28 dX1_cyclesCounted_32 ?_
            refine r_asI (y := 1000000) (by decide +kernel) ?_
            refine r_icmp_ge (tgt := 92) hx hb (by omega) dX1_cyclesCounted_34 (by decide) (fun c5 => ?_) (fun c5 => ?_)
            · skip
              refine lv_ldc hx hb hown L_28 dX1_cyclesCounted_92 ?_
              refine r_asI (y := 1000000) (by decide +kernel) ?_
              exact g_iret hx hb hr hlocks hG (by
                refine ⟨?_, ⟨_, hstb⟩, hI⟩
                have hf0 : f = 0 := by omega
                subst hf0
                congr 1) dX1_cyclesCounted_94
            · skip
              obtain ⟨f1, rfl⟩ : ∃ f1 : Nat, f = f1 + 1 := ⟨f - 1, by omega⟩
              refine lv_iload_n hx hb dX1_cyclesCounted_37 rfl (lv_at hl 1 rfl) ?_
              refine lv_aload_n hx hb dX1_cyclesCounted_38 rfl (lv_at hl 3 rfl) ?_
              refine g_goi hG hA (va_runV (As := []) (rest := [.int (iI (x3))]) ⟨hx, hb, hml, hown, hts⟩ (mX1_moveOn l D cy ad n stb _ fz wb hn hI (by omega)  ) (cwV 0 hts gX1_cyclesCounted_X1_moveOn rfl rfl rfl (by decide +kernel) ⟨Nat.le_of_ble_eq_true rfl, Nat.le_of_ble_eq_true rfl⟩) ⟨g_blind, va_recv hK hG.1 (q0 := 28 - 19) (ci := 1) rfl ((gw_at (k := 28) (by omega)).trans (by rw [gC_28 stb ad cy])), g_pre hK hG hA hN hZ⟩ rfl rfl hl.1 rfl (lv_room (Nat.le_of_ble_eq_true rfl)) dX1_cyclesCounted_39 ⟨Nat.zero_le _, Nat.zero_le _⟩) (fun r9 st6 H locs hp hG => ?_)
              obtain ⟨rfl, hs9, hI⟩ := hp
              have hPm := (mv_back hstb hs9).1
              have hmq := (mv_back hstb hs9).2
              refine r_nm (fun v7 ev7 => ?_)
              have hr8 := mvF_b (stb 37 0) (stb 36 0 0) (stb 36 0 0).toNat (stb 38 0, 0)
              rw [← ev7] at hr8
              have e369 : stb 36 0 0 = st 36 0 0 := hfb 36 0 0 (by decide)
              rw [hmq] at ev7
              refine r_iadd hx hb dX1_cyclesCounted_42 ?_
              refine r_nm (fun v9 ev9 => ?_)
              refine lv_istore_n (lv' := [(3, .int (iI (v9))), (2, .int (iI (x2))), (4, .int (iI (x4))), (0, .ref (ad 28)), (1, .int (iI (w)))]) hx hb dX1_cyclesCounted_43 rfl hl (by decide) rfl (fun ls hl => ?_)
              refine lv_iload_n hx hb dX1_cyclesCounted_44 rfl (lv_at hl 0 rfl) ?_
              refine lv_iload_n hx hb dX1_cyclesCounted_45 rfl (lv_at hl 4 rfl) ?_
              refine r_icmp_lt (tgt := 52) hx hb (by omega) dX1_cyclesCounted_46 (by decide) (fun c10 => ?_) (fun c10 => ?_)
              · skip
                refine lv_iload_n hx hb dX1_cyclesCounted_52 rfl (lv_at hl 1 rfl) ?_
                refine lv_iload_n hx hb dX1_cyclesCounted_53 rfl (lv_at hl 4 rfl) ?_
                refine r_icmp_ge (tgt := 82) hx hb (by omega) dX1_cyclesCounted_54 (by decide) (fun c11 => ?_) (fun c11 => ?_)
                · skip
                  have hPw := hPm
                  refine lv_aload_n hx hb dX1_cyclesCounted_82 rfl (lv_at hl 3 rfl) ?_
                  refine g_gov hG hA (va_runV (As := []) (rest := []) ⟨hx, hb, hml, hown, hts⟩ (mX1_work l D cy ad n st6 _ fz wb hn hI (by omega)  ) (cwV 0 hts gX1_cyclesCounted_X1_work rfl rfl rfl (by decide +kernel) ⟨Nat.le_of_ble_eq_true rfl, Nat.le_of_ble_eq_true rfl⟩) ⟨g_blind, va_recv hK hG.1 (q0 := 28 - 19) (ci := 1) rfl ((gw_at (k := 28) (by omega)).trans (by rw [gC_28 st6 ad cy])), g_pre hK hG hA hN hZ⟩ rfl rfl hl.1 rfl (lv_room (Nat.le_of_ble_eq_true rfl)) dX1_cyclesCounted_83 ⟨Nat.zero_le _, Nat.zero_le _⟩) (fun st12 H locs hp => ?_)
                  intro hG
                  obtain ⟨hs9, hI⟩ := hp
                  have hPk := wk_back hPw hs9
                  obtain ⟨v13, ev13⟩ : ∃ y9 : Int, y9 = x4 + (1) := ⟨_, rfl⟩
                  refine lv_iinc (v := iI v13) (lv' := [(4, .int (iI (v13))), (3, .int (iI (v9))), (2, .int (iI (x2))), (0, .ref (ad 28)), (1, .int (iI (w)))]) hx hb dX1_cyclesCounted_86 hl (k := 2) rfl (by rw [ev13]; exact iI_add _ _) (by decide) rfl (fun ls hl => ?_)
                  refine lv_goto (tgt := 30) hx hb dX1_cyclesCounted_89 (by decide) ?_
                  exact ih30 (x2) (v9) (v13) (f1) (st12 38 0) st12 _ _ _ (by omega) (by omega) (by omega) (by omega) (by exact (setP_q hPk).1) (by rw [(setP_q hPk).2, ← hres]; first | exact cyC_n (by omega) (by omega) (by omega) (Or.inl ⟨by omega, by omega, by omega, by rw [htk0]⟩) | exact cyC_n (by omega) (by omega) (by omega) (Or.inr ⟨by omega, by omega, rfl⟩)) hI hG (lv_sub hl [2, 1, 0, 3, 4] rfl)
                · skip
                  refine lv_aload_n hx hb dX1_cyclesCounted_57 rfl (lv_at hl 3 rfl) ?_
                  refine g_get hx hb hts hin1 hown hK hG (key := 28) (by omega) (gC_28 st6 ad cy) rfl 1 (by decide) L_15 (fun _ h9 => h9) rfl dX1_cyclesCounted_58 ?_
                  refine lv_iconst (v := iI (0)) hx hb dX1_cyclesCounted_61 rfl ?_
                  refine g_iald hx hb hK hG (30) (kd := 30) (o := 0) rfl rfl (by omega) (cp := 38) (ln := 6) rfl rfl (by omega) dX1_cyclesCounted_62 ?_
                  have hr14 := gI_38 hI (0) (0)
                  refine r_nm (fun v15 ev15 => ?_)
                  rw [← ev15] at hr14
                  have hl0 : v15 = (mvF (st 37 0) (st 36 0 0) (st 36 0 0).toNat (lf, 0)).1 0 := by rw [ev15, hPm, setP_r]
                  refine lv_iconst (v := iI (-1)) hx hb dX1_cyclesCounted_63 rfl ?_
                  refine r_icmp_ne (tgt := 82) hx hb (by omega) dX1_cyclesCounted_64 (by decide) (fun c16 => ?_) (fun c16 => ?_)
                  · skip
                    have hPw := hPm
                    refine lv_aload_n hx hb dX1_cyclesCounted_82 rfl (lv_at hl 3 rfl) ?_
                    refine g_gov hG hA (va_runV (As := []) (rest := []) ⟨hx, hb, hml, hown, hts⟩ (mX1_work l D cy ad n st6 _ fz wb hn hI (by omega)  ) (cwV 0 hts gX1_cyclesCounted_X1_work rfl rfl rfl (by decide +kernel) ⟨Nat.le_of_ble_eq_true rfl, Nat.le_of_ble_eq_true rfl⟩) ⟨g_blind, va_recv hK hG.1 (q0 := 28 - 19) (ci := 1) rfl ((gw_at (k := 28) (by omega)).trans (by rw [gC_28 st6 ad cy])), g_pre hK hG hA hN hZ⟩ rfl rfl hl.1 rfl (lv_room (Nat.le_of_ble_eq_true rfl)) dX1_cyclesCounted_83 ⟨Nat.zero_le _, Nat.zero_le _⟩) (fun st17 H locs hp => ?_)
                    intro hG
                    obtain ⟨hs9, hI⟩ := hp
                    have hPk := wk_back hPw hs9
                    obtain ⟨v18, ev18⟩ : ∃ y9 : Int, y9 = x4 + (1) := ⟨_, rfl⟩
                    refine lv_iinc (v := iI v18) (lv' := [(4, .int (iI (v18))), (3, .int (iI (v9))), (2, .int (iI (x2))), (0, .ref (ad 28)), (1, .int (iI (w)))]) hx hb dX1_cyclesCounted_86 hl (k := 2) rfl (by rw [ev18]; exact iI_add _ _) (by decide) rfl (fun ls hl => ?_)
                    refine lv_goto (tgt := 30) hx hb dX1_cyclesCounted_89 (by decide) ?_
                    exact ih30 (x2) (v9) (v18) (f1) (st17 38 0) st17 _ _ _ (by omega) (by omega) (by omega) (by omega) (by exact (setP_q hPk).1) (by rw [(setP_q hPk).2, ← hres]; first | exact cyC_n (by omega) (by omega) (by omega) (Or.inl ⟨by omega, by omega, by omega, by rw [htk0]⟩) | exact cyC_n (by omega) (by omega) (by omega) (Or.inr ⟨by omega, by omega, rfl⟩)) hI hG (lv_sub hl [2, 1, 0, 3, 4] rfl)
                  · skip
                    refine lv_aload_n hx hb dX1_cyclesCounted_67 rfl (lv_at hl 3 rfl) ?_
                    refine g_get hx hb hts hin1 hown hK hG (key := 28) (by omega) (gC_28 st6 ad cy) rfl 1 (by decide) L_15 (fun _ h9 => h9) rfl dX1_cyclesCounted_68 ?_
                    refine lv_iconst (v := iI (0)) hx hb dX1_cyclesCounted_71 rfl ?_
                    refine lv_aload_n hx hb dX1_cyclesCounted_72 rfl (lv_at hl 3 rfl) ?_
                    refine g_get hx hb hts hin1 hown hK hG (key := 28) (by omega) (gC_28 st6 ad cy) rfl 0 (by decide) L_9 (fun _ h9 => h9) rfl dX1_cyclesCounted_73 ?_
                    refine lv_iconst (v := iI (0)) hx hb dX1_cyclesCounted_76 rfl ?_
                    refine g_iald hx hb hK hG (29) (kd := 29) (o := 0) rfl rfl (by omega) (cp := 37) (ln := 6) rfl rfl (by omega) dX1_cyclesCounted_77 ?_
                    have hr19 := gI_37 hI (0) (0)
                    refine r_nm (fun v20 ev20 => ?_)
                    rw [← ev20] at hr19
                    have htk0 : v20 = st 37 0 0 := by rw [ev20, hPm]; exact setP_c _ _ (by decide)
                    refine g_iast hx hb hK hG (30) (kd := 30) (o := 0) rfl rfl (by omega) (cp := 38) (ln := 6) rfl rfl (by omega) dX1_cyclesCounted_78 (fun H locs hG => ?_)
                    obtain ⟨st21, hst21⟩ : ∃ z : St, z = ust st6 38 (0) (0) (v20) := ⟨_, rfl⟩
                    rw [← hst21] at hG
                    replace hI := hst21 ▸ gIu_38 hI (0) (0) (v := v20) (by omega)
                    have hPw := setP_w hPm hst21
                    obtain ⟨v22, ev22⟩ : ∃ y9 : Int, y9 = x2 + (1) := ⟨_, rfl⟩
                    refine lv_iinc (v := iI v22) (lv' := [(2, .int (iI (v22))), (3, .int (iI (v9))), (4, .int (iI (x4))), (0, .ref (ad 28)), (1, .int (iI (w)))]) hx hb dX1_cyclesCounted_79 hl (k := 1) rfl (by rw [ev22]; exact iI_add _ _) (by decide) rfl (fun ls hl => ?_)
                    refine lv_aload_n hx hb dX1_cyclesCounted_82 rfl (lv_at hl 3 rfl) ?_
                    refine g_gov hG hA (va_runV (As := []) (rest := []) ⟨hx, hb, hml, hown, hts⟩ (mX1_work l D cy ad n st21 _ fz wb hn hI (by omega)  ) (cwV 0 hts gX1_cyclesCounted_X1_work rfl rfl rfl (by decide +kernel) ⟨Nat.le_of_ble_eq_true rfl, Nat.le_of_ble_eq_true rfl⟩) ⟨g_blind, va_recv hK hG.1 (q0 := 28 - 19) (ci := 1) rfl ((gw_at (k := 28) (by omega)).trans (by rw [gC_28 st21 ad cy])), g_pre hK hG hA hN hZ⟩ rfl rfl hl.1 rfl (lv_room (Nat.le_of_ble_eq_true rfl)) dX1_cyclesCounted_83 ⟨Nat.zero_le _, Nat.zero_le _⟩) (fun st23 H locs hp => ?_)
                    intro hG
                    obtain ⟨hs9, hI⟩ := hp
                    have hPk := wk_back hPw hs9
                    obtain ⟨v24, ev24⟩ : ∃ y9 : Int, y9 = x4 + (1) := ⟨_, rfl⟩
                    refine lv_iinc (v := iI v24) (lv' := [(4, .int (iI (v24))), (2, .int (iI (v22))), (3, .int (iI (v9))), (0, .ref (ad 28)), (1, .int (iI (w)))]) hx hb dX1_cyclesCounted_86 hl (k := 2) rfl (by rw [ev24]; exact iI_add _ _) (by decide) rfl (fun ls hl => ?_)
                    refine lv_goto (tgt := 30) hx hb dX1_cyclesCounted_89 (by decide) ?_
                    exact ih30 (v22) (v9) (v24) (f1) (st23 38 0) st23 _ _ _ (by omega) (by omega) (by omega) (by omega) (by exact (setP_q hPk).1) (by rw [(setP_q hPk).2, ← hres]; first | exact cyC_n (by omega) (by omega) (by omega) (Or.inl ⟨by omega, by omega, by omega, by rw [htk0]⟩) | exact cyC_n (by omega) (by omega) (by omega) (Or.inr ⟨by omega, by omega, rfl⟩)) hI hG (lv_sub hl [1, 2, 0, 3, 4] rfl)
              · skip
                refine lv_iload hx hb dX1_cyclesCounted_49 (lv_at hl 2 rfl) ?_
                exact g_iret hx hb hr hlocks hG (by
                  refine ⟨?_, ⟨_, hPm⟩, hI⟩
                  congr 1
                  rw [← hres, cyC_y (by omega)]) dX1_cyclesCounted_51
        exact hloop30 _ (0) (0) (0) (cyMx) (lfN st (st 36 0 0).toNat) sta _ _ _ (Nat.lt_succ_self _) (by have := cyMx_v; omega) (by omega) (by omega) (by rw [show (st 36 0 0).toNat = k by omega]; exact hsta) (by rfl) hI hG (lv_sub hl [2, 1, 0, 3, 4] rfl)
      · skip
        refine lv_aload_n hx hb dX1_cyclesCounted_10 rfl (lv_at hl 1 rfl) ?_
        refine g_get hx hb hts hin1 hown hK hG (key := 28) (by omega) (gC_28 sta ad cy) rfl 1 (by decide) L_15 (fun _ h9 => h9) rfl dX1_cyclesCounted_11 ?_
        refine lv_iload_n hx hb dX1_cyclesCounted_14 rfl (lv_at hl 0 rfl) ?_
        refine lv_iconst (v := iI (-1)) hx hb dX1_cyclesCounted_15 rfl ?_
        refine g_iast hx hb hK hG (30) (kd := 30) (o := 0) rfl rfl (by omega) (cp := 38) (ln := 6) rfl rfl (by omega) dX1_cyclesCounted_16 (fun H locs hG => ?_)
        obtain ⟨st25, hst25⟩ : ∃ z : St, z = ust sta 38 (0) (((k : Nat) : Int)) (-1) := ⟨_, rfl⟩
        rw [← hst25] at hG
        replace hI := hst25 ▸ gIu_38 hI (0) (((k : Nat) : Int)) (v := -1) (by omega)
        obtain ⟨v26, ev26⟩ : ∃ y9 : Int, y9 = ((k : Nat) : Int) + (1) := ⟨_, rfl⟩
        refine lv_iinc (v := iI v26) (lv' := [(2, .int (iI (v26))), (0, .ref (ad 28)), (1, .int (iI (w)))]) hx hb dX1_cyclesCounted_17 hl (k := 0) rfl (by rw [ev26]; exact iI_add _ _) (by decide) rfl (fun ls hl => ?_)
        refine lv_goto (tgt := 2) hx hb dX1_cyclesCounted_20 (by decide) ?_
        rw [show (v26 : Int) = (((k + 1) : Nat) : Int) from by omega] at hl
        exact ih2  (k + 1) st25 _ _ _ (by omega) (by omega) (by rw [hst25, hsta, setP_u, lfN_s]) hI hG (lv_sub hl [0, 1, 2] rfl)
  exact hloop2 _  (0) st _ _ _ (Nat.lt_succ_self _) (by omega) (by rw [lfN_0]) hI hG (lv_sub hl [0, 1, 2] rfl)
set_option maxHeartbeats 400000 in
set_option maxRecDepth 100000 in
theorem mX2_fewestMisfits (l : Launch) (D : va_G) (cy : Nat → ClassId) (ad : Nat → Nat) (n : Nat) (st : St) (sz fz : Nat) (wb : Int) (hn : 75 ≤ n) (hI : GI wb st) (hW : wb ≤ 2000000) (ni : Nat) (hni : ni ≤ 8) : Met l yX2_fewestMisfits wsX2_fewestMisfits ({ frames := 2, cells := 0, slots := 0, locals := 47 }) (va_Pc [.ref (ad 25), .int (iI (((ni : Nat) : Int)))] (gB D cy ad n st sz fz)) (va_Qi (fun (r : Int32) (st' : St) => r = iI (dpV (csT st) ni 0) ∧ st' = fsC st ni ∧ GI wb st') (gP D cy ad n) (gA n ad sz)) 0 0 (gA n ad sz) := by
  refine Met.ofW (cc := cX2_fewestMisfits) (maxL := 4) (ret := (some .int)) (by decide) rfl ?_
  intro p e s m args below meth c s₁ B hml hv
  obtain ⟨rfl, hsz, hP, hK, hD0, hN, hZ⟩ := hv
  have hx := B.exec
  have hb := B.bytes
  have hr := B.returns
  have hts := atoms_spec (ws := wsX2_fewestMisfits) B.pre
  have hown : s.vm.findClass RX2 = some m.cls := findClass_of_methodNamed B.named
  have hlocks := B.notSynchronized
  subst hsz
  have hA : ∀ q : Nat, s.heap.size ≤ q → gA n ad s.heap.size q := fun q h => Or.inr h
  have hG : GH D cy ad n st (gA n ad s.heap.size) s.heap s.heap [] := ⟨hP, gw_A hD0, va_S.rf⟩
  have hl := lv_entry ([.ref (ad 25), .int (iI (((ni : Nat) : Int)))]) (n := 4) (Nat.le_of_ble_eq_true rfl)
  rw [lg_entry_eq]
  generalize (lg_sl ([.ref (ad 25), .int (iI (((ni : Nat) : Int)))]) ++ List.replicate (4 - (lg_sl ([.ref (ad 25), .int (iI (((ni : Nat) : Int)))])).length) Slot.unset).toArray = ls at hl ⊢
  have hl : lv_has ls 4 [(0, .ref (ad 25)), (1, .int (iI (((ni : Nat) : Int))))] := hl
  have hin2 : ∀ w ∈ u_ws RX2 TX2 2, w ∈ wsX2_fewestMisfits := by decide +kernel
  have L_15 := hts (.fieldLink RX2 15 "Crossbarry$Seating" "fewest" "[I") (by decide +kernel)
  have hcr0 : ∀ p q, 0 ≤ csT st p q ∧ csT st p q ≤ 16 := csT_r hI
  refine lv_sipush (v := iI (255)) hx hb dX2_fewestMisfits_0 (by decide +kernel) ?_
  refine lv_istore_n (lv' := [(2, .int (iI (255))), (0, .ref (ad 25)), (1, .int (iI (((ni : Nat) : Int))))]) hx hb dX2_fewestMisfits_3 rfl hl (by decide) rfl (fun ls hl => ?_)
  have hloop4 : ∀ (N : Nat) (x2 : Int) (mm : Nat) (stc : St) (H : Heap) (locs : List Loc) (ls : Array Slot), mm < N → (mm ≤ 256) → (x2 = (mm : Int) - 1) → (stc = setW st (st 34 0) (ffX (csT st) ni (st 35 0) mm)) → GI wb stc → GH D cy ad n stc (gA n ad s.heap.size) s.heap H locs → lv_has ls 4 [(2, .int (iI (x2))), (0, .ref (ad 25)), (1, .int (iI (((ni : Nat) : Int))))] → W p l e (headSpec wsX2_fewestMisfits { frames := 2, cells := 0, slots := 0, locals := 47 }).room s m (#[.ref (ad 25), .int (iI (((ni : Nat) : Int)))] : Array Value) below meth c H locs 0 0 (MQ below (va_Qi (fun (r : Int32) (st' : St) => r = iI (dpV (csT st) ni 0) ∧ st' = fsC st ni ∧ GI wb st') (gP D cy ad n) (gA n ad s.heap.size)) (#[.ref (ad 25), .int (iI (((ni : Nat) : Int)))] : Array Value) s 0 0 (gA n ad s.heap.size)) (F0 m 4 ls []) := by
    intro N
    induction N with
    | zero => intro x2 mm stc H locs ls hm; exact absurd hm (Nat.not_lt_zero _)
    | succ N ih4 =>
      intro x2 mm stc H locs ls hm hm9 hx2 hstc hI hG hl
      have hfc : ∀ c o i, (c < 34 ∨ 35 < c) → stc c o i = st c o i := fun c o i h => by rw [hstc]; exact setW_c _ _ _ h
      refine lv_iload_n hx hb dX2_fewestMisfits_4 rfl (lv_at hl 0 rfl) ?_
      refine r_if_lt (tgt := 40) hx hb (by omega) dX2_fewestMisfits_5 (by decide) (fun c1 => ?_) (fun c1 => ?_)
      · skip
        refine lv_aload_n hx hb dX2_fewestMisfits_40 rfl (lv_at hl 1 rfl) ?_
        refine g_get hx hb hts hin2 hown hK hG (key := 25) (by omega) (gC_25 stc ad cy) rfl 1 (by decide) L_15 (fun _ h9 => h9) rfl dX2_fewestMisfits_41 ?_
        refine lv_iconst (v := iI (0)) hx hb dX2_fewestMisfits_44 rfl ?_
        refine g_iald hx hb hK hG (27) (kd := 27) (o := 0) rfl rfl (by omega) (cp := 35) (ln := 256) rfl rfl (by omega) dX2_fewestMisfits_45 ?_
        have hr2 := gI_35 hI (0) (0)
        refine r_nm (fun v3 ev3 => ?_)
        rw [← ev3] at hr2
        have hz0 : v3 = dpV (csT st) ni 0 := by rw [ev3, hstc, setW_35, show mm = 0 by omega]; exact ffX_v (m := 0) (S := 0) (by omega) (by omega)
        exact g_iret hx hb hr hlocks hG (by
          have hm0 : mm = 0 := by omega
          subst hm0
          exact ⟨by rw [← hz0], hstc, hI⟩) dX2_fewestMisfits_46
      · skip
        obtain ⟨S, rfl⟩ : ∃ S : Nat, mm = S + 1 := ⟨mm - 1, by omega⟩
        have hx2S : x2 = ((S : Nat) : Int) := by omega
        refine lv_iload_n hx hb dX2_fewestMisfits_8 rfl (lv_at hl 0 rfl) ?_
        refine r_as (y := ((S : Nat) : Int)) (by omega) ?_
        refine g_goi hG hA (va_runS (As := [.int (iI (((S : Nat) : Int)))]) (rest := []) ⟨hx, hb, hml, hown, hts⟩ (mJ6_bitCount l D cy ad n stc _ fz wb hn hI (by omega) (S) (by omega)) (va_cwS 1 hts gX2_fewestMisfits_J6_bitCount_0f7a4 rfl rfl rfl (by decide +kernel) ⟨Nat.le_of_ble_eq_true rfl, Nat.le_of_ble_eq_true rfl⟩) ⟨g_blind, g_pre hK hG hA hN hZ⟩ rfl rfl hl.1 rfl (lv_room (Nat.le_of_ble_eq_true rfl)) dX2_fewestMisfits_9 ⟨Nat.zero_le _, Nat.zero_le _⟩) (fun r9 s9 H locs hp hG => ?_)
        obtain ⟨rfl, hs9⟩ := hp
        rw [hs9] at hG
        clear hs9
        refine r_nm (fun v4 ev4 => ?_)
        have hr5 := onesI (S)
        rw [← ev4] at hr5
        refine lv_istore_n (lv' := [(3, .int (iI (v4))), (2, .int (iI (x2))), (0, .ref (ad 25)), (1, .int (iI (((ni : Nat) : Int))))]) hx hb dX2_fewestMisfits_12 rfl hl (by decide) rfl (fun ls hl => ?_)
        refine lv_aload_n hx hb dX2_fewestMisfits_13 rfl (lv_at hl 2 rfl) ?_
        refine g_get hx hb hts hin2 hown hK hG (key := 25) (by omega) (gC_25 stc ad cy) rfl 1 (by decide) L_15 (fun _ h9 => h9) rfl dX2_fewestMisfits_14 ?_
        refine lv_iload_n hx hb dX2_fewestMisfits_17 rfl (lv_at hl 1 rfl) ?_
        refine lv_iload_n hx hb dX2_fewestMisfits_18 rfl (lv_at hl 0 rfl) ?_
        refine lv_iload_n hx hb dX2_fewestMisfits_19 rfl (lv_at hl 3 rfl) ?_
        have hlab33 : ∀ (q : Int) (H : Heap) (locs : List Loc) (ls : Array Slot), (q = dpV (csT st) ni S) →  GH D cy ad n stc (gA n ad s.heap.size) s.heap H locs → lv_has ls 4 [(3, .int (iI (v4))), (2, .int (iI (x2))), (0, .ref (ad 25)), (1, .int (iI (((ni : Nat) : Int))))] → W p l e (headSpec wsX2_fewestMisfits { frames := 2, cells := 0, slots := 0, locals := 47 }).room s m (#[.ref (ad 25), .int (iI (((ni : Nat) : Int)))] : Array Value) below meth c H locs 0 0 (MQ below (va_Qi (fun (r : Int32) (st' : St) => r = iI (dpV (csT st) ni 0) ∧ st' = fsC st ni ∧ GI wb st') (gP D cy ad n) (gA n ad s.heap.size)) (#[.ref (ad 25), .int (iI (((ni : Nat) : Int)))] : Array Value) s 0 0 (gA n ad s.heap.size)) (F0 m 33 ls [.int (iI (q)), .int (iI (x2)), .ref (ad 27)]) := by
          intro q H locs ls hq hG hl
          have hqr := dpV_r (fun p q => (hcr0 p q).1) ni S
          refine g_iast hx hb hK hG (27) (kd := 27) (o := 0) rfl rfl (by omega) (cp := 35) (ln := 256) rfl rfl (by omega) dX2_fewestMisfits_33 (fun H locs hG => ?_)
          obtain ⟨st6, hst6⟩ : ∃ z : St, z = ust stc 35 (0) (x2) (q) := ⟨_, rfl⟩
          rw [← hst6] at hG
          replace hI := hst6 ▸ gIu_35 hI (0) (x2) (v := q) (by omega)
          obtain ⟨v7, ev7⟩ : ∃ y9 : Int, y9 = x2 + (-1) := ⟨_, rfl⟩
          refine lv_iinc (v := iI v7) (lv' := [(2, .int (iI (v7))), (3, .int (iI (v4))), (0, .ref (ad 25)), (1, .int (iI (((ni : Nat) : Int))))]) hx hb dX2_fewestMisfits_34 hl (k := 1) rfl (by rw [ev7]; exact iI_add _ _) (by decide) rfl (fun ls hl => ?_)
          refine lv_goto (tgt := 4) hx hb dX2_fewestMisfits_37 (by decide) ?_
          exact ih4 (v7) (S) st6 _ _ _ (by omega) (by omega) (by omega) (by rw [hst6, hstc, hx2S, setW_u35, hq, ffX_s _ _ _ (by omega)]) hI hG (lv_sub hl [0, 2, 3] rfl)
        refine r_icmp_ge (tgt := 32) hx hb (by omega) dX2_fewestMisfits_20 (by decide) (fun c8 => ?_) (fun c8 => ?_)
        · skip
          refine lv_iconst (v := iI (0)) hx hb dX2_fewestMisfits_32 rfl ?_
          exact hlab33 (0)  _ _ _ (by first | exact hfw | (rw [dpV_0 (by omega)])) hG (lv_sub hl [0, 1, 2, 3] rfl)
        · skip
          refine lv_aload_n hx hb dX2_fewestMisfits_23 rfl (lv_at hl 2 rfl) ?_
          refine lv_iload_n hx hb dX2_fewestMisfits_24 rfl (lv_at hl 0 rfl) ?_
          refine lv_iload_n hx hb dX2_fewestMisfits_25 rfl (lv_at hl 1 rfl) ?_
          refine r_as (y := ((S : Nat) : Int)) (by omega) ?_
          refine g_goi hG hA (va_runV (As := [.int (iI (v4)), .int (iI (((S : Nat) : Int)))]) (rest := [.int (iI (x2)), .ref (ad 27)]) ⟨hx, hb, hml, hown, hts⟩ (mX2_fewestFrom l D cy ad n stc _ fz wb hn hI (by omega) (v4) (S) (by omega) (by omega)) (cwV 2 hts gX2_fewestMisfits_X2_fewestFrom rfl rfl rfl (by decide +kernel) ⟨Nat.le_of_ble_eq_true rfl, Nat.le_of_ble_eq_true rfl⟩) ⟨g_blind, va_recv hK hG.1 (q0 := 25 - 19) (ci := 2) rfl ((gw_at (k := 25) (by omega)).trans (by rw [gC_25 stc ad cy])), g_pre hK hG hA hN hZ⟩ rfl rfl hl.1 rfl (lv_room (Nat.le_of_ble_eq_true rfl)) dX2_fewestMisfits_26 ⟨Nat.zero_le _, Nat.zero_le _⟩) (fun r9 s9 H locs hp hG => ?_)
          obtain ⟨rfl, hs9⟩ := hp
          rw [hs9] at hG
          clear hs9
          refine r_nm (fun v9 ev9 => ?_)
          have hfw : v9 = dpV (csT st) ni S := by rw [ev9]; exact fromC_dp hcr0 (fun p r => by rw [hstc, setW_34]; rfl) (fun T h1 h2 => by rw [hstc, setW_35]; exact ffX_v (by omega) h2) hni (by omega) (by omega) (by omega)
          refine lv_goto (tgt := 33) hx hb dX2_fewestMisfits_29 (by decide) ?_
          exact hlab33 (v9)  _ _ _ (by first | exact hfw | (rw [dpV_0 (by omega)])) hG (lv_sub hl [0, 1, 2, 3] rfl)
  exact hloop4 _ (255) (256) st _ _ _ (Nat.lt_succ_self _) (by omega) (by omega) (by rw [ffX_256]; exact setW_self st) hI hG (lv_sub hl [0, 1, 2] rfl)
set_option maxHeartbeats 400000 in
set_option maxRecDepth 100000 in
theorem mX2_lowestBestRow (l : Launch) (D : va_G) (cy : Nat → ClassId) (ad : Nat → Nat) (n : Nat) (st : St) (sz fz : Nat) (wb : Int) (hn : 75 ≤ n) (hI : GI wb st) (hW : wb ≤ 2000000) (i : Nat) (S : Nat) (ni : Nat) (hni : ni ≤ 8) (hi : i < ni) (hS : S < 256) (hoS : onesU S 8 = i) (h35 : ∀ T : Nat, T < 256 → st 35 0 (T : Int) = dpV (csT st) ni T) : Met l yX2_lowestBestRow wsX2_lowestBestRow ({ frames := 1, cells := 0, slots := 0, locals := 23 }) (va_Pc [.ref (ad 25), .int (iI (((i : Nat) : Int))), .int (iI (((S : Nat) : Int)))] (gB D cy ad n st sz fz)) (va_Qi (fun (r : Int32) (st' : St) => r = iI (pkN (csT st) ni i S 0) ∧ st' = st) (gP D cy ad n) (gA n ad sz)) 0 0 (gA n ad sz) := by
  refine Met.ofW (cc := cX2_lowestBestRow) (maxL := 4) (ret := (some .int)) (by decide) rfl ?_
  intro p e s m args below meth c s₁ B hml hv
  obtain ⟨rfl, hsz, hP, hK, hD0, hN, hZ⟩ := hv
  have hx := B.exec
  have hb := B.bytes
  have hr := B.returns
  have hts := atoms_spec (ws := wsX2_lowestBestRow) B.pre
  have hown : s.vm.findClass RX2 = some m.cls := findClass_of_methodNamed B.named
  have hlocks := B.notSynchronized
  subst hsz
  have hA : ∀ q : Nat, s.heap.size ≤ q → gA n ad s.heap.size q := fun q h => Or.inr h
  have hG : GH D cy ad n st (gA n ad s.heap.size) s.heap s.heap [] := ⟨hP, gw_A hD0, va_S.rf⟩
  have hl := lv_entry ([.ref (ad 25), .int (iI (((i : Nat) : Int))), .int (iI (((S : Nat) : Int)))]) (n := 4) (Nat.le_of_ble_eq_true rfl)
  rw [lg_entry_eq]
  generalize (lg_sl ([.ref (ad 25), .int (iI (((i : Nat) : Int))), .int (iI (((S : Nat) : Int)))]) ++ List.replicate (4 - (lg_sl ([.ref (ad 25), .int (iI (((i : Nat) : Int))), .int (iI (((S : Nat) : Int)))])).length) Slot.unset).toArray = ls at hl ⊢
  have hl : lv_has ls 4 [(0, .ref (ad 25)), (1, .int (iI (((i : Nat) : Int)))), (2, .int (iI (((S : Nat) : Int))))] := hl
  have hin2 : ∀ w ∈ u_ws RX2 TX2 2, w ∈ wsX2_lowestBestRow := by decide +kernel
  have L_15 := hts (.fieldLink RX2 15 "Crossbarry$Seating" "fewest" "[I") (by decide +kernel)
  have hcr0 : ∀ p q, 0 ≤ csT st p q ∧ csT st p q ≤ 16 := csT_r hI
  refine lv_iconst (v := iI (0)) hx hb dX2_lowestBestRow_0 rfl ?_
  refine lv_istore_n (lv' := [(3, .int (iI (0))), (0, .ref (ad 25)), (1, .int (iI (((i : Nat) : Int)))), (2, .int (iI (((S : Nat) : Int))))]) hx hb dX2_lowestBestRow_1 rfl hl (by decide) rfl (fun ls hl => ?_)
  have hloop2 : ∀ (N : Nat)  (k : Nat) (H : Heap) (locs : List Loc) (ls : Array Slot), 9 - k < N → (k ≤ 7) → (pkN (csT st) ni i S 0 = pkN (csT st) ni i S k) →  GH D cy ad n st (gA n ad s.heap.size) s.heap H locs → lv_has ls 4 [(3, .int (iI (((k : Nat) : Int)))), (0, .ref (ad 25)), (1, .int (iI (((i : Nat) : Int)))), (2, .int (iI (((S : Nat) : Int))))] → W p l e (headSpec wsX2_lowestBestRow { frames := 1, cells := 0, slots := 0, locals := 23 }).room s m (#[.ref (ad 25), .int (iI (((i : Nat) : Int))), .int (iI (((S : Nat) : Int)))] : Array Value) below meth c H locs 0 0 (MQ below (va_Qi (fun (r : Int32) (st' : St) => r = iI (pkN (csT st) ni i S 0) ∧ st' = st) (gP D cy ad n) (gA n ad s.heap.size)) (#[.ref (ad 25), .int (iI (((i : Nat) : Int))), .int (iI (((S : Nat) : Int)))] : Array Value) s 0 0 (gA n ad s.heap.size)) (F0 m 2 ls []) := by
    intro N
    induction N with
    | zero => intro  k H locs ls hm; exact absurd hm (Nat.not_lt_zero _)
    | succ N ih2 =>
      intro  k H locs ls hm hk hpk hG hl
      refine lv_iload_n hx hb dX2_lowestBestRow_2 rfl (lv_at hl 0 rfl) ?_
      refine lv_bipush (v := iI (7)) hx hb dX2_lowestBestRow_3 (by decide +kernel) ?_
      refine r_icmp_ge (tgt := 40) hx hb (by omega) dX2_lowestBestRow_5 (by decide) (fun c1 => ?_) (fun c1 => ?_)
      · skip
        refine lv_bipush (v := iI (7)) hx hb dX2_lowestBestRow_40 (by decide +kernel) ?_
        exact g_iret hx hb hr hlocks hG (by
          refine ⟨?_, rfl⟩
          congr 1
          have hk7 : k = 7 := by omega
          subst hk7
          exact (pk_low hcr0 hni hi hS hoS hpk).symm) dX2_lowestBestRow_42
      · skip
        refine lv_iload_n hx hb dX2_lowestBestRow_8 rfl (lv_at hl 3 rfl) ?_
        refine lv_iload_n hx hb dX2_lowestBestRow_9 rfl (lv_at hl 0 rfl) ?_
        refine r_as (y := ((k : Nat) : Int)) (by rfl) ?_
        refine r_ishr hx hb (by omega) (by constructor <;> omega) dX2_lowestBestRow_10 ?_
        refine r_nm (fun v2 ev2 => ?_)
        have hbt0 : v2 = ((S : Nat) : Int) / 2 ^ k := ev2
        refine lv_iconst (v := iI (1)) hx hb dX2_lowestBestRow_11 rfl ?_
        refine r_iand 1 hx hb (by decide) (by decide) dX2_lowestBestRow_12 ?_
        refine r_nm (fun v3 ev3 => ?_)
        have hbt : v3 = ((S / 2 ^ k % 2 : Nat) : Int) := by rw [ev3, hbt0]; exact bitSI S k
        refine r_if_ne (tgt := 34) hx hb (by omega) dX2_lowestBestRow_13 (by decide) (fun c4 => ?_) (fun c4 => ?_)
        · skip
          obtain ⟨v5, ev5⟩ : ∃ y9 : Int, y9 = ((k : Nat) : Int) + (1) := ⟨_, rfl⟩
          refine lv_iinc (v := iI v5) (lv' := [(3, .int (iI (v5))), (0, .ref (ad 25)), (1, .int (iI (((i : Nat) : Int)))), (2, .int (iI (((S : Nat) : Int))))]) hx hb dX2_lowestBestRow_34 hl (k := 0) rfl (by rw [ev5]; exact iI_add _ _) (by decide) rfl (fun ls hl => ?_)
          refine lv_goto (tgt := 2) hx hb dX2_lowestBestRow_37 (by decide) ?_
          rw [show (v5 : Int) = (((k + 1) : Nat) : Int) from by omega] at hl
          exact ih2  (k + 1) _ _ _ (by omega) (by omega) (by rw [hpk, pk_s _ _ _ _ (by omega), if_neg (by omega)]) hG (lv_sub hl [0, 1, 2, 3] rfl)
        · skip
          refine lv_aload_n hx hb dX2_lowestBestRow_16 rfl (lv_at hl 1 rfl) ?_
          refine lv_iload_n hx hb dX2_lowestBestRow_17 rfl (lv_at hl 2 rfl) ?_
          refine lv_iload_n hx hb dX2_lowestBestRow_18 rfl (lv_at hl 0 rfl) ?_
          refine lv_iload_n hx hb dX2_lowestBestRow_19 rfl (lv_at hl 3 rfl) ?_
          have h34 := gI_34 hI 0 (8 * ((i : Nat) : Int) + ((k : Nat) : Int))
          have h359 := gI_35 hI 0 ((S ||| 2 ^ k : Nat) : Int)
          have hob := or_b S hS k (by omega)
          refine g_goi hG hA (va_runV (As := [.int (iI (((i : Nat) : Int))), .int (iI (((k : Nat) : Int))), .int (iI (((S : Nat) : Int)))]) (rest := []) ⟨hx, hb, hml, hown, hts⟩ (mX2_fewestWith l D cy ad n st _ fz wb hn hI (by omega) (((i : Nat) : Int)) (k) (S) (by omega) (by omega) (by omega)) (cwV 3 hts gX2_lowestBestRow_X2_fewestWith rfl rfl rfl (by decide +kernel) ⟨Nat.le_of_ble_eq_true rfl, Nat.le_of_ble_eq_true rfl⟩) ⟨g_blind, va_recv hK hG.1 (q0 := 25 - 19) (ci := 2) rfl ((gw_at (k := 25) (by omega)).trans (by rw [gC_25 st ad cy])), g_pre hK hG hA hN hZ⟩ rfl rfl hl.1 rfl (lv_room (Nat.le_of_ble_eq_true rfl)) dX2_lowestBestRow_20 ⟨Nat.zero_le _, Nat.zero_le _⟩) (fun r9 s9 H locs hp hG => ?_)
          obtain ⟨rfl, hs9⟩ := hp
          rw [hs9] at hG
          clear hs9
          refine r_nm (fun v6 ev6 => ?_)
          have hfw : v6 = csT st i k + dpV (csT st) ni (S ||| 2 ^ k) := by rw [ev6, h35 _ hob]; rfl
          refine lv_aload_n hx hb dX2_lowestBestRow_23 rfl (lv_at hl 1 rfl) ?_
          refine g_get hx hb hts hin2 hown hK hG (key := 25) (by omega) (gC_25 st ad cy) rfl 1 (by decide) L_15 (fun _ h9 => h9) rfl dX2_lowestBestRow_24 ?_
          refine lv_iload_n hx hb dX2_lowestBestRow_27 rfl (lv_at hl 3 rfl) ?_
          refine g_iald hx hb hK hG (27) (kd := 27) (o := 0) rfl rfl (by omega) (cp := 35) (ln := 256) rfl rfl (by omega) dX2_lowestBestRow_28 ?_
          have hr7 := gI_35 hI (0) (((S : Nat) : Int))
          refine r_nm (fun v8 ev8 => ?_)
          rw [← ev8] at hr7
          have hfs : v8 = dpV (csT st) ni S := by rw [ev8]; exact h35 S hS
          refine r_icmp_ne (tgt := 34) hx hb (by omega) dX2_lowestBestRow_29 (by decide) (fun c9 => ?_) (fun c9 => ?_)
          · skip
            obtain ⟨v10, ev10⟩ : ∃ y9 : Int, y9 = ((k : Nat) : Int) + (1) := ⟨_, rfl⟩
            refine lv_iinc (v := iI v10) (lv' := [(3, .int (iI (v10))), (0, .ref (ad 25)), (1, .int (iI (((i : Nat) : Int)))), (2, .int (iI (((S : Nat) : Int))))]) hx hb dX2_lowestBestRow_34 hl (k := 0) rfl (by rw [ev10]; exact iI_add _ _) (by decide) rfl (fun ls hl => ?_)
            refine lv_goto (tgt := 2) hx hb dX2_lowestBestRow_37 (by decide) ?_
            rw [show (v10 : Int) = (((k + 1) : Nat) : Int) from by omega] at hl
            exact ih2  (k + 1) _ _ _ (by omega) (by omega) (by rw [hpk, pk_s _ _ _ _ (by omega), if_neg (by omega)]) hG (lv_sub hl [0, 1, 2, 3] rfl)
          · skip
            refine lv_iload_n hx hb dX2_lowestBestRow_32 rfl (lv_at hl 0 rfl) ?_
            exact g_iret hx hb hr hlocks hG (by
              refine ⟨?_, rfl⟩
              congr 1
              rw [hpk, pk_s _ _ _ _ (by omega), if_pos (by omega)]) dX2_lowestBestRow_33
  exact hloop2 _  (0) _ _ _ (Nat.lt_succ_self _) (by omega) (by rfl) hG (lv_sub hl [0, 1, 2, 3] rfl)
set_option maxHeartbeats 400000 in
set_option maxRecDepth 100000 in
theorem mX2_seat (l : Launch) (D : va_G) (cy : Nat → ClassId) (ad : Nat → Nat) (n : Nat) (st : St) (sz fz : Nat) (wb : Int) (hn : 75 ≤ n) (hI : GI wb st) (hW : wb ≤ 2000000) (q : Nat) (hq : 77 + 3 * q < n) : Met l yX2_seat wsX2_seat ({ frames := 3, cells := 0, slots := 0, locals := 70 }) (va_Pc [.ref (ad 25), .ref (ad (75 + 3 * q))] (gB D cy ad n st sz fz)) (va_Qv (fun (st' : St) => st' = stC st q ∧ GI wb st') (gP D cy ad n) (gA n ad sz)) 0 0 (gA n ad sz) := by
  refine Met.ofW (cc := cX2_seat) (maxL := 5) (ret := none) (by decide) rfl ?_
  intro p e s m args below meth c s₁ B hml hv
  obtain ⟨rfl, hsz, hP, hK, hD0, hN, hZ⟩ := hv
  have hx := B.exec
  have hb := B.bytes
  have hr := B.returns
  have hts := atoms_spec (ws := wsX2_seat) B.pre
  have hown : s.vm.findClass RX2 = some m.cls := findClass_of_methodNamed B.named
  have hlocks := B.notSynchronized
  subst hsz
  have hA : ∀ q : Nat, s.heap.size ≤ q → gA n ad s.heap.size q := fun q h => Or.inr h
  have hG : GH D cy ad n st (gA n ad s.heap.size) s.heap s.heap [] := ⟨hP, gw_A hD0, va_S.rf⟩
  have hl := lv_entry ([.ref (ad 25), .ref (ad (75 + 3 * q))]) (n := 5) (Nat.le_of_ble_eq_true rfl)
  rw [lg_entry_eq]
  generalize (lg_sl ([.ref (ad 25), .ref (ad (75 + 3 * q))]) ++ List.replicate (5 - (lg_sl ([.ref (ad 25), .ref (ad (75 + 3 * q))])).length) Slot.unset).toArray = ls at hl ⊢
  have hl : lv_has ls 5 [(0, .ref (ad 25)), (1, .ref (ad (75 + 3 * q)))] := hl
  have hin2 : ∀ w ∈ u_ws RX2 TX2 2, w ∈ wsX2_seat := by decide +kernel
  have hin0 : ∀ w ∈ u_ws RX0 TX0 8, w ∈ wsX2_seat := by decide +kernel
  have L_18 := hts (.fieldLink RX2 18 "Crossbarry$Layer" "inputs" "I") (by decide +kernel)
  have L_53 := hts (.fieldLink RX2 53 "Crossbarry$Layer" "rows" "[I") (by decide +kernel)
  have hin := gI_60 hI q 0
  obtain ⟨ni, hni⟩ : ∃ z9 : Nat, z9 = (st 60 q 0).toNat := ⟨_, rfl⟩
  have hcr0 : ∀ p q, 0 ≤ csT st p q ∧ csT st p q ≤ 16 := csT_r hI
  refine lv_aload_n hx hb dX2_seat_0 rfl (lv_at hl 0 rfl) ?_
  refine lv_aload_n hx hb dX2_seat_1 rfl (lv_at hl 1 rfl) ?_
  refine g_get hx hb hts hin0 hown hK hG (key := 75 + 3 * q) (by omega) (gC_l st ad cy q) rfl 1 (by decide) L_18 (fun _ h9 => h9) rfl dX2_seat_2 ?_
  have hr1 := gI_60 hI (q) (0)
  refine r_nm (fun v2 ev2 => ?_)
  rw [← ev2] at hr1
  refine r_as (y := ((ni : Nat) : Int)) (by omega) ?_
  refine g_goi hG hA (va_runV (As := [.int (iI (((ni : Nat) : Int)))]) (rest := []) ⟨hx, hb, hml, hown, hts⟩ (mX2_fewestMisfits l D cy ad n st _ fz wb hn hI (by omega) (ni) (by omega)) (cwV 1 hts gX2_seat_X2_fewestMisfits rfl rfl rfl (by decide +kernel) ⟨Nat.le_of_ble_eq_true rfl, Nat.le_of_ble_eq_true rfl⟩) ⟨g_blind, va_recv hK hG.1 (q0 := 25 - 19) (ci := 2) rfl ((gw_at (k := 25) (by omega)).trans (by rw [gC_25 st ad cy])), g_pre hK hG hA hN hZ⟩ rfl rfl hl.1 rfl (lv_room (Nat.le_of_ble_eq_true rfl)) dX2_seat_5 ⟨Nat.zero_le _, Nat.zero_le _⟩) (fun r9 st3 H locs hp hG => ?_)
  obtain ⟨rfl, hs9, hI⟩ := hp
  refine r_nm (fun v4 ev4 => ?_)
  have hr5 := dpV_r (fun p q => (csT_r (st := st) (by assumption) p q).1) (ni) 0
  rw [← ev4] at hr5
  refine lv_pop hx hb dX2_seat_8 rfl ?_
  refine lv_iconst (v := iI (0)) hx hb dX2_seat_9 rfl ?_
  refine lv_istore_n (lv' := [(2, .int (iI (0))), (0, .ref (ad 25)), (1, .ref (ad (75 + 3 * q)))]) hx hb dX2_seat_10 rfl hl (by decide) rfl (fun ls hl => ?_)
  refine lv_iconst (v := iI (0)) hx hb dX2_seat_11 rfl ?_
  refine lv_istore_n (lv' := [(3, .int (iI (0))), (2, .int (iI (0))), (0, .ref (ad 25)), (1, .ref (ad (75 + 3 * q)))]) hx hb dX2_seat_12 rfl hl (by decide) rfl (fun ls hl => ?_)
  have hloop13 : ∀ (N : Nat)  (i : Nat) (S : Nat) (stb : St) (H : Heap) (locs : List Loc) (ls : Array Slot), 9 - i < N → (i ≤ ni) → (S = grS (csT st) ni i) → (S < 256 ∧ onesU S 8 = i) → (stb = setQ (fsC st ni) q (rqX st q (csT st) ni i)) → GI wb stb → GH D cy ad n stb (gA n ad s.heap.size) s.heap H locs → lv_has ls 5 [(2, .int (iI (((S : Nat) : Int)))), (3, .int (iI (((i : Nat) : Int)))), (0, .ref (ad 25)), (1, .ref (ad (75 + 3 * q)))] → W p l e (headSpec wsX2_seat { frames := 3, cells := 0, slots := 0, locals := 70 }).room s m (#[.ref (ad 25), .ref (ad (75 + 3 * q))] : Array Value) below meth c H locs 0 0 (MQ below (va_Qv (fun (st' : St) => st' = stC st q ∧ GI wb st') (gP D cy ad n) (gA n ad s.heap.size)) (#[.ref (ad 25), .ref (ad (75 + 3 * q))] : Array Value) s 0 0 (gA n ad s.heap.size)) (F0 m 13 ls []) := by
    intro N
    induction N with
    | zero => intro  i S stb H locs ls hm; exact absurd hm (Nat.not_lt_zero _)
    | succ N ih13 =>
      intro  i S stb H locs ls hm hi hS hS1 hstb hI hG hl
      refine lv_iload_n hx hb dX2_seat_13 rfl (lv_at hl 1 rfl) ?_
      refine lv_aload_n hx hb dX2_seat_14 rfl (lv_at hl 3 rfl) ?_
      refine g_get hx hb hts hin0 hown hK hG (key := 75 + 3 * q) (by omega) (gC_l stb ad cy q) rfl 1 (by decide) L_18 (fun _ h9 => h9) rfl dX2_seat_15 ?_
      have hr6 := gI_60 hI (q) (0)
      refine r_nm (fun v7 ev7 => ?_)
      rw [← ev7] at hr6
      have hin2 : v7 = st 60 q 0 := by rw [ev7, hstb, setQ_c _ _ _ (by decide), fsC_c _ _ (by decide)]
      refine r_icmp_ge (tgt := 50) hx hb (by omega) dX2_seat_18 (by decide) (fun c8 => ?_) (fun c8 => ?_)
      · skip
        exact g_vret hx hb hr hlocks hG (by
          refine ⟨?_, hI⟩
          unfold stC
          rw [← hni, show ni = i by omega] 
          rw [show ni = i by omega] at hstb
          exact hstb) dX2_seat_50
      · skip
        refine lv_aload_n hx hb dX2_seat_21 rfl (lv_at hl 2 rfl) ?_
        refine lv_iload_n hx hb dX2_seat_22 rfl (lv_at hl 1 rfl) ?_
        refine lv_iload_n hx hb dX2_seat_23 rfl (lv_at hl 0 rfl) ?_
        have hcs : csT stb = csT st := csT_e (fun j => by rw [hstb, setQ_c _ _ _ (by decide), fsC_34])
        refine g_goi hG hA (va_runV (As := [.int (iI (((i : Nat) : Int))), .int (iI (((S : Nat) : Int)))]) (rest := []) ⟨hx, hb, hml, hown, hts⟩ (mX2_lowestBestRow l D cy ad n stb _ fz wb hn hI (by omega) (i) (S) (ni) (by omega) (by omega) (by omega) (by omega) (fun T hT => by rw [hcs, hstb, setQ_c _ _ _ (by decide), fsC_35 _ _ hT])) (cwV 2 hts gX2_seat_X2_lowestBestRow rfl rfl rfl (by decide +kernel) ⟨Nat.le_of_ble_eq_true rfl, Nat.le_of_ble_eq_true rfl⟩) ⟨g_blind, va_recv hK hG.1 (q0 := 25 - 19) (ci := 2) rfl ((gw_at (k := 25) (by omega)).trans (by rw [gC_25 stb ad cy])), g_pre hK hG hA hN hZ⟩ rfl rfl hl.1 rfl (lv_room (Nat.le_of_ble_eq_true rfl)) dX2_seat_24 ⟨Nat.zero_le _, Nat.zero_le _⟩) (fun r9 s9 H locs hp hG => ?_)
        obtain ⟨rfl, hs9⟩ := hp
        rw [hs9] at hG
        clear hs9
        refine r_nm (fun v9 ev9 => ?_)
        rw [hcs] at ev9
        obtain ⟨rr, hre, hr8, hrf⟩ := pk_found hcr0 (ni := ni) (i := i) (S := S) (by omega) (by omega) (by omega) (by omega)
        have hvr : v9 = ((rr : Nat) : Int) := by rw [ev9, hre]
        have hor := ones_or S (by omega) rr hr8 hrf
        refine lv_istore (lv' := [(4, .int (iI (v9))), (2, .int (iI (((S : Nat) : Int)))), (3, .int (iI (((i : Nat) : Int)))), (0, .ref (ad 25)), (1, .ref (ad (75 + 3 * q)))]) hx hb dX2_seat_27 hl (by decide) rfl (fun ls hl => ?_)
        refine lv_aload_n hx hb dX2_seat_29 rfl (lv_at hl 4 rfl) ?_
        refine g_get hx hb hts hin0 hown hK hG (key := 75 + 3 * q) (by omega) (gC_l stb ad cy q) rfl 4 (by decide) L_53 (fun _ h9 => h9) rfl dX2_seat_30 ?_
        refine lv_iload_n hx hb dX2_seat_33 rfl (lv_at hl 2 rfl) ?_
        refine lv_iload hx hb dX2_seat_34 (lv_at hl 0 rfl) ?_
        refine g_iast hx hb hK hG (77 + 3 * q) (kd := 42) (o := q) (gk_l (o := q) (j := 2) (by decide)) rfl (by omega) (cp := 63) (ln := 8) rfl rfl (by omega) dX2_seat_36 (fun H locs hG => ?_)
        obtain ⟨st10, hst10⟩ : ∃ z : St, z = ust stb 63 (q) (((i : Nat) : Int)) (v9) := ⟨_, rfl⟩
        rw [← hst10] at hG
        replace hI := hst10 ▸ gIu_63 hI (q) (((i : Nat) : Int)) (v := v9) (by omega)
        refine lv_iload_n hx hb dX2_seat_37 rfl (lv_at hl 1 rfl) ?_
        refine lv_iconst (v := iI (1)) hx hb dX2_seat_38 rfl ?_
        refine lv_iload hx hb dX2_seat_39 (lv_at hl 0 rfl) ?_
        refine r_as (y := ((rr : Nat) : Int)) (by omega) ?_
        refine r_ishl hx hb (by omega) dX2_seat_41 ?_
        refine r_nm (fun v11 ev11 => ?_)
        have hsl : v11 = ((2 ^ rr : Nat) : Int) := by rw [ev11]; push_cast; omega
        refine r_as (y := ((2 ^ rr : Nat) : Int)) (by exact hsl) ?_
        refine r_as2 (y := ((S : Nat) : Int)) (by rfl) ?_
        refine r_ior hx hb dX2_seat_42 ?_
        refine r_nm (fun v12 ev12 => ?_)
        refine lv_istore_n (lv' := [(2, .int (iI (v12))), (4, .int (iI (v9))), (3, .int (iI (((i : Nat) : Int)))), (0, .ref (ad 25)), (1, .ref (ad (75 + 3 * q)))]) hx hb dX2_seat_43 rfl hl (by decide) rfl (fun ls hl => ?_)
        obtain ⟨v13, ev13⟩ : ∃ y9 : Int, y9 = ((i : Nat) : Int) + (1) := ⟨_, rfl⟩
        refine lv_iinc (v := iI v13) (lv' := [(3, .int (iI (v13))), (2, .int (iI (v12))), (4, .int (iI (v9))), (0, .ref (ad 25)), (1, .ref (ad (75 + 3 * q)))]) hx hb dX2_seat_44 hl (k := 2) rfl (by rw [ev13]; exact iI_add _ _) (by decide) rfl (fun ls hl => ?_)
        refine lv_goto (tgt := 13) hx hb dX2_seat_47 (by decide) ?_
        rw [show (v12 : Int) = (((S ||| 2 ^ rr) : Nat) : Int) from by exact ev12] at hl
        rw [show (v13 : Int) = (((i + 1) : Nat) : Int) from by omega] at hl
        exact ih13  (i + 1) (S ||| 2 ^ rr) st10 _ _ _ (by omega) (by omega) (by rw [grS_s, ← hS, hre]; rfl) (by omega) (by rw [hst10, hstb, setQ_u, rqX_s _ _ _ _ _ (by rw [← hS, hre]; omega)]) hI hG (lv_sub hl [1, 0, 3, 4] rfl)
  exact hloop13 _  (0) (0) st3 _ _ _ (Nat.lt_succ_self _) (by omega) (by rfl) (by decide) (by rw [hs9]; exact (rqX_0 _ _ _ _).symm) hI hG (lv_sub hl [1, 0, 2, 3] rfl)
set_option maxHeartbeats 400000 in
set_option maxRecDepth 100000 in
theorem mX2_misfitsOfWay (l : Launch) (D : va_G) (cy : Nat → ClassId) (ad : Nat → Nat) (n : Nat) (st : St) (sz fz : Nat) (wb : Int) (hn : 75 ≤ n) (hI : GI wb st) (hW : wb ≤ 2000000) (wy : Nat) (ni : Nat) (hwy : wy < 4096) (hni : ni ≤ 4) : Met l yX2_misfitsOfWay wsX2_misfitsOfWay ({ frames := 0, cells := 0, slots := 0, locals := 0 }) (va_Pc [.ref (ad 25), .int (iI (((wy : Nat) : Int))), .int (iI (((ni : Nat) : Int)))] (gB D cy ad n st sz fz)) (va_Qi (fun (r : Int32) (st' : St) => r = iI (wyF (csT st) ni 0 0 0 wy) ∧ st' = st) (gP D cy ad n) (gA n ad sz)) 0 0 (gA n ad sz) := by
  refine Met.ofW (cc := cX2_misfitsOfWay) (maxL := 7) (ret := (some .int)) (by decide) rfl ?_
  intro p e s m args below meth c s₁ B hml hv
  obtain ⟨rfl, hsz, hP, hK, hD0, hN, hZ⟩ := hv
  have hx := B.exec
  have hb := B.bytes
  have hr := B.returns
  have hts := atoms_spec (ws := wsX2_misfitsOfWay) B.pre
  have hown : s.vm.findClass RX2 = some m.cls := findClass_of_methodNamed B.named
  have hlocks := B.notSynchronized
  subst hsz
  have hA : ∀ q : Nat, s.heap.size ≤ q → gA n ad s.heap.size q := fun q h => Or.inr h
  have hG : GH D cy ad n st (gA n ad s.heap.size) s.heap s.heap [] := ⟨hP, gw_A hD0, va_S.rf⟩
  have hl := lv_entry ([.ref (ad 25), .int (iI (((wy : Nat) : Int))), .int (iI (((ni : Nat) : Int)))]) (n := 7) (Nat.le_of_ble_eq_true rfl)
  rw [lg_entry_eq]
  generalize (lg_sl ([.ref (ad 25), .int (iI (((wy : Nat) : Int))), .int (iI (((ni : Nat) : Int)))]) ++ List.replicate (7 - (lg_sl ([.ref (ad 25), .int (iI (((wy : Nat) : Int))), .int (iI (((ni : Nat) : Int)))])).length) Slot.unset).toArray = ls at hl ⊢
  have hl : lv_has ls 7 [(0, .ref (ad 25)), (1, .int (iI (((wy : Nat) : Int)))), (2, .int (iI (((ni : Nat) : Int))))] := hl
  have hin2 : ∀ w ∈ u_ws RX2 TX2 2, w ∈ wsX2_misfitsOfWay := by decide +kernel
  have L_9 := hts (.fieldLink RX2 9 "Crossbarry$Seating" "misfitTable" "[I") (by decide +kernel)
  have hcr0 : ∀ p q, 0 ≤ csT st p q ∧ csT st p q ≤ 16 := csT_r hI
  refine lv_iconst (v := iI (0)) hx hb dX2_misfitsOfWay_0 rfl ?_
  refine lv_istore_n (lv' := [(3, .int (iI (0))), (0, .ref (ad 25)), (1, .int (iI (((wy : Nat) : Int)))), (2, .int (iI (((ni : Nat) : Int))))]) hx hb dX2_misfitsOfWay_1 rfl hl (by decide) rfl (fun ls hl => ?_)
  refine lv_iconst (v := iI (0)) hx hb dX2_misfitsOfWay_2 rfl ?_
  refine lv_istore (lv' := [(4, .int (iI (0))), (3, .int (iI (0))), (0, .ref (ad 25)), (1, .int (iI (((wy : Nat) : Int)))), (2, .int (iI (((ni : Nat) : Int))))]) hx hb dX2_misfitsOfWay_3 hl (by decide) rfl (fun ls hl => ?_)
  refine lv_iconst (v := iI (0)) hx hb dX2_misfitsOfWay_5 rfl ?_
  refine lv_istore (lv' := [(5, .int (iI (0))), (4, .int (iI (0))), (3, .int (iI (0))), (0, .ref (ad 25)), (1, .int (iI (((wy : Nat) : Int)))), (2, .int (iI (((ni : Nat) : Int))))]) hx hb dX2_misfitsOfWay_6 hl (by decide) rfl (fun ls hl => ?_)
  have hloop8 : ∀ (N : Nat) (x3 : Int) (i : Nat) (S : Nat) (H : Heap) (locs : List Loc) (ls : Array Slot), 5 - i < N → (i ≤ ni) → (S < 256) → (0 ≤ x3 ∧ x3 ≤ 16 * (i : Int)) → (wyF (csT st) (ni - i) i S x3 (wy / 8 ^ i) = wyF (csT st) ni 0 0 0 wy) →  GH D cy ad n st (gA n ad s.heap.size) s.heap H locs → lv_has ls 7 [(3, .int (iI (x3))), (4, .int (iI (((S : Nat) : Int)))), (5, .int (iI (((i : Nat) : Int)))), (0, .ref (ad 25)), (1, .int (iI (((wy : Nat) : Int)))), (2, .int (iI (((ni : Nat) : Int))))] → W p l e (headSpec wsX2_misfitsOfWay { frames := 0, cells := 0, slots := 0, locals := 0 }).room s m (#[.ref (ad 25), .int (iI (((wy : Nat) : Int))), .int (iI (((ni : Nat) : Int)))] : Array Value) below meth c H locs 0 0 (MQ below (va_Qi (fun (r : Int32) (st' : St) => r = iI (wyF (csT st) ni 0 0 0 wy) ∧ st' = st) (gP D cy ad n) (gA n ad s.heap.size)) (#[.ref (ad 25), .int (iI (((wy : Nat) : Int))), .int (iI (((ni : Nat) : Int)))] : Array Value) s 0 0 (gA n ad s.heap.size)) (F0 m 8 ls []) := by
    intro N
    induction N with
    | zero => intro x3 i S H locs ls hm; exact absurd hm (Nat.not_lt_zero _)
    | succ N ih8 =>
      intro x3 i S H locs ls hm hi hS hx3 hres hG hl
      refine lv_iload hx hb dX2_misfitsOfWay_8 (lv_at hl 2 rfl) ?_
      refine lv_iload_n hx hb dX2_misfitsOfWay_10 rfl (lv_at hl 5 rfl) ?_
      refine r_icmp_ge (tgt := 71) hx hb (by omega) dX2_misfitsOfWay_11 (by decide) (fun c1 => ?_) (fun c1 => ?_)
      · skip
        refine lv_iload_n hx hb dX2_misfitsOfWay_71 rfl (lv_at hl 0 rfl) ?_
        exact g_iret hx hb hr hlocks hG (by
          refine ⟨?_, rfl⟩
          congr 1
          rw [← hres, show ni - i = 0 by omega]
          rfl) dX2_misfitsOfWay_72
      · skip
        refine lv_iload_n hx hb dX2_misfitsOfWay_14 rfl (lv_at hl 4 rfl) ?_
        refine lv_iconst (v := iI (3)) hx hb dX2_misfitsOfWay_15 rfl ?_
        refine lv_iload hx hb dX2_misfitsOfWay_16 (lv_at hl 2 rfl) ?_
        refine r_imul hx hb dX2_misfitsOfWay_18 ?_
        refine r_nm (fun v2 ev2 => ?_)
        refine r_as (y := ((3 * i : Nat) : Int)) (by omega) ?_
        refine r_ishr hx hb (by omega) (by constructor <;> omega) dX2_misfitsOfWay_19 ?_
        refine r_nm (fun v3 ev3 => ?_)
        have hsh0 : v3 = ((wy : Nat) : Int) / 2 ^ (3 * i) := ev3
        refine lv_bipush (v := iI (7)) hx hb dX2_misfitsOfWay_20 (by decide +kernel) ?_
        refine r_iand 3 hx hb (by decide) (by decide) dX2_misfitsOfWay_22 ?_
        refine r_nm (fun v4 ev4 => ?_)
        obtain ⟨rr, hrr⟩ : ∃ z9 : Nat, z9 = wy / 8 ^ i % 8 := ⟨_, rfl⟩
        have hrre : v4 = ((rr : Nat) : Int) := by rw [ev4, hsh0, hrr]; exact shr3 wy i
        have hrr8 : rr < 8 := by omega
        refine r_as (y := ((rr : Nat) : Int)) (by omega) ?_
        refine lv_istore (lv' := [(6, .int (iI (((rr : Nat) : Int)))), (3, .int (iI (x3))), (4, .int (iI (((S : Nat) : Int)))), (5, .int (iI (((i : Nat) : Int)))), (0, .ref (ad 25)), (1, .int (iI (((wy : Nat) : Int)))), (2, .int (iI (((ni : Nat) : Int))))]) hx hb dX2_misfitsOfWay_23 hl (by decide) rfl (fun ls hl => ?_)
        refine lv_iload hx hb dX2_misfitsOfWay_25 (lv_at hl 2 rfl) ?_
        refine lv_iload hx hb dX2_misfitsOfWay_27 (lv_at hl 0 rfl) ?_
        refine r_as (y := ((rr : Nat) : Int)) (by rfl) ?_
        refine r_ishr hx hb (by omega) (by constructor <;> omega) dX2_misfitsOfWay_29 ?_
        refine r_nm (fun v5 ev5 => ?_)
        have hbt0 : v5 = ((S : Nat) : Int) / 2 ^ rr := ev5
        refine lv_iconst (v := iI (1)) hx hb dX2_misfitsOfWay_30 rfl ?_
        refine r_iand 1 hx hb (by decide) (by decide) dX2_misfitsOfWay_31 ?_
        refine r_nm (fun v6 ev6 => ?_)
        have hbt : v6 = ((S / 2 ^ rr % 2 : Nat) : Int) := by rw [ev6, hbt0]; exact bitSI S rr
        refine lv_iconst (v := iI (1)) hx hb dX2_misfitsOfWay_32 rfl ?_
        refine r_icmp_ne (tgt := 40) hx hb (by omega) dX2_misfitsOfWay_33 (by decide) (fun c7 => ?_) (fun c7 => ?_)
        · skip
          refine lv_iload hx hb dX2_misfitsOfWay_40 (lv_at hl 2 rfl) ?_
          refine lv_iconst (v := iI (1)) hx hb dX2_misfitsOfWay_42 rfl ?_
          refine lv_iload hx hb dX2_misfitsOfWay_43 (lv_at hl 0 rfl) ?_
          refine r_as (y := ((rr : Nat) : Int)) (by rfl) ?_
          refine r_ishl hx hb (by omega) dX2_misfitsOfWay_45 ?_
          refine r_nm (fun v8 ev8 => ?_)
          have hsl : v8 = ((2 ^ rr : Nat) : Int) := by rw [ev8]; push_cast; omega
          refine r_as (y := ((2 ^ rr : Nat) : Int)) (by exact hsl) ?_
          refine r_as2 (y := ((S : Nat) : Int)) (by rfl) ?_
          refine r_ior hx hb dX2_misfitsOfWay_46 ?_
          refine r_nm (fun v9 ev9 => ?_)
          have hob := or_b S (by omega) rr hrr8
          refine lv_istore (lv' := [(4, .int (iI (v9))), (6, .int (iI (((rr : Nat) : Int)))), (3, .int (iI (x3))), (5, .int (iI (((i : Nat) : Int)))), (0, .ref (ad 25)), (1, .int (iI (((wy : Nat) : Int)))), (2, .int (iI (((ni : Nat) : Int))))]) hx hb dX2_misfitsOfWay_47 hl (by decide) rfl (fun ls hl => ?_)
          refine lv_iload_n hx hb dX2_misfitsOfWay_49 rfl (lv_at hl 2 rfl) ?_
          refine lv_aload_n hx hb dX2_misfitsOfWay_50 rfl (lv_at hl 4 rfl) ?_
          refine g_get hx hb hts hin2 hown hK hG (key := 25) (by omega) (gC_25 st ad cy) rfl 0 (by decide) L_9 (fun _ h9 => h9) rfl dX2_misfitsOfWay_51 ?_
          refine lv_iload hx hb dX2_misfitsOfWay_54 (lv_at hl 3 rfl) ?_
          refine lv_bipush (v := iI (8)) hx hb dX2_misfitsOfWay_56 (by decide +kernel) ?_
          refine r_imul hx hb dX2_misfitsOfWay_58 ?_
          refine r_nm (fun v10 ev10 => ?_)
          refine lv_iload hx hb dX2_misfitsOfWay_59 (lv_at hl 1 rfl) ?_
          refine r_iadd hx hb dX2_misfitsOfWay_61 ?_
          refine r_nm (fun v11 ev11 => ?_)
          refine g_iald hx hb hK hG (26) (kd := 26) (o := 0) rfl rfl (by omega) (cp := 34) (ln := 64) rfl rfl (by omega) dX2_misfitsOfWay_62 ?_
          have hr12 := gI_34 hI (0) (v11)
          refine r_nm (fun v13 ev13 => ?_)
          rw [← ev13] at hr12
          have hcs : v13 = csT st i rr := by rw [ev13]; unfold csT; congr 1; omega
          have hcb := hcr0 i rr
          refine r_iadd hx hb dX2_misfitsOfWay_63 ?_
          refine r_nm (fun v14 ev14 => ?_)
          refine lv_istore_n (lv' := [(3, .int (iI (v14))), (4, .int (iI (v9))), (6, .int (iI (((rr : Nat) : Int)))), (5, .int (iI (((i : Nat) : Int)))), (0, .ref (ad 25)), (1, .int (iI (((wy : Nat) : Int)))), (2, .int (iI (((ni : Nat) : Int))))]) hx hb dX2_misfitsOfWay_64 rfl hl (by decide) rfl (fun ls hl => ?_)
          obtain ⟨v15, ev15⟩ : ∃ y9 : Int, y9 = ((i : Nat) : Int) + (1) := ⟨_, rfl⟩
          refine lv_iinc (v := iI v15) (lv' := [(5, .int (iI (v15))), (3, .int (iI (v14))), (4, .int (iI (v9))), (6, .int (iI (((rr : Nat) : Int)))), (0, .ref (ad 25)), (1, .int (iI (((wy : Nat) : Int)))), (2, .int (iI (((ni : Nat) : Int))))]) hx hb dX2_misfitsOfWay_65 hl (k := 3) rfl (by rw [ev15]; exact iI_add _ _) (by decide) rfl (fun ls hl => ?_)
          refine lv_goto (tgt := 8) hx hb dX2_misfitsOfWay_68 (by decide) ?_
          rw [show (v9 : Int) = (((S ||| 2 ^ rr) : Nat) : Int) from by exact ev9] at hl
          rw [show (v15 : Int) = (((i + 1) : Nat) : Int) from by omega] at hl
          exact ih8 (v14) (i + 1) (S ||| 2 ^ rr) _ _ _ (by omega) (by omega) (by omega) (by omega) (by rw [← hres, div8]; exact (wyF_f (by omega) hrr (by omega) rfl (by omega)).symm) hG (lv_sub hl [1, 2, 0, 4, 5, 6] rfl)
        · skip
          refine lv_sipush (v := iI (128)) hx hb dX2_misfitsOfWay_36 (by decide +kernel) ?_
          exact g_iret hx hb hr hlocks hG (by
            refine ⟨?_, rfl⟩
            congr 1
            rw [← hres, wyF_t (by omega) hrr (by omega)]) dX2_misfitsOfWay_39
  exact hloop8 _ (0) (0) (0) _ _ _ (Nat.lt_succ_self _) (by omega) (by omega) (by omega) (by rw [Nat.pow_zero, Nat.div_one]; rfl) hG (lv_sub hl [2, 1, 0, 3, 4, 5] rfl)
set_option maxHeartbeats 400000 in
set_option maxRecDepth 100000 in
theorem mX2_fewestOfAllWays (l : Launch) (D : va_G) (cy : Nat → ClassId) (ad : Nat → Nat) (n : Nat) (st : St) (sz fz : Nat) (wb : Int) (hn : 75 ≤ n) (hI : GI wb st) (hW : wb ≤ 2000000) (ni : Nat) (hni : ni ≤ 4) : Met l yX2_fewestOfAllWays wsX2_fewestOfAllWays ({ frames := 1, cells := 0, slots := 0, locals := 26 }) (va_Pc [.ref (ad 25), .int (iI (((ni : Nat) : Int)))] (gB D cy ad n st sz fz)) (va_Qi (fun (r : Int32) (st' : St) => r = iI (dpV (csT st) ni 0) ∧ st' = st) (gP D cy ad n) (gA n ad sz)) 0 0 (gA n ad sz) := by
  refine Met.ofW (cc := cX2_fewestOfAllWays) (maxL := 5) (ret := (some .int)) (by decide) rfl ?_
  intro p e s m args below meth c s₁ B hml hv
  obtain ⟨rfl, hsz, hP, hK, hD0, hN, hZ⟩ := hv
  have hx := B.exec
  have hb := B.bytes
  have hr := B.returns
  have hts := atoms_spec (ws := wsX2_fewestOfAllWays) B.pre
  have hown : s.vm.findClass RX2 = some m.cls := findClass_of_methodNamed B.named
  have hlocks := B.notSynchronized
  subst hsz
  have hA : ∀ q : Nat, s.heap.size ≤ q → gA n ad s.heap.size q := fun q h => Or.inr h
  have hG : GH D cy ad n st (gA n ad s.heap.size) s.heap s.heap [] := ⟨hP, gw_A hD0, va_S.rf⟩
  have hl := lv_entry ([.ref (ad 25), .int (iI (((ni : Nat) : Int)))]) (n := 5) (Nat.le_of_ble_eq_true rfl)
  rw [lg_entry_eq]
  generalize (lg_sl ([.ref (ad 25), .int (iI (((ni : Nat) : Int)))]) ++ List.replicate (5 - (lg_sl ([.ref (ad 25), .int (iI (((ni : Nat) : Int)))])).length) Slot.unset).toArray = ls at hl ⊢
  have hl : lv_has ls 5 [(0, .ref (ad 25)), (1, .int (iI (((ni : Nat) : Int))))] := hl
  have hin2 : ∀ w ∈ u_ws RX2 TX2 2, w ∈ wsX2_fewestOfAllWays := by decide +kernel
  have L_42 := hts (.methodLink RX2 42 Lib.Math.min.name) (by decide +kernel)
  have Lcmin := hts (.code Lib.Math.min.name Lib.Math.min.code 2 (some .int)) (by decide +kernel)
  have Li := hts (.initialized "java/lang/Math") (by decide +kernel)
  have Lsmin := hts (.static Lib.Math.min.name) (by decide +kernel)
  have hcr0 : ∀ p q, 0 ≤ csT st p q ∧ csT st p q ≤ 16 := csT_r hI
  have hp8 := pw8 ni hni
  refine lv_sipush (v := iI (128)) hx hb dX2_fewestOfAllWays_0 (by decide +kernel) ?_
  refine lv_istore_n (lv' := [(2, .int (iI (128))), (0, .ref (ad 25)), (1, .int (iI (((ni : Nat) : Int))))]) hx hb dX2_fewestOfAllWays_3 rfl hl (by decide) rfl (fun ls hl => ?_)
  refine lv_iconst (v := iI (1)) hx hb dX2_fewestOfAllWays_4 rfl ?_
  refine lv_iconst (v := iI (3)) hx hb dX2_fewestOfAllWays_5 rfl ?_
  refine lv_iload_n hx hb dX2_fewestOfAllWays_6 rfl (lv_at hl 2 rfl) ?_
  refine r_imul hx hb dX2_fewestOfAllWays_7 ?_
  refine r_nm (fun v1 ev1 => ?_)
  refine r_as (y := ((3 * ni : Nat) : Int)) (by omega) ?_
  refine r_ishl hx hb (by omega) dX2_fewestOfAllWays_8 ?_
  refine r_nm (fun v2 ev2 => ?_)
  have hwy : v2 = ((8 ^ ni : Nat) : Int) := by rw [ev2]; exact hp8.1
  refine r_as (y := ((8 ^ ni : Nat) : Int)) (by exact hwy) ?_
  refine lv_istore_n (lv' := [(3, .int (iI (((8 ^ ni : Nat) : Int)))), (2, .int (iI (128))), (0, .ref (ad 25)), (1, .int (iI (((ni : Nat) : Int))))]) hx hb dX2_fewestOfAllWays_9 rfl hl (by decide) rfl (fun ls hl => ?_)
  refine lv_iconst (v := iI (0)) hx hb dX2_fewestOfAllWays_10 rfl ?_
  refine lv_istore (lv' := [(4, .int (iI (0))), (3, .int (iI (((8 ^ ni : Nat) : Int)))), (2, .int (iI (128))), (0, .ref (ad 25)), (1, .int (iI (((ni : Nat) : Int))))]) hx hb dX2_fewestOfAllWays_11 hl (by decide) rfl (fun ls hl => ?_)
  have hloop13 : ∀ (N : Nat)  (k : Nat) (H : Heap) (locs : List Loc) (ls : Array Slot), 4097 - k < N → (k ≤ 8 ^ ni) →  GH D cy ad n st (gA n ad s.heap.size) s.heap H locs → lv_has ls 5 [(2, .int (iI (mnW (csT st) ni k))), (4, .int (iI (((k : Nat) : Int)))), (3, .int (iI (((8 ^ ni : Nat) : Int)))), (0, .ref (ad 25)), (1, .int (iI (((ni : Nat) : Int))))] → W p l e (headSpec wsX2_fewestOfAllWays { frames := 1, cells := 0, slots := 0, locals := 26 }).room s m (#[.ref (ad 25), .int (iI (((ni : Nat) : Int)))] : Array Value) below meth c H locs 0 0 (MQ below (va_Qi (fun (r : Int32) (st' : St) => r = iI (dpV (csT st) ni 0) ∧ st' = st) (gP D cy ad n) (gA n ad s.heap.size)) (#[.ref (ad 25), .int (iI (((ni : Nat) : Int)))] : Array Value) s 0 0 (gA n ad s.heap.size)) (F0 m 13 ls []) := by
    intro N
    induction N with
    | zero => intro  k H locs ls hm; exact absurd hm (Nat.not_lt_zero _)
    | succ N ih13 =>
      intro  k H locs ls hm hk hG hl
      have hmr := mnW_r hcr0 (show ni ≤ 8 by omega) k
      refine lv_iload hx hb dX2_fewestOfAllWays_13 (lv_at hl 1 rfl) ?_
      refine lv_iload_n hx hb dX2_fewestOfAllWays_15 rfl (lv_at hl 2 rfl) ?_
      refine r_icmp_ge (tgt := 37) hx hb (by omega) dX2_fewestOfAllWays_16 (by decide) (fun c3 => ?_) (fun c3 => ?_)
      · skip
        refine lv_iload_n hx hb dX2_fewestOfAllWays_37 rfl (lv_at hl 0 rfl) ?_
        exact g_iret hx hb hr hlocks hG (by
          refine ⟨?_, rfl⟩
          congr 1
          rw [← mnW_dp hcr0 (show ni ≤ 8 by omega), show 8 ^ ni = k by omega]) dX2_fewestOfAllWays_38
      · skip
        refine lv_iload_n hx hb dX2_fewestOfAllWays_19 rfl (lv_at hl 0 rfl) ?_
        refine lv_aload_n hx hb dX2_fewestOfAllWays_20 rfl (lv_at hl 3 rfl) ?_
        refine lv_iload hx hb dX2_fewestOfAllWays_21 (lv_at hl 1 rfl) ?_
        refine lv_iload_n hx hb dX2_fewestOfAllWays_23 rfl (lv_at hl 4 rfl) ?_
        refine g_goi hG hA (va_runV (As := [.int (iI (((k : Nat) : Int))), .int (iI (((ni : Nat) : Int)))]) (rest := [.int (iI (mnW (csT st) ni k))]) ⟨hx, hb, hml, hown, hts⟩ (mX2_misfitsOfWay l D cy ad n st _ fz wb hn hI (by omega) (k) (ni) (by omega) (by omega)) (cwV 2 hts gX2_fewestOfAllWays_X2_misfitsOfWay rfl rfl rfl (by decide +kernel) ⟨Nat.le_of_ble_eq_true rfl, Nat.le_of_ble_eq_true rfl⟩) ⟨g_blind, va_recv hK hG.1 (q0 := 25 - 19) (ci := 2) rfl ((gw_at (k := 25) (by omega)).trans (by rw [gC_25 st ad cy])), g_pre hK hG hA hN hZ⟩ rfl rfl hl.1 rfl (lv_room (Nat.le_of_ble_eq_true rfl)) dX2_fewestOfAllWays_24 ⟨Nat.zero_le _, Nat.zero_le _⟩) (fun r9 s9 H locs hp hG => ?_)
        obtain ⟨rfl, hs9⟩ := hp
        rw [hs9] at hG
        clear hs9
        refine r_nm (fun v4 ev4 => ?_)
        have hr5 := wyF_r (csT_r (st := st) (by assumption)) (ni) 0 0 0 (k) (by omega) (by omega)
        rw [← ev4] at hr5
        refine va_mmin hx hb (hml.trans hl.1.symm) hown L_42 Lsmin Li Lcmin (Nat.le_of_ble_eq_true rfl) (Nat.le_of_ble_eq_true rfl) (by omega) (by omega) dX2_fewestOfAllWays_27 ?_
        refine r_asI (y := min (mnW (csT st) ni k) (v4)) (iI_min (by omega)) ?_
        refine r_nm (fun v6 ev6 => ?_)
        refine lv_istore_n (lv' := [(2, .int (iI (v6))), (4, .int (iI (((k : Nat) : Int)))), (3, .int (iI (((8 ^ ni : Nat) : Int)))), (0, .ref (ad 25)), (1, .int (iI (((ni : Nat) : Int))))]) hx hb dX2_fewestOfAllWays_30 rfl hl (by decide) rfl (fun ls hl => ?_)
        obtain ⟨v7, ev7⟩ : ∃ y9 : Int, y9 = ((k : Nat) : Int) + (1) := ⟨_, rfl⟩
        refine lv_iinc (v := iI v7) (lv' := [(4, .int (iI (v7))), (2, .int (iI (v6))), (3, .int (iI (((8 ^ ni : Nat) : Int)))), (0, .ref (ad 25)), (1, .int (iI (((ni : Nat) : Int))))]) hx hb dX2_fewestOfAllWays_31 hl (k := 1) rfl (by rw [ev7]; exact iI_add _ _) (by decide) rfl (fun ls hl => ?_)
        refine lv_goto (tgt := 13) hx hb dX2_fewestOfAllWays_34 (by decide) ?_
        rw [show (v6 : Int) = mnW (csT st) ni (k + 1) from by (rw [mnW_s]; subst_vars; rfl)] at hl
        rw [show (v7 : Int) = (((k + 1) : Nat) : Int) from by omega] at hl
        exact ih13  (k + 1) _ _ _ (by omega) (by omega) hG (lv_sub hl [1, 0, 2, 3, 4] rfl)
  exact hloop13 _  (0) _ _ _ (Nat.lt_succ_self _) (by exact Nat.zero_le _) hG (lv_sub hl [2, 0, 1, 3, 4] rfl)
