set_option maxHeartbeats 400000 in
set_option maxRecDepth 100000 in
theorem mX2_weigh (l : Launch) (D : va_G) (cy : Nat → ClassId) (ad : Nat → Nat) (n : Nat) (st : St) (sz fz : Nat) (wb : Int) (hn : 75 ≤ n) (hI : GI wb st) (hW : wb ≤ 2000000) (q : Nat) (o : Nat) (hq : 77 + 3 * q < n) (ho : o < 6) : Met l yX2_weigh wsX2_weigh ({ frames := 3, cells := 0, slots := 0, locals := 70 }) (va_Pc [.ref (ad 25), .ref (ad (75 + 3 * q)), .ref (ad (33 + 7 * o))] (gB D cy ad n st sz fz)) (va_Qv (fun (st' : St) => st' = setW st (cwX st q o (8 * (st 60 q 0).toNat)) (st 35 0) ∧ GI wb st') (gP D cy ad n) (gA n ad sz)) 0 0 (gA n ad sz) := by
  refine Met.ofW (cc := cX2_weigh) (maxL := 5) (ret := none) (by decide) rfl ?_
  intro p e s m args below meth c s₁ B hml hv
  obtain ⟨rfl, hsz, hP, hK, hD0, hN, hZ⟩ := hv
  have hx := B.exec
  have hb := B.bytes
  have hr := B.returns
  have hts := atoms_spec (ws := wsX2_weigh) B.pre
  have hown : s.vm.findClass RX2 = some m.cls := findClass_of_methodNamed B.named
  have hlocks := B.notSynchronized
  subst hsz
  have hA : ∀ q : Nat, s.heap.size ≤ q → gA n ad s.heap.size q := fun q h => Or.inr h
  have hG : GH D cy ad n st (gA n ad s.heap.size) s.heap s.heap [] := ⟨hP, gw_A hD0, va_S.rf⟩
  have hl := lv_entry ([.ref (ad 25), .ref (ad (75 + 3 * q)), .ref (ad (33 + 7 * o))]) (n := 5) (Nat.le_of_ble_eq_true rfl)
  rw [lg_entry_eq]
  generalize (lg_sl ([.ref (ad 25), .ref (ad (75 + 3 * q)), .ref (ad (33 + 7 * o))]) ++ List.replicate (5 - (lg_sl ([.ref (ad 25), .ref (ad (75 + 3 * q)), .ref (ad (33 + 7 * o))])).length) Slot.unset).toArray = ls at hl ⊢
  have hl : lv_has ls 5 [(0, .ref (ad 25)), (1, .ref (ad (75 + 3 * q))), (2, .ref (ad (33 + 7 * o)))] := hl
  have hin2 : ∀ w ∈ u_ws RX2 TX2 2, w ∈ wsX2_weigh := by decide +kernel
  have hin0 : ∀ w ∈ u_ws RX0 TX0 8, w ∈ wsX2_weigh := by decide +kernel
  have L_18 := hts (.fieldLink RX2 18 "Crossbarry$Layer" "inputs" "I") (by decide +kernel)
  have L_9 := hts (.fieldLink RX2 9 "Crossbarry$Seating" "misfitTable" "[I") (by decide +kernel)
  have hin := gI_60 hI q 0
  refine lv_iconst (v := iI (0)) hx hb dX2_weigh_0 rfl ?_
  refine lv_istore_n (lv' := [(3, .int (iI (0))), (0, .ref (ad 25)), (1, .ref (ad (75 + 3 * q))), (2, .ref (ad (33 + 7 * o)))]) hx hb dX2_weigh_1 rfl hl (by decide) rfl (fun ls hl => ?_)
  have hloop2 : ∀ (N : Nat)  (i : Nat) (sta : St) (H : Heap) (locs : List Loc) (ls : Array Slot), 9 - i < N → ((i : Int) ≤ st 60 q 0) → (sta = setW st (cwX st q o (8 * i)) (st 35 0)) → GI wb sta → GH D cy ad n sta (gA n ad s.heap.size) s.heap H locs → lv_has ls 5 [(3, .int (iI (((i : Nat) : Int)))), (0, .ref (ad 25)), (1, .ref (ad (75 + 3 * q))), (2, .ref (ad (33 + 7 * o)))] → W p l e (headSpec wsX2_weigh { frames := 3, cells := 0, slots := 0, locals := 70 }).room s m (#[.ref (ad 25), .ref (ad (75 + 3 * q)), .ref (ad (33 + 7 * o))] : Array Value) below meth c H locs 0 0 (MQ below (va_Qv (fun (st' : St) => st' = setW st (cwX st q o (8 * (st 60 q 0).toNat)) (st 35 0) ∧ GI wb st') (gP D cy ad n) (gA n ad s.heap.size)) (#[.ref (ad 25), .ref (ad (75 + 3 * q)), .ref (ad (33 + 7 * o))] : Array Value) s 0 0 (gA n ad s.heap.size)) (F0 m 2 ls []) := by
    intro N
    induction N with
    | zero => intro  i sta H locs ls hm; exact absurd hm (Nat.not_lt_zero _)
    | succ N ih2 =>
      intro  i sta H locs ls hm hi hsta hI hG hl
      have hfa : ∀ c o i, (c < 34 ∨ 35 < c) → sta c o i = st c o i := fun c o i h => by rw [hsta]; exact setW_c _ _ _ h
      refine lv_iload_n hx hb dX2_weigh_2 rfl (lv_at hl 0 rfl) ?_
      refine lv_aload_n hx hb dX2_weigh_3 rfl (lv_at hl 2 rfl) ?_
      refine g_get hx hb hts hin0 hown hK hG (key := 75 + 3 * q) (by omega) (gC_l sta ad cy q) rfl 1 (by decide) L_18 (fun _ h9 => h9) rfl dX2_weigh_4 ?_
      have hr1 := gI_60 hI (q) (0)
      have kq2 : sta 60 (q) (0) = st 60 (q) (0) := by rw [hfa _ _ _ (by decide)]
      rw [kq2] at hr1
      refine r_as kq2 ?_
      clear kq2
      refine r_nm (fun v3 ev3 => ?_)
      rw [← ev3] at hr1
      refine r_icmp_ge (tgt := 52) hx hb (by omega) dX2_weigh_7 (by decide) (fun c4 => ?_) (fun c4 => ?_)
      · skip
        exact g_vret hx hb hr hlocks hG (by
          rw [show (st 60 q 0).toNat = i by omega]
          exact ⟨hsta, hI⟩) dX2_weigh_52
      · skip
        refine lv_iconst (v := iI (0)) hx hb dX2_weigh_10 rfl ?_
        refine lv_istore (lv' := [(4, .int (iI (0))), (3, .int (iI (((i : Nat) : Int)))), (0, .ref (ad 25)), (1, .ref (ad (75 + 3 * q))), (2, .ref (ad (33 + 7 * o)))]) hx hb dX2_weigh_11 hl (by decide) rfl (fun ls hl => ?_)
        have hloop13 : ∀ (N : Nat)  (rr : Nat) (stb : St) (H : Heap) (locs : List Loc) (ls : Array Slot), 9 - rr < N → (rr ≤ 8) → (stb = setW st (cwX st q o (8 * i + rr)) (st 35 0)) → GI wb stb → GH D cy ad n stb (gA n ad s.heap.size) s.heap H locs → lv_has ls 5 [(4, .int (iI (((rr : Nat) : Int)))), (3, .int (iI (((i : Nat) : Int)))), (0, .ref (ad 25)), (1, .ref (ad (75 + 3 * q))), (2, .ref (ad (33 + 7 * o)))] → W p l e (headSpec wsX2_weigh { frames := 3, cells := 0, slots := 0, locals := 70 }).room s m (#[.ref (ad 25), .ref (ad (75 + 3 * q)), .ref (ad (33 + 7 * o))] : Array Value) below meth c H locs 0 0 (MQ below (va_Qv (fun (st' : St) => st' = setW st (cwX st q o (8 * (st 60 q 0).toNat)) (st 35 0) ∧ GI wb st') (gP D cy ad n) (gA n ad s.heap.size)) (#[.ref (ad 25), .ref (ad (75 + 3 * q)), .ref (ad (33 + 7 * o))] : Array Value) s 0 0 (gA n ad s.heap.size)) (F0 m 13 ls []) := by
          intro N
          induction N with
          | zero => intro  rr stb H locs ls hm; exact absurd hm (Nat.not_lt_zero _)
          | succ N ih13 =>
            intro  rr stb H locs ls hm hr8 hstb hI hG hl
            have hfb : ∀ c o i, (c < 34 ∨ 35 < c) → stb c o i = st c o i := fun c o i h => by rw [hstb]; exact setW_c _ _ _ h
            refine lv_iload hx hb dX2_weigh_13 (lv_at hl 0 rfl) ?_
            refine lv_bipush (v := iI (8)) hx hb dX2_weigh_15 (by decide +kernel) ?_
            refine r_icmp_ge (tgt := 46) hx hb (by omega) dX2_weigh_17 (by decide) (fun c5 => ?_) (fun c5 => ?_)
            · skip
              obtain ⟨v6, ev6⟩ : ∃ y9 : Int, y9 = ((i : Nat) : Int) + (1) := ⟨_, rfl⟩
              refine lv_iinc (v := iI v6) (lv' := [(3, .int (iI (v6))), (4, .int (iI (((rr : Nat) : Int)))), (0, .ref (ad 25)), (1, .ref (ad (75 + 3 * q))), (2, .ref (ad (33 + 7 * o)))]) hx hb dX2_weigh_46 hl (k := 1) rfl (by rw [ev6]; exact iI_add _ _) (by decide) rfl (fun ls hl => ?_)
              refine lv_goto (tgt := 2) hx hb dX2_weigh_49 (by decide) ?_
              rw [show (v6 : Int) = (((i + 1) : Nat) : Int) from by omega] at hl
              exact ih2  (i + 1) stb _ _ _ (by omega) (by omega) (by rw [hstb, show 8 * i + rr = 8 * (i + 1) by omega]) hI hG (lv_sub hl [0, 2, 3, 4] rfl)
            · skip
              refine lv_aload_n hx hb dX2_weigh_20 rfl (lv_at hl 2 rfl) ?_
              refine g_get hx hb hts hin2 hown hK hG (key := 25) (by omega) (gC_25 stb ad cy) rfl 0 (by decide) L_9 (fun _ h9 => h9) rfl dX2_weigh_21 ?_
              refine lv_iload_n hx hb dX2_weigh_24 rfl (lv_at hl 1 rfl) ?_
              refine lv_bipush (v := iI (8)) hx hb dX2_weigh_25 (by decide +kernel) ?_
              refine r_imul hx hb dX2_weigh_27 ?_
              refine r_nm (fun v7 ev7 => ?_)
              refine lv_iload hx hb dX2_weigh_28 (lv_at hl 0 rfl) ?_
              refine r_iadd hx hb dX2_weigh_30 ?_
              refine r_nm (fun v8 ev8 => ?_)
              have hix : v8 = ((8 * i + rr : Nat) : Int) := by omega
              refine lv_aload_n hx hb dX2_weigh_31 rfl (lv_at hl 3 rfl) ?_
              refine lv_aload_n hx hb dX2_weigh_32 rfl (lv_at hl 4 rfl) ?_
              refine lv_iload_n hx hb dX2_weigh_33 rfl (lv_at hl 1 rfl) ?_
              refine lv_iload hx hb dX2_weigh_34 (lv_at hl 0 rfl) ?_
              refine g_goi hG hA (va_runV (As := [.ref (ad (33 + 7 * o)), .int (iI (((i : Nat) : Int))), .int (iI (((rr : Nat) : Int)))]) (rest := [.int (iI (v8)), .ref (ad 26)]) ⟨hx, hb, hml, hown, hts⟩ (mX0_misfitsIn l D cy ad n stb _ fz wb hn hI (by omega) (q) (o) (((i : Nat) : Int)) (((rr : Nat) : Int)) (by omega) (by omega) (by omega) (by omega)) (cwV 3 hts gX2_weigh_X0_misfitsIn rfl rfl rfl (by decide +kernel) ⟨Nat.le_of_ble_eq_true rfl, Nat.le_of_ble_eq_true rfl⟩) ⟨g_blind, va_recv hK hG.1 (q0 := (75 + 3 * q) - 19) (ci := 0) rfl ((gw_at (k := 75 + 3 * q) (by omega)).trans (by rw [gC_l stb ad cy q])), g_pre hK hG hA hN hZ⟩ rfl rfl hl.1 rfl (lv_room (Nat.le_of_ble_eq_true rfl)) dX2_weigh_36 ⟨Nat.zero_le _, Nat.zero_le _⟩) (fun r9 s9 H locs hp hG => ?_)
              obtain ⟨rfl, hs9⟩ := hp
              rw [hs9] at hG
              clear hs9
              refine r_nm (fun v9 ev9 => ?_)
              have hr10 := mfC_r hI (q) (o) (((i : Nat) : Int)) (((rr : Nat) : Int))
              rw [← ev9] at hr10
              have hms : v9 = cstC st q o i rr := by rw [ev9, hstb]; rfl
              refine g_iast hx hb hK hG (26) (kd := 26) (o := 0) rfl rfl (by omega) (cp := 34) (ln := 64) rfl rfl (by omega) dX2_weigh_39 (fun H locs hG => ?_)
              obtain ⟨st11, hst11⟩ : ∃ z : St, z = ust stb 34 (0) (v8) (v9) := ⟨_, rfl⟩
              rw [← hst11] at hG
              replace hI := hst11 ▸ gIu_34 hI (0) (v8) (v := v9) (by omega)
              obtain ⟨v12, ev12⟩ : ∃ y9 : Int, y9 = ((rr : Nat) : Int) + (1) := ⟨_, rfl⟩
              refine lv_iinc (v := iI v12) (lv' := [(4, .int (iI (v12))), (3, .int (iI (((i : Nat) : Int)))), (0, .ref (ad 25)), (1, .ref (ad (75 + 3 * q))), (2, .ref (ad (33 + 7 * o)))]) hx hb dX2_weigh_40 hl (k := 0) rfl (by rw [ev12]; exact iI_add _ _) (by decide) rfl (fun ls hl => ?_)
              refine lv_goto (tgt := 13) hx hb dX2_weigh_43 (by decide) ?_
              rw [show (v12 : Int) = (((rr + 1) : Nat) : Int) from by omega] at hl
              exact ih13  (rr + 1) st11 _ _ _ (by omega) (by omega) (by rw [hst11, hstb, setW_u34, hix, hms]; exact congrArg (fun f => setW st f (st 35 0)) (cwX_s st q o i rr (by omega))) hI hG (lv_sub hl [0, 1, 2, 3, 4] rfl)
        exact hloop13 _  (0) sta _ _ _ (Nat.lt_succ_self _) (by omega) (by exact hsta) hI hG (lv_sub hl [0, 1, 2, 3, 4] rfl)
  exact hloop2 _  (0) st _ _ _ (Nat.lt_succ_self _) (by omega) (by rw [show 8 * 0 = 0 from rfl, cwX_0]; exact setW_self st) hI hG (lv_sub hl [0, 1, 2, 3] rfl)
