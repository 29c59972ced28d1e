set_option maxHeartbeats 400000 in
set_option maxRecDepth 100000 in
theorem mX0_writeOn (l : Launch) (D : va_G) (cy : Nat → ClassId) (ad : Nat → Nat) (n : Nat) (st : St) (sz fz : Nat) (wb : Int) (hn : 75 ≤ n) (hI : GI wb st) (hW : wb ≤ 1900000) (q : Nat) (o : Nat) (hq : 77 + 3 * q < n) (ho : o < 6) (hsc : ∀ (o : Nat) (j : Int), st 42 o j ≤ st 30 0 0) : Met l yX0_writeOn wsX0_writeOn ({ frames := 3, cells := 0, slots := 0, locals := 72 }) (va_Pc [.ref (ad (75 + 3 * q)), .ref (ad (33 + 7 * o)), .ref (ad 22)] (gB D cy ad n st sz fz)) (va_Qi (fun (r : Int32) (st' : St) => r = iI (ldCF st q o) ∧ st' = ldCS st q o ∧ GI (wb + 2048) st') (gP D cy ad n) (gA n ad sz)) 0 0 (gA n ad sz) := by
  refine Met.ofW (cc := cX0_writeOn) (maxL := 6) (ret := (some .int)) (by decide) rfl ?_
  intro p e s m args below meth c s₁ B hml hv
  obtain ⟨rfl, hsz, hP, hK, hD0, hN, hZ⟩ := hv
  have hx := B.exec
  have hb := B.bytes
  have hr := B.returns
  have hts := atoms_spec (ws := wsX0_writeOn) B.pre
  have hown : s.vm.findClass RX0 = some m.cls := findClass_of_methodNamed B.named
  have hlocks := B.notSynchronized
  subst hsz
  have hA : ∀ q : Nat, s.heap.size ≤ q → gA n ad s.heap.size q := fun q h => Or.inr h
  have hG : GH D cy ad n st (gA n ad s.heap.size) s.heap s.heap [] := ⟨hP, gw_A hD0, va_S.rf⟩
  have hl := lv_entry ([.ref (ad (75 + 3 * q)), .ref (ad (33 + 7 * o)), .ref (ad 22)]) (n := 6) (Nat.le_of_ble_eq_true rfl)
  rw [lg_entry_eq]
  generalize (lg_sl ([.ref (ad (75 + 3 * q)), .ref (ad (33 + 7 * o)), .ref (ad 22)]) ++ List.replicate (6 - (lg_sl ([.ref (ad (75 + 3 * q)), .ref (ad (33 + 7 * o)), .ref (ad 22)])).length) Slot.unset).toArray = ls at hl ⊢
  have hl : lv_has ls 6 [(0, .ref (ad (75 + 3 * q))), (1, .ref (ad (33 + 7 * o))), (2, .ref (ad 22))] := hl
  have hin0 : ∀ w ∈ u_ws RX0 TX0 8, w ∈ wsX0_writeOn := by decide +kernel
  have L_15 := hts (.fieldLink RX0 15 "Crossbarry$Layer" "rows" "[I") (by decide +kernel)
  have L_33 := hts (.fieldLink RX0 33 "Crossbarry$Layer" "inputs" "I") (by decide +kernel)
  have hou := gI_61 hI q 0
  have hin := gI_60 hI q 0
  refine lv_iconst (v := iI (0)) hx hb dX0_writeOn_0 rfl ?_
  refine lv_istore_n (lv' := [(3, .int (iI (0))), (0, .ref (ad (75 + 3 * q))), (1, .ref (ad (33 + 7 * o))), (2, .ref (ad 22))]) hx hb dX0_writeOn_1 rfl hl (by decide) rfl (fun ls hl => ?_)
  refine lv_iconst (v := iI (0)) hx hb dX0_writeOn_2 rfl ?_
  refine lv_istore (lv' := [(4, .int (iI (0))), (3, .int (iI (0))), (0, .ref (ad (75 + 3 * q))), (1, .ref (ad (33 + 7 * o))), (2, .ref (ad 22))]) hx hb dX0_writeOn_3 hl (by decide) rfl (fun ls hl => ?_)
  have hloop5 : ∀ (N : Nat)  (ki : Nat) (u : Nat) (stb : St) (H : Heap) (locs : List Loc) (ls : Array Slot), 9 - ki < N → ((ki : Int) ≤ st 60 q 0) → (u = 4 * (st 61 q 0).toNat * ki) → (u ≤ 16 * ki) → (stb = (rwC o (lcC st q) (lwC st q) u st).1) → GI (wb + 16 * (u : Int)) stb → GH D cy ad n stb (gA n ad s.heap.size) s.heap H locs → lv_has ls 6 [(3, .int (iI ((rwC o (lcC st q) (lwC st q) u st).2))), (4, .int (iI (((ki : Nat) : Int)))), (0, .ref (ad (75 + 3 * q))), (1, .ref (ad (33 + 7 * o))), (2, .ref (ad 22))] → W p l e (headSpec wsX0_writeOn { frames := 3, cells := 0, slots := 0, locals := 72 }).room s m (#[.ref (ad (75 + 3 * q)), .ref (ad (33 + 7 * o)), .ref (ad 22)] : Array Value) below meth c H locs 0 0 (MQ below (va_Qi (fun (r : Int32) (st' : St) => r = iI (ldCF st q o) ∧ st' = ldCS st q o ∧ GI (wb + 2048) st') (gP D cy ad n) (gA n ad s.heap.size)) (#[.ref (ad (75 + 3 * q)), .ref (ad (33 + 7 * o)), .ref (ad 22)] : Array Value) s 0 0 (gA n ad s.heap.size)) (F0 m 5 ls []) := by
    intro N
    induction N with
    | zero => intro  ki u stb H locs ls hm; exact absurd hm (Nat.not_lt_zero _)
    | succ N ih5 =>
      intro  ki u stb H locs ls hm hki hu hub hstb hI hG hl
      have hfb : ∀ c o i, (c < 40 ∨ 44 < c) → stb c o i = st c o i := fun c o i h => by rw [hstb]; exact rwC_c _ _ _ _ _ h _
      refine lv_iload hx hb dX0_writeOn_5 (lv_at hl 1 rfl) ?_
      refine lv_aload_n hx hb dX0_writeOn_7 rfl (lv_at hl 2 rfl) ?_
      refine g_get hx hb hts hin0 hown hK hG (key := 75 + 3 * q) (by omega) (gC_l stb ad cy q) rfl 1 (by decide) L_33 (fun _ h9 => h9) rfl dX0_writeOn_8 ?_
      have hr1 := gI_60 hI (q) (0)
      have kq2 : stb 60 (q) (0) = st 60 (q) (0) := by rw [hfb _ _ _ (by decide)]
      rw [kq2] at hr1
      refine r_as kq2 ?_
      clear kq2
      refine r_nm (fun v3 ev3 => ?_)
      rw [← ev3] at hr1
      refine r_icmp_ge (tgt := 66) hx hb (by omega) dX0_writeOn_11 (by decide) (fun c4 => ?_) (fun c4 => ?_)
      · skip
        refine lv_iload_n hx hb dX0_writeOn_66 rfl (lv_at hl 0 rfl) ?_
        exact g_iret hx hb hr hlocks hG (by
          refine ⟨?_, ?_, GI_mono (by omega) hI⟩
          · unfold ldCF; rw [show (st 60 q 0).toNat = ki by omega, ← hu]
          · unfold ldCS; rw [show (st 60 q 0).toNat = ki by omega, ← hu]; exact hstb) dX0_writeOn_67
      · skip
        refine lv_iconst (v := iI (0)) hx hb dX0_writeOn_14 rfl ?_
        refine lv_istore (lv' := [(5, .int (iI (0))), (3, .int (iI ((rwC o (lcC st q) (lwC st q) u st).2))), (4, .int (iI (((ki : Nat) : Int)))), (0, .ref (ad (75 + 3 * q))), (1, .ref (ad (33 + 7 * o))), (2, .ref (ad 22))]) hx hb dX0_writeOn_15 hl (by decide) rfl (fun ls hl => ?_)
        have hloop17 : ∀ (N : Nat)  (kk : Nat) (stc : St) (H : Heap) (locs : List Loc) (ls : Array Slot), 17 - kk < N → (kk ≤ 4 * (st 61 q 0).toNat) → (stc = (rwC o (lcC st q) (lwC st q) (u + kk) st).1) → GI (wb + 16 * ((u + kk : Nat) : Int)) stc → GH D cy ad n stc (gA n ad s.heap.size) s.heap H locs → lv_has ls 6 [(3, .int (iI ((rwC o (lcC st q) (lwC st q) (u + kk) st).2))), (5, .int (iI (((kk : Nat) : Int)))), (4, .int (iI (((ki : Nat) : Int)))), (0, .ref (ad (75 + 3 * q))), (1, .ref (ad (33 + 7 * o))), (2, .ref (ad 22))] → W p l e (headSpec wsX0_writeOn { frames := 3, cells := 0, slots := 0, locals := 72 }).room s m (#[.ref (ad (75 + 3 * q)), .ref (ad (33 + 7 * o)), .ref (ad 22)] : Array Value) below meth c H locs 0 0 (MQ below (va_Qi (fun (r : Int32) (st' : St) => r = iI (ldCF st q o) ∧ st' = ldCS st q o ∧ GI (wb + 2048) st') (gP D cy ad n) (gA n ad s.heap.size)) (#[.ref (ad (75 + 3 * q)), .ref (ad (33 + 7 * o)), .ref (ad 22)] : Array Value) s 0 0 (gA n ad s.heap.size)) (F0 m 17 ls []) := by
          intro N
          induction N with
          | zero => intro  kk stc H locs ls hm; exact absurd hm (Nat.not_lt_zero _)
          | succ N ih17 =>
            intro  kk stc H locs ls hm hkk hstc hI hG hl
            have hfc : ∀ c o i, (c < 40 ∨ 44 < c) → stc c o i = st c o i := fun c o i h => by rw [hstc]; exact rwC_c _ _ _ _ _ h _
            refine lv_iload hx hb dX0_writeOn_17 (lv_at hl 1 rfl) ?_
            refine lv_aload_n hx hb dX0_writeOn_19 rfl (lv_at hl 3 rfl) ?_
            refine g_goi hG hA (va_runV (As := []) (rest := [.int (iI (((kk : Nat) : Int)))]) ⟨hx, hb, hml, hown, hts⟩ (mX0_columns l D cy ad n stc _ fz (wb + 16 * ((u + kk : Nat) : Int)) hn hI (by omega) (q) (by omega)) (cwV 0 hts gX0_writeOn_X0_columns rfl rfl rfl (by decide +kernel) ⟨Nat.le_of_ble_eq_true rfl, Nat.le_of_ble_eq_true rfl⟩) ⟨g_blind, va_recv hK hG.1 (q0 := (75 + 3 * q) - 19) (ci := 0) rfl ((gw_at (k := 75 + 3 * q) (by omega)).trans (by rw [gC_l stc ad cy q])), g_pre hK hG hA hN hZ⟩ rfl rfl hl.1 rfl (lv_room (Nat.le_of_ble_eq_true rfl)) dX0_writeOn_20 ⟨Nat.zero_le _, Nat.zero_le _⟩) (fun r9 s9 H locs hp hG => ?_)
            obtain ⟨rfl, hs9⟩ := hp
            rw [hs9] at hG
            clear hs9
            refine r_nm (fun v5 ev5 => ?_)
            have hcol : v5 = 4 * st 61 q 0 := by rw [ev5, hfc 61 _ _ (by decide)]
            refine r_icmp_ge (tgt := 60) hx hb (by omega) dX0_writeOn_23 (by decide) (fun c6 => ?_) (fun c6 => ?_)
            · skip
              obtain ⟨v7, ev7⟩ : ∃ y9 : Int, y9 = ((ki : Nat) : Int) + (1) := ⟨_, rfl⟩
              refine lv_iinc (v := iI v7) (lv' := [(4, .int (iI (v7))), (3, .int (iI ((rwC o (lcC st q) (lwC st q) (u + kk) st).2))), (5, .int (iI (((kk : Nat) : Int)))), (0, .ref (ad (75 + 3 * q))), (1, .ref (ad (33 + 7 * o))), (2, .ref (ad 22))]) hx hb dX0_writeOn_60 hl (k := 2) rfl (by rw [ev7]; exact iI_add _ _) (by decide) rfl (fun ls hl => ?_)
              refine lv_goto (tgt := 5) hx hb dX0_writeOn_63 (by decide) ?_
              replace hI := GI_mono (W' := wb + 16 * ((u + 4 * (st 61 q 0).toNat : Nat) : Int)) (by omega) hI
              rw [show ((rwC o (lcC st q) (lwC st q) (u + kk) st).2 : Int) = (rwC o (lcC st q) (lwC st q) (u + 4 * (st 61 q 0).toNat) st).2 from by (rw [show kk = 4 * (st 61 q 0).toNat by omega])] at hl
              rw [show (v7 : Int) = (((ki + 1) : Nat) : Int) from by omega] at hl
              exact ih5  (ki + 1) (u + 4 * (st 61 q 0).toNat) stc _ _ _ (by omega) (by omega) (by rw [hu, Nat.mul_succ]) (by omega) (by rw [hstc, show kk = 4 * (st 61 q 0).toNat by omega]) hI hG (lv_sub hl [1, 0, 3, 4, 5] rfl)
            · skip
              refine lv_aload_n hx hb dX0_writeOn_26 rfl (lv_at hl 4 rfl) ?_
              refine lv_aload_n hx hb dX0_writeOn_27 rfl (lv_at hl 3 rfl) ?_
              refine g_get hx hb hts hin0 hown hK hG (key := 75 + 3 * q) (by omega) (gC_l stc ad cy q) rfl 4 (by decide) L_15 (fun _ h9 => h9) rfl dX0_writeOn_28 ?_
              refine lv_iload hx hb dX0_writeOn_31 (lv_at hl 2 rfl) ?_
              refine g_iald hx hb hK hG (77 + 3 * q) (kd := 42) (o := q) (gk_l (o := q) (j := 2) (by decide)) rfl (by omega) (cp := 63) (ln := 8) rfl rfl (by omega) dX0_writeOn_33 ?_
              have hr8 := gI_63 hI (q) (((ki : Nat) : Int))
              have kq9 : stc 63 (q) (((ki : Nat) : Int)) = st 63 (q) (((ki : Nat) : Int)) := by rw [hfc _ _ _ (by decide)]
              rw [kq9] at hr8
              refine r_as kq9 ?_
              clear kq9
              refine r_nm (fun v10 ev10 => ?_)
              rw [← ev10] at hr8
              refine lv_iload hx hb dX0_writeOn_34 (lv_at hl 1 rfl) ?_
              refine lv_aload_n hx hb dX0_writeOn_36 rfl (lv_at hl 3 rfl) ?_
              refine lv_iload hx hb dX0_writeOn_37 (lv_at hl 2 rfl) ?_
              refine lv_iload hx hb dX0_writeOn_39 (lv_at hl 1 rfl) ?_
              refine g_goi hG hA (va_runV (As := [.int (iI (((ki : Nat) : Int))), .int (iI (((kk : Nat) : Int)))]) (rest := [.int (iI (((kk : Nat) : Int))), .int (iI (v10)), .ref (ad (33 + 7 * o))]) ⟨hx, hb, hml, hown, hts⟩ (mX0_needed l D cy ad n stc _ fz (wb + 16 * ((u + kk : Nat) : Int)) hn hI (by omega) (q) (((ki : Nat) : Int)) (((kk : Nat) : Int)) (by omega) (by omega) (by omega)) (cwV 2 hts gX0_writeOn_X0_needed rfl rfl rfl (by decide +kernel) ⟨Nat.le_of_ble_eq_true rfl, Nat.le_of_ble_eq_true rfl⟩) ⟨g_blind, va_recv hK hG.1 (q0 := (75 + 3 * q) - 19) (ci := 0) rfl ((gw_at (k := 75 + 3 * q) (by omega)).trans (by rw [gC_l stc ad cy q])), g_pre hK hG hA hN hZ⟩ rfl rfl hl.1 rfl (lv_room (Nat.le_of_ble_eq_true rfl)) dX0_writeOn_41 ⟨Nat.zero_le _, Nat.zero_le _⟩) (fun r9 s9 H locs hp hG => ?_)
              obtain ⟨rfl, hs9⟩ := hp
              rw [hs9] at hG
              clear hs9
              refine r_nm (fun v11 ev11 => ?_)
              have hr12 := needC_r hI (q) (((ki : Nat) : Int)) (((kk : Nat) : Int))
              rw [← ev11] at hr12
              have hnv : v11 = needC st q (ki : Int) (kk : Int) := by rw [ev11]; unfold needC; rw [hfc 62 _ _ (by decide)]
              refine lv_aload_n hx hb dX0_writeOn_44 rfl (lv_at hl 5 rfl) ?_
              refine g_goi hG hA (va_runV (As := [.int (iI (v10)), .int (iI (((kk : Nat) : Int))), .int (iI (v11)), .ref (ad 22)]) (rest := []) ⟨hx, hb, hml, hown, hts⟩ (mX4_failsToWrite l D cy ad n stc _ fz (wb + 16 * ((u + kk : Nat) : Int)) hn hI (by omega) (o) (v10) (((kk : Nat) : Int)) (v11) (by omega) (by omega) (by omega) (by omega) (fun p9 j9 => by rw [hfc 30 0 0 (by decide), hstc]; exact rwC_since hsc _ p9 j9)) (cwV 4 hts gX0_writeOn_X4_failsToWrite rfl rfl rfl (by decide +kernel) ⟨Nat.le_of_ble_eq_true rfl, Nat.le_of_ble_eq_true rfl⟩) ⟨g_blind, va_recv hK hG.1 (q0 := (33 + 7 * o) - 19) (ci := 4) rfl ((gw_at (k := 33 + 7 * o) (by omega)).trans (by rw [gC_t stc ad cy ho])), g_pre hK hG hA hN hZ⟩ rfl rfl hl.1 rfl (lv_room (Nat.le_of_ble_eq_true rfl)) dX0_writeOn_45 ⟨Nat.zero_le _, Nat.zero_le _⟩) (fun r9 st13 H locs hp hG => ?_)
              obtain ⟨rfl, hs9, hI⟩ := hp
              have e1 : 16 * (v10) + (((kk : Nat) : Int)) = lcC st q (u + kk) := by rw [lcC_e hu (by omega)]; subst_vars; rfl
              have e2 : (v11) = lwC st q (u + kk) := by rw [lwC_e hu (by omega)]; exact hnv
              refine r_nm (fun v14 ev14 => ?_)
              have hwr := wrCf_r stc o (lcC st q (u + kk)) (lwC st q (u + kk))
              rw [e1, e2] at hs9 ev14
              refine r_if_eq (tgt := 54) hx hb (by omega) dX0_writeOn_48 (by decide) (fun c15 => ?_) (fun c15 => ?_)
              · skip
                obtain ⟨v16, ev16⟩ : ∃ y9 : Int, y9 = ((kk : Nat) : Int) + (1) := ⟨_, rfl⟩
                refine lv_iinc (v := iI v16) (lv' := [(5, .int (iI (v16))), (3, .int (iI ((rwC o (lcC st q) (lwC st q) (u + kk) st).2))), (4, .int (iI (((ki : Nat) : Int)))), (0, .ref (ad (75 + 3 * q))), (1, .ref (ad (33 + 7 * o))), (2, .ref (ad 22))]) hx hb dX0_writeOn_54 hl (k := 1) rfl (by rw [ev16]; exact iI_add _ _) (by decide) rfl (fun ls hl => ?_)
                refine lv_goto (tgt := 17) hx hb dX0_writeOn_57 (by decide) ?_
                replace hI := GI_mono (W' := wb + 16 * ((u + (kk + 1) : Nat) : Int)) (by omega) hI
                rw [show ((rwC o (lcC st q) (lwC st q) (u + kk) st).2 : Int) = (rwC o (lcC st q) (lwC st q) (u + (kk + 1)) st).2 from by (rw [← Nat.add_assoc, rwC_s2, ← hstc]; omega)] at hl
                rw [show (v16 : Int) = (((kk + 1) : Nat) : Int) from by omega] at hl
                exact ih17  (kk + 1) st13 _ _ _ (by omega) (by omega) (by rw [hs9, hstc]; rfl) hI hG (lv_sub hl [1, 0, 2, 3, 4, 5] rfl)
              · skip
                obtain ⟨v17, ev17⟩ : ∃ y9 : Int, y9 = (rwC o (lcC st q) (lwC st q) (u + kk) st).2 + (1) := ⟨_, rfl⟩
                refine lv_iinc (v := iI v17) (lv' := [(3, .int (iI (v17))), (5, .int (iI (((kk : Nat) : Int)))), (4, .int (iI (((ki : Nat) : Int)))), (0, .ref (ad (75 + 3 * q))), (1, .ref (ad (33 + 7 * o))), (2, .ref (ad 22))]) hx hb dX0_writeOn_51 hl (k := 0) rfl (by rw [ev17]; exact iI_add _ _) (by decide) rfl (fun ls hl => ?_)
                obtain ⟨v18, ev18⟩ : ∃ y9 : Int, y9 = ((kk : Nat) : Int) + (1) := ⟨_, rfl⟩
                refine lv_iinc (v := iI v18) (lv' := [(5, .int (iI (v18))), (3, .int (iI (v17))), (4, .int (iI (((ki : Nat) : Int)))), (0, .ref (ad (75 + 3 * q))), (1, .ref (ad (33 + 7 * o))), (2, .ref (ad 22))]) hx hb dX0_writeOn_54 hl (k := 1) rfl (by rw [ev18]; exact iI_add _ _) (by decide) rfl (fun ls hl => ?_)
                refine lv_goto (tgt := 17) hx hb dX0_writeOn_57 (by decide) ?_
                replace hI := GI_mono (W' := wb + 16 * ((u + (kk + 1) : Nat) : Int)) (by omega) hI
                rw [show (v17 : Int) = (rwC o (lcC st q) (lwC st q) (u + (kk + 1)) st).2 from by (rw [← Nat.add_assoc, rwC_s2, ← hstc]; omega)] at hl
                rw [show (v18 : Int) = (((kk + 1) : Nat) : Int) from by omega] at hl
                exact ih17  (kk + 1) st13 _ _ _ (by omega) (by omega) (by rw [hs9, hstc]; rfl) hI hG (lv_sub hl [1, 0, 2, 3, 4, 5] rfl)
        exact hloop17 _  (0) stb _ _ _ (Nat.lt_succ_self _) (by omega) (by exact hstb) hI hG (lv_sub hl [1, 0, 2, 3, 4, 5] rfl)
  replace hI := GI_mono (W' := wb + 16 * ((0 : Nat) : Int)) (by omega) hI
  exact hloop5 _  (0) (0) st _ _ _ (Nat.lt_succ_self _) (by omega) (by rw [Nat.mul_zero]) (by omega) (by rfl) hI hG (lv_sub hl [1, 0, 2, 3, 4] rfl)
