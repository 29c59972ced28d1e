set_option maxHeartbeats 400000 in
set_option maxRecDepth 100000 in
theorem mX0_canGoOnTo (l : Launch) (D : va_G) (cy : Nat → ClassId) (ad : Nat → Nat) (n : Nat) (st : St) (sz fz : Nat) (wb : Int) (hn : 75 ≤ n) (hI : GI wb st) (hW : wb ≤ 2000000) (q : Nat) (q2 : Nat) (hq : 77 + 3 * q < n) (hq2 : 77 + 3 * q2 < n) (hq6 : q < 6) (hq26 : q2 < 6) : Met l yX0_canGoOnTo wsX0_canGoOnTo ({ frames := 0, cells := 0, slots := 0, locals := 0 }) (va_Pc [.ref (ad (75 + 3 * q)), .ref (ad (75 + 3 * q2))] (gB D cy ad n st sz fz)) (va_Qi (fun (r : Int32) (st' : St) => r = iI (goC st q q2) ∧ st' = st) (gP D cy ad n) (gA n ad sz)) 0 0 (gA n ad sz) := by
  refine Met.ofW (cc := cX0_canGoOnTo) (maxL := 2) (ret := (some .boolean)) (by decide) rfl ?_
  intro p e s m args below meth c s₁ B hml hv
  obtain ⟨rfl, hsz, hP, hK, hD0, hN, hZ⟩ := hv
  have hx := B.exec
  have hb := B.bytes
  have hr := B.returns
  have hts := atoms_spec (ws := wsX0_canGoOnTo) B.pre
  have hown : s.vm.findClass RX0 = some m.cls := findClass_of_methodNamed B.named
  have hlocks := B.notSynchronized
  subst hsz
  have hA : ∀ q : Nat, s.heap.size ≤ q → gA n ad s.heap.size q := fun q h => Or.inr h
  have hG : GH D cy ad n st (gA n ad s.heap.size) s.heap s.heap [] := ⟨hP, gw_A hD0, va_S.rf⟩
  have hl := lv_entry ([.ref (ad (75 + 3 * q)), .ref (ad (75 + 3 * q2))]) (n := 2) (Nat.le_of_ble_eq_true rfl)
  rw [lg_entry_eq]
  generalize (lg_sl ([.ref (ad (75 + 3 * q)), .ref (ad (75 + 3 * q2))]) ++ List.replicate (2 - (lg_sl ([.ref (ad (75 + 3 * q)), .ref (ad (75 + 3 * q2))])).length) Slot.unset).toArray = ls at hl ⊢
  have hl : lv_has ls 2 [(0, .ref (ad (75 + 3 * q))), (1, .ref (ad (75 + 3 * q2)))] := hl
  have hin0 : ∀ w ∈ u_ws RX0 TX0 8, w ∈ wsX0_canGoOnTo := by decide +kernel
  have L_30 := hts (.fieldLink RX0 30 "Crossbarry$Layer" "number" "I") (by decide +kernel)
  have L_33 := hts (.fieldLink RX0 33 "Crossbarry$Layer" "inputs" "I") (by decide +kernel)
  have L_36 := hts (.fieldLink RX0 36 "Crossbarry$Layer" "outputs" "I") (by decide +kernel)
  refine lv_aload_n hx hb dX0_canGoOnTo_0 rfl (lv_at hl 1 rfl) ?_
  refine g_get hx hb hts hin0 hown hK hG (key := 75 + 3 * q2) (by omega) (gC_l st ad cy q2) rfl 0 (by decide) L_30 (fun _ h9 => h9) rfl dX0_canGoOnTo_1 ?_
  refine lv_aload_n hx hb dX0_canGoOnTo_4 rfl (lv_at hl 0 rfl) ?_
  refine g_get hx hb hts hin0 hown hK hG (key := 75 + 3 * q) (by omega) (gC_l st ad cy q) rfl 0 (by decide) L_30 (fun _ h9 => h9) rfl dX0_canGoOnTo_5 ?_
  refine r_icmp_le (tgt := 26) hx hb (by omega) dX0_canGoOnTo_8 (by decide) (fun c1 => ?_) (fun c1 => ?_)
  · skip
    refine lv_iconst (v := iI (0)) hx hb dX0_canGoOnTo_26 rfl ?_
    exact g_zret hx hb hr hlocks (narZ (by omega)) hG (by
      refine ⟨?_, rfl⟩
      congr 1
      unfold goC
      subst_vars
      first
        | (rw [if_pos (by omega)]; done)
        | (rw [if_neg (by omega)]; done)) dX0_canGoOnTo_27
  · skip
    refine lv_aload_n hx hb dX0_canGoOnTo_11 rfl (lv_at hl 1 rfl) ?_
    refine g_get hx hb hts hin0 hown hK hG (key := 75 + 3 * q2) (by omega) (gC_l st ad cy q2) rfl 1 (by decide) L_33 (fun _ h9 => h9) rfl dX0_canGoOnTo_12 ?_
    have hr2 := gI_60 hI (q2) (0)
    refine r_nm (fun v3 ev3 => ?_)
    rw [← ev3] at hr2
    refine lv_aload_n hx hb dX0_canGoOnTo_15 rfl (lv_at hl 0 rfl) ?_
    refine g_get hx hb hts hin0 hown hK hG (key := 75 + 3 * q) (by omega) (gC_l st ad cy q) rfl 2 (by decide) L_36 (fun _ h9 => h9) rfl dX0_canGoOnTo_16 ?_
    have hr4 := gI_61 hI (q) (0)
    refine r_nm (fun v5 ev5 => ?_)
    rw [← ev5] at hr4
    refine r_icmp_lt (tgt := 26) hx hb (by omega) dX0_canGoOnTo_19 (by decide) (fun c6 => ?_) (fun c6 => ?_)
    · skip
      refine lv_iconst (v := iI (0)) hx hb dX0_canGoOnTo_26 rfl ?_
      exact g_zret hx hb hr hlocks (narZ (by omega)) hG (by
        refine ⟨?_, rfl⟩
        congr 1
        unfold goC
        subst_vars
        first
          | (rw [if_pos (by omega)]; done)
          | (rw [if_neg (by omega)]; done)) dX0_canGoOnTo_27
    · skip
      refine lv_iconst (v := iI (1)) hx hb dX0_canGoOnTo_22 rfl ?_
      refine lv_goto (tgt := 27) hx hb dX0_canGoOnTo_23 (by decide) ?_
      exact g_zret hx hb hr hlocks (narZ (by omega)) hG (by
        refine ⟨?_, rfl⟩
        congr 1
        unfold goC
        subst_vars
        first
          | (rw [if_pos (by omega)]; done)
          | (rw [if_neg (by omega)]; done)) dX0_canGoOnTo_27
set_option maxHeartbeats 400000 in
set_option maxRecDepth 100000 in
theorem mX0_boundOn (l : Launch) (D : va_G) (cy : Nat → ClassId) (ad : Nat → Nat) (n : Nat) (st : St) (sz fz : Nat) (wb : Int) (hn : 75 ≤ n) (hI : GI wb st) (hW : wb ≤ 2000000) (q : Nat) (o : Nat) (out : Int) (u : Int) (hq : 77 + 3 * q < n) (ho : o < 6) (hout : 0 ≤ out ∧ out < 4) (hu : u = 0 ∨ u = 1) : Met l yX0_boundOn wsX0_boundOn ({ frames := 3, cells := 0, slots := 0, locals := 68 }) (va_Pc [.ref (ad (75 + 3 * q)), .ref (ad (33 + 7 * o)), .int (iI (out)), .int (iI (u))] (gB D cy ad n st sz fz)) (va_Qi (fun (r : Int32) (st' : St) => r = iI (255 * sumN (bnT st q o out u) 4) ∧ st' = st) (gP D cy ad n) (gA n ad sz)) 0 0 (gA n ad sz) := by
  refine Met.ofW (cc := cX0_boundOn) (maxL := 9) (ret := (some .int)) (by decide) rfl ?_
  intro p e s m args below meth c s₁ B hml hv
  obtain ⟨rfl, hsz, hP, hK, hD0, hN, hZ⟩ := hv
  have hx := B.exec
  have hb := B.bytes
  have hr := B.returns
  have hts := atoms_spec (ws := wsX0_boundOn) B.pre
  have hown : s.vm.findClass RX0 = some m.cls := findClass_of_methodNamed B.named
  have hlocks := B.notSynchronized
  subst hsz
  have hA : ∀ q : Nat, s.heap.size ≤ q → gA n ad s.heap.size q := fun q h => Or.inr h
  have hG : GH D cy ad n st (gA n ad s.heap.size) s.heap s.heap [] := ⟨hP, gw_A hD0, va_S.rf⟩
  have hl := lv_entry ([.ref (ad (75 + 3 * q)), .ref (ad (33 + 7 * o)), .int (iI (out)), .int (iI (u))]) (n := 9) (Nat.le_of_ble_eq_true rfl)
  rw [lg_entry_eq]
  generalize (lg_sl ([.ref (ad (75 + 3 * q)), .ref (ad (33 + 7 * o)), .int (iI (out)), .int (iI (u))]) ++ List.replicate (9 - (lg_sl ([.ref (ad (75 + 3 * q)), .ref (ad (33 + 7 * o)), .int (iI (out)), .int (iI (u))])).length) Slot.unset).toArray = ls at hl ⊢
  have hl : lv_has ls 9 [(0, .ref (ad (75 + 3 * q))), (1, .ref (ad (33 + 7 * o))), (2, .int (iI (out))), (3, .int (iI (u)))] := hl
  have hin0 : ∀ w ∈ u_ws RX0 TX0 8, w ∈ wsX0_boundOn := by decide +kernel
  have hin := gI_60 hI q 0
  refine lv_iconst (v := iI (0)) hx hb dX0_boundOn_0 rfl ?_
  refine lv_istore (lv' := [(4, .int (iI (0))), (0, .ref (ad (75 + 3 * q))), (1, .ref (ad (33 + 7 * o))), (2, .int (iI (out))), (3, .int (iI (u)))]) hx hb dX0_boundOn_1 hl (by decide) rfl (fun ls hl => ?_)
  refine lv_iconst (v := iI (0)) hx hb dX0_boundOn_3 rfl ?_
  refine lv_istore (lv' := [(5, .int (iI (0))), (4, .int (iI (0))), (0, .ref (ad (75 + 3 * q))), (1, .ref (ad (33 + 7 * o))), (2, .int (iI (out))), (3, .int (iI (u)))]) hx hb dX0_boundOn_4 hl (by decide) rfl (fun ls hl => ?_)
  have hloop6 : ∀ (N : Nat)  (k : Nat) (H : Heap) (locs : List Loc) (ls : Array Slot), 5 - k < N → (k ≤ 4) →  GH D cy ad n st (gA n ad s.heap.size) s.heap H locs → lv_has ls 9 [(4, .int (iI (sumN (bnT st q o out u) k))), (5, .int (iI (((k : Nat) : Int)))), (0, .ref (ad (75 + 3 * q))), (1, .ref (ad (33 + 7 * o))), (2, .int (iI (out))), (3, .int (iI (u)))] → W p l e (headSpec wsX0_boundOn { frames := 3, cells := 0, slots := 0, locals := 68 }).room s m (#[.ref (ad (75 + 3 * q)), .ref (ad (33 + 7 * o)), .int (iI (out)), .int (iI (u))] : Array Value) below meth c H locs 0 0 (MQ below (va_Qi (fun (r : Int32) (st' : St) => r = iI (255 * sumN (bnT st q o out u) 4) ∧ st' = st) (gP D cy ad n) (gA n ad s.heap.size)) (#[.ref (ad (75 + 3 * q)), .ref (ad (33 + 7 * o)), .int (iI (out)), .int (iI (u))] : Array Value) s 0 0 (gA n ad s.heap.size)) (F0 m 6 ls []) := by
    intro N
    induction N with
    | zero => intro  k H locs ls hm; exact absurd hm (Nat.not_lt_zero _)
    | succ N ih6 =>
      intro  k H locs ls hm hk hG hl
      refine lv_iload hx hb dX0_boundOn_6 (lv_at hl 1 rfl) ?_
      refine lv_iconst (v := iI (4)) hx hb dX0_boundOn_8 rfl ?_
      refine r_icmp_ge (tgt := 95) hx hb (by omega) dX0_boundOn_9 (by decide) (fun c1 => ?_) (fun c1 => ?_)
      · skip
        refine lv_sipush (v := iI (255)) hx hb dX0_boundOn_95 (by decide +kernel) ?_
        refine lv_iload hx hb dX0_boundOn_98 (lv_at hl 0 rfl) ?_
        refine r_imul hx hb dX0_boundOn_100 ?_
        refine r_nm (fun v2 ev2 => ?_)
        exact g_iret hx hb hr hlocks hG (by
          refine ⟨?_, rfl⟩
          congr 1
          have hk4 : k = 4 := by omega
          subst hk4
          subst_vars
          rfl) dX0_boundOn_101
      · skip
        refine lv_iload_n hx hb dX0_boundOn_12 rfl (lv_at hl 4 rfl) ?_
        refine lv_iconst (v := iI (4)) hx hb dX0_boundOn_13 rfl ?_
        refine r_imul hx hb dX0_boundOn_14 ?_
        refine r_nm (fun v3 ev3 => ?_)
        refine lv_iload hx hb dX0_boundOn_15 (lv_at hl 1 rfl) ?_
        refine r_iadd hx hb dX0_boundOn_17 ?_
        refine r_nm (fun v4 ev4 => ?_)
        refine lv_istore (lv' := [(6, .int (iI (v4))), (4, .int (iI (sumN (bnT st q o out u) k))), (5, .int (iI (((k : Nat) : Int)))), (0, .ref (ad (75 + 3 * q))), (1, .ref (ad (33 + 7 * o))), (2, .int (iI (out))), (3, .int (iI (u)))]) hx hb dX0_boundOn_18 hl (by decide) rfl (fun ls hl => ?_)
        refine lv_aload_n hx hb dX0_boundOn_20 rfl (lv_at hl 3 rfl) ?_
        refine lv_iload hx hb dX0_boundOn_21 (lv_at hl 0 rfl) ?_
        refine g_goi hG hA (va_runV (As := [.int (iI (v4))]) (rest := []) ⟨hx, hb, hml, hown, hts⟩ (mX0_needOf l D cy ad n st _ fz wb hn hI (by omega) (q) (v4) (by omega) (by omega)) (cwV 1 hts gX0_boundOn_X0_needOf rfl rfl rfl (by decide +kernel) ⟨Nat.le_of_ble_eq_true rfl, Nat.le_of_ble_eq_true rfl⟩) ⟨g_blind, va_recv hK hG.1 (q0 := (75 + 3 * q) - 19) (ci := 0) rfl ((gw_at (k := 75 + 3 * q) (by omega)).trans (by rw [gC_l st ad cy q])), g_pre hK hG hA hN hZ⟩ rfl rfl hl.1 rfl (lv_room (Nat.le_of_ble_eq_true rfl)) dX0_boundOn_23 ⟨Nat.zero_le _, Nat.zero_le _⟩) (fun r9 s9 H locs hp hG => ?_)
        obtain ⟨rfl, hs9⟩ := hp
        rw [hs9] at hG
        clear hs9
        refine r_nm (fun v5 ev5 => ?_)
        have hr6 := noC_r hI (q) (v4) (st 60 (q) 0).toNat
        rw [← ev5] at hr6
        refine lv_istore (lv' := [(7, .int (iI (v5))), (6, .int (iI (v4))), (4, .int (iI (sumN (bnT st q o out u) k))), (5, .int (iI (((k : Nat) : Int)))), (0, .ref (ad (75 + 3 * q))), (1, .ref (ad (33 + 7 * o))), (2, .int (iI (out))), (3, .int (iI (u)))]) hx hb dX0_boundOn_26 hl (by decide) rfl (fun ls hl => ?_)
        refine lv_iload_n hx hb dX0_boundOn_28 rfl (lv_at hl 7 rfl) ?_
        have hlab43 : ∀ (gg : Int) (H : Heap) (locs : List Loc) (ls : Array Slot), ((0 < fcF ((k : Nat) : Int) ∧ gg = 1) ∨ (fcF ((k : Nat) : Int) ≤ 0 ∧ gg = 0)) →  GH D cy ad n st (gA n ad s.heap.size) s.heap H locs → lv_has ls 9 [(7, .int (iI (v5))), (6, .int (iI (v4))), (4, .int (iI (sumN (bnT st q o out u) k))), (5, .int (iI (((k : Nat) : Int)))), (0, .ref (ad (75 + 3 * q))), (1, .ref (ad (33 + 7 * o))), (2, .int (iI (out))), (3, .int (iI (u)))] → W p l e (headSpec wsX0_boundOn { frames := 3, cells := 0, slots := 0, locals := 68 }).room s m (#[.ref (ad (75 + 3 * q)), .ref (ad (33 + 7 * o)), .int (iI (out)), .int (iI (u))] : Array Value) below meth c H locs 0 0 (MQ below (va_Qi (fun (r : Int32) (st' : St) => r = iI (255 * sumN (bnT st q o out u) 4) ∧ st' = st) (gP D cy ad n) (gA n ad s.heap.size)) (#[.ref (ad (75 + 3 * q)), .ref (ad (33 + 7 * o)), .int (iI (out)), .int (iI (u))] : Array Value) s 0 0 (gA n ad s.heap.size)) (F0 m 43 ls [.int (iI (gg)), .int (iI (u))]) := by
          intro gg H locs ls hgg hG hl
          have hlab51 : ∀ (isg : Int) (H : Heap) (locs : List Loc) (ls : Array Slot), ((u = gg ∧ isg = 1) ∨ (u ≠ gg ∧ isg = 0)) →  GH D cy ad n st (gA n ad s.heap.size) s.heap H locs → lv_has ls 9 [(7, .int (iI (v5))), (6, .int (iI (v4))), (4, .int (iI (sumN (bnT st q o out u) k))), (5, .int (iI (((k : Nat) : Int)))), (0, .ref (ad (75 + 3 * q))), (1, .ref (ad (33 + 7 * o))), (2, .int (iI (out))), (3, .int (iI (u)))] → W p l e (headSpec wsX0_boundOn { frames := 3, cells := 0, slots := 0, locals := 68 }).room s m (#[.ref (ad (75 + 3 * q)), .ref (ad (33 + 7 * o)), .int (iI (out)), .int (iI (u))] : Array Value) below meth c H locs 0 0 (MQ below (va_Qi (fun (r : Int32) (st' : St) => r = iI (255 * sumN (bnT st q o out u) 4) ∧ st' = st) (gP D cy ad n) (gA n ad s.heap.size)) (#[.ref (ad (75 + 3 * q)), .ref (ad (33 + 7 * o)), .int (iI (out)), .int (iI (u))] : Array Value) s 0 0 (gA n ad s.heap.size)) (F0 m 51 ls [.int (iI (isg))]) := by
            intro isg H locs ls hisg hG hl
            refine lv_istore (lv' := [(8, .int (iI (isg))), (7, .int (iI (v5))), (6, .int (iI (v4))), (4, .int (iI (sumN (bnT st q o out u) k))), (5, .int (iI (((k : Nat) : Int)))), (0, .ref (ad (75 + 3 * q))), (1, .ref (ad (33 + 7 * o))), (2, .int (iI (out))), (3, .int (iI (u)))]) hx hb dX0_boundOn_51 hl (by decide) rfl (fun ls hl => ?_)
            refine lv_iload hx hb dX0_boundOn_53 (lv_at hl 3 rfl) ?_
            refine va_getsN hx hb hZ.1 hG.2.2 hown (va_Nw.use rfl (hN.1 (.fieldLinkNest RX0 43 RX5 "FACTORS" "[I" RX5) (by decide +kernel))) (fun _ h9 => h9) dX0_boundOn_55 ?_
            refine lv_iload hx hb dX0_boundOn_58 (lv_at hl 4 rfl) ?_
            refine g_fac hx hb hZ hG (by omega) dX0_boundOn_60 ?_
            have hr7 := fcF_s (i := ((k : Nat) : Int)) (by omega)
            refine r_nm (fun v8 ev8 => ?_)
            rw [← ev8] at hr7
            have hlab85 : ∀ (er : Int) (H : Heap) (locs : List Loc) (ls : Array Slot), (er = bnE st q o out u k) →  GH D cy ad n st (gA n ad s.heap.size) s.heap H locs → lv_has ls 9 [(8, .int (iI (isg))), (7, .int (iI (v5))), (6, .int (iI (v4))), (4, .int (iI (sumN (bnT st q o out u) k))), (5, .int (iI (((k : Nat) : Int)))), (0, .ref (ad (75 + 3 * q))), (1, .ref (ad (33 + 7 * o))), (2, .int (iI (out))), (3, .int (iI (u)))] → W p l e (headSpec wsX0_boundOn { frames := 3, cells := 0, slots := 0, locals := 68 }).room s m (#[.ref (ad (75 + 3 * q)), .ref (ad (33 + 7 * o)), .int (iI (out)), .int (iI (u))] : Array Value) below meth c H locs 0 0 (MQ below (va_Qi (fun (r : Int32) (st' : St) => r = iI (255 * sumN (bnT st q o out u) 4) ∧ st' = st) (gP D cy ad n) (gA n ad s.heap.size)) (#[.ref (ad (75 + 3 * q)), .ref (ad (33 + 7 * o)), .int (iI (out)), .int (iI (u))] : Array Value) s 0 0 (gA n ad s.heap.size)) (F0 m 85 ls [.int (iI (er)), .int (iI (v8)), .int (iI (sumN (bnT st q o out u) k))]) := by
              intro er H locs ls her hG hl
              refine r_imul hx hb dX0_boundOn_85 ?_
              refine r_nm (fun v9 ev9 => ?_)
              refine r_iadd hx hb dX0_boundOn_86 ?_
              refine r_nm (fun v10 ev10 => ?_)
              refine lv_istore (lv' := [(4, .int (iI (v10))), (8, .int (iI (isg))), (7, .int (iI (v5))), (6, .int (iI (v4))), (5, .int (iI (((k : Nat) : Int)))), (0, .ref (ad (75 + 3 * q))), (1, .ref (ad (33 + 7 * o))), (2, .int (iI (out))), (3, .int (iI (u)))]) hx hb dX0_boundOn_87 hl (by decide) rfl (fun ls hl => ?_)
              obtain ⟨v11, ev11⟩ : ∃ y9 : Int, y9 = ((k : Nat) : Int) + (1) := ⟨_, rfl⟩
              refine lv_iinc (v := iI v11) (lv' := [(5, .int (iI (v11))), (4, .int (iI (v10))), (8, .int (iI (isg))), (7, .int (iI (v5))), (6, .int (iI (v4))), (0, .ref (ad (75 + 3 * q))), (1, .ref (ad (33 + 7 * o))), (2, .int (iI (out))), (3, .int (iI (u)))]) hx hb dX0_boundOn_89 hl (k := 4) rfl (by rw [ev11]; exact iI_add _ _) (by decide) rfl (fun ls hl => ?_)
              refine lv_goto (tgt := 6) hx hb dX0_boundOn_92 (by decide) ?_
              rw [show (v10 : Int) = sumN (bnT st q o out u) (k + 1) from by (rw [sumN_s]; unfold bnT; subst_vars; rfl)] at hl
              rw [show (v11 : Int) = (((k + 1) : Nat) : Int) from by omega] at hl
              exact ih6  (k + 1) _ _ _ (by omega) (by omega) hG (lv_sub hl [1, 0, 5, 6, 7, 8] rfl)
            refine lv_iload hx hb dX0_boundOn_61 (lv_at hl 0 rfl) ?_
            refine r_if_eq (tgt := 77) hx hb (by omega) dX0_boundOn_63 (by decide) (fun c12 => ?_) (fun c12 => ?_)
            · skip
              refine lv_aload_n hx hb dX0_boundOn_77 rfl (lv_at hl 6 rfl) ?_
              refine lv_iload hx hb dX0_boundOn_78 (lv_at hl 2 rfl) ?_
              refine lv_iload hx hb dX0_boundOn_80 (lv_at hl 1 rfl) ?_
              refine g_goi hG hA (va_runV (As := [.int (iI (v4)), .int (iI (v5))]) (rest := [.int (iI (v8)), .int (iI (sumN (bnT st q o out u) k))]) ⟨hx, hb, hml, hown, hts⟩ (mX4_leastError l D cy ad n st _ fz wb hn hI (by omega) (o) (v4) (v5) (by omega) (by omega) (by omega)) (cwV 2 hts gX0_boundOn_X4_leastError rfl rfl rfl (by decide +kernel) ⟨Nat.le_of_ble_eq_true rfl, Nat.le_of_ble_eq_true rfl⟩) ⟨g_blind, va_recv hK hG.1 (q0 := (33 + 7 * o) - 19) (ci := 4) rfl ((gw_at (k := 33 + 7 * o) (by omega)).trans (by rw [gC_t st ad cy ho])), g_pre hK hG hA hN hZ⟩ rfl rfl hl.1 rfl (lv_room (Nat.le_of_ble_eq_true rfl)) dX0_boundOn_82 ⟨Nat.zero_le _, Nat.zero_le _⟩) (fun r9 s9 H locs hp hG => ?_)
              obtain ⟨rfl, hs9⟩ := hp
              rw [hs9] at hG
              clear hs9
              refine r_nm (fun v13 ev13 => ?_)
              have hr14 := bestU_r (readC_r hI (o) (v4)) 0 ((v5)).toNat
              rw [← ev13] at hr14
              exact hlab85 (v13)  _ _ _ (by unfold bnE; first | (rw [if_pos (by omega)]; subst_vars; rfl) | (rw [if_neg (by omega)]; subst_vars; rfl)) hG (lv_sub hl [0, 1, 2, 3, 4, 5, 6, 7, 8] rfl)
            · skip
              refine lv_aload_n hx hb dX0_boundOn_66 rfl (lv_at hl 6 rfl) ?_
              refine lv_iload hx hb dX0_boundOn_67 (lv_at hl 2 rfl) ?_
              refine lv_iload hx hb dX0_boundOn_69 (lv_at hl 1 rfl) ?_
              refine g_goi hG hA (va_runV (As := [.int (iI (v4)), .int (iI (v5))]) (rest := [.int (iI (v8)), .int (iI (sumN (bnT st q o out u) k))]) ⟨hx, hb, hml, hown, hts⟩ (mX4_greatestError l D cy ad n st _ fz wb hn hI (by omega) (o) (v4) (v5) (by omega) (by omega) (by omega)) (cwV 2 hts gX0_boundOn_X4_greatestError rfl rfl rfl (by decide +kernel) ⟨Nat.le_of_ble_eq_true rfl, Nat.le_of_ble_eq_true rfl⟩) ⟨g_blind, va_recv hK hG.1 (q0 := (33 + 7 * o) - 19) (ci := 4) rfl ((gw_at (k := 33 + 7 * o) (by omega)).trans (by rw [gC_t st ad cy ho])), g_pre hK hG hA hN hZ⟩ rfl rfl hl.1 rfl (lv_room (Nat.le_of_ble_eq_true rfl)) dX0_boundOn_71 ⟨Nat.zero_le _, Nat.zero_le _⟩) (fun r9 s9 H locs hp hG => ?_)
              obtain ⟨rfl, hs9⟩ := hp
              rw [hs9] at hG
              clear hs9
              refine r_nm (fun v15 ev15 => ?_)
              have hr16 := bestU_r (readC_r hI (o) (v4)) 1 ((v5)).toNat
              rw [← ev15] at hr16
              refine lv_goto (tgt := 85) hx hb dX0_boundOn_74 (by decide) ?_
              exact hlab85 (v15)  _ _ _ (by unfold bnE; first | (rw [if_pos (by omega)]; subst_vars; rfl) | (rw [if_neg (by omega)]; subst_vars; rfl)) hG (lv_sub hl [0, 1, 2, 3, 4, 5, 6, 7, 8] rfl)
          refine r_icmp_ne (tgt := 50) hx hb (by omega) dX0_boundOn_43 (by decide) (fun c17 => ?_) (fun c17 => ?_)
          · skip
            refine lv_iconst (v := iI (0)) hx hb dX0_boundOn_50 rfl ?_
            exact hlab51 (0)  _ _ _ (by omega) hG (lv_sub hl [0, 1, 2, 3, 4, 5, 6, 7] rfl)
          · skip
            refine lv_iconst (v := iI (1)) hx hb dX0_boundOn_46 rfl ?_
            refine lv_goto (tgt := 51) hx hb dX0_boundOn_47 (by decide) ?_
            exact hlab51 (1)  _ _ _ (by omega) hG (lv_sub hl [0, 1, 2, 3, 4, 5, 6, 7] rfl)
        refine va_getsN hx hb hZ.1 hG.2.2 hown (va_Nw.use rfl (hN.1 (.fieldLinkNest RX0 43 RX5 "FACTORS" "[I" RX5) (by decide +kernel))) (fun _ h9 => h9) dX0_boundOn_29 ?_
        refine lv_iload hx hb dX0_boundOn_32 (lv_at hl 3 rfl) ?_
        refine g_fac hx hb hZ hG (by omega) dX0_boundOn_34 ?_
        have hr18 := fcF_s (i := ((k : Nat) : Int)) (by omega)
        refine r_nm (fun v19 ev19 => ?_)
        rw [← ev19] at hr18
        refine r_if_le (tgt := 42) hx hb (by omega) dX0_boundOn_35 (by decide) (fun c20 => ?_) (fun c20 => ?_)
        · skip
          refine lv_iconst (v := iI (0)) hx hb dX0_boundOn_42 rfl ?_
          exact hlab43 (0)  _ _ _ (by omega) hG (lv_sub hl [0, 1, 2, 3, 4, 5, 6, 7] rfl)
        · skip
          refine lv_iconst (v := iI (1)) hx hb dX0_boundOn_38 rfl ?_
          refine lv_goto (tgt := 43) hx hb dX0_boundOn_39 (by decide) ?_
          exact hlab43 (1)  _ _ _ (by omega) hG (lv_sub hl [0, 1, 2, 3, 4, 5, 6, 7] rfl)
  exact hloop6 _  (0) _ _ _ (Nat.lt_succ_self _) (by omega) hG (lv_sub hl [1, 0, 2, 3, 4, 5] rfl)
