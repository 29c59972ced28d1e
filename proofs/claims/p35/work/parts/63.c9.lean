set_option maxHeartbeats 400000 in
set_option maxRecDepth 100000 in
theorem mX0_answerOn (l : Launch) (D : va_G) (cy : Nat → ClassId) (ad : Nat → Nat) (n : Nat) (st : St) (sz fz : Nat) (wb : Int) (hn : 75 ≤ n) (hI : GI wb st) (hW : wb ≤ 2000000) (q : Nat) (o : Nat) (vec : Nat) (d : Int) (hq : 77 + 3 * q < n) (ho : o < 6) (hvec : vec < 2 ^ 64) (hd : 0 ≤ d ∧ d < 4) (hsc : ∀ (o : Nat) (j : Int), st 42 o j ≤ st 30 0 0) : Met l yX0_answerOn wsX0_answerOn ({ frames := 3, cells := 0, slots := 0, locals := 73 }) (va_Pc [.ref (ad (75 + 3 * q)), .ref (ad (33 + 7 * o)), .long (lN vec), .int (iI (d)), .ref (ad 22)] (gB D cy ad n st sz fz)) (va_Qi (fun (r : Int32) (st' : St) => r = iI (anC st q o vec d 8) ∧ st' = st) (gP D cy ad n) (gA n ad sz)) 0 0 (gA n ad sz) := by
  refine Met.ofW (cc := cX0_answerOn) (maxL := 11) (ret := (some .int)) (by decide) rfl ?_
  intro p e s m args below meth c s₁ B hml hv
  obtain ⟨rfl, hsz, hP, hK, hD0, hN, hZ⟩ := hv
  have hx := B.exec
  have hb := B.bytes
  have hr := B.returns
  have hts := atoms_spec (ws := wsX0_answerOn) B.pre
  have hown : s.vm.findClass RX0 = some m.cls := findClass_of_methodNamed B.named
  have hlocks := B.notSynchronized
  subst hsz
  have hA : ∀ q : Nat, s.heap.size ≤ q → gA n ad s.heap.size q := fun q h => Or.inr h
  have hG : GH D cy ad n st (gA n ad s.heap.size) s.heap s.heap [] := ⟨hP, gw_A hD0, va_S.rf⟩
  have hl := lv_entry ([.ref (ad (75 + 3 * q)), .ref (ad (33 + 7 * o)), .long (lN vec), .int (iI (d)), .ref (ad 22)]) (n := 11) (Nat.le_of_ble_eq_true rfl)
  rw [lg_entry_eq]
  generalize (lg_sl ([.ref (ad (75 + 3 * q)), .ref (ad (33 + 7 * o)), .long (lN vec), .int (iI (d)), .ref (ad 22)]) ++ List.replicate (11 - (lg_sl ([.ref (ad (75 + 3 * q)), .ref (ad (33 + 7 * o)), .long (lN vec), .int (iI (d)), .ref (ad 22)])).length) Slot.unset).toArray = ls at hl ⊢
  have hl : lv_has ls 11 [(0, .ref (ad (75 + 3 * q))), (1, .ref (ad (33 + 7 * o))), (2, .long (lN vec)), (4, .int (iI (d))), (5, .ref (ad 22))] := hl
  have hin0 : ∀ w ∈ u_ws RX0 TX0 8, w ∈ wsX0_answerOn := by decide +kernel
  have hin := gI_60 hI q 0
  refine lv_iconst (v := iI (0)) hx hb dX0_answerOn_0 rfl ?_
  refine lv_istore (lv' := [(6, .int (iI (0))), (0, .ref (ad (75 + 3 * q))), (1, .ref (ad (33 + 7 * o))), (2, .long (lN vec)), (4, .int (iI (d))), (5, .ref (ad 22))]) hx hb dX0_answerOn_1 hl (by decide) rfl (fun ls hl => ?_)
  refine lv_iconst (v := iI (0)) hx hb dX0_answerOn_3 rfl ?_
  refine lv_istore (lv' := [(7, .int (iI (0))), (6, .int (iI (0))), (0, .ref (ad (75 + 3 * q))), (1, .ref (ad (33 + 7 * o))), (2, .long (lN vec)), (4, .int (iI (d))), (5, .ref (ad 22))]) hx hb dX0_answerOn_4 hl (by decide) rfl (fun ls hl => ?_)
  have hloop6 : ∀ (N : Nat)  (b : Nat) (H : Heap) (locs : List Loc) (ls : Array Slot), 9 - b < N → (b ≤ 8) →  GH D cy ad n st (gA n ad s.heap.size) s.heap H locs → lv_has ls 11 [(6, .int (iI (anC st q o vec d b))), (7, .int (iI (((b : Nat) : Int)))), (0, .ref (ad (75 + 3 * q))), (1, .ref (ad (33 + 7 * o))), (2, .long (lN vec)), (4, .int (iI (d))), (5, .ref (ad 22))] → W p l e (headSpec wsX0_answerOn { frames := 3, cells := 0, slots := 0, locals := 73 }).room s m (#[.ref (ad (75 + 3 * q)), .ref (ad (33 + 7 * o)), .long (lN vec), .int (iI (d)), .ref (ad 22)] : Array Value) below meth c H locs 0 0 (MQ below (va_Qi (fun (r : Int32) (st' : St) => r = iI (anC st q o vec d 8) ∧ st' = st) (gP D cy ad n) (gA n ad s.heap.size)) (#[.ref (ad (75 + 3 * q)), .ref (ad (33 + 7 * o)), .long (lN vec), .int (iI (d)), .ref (ad 22)] : Array Value) s 0 0 (gA n ad s.heap.size)) (F0 m 6 ls []) := by
    intro N
    induction N with
    | zero => intro  b H locs ls hm; exact absurd hm (Nat.not_lt_zero _)
    | succ N ih6 =>
      intro  b H locs ls hm hb8 hG hl
      have hab := asrN_lt vec b
      refine lv_iload hx hb dX0_answerOn_6 (lv_at hl 1 rfl) ?_
      refine lv_bipush (v := iI (8)) hx hb dX0_answerOn_8 (by decide +kernel) ?_
      refine r_icmp_ge (tgt := 81) hx hb (by omega) dX0_answerOn_10 (by decide) (fun c1 => ?_) (fun c1 => ?_)
      · skip
        refine lv_iload hx hb dX0_answerOn_81 (lv_at hl 0 rfl) ?_
        exact g_iret hx hb hr hlocks hG (by
          refine ⟨?_, rfl⟩
          congr 1
          rw [show b = 8 by omega]) dX0_answerOn_83
      · skip
        refine lv_iconst (v := iI (0)) hx hb dX0_answerOn_13 rfl ?_
        refine lv_istore (lv' := [(8, .int (iI (0))), (6, .int (iI (anC st q o vec d b))), (7, .int (iI (((b : Nat) : Int)))), (0, .ref (ad (75 + 3 * q))), (1, .ref (ad (33 + 7 * o))), (2, .long (lN vec)), (4, .int (iI (d))), (5, .ref (ad 22))]) hx hb dX0_answerOn_14 hl (by decide) rfl (fun ls hl => ?_)
        have hloop16 : ∀ (N : Nat)  (k : Nat) (H : Heap) (locs : List Loc) (ls : Array Slot), 5 - k < N → (k ≤ 4) →  GH D cy ad n st (gA n ad s.heap.size) s.heap H locs → lv_has ls 11 [(6, .int (iI (anC st q o vec d b + anI st q o vec d b k))), (8, .int (iI (((k : Nat) : Int)))), (7, .int (iI (((b : Nat) : Int)))), (0, .ref (ad (75 + 3 * q))), (1, .ref (ad (33 + 7 * o))), (2, .long (lN vec)), (4, .int (iI (d))), (5, .ref (ad 22))] → W p l e (headSpec wsX0_answerOn { frames := 3, cells := 0, slots := 0, locals := 73 }).room s m (#[.ref (ad (75 + 3 * q)), .ref (ad (33 + 7 * o)), .long (lN vec), .int (iI (d)), .ref (ad 22)] : Array Value) below meth c H locs 0 0 (MQ below (va_Qi (fun (r : Int32) (st' : St) => r = iI (anC st q o vec d 8) ∧ st' = st) (gP D cy ad n) (gA n ad s.heap.size)) (#[.ref (ad (75 + 3 * q)), .ref (ad (33 + 7 * o)), .long (lN vec), .int (iI (d)), .ref (ad 22)] : Array Value) s 0 0 (gA n ad s.heap.size)) (F0 m 16 ls []) := by
          intro N
          induction N with
          | zero => intro  k H locs ls hm; exact absurd hm (Nat.not_lt_zero _)
          | succ N ih16 =>
            intro  k H locs ls hm hk hG hl
            refine lv_iload hx hb dX0_answerOn_16 (lv_at hl 1 rfl) ?_
            refine lv_iconst (v := iI (4)) hx hb dX0_answerOn_18 rfl ?_
            refine r_icmp_ge (tgt := 75) hx hb (by omega) dX0_answerOn_19 (by decide) (fun c2 => ?_) (fun c2 => ?_)
            · skip
              obtain ⟨v3, ev3⟩ : ∃ y9 : Int, y9 = ((b : Nat) : Int) + (1) := ⟨_, rfl⟩
              refine lv_iinc (v := iI v3) (lv' := [(7, .int (iI (v3))), (6, .int (iI (anC st q o vec d b + anI st q o vec d b k))), (8, .int (iI (((k : Nat) : Int)))), (0, .ref (ad (75 + 3 * q))), (1, .ref (ad (33 + 7 * o))), (2, .long (lN vec)), (4, .int (iI (d))), (5, .ref (ad 22))]) hx hb dX0_answerOn_75 hl (k := 2) rfl (by rw [ev3]; exact iI_add _ _) (by decide) rfl (fun ls hl => ?_)
              refine lv_goto (tgt := 6) hx hb dX0_answerOn_78 (by decide) ?_
              rw [show (anC st q o vec d b + anI st q o vec d b k : Int) = anC st q o vec d (b + 1) from by (rw [anC_s, show k = 4 by omega])] at hl
              rw [show (v3 : Int) = (((b + 1) : Nat) : Int) from by omega] at hl
              exact ih6  (b + 1) _ _ _ (by omega) (by omega) hG (lv_sub hl [1, 0, 3, 4, 5, 6, 7] rfl)
            · skip
              refine lv_iload hx hb dX0_answerOn_22 (lv_at hl 6 rfl) ?_
              refine lv_iconst (v := iI (4)) hx hb dX0_answerOn_24 rfl ?_
              refine r_imul hx hb dX0_answerOn_25 ?_
              refine r_nm (fun v4 ev4 => ?_)
              refine lv_iload hx hb dX0_answerOn_26 (lv_at hl 1 rfl) ?_
              refine r_iadd hx hb dX0_answerOn_28 ?_
              refine r_nm (fun v5 ev5 => ?_)
              refine lv_istore (lv' := [(9, .int (iI (v5))), (6, .int (iI (anC st q o vec d b + anI st q o vec d b k))), (8, .int (iI (((k : Nat) : Int)))), (7, .int (iI (((b : Nat) : Int)))), (0, .ref (ad (75 + 3 * q))), (1, .ref (ad (33 + 7 * o))), (2, .long (lN vec)), (4, .int (iI (d))), (5, .ref (ad 22))]) hx hb dX0_answerOn_29 hl (by decide) rfl (fun ls hl => ?_)
              refine lv_aload_n hx hb dX0_answerOn_31 rfl (lv_at hl 4 rfl) ?_
              refine lv_aload_n hx hb dX0_answerOn_32 rfl (lv_at hl 5 rfl) ?_
              refine lv_lload_n hx hb dX0_answerOn_33 rfl (lv_at hl 6 rfl) ?_
              refine lv_iload hx hb dX0_answerOn_34 (lv_at hl 3 rfl) ?_
              refine lv_lshr (v := lN (asrN vec b)) hx hb dX0_answerOn_36 (by exact asr_e vec (by omega)) ?_
              refine lv_iload hx hb dX0_answerOn_37 (lv_at hl 0 rfl) ?_
              refine lv_aload hx hb dX0_answerOn_39 (lv_at hl 8 rfl) ?_
              refine g_goi hG hA (va_runV (As := [.ref (ad (33 + 7 * o)), .long (lN (asrN vec b)), .int (iI (v5)), .ref (ad 22)]) (rest := []) ⟨hx, hb, hml, hown, hts⟩ (mX0_currentOn l D cy ad n st _ fz wb hn hI (by omega) (q) (o) (asrN vec b) (v5) (by omega) (by omega) (by omega) (by omega) (by omega)) (cwV 4 hts gX0_answerOn_X0_currentOn rfl rfl rfl (by decide +kernel) ⟨Nat.le_of_ble_eq_true rfl, Nat.le_of_ble_eq_true rfl⟩) ⟨g_blind, va_recv hK hG.1 (q0 := (75 + 3 * q) - 19) (ci := 0) rfl ((gw_at (k := 75 + 3 * q) (by omega)).trans (by rw [gC_l st ad cy q])), g_pre hK hG hA hN hZ⟩ rfl rfl hl.1 rfl (lv_room (Nat.le_of_ble_eq_true rfl)) dX0_answerOn_41 ⟨Nat.zero_le _, Nat.zero_le _⟩) (fun r9 s9 H locs hp hG => ?_)
              obtain ⟨rfl, hs9⟩ := hp
              rw [hs9] at hG
              clear hs9
              refine r_nm (fun v6 ev6 => ?_)
              have hr7 := curC_r hI hsc (q) (o) (asrN vec b) (v5) (st 60 (q) 0).toNat
              rw [← ev6] at hr7
              refine lv_istore (lv' := [(10, .int (iI (v6))), (9, .int (iI (v5))), (6, .int (iI (anC st q o vec d b + anI st q o vec d b k))), (8, .int (iI (((k : Nat) : Int)))), (7, .int (iI (((b : Nat) : Int)))), (0, .ref (ad (75 + 3 * q))), (1, .ref (ad (33 + 7 * o))), (2, .long (lN vec)), (4, .int (iI (d))), (5, .ref (ad 22))]) hx hb dX0_answerOn_44 hl (by decide) rfl (fun ls hl => ?_)
              refine lv_iload hx hb dX0_answerOn_46 (lv_at hl 2 rfl) ?_
              refine va_getsN hx hb hZ.1 hG.2.2 hown (va_Nw.use rfl (hN.1 (.fieldLinkNest RX0 43 RX5 "FACTORS" "[I" RX5) (by decide +kernel))) (fun _ h9 => h9) dX0_answerOn_48 ?_
              refine lv_iload hx hb dX0_answerOn_51 (lv_at hl 3 rfl) ?_
              refine g_fac hx hb hZ hG (by omega) dX0_answerOn_53 ?_
              have hr8 := fcF_s (i := ((k : Nat) : Int)) (by omega)
              refine r_nm (fun v9 ev9 => ?_)
              rw [← ev9] at hr8
              refine lv_aload_n hx hb dX0_answerOn_54 rfl (lv_at hl 6 rfl) ?_
              refine lv_iload hx hb dX0_answerOn_55 (lv_at hl 1 rfl) ?_
              refine lv_iload hx hb dX0_answerOn_57 (lv_at hl 0 rfl) ?_
              refine g_goi hG hA (va_runV (As := [.int (iI (v5)), .int (iI (v6))]) (rest := [.int (iI (v9)), .int (iI (anC st q o vec d b + anI st q o vec d b k))]) ⟨hx, hb, hml, hown, hts⟩ (mX4_read l D cy ad n st _ fz wb hn hI (by omega) (o) (v5) (v6) (by omega) (by omega) (by omega)) (cwV 2 hts gX0_answerOn_X4_read rfl rfl rfl (by decide +kernel) ⟨Nat.le_of_ble_eq_true rfl, Nat.le_of_ble_eq_true rfl⟩) ⟨g_blind, va_recv hK hG.1 (q0 := (33 + 7 * o) - 19) (ci := 4) rfl ((gw_at (k := 33 + 7 * o) (by omega)).trans (by rw [gC_t st ad cy ho])), g_pre hK hG hA hN hZ⟩ rfl rfl hl.1 rfl (lv_room (Nat.le_of_ble_eq_true rfl)) dX0_answerOn_59 ⟨Nat.zero_le _, Nat.zero_le _⟩) (fun r9 s9 H locs hp hG => ?_)
              obtain ⟨rfl, hs9⟩ := hp
              rw [hs9] at hG
              clear hs9
              refine r_nm (fun v10 ev10 => ?_)
              have hr11 := readC_q hI (o) (v5) (v6)
              rw [← ev10] at hr11
              refine r_imul hx hb dX0_answerOn_62 ?_
              refine r_nm (fun v12 ev12 => ?_)
              refine lv_iload hx hb dX0_answerOn_63 (lv_at hl 4 rfl) ?_
              refine r_as (y := ((b : Nat) : Int)) (by rfl) ?_
              refine r_ishl hx hb (by omega) dX0_answerOn_65 ?_
              refine r_nm (fun v13 ev13 => ?_)
              refine r_iadd hx hb dX0_answerOn_66 ?_
              refine r_nm (fun v14 ev14 => ?_)
              refine lv_istore (lv' := [(6, .int (iI (v14))), (10, .int (iI (v6))), (9, .int (iI (v5))), (8, .int (iI (((k : Nat) : Int)))), (7, .int (iI (((b : Nat) : Int)))), (0, .ref (ad (75 + 3 * q))), (1, .ref (ad (33 + 7 * o))), (2, .long (lN vec)), (4, .int (iI (d))), (5, .ref (ad 22))]) hx hb dX0_answerOn_67 hl (by decide) rfl (fun ls hl => ?_)
              obtain ⟨v15, ev15⟩ : ∃ y9 : Int, y9 = ((k : Nat) : Int) + (1) := ⟨_, rfl⟩
              refine lv_iinc (v := iI v15) (lv' := [(8, .int (iI (v15))), (6, .int (iI (v14))), (10, .int (iI (v6))), (9, .int (iI (v5))), (7, .int (iI (((b : Nat) : Int)))), (0, .ref (ad (75 + 3 * q))), (1, .ref (ad (33 + 7 * o))), (2, .long (lN vec)), (4, .int (iI (d))), (5, .ref (ad 22))]) hx hb dX0_answerOn_69 hl (k := 3) rfl (by rw [ev15]; exact iI_add _ _) (by decide) rfl (fun ls hl => ?_)
              refine lv_goto (tgt := 16) hx hb dX0_answerOn_72 (by decide) ?_
              rw [show (v14 : Int) = anC st q o vec d b + anI st q o vec d b (k + 1) from by (rw [anI_s, ← Int.add_assoc]; subst_vars; rfl)] at hl
              rw [show (v15 : Int) = (((k + 1) : Nat) : Int) from by omega] at hl
              exact ih16  (k + 1) _ _ _ (by omega) (by omega) hG (lv_sub hl [1, 0, 4, 5, 6, 7, 8, 9] rfl)
        rw [show (anC st q o vec d b : Int) = anC st q o vec d b + anI st q o vec d b (0) from by (rw [anI_0, Int.add_zero])] at hl
        exact hloop16 _  (0) _ _ _ (Nat.lt_succ_self _) (by omega) hG (lv_sub hl [1, 0, 2, 3, 4, 5, 6, 7] rfl)
  exact hloop6 _  (0) _ _ _ (Nat.lt_succ_self _) (by omega) hG (lv_sub hl [1, 0, 2, 3, 4, 5, 6] rfl)
