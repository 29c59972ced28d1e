set_option maxHeartbeats 400000 in
set_option maxRecDepth 100000 in
theorem mX6_answerOf (l : Launch) (D : va_G) (cy : Nat → ClassId) (ad : Nat → Nat) (n : Nat) (st : St) (sz fz : Nat) (wb : Int) (hn : 75 ≤ n) (hI : GI wb st) (hW : wb ≤ 2000000) (a : Int) (vec : Nat) (o : Int) (ha : 0 ≤ a ∧ a < 6) (hvec : vec < 2 ^ 64) (ho : 0 ≤ o ∧ o < 4) (htl : 0 ≤ st 20 0 a) (hsi : ∀ j : Int, st 6 0 j ≤ st 1 0 0) : Met l yX6_answerOf wsX6_answerOf ({ frames := 1, cells := 0, slots := 0, locals := 24 }) (va_Pc [.ref (ad 0), .int (iI (a)), .long (lN vec), .int (iI (o))] (gB D cy ad n st sz fz)) (va_Qi (fun (r : Int32) (st' : St) => r = iI (ansU st a o vec 8) ∧ st' = st) (gP D cy ad n) (gA n ad sz)) 0 0 (gA n ad sz) := by
  refine Met.ofW (cc := cX6_answerOf) (maxL := 14) (ret := (some .int)) (by decide) rfl ?_
  intro p e s m args below meth c s₁ B hml hv
  obtain ⟨rfl, hsz, hP, hK, hD0, hN, hZ⟩ := hv
  have hx := B.exec
  have hb := B.bytes
  have hr := B.returns
  have hts := atoms_spec (ws := wsX6_answerOf) B.pre
  have hown : s.vm.findClass RX6 = some m.cls := findClass_of_methodNamed B.named
  have hlocks := B.notSynchronized
  subst hsz
  have hA : ∀ q : Nat, s.heap.size ≤ q → gA n ad s.heap.size q := fun q h => Or.inr h
  have hG : GH D cy ad n st (gA n ad s.heap.size) s.heap s.heap [] := ⟨hP, gw_A hD0, va_S.rf⟩
  have hl := lv_entry ([.ref (ad 0), .int (iI (a)), .long (lN vec), .int (iI (o))]) (n := 14) (Nat.le_of_ble_eq_true rfl)
  rw [lg_entry_eq]
  generalize (lg_sl ([.ref (ad 0), .int (iI (a)), .long (lN vec), .int (iI (o))]) ++ List.replicate (14 - (lg_sl ([.ref (ad 0), .int (iI (a)), .long (lN vec), .int (iI (o))])).length) Slot.unset).toArray = ls at hl ⊢
  have hl : lv_has ls 14 [(0, .ref (ad 0)), (1, .int (iI (a))), (2, .long (lN vec)), (4, .int (iI (o)))] := hl
  have hin6 : ∀ w ∈ u_ws RX6 TX6 25, w ∈ wsX6_answerOf := by decide +kernel
  have L_45 := hts (.fieldLink RX6 45 "CrossbarryModel" "inputs" "[I") (by decide +kernel)
  have L_60 := hts (.fieldLink RX6 60 "CrossbarryModel" "tileAt" "[I") (by decide +kernel)
  have L_63 := hts (.fieldLink RX6 63 "CrossbarryModel" "rows" "[I") (by decide +kernel)
  have hin := gI_15 hI 0 a
  have hta := gI_20 hI 0 a
  refine lv_aload_n hx hb dX6_answerOf_0 rfl (lv_at hl 0 rfl) ?_
  refine g_get hx hb hts hin6 hown hK hG (key := 0) (by omega) (gC_0 st ad cy) rfl 20 (by decide) L_60 (fun _ h9 => h9) rfl dX6_answerOf_1 ?_
  refine lv_iload_n hx hb dX6_answerOf_4 rfl (lv_at hl 1 rfl) ?_
  refine g_iald hx hb hK hG (16) (kd := 16) (o := 0) rfl rfl (by omega) (cp := 20) (ln := 6) rfl rfl (by omega) dX6_answerOf_5 ?_
  have hr1 := gI_20 hI (0) (a)
  refine r_nm (fun v2 ev2 => ?_)
  rw [← ev2] at hr1
  refine lv_istore (lv' := [(5, .int (iI (v2))), (0, .ref (ad 0)), (1, .int (iI (a))), (2, .long (lN vec)), (4, .int (iI (o)))]) hx hb dX6_answerOf_6 hl (by decide) rfl (fun ls hl => ?_)
  refine lv_iconst (v := iI (0)) hx hb dX6_answerOf_8 rfl ?_
  refine lv_istore (lv' := [(6, .int (iI (0))), (5, .int (iI (v2))), (0, .ref (ad 0)), (1, .int (iI (a))), (2, .long (lN vec)), (4, .int (iI (o)))]) hx hb dX6_answerOf_9 hl (by decide) rfl (fun ls hl => ?_)
  refine lv_iconst (v := iI (0)) hx hb dX6_answerOf_11 rfl ?_
  refine lv_istore (lv' := [(7, .int (iI (0))), (6, .int (iI (0))), (5, .int (iI (v2))), (0, .ref (ad 0)), (1, .int (iI (a))), (2, .long (lN vec)), (4, .int (iI (o)))]) hx hb dX6_answerOf_12 hl (by decide) rfl (fun ls hl => ?_)
  have hloop14 : ∀ (N : Nat)  (b : Nat) (H : Heap) (locs : List Loc) (ls : Array Slot), 8 - b < N → (b ≤ 8) →  GH D cy ad n st (gA n ad s.heap.size) s.heap H locs → lv_has ls 14 [(6, .int (iI (ansU st a o vec b))), (7, .int (iI (((b : Nat) : Int)))), (5, .int (iI (v2))), (0, .ref (ad 0)), (1, .int (iI (a))), (2, .long (lN vec)), (4, .int (iI (o)))] → W p l e (headSpec wsX6_answerOf { frames := 1, cells := 0, slots := 0, locals := 24 }).room s m (#[.ref (ad 0), .int (iI (a)), .long (lN vec), .int (iI (o))] : Array Value) below meth c H locs 0 0 (MQ below (va_Qi (fun (r : Int32) (st' : St) => r = iI (ansU st a o vec 8) ∧ st' = st) (gP D cy ad n) (gA n ad s.heap.size)) (#[.ref (ad 0), .int (iI (a)), .long (lN vec), .int (iI (o))] : Array Value) s 0 0 (gA n ad s.heap.size)) (F0 m 14 ls []) := by
    intro N
    induction N with
    | zero => intro  b H locs ls hm; exact absurd hm (Nat.not_lt_zero _)
    | succ N ih14 =>
      intro  b H locs ls hm hb8 hG hl
      refine lv_iload hx hb dX6_answerOf_14 (lv_at hl 1 rfl) ?_
      refine lv_bipush (v := iI (8)) hx hb dX6_answerOf_16 (by decide +kernel) ?_
      refine r_icmp_ge (tgt := 191) hx hb (by omega) dX6_answerOf_18 (by decide) (fun c3 => ?_) (fun c3 => ?_)
      · skip
        refine lv_iload hx hb dX6_answerOf_191 (lv_at hl 0 rfl) ?_
        exact g_iret hx hb hr hlocks hG (by
          refine ⟨?_, rfl⟩
          congr 1
          rw [show b = 8 by omega]) dX6_answerOf_193
      · skip
        refine lv_iconst (v := iI (0)) hx hb dX6_answerOf_21 rfl ?_
        refine lv_istore (lv' := [(8, .int (iI (0))), (6, .int (iI (ansU st a o vec b))), (7, .int (iI (((b : Nat) : Int)))), (5, .int (iI (v2))), (0, .ref (ad 0)), (1, .int (iI (a))), (2, .long (lN vec)), (4, .int (iI (o)))]) hx hb dX6_answerOf_22 hl (by decide) rfl (fun ls hl => ?_)
        refine lv_iconst (v := iI (0)) hx hb dX6_answerOf_24 rfl ?_
        refine lv_istore (lv' := [(9, .int (iI (0))), (8, .int (iI (0))), (6, .int (iI (ansU st a o vec b))), (7, .int (iI (((b : Nat) : Int)))), (5, .int (iI (v2))), (0, .ref (ad 0)), (1, .int (iI (a))), (2, .long (lN vec)), (4, .int (iI (o)))]) hx hb dX6_answerOf_25 hl (by decide) rfl (fun ls hl => ?_)
        have hloop27 : ∀ (N : Nat)  (w : Nat) (H : Heap) (locs : List Loc) (ls : Array Slot), 4 - w < N → (w ≤ 4) →  GH D cy ad n st (gA n ad s.heap.size) s.heap H locs → lv_has ls 14 [(8, .int (iI (sumN (tW st a o vec b) w))), (9, .int (iI (((w : Nat) : Int)))), (6, .int (iI (ansU st a o vec b))), (7, .int (iI (((b : Nat) : Int)))), (5, .int (iI (v2))), (0, .ref (ad 0)), (1, .int (iI (a))), (2, .long (lN vec)), (4, .int (iI (o)))] → W p l e (headSpec wsX6_answerOf { frames := 1, cells := 0, slots := 0, locals := 24 }).room s m (#[.ref (ad 0), .int (iI (a)), .long (lN vec), .int (iI (o))] : Array Value) below meth c H locs 0 0 (MQ below (va_Qi (fun (r : Int32) (st' : St) => r = iI (ansU st a o vec 8) ∧ st' = st) (gP D cy ad n) (gA n ad s.heap.size)) (#[.ref (ad 0), .int (iI (a)), .long (lN vec), .int (iI (o))] : Array Value) s 0 0 (gA n ad s.heap.size)) (F0 m 27 ls []) := by
          intro N
          induction N with
          | zero => intro  w H locs ls hm; exact absurd hm (Nat.not_lt_zero _)
          | succ N ih27 =>
            intro  w H locs ls hm hw4 hG hl
            refine lv_iload hx hb dX6_answerOf_27 (lv_at hl 1 rfl) ?_
            refine lv_iconst (v := iI (4)) hx hb dX6_answerOf_29 rfl ?_
            refine r_icmp_ge (tgt := 175) hx hb (by omega) dX6_answerOf_30 (by decide) (fun c4 => ?_) (fun c4 => ?_)
            · skip
              refine lv_iload hx hb dX6_answerOf_175 (lv_at hl 2 rfl) ?_
              refine lv_iload hx hb dX6_answerOf_177 (lv_at hl 0 rfl) ?_
              refine lv_iload hx hb dX6_answerOf_179 (lv_at hl 3 rfl) ?_
              refine r_as (y := ((b : Nat) : Int)) (by rfl) ?_
              refine r_ishl hx hb (by omega) dX6_answerOf_181 ?_
              refine r_nm (fun v5 ev5 => ?_)
              refine r_iadd hx hb dX6_answerOf_182 ?_
              refine r_nm (fun v6 ev6 => ?_)
              refine lv_istore (lv' := [(6, .int (iI (v6))), (8, .int (iI (sumN (tW st a o vec b) w))), (9, .int (iI (((w : Nat) : Int)))), (7, .int (iI (((b : Nat) : Int)))), (5, .int (iI (v2))), (0, .ref (ad 0)), (1, .int (iI (a))), (2, .long (lN vec)), (4, .int (iI (o)))]) hx hb dX6_answerOf_183 hl (by decide) rfl (fun ls hl => ?_)
              obtain ⟨v7, ev7⟩ : ∃ y9 : Int, y9 = ((b : Nat) : Int) + (1) := ⟨_, rfl⟩
              refine lv_iinc (v := iI v7) (lv' := [(7, .int (iI (v7))), (6, .int (iI (v6))), (8, .int (iI (sumN (tW st a o vec b) w))), (9, .int (iI (((w : Nat) : Int)))), (5, .int (iI (v2))), (0, .ref (ad 0)), (1, .int (iI (a))), (2, .long (lN vec)), (4, .int (iI (o)))]) hx hb dX6_answerOf_185 hl (k := 3) rfl (by rw [ev7]; exact iI_add _ _) (by decide) rfl (fun ls hl => ?_)
              refine lv_goto (tgt := 14) hx hb dX6_answerOf_188 (by decide) ?_
              rw [show (v6 : Int) = ansU st a o vec (b + 1) from by (obtain rfl : w = 4 := (by omega); rw [ansU_s]; subst_vars; rfl)] at hl
              rw [show (v7 : Int) = (((b + 1) : Nat) : Int) from by omega] at hl
              exact ih14  (b + 1) _ _ _ (by omega) (by omega) hG (lv_sub hl [1, 0, 4, 5, 6, 7, 8] rfl)
            · skip
              refine lv_iconst (v := iI (4)) hx hb dX6_answerOf_33 rfl ?_
              refine lv_iload hx hb dX6_answerOf_34 (lv_at hl 8 rfl) ?_
              refine r_imul hx hb dX6_answerOf_36 ?_
              refine r_nm (fun v8 ev8 => ?_)
              refine lv_iload hx hb dX6_answerOf_37 (lv_at hl 1 rfl) ?_
              refine r_iadd hx hb dX6_answerOf_39 ?_
              refine r_nm (fun v9 ev9 => ?_)
              refine lv_istore (lv' := [(10, .int (iI (v9))), (8, .int (iI (sumN (tW st a o vec b) w))), (9, .int (iI (((w : Nat) : Int)))), (6, .int (iI (ansU st a o vec b))), (7, .int (iI (((b : Nat) : Int)))), (5, .int (iI (v2))), (0, .ref (ad 0)), (1, .int (iI (a))), (2, .long (lN vec)), (4, .int (iI (o)))]) hx hb dX6_answerOf_40 hl (by decide) rfl (fun ls hl => ?_)
              refine lv_iconst (v := iI (0)) hx hb dX6_answerOf_42 rfl ?_
              refine lv_istore (lv' := [(11, .int (iI (0))), (10, .int (iI (v9))), (8, .int (iI (sumN (tW st a o vec b) w))), (9, .int (iI (((w : Nat) : Int)))), (6, .int (iI (ansU st a o vec b))), (7, .int (iI (((b : Nat) : Int)))), (5, .int (iI (v2))), (0, .ref (ad 0)), (1, .int (iI (a))), (2, .long (lN vec)), (4, .int (iI (o)))]) hx hb dX6_answerOf_43 hl (by decide) rfl (fun ls hl => ?_)
              refine lv_iconst (v := iI (0)) hx hb dX6_answerOf_45 rfl ?_
              refine lv_istore (lv' := [(12, .int (iI (0))), (11, .int (iI (0))), (10, .int (iI (v9))), (8, .int (iI (sumN (tW st a o vec b) w))), (9, .int (iI (((w : Nat) : Int)))), (6, .int (iI (ansU st a o vec b))), (7, .int (iI (((b : Nat) : Int)))), (5, .int (iI (v2))), (0, .ref (ad 0)), (1, .int (iI (a))), (2, .long (lN vec)), (4, .int (iI (o)))]) hx hb dX6_answerOf_46 hl (by decide) rfl (fun ls hl => ?_)
              have hloop48 : ∀ (N : Nat)  (k : Nat) (H : Heap) (locs : List Loc) (ls : Array Slot), 8 - k < N → ((k : Int) ≤ st 15 0 a) →  GH D cy ad n st (gA n ad s.heap.size) s.heap H locs → lv_has ls 14 [(11, .int (iI (curU st a (4 * o + ((w : Nat) : Int)) vec b k))), (12, .int (iI (((k : Nat) : Int)))), (10, .int (iI (v9))), (8, .int (iI (sumN (tW st a o vec b) w))), (9, .int (iI (((w : Nat) : Int)))), (6, .int (iI (ansU st a o vec b))), (7, .int (iI (((b : Nat) : Int)))), (5, .int (iI (v2))), (0, .ref (ad 0)), (1, .int (iI (a))), (2, .long (lN vec)), (4, .int (iI (o)))] → W p l e (headSpec wsX6_answerOf { frames := 1, cells := 0, slots := 0, locals := 24 }).room s m (#[.ref (ad 0), .int (iI (a)), .long (lN vec), .int (iI (o))] : Array Value) below meth c H locs 0 0 (MQ below (va_Qi (fun (r : Int32) (st' : St) => r = iI (ansU st a o vec 8) ∧ st' = st) (gP D cy ad n) (gA n ad s.heap.size)) (#[.ref (ad 0), .int (iI (a)), .long (lN vec), .int (iI (o))] : Array Value) s 0 0 (gA n ad s.heap.size)) (F0 m 48 ls []) := by
                intro N
                induction N with
                | zero => intro  k H locs ls hm; exact absurd hm (Nat.not_lt_zero _)
                | succ N ih48 =>
                  intro  k H locs ls hm hk hG hl
                  have hcr := curU_r hI hsi a (4 * o + ((w : Nat) : Int)) vec b k
                  refine lv_iload hx hb dX6_answerOf_48 (lv_at hl 1 rfl) ?_
                  refine lv_aload_n hx hb dX6_answerOf_50 rfl (lv_at hl 8 rfl) ?_
                  refine g_get hx hb hts hin6 hown hK hG (key := 0) (by omega) (gC_0 st ad cy) rfl 15 (by decide) L_45 (fun _ h9 => h9) rfl dX6_answerOf_51 ?_
                  refine lv_iload_n hx hb dX6_answerOf_54 rfl (lv_at hl 9 rfl) ?_
                  refine g_iald hx hb hK hG (11) (kd := 11) (o := 0) rfl rfl (by omega) (cp := 15) (ln := 6) rfl rfl (by omega) dX6_answerOf_55 ?_
                  have hr10 := gI_15 hI (0) (a)
                  refine r_nm (fun v11 ev11 => ?_)
                  rw [← ev11] at hr10
                  refine r_icmp_ge (tgt := 124) hx hb (by omega) dX6_answerOf_56 (by decide) (fun c12 => ?_) (fun c12 => ?_)
                  · skip
                    refine lv_aload_n hx hb dX6_answerOf_124 rfl (lv_at hl 8 rfl) ?_
                    refine lv_iload hx hb dX6_answerOf_125 (lv_at hl 7 rfl) ?_
                    refine lv_iload hx hb dX6_answerOf_127 (lv_at hl 2 rfl) ?_
                    refine lv_iload hx hb dX6_answerOf_129 (lv_at hl 0 rfl) ?_
                    refine g_goi hG hA (va_runV (As := [.int (iI (v2)), .int (iI (v9)), .int (iI (curU st a (4 * o + ((w : Nat) : Int)) vec b k))]) (rest := []) ⟨hx, hb, hml, hown, hts⟩ (mX6_reads l D cy ad n st _ fz wb hn hI (by omega) (v2) (v9) (curU st a (4 * o + ((w : Nat) : Int)) vec b k) (by omega) (by omega) (by omega)) (cwV 3 hts gX6_answerOf_X6_reads rfl rfl rfl (by decide +kernel) ⟨Nat.le_of_ble_eq_true rfl, Nat.le_of_ble_eq_true rfl⟩) ⟨g_blind, va_recv hK hG.1 (q0 := 0) (ci := 6) rfl ((gw_at (by omega)).trans (by rw [gC_0 st ad cy])), g_pre hK hG hA hN hZ⟩ rfl rfl hl.1 rfl (lv_room (Nat.le_of_ble_eq_true rfl)) dX6_answerOf_131 ⟨Nat.zero_le _, Nat.zero_le _⟩) (fun r9 s9 H locs hp hG => ?_)
                    obtain ⟨rfl, hs9⟩ := hp
                    rw [hs9] at hG
                    clear hs9
                    refine r_nm (fun v13 ev13 => ?_)
                    have hr14 := readV_q hI (v2) (v9) (curU st a (4 * o + ((w : Nat) : Int)) vec b k)
                    rw [← ev13] at hr14
                    refine lv_iload hx hb dX6_answerOf_134 (lv_at hl 4 rfl) ?_
                    refine lv_iconst (v := iI (2)) hx hb dX6_answerOf_136 rfl ?_
                    refine r_irem hx hb (by omega) dX6_answerOf_137 ?_
                    refine r_nm (fun v15 ev15 => ?_)
                    refine r_if_ne (tgt := 145) hx hb (by omega) dX6_answerOf_138 (by decide) (fun c16 => ?_) (fun c16 => ?_)
                    · skip
                      refine lv_bipush (v := iI (16)) hx hb dX6_answerOf_145 (by decide +kernel) ?_
                      refine r_imul hx hb dX6_answerOf_147 ?_
                      refine r_nm (fun v17 ev17 => ?_)
                      refine lv_istore (lv' := [(12, .int (iI (v17))), (11, .int (iI (curU st a (4 * o + ((w : Nat) : Int)) vec b k))), (10, .int (iI (v9))), (8, .int (iI (sumN (tW st a o vec b) w))), (9, .int (iI (((w : Nat) : Int)))), (6, .int (iI (ansU st a o vec b))), (7, .int (iI (((b : Nat) : Int)))), (5, .int (iI (v2))), (0, .ref (ad 0)), (1, .int (iI (a))), (2, .long (lN vec)), (4, .int (iI (o)))]) hx hb dX6_answerOf_148 hl (by decide) rfl (fun ls hl => ?_)
                      refine lv_iload hx hb dX6_answerOf_150 (lv_at hl 3 rfl) ?_
                      refine lv_iload hx hb dX6_answerOf_152 (lv_at hl 4 rfl) ?_
                      refine lv_iconst (v := iI (2)) hx hb dX6_answerOf_154 rfl ?_
                      refine r_icmp_ge (tgt := 163) hx hb (by omega) dX6_answerOf_155 (by decide) (fun c18 => ?_) (fun c18 => ?_)
                      · skip
                        refine lv_iload hx hb dX6_answerOf_163 (lv_at hl 0 rfl) ?_
                        refine r_ineg hx hb dX6_answerOf_165 ?_
                        refine r_nm (fun v19 ev19 => ?_)
                        refine r_iadd hx hb dX6_answerOf_166 ?_
                        refine r_nm (fun v20 ev20 => ?_)
                        refine lv_istore (lv' := [(8, .int (iI (v20))), (12, .int (iI (v17))), (11, .int (iI (curU st a (4 * o + ((w : Nat) : Int)) vec b k))), (10, .int (iI (v9))), (9, .int (iI (((w : Nat) : Int)))), (6, .int (iI (ansU st a o vec b))), (7, .int (iI (((b : Nat) : Int)))), (5, .int (iI (v2))), (0, .ref (ad 0)), (1, .int (iI (a))), (2, .long (lN vec)), (4, .int (iI (o)))]) hx hb dX6_answerOf_167 hl (by decide) rfl (fun ls hl => ?_)
                        obtain ⟨v21, ev21⟩ : ∃ y9 : Int, y9 = ((w : Nat) : Int) + (1) := ⟨_, rfl⟩
                        refine lv_iinc (v := iI v21) (lv' := [(9, .int (iI (v21))), (8, .int (iI (v20))), (12, .int (iI (v17))), (11, .int (iI (curU st a (4 * o + ((w : Nat) : Int)) vec b k))), (10, .int (iI (v9))), (6, .int (iI (ansU st a o vec b))), (7, .int (iI (((b : Nat) : Int)))), (5, .int (iI (v2))), (0, .ref (ad 0)), (1, .int (iI (a))), (2, .long (lN vec)), (4, .int (iI (o)))]) hx hb dX6_answerOf_169 hl (k := 4) rfl (by rw [ev21]; exact iI_add _ _) (by decide) rfl (fun ls hl => ?_)
                        refine lv_goto (tgt := 27) hx hb dX6_answerOf_172 (by decide) ?_
                        rw [show (v20 : Int) = sumN (tW st a o vec b) (w + 1) from by (rw [sumN_s, tW_e (k := k) (by omega)]; first | (rw [if_pos (by omega), if_pos (by omega)]; subst_vars; rfl) | (rw [if_pos (by omega), if_neg (by omega)]; subst_vars; rfl) | (rw [if_neg (by omega), if_pos (by omega)]; subst_vars; rfl) | (rw [if_neg (by omega), if_neg (by omega)]; subst_vars; rfl))] at hl
                        rw [show (v21 : Int) = (((w + 1) : Nat) : Int) from by omega] at hl
                        exact ih27  (w + 1) _ _ _ (by omega) (by omega) hG (lv_sub hl [1, 0, 5, 6, 7, 8, 9, 10, 11] rfl)
                      · skip
                        refine lv_iload hx hb dX6_answerOf_158 (lv_at hl 0 rfl) ?_
                        refine lv_goto (tgt := 166) hx hb dX6_answerOf_160 (by decide) ?_
                        refine r_iadd hx hb dX6_answerOf_166 ?_
                        refine r_nm (fun v22 ev22 => ?_)
                        refine lv_istore (lv' := [(8, .int (iI (v22))), (12, .int (iI (v17))), (11, .int (iI (curU st a (4 * o + ((w : Nat) : Int)) vec b k))), (10, .int (iI (v9))), (9, .int (iI (((w : Nat) : Int)))), (6, .int (iI (ansU st a o vec b))), (7, .int (iI (((b : Nat) : Int)))), (5, .int (iI (v2))), (0, .ref (ad 0)), (1, .int (iI (a))), (2, .long (lN vec)), (4, .int (iI (o)))]) hx hb dX6_answerOf_167 hl (by decide) rfl (fun ls hl => ?_)
                        obtain ⟨v23, ev23⟩ : ∃ y9 : Int, y9 = ((w : Nat) : Int) + (1) := ⟨_, rfl⟩
                        refine lv_iinc (v := iI v23) (lv' := [(9, .int (iI (v23))), (8, .int (iI (v22))), (12, .int (iI (v17))), (11, .int (iI (curU st a (4 * o + ((w : Nat) : Int)) vec b k))), (10, .int (iI (v9))), (6, .int (iI (ansU st a o vec b))), (7, .int (iI (((b : Nat) : Int)))), (5, .int (iI (v2))), (0, .ref (ad 0)), (1, .int (iI (a))), (2, .long (lN vec)), (4, .int (iI (o)))]) hx hb dX6_answerOf_169 hl (k := 4) rfl (by rw [ev23]; exact iI_add _ _) (by decide) rfl (fun ls hl => ?_)
                        refine lv_goto (tgt := 27) hx hb dX6_answerOf_172 (by decide) ?_
                        rw [show (v22 : Int) = sumN (tW st a o vec b) (w + 1) from by (rw [sumN_s, tW_e (k := k) (by omega)]; first | (rw [if_pos (by omega), if_pos (by omega)]; subst_vars; rfl) | (rw [if_pos (by omega), if_neg (by omega)]; subst_vars; rfl) | (rw [if_neg (by omega), if_pos (by omega)]; subst_vars; rfl) | (rw [if_neg (by omega), if_neg (by omega)]; subst_vars; rfl))] at hl
                        rw [show (v23 : Int) = (((w + 1) : Nat) : Int) from by omega] at hl
                        exact ih27  (w + 1) _ _ _ (by omega) (by omega) hG (lv_sub hl [1, 0, 5, 6, 7, 8, 9, 10, 11] rfl)
                    · skip
                      refine lv_iconst (v := iI (1)) hx hb dX6_answerOf_141 rfl ?_
                      refine lv_goto (tgt := 147) hx hb dX6_answerOf_142 (by decide) ?_
                      refine r_imul hx hb dX6_answerOf_147 ?_
                      refine r_nm (fun v24 ev24 => ?_)
                      refine lv_istore (lv' := [(12, .int (iI (v24))), (11, .int (iI (curU st a (4 * o + ((w : Nat) : Int)) vec b k))), (10, .int (iI (v9))), (8, .int (iI (sumN (tW st a o vec b) w))), (9, .int (iI (((w : Nat) : Int)))), (6, .int (iI (ansU st a o vec b))), (7, .int (iI (((b : Nat) : Int)))), (5, .int (iI (v2))), (0, .ref (ad 0)), (1, .int (iI (a))), (2, .long (lN vec)), (4, .int (iI (o)))]) hx hb dX6_answerOf_148 hl (by decide) rfl (fun ls hl => ?_)
                      refine lv_iload hx hb dX6_answerOf_150 (lv_at hl 3 rfl) ?_
                      refine lv_iload hx hb dX6_answerOf_152 (lv_at hl 4 rfl) ?_
                      refine lv_iconst (v := iI (2)) hx hb dX6_answerOf_154 rfl ?_
                      refine r_icmp_ge (tgt := 163) hx hb (by omega) dX6_answerOf_155 (by decide) (fun c25 => ?_) (fun c25 => ?_)
                      · skip
                        refine lv_iload hx hb dX6_answerOf_163 (lv_at hl 0 rfl) ?_
                        refine r_ineg hx hb dX6_answerOf_165 ?_
                        refine r_nm (fun v26 ev26 => ?_)
                        refine r_iadd hx hb dX6_answerOf_166 ?_
                        refine r_nm (fun v27 ev27 => ?_)
                        refine lv_istore (lv' := [(8, .int (iI (v27))), (12, .int (iI (v24))), (11, .int (iI (curU st a (4 * o + ((w : Nat) : Int)) vec b k))), (10, .int (iI (v9))), (9, .int (iI (((w : Nat) : Int)))), (6, .int (iI (ansU st a o vec b))), (7, .int (iI (((b : Nat) : Int)))), (5, .int (iI (v2))), (0, .ref (ad 0)), (1, .int (iI (a))), (2, .long (lN vec)), (4, .int (iI (o)))]) hx hb dX6_answerOf_167 hl (by decide) rfl (fun ls hl => ?_)
                        obtain ⟨v28, ev28⟩ : ∃ y9 : Int, y9 = ((w : Nat) : Int) + (1) := ⟨_, rfl⟩
                        refine lv_iinc (v := iI v28) (lv' := [(9, .int (iI (v28))), (8, .int (iI (v27))), (12, .int (iI (v24))), (11, .int (iI (curU st a (4 * o + ((w : Nat) : Int)) vec b k))), (10, .int (iI (v9))), (6, .int (iI (ansU st a o vec b))), (7, .int (iI (((b : Nat) : Int)))), (5, .int (iI (v2))), (0, .ref (ad 0)), (1, .int (iI (a))), (2, .long (lN vec)), (4, .int (iI (o)))]) hx hb dX6_answerOf_169 hl (k := 4) rfl (by rw [ev28]; exact iI_add _ _) (by decide) rfl (fun ls hl => ?_)
                        refine lv_goto (tgt := 27) hx hb dX6_answerOf_172 (by decide) ?_
                        rw [show (v27 : Int) = sumN (tW st a o vec b) (w + 1) from by (rw [sumN_s, tW_e (k := k) (by omega)]; first | (rw [if_pos (by omega), if_pos (by omega)]; subst_vars; rfl) | (rw [if_pos (by omega), if_neg (by omega)]; subst_vars; rfl) | (rw [if_neg (by omega), if_pos (by omega)]; subst_vars; rfl) | (rw [if_neg (by omega), if_neg (by omega)]; subst_vars; rfl))] at hl
                        rw [show (v28 : Int) = (((w + 1) : Nat) : Int) from by omega] at hl
                        exact ih27  (w + 1) _ _ _ (by omega) (by omega) hG (lv_sub hl [1, 0, 5, 6, 7, 8, 9, 10, 11] rfl)
                      · skip
                        refine lv_iload hx hb dX6_answerOf_158 (lv_at hl 0 rfl) ?_
                        refine lv_goto (tgt := 166) hx hb dX6_answerOf_160 (by decide) ?_
                        refine r_iadd hx hb dX6_answerOf_166 ?_
                        refine r_nm (fun v29 ev29 => ?_)
                        refine lv_istore (lv' := [(8, .int (iI (v29))), (12, .int (iI (v24))), (11, .int (iI (curU st a (4 * o + ((w : Nat) : Int)) vec b k))), (10, .int (iI (v9))), (9, .int (iI (((w : Nat) : Int)))), (6, .int (iI (ansU st a o vec b))), (7, .int (iI (((b : Nat) : Int)))), (5, .int (iI (v2))), (0, .ref (ad 0)), (1, .int (iI (a))), (2, .long (lN vec)), (4, .int (iI (o)))]) hx hb dX6_answerOf_167 hl (by decide) rfl (fun ls hl => ?_)
                        obtain ⟨v30, ev30⟩ : ∃ y9 : Int, y9 = ((w : Nat) : Int) + (1) := ⟨_, rfl⟩
                        refine lv_iinc (v := iI v30) (lv' := [(9, .int (iI (v30))), (8, .int (iI (v29))), (12, .int (iI (v24))), (11, .int (iI (curU st a (4 * o + ((w : Nat) : Int)) vec b k))), (10, .int (iI (v9))), (6, .int (iI (ansU st a o vec b))), (7, .int (iI (((b : Nat) : Int)))), (5, .int (iI (v2))), (0, .ref (ad 0)), (1, .int (iI (a))), (2, .long (lN vec)), (4, .int (iI (o)))]) hx hb dX6_answerOf_169 hl (k := 4) rfl (by rw [ev30]; exact iI_add _ _) (by decide) rfl (fun ls hl => ?_)
                        refine lv_goto (tgt := 27) hx hb dX6_answerOf_172 (by decide) ?_
                        rw [show (v29 : Int) = sumN (tW st a o vec b) (w + 1) from by (rw [sumN_s, tW_e (k := k) (by omega)]; first | (rw [if_pos (by omega), if_pos (by omega)]; subst_vars; rfl) | (rw [if_pos (by omega), if_neg (by omega)]; subst_vars; rfl) | (rw [if_neg (by omega), if_pos (by omega)]; subst_vars; rfl) | (rw [if_neg (by omega), if_neg (by omega)]; subst_vars; rfl))] at hl
                        rw [show (v30 : Int) = (((w + 1) : Nat) : Int) from by omega] at hl
                        exact ih27  (w + 1) _ _ _ (by omega) (by omega) hG (lv_sub hl [1, 0, 5, 6, 7, 8, 9, 10, 11] rfl)
                  · skip
                    refine lv_lload_n hx hb dX6_answerOf_59 rfl (lv_at hl 10 rfl) ?_
                    refine lv_iload hx hb dX6_answerOf_60 (lv_at hl 1 rfl) ?_
                    refine g_goi hG hA (va_runS (As := [.long (lN vec), .int (iI (((k : Nat) : Int)))]) (rest := []) ⟨hx, hb, hml, hown, hts⟩ (mX6_inputOf l D cy ad n st _ fz wb hn hI (by omega) vec (k) (by omega) (by omega)) (va_cwS 2 hts gX6_answerOf_X6_inputOf rfl rfl rfl (by decide +kernel) ⟨Nat.le_of_ble_eq_true rfl, Nat.le_of_ble_eq_true rfl⟩) ⟨g_blind, g_pre hK hG hA hN hZ⟩ rfl rfl hl.1 rfl (lv_room (Nat.le_of_ble_eq_true rfl)) dX6_answerOf_62 ⟨Nat.zero_le _, Nat.zero_le _⟩) (fun r9 s9 H locs hp hG => ?_)
                    obtain ⟨rfl, hs9⟩ := hp
                    rw [hs9] at hG
                    clear hs9
                    refine r_nm (fun v31 ev31 => ?_)
                    have hr32 := inpF_r vec (k)
                    rw [← ev31] at hr32
                    refine lv_iload hx hb dX6_answerOf_65 (lv_at hl 6 rfl) ?_
                    refine r_as (y := ((b : Nat) : Int)) (by rfl) ?_
                    refine r_ishr hx hb (by omega) (by omega) dX6_answerOf_67 ?_
                    refine r_nm (fun v33 ev33 => ?_)
                    have hsh9 : inpF vec k / 2 ^ b = v33 := by subst_vars; rfl
                    refine lv_iconst (v := iI (1)) hx hb dX6_answerOf_68 rfl ?_
                    refine r_iand 1 hx hb (by decide) (by decide) dX6_answerOf_69 ?_
                    refine r_nm (fun v34 ev34 => ?_)
                    have hbt : bitI vec k b = v34 := by rw [bitI_s, hsh9]; omega
                    refine lv_iconst (v := iI (1)) hx hb dX6_answerOf_70 rfl ?_
                    refine r_icmp_ne (tgt := 78) hx hb (by omega) dX6_answerOf_71 (by decide) (fun c35 => ?_) (fun c35 => ?_)
                    · skip
                      refine lv_iconst (v := iI (0)) hx hb dX6_answerOf_78 rfl ?_
                      refine lv_istore (lv' := [(13, .int (iI (0))), (11, .int (iI (curU st a (4 * o + ((w : Nat) : Int)) vec b k))), (12, .int (iI (((k : Nat) : Int)))), (10, .int (iI (v9))), (8, .int (iI (sumN (tW st a o vec b) w))), (9, .int (iI (((w : Nat) : Int)))), (6, .int (iI (ansU st a o vec b))), (7, .int (iI (((b : Nat) : Int)))), (5, .int (iI (v2))), (0, .ref (ad 0)), (1, .int (iI (a))), (2, .long (lN vec)), (4, .int (iI (o)))]) hx hb dX6_answerOf_79 hl (by decide) rfl (fun ls hl => ?_)
                      refine lv_iload hx hb dX6_answerOf_81 (lv_at hl 1 rfl) ?_
                      refine lv_iload hx hb dX6_answerOf_83 (lv_at hl 0 rfl) ?_
                      refine r_if_eq (tgt := 114) hx hb (by omega) dX6_answerOf_85 (by decide) (fun c36 => ?_) (fun c36 => ?_)
                      · skip
                        refine lv_iconst (v := iI (0)) hx hb dX6_answerOf_114 rfl ?_
                        refine r_iadd hx hb dX6_answerOf_115 ?_
                        refine r_nm (fun v37 ev37 => ?_)
                        refine lv_istore (lv' := [(11, .int (iI (v37))), (13, .int (iI (0))), (12, .int (iI (((k : Nat) : Int)))), (10, .int (iI (v9))), (8, .int (iI (sumN (tW st a o vec b) w))), (9, .int (iI (((w : Nat) : Int)))), (6, .int (iI (ansU st a o vec b))), (7, .int (iI (((b : Nat) : Int)))), (5, .int (iI (v2))), (0, .ref (ad 0)), (1, .int (iI (a))), (2, .long (lN vec)), (4, .int (iI (o)))]) hx hb dX6_answerOf_116 hl (by decide) rfl (fun ls hl => ?_)
                        obtain ⟨v38, ev38⟩ : ∃ y9 : Int, y9 = ((k : Nat) : Int) + (1) := ⟨_, rfl⟩
                        refine lv_iinc (v := iI v38) (lv' := [(12, .int (iI (v38))), (11, .int (iI (v37))), (13, .int (iI (0))), (10, .int (iI (v9))), (8, .int (iI (sumN (tW st a o vec b) w))), (9, .int (iI (((w : Nat) : Int)))), (6, .int (iI (ansU st a o vec b))), (7, .int (iI (((b : Nat) : Int)))), (5, .int (iI (v2))), (0, .ref (ad 0)), (1, .int (iI (a))), (2, .long (lN vec)), (4, .int (iI (o)))]) hx hb dX6_answerOf_118 hl (k := 2) rfl (by rw [ev38]; exact iI_add _ _) (by decide) rfl (fun ls hl => ?_)
                        refine lv_goto (tgt := 48) hx hb dX6_answerOf_121 (by decide) ?_
                        rw [show (v37 : Int) = curU st a (4 * o + ((w : Nat) : Int)) vec b (k + 1) from by (rw [curU_s]; first | (rw [if_pos (by omega)]; subst_vars; rfl) | (rw [if_neg (by omega)]; omega))] at hl
                        rw [show (v38 : Int) = (((k + 1) : Nat) : Int) from by omega] at hl
                        exact ih48  (k + 1) _ _ _ (by omega) (by omega) hG (lv_sub hl [1, 0, 3, 4, 5, 6, 7, 8, 9, 10, 11, 12] rfl)
                      · skip
                        refine lv_aload_n hx hb dX6_answerOf_88 rfl (lv_at hl 9 rfl) ?_
                        refine lv_iload hx hb dX6_answerOf_89 (lv_at hl 8 rfl) ?_
                        refine lv_aload_n hx hb dX6_answerOf_91 rfl (lv_at hl 9 rfl) ?_
                        refine g_get hx hb hts hin6 hown hK hG (key := 0) (by omega) (gC_0 st ad cy) rfl 21 (by decide) L_63 (fun _ h9 => h9) rfl dX6_answerOf_92 ?_
                        refine lv_bipush (v := iI (8)) hx hb dX6_answerOf_95 (by decide +kernel) ?_
                        refine lv_iload_n hx hb dX6_answerOf_97 rfl (lv_at hl 10 rfl) ?_
                        refine r_imul hx hb dX6_answerOf_98 ?_
                        refine r_nm (fun v39 ev39 => ?_)
                        refine lv_iload hx hb dX6_answerOf_99 (lv_at hl 2 rfl) ?_
                        refine r_iadd hx hb dX6_answerOf_101 ?_
                        refine r_nm (fun v40 ev40 => ?_)
                        refine g_iald hx hb hK hG (17) (kd := 17) (o := 0) rfl rfl (by omega) (cp := 21) (ln := 48) rfl rfl (by omega) dX6_answerOf_102 ?_
                        have hr41 := gI_21 hI (0) (v40)
                        refine r_nm (fun v42 ev42 => ?_)
                        rw [← ev42] at hr41
                        refine lv_iload hx hb dX6_answerOf_103 (lv_at hl 3 rfl) ?_
                        refine g_goi hG hA (va_runS (As := [.int (iI (v2)), .int (iI (v42)), .int (iI (v9))]) (rest := [.ref (ad 0), .int (iI (curU st a (4 * o + ((w : Nat) : Int)) vec b k))]) ⟨hx, hb, hml, hown, hts⟩ (mX6_cellAt l D cy ad n st _ fz wb hn hI (by omega) (v2) (v42) (v9) ) (va_cwS 3 hts gX6_answerOf_X6_cellAt rfl rfl rfl (by decide +kernel) ⟨Nat.le_of_ble_eq_true rfl, Nat.le_of_ble_eq_true rfl⟩) ⟨g_blind, g_pre hK hG hA hN hZ⟩ rfl rfl hl.1 rfl (lv_room (Nat.le_of_ble_eq_true rfl)) dX6_answerOf_105 ⟨Nat.zero_le _, Nat.zero_le _⟩) (fun r9 s9 H locs hp hG => ?_)
                        obtain ⟨rfl, hs9⟩ := hp
                        rw [hs9] at hG
                        clear hs9
                        refine r_nm (fun v43 ev43 => ?_)
                        have hq8 := hsi (v43)
                        refine g_goi hG hA (va_runV (As := [.int (iI (v43))]) (rest := [.int (iI (curU st a (4 * o + ((w : Nat) : Int)) vec b k))]) ⟨hx, hb, hml, hown, hts⟩ (mX6_conducts l D cy ad n st _ fz wb hn hI (by omega) (v43) (by omega) (by omega)) (cwV 1 hts gX6_answerOf_X6_conducts rfl rfl rfl (by decide +kernel) ⟨Nat.le_of_ble_eq_true rfl, Nat.le_of_ble_eq_true rfl⟩) ⟨g_blind, va_recv hK hG.1 (q0 := 0) (ci := 6) rfl ((gw_at (by omega)).trans (by rw [gC_0 st ad cy])), g_pre hK hG hA hN hZ⟩ rfl rfl hl.1 rfl (lv_room (Nat.le_of_ble_eq_true rfl)) dX6_answerOf_108 ⟨Nat.zero_le _, Nat.zero_le _⟩) (fun r9 s9 H locs hp hG => ?_)
                        obtain ⟨rfl, hs9⟩ := hp
                        rw [hs9] at hG
                        clear hs9
                        refine r_nm (fun v44 ev44 => ?_)
                        have hr45 := conM_r hI (v43) (by omega)
                        rw [← ev44] at hr45
                        refine lv_goto (tgt := 115) hx hb dX6_answerOf_111 (by decide) ?_
                        refine r_iadd hx hb dX6_answerOf_115 ?_
                        refine r_nm (fun v46 ev46 => ?_)
                        refine lv_istore (lv' := [(11, .int (iI (v46))), (13, .int (iI (0))), (12, .int (iI (((k : Nat) : Int)))), (10, .int (iI (v9))), (8, .int (iI (sumN (tW st a o vec b) w))), (9, .int (iI (((w : Nat) : Int)))), (6, .int (iI (ansU st a o vec b))), (7, .int (iI (((b : Nat) : Int)))), (5, .int (iI (v2))), (0, .ref (ad 0)), (1, .int (iI (a))), (2, .long (lN vec)), (4, .int (iI (o)))]) hx hb dX6_answerOf_116 hl (by decide) rfl (fun ls hl => ?_)
                        obtain ⟨v47, ev47⟩ : ∃ y9 : Int, y9 = ((k : Nat) : Int) + (1) := ⟨_, rfl⟩
                        refine lv_iinc (v := iI v47) (lv' := [(12, .int (iI (v47))), (11, .int (iI (v46))), (13, .int (iI (0))), (10, .int (iI (v9))), (8, .int (iI (sumN (tW st a o vec b) w))), (9, .int (iI (((w : Nat) : Int)))), (6, .int (iI (ansU st a o vec b))), (7, .int (iI (((b : Nat) : Int)))), (5, .int (iI (v2))), (0, .ref (ad 0)), (1, .int (iI (a))), (2, .long (lN vec)), (4, .int (iI (o)))]) hx hb dX6_answerOf_118 hl (k := 2) rfl (by rw [ev47]; exact iI_add _ _) (by decide) rfl (fun ls hl => ?_)
                        refine lv_goto (tgt := 48) hx hb dX6_answerOf_121 (by decide) ?_
                        rw [show (v46 : Int) = curU st a (4 * o + ((w : Nat) : Int)) vec b (k + 1) from by (rw [curU_s]; first | (rw [if_pos (by omega)]; subst_vars; rfl) | (rw [if_neg (by omega)]; omega))] at hl
                        rw [show (v47 : Int) = (((k + 1) : Nat) : Int) from by omega] at hl
                        exact ih48  (k + 1) _ _ _ (by omega) (by omega) hG (lv_sub hl [1, 0, 3, 4, 5, 6, 7, 8, 9, 10, 11, 12] rfl)
                    · skip
                      refine lv_iconst (v := iI (1)) hx hb dX6_answerOf_74 rfl ?_
                      refine lv_goto (tgt := 79) hx hb dX6_answerOf_75 (by decide) ?_
                      refine lv_istore (lv' := [(13, .int (iI (1))), (11, .int (iI (curU st a (4 * o + ((w : Nat) : Int)) vec b k))), (12, .int (iI (((k : Nat) : Int)))), (10, .int (iI (v9))), (8, .int (iI (sumN (tW st a o vec b) w))), (9, .int (iI (((w : Nat) : Int)))), (6, .int (iI (ansU st a o vec b))), (7, .int (iI (((b : Nat) : Int)))), (5, .int (iI (v2))), (0, .ref (ad 0)), (1, .int (iI (a))), (2, .long (lN vec)), (4, .int (iI (o)))]) hx hb dX6_answerOf_79 hl (by decide) rfl (fun ls hl => ?_)
                      refine lv_iload hx hb dX6_answerOf_81 (lv_at hl 1 rfl) ?_
                      refine lv_iload hx hb dX6_answerOf_83 (lv_at hl 0 rfl) ?_
                      refine r_if_eq (tgt := 114) hx hb (by omega) dX6_answerOf_85 (by decide) (fun c48 => ?_) (fun c48 => ?_)
                      · skip
                        refine lv_iconst (v := iI (0)) hx hb dX6_answerOf_114 rfl ?_
                        refine r_iadd hx hb dX6_answerOf_115 ?_
                        refine r_nm (fun v49 ev49 => ?_)
                        refine lv_istore (lv' := [(11, .int (iI (v49))), (13, .int (iI (1))), (12, .int (iI (((k : Nat) : Int)))), (10, .int (iI (v9))), (8, .int (iI (sumN (tW st a o vec b) w))), (9, .int (iI (((w : Nat) : Int)))), (6, .int (iI (ansU st a o vec b))), (7, .int (iI (((b : Nat) : Int)))), (5, .int (iI (v2))), (0, .ref (ad 0)), (1, .int (iI (a))), (2, .long (lN vec)), (4, .int (iI (o)))]) hx hb dX6_answerOf_116 hl (by decide) rfl (fun ls hl => ?_)
                        obtain ⟨v50, ev50⟩ : ∃ y9 : Int, y9 = ((k : Nat) : Int) + (1) := ⟨_, rfl⟩
                        refine lv_iinc (v := iI v50) (lv' := [(12, .int (iI (v50))), (11, .int (iI (v49))), (13, .int (iI (1))), (10, .int (iI (v9))), (8, .int (iI (sumN (tW st a o vec b) w))), (9, .int (iI (((w : Nat) : Int)))), (6, .int (iI (ansU st a o vec b))), (7, .int (iI (((b : Nat) : Int)))), (5, .int (iI (v2))), (0, .ref (ad 0)), (1, .int (iI (a))), (2, .long (lN vec)), (4, .int (iI (o)))]) hx hb dX6_answerOf_118 hl (k := 2) rfl (by rw [ev50]; exact iI_add _ _) (by decide) rfl (fun ls hl => ?_)
                        refine lv_goto (tgt := 48) hx hb dX6_answerOf_121 (by decide) ?_
                        rw [show (v49 : Int) = curU st a (4 * o + ((w : Nat) : Int)) vec b (k + 1) from by (rw [curU_s]; first | (rw [if_pos (by omega)]; subst_vars; rfl) | (rw [if_neg (by omega)]; omega))] at hl
                        rw [show (v50 : Int) = (((k + 1) : Nat) : Int) from by omega] at hl
                        exact ih48  (k + 1) _ _ _ (by omega) (by omega) hG (lv_sub hl [1, 0, 3, 4, 5, 6, 7, 8, 9, 10, 11, 12] rfl)
                      · skip
                        refine lv_aload_n hx hb dX6_answerOf_88 rfl (lv_at hl 9 rfl) ?_
                        refine lv_iload hx hb dX6_answerOf_89 (lv_at hl 8 rfl) ?_
                        refine lv_aload_n hx hb dX6_answerOf_91 rfl (lv_at hl 9 rfl) ?_
                        refine g_get hx hb hts hin6 hown hK hG (key := 0) (by omega) (gC_0 st ad cy) rfl 21 (by decide) L_63 (fun _ h9 => h9) rfl dX6_answerOf_92 ?_
                        refine lv_bipush (v := iI (8)) hx hb dX6_answerOf_95 (by decide +kernel) ?_
                        refine lv_iload_n hx hb dX6_answerOf_97 rfl (lv_at hl 10 rfl) ?_
                        refine r_imul hx hb dX6_answerOf_98 ?_
                        refine r_nm (fun v51 ev51 => ?_)
                        refine lv_iload hx hb dX6_answerOf_99 (lv_at hl 2 rfl) ?_
                        refine r_iadd hx hb dX6_answerOf_101 ?_
                        refine r_nm (fun v52 ev52 => ?_)
                        refine g_iald hx hb hK hG (17) (kd := 17) (o := 0) rfl rfl (by omega) (cp := 21) (ln := 48) rfl rfl (by omega) dX6_answerOf_102 ?_
                        have hr53 := gI_21 hI (0) (v52)
                        refine r_nm (fun v54 ev54 => ?_)
                        rw [← ev54] at hr53
                        refine lv_iload hx hb dX6_answerOf_103 (lv_at hl 3 rfl) ?_
                        refine g_goi hG hA (va_runS (As := [.int (iI (v2)), .int (iI (v54)), .int (iI (v9))]) (rest := [.ref (ad 0), .int (iI (curU st a (4 * o + ((w : Nat) : Int)) vec b k))]) ⟨hx, hb, hml, hown, hts⟩ (mX6_cellAt l D cy ad n st _ fz wb hn hI (by omega) (v2) (v54) (v9) ) (va_cwS 3 hts gX6_answerOf_X6_cellAt rfl rfl rfl (by decide +kernel) ⟨Nat.le_of_ble_eq_true rfl, Nat.le_of_ble_eq_true rfl⟩) ⟨g_blind, g_pre hK hG hA hN hZ⟩ rfl rfl hl.1 rfl (lv_room (Nat.le_of_ble_eq_true rfl)) dX6_answerOf_105 ⟨Nat.zero_le _, Nat.zero_le _⟩) (fun r9 s9 H locs hp hG => ?_)
                        obtain ⟨rfl, hs9⟩ := hp
                        rw [hs9] at hG
                        clear hs9
                        refine r_nm (fun v55 ev55 => ?_)
                        have hq8 := hsi (v55)
                        refine g_goi hG hA (va_runV (As := [.int (iI (v55))]) (rest := [.int (iI (curU st a (4 * o + ((w : Nat) : Int)) vec b k))]) ⟨hx, hb, hml, hown, hts⟩ (mX6_conducts l D cy ad n st _ fz wb hn hI (by omega) (v55) (by omega) (by omega)) (cwV 1 hts gX6_answerOf_X6_conducts rfl rfl rfl (by decide +kernel) ⟨Nat.le_of_ble_eq_true rfl, Nat.le_of_ble_eq_true rfl⟩) ⟨g_blind, va_recv hK hG.1 (q0 := 0) (ci := 6) rfl ((gw_at (by omega)).trans (by rw [gC_0 st ad cy])), g_pre hK hG hA hN hZ⟩ rfl rfl hl.1 rfl (lv_room (Nat.le_of_ble_eq_true rfl)) dX6_answerOf_108 ⟨Nat.zero_le _, Nat.zero_le _⟩) (fun r9 s9 H locs hp hG => ?_)
                        obtain ⟨rfl, hs9⟩ := hp
                        rw [hs9] at hG
                        clear hs9
                        refine r_nm (fun v56 ev56 => ?_)
                        have hr57 := conM_r hI (v55) (by omega)
                        rw [← ev56] at hr57
                        refine lv_goto (tgt := 115) hx hb dX6_answerOf_111 (by decide) ?_
                        refine r_iadd hx hb dX6_answerOf_115 ?_
                        refine r_nm (fun v58 ev58 => ?_)
                        refine lv_istore (lv' := [(11, .int (iI (v58))), (13, .int (iI (1))), (12, .int (iI (((k : Nat) : Int)))), (10, .int (iI (v9))), (8, .int (iI (sumN (tW st a o vec b) w))), (9, .int (iI (((w : Nat) : Int)))), (6, .int (iI (ansU st a o vec b))), (7, .int (iI (((b : Nat) : Int)))), (5, .int (iI (v2))), (0, .ref (ad 0)), (1, .int (iI (a))), (2, .long (lN vec)), (4, .int (iI (o)))]) hx hb dX6_answerOf_116 hl (by decide) rfl (fun ls hl => ?_)
                        obtain ⟨v59, ev59⟩ : ∃ y9 : Int, y9 = ((k : Nat) : Int) + (1) := ⟨_, rfl⟩
                        refine lv_iinc (v := iI v59) (lv' := [(12, .int (iI (v59))), (11, .int (iI (v58))), (13, .int (iI (1))), (10, .int (iI (v9))), (8, .int (iI (sumN (tW st a o vec b) w))), (9, .int (iI (((w : Nat) : Int)))), (6, .int (iI (ansU st a o vec b))), (7, .int (iI (((b : Nat) : Int)))), (5, .int (iI (v2))), (0, .ref (ad 0)), (1, .int (iI (a))), (2, .long (lN vec)), (4, .int (iI (o)))]) hx hb dX6_answerOf_118 hl (k := 2) rfl (by rw [ev59]; exact iI_add _ _) (by decide) rfl (fun ls hl => ?_)
                        refine lv_goto (tgt := 48) hx hb dX6_answerOf_121 (by decide) ?_
                        rw [show (v58 : Int) = curU st a (4 * o + ((w : Nat) : Int)) vec b (k + 1) from by (rw [curU_s]; first | (rw [if_pos (by omega)]; subst_vars; rfl) | (rw [if_neg (by omega)]; omega))] at hl
                        rw [show (v59 : Int) = (((k + 1) : Nat) : Int) from by omega] at hl
                        exact ih48  (k + 1) _ _ _ (by omega) (by omega) hG (lv_sub hl [1, 0, 3, 4, 5, 6, 7, 8, 9, 10, 11, 12] rfl)
              exact hloop48 _  (0) _ _ _ (Nat.lt_succ_self _) (by omega) hG (lv_sub hl [1, 0, 2, 3, 4, 5, 6, 7, 8, 9, 10, 11] rfl)
        exact hloop27 _  (0) _ _ _ (Nat.lt_succ_self _) (by omega) hG (lv_sub hl [1, 0, 2, 3, 4, 5, 6, 7, 8] rfl)
  exact hloop14 _  (0) _ _ _ (Nat.lt_succ_self _) (by omega) hG (lv_sub hl [1, 0, 2, 3, 4, 5, 6] rfl)
set_option maxHeartbeats 400000 in
set_option maxRecDepth 100000 in
theorem mX6_answer (l : Launch) (D : va_G) (cy : Nat → ClassId) (ad : Nat → Nat) (n : Nat) (st : St) (sz fz : Nat) (wb : Int) (hn : 75 ≤ n) (hI : GI wb st) (hW : wb ≤ 2000000) (a : Int) (vec : Nat) (o : Int) (ha : -2147483648 ≤ a ∧ a < 2147483648) (ho : -2147483648 ≤ o ∧ o < 2147483648) (hvec : vec < 2 ^ 64) (hsi : ∀ j : Int, st 6 0 j ≤ st 1 0 0) : Met l yX6_answer wsX6_answer ({ frames := 2, cells := 0, slots := 0, locals := 57 }) (va_Pc [.ref (ad 0), .int (iI (a)), .long (lN vec), .int (iI (o))] (gB D cy ad n st sz fz)) (va_Qi (fun (r : Int32) (st' : St) => r = iI (aAns st a o vec) ∧ st' = ust st 0 0 0 (kAns st a o) ∧ GI wb st') (gP D cy ad n) (gA n ad sz)) 0 0 (gA n ad sz) := by
  refine Met.ofW (cc := cX6_answer) (maxL := 5) (ret := (some .int)) (by decide) rfl ?_
  intro p e s m args below meth c s₁ B hml hv
  obtain ⟨rfl, hsz, hP, hK, hD0, hN, hZ⟩ := hv
  have hx := B.exec
  have hb := B.bytes
  have hr := B.returns
  have hts := atoms_spec (ws := wsX6_answer) B.pre
  have hown : s.vm.findClass RX6 = some m.cls := findClass_of_methodNamed B.named
  have hlocks := B.notSynchronized
  subst hsz
  have hA : ∀ q : Nat, s.heap.size ≤ q → gA n ad s.heap.size q := fun q h => Or.inr h
  have hG : GH D cy ad n st (gA n ad s.heap.size) s.heap s.heap [] := ⟨hP, gw_A hD0, va_S.rf⟩
  have hl := lv_entry ([.ref (ad 0), .int (iI (a)), .long (lN vec), .int (iI (o))]) (n := 5) (Nat.le_of_ble_eq_true rfl)
  rw [lg_entry_eq]
  generalize (lg_sl ([.ref (ad 0), .int (iI (a)), .long (lN vec), .int (iI (o))]) ++ List.replicate (5 - (lg_sl ([.ref (ad 0), .int (iI (a)), .long (lN vec), .int (iI (o))])).length) Slot.unset).toArray = ls at hl ⊢
  have hl : lv_has ls 5 [(0, .ref (ad 0)), (1, .int (iI (a))), (2, .long (lN vec)), (4, .int (iI (o)))] := hl
  have hin6 : ∀ w ∈ u_ws RX6 TX6 25, w ∈ wsX6_answer := by decide +kernel
  have L_48 := hts (.fieldLink RX6 48 "CrossbarryModel" "outputs" "[I") (by decide +kernel)
  have L_60 := hts (.fieldLink RX6 60 "CrossbarryModel" "tileAt" "[I") (by decide +kernel)
  have L_75 := hts (.fieldLink RX6 75 "CrossbarryModel" "thrown" "I") (by decide +kernel)
  have hmn := gI_14 hI 0 0
  have hw16 := gI_16 hI 0 a
  have hta := gI_20 hI 0 a
  refine lv_aload_n hx hb dX6_answer_0 rfl (lv_at hl 0 rfl) ?_
  have hlab45 : ∀ (t : Int) (H : Heap) (locs : List Loc) (ls : Array Slot), (t = kAns st a o) →  GH D cy ad n st (gA n ad s.heap.size) s.heap H locs → lv_has ls 5 [(0, .ref (ad 0)), (1, .int (iI (a))), (2, .long (lN vec)), (4, .int (iI (o)))] → W p l e (headSpec wsX6_answer { frames := 2, cells := 0, slots := 0, locals := 57 }).room s m (#[.ref (ad 0), .int (iI (a)), .long (lN vec), .int (iI (o))] : Array Value) below meth c H locs 0 0 (MQ below (va_Qi (fun (r : Int32) (st' : St) => r = iI (aAns st a o vec) ∧ st' = ust st 0 0 0 (kAns st a o) ∧ GI wb st') (gP D cy ad n) (gA n ad s.heap.size)) (#[.ref (ad 0), .int (iI (a)), .long (lN vec), .int (iI (o))] : Array Value) s 0 0 (gA n ad s.heap.size)) (F0 m 45 ls [.int (iI (t)), .ref (ad 0)]) := by
    intro t H locs ls ht hG hl
    have hks := kAns_s st a o
    refine g_put hx hb hts hin6 tyX6 tyX6_ok nmX6 hown hK hG (key := 0) (by omega) (gC_0 st ad cy) rfl 0 (by decide) L_75 (fun _ h9 => h9) rfl (ty := .int) (by decide +kernel) rfl rfl (Nat.le_of_ble_eq_true rfl) dX6_answer_45 (ust st 0 0 0 (t)) (fun j _ => gU_0 st ad cy (t) j) (fun H locs hG => ?_)
    obtain ⟨st1, hst1⟩ : ∃ z : St, z = ust st 0 (0) (0) (t) := ⟨_, rfl⟩
    rw [← hst1] at hG
    replace hI := hst1 ▸ gIu_0 hI (0) (0) (v := t) (by omega)
    refine lv_aload_n hx hb dX6_answer_48 rfl (lv_at hl 0 rfl) ?_
    refine g_get hx hb hts hin6 hown hK hG (key := 0) (by omega) (gC_0 st1 ad cy) rfl 0 (by decide) L_75 (fun _ h9 => h9) rfl dX6_answer_49 ?_
    have hr2 := gI_0 hI (0) (0)
    have kq3 : st1 0 (0) (0) = t := by rw [hst1, ust_s]
    rw [kq3] at hr2
    refine r_as kq3 ?_
    clear kq3
    refine r_if_le (tgt := 59) hx hb (by omega) dX6_answer_52 (by decide) (fun c4 => ?_) (fun c4 => ?_)
    · skip
      refine lv_aload_n hx hb dX6_answer_59 rfl (lv_at hl 0 rfl) ?_
      refine lv_iload_n hx hb dX6_answer_60 rfl (lv_at hl 1 rfl) ?_
      refine lv_lload_n hx hb dX6_answer_61 rfl (lv_at hl 2 rfl) ?_
      refine lv_iload hx hb dX6_answer_62 (lv_at hl 3 rfl) ?_
      refine g_goi hG hA (va_runV (As := [.int (iI (a)), .long (lN vec), .int (iI (o))]) (rest := []) ⟨hx, hb, hml, hown, hts⟩ (mX6_answerOf l D cy ad n st1 _ fz wb hn hI (by omega) (a) vec (o) (by omega) (by omega) (by omega) (by rw [hst1, ust_c (by decide)]; omega) (fun j => by rw [hst1, ust_c (by decide), ust_c (by decide)]; exact hsi j)) (cwV 3 hts gX6_answer_X6_answerOf rfl rfl rfl (by decide +kernel) ⟨Nat.le_of_ble_eq_true rfl, Nat.le_of_ble_eq_true rfl⟩) ⟨g_blind, va_recv hK hG.1 (q0 := 0) (ci := 6) rfl ((gw_at (by omega)).trans (by rw [gC_0 st1 ad cy])), g_pre hK hG hA hN hZ⟩ rfl rfl hl.1 rfl (lv_room (Nat.le_of_ble_eq_true rfl)) dX6_answer_64 ⟨Nat.zero_le _, Nat.zero_le _⟩) (fun r9 s9 H locs hp hG => ?_)
      obtain ⟨rfl, hs9⟩ := hp
      rw [hs9] at hG
      clear hs9
      refine r_nm (fun v5 ev5 => ?_)
      exact g_iret hx hb hr hlocks hG (by
        first
          | (refine ⟨?_, ?_, hI⟩
             · congr 1; unfold aAns; rw [if_neg (by omega)]
             · rw [← ht]; assumption)
          | (refine ⟨?_, ?_, hI⟩
             · congr 1; unfold aAns; rw [if_pos (by omega)]; subst_vars; rfl
             · rw [← ht]; assumption)) dX6_answer_67
    · skip
      refine lv_iconst (v := iI (0)) hx hb dX6_answer_55 rfl ?_
      refine lv_goto (tgt := 67) hx hb dX6_answer_56 (by decide) ?_
      exact g_iret hx hb hr hlocks hG (by
        first
          | (refine ⟨?_, ?_, hI⟩
             · congr 1; unfold aAns; rw [if_neg (by omega)]
             · rw [← ht]; assumption)
          | (refine ⟨?_, ?_, hI⟩
             · congr 1; unfold aAns; rw [if_pos (by omega)]; subst_vars; rfl
             · rw [← ht]; assumption)) dX6_answer_67
  refine lv_aload_n hx hb dX6_answer_1 rfl (lv_at hl 0 rfl) ?_
  refine lv_iload_n hx hb dX6_answer_2 rfl (lv_at hl 1 rfl) ?_
  refine g_goi hG hA (va_runV (As := [.int (iI (a))]) (rest := [.ref (ad 0)]) ⟨hx, hb, hml, hown, hts⟩ (mX6_isLayer l D cy ad n st _ fz wb hn hI (by omega) (a) (by omega)) (cwV 1 hts gX6_answer_X6_isLayer rfl rfl rfl (by decide +kernel) ⟨Nat.le_of_ble_eq_true rfl, Nat.le_of_ble_eq_true rfl⟩) ⟨g_blind, va_recv hK hG.1 (q0 := 0) (ci := 6) rfl ((gw_at (by omega)).trans (by rw [gC_0 st ad cy])), g_pre hK hG hA hN hZ⟩ rfl rfl hl.1 rfl (lv_room (Nat.le_of_ble_eq_true rfl)) dX6_answer_3 ⟨Nat.zero_le _, Nat.zero_le _⟩) (fun r9 s9 H locs hp hG => ?_)
  obtain ⟨rfl, hs9⟩ := hp
  rw [hs9] at hG
  clear hs9
  refine r_nm (fun v6 ev6 => ?_)
  have hr7 := inF_s (a) 0 (st 14 0 0 - 1)
  rw [← ev6] at hr7
  refine r_if_eq (tgt := 26) hx hb (by omega) dX6_answer_6 (by decide) (fun c8 => ?_) (fun c8 => ?_)
  · skip
    refine lv_iconst (v := iI (1)) hx hb dX6_answer_26 rfl ?_
    refine lv_goto (tgt := 45) hx hb dX6_answer_27 (by decide) ?_
    exact hlab45 (1)  _ _ _ (by have hks := kAns_s st a o; omega) hG (lv_sub hl [0, 1, 2, 3] rfl)
  · skip
    refine lv_iload hx hb dX6_answer_9 (lv_at hl 3 rfl) ?_
    refine lv_iconst (v := iI (0)) hx hb dX6_answer_11 rfl ?_
    refine lv_aload_n hx hb dX6_answer_12 rfl (lv_at hl 0 rfl) ?_
    refine g_get hx hb hts hin6 hown hK hG (key := 0) (by omega) (gC_0 st ad cy) rfl 16 (by decide) L_48 (fun _ h9 => h9) rfl dX6_answer_13 ?_
    refine lv_iload_n hx hb dX6_answer_16 rfl (lv_at hl 1 rfl) ?_
    refine g_iald hx hb hK hG (12) (kd := 12) (o := 0) rfl rfl (by omega) (cp := 16) (ln := 6) rfl rfl (by omega) dX6_answer_17 ?_
    have hr9 := gI_16 hI (0) (a)
    refine r_nm (fun v10 ev10 => ?_)
    rw [← ev10] at hr9
    refine lv_iconst (v := iI (1)) hx hb dX6_answer_18 rfl ?_
    refine r_isub hx hb dX6_answer_19 ?_
    refine r_nm (fun v11 ev11 => ?_)
    refine g_goi hG hA (va_runS (As := [.int (iI (o)), .int (iI (0)), .int (iI (v11))]) (rest := [.ref (ad 0)]) ⟨hx, hb, hml, hown, hts⟩ (mX6_in l D cy ad n st _ fz wb hn hI (by omega) (o) (0) (v11) (by omega) (by omega) (by omega)) (va_cwS 3 hts gX6_answer_X6_in rfl rfl rfl (by decide +kernel) ⟨Nat.le_of_ble_eq_true rfl, Nat.le_of_ble_eq_true rfl⟩) ⟨g_blind, g_pre hK hG hA hN hZ⟩ rfl rfl hl.1 rfl (lv_room (Nat.le_of_ble_eq_true rfl)) dX6_answer_20 ⟨Nat.zero_le _, Nat.zero_le _⟩) (fun r9 s9 H locs hp hG => ?_)
    obtain ⟨rfl, hs9⟩ := hp
    rw [hs9] at hG
    clear hs9
    refine r_nm (fun v12 ev12 => ?_)
    have hr13 := inF_s (o) (0) (v11)
    rw [← ev12] at hr13
    refine r_if_ne (tgt := 30) hx hb (by omega) dX6_answer_23 (by decide) (fun c14 => ?_) (fun c14 => ?_)
    · skip
      refine lv_aload_n hx hb dX6_answer_30 rfl (lv_at hl 0 rfl) ?_
      refine g_get hx hb hts hin6 hown hK hG (key := 0) (by omega) (gC_0 st ad cy) rfl 20 (by decide) L_60 (fun _ h9 => h9) rfl dX6_answer_31 ?_
      refine lv_iload_n hx hb dX6_answer_34 rfl (lv_at hl 1 rfl) ?_
      refine g_iald hx hb hK hG (16) (kd := 16) (o := 0) rfl rfl (by omega) (cp := 20) (ln := 6) rfl rfl (by omega) dX6_answer_35 ?_
      have hr15 := gI_20 hI (0) (a)
      refine r_nm (fun v16 ev16 => ?_)
      rw [← ev16] at hr15
      refine lv_iconst (v := iI (-1)) hx hb dX6_answer_36 rfl ?_
      refine r_icmp_ne (tgt := 44) hx hb (by omega) dX6_answer_37 (by decide) (fun c17 => ?_) (fun c17 => ?_)
      · skip
        refine lv_iconst (v := iI (0)) hx hb dX6_answer_44 rfl ?_
        exact hlab45 (0)  _ _ _ (by have hks := kAns_s st a o; omega) hG (lv_sub hl [0, 1, 2, 3] rfl)
      · skip
        refine lv_iconst (v := iI (2)) hx hb dX6_answer_40 rfl ?_
        refine lv_goto (tgt := 45) hx hb dX6_answer_41 (by decide) ?_
        exact hlab45 (2)  _ _ _ (by have hks := kAns_s st a o; omega) hG (lv_sub hl [0, 1, 2, 3] rfl)
    · skip
      refine lv_iconst (v := iI (1)) hx hb dX6_answer_26 rfl ?_
      refine lv_goto (tgt := 45) hx hb dX6_answer_27 (by decide) ?_
      exact hlab45 (1)  _ _ _ (by have hks := kAns_s st a o; omega) hG (lv_sub hl [0, 1, 2, 3] rfl)
