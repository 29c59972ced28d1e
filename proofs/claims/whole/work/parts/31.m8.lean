set_option maxHeartbeats 400000 in
set_option maxRecDepth 100000 in
theorem mX6_errorOf (l : Launch) (D : va_G) (cy : Nat → ClassId) (ad : Nat → Nat) (n : Nat) (st : St) (sz fz : Nat) (wb : Int) (hn : 75 ≤ n) (hI : GI wb st) (hW : wb ≤ 2000000) (a : Int) (o : Int) (q : Int) (g : Int) (ha : 0 ≤ a ∧ a < 6) (ho : 0 ≤ o ∧ o < 4) (hq : 0 ≤ q ∧ q < 4) (hg : g = 0 ∨ g = 1) (htl : 0 ≤ st 20 0 a) : Met l yX6_errorOf wsX6_errorOf ({ frames := 2, cells := 0, slots := 0, locals := 49 }) (va_Pc [.ref (ad 0), .int (iI (a)), .int (iI (o)), .int (iI (q)), .int (iI (g))] (gB D cy ad n st sz fz)) (va_Qi (fun (r : Int32) (st' : St) => r = iI (errF st a o q g) ∧ st' = st) (gP D cy ad n) (gA n ad sz)) 0 0 (gA n ad sz) := by
  refine Met.ofW (cc := cX6_errorOf) (maxL := 10) (ret := (some .int)) (by decide) rfl ?_
  intro p e s m args below meth c s₁ B hml hv
  obtain ⟨rfl, hsz, hP, hK, hD0, hN, hZ⟩ := hv
  have hx := B.exec
  have hb := B.bytes
  have hr := B.returns
  have hts := atoms_spec (ws := wsX6_errorOf) B.pre
  have hown : s.vm.findClass RX6 = some m.cls := findClass_of_methodNamed B.named
  have hlocks := B.notSynchronized
  subst hsz
  have hA : ∀ q : Nat, s.heap.size ≤ q → gA n ad s.heap.size q := fun q h => Or.inr h
  have hG : GH D cy ad n st (gA n ad s.heap.size) s.heap s.heap [] := ⟨hP, gw_A hD0, va_S.rf⟩
  have hl := lv_entry ([.ref (ad 0), .int (iI (a)), .int (iI (o)), .int (iI (q)), .int (iI (g))]) (n := 10) (Nat.le_of_ble_eq_true rfl)
  rw [lg_entry_eq]
  generalize (lg_sl ([.ref (ad 0), .int (iI (a)), .int (iI (o)), .int (iI (q)), .int (iI (g))]) ++ List.replicate (10 - (lg_sl ([.ref (ad 0), .int (iI (a)), .int (iI (o)), .int (iI (q)), .int (iI (g))])).length) Slot.unset).toArray = ls at hl ⊢
  have hl : lv_has ls 10 [(0, .ref (ad 0)), (1, .int (iI (a))), (2, .int (iI (o))), (3, .int (iI (q))), (4, .int (iI (g)))] := hl
  have hin6 : ∀ w ∈ u_ws RX6 TX6 25, w ∈ wsX6_errorOf := by decide +kernel
  have L_45 := hts (.fieldLink RX6 45 "CrossbarryModel" "inputs" "[I") (by decide +kernel)
  have L_60 := hts (.fieldLink RX6 60 "CrossbarryModel" "tileAt" "[I") (by decide +kernel)
  have hin := gI_15 hI 0 a
  have hta := gI_20 hI 0 a
  refine lv_iconst (v := iI (0)) hx hb dX6_errorOf_0 rfl ?_
  refine lv_istore (lv' := [(5, .int (iI (0))), (0, .ref (ad 0)), (1, .int (iI (a))), (2, .int (iI (o))), (3, .int (iI (q))), (4, .int (iI (g)))]) hx hb dX6_errorOf_1 hl (by decide) rfl (fun ls hl => ?_)
  refine lv_iconst (v := iI (0)) hx hb dX6_errorOf_3 rfl ?_
  refine lv_istore (lv' := [(6, .int (iI (0))), (5, .int (iI (0))), (0, .ref (ad 0)), (1, .int (iI (a))), (2, .int (iI (o))), (3, .int (iI (q))), (4, .int (iI (g)))]) hx hb dX6_errorOf_4 hl (by decide) rfl (fun ls hl => ?_)
  have hloop6 : ∀ (N : Nat)  (k : Nat) (H : Heap) (locs : List Loc) (ls : Array Slot), 8 - k < N → ((k : Int) ≤ st 15 0 a) →  GH D cy ad n st (gA n ad s.heap.size) s.heap H locs → lv_has ls 10 [(5, .int (iI (neU st a o q k))), (6, .int (iI (((k : Nat) : Int)))), (0, .ref (ad 0)), (1, .int (iI (a))), (2, .int (iI (o))), (3, .int (iI (q))), (4, .int (iI (g)))] → W p l e (headSpec wsX6_errorOf { frames := 2, cells := 0, slots := 0, locals := 49 }).room s m (#[.ref (ad 0), .int (iI (a)), .int (iI (o)), .int (iI (q)), .int (iI (g))] : Array Value) below meth c H locs 0 0 (MQ below (va_Qi (fun (r : Int32) (st' : St) => r = iI (errF st a o q g) ∧ st' = st) (gP D cy ad n) (gA n ad s.heap.size)) (#[.ref (ad 0), .int (iI (a)), .int (iI (o)), .int (iI (q)), .int (iI (g))] : Array Value) s 0 0 (gA n ad s.heap.size)) (F0 m 6 ls []) := by
    intro N
    induction N with
    | zero => intro  k H locs ls hm; exact absurd hm (Nat.not_lt_zero _)
    | succ N ih6 =>
      intro  k H locs ls hm hk hG hl
      have hnr := neU_r hI a o q k
      refine lv_iload hx hb dX6_errorOf_6 (lv_at hl 1 rfl) ?_
      refine lv_aload_n hx hb dX6_errorOf_8 rfl (lv_at hl 2 rfl) ?_
      refine g_get hx hb hts hin6 hown hK hG (key := 0) (by omega) (gC_0 st ad cy) rfl 15 (by decide) L_45 (fun _ h9 => h9) rfl dX6_errorOf_9 ?_
      refine lv_iload_n hx hb dX6_errorOf_12 rfl (lv_at hl 3 rfl) ?_
      refine g_iald hx hb hK hG (11) (kd := 11) (o := 0) rfl rfl (by omega) (cp := 15) (ln := 6) rfl rfl (by omega) dX6_errorOf_13 ?_
      have hr1 := gI_15 hI (0) (a)
      refine r_nm (fun v2 ev2 => ?_)
      rw [← ev2] at hr1
      refine r_icmp_ge (tgt := 37) hx hb (by omega) dX6_errorOf_14 (by decide) (fun c3 => ?_) (fun c3 => ?_)
      · skip
        refine lv_iconst (v := iI (4)) hx hb dX6_errorOf_37 rfl ?_
        refine lv_iload_n hx hb dX6_errorOf_38 rfl (lv_at hl 4 rfl) ?_
        refine r_imul hx hb dX6_errorOf_39 ?_
        refine r_nm (fun v4 ev4 => ?_)
        refine lv_iload_n hx hb dX6_errorOf_40 rfl (lv_at hl 5 rfl) ?_
        refine r_iadd hx hb dX6_errorOf_41 ?_
        refine r_nm (fun v5 ev5 => ?_)
        refine lv_istore (lv' := [(6, .int (iI (v5))), (5, .int (iI (neU st a o q k))), (0, .ref (ad 0)), (1, .int (iI (a))), (2, .int (iI (o))), (3, .int (iI (q))), (4, .int (iI (g)))]) hx hb dX6_errorOf_42 hl (by decide) rfl (fun ls hl => ?_)
        refine lv_aload_n hx hb dX6_errorOf_44 rfl (lv_at hl 2 rfl) ?_
        refine lv_aload_n hx hb dX6_errorOf_45 rfl (lv_at hl 2 rfl) ?_
        refine g_get hx hb hts hin6 hown hK hG (key := 0) (by omega) (gC_0 st ad cy) rfl 20 (by decide) L_60 (fun _ h9 => h9) rfl dX6_errorOf_46 ?_
        refine lv_iload_n hx hb dX6_errorOf_49 rfl (lv_at hl 3 rfl) ?_
        refine g_iald hx hb hK hG (16) (kd := 16) (o := 0) rfl rfl (by omega) (cp := 20) (ln := 6) rfl rfl (by omega) dX6_errorOf_50 ?_
        have hr6 := gI_20 hI (0) (a)
        refine r_nm (fun v7 ev7 => ?_)
        rw [← ev7] at hr6
        refine lv_iload hx hb dX6_errorOf_51 (lv_at hl 0 rfl) ?_
        refine lv_iconst (v := iI (0)) hx hb dX6_errorOf_53 rfl ?_
        refine g_goi hG hA (va_runV (As := [.int (iI (v7)), .int (iI (v5)), .int (iI (0))]) (rest := []) ⟨hx, hb, hml, hown, hts⟩ (mX6_reads l D cy ad n st _ fz wb hn hI (by omega) (v7) (v5) (0) (by omega) (by omega) (by omega)) (cwV 3 hts gX6_errorOf_X6_reads rfl rfl rfl (by decide +kernel) ⟨Nat.le_of_ble_eq_true rfl, Nat.le_of_ble_eq_true rfl⟩) ⟨g_blind, va_recv hK hG.1 (q0 := 0) (ci := 6) rfl ((gw_at (by omega)).trans (by rw [gC_0 st ad cy])), g_pre hK hG hA hN hZ⟩ rfl rfl hl.1 rfl (lv_room (Nat.le_of_ble_eq_true rfl)) dX6_errorOf_54 ⟨Nat.zero_le _, Nat.zero_le _⟩) (fun r9 s9 H locs hp hG => ?_)
        obtain ⟨rfl, hs9⟩ := hp
        rw [hs9] at hG
        clear hs9
        refine r_nm (fun v8 ev8 => ?_)
        have hr9 := readV_q hI (v7) (v5) (0)
        rw [← ev8] at hr9
        refine lv_istore (lv' := [(7, .int (iI (v8))), (6, .int (iI (v5))), (5, .int (iI (neU st a o q k))), (0, .ref (ad 0)), (1, .int (iI (a))), (2, .int (iI (o))), (3, .int (iI (q))), (4, .int (iI (g)))]) hx hb dX6_errorOf_57 hl (by decide) rfl (fun ls hl => ?_)
        refine lv_iconst (v := iI (1)) hx hb dX6_errorOf_59 rfl ?_
        refine lv_istore (lv' := [(8, .int (iI (1))), (7, .int (iI (v8))), (6, .int (iI (v5))), (5, .int (iI (neU st a o q k))), (0, .ref (ad 0)), (1, .int (iI (a))), (2, .int (iI (o))), (3, .int (iI (q))), (4, .int (iI (g)))]) hx hb dX6_errorOf_60 hl (by decide) rfl (fun ls hl => ?_)
        have hloop62 : ∀ (N : Nat)  (kb : Nat) (H : Heap) (locs : List Loc) (ls : Array Slot), 121 - kb < N → ((kb : Int) ≤ (neU st a o q k)) →  GH D cy ad n st (gA n ad s.heap.size) s.heap H locs → lv_has ls 10 [(7, .int (iI (bestU (readE st a (4 * o + q)) g kb))), (8, .int (iI (((kb + 1 : Nat) : Int)))), (6, .int (iI (v5))), (5, .int (iI (neU st a o q k))), (0, .ref (ad 0)), (1, .int (iI (a))), (2, .int (iI (o))), (3, .int (iI (q))), (4, .int (iI (g)))] → W p l e (headSpec wsX6_errorOf { frames := 2, cells := 0, slots := 0, locals := 49 }).room s m (#[.ref (ad 0), .int (iI (a)), .int (iI (o)), .int (iI (q)), .int (iI (g))] : Array Value) below meth c H locs 0 0 (MQ below (va_Qi (fun (r : Int32) (st' : St) => r = iI (errF st a o q g) ∧ st' = st) (gP D cy ad n) (gA n ad s.heap.size)) (#[.ref (ad 0), .int (iI (a)), .int (iI (o)), .int (iI (q)), .int (iI (g))] : Array Value) s 0 0 (gA n ad s.heap.size)) (F0 m 62 ls []) := by
          intro N
          induction N with
          | zero => intro  kb H locs ls hm; exact absurd hm (Nat.not_lt_zero _)
          | succ N ih62 =>
            intro  kb H locs ls hm hkb hG hl
            have hbr := bestU_r (readE_r hI a (4 * o + q)) g kb
            refine lv_iload hx hb dX6_errorOf_62 (lv_at hl 1 rfl) ?_
            refine lv_iload hx hb dX6_errorOf_64 (lv_at hl 3 rfl) ?_
            refine r_icmp_gt (tgt := 125) hx hb (by omega) dX6_errorOf_66 (by decide) (fun c10 => ?_) (fun c10 => ?_)
            · skip
              refine lv_iload hx hb dX6_errorOf_125 (lv_at hl 0 rfl) ?_
              exact g_iret hx hb hr hlocks hG (by
                refine ⟨?_, rfl⟩
                congr 1
                unfold errF
                rw [show (st 15 0 a).toNat = k by omega, show (neU st a o q k).toNat = kb by omega]) dX6_errorOf_127
            · skip
              refine lv_aload_n hx hb dX6_errorOf_69 rfl (lv_at hl 4 rfl) ?_
              refine lv_aload_n hx hb dX6_errorOf_70 rfl (lv_at hl 4 rfl) ?_
              refine g_get hx hb hts hin6 hown hK hG (key := 0) (by omega) (gC_0 st ad cy) rfl 20 (by decide) L_60 (fun _ h9 => h9) rfl dX6_errorOf_71 ?_
              refine lv_iload_n hx hb dX6_errorOf_74 rfl (lv_at hl 5 rfl) ?_
              refine g_iald hx hb hK hG (16) (kd := 16) (o := 0) rfl rfl (by omega) (cp := 20) (ln := 6) rfl rfl (by omega) dX6_errorOf_75 ?_
              have hr11 := gI_20 hI (0) (a)
              refine r_nm (fun v12 ev12 => ?_)
              rw [← ev12] at hr11
              refine lv_iload hx hb dX6_errorOf_76 (lv_at hl 2 rfl) ?_
              refine lv_iload hx hb dX6_errorOf_78 (lv_at hl 1 rfl) ?_
              refine g_goi hG hA (va_runV (As := [.int (iI (v12)), .int (iI (v5)), .int (iI (((kb + 1 : Nat) : Int)))]) (rest := []) ⟨hx, hb, hml, hown, hts⟩ (mX6_reads l D cy ad n st _ fz wb hn hI (by omega) (v12) (v5) (((kb + 1 : Nat) : Int)) (by omega) (by omega) (by omega)) (cwV 3 hts gX6_errorOf_X6_reads rfl rfl rfl (by decide +kernel) ⟨Nat.le_of_ble_eq_true rfl, Nat.le_of_ble_eq_true rfl⟩) ⟨g_blind, va_recv hK hG.1 (q0 := 0) (ci := 6) rfl ((gw_at (by omega)).trans (by rw [gC_0 st ad cy])), g_pre hK hG hA hN hZ⟩ rfl rfl hl.1 rfl (lv_room (Nat.le_of_ble_eq_true rfl)) dX6_errorOf_80 ⟨Nat.zero_le _, Nat.zero_le _⟩) (fun r9 s9 H locs hp hG => ?_)
              obtain ⟨rfl, hs9⟩ := hp
              rw [hs9] at hG
              clear hs9
              refine r_nm (fun v13 ev13 => ?_)
              have hr14 := readV_q hI (v12) (v5) (((kb + 1 : Nat) : Int))
              rw [← ev13] at hr14
              refine lv_iload hx hb dX6_errorOf_83 (lv_at hl 1 rfl) ?_
              refine r_isub hx hb dX6_errorOf_85 ?_
              refine r_nm (fun v15 ev15 => ?_)
              refine lv_istore (lv' := [(9, .int (iI (v15))), (7, .int (iI (bestU (readE st a (4 * o + q)) g kb))), (8, .int (iI (((kb + 1 : Nat) : Int)))), (6, .int (iI (v5))), (5, .int (iI (neU st a o q k))), (0, .ref (ad 0)), (1, .int (iI (a))), (2, .int (iI (o))), (3, .int (iI (q))), (4, .int (iI (g)))]) hx hb dX6_errorOf_86 hl (by decide) rfl (fun ls hl => ?_)
              refine lv_iload hx hb dX6_errorOf_88 (lv_at hl 9 rfl) ?_
              refine r_if_eq (tgt := 103) hx hb (by omega) dX6_errorOf_90 (by decide) (fun c16 => ?_) (fun c16 => ?_)
              · skip
                refine lv_iload hx hb dX6_errorOf_103 (lv_at hl 0 rfl) ?_
                refine lv_iload hx hb dX6_errorOf_105 (lv_at hl 1 rfl) ?_
                refine r_icmp_ge (tgt := 115) hx hb (by omega) dX6_errorOf_107 (by decide) (fun c17 => ?_) (fun c17 => ?_)
                · skip
                  refine lv_iload hx hb dX6_errorOf_115 (lv_at hl 1 rfl) ?_
                  refine lv_istore (lv' := [(7, .int (iI (bestU (readE st a (4 * o + q)) g kb))), (9, .int (iI (v15))), (8, .int (iI (((kb + 1 : Nat) : Int)))), (6, .int (iI (v5))), (5, .int (iI (neU st a o q k))), (0, .ref (ad 0)), (1, .int (iI (a))), (2, .int (iI (o))), (3, .int (iI (q))), (4, .int (iI (g)))]) hx hb dX6_errorOf_117 hl (by decide) rfl (fun ls hl => ?_)
                  obtain ⟨v18, ev18⟩ : ∃ y9 : Int, y9 = ((kb + 1 : Nat) : Int) + (1) := ⟨_, rfl⟩
                  refine lv_iinc (v := iI v18) (lv' := [(8, .int (iI (v18))), (7, .int (iI (bestU (readE st a (4 * o + q)) g kb))), (9, .int (iI (v15))), (6, .int (iI (v5))), (5, .int (iI (neU st a o q k))), (0, .ref (ad 0)), (1, .int (iI (a))), (2, .int (iI (o))), (3, .int (iI (q))), (4, .int (iI (g)))]) hx hb dX6_errorOf_119 hl (k := 2) rfl (by rw [ev18]; exact iI_add _ _) (by decide) rfl (fun ls hl => ?_)
                  refine lv_goto (tgt := 62) hx hb dX6_errorOf_122 (by decide) ?_
                  have hq7 : (v15) = readE st a (4 * o + q) ((kb + 1 : Nat) : Int) - ((kb + 1 : Nat) : Int) := by subst_vars; rfl
                  rw [show (bestU (readE st a (4 * o + q)) g kb : Int) = bestU (readE st a (4 * o + q)) g (kb + 1) from by (rw [bestU_s, ← hq7]; first | (rw [if_pos (by omega)]; done) | (rw [if_neg (by omega)]; done))] at hl
                  rw [show (v18 : Int) = (((kb + 1) + 1 : Nat) : Int) from by omega] at hl
                  exact ih62  (kb + 1) _ _ _ (by omega) (by omega) hG (lv_sub hl [1, 0, 3, 4, 5, 6, 7, 8, 9] rfl)
                · skip
                  refine lv_iload hx hb dX6_errorOf_110 (lv_at hl 0 rfl) ?_
                  refine lv_goto (tgt := 117) hx hb dX6_errorOf_112 (by decide) ?_
                  refine lv_istore (lv' := [(7, .int (iI (v15))), (9, .int (iI (v15))), (8, .int (iI (((kb + 1 : Nat) : Int)))), (6, .int (iI (v5))), (5, .int (iI (neU st a o q k))), (0, .ref (ad 0)), (1, .int (iI (a))), (2, .int (iI (o))), (3, .int (iI (q))), (4, .int (iI (g)))]) hx hb dX6_errorOf_117 hl (by decide) rfl (fun ls hl => ?_)
                  obtain ⟨v19, ev19⟩ : ∃ y9 : Int, y9 = ((kb + 1 : Nat) : Int) + (1) := ⟨_, rfl⟩
                  refine lv_iinc (v := iI v19) (lv' := [(8, .int (iI (v19))), (7, .int (iI (v15))), (9, .int (iI (v15))), (6, .int (iI (v5))), (5, .int (iI (neU st a o q k))), (0, .ref (ad 0)), (1, .int (iI (a))), (2, .int (iI (o))), (3, .int (iI (q))), (4, .int (iI (g)))]) hx hb dX6_errorOf_119 hl (k := 2) rfl (by rw [ev19]; exact iI_add _ _) (by decide) rfl (fun ls hl => ?_)
                  refine lv_goto (tgt := 62) hx hb dX6_errorOf_122 (by decide) ?_
                  have hq7 : (v15) = readE st a (4 * o + q) ((kb + 1 : Nat) : Int) - ((kb + 1 : Nat) : Int) := by subst_vars; rfl
                  rw [show (v15 : Int) = bestU (readE st a (4 * o + q)) g (kb + 1) from by (rw [bestU_s, ← hq7]; first | (rw [if_pos (by omega)]; done) | (rw [if_neg (by omega)]; done))] at hl
                  rw [show (v19 : Int) = (((kb + 1) + 1 : Nat) : Int) from by omega] at hl
                  exact ih62  (kb + 1) _ _ _ (by omega) (by omega) hG (lv_sub hl [1, 0, 3, 4, 5, 6, 7, 8, 9] rfl)
              · skip
                refine lv_iload hx hb dX6_errorOf_93 (lv_at hl 0 rfl) ?_
                refine lv_iload hx hb dX6_errorOf_95 (lv_at hl 1 rfl) ?_
                refine r_icmp_le (tgt := 115) hx hb (by omega) dX6_errorOf_97 (by decide) (fun c20 => ?_) (fun c20 => ?_)
                · skip
                  refine lv_iload hx hb dX6_errorOf_115 (lv_at hl 1 rfl) ?_
                  refine lv_istore (lv' := [(7, .int (iI (bestU (readE st a (4 * o + q)) g kb))), (9, .int (iI (v15))), (8, .int (iI (((kb + 1 : Nat) : Int)))), (6, .int (iI (v5))), (5, .int (iI (neU st a o q k))), (0, .ref (ad 0)), (1, .int (iI (a))), (2, .int (iI (o))), (3, .int (iI (q))), (4, .int (iI (g)))]) hx hb dX6_errorOf_117 hl (by decide) rfl (fun ls hl => ?_)
                  obtain ⟨v21, ev21⟩ : ∃ y9 : Int, y9 = ((kb + 1 : Nat) : Int) + (1) := ⟨_, rfl⟩
                  refine lv_iinc (v := iI v21) (lv' := [(8, .int (iI (v21))), (7, .int (iI (bestU (readE st a (4 * o + q)) g kb))), (9, .int (iI (v15))), (6, .int (iI (v5))), (5, .int (iI (neU st a o q k))), (0, .ref (ad 0)), (1, .int (iI (a))), (2, .int (iI (o))), (3, .int (iI (q))), (4, .int (iI (g)))]) hx hb dX6_errorOf_119 hl (k := 2) rfl (by rw [ev21]; exact iI_add _ _) (by decide) rfl (fun ls hl => ?_)
                  refine lv_goto (tgt := 62) hx hb dX6_errorOf_122 (by decide) ?_
                  have hq7 : (v15) = readE st a (4 * o + q) ((kb + 1 : Nat) : Int) - ((kb + 1 : Nat) : Int) := by subst_vars; rfl
                  rw [show (bestU (readE st a (4 * o + q)) g kb : Int) = bestU (readE st a (4 * o + q)) g (kb + 1) from by (rw [bestU_s, ← hq7]; first | (rw [if_pos (by omega)]; done) | (rw [if_neg (by omega)]; done))] at hl
                  rw [show (v21 : Int) = (((kb + 1) + 1 : Nat) : Int) from by omega] at hl
                  exact ih62  (kb + 1) _ _ _ (by omega) (by omega) hG (lv_sub hl [1, 0, 3, 4, 5, 6, 7, 8, 9] rfl)
                · skip
                  refine lv_goto (tgt := 110) hx hb dX6_errorOf_100 (by decide) ?_
                  refine lv_iload hx hb dX6_errorOf_110 (lv_at hl 0 rfl) ?_
                  refine lv_goto (tgt := 117) hx hb dX6_errorOf_112 (by decide) ?_
                  refine lv_istore (lv' := [(7, .int (iI (v15))), (9, .int (iI (v15))), (8, .int (iI (((kb + 1 : Nat) : Int)))), (6, .int (iI (v5))), (5, .int (iI (neU st a o q k))), (0, .ref (ad 0)), (1, .int (iI (a))), (2, .int (iI (o))), (3, .int (iI (q))), (4, .int (iI (g)))]) hx hb dX6_errorOf_117 hl (by decide) rfl (fun ls hl => ?_)
                  obtain ⟨v22, ev22⟩ : ∃ y9 : Int, y9 = ((kb + 1 : Nat) : Int) + (1) := ⟨_, rfl⟩
                  refine lv_iinc (v := iI v22) (lv' := [(8, .int (iI (v22))), (7, .int (iI (v15))), (9, .int (iI (v15))), (6, .int (iI (v5))), (5, .int (iI (neU st a o q k))), (0, .ref (ad 0)), (1, .int (iI (a))), (2, .int (iI (o))), (3, .int (iI (q))), (4, .int (iI (g)))]) hx hb dX6_errorOf_119 hl (k := 2) rfl (by rw [ev22]; exact iI_add _ _) (by decide) rfl (fun ls hl => ?_)
                  refine lv_goto (tgt := 62) hx hb dX6_errorOf_122 (by decide) ?_
                  have hq7 : (v15) = readE st a (4 * o + q) ((kb + 1 : Nat) : Int) - ((kb + 1 : Nat) : Int) := by subst_vars; rfl
                  rw [show (v15 : Int) = bestU (readE st a (4 * o + q)) g (kb + 1) from by (rw [bestU_s, ← hq7]; first | (rw [if_pos (by omega)]; done) | (rw [if_neg (by omega)]; done))] at hl
                  rw [show (v22 : Int) = (((kb + 1) + 1 : Nat) : Int) from by omega] at hl
                  exact ih62  (kb + 1) _ _ _ (by omega) (by omega) hG (lv_sub hl [1, 0, 3, 4, 5, 6, 7, 8, 9] rfl)
        rw [show (v8 : Int) = bestU (readE st a (4 * o + q)) g (0) from by (subst_vars; rfl)] at hl
        exact hloop62 _  (0) _ _ _ (Nat.lt_succ_self _) (by omega) hG (lv_sub hl [1, 0, 2, 3, 4, 5, 6, 7, 8] rfl)
      · skip
        refine lv_iload hx hb dX6_errorOf_17 (lv_at hl 0 rfl) ?_
        refine lv_aload_n hx hb dX6_errorOf_19 rfl (lv_at hl 2 rfl) ?_
        refine lv_iload_n hx hb dX6_errorOf_20 rfl (lv_at hl 3 rfl) ?_
        refine lv_iload hx hb dX6_errorOf_21 (lv_at hl 1 rfl) ?_
        refine lv_iload_n hx hb dX6_errorOf_23 rfl (lv_at hl 4 rfl) ?_
        refine lv_iload_n hx hb dX6_errorOf_24 rfl (lv_at hl 5 rfl) ?_
        refine g_goi hG hA (va_runV (As := [.int (iI (a)), .int (iI (((k : Nat) : Int))), .int (iI (o)), .int (iI (q))]) (rest := [.int (iI (neU st a o q k))]) ⟨hx, hb, hml, hown, hts⟩ (mX6_needs l D cy ad n st _ fz wb hn hI (by omega) (a) (((k : Nat) : Int)) (o) (q) (by omega) (by omega) (by omega) (by omega)) (cwV 4 hts gX6_errorOf_X6_needs rfl rfl rfl (by decide +kernel) ⟨Nat.le_of_ble_eq_true rfl, Nat.le_of_ble_eq_true rfl⟩) ⟨g_blind, va_recv hK hG.1 (q0 := 0) (ci := 6) rfl ((gw_at (by omega)).trans (by rw [gC_0 st ad cy])), g_pre hK hG hA hN hZ⟩ rfl rfl hl.1 rfl (lv_room (Nat.le_of_ble_eq_true rfl)) dX6_errorOf_25 ⟨Nat.zero_le _, Nat.zero_le _⟩) (fun r9 s9 H locs hp hG => ?_)
        obtain ⟨rfl, hs9⟩ := hp
        rw [hs9] at hG
        clear hs9
        refine r_nm (fun v23 ev23 => ?_)
        have hr24 := needV_r (gI_17 hI 0 (32 * (a) + 4 * (((k : Nat) : Int)) + (o))) (q)
        rw [← ev23] at hr24
        refine r_iadd hx hb dX6_errorOf_28 ?_
        refine r_nm (fun v25 ev25 => ?_)
        refine lv_istore (lv' := [(5, .int (iI (v25))), (6, .int (iI (((k : Nat) : Int)))), (0, .ref (ad 0)), (1, .int (iI (a))), (2, .int (iI (o))), (3, .int (iI (q))), (4, .int (iI (g)))]) hx hb dX6_errorOf_29 hl (by decide) rfl (fun ls hl => ?_)
        obtain ⟨v26, ev26⟩ : ∃ y9 : Int, y9 = ((k : Nat) : Int) + (1) := ⟨_, rfl⟩
        refine lv_iinc (v := iI v26) (lv' := [(6, .int (iI (v26))), (5, .int (iI (v25))), (0, .ref (ad 0)), (1, .int (iI (a))), (2, .int (iI (o))), (3, .int (iI (q))), (4, .int (iI (g)))]) hx hb dX6_errorOf_31 hl (k := 1) rfl (by rw [ev26]; exact iI_add _ _) (by decide) rfl (fun ls hl => ?_)
        refine lv_goto (tgt := 6) hx hb dX6_errorOf_34 (by decide) ?_
        rw [show (v25 : Int) = neU st a o q (k + 1) from by (subst_vars; rfl)] at hl
        rw [show (v26 : Int) = (((k + 1) : Nat) : Int) from by omega] at hl
        exact ih6  (k + 1) _ _ _ (by omega) (by omega) hG (lv_sub hl [1, 0, 2, 3, 4, 5, 6] rfl)
  exact hloop6 _  (0) _ _ _ (Nat.lt_succ_self _) (by omega) hG (lv_sub hl [1, 0, 2, 3, 4, 5, 6] rfl)
set_option maxHeartbeats 400000 in
set_option maxRecDepth 100000 in
theorem mX6_bound (l : Launch) (D : va_G) (cy : Nat → ClassId) (ad : Nat → Nat) (n : Nat) (st : St) (sz fz : Nat) (wb : Int) (hn : 75 ≤ n) (hI : GI wb st) (hW : wb ≤ 2000000) (a : Int) (o : Int) (u : Int) (ha : -2147483648 ≤ a ∧ a < 2147483648) (ho : -2147483648 ≤ o ∧ o < 2147483648) (hu : -2147483648 ≤ u ∧ u < 2147483648) (huz : u = 0 ∨ u = 1) : Met l yX6_bound wsX6_bound ({ frames := 3, cells := 0, slots := 0, locals := 78 }) (va_Pc [.ref (ad 0), .int (iI (a)), .int (iI (o)), .int (iI (u))] (gB D cy ad n st sz fz)) (va_Qi (fun (r : Int32) (st' : St) => r = iI (aBound st a o u) ∧ st' = ust st 0 0 0 (kAns st a o) ∧ GI wb st') (gP D cy ad n) (gA n ad sz)) 0 0 (gA n ad sz) := by
  refine Met.ofW (cc := cX6_bound) (maxL := 6) (ret := (some .int)) (by decide) rfl ?_
  intro p e s m args below meth c s₁ B hml hv
  obtain ⟨rfl, hsz, hP, hK, hD0, hN, hZ⟩ := hv
  have hx := B.exec
  have hb := B.bytes
  have hr := B.returns
  have hts := atoms_spec (ws := wsX6_bound) B.pre
  have hown : s.vm.findClass RX6 = some m.cls := findClass_of_methodNamed B.named
  have hlocks := B.notSynchronized
  subst hsz
  have hA : ∀ q : Nat, s.heap.size ≤ q → gA n ad s.heap.size q := fun q h => Or.inr h
  have hG : GH D cy ad n st (gA n ad s.heap.size) s.heap s.heap [] := ⟨hP, gw_A hD0, va_S.rf⟩
  have hl := lv_entry ([.ref (ad 0), .int (iI (a)), .int (iI (o)), .int (iI (u))]) (n := 6) (Nat.le_of_ble_eq_true rfl)
  rw [lg_entry_eq]
  generalize (lg_sl ([.ref (ad 0), .int (iI (a)), .int (iI (o)), .int (iI (u))]) ++ List.replicate (6 - (lg_sl ([.ref (ad 0), .int (iI (a)), .int (iI (o)), .int (iI (u))])).length) Slot.unset).toArray = ls at hl ⊢
  have hl : lv_has ls 6 [(0, .ref (ad 0)), (1, .int (iI (a))), (2, .int (iI (o))), (3, .int (iI (u)))] := hl
  have hin6 : ∀ w ∈ u_ws RX6 TX6 25, w ∈ wsX6_bound := by decide +kernel
  have L_48 := hts (.fieldLink RX6 48 "CrossbarryModel" "outputs" "[I") (by decide +kernel)
  have L_60 := hts (.fieldLink RX6 60 "CrossbarryModel" "tileAt" "[I") (by decide +kernel)
  have L_75 := hts (.fieldLink RX6 75 "CrossbarryModel" "thrown" "I") (by decide +kernel)
  have hmn := gI_14 hI 0 0
  have hw16 := gI_16 hI 0 a
  have hta := gI_20 hI 0 a
  refine lv_aload_n hx hb dX6_bound_0 rfl (lv_at hl 0 rfl) ?_
  have hlab44 : ∀ (t : Int) (H : Heap) (locs : List Loc) (ls : Array Slot), (t = kAns st a o) →  GH D cy ad n st (gA n ad s.heap.size) s.heap H locs → lv_has ls 6 [(0, .ref (ad 0)), (1, .int (iI (a))), (2, .int (iI (o))), (3, .int (iI (u)))] → W p l e (headSpec wsX6_bound { frames := 3, cells := 0, slots := 0, locals := 78 }).room s m (#[.ref (ad 0), .int (iI (a)), .int (iI (o)), .int (iI (u))] : Array Value) below meth c H locs 0 0 (MQ below (va_Qi (fun (r : Int32) (st' : St) => r = iI (aBound st a o u) ∧ st' = ust st 0 0 0 (kAns st a o) ∧ GI wb st') (gP D cy ad n) (gA n ad s.heap.size)) (#[.ref (ad 0), .int (iI (a)), .int (iI (o)), .int (iI (u))] : Array Value) s 0 0 (gA n ad s.heap.size)) (F0 m 44 ls [.int (iI (t)), .ref (ad 0)]) := by
    intro t H locs ls ht hG hl
    have hks := kAns_s st a o
    refine g_put hx hb hts hin6 tyX6 tyX6_ok nmX6 hown hK hG (key := 0) (by omega) (gC_0 st ad cy) rfl 0 (by decide) L_75 (fun _ h9 => h9) rfl (ty := .int) (by decide +kernel) rfl rfl (Nat.le_of_ble_eq_true rfl) dX6_bound_44 (ust st 0 0 0 (t)) (fun j _ => gU_0 st ad cy (t) j) (fun H locs hG => ?_)
    obtain ⟨st1, hst1⟩ : ∃ z : St, z = ust st 0 (0) (0) (t) := ⟨_, rfl⟩
    rw [← hst1] at hG
    replace hI := hst1 ▸ gIu_0 hI (0) (0) (v := t) (by omega)
    refine lv_aload_n hx hb dX6_bound_47 rfl (lv_at hl 0 rfl) ?_
    refine g_get hx hb hts hin6 hown hK hG (key := 0) (by omega) (gC_0 st1 ad cy) rfl 0 (by decide) L_75 (fun _ h9 => h9) rfl dX6_bound_48 ?_
    have hr2 := gI_0 hI (0) (0)
    have kq3 : st1 0 (0) (0) = t := by rw [hst1, ust_s]
    rw [kq3] at hr2
    refine r_as kq3 ?_
    clear kq3
    refine r_if_le (tgt := 56) hx hb (by omega) dX6_bound_51 (by decide) (fun c4 => ?_) (fun c4 => ?_)
    · skip
      refine lv_aload_n hx hb dX6_bound_56 rfl (lv_at hl 0 rfl) ?_
      refine lv_iload_n hx hb dX6_bound_57 rfl (lv_at hl 1 rfl) ?_
      refine lv_iload_n hx hb dX6_bound_58 rfl (lv_at hl 2 rfl) ?_
      refine lv_iconst (v := iI (0)) hx hb dX6_bound_59 rfl ?_
      refine lv_iload_n hx hb dX6_bound_60 rfl (lv_at hl 3 rfl) ?_
      refine g_goi hG hA (va_runV (As := [.int (iI (a)), .int (iI (o)), .int (iI (0)), .int (iI (u))]) (rest := []) ⟨hx, hb, hml, hown, hts⟩ (mX6_errorOf l D cy ad n st1 _ fz wb hn hI (by omega) (a) (o) (0) (u) (by omega) (by omega) (by omega) (by omega) (by rw [hst1, ust_c (by decide)]; omega)) (cwV 4 hts gX6_bound_X6_errorOf rfl rfl rfl (by decide +kernel) ⟨Nat.le_of_ble_eq_true rfl, Nat.le_of_ble_eq_true rfl⟩) ⟨g_blind, va_recv hK hG.1 (q0 := 0) (ci := 6) rfl ((gw_at (by omega)).trans (by rw [gC_0 st1 ad cy])), g_pre hK hG hA hN hZ⟩ rfl rfl hl.1 rfl (lv_room (Nat.le_of_ble_eq_true rfl)) dX6_bound_61 ⟨Nat.zero_le _, Nat.zero_le _⟩) (fun r9 s9 H locs hp hG => ?_)
      obtain ⟨rfl, hs9⟩ := hp
      rw [hs9] at hG
      clear hs9
      refine r_nm (fun v5 ev5 => ?_)
      have hr6 := errF_r hI (a) (o) (0) (u)
      rw [← ev5] at hr6
      refine lv_bipush (v := iI (16)) hx hb dX6_bound_64 (by decide +kernel) ?_
      refine lv_aload_n hx hb dX6_bound_66 rfl (lv_at hl 0 rfl) ?_
      refine lv_iload_n hx hb dX6_bound_67 rfl (lv_at hl 1 rfl) ?_
      refine lv_iload_n hx hb dX6_bound_68 rfl (lv_at hl 2 rfl) ?_
      refine lv_iconst (v := iI (1)) hx hb dX6_bound_69 rfl ?_
      refine lv_iload_n hx hb dX6_bound_70 rfl (lv_at hl 3 rfl) ?_
      refine g_goi hG hA (va_runV (As := [.int (iI (a)), .int (iI (o)), .int (iI (1)), .int (iI (u))]) (rest := [.int (iI (16)), .int (iI (v5))]) ⟨hx, hb, hml, hown, hts⟩ (mX6_errorOf l D cy ad n st1 _ fz wb hn hI (by omega) (a) (o) (1) (u) (by omega) (by omega) (by omega) (by omega) (by rw [hst1, ust_c (by decide)]; omega)) (cwV 4 hts gX6_bound_X6_errorOf rfl rfl rfl (by decide +kernel) ⟨Nat.le_of_ble_eq_true rfl, Nat.le_of_ble_eq_true rfl⟩) ⟨g_blind, va_recv hK hG.1 (q0 := 0) (ci := 6) rfl ((gw_at (by omega)).trans (by rw [gC_0 st1 ad cy])), g_pre hK hG hA hN hZ⟩ rfl rfl hl.1 rfl (lv_room (Nat.le_of_ble_eq_true rfl)) dX6_bound_71 ⟨Nat.zero_le _, Nat.zero_le _⟩) (fun r9 s9 H locs hp hG => ?_)
      obtain ⟨rfl, hs9⟩ := hp
      rw [hs9] at hG
      clear hs9
      refine r_nm (fun v7 ev7 => ?_)
      have hr8 := errF_r hI (a) (o) (1) (u)
      rw [← ev7] at hr8
      refine r_imul hx hb dX6_bound_74 ?_
      refine r_nm (fun v9 ev9 => ?_)
      refine r_iadd hx hb dX6_bound_75 ?_
      refine r_nm (fun v10 ev10 => ?_)
      refine lv_istore (lv' := [(4, .int (iI (v10))), (0, .ref (ad 0)), (1, .int (iI (a))), (2, .int (iI (o))), (3, .int (iI (u)))]) hx hb dX6_bound_76 hl (by decide) rfl (fun ls hl => ?_)
      refine lv_aload_n hx hb dX6_bound_78 rfl (lv_at hl 1 rfl) ?_
      refine lv_iload_n hx hb dX6_bound_79 rfl (lv_at hl 2 rfl) ?_
      refine lv_iload_n hx hb dX6_bound_80 rfl (lv_at hl 3 rfl) ?_
      refine lv_iconst (v := iI (2)) hx hb dX6_bound_81 rfl ?_
      refine lv_iload_n hx hb dX6_bound_82 rfl (lv_at hl 4 rfl) ?_
      refine r_if_ne (tgt := 90) hx hb (by omega) dX6_bound_83 (by decide) (fun c11 => ?_) (fun c11 => ?_)
      · skip
        refine lv_iconst (v := iI (0)) hx hb dX6_bound_90 rfl ?_
        refine g_goi hG hA (va_runV (As := [.int (iI (a)), .int (iI (o)), .int (iI (2)), .int (iI (0))]) (rest := []) ⟨hx, hb, hml, hown, hts⟩ (mX6_errorOf l D cy ad n st1 _ fz wb hn hI (by omega) (a) (o) (2) (0) (by omega) (by omega) (by omega) (by omega) (by rw [hst1, ust_c (by decide)]; omega)) (cwV 4 hts gX6_bound_X6_errorOf rfl rfl rfl (by decide +kernel) ⟨Nat.le_of_ble_eq_true rfl, Nat.le_of_ble_eq_true rfl⟩) ⟨g_blind, va_recv hK hG.1 (q0 := 0) (ci := 6) rfl ((gw_at (by omega)).trans (by rw [gC_0 st1 ad cy])), g_pre hK hG hA hN hZ⟩ rfl rfl hl.1 rfl (lv_room (Nat.le_of_ble_eq_true rfl)) dX6_bound_91 ⟨Nat.zero_le _, Nat.zero_le _⟩) (fun r9 s9 H locs hp hG => ?_)
        obtain ⟨rfl, hs9⟩ := hp
        rw [hs9] at hG
        clear hs9
        refine r_nm (fun v12 ev12 => ?_)
        have hr13 := errF_r hI (a) (o) (2) (0)
        rw [← ev12] at hr13
        refine lv_bipush (v := iI (16)) hx hb dX6_bound_94 (by decide +kernel) ?_
        refine lv_aload_n hx hb dX6_bound_96 rfl (lv_at hl 1 rfl) ?_
        refine lv_iload_n hx hb dX6_bound_97 rfl (lv_at hl 2 rfl) ?_
        refine lv_iload_n hx hb dX6_bound_98 rfl (lv_at hl 3 rfl) ?_
        refine lv_iconst (v := iI (3)) hx hb dX6_bound_99 rfl ?_
        refine lv_iload_n hx hb dX6_bound_100 rfl (lv_at hl 4 rfl) ?_
        refine r_if_ne (tgt := 108) hx hb (by omega) dX6_bound_101 (by decide) (fun c14 => ?_) (fun c14 => ?_)
        · skip
          refine lv_iconst (v := iI (0)) hx hb dX6_bound_108 rfl ?_
          refine g_goi hG hA (va_runV (As := [.int (iI (a)), .int (iI (o)), .int (iI (3)), .int (iI (0))]) (rest := [.int (iI (16)), .int (iI (v12))]) ⟨hx, hb, hml, hown, hts⟩ (mX6_errorOf l D cy ad n st1 _ fz wb hn hI (by omega) (a) (o) (3) (0) (by omega) (by omega) (by omega) (by omega) (by rw [hst1, ust_c (by decide)]; omega)) (cwV 4 hts gX6_bound_X6_errorOf rfl rfl rfl (by decide +kernel) ⟨Nat.le_of_ble_eq_true rfl, Nat.le_of_ble_eq_true rfl⟩) ⟨g_blind, va_recv hK hG.1 (q0 := 0) (ci := 6) rfl ((gw_at (by omega)).trans (by rw [gC_0 st1 ad cy])), g_pre hK hG hA hN hZ⟩ rfl rfl hl.1 rfl (lv_room (Nat.le_of_ble_eq_true rfl)) dX6_bound_109 ⟨Nat.zero_le _, Nat.zero_le _⟩) (fun r9 s9 H locs hp hG => ?_)
          obtain ⟨rfl, hs9⟩ := hp
          rw [hs9] at hG
          clear hs9
          refine r_nm (fun v15 ev15 => ?_)
          have hr16 := errF_r hI (a) (o) (3) (0)
          rw [← ev15] at hr16
          refine r_imul hx hb dX6_bound_112 ?_
          refine r_nm (fun v17 ev17 => ?_)
          refine r_iadd hx hb dX6_bound_113 ?_
          refine r_nm (fun v18 ev18 => ?_)
          refine lv_istore (lv' := [(5, .int (iI (v18))), (4, .int (iI (v10))), (0, .ref (ad 0)), (1, .int (iI (a))), (2, .int (iI (o))), (3, .int (iI (u)))]) hx hb dX6_bound_114 hl (by decide) rfl (fun ls hl => ?_)
          refine lv_sipush (v := iI (255)) hx hb dX6_bound_116 (by decide +kernel) ?_
          refine lv_iload hx hb dX6_bound_119 (lv_at hl 1 rfl) ?_
          refine lv_iload hx hb dX6_bound_121 (lv_at hl 0 rfl) ?_
          refine r_isub hx hb dX6_bound_123 ?_
          refine r_nm (fun v19 ev19 => ?_)
          refine r_imul hx hb dX6_bound_124 ?_
          refine r_nm (fun v20 ev20 => ?_)
          exact g_iret hx hb hr hlocks hG (by
            first
              | (refine ⟨?_, ?_, hI⟩
                 · congr 1; unfold aBound; rw [if_neg (by omega)]
                 · rw [← ht]; assumption)
              | (refine ⟨?_, ?_, hI⟩
                 · congr 1; unfold aBound; rw [if_pos (by omega)]; first | (exfalso; omega) | (rw [show (1 : Int) - u = 1 by omega]; subst_vars; simp only [errF_0]) | (rw [show (1 : Int) - u = 0 by omega]; subst_vars; simp only [errF_0])
                 · rw [← ht]; assumption)) dX6_bound_125
        · skip
          refine lv_iconst (v := iI (1)) hx hb dX6_bound_104 rfl ?_
          refine lv_goto (tgt := 109) hx hb dX6_bound_105 (by decide) ?_
          refine g_goi hG hA (va_runV (As := [.int (iI (a)), .int (iI (o)), .int (iI (3)), .int (iI (1))]) (rest := [.int (iI (16)), .int (iI (v12))]) ⟨hx, hb, hml, hown, hts⟩ (mX6_errorOf l D cy ad n st1 _ fz wb hn hI (by omega) (a) (o) (3) (1) (by omega) (by omega) (by omega) (by omega) (by rw [hst1, ust_c (by decide)]; omega)) (cwV 4 hts gX6_bound_X6_errorOf rfl rfl rfl (by decide +kernel) ⟨Nat.le_of_ble_eq_true rfl, Nat.le_of_ble_eq_true rfl⟩) ⟨g_blind, va_recv hK hG.1 (q0 := 0) (ci := 6) rfl ((gw_at (by omega)).trans (by rw [gC_0 st1 ad cy])), g_pre hK hG hA hN hZ⟩ rfl rfl hl.1 rfl (lv_room (Nat.le_of_ble_eq_true rfl)) dX6_bound_109 ⟨Nat.zero_le _, Nat.zero_le _⟩) (fun r9 s9 H locs hp hG => ?_)
          obtain ⟨rfl, hs9⟩ := hp
          rw [hs9] at hG
          clear hs9
          refine r_nm (fun v21 ev21 => ?_)
          have hr22 := errF_r hI (a) (o) (3) (1)
          rw [← ev21] at hr22
          refine r_imul hx hb dX6_bound_112 ?_
          refine r_nm (fun v23 ev23 => ?_)
          refine r_iadd hx hb dX6_bound_113 ?_
          refine r_nm (fun v24 ev24 => ?_)
          refine lv_istore (lv' := [(5, .int (iI (v24))), (4, .int (iI (v10))), (0, .ref (ad 0)), (1, .int (iI (a))), (2, .int (iI (o))), (3, .int (iI (u)))]) hx hb dX6_bound_114 hl (by decide) rfl (fun ls hl => ?_)
          refine lv_sipush (v := iI (255)) hx hb dX6_bound_116 (by decide +kernel) ?_
          refine lv_iload hx hb dX6_bound_119 (lv_at hl 1 rfl) ?_
          refine lv_iload hx hb dX6_bound_121 (lv_at hl 0 rfl) ?_
          refine r_isub hx hb dX6_bound_123 ?_
          refine r_nm (fun v25 ev25 => ?_)
          refine r_imul hx hb dX6_bound_124 ?_
          refine r_nm (fun v26 ev26 => ?_)
          exact g_iret hx hb hr hlocks hG (by
            first
              | (refine ⟨?_, ?_, hI⟩
                 · congr 1; unfold aBound; rw [if_neg (by omega)]
                 · rw [← ht]; assumption)
              | (refine ⟨?_, ?_, hI⟩
                 · congr 1; unfold aBound; rw [if_pos (by omega)]; first | (exfalso; omega) | (rw [show (1 : Int) - u = 1 by omega]; subst_vars; simp only [errF_0]) | (rw [show (1 : Int) - u = 0 by omega]; subst_vars; simp only [errF_0])
                 · rw [← ht]; assumption)) dX6_bound_125
      · skip
        refine lv_iconst (v := iI (1)) hx hb dX6_bound_86 rfl ?_
        refine lv_goto (tgt := 91) hx hb dX6_bound_87 (by decide) ?_
        refine g_goi hG hA (va_runV (As := [.int (iI (a)), .int (iI (o)), .int (iI (2)), .int (iI (1))]) (rest := []) ⟨hx, hb, hml, hown, hts⟩ (mX6_errorOf l D cy ad n st1 _ fz wb hn hI (by omega) (a) (o) (2) (1) (by omega) (by omega) (by omega) (by omega) (by rw [hst1, ust_c (by decide)]; omega)) (cwV 4 hts gX6_bound_X6_errorOf rfl rfl rfl (by decide +kernel) ⟨Nat.le_of_ble_eq_true rfl, Nat.le_of_ble_eq_true rfl⟩) ⟨g_blind, va_recv hK hG.1 (q0 := 0) (ci := 6) rfl ((gw_at (by omega)).trans (by rw [gC_0 st1 ad cy])), g_pre hK hG hA hN hZ⟩ rfl rfl hl.1 rfl (lv_room (Nat.le_of_ble_eq_true rfl)) dX6_bound_91 ⟨Nat.zero_le _, Nat.zero_le _⟩) (fun r9 s9 H locs hp hG => ?_)
        obtain ⟨rfl, hs9⟩ := hp
        rw [hs9] at hG
        clear hs9
        refine r_nm (fun v27 ev27 => ?_)
        have hr28 := errF_r hI (a) (o) (2) (1)
        rw [← ev27] at hr28
        refine lv_bipush (v := iI (16)) hx hb dX6_bound_94 (by decide +kernel) ?_
        refine lv_aload_n hx hb dX6_bound_96 rfl (lv_at hl 1 rfl) ?_
        refine lv_iload_n hx hb dX6_bound_97 rfl (lv_at hl 2 rfl) ?_
        refine lv_iload_n hx hb dX6_bound_98 rfl (lv_at hl 3 rfl) ?_
        refine lv_iconst (v := iI (3)) hx hb dX6_bound_99 rfl ?_
        refine lv_iload_n hx hb dX6_bound_100 rfl (lv_at hl 4 rfl) ?_
        refine r_if_ne (tgt := 108) hx hb (by omega) dX6_bound_101 (by decide) (fun c29 => ?_) (fun c29 => ?_)
        · skip
          refine lv_iconst (v := iI (0)) hx hb dX6_bound_108 rfl ?_
          refine g_goi hG hA (va_runV (As := [.int (iI (a)), .int (iI (o)), .int (iI (3)), .int (iI (0))]) (rest := [.int (iI (16)), .int (iI (v27))]) ⟨hx, hb, hml, hown, hts⟩ (mX6_errorOf l D cy ad n st1 _ fz wb hn hI (by omega) (a) (o) (3) (0) (by omega) (by omega) (by omega) (by omega) (by rw [hst1, ust_c (by decide)]; omega)) (cwV 4 hts gX6_bound_X6_errorOf rfl rfl rfl (by decide +kernel) ⟨Nat.le_of_ble_eq_true rfl, Nat.le_of_ble_eq_true rfl⟩) ⟨g_blind, va_recv hK hG.1 (q0 := 0) (ci := 6) rfl ((gw_at (by omega)).trans (by rw [gC_0 st1 ad cy])), g_pre hK hG hA hN hZ⟩ rfl rfl hl.1 rfl (lv_room (Nat.le_of_ble_eq_true rfl)) dX6_bound_109 ⟨Nat.zero_le _, Nat.zero_le _⟩) (fun r9 s9 H locs hp hG => ?_)
          obtain ⟨rfl, hs9⟩ := hp
          rw [hs9] at hG
          clear hs9
          refine r_nm (fun v30 ev30 => ?_)
          have hr31 := errF_r hI (a) (o) (3) (0)
          rw [← ev30] at hr31
          refine r_imul hx hb dX6_bound_112 ?_
          refine r_nm (fun v32 ev32 => ?_)
          refine r_iadd hx hb dX6_bound_113 ?_
          refine r_nm (fun v33 ev33 => ?_)
          refine lv_istore (lv' := [(5, .int (iI (v33))), (4, .int (iI (v10))), (0, .ref (ad 0)), (1, .int (iI (a))), (2, .int (iI (o))), (3, .int (iI (u)))]) hx hb dX6_bound_114 hl (by decide) rfl (fun ls hl => ?_)
          refine lv_sipush (v := iI (255)) hx hb dX6_bound_116 (by decide +kernel) ?_
          refine lv_iload hx hb dX6_bound_119 (lv_at hl 1 rfl) ?_
          refine lv_iload hx hb dX6_bound_121 (lv_at hl 0 rfl) ?_
          refine r_isub hx hb dX6_bound_123 ?_
          refine r_nm (fun v34 ev34 => ?_)
          refine r_imul hx hb dX6_bound_124 ?_
          refine r_nm (fun v35 ev35 => ?_)
          exact g_iret hx hb hr hlocks hG (by
            first
              | (refine ⟨?_, ?_, hI⟩
                 · congr 1; unfold aBound; rw [if_neg (by omega)]
                 · rw [← ht]; assumption)
              | (refine ⟨?_, ?_, hI⟩
                 · congr 1; unfold aBound; rw [if_pos (by omega)]; first | (exfalso; omega) | (rw [show (1 : Int) - u = 1 by omega]; subst_vars; simp only [errF_0]) | (rw [show (1 : Int) - u = 0 by omega]; subst_vars; simp only [errF_0])
                 · rw [← ht]; assumption)) dX6_bound_125
        · skip
          refine lv_iconst (v := iI (1)) hx hb dX6_bound_104 rfl ?_
          refine lv_goto (tgt := 109) hx hb dX6_bound_105 (by decide) ?_
          refine g_goi hG hA (va_runV (As := [.int (iI (a)), .int (iI (o)), .int (iI (3)), .int (iI (1))]) (rest := [.int (iI (16)), .int (iI (v27))]) ⟨hx, hb, hml, hown, hts⟩ (mX6_errorOf l D cy ad n st1 _ fz wb hn hI (by omega) (a) (o) (3) (1) (by omega) (by omega) (by omega) (by omega) (by rw [hst1, ust_c (by decide)]; omega)) (cwV 4 hts gX6_bound_X6_errorOf rfl rfl rfl (by decide +kernel) ⟨Nat.le_of_ble_eq_true rfl, Nat.le_of_ble_eq_true rfl⟩) ⟨g_blind, va_recv hK hG.1 (q0 := 0) (ci := 6) rfl ((gw_at (by omega)).trans (by rw [gC_0 st1 ad cy])), g_pre hK hG hA hN hZ⟩ rfl rfl hl.1 rfl (lv_room (Nat.le_of_ble_eq_true rfl)) dX6_bound_109 ⟨Nat.zero_le _, Nat.zero_le _⟩) (fun r9 s9 H locs hp hG => ?_)
          obtain ⟨rfl, hs9⟩ := hp
          rw [hs9] at hG
          clear hs9
          refine r_nm (fun v36 ev36 => ?_)
          have hr37 := errF_r hI (a) (o) (3) (1)
          rw [← ev36] at hr37
          refine r_imul hx hb dX6_bound_112 ?_
          refine r_nm (fun v38 ev38 => ?_)
          refine r_iadd hx hb dX6_bound_113 ?_
          refine r_nm (fun v39 ev39 => ?_)
          refine lv_istore (lv' := [(5, .int (iI (v39))), (4, .int (iI (v10))), (0, .ref (ad 0)), (1, .int (iI (a))), (2, .int (iI (o))), (3, .int (iI (u)))]) hx hb dX6_bound_114 hl (by decide) rfl (fun ls hl => ?_)
          refine lv_sipush (v := iI (255)) hx hb dX6_bound_116 (by decide +kernel) ?_
          refine lv_iload hx hb dX6_bound_119 (lv_at hl 1 rfl) ?_
          refine lv_iload hx hb dX6_bound_121 (lv_at hl 0 rfl) ?_
          refine r_isub hx hb dX6_bound_123 ?_
          refine r_nm (fun v40 ev40 => ?_)
          refine r_imul hx hb dX6_bound_124 ?_
          refine r_nm (fun v41 ev41 => ?_)
          exact g_iret hx hb hr hlocks hG (by
            first
              | (refine ⟨?_, ?_, hI⟩
                 · congr 1; unfold aBound; rw [if_neg (by omega)]
                 · rw [← ht]; assumption)
              | (refine ⟨?_, ?_, hI⟩
                 · congr 1; unfold aBound; rw [if_pos (by omega)]; first | (exfalso; omega) | (rw [show (1 : Int) - u = 1 by omega]; subst_vars; simp only [errF_0]) | (rw [show (1 : Int) - u = 0 by omega]; subst_vars; simp only [errF_0])
                 · rw [← ht]; assumption)) dX6_bound_125
    · skip
      refine lv_iconst (v := iI (0)) hx hb dX6_bound_54 rfl ?_
      exact g_iret hx hb hr hlocks hG (by
        first
          | (refine ⟨?_, ?_, hI⟩
             · congr 1; unfold aBound; rw [if_neg (by omega)]
             · rw [← ht]; assumption)
          | (refine ⟨?_, ?_, hI⟩
             · congr 1; unfold aBound; rw [if_pos (by omega)]; first | (exfalso; omega) | (rw [show (1 : Int) - u = 1 by omega]; subst_vars; simp only [errF_0]) | (rw [show (1 : Int) - u = 0 by omega]; subst_vars; simp only [errF_0])
             · rw [← ht]; assumption)) dX6_bound_55
  refine lv_aload_n hx hb dX6_bound_1 rfl (lv_at hl 0 rfl) ?_
  refine lv_iload_n hx hb dX6_bound_2 rfl (lv_at hl 1 rfl) ?_
  refine g_goi hG hA (va_runV (As := [.int (iI (a))]) (rest := [.ref (ad 0)]) ⟨hx, hb, hml, hown, hts⟩ (mX6_isLayer l D cy ad n st _ fz wb hn hI (by omega) (a) (by omega)) (cwV 1 hts gX6_bound_X6_isLayer rfl rfl rfl (by decide +kernel) ⟨Nat.le_of_ble_eq_true rfl, Nat.le_of_ble_eq_true rfl⟩) ⟨g_blind, va_recv hK hG.1 (q0 := 0) (ci := 6) rfl ((gw_at (by omega)).trans (by rw [gC_0 st ad cy])), g_pre hK hG hA hN hZ⟩ rfl rfl hl.1 rfl (lv_room (Nat.le_of_ble_eq_true rfl)) dX6_bound_3 ⟨Nat.zero_le _, Nat.zero_le _⟩) (fun r9 s9 H locs hp hG => ?_)
  obtain ⟨rfl, hs9⟩ := hp
  rw [hs9] at hG
  clear hs9
  refine r_nm (fun v42 ev42 => ?_)
  have hr43 := inF_s (a) 0 (st 14 0 0 - 1)
  rw [← ev42] at hr43
  refine r_if_eq (tgt := 25) hx hb (by omega) dX6_bound_6 (by decide) (fun c44 => ?_) (fun c44 => ?_)
  · skip
    refine lv_iconst (v := iI (1)) hx hb dX6_bound_25 rfl ?_
    refine lv_goto (tgt := 44) hx hb dX6_bound_26 (by decide) ?_
    exact hlab44 (1)  _ _ _ (by have hks := kAns_s st a o; omega) hG (lv_sub hl [0, 1, 2, 3] rfl)
  · skip
    refine lv_iload_n hx hb dX6_bound_9 rfl (lv_at hl 2 rfl) ?_
    refine lv_iconst (v := iI (0)) hx hb dX6_bound_10 rfl ?_
    refine lv_aload_n hx hb dX6_bound_11 rfl (lv_at hl 0 rfl) ?_
    refine g_get hx hb hts hin6 hown hK hG (key := 0) (by omega) (gC_0 st ad cy) rfl 16 (by decide) L_48 (fun _ h9 => h9) rfl dX6_bound_12 ?_
    refine lv_iload_n hx hb dX6_bound_15 rfl (lv_at hl 1 rfl) ?_
    refine g_iald hx hb hK hG (12) (kd := 12) (o := 0) rfl rfl (by omega) (cp := 16) (ln := 6) rfl rfl (by omega) dX6_bound_16 ?_
    have hr45 := gI_16 hI (0) (a)
    refine r_nm (fun v46 ev46 => ?_)
    rw [← ev46] at hr45
    refine lv_iconst (v := iI (1)) hx hb dX6_bound_17 rfl ?_
    refine r_isub hx hb dX6_bound_18 ?_
    refine r_nm (fun v47 ev47 => ?_)
    refine g_goi hG hA (va_runS (As := [.int (iI (o)), .int (iI (0)), .int (iI (v47))]) (rest := [.ref (ad 0)]) ⟨hx, hb, hml, hown, hts⟩ (mX6_in l D cy ad n st _ fz wb hn hI (by omega) (o) (0) (v47) (by omega) (by omega) (by omega)) (va_cwS 3 hts gX6_bound_X6_in rfl rfl rfl (by decide +kernel) ⟨Nat.le_of_ble_eq_true rfl, Nat.le_of_ble_eq_true rfl⟩) ⟨g_blind, g_pre hK hG hA hN hZ⟩ rfl rfl hl.1 rfl (lv_room (Nat.le_of_ble_eq_true rfl)) dX6_bound_19 ⟨Nat.zero_le _, Nat.zero_le _⟩) (fun r9 s9 H locs hp hG => ?_)
    obtain ⟨rfl, hs9⟩ := hp
    rw [hs9] at hG
    clear hs9
    refine r_nm (fun v48 ev48 => ?_)
    have hr49 := inF_s (o) (0) (v47)
    rw [← ev48] at hr49
    refine r_if_ne (tgt := 29) hx hb (by omega) dX6_bound_22 (by decide) (fun c50 => ?_) (fun c50 => ?_)
    · skip
      refine lv_aload_n hx hb dX6_bound_29 rfl (lv_at hl 0 rfl) ?_
      refine g_get hx hb hts hin6 hown hK hG (key := 0) (by omega) (gC_0 st ad cy) rfl 20 (by decide) L_60 (fun _ h9 => h9) rfl dX6_bound_30 ?_
      refine lv_iload_n hx hb dX6_bound_33 rfl (lv_at hl 1 rfl) ?_
      refine g_iald hx hb hK hG (16) (kd := 16) (o := 0) rfl rfl (by omega) (cp := 20) (ln := 6) rfl rfl (by omega) dX6_bound_34 ?_
      have hr51 := gI_20 hI (0) (a)
      refine r_nm (fun v52 ev52 => ?_)
      rw [← ev52] at hr51
      refine lv_iconst (v := iI (-1)) hx hb dX6_bound_35 rfl ?_
      refine r_icmp_ne (tgt := 43) hx hb (by omega) dX6_bound_36 (by decide) (fun c53 => ?_) (fun c53 => ?_)
      · skip
        refine lv_iconst (v := iI (0)) hx hb dX6_bound_43 rfl ?_
        exact hlab44 (0)  _ _ _ (by have hks := kAns_s st a o; omega) hG (lv_sub hl [0, 1, 2, 3] rfl)
      · skip
        refine lv_iconst (v := iI (2)) hx hb dX6_bound_39 rfl ?_
        refine lv_goto (tgt := 44) hx hb dX6_bound_40 (by decide) ?_
        exact hlab44 (2)  _ _ _ (by have hks := kAns_s st a o; omega) hG (lv_sub hl [0, 1, 2, 3] rfl)
    · skip
      refine lv_iconst (v := iI (1)) hx hb dX6_bound_25 rfl ?_
      refine lv_goto (tgt := 44) hx hb dX6_bound_26 (by decide) ?_
      exact hlab44 (1)  _ _ _ (by have hks := kAns_s st a o; omega) hG (lv_sub hl [0, 1, 2, 3] rfl)
