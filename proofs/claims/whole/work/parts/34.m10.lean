set_option maxHeartbeats 400000 in
set_option maxRecDepth 100000 in
theorem mX6_isTrue (l : Launch) (D : va_G) (cy : Nat → ClassId) (ad : Nat → Nat) (n : Nat) (st : St) (sz fz : Nat) (wb : Int) (hn : 75 ≤ n) (hI : GI wb st) (hW : wb ≤ 2000000) (a : Int) (ha : -2147483648 ≤ a ∧ a < 2147483648) (hsi : ∀ j : Int, st 6 0 j ≤ st 1 0 0) : Met l yX6_isTrue wsX6_isTrue ({ frames := 2, cells := 0, slots := 0, locals := 49 }) (va_Pc [.ref (ad 0), .int (iI (a))] (gB D cy ad n st sz fz)) (va_Qi (fun (r : Int32) (st' : St) => r = iI (aTrue st a) ∧ st' = ust st 0 0 0 (kLay st a) ∧ GI wb st') (gP D cy ad n) (gA n ad sz)) 0 0 (gA n ad sz) := by
  refine Met.ofW (cc := cX6_isTrue) (maxL := 7) (ret := (some .boolean)) (by decide) rfl ?_
  intro p e s m args below meth c s₁ B hml hv
  obtain ⟨rfl, hsz, hP, hK, hD0, hN, hZ⟩ := hv
  have hx := B.exec
  have hb := B.bytes
  have hr := B.returns
  have hts := atoms_spec (ws := wsX6_isTrue) B.pre
  have hown : s.vm.findClass RX6 = some m.cls := findClass_of_methodNamed B.named
  have hlocks := B.notSynchronized
  subst hsz
  have hA : ∀ q : Nat, s.heap.size ≤ q → gA n ad s.heap.size q := fun q h => Or.inr h
  have hG : GH D cy ad n st (gA n ad s.heap.size) s.heap s.heap [] := ⟨hP, gw_A hD0, va_S.rf⟩
  have hl := lv_entry ([.ref (ad 0), .int (iI (a))]) (n := 7) (Nat.le_of_ble_eq_true rfl)
  rw [lg_entry_eq]
  generalize (lg_sl ([.ref (ad 0), .int (iI (a))]) ++ List.replicate (7 - (lg_sl ([.ref (ad 0), .int (iI (a))])).length) Slot.unset).toArray = ls at hl ⊢
  have hl : lv_has ls 7 [(0, .ref (ad 0)), (1, .int (iI (a)))] := hl
  have hin6 : ∀ w ∈ u_ws RX6 TX6 25, w ∈ wsX6_isTrue := by decide +kernel
  have L_45 := hts (.fieldLink RX6 45 "CrossbarryModel" "inputs" "[I") (by decide +kernel)
  have L_48 := hts (.fieldLink RX6 48 "CrossbarryModel" "outputs" "[I") (by decide +kernel)
  have L_60 := hts (.fieldLink RX6 60 "CrossbarryModel" "tileAt" "[I") (by decide +kernel)
  have L_63 := hts (.fieldLink RX6 63 "CrossbarryModel" "rows" "[I") (by decide +kernel)
  have L_75 := hts (.fieldLink RX6 75 "CrossbarryModel" "thrown" "I") (by decide +kernel)
  have hmn := gI_14 hI 0 0
  have hks := kLay_s st a
  have hou := gI_16 hI 0 a
  have hin := gI_15 hI 0 a
  have hta := gI_20 hI 0 a
  refine lv_aload_n hx hb dX6_isTrue_0 rfl (lv_at hl 0 rfl) ?_
  have hlab14 : ∀ (t : Int) (H : Heap) (locs : List Loc) (ls : Array Slot), (t = kLay st a) →  GH D cy ad n st (gA n ad s.heap.size) s.heap H locs → lv_has ls 7 [(0, .ref (ad 0)), (1, .int (iI (a)))] → W p l e (headSpec wsX6_isTrue { frames := 2, cells := 0, slots := 0, locals := 49 }).room s m (#[.ref (ad 0), .int (iI (a))] : Array Value) below meth c H locs 0 0 (MQ below (va_Qi (fun (r : Int32) (st' : St) => r = iI (aTrue st a) ∧ st' = ust st 0 0 0 (kLay st a) ∧ GI wb st') (gP D cy ad n) (gA n ad s.heap.size)) (#[.ref (ad 0), .int (iI (a))] : Array Value) s 0 0 (gA n ad s.heap.size)) (F0 m 14 ls [.int (iI (t)), .ref (ad 0)]) := by
    intro t H locs ls ht hG hl
    refine g_put hx hb hts hin6 tyX6 tyX6_ok nmX6 hown hK hG (key := 0) (by omega) (gC_0 st ad cy) rfl 0 (by decide) L_75 (fun _ h9 => h9) rfl (ty := .int) (by decide +kernel) rfl rfl (Nat.le_of_ble_eq_true rfl) dX6_isTrue_14 (ust st 0 0 0 (t)) (fun j _ => gU_0 st ad cy (t) j) (fun H locs hG => ?_)
    obtain ⟨st1, hst1⟩ : ∃ z : St, z = ust st 0 (0) (0) (t) := ⟨_, rfl⟩
    rw [← hst1] at hG
    replace hI := hst1 ▸ gIu_0 hI (0) (0) (v := t) (by omega)
    have hlab39 : ∀ (isv : Int) (H : Heap) (locs : List Loc) (ls : Array Slot), ((isv = 1 ∧ t = 0 ∧ st 20 0 a ≠ -1) ∨ (isv = 0 ∧ (t ≠ 0 ∨ st 20 0 a = -1))) →  GH D cy ad n st1 (gA n ad s.heap.size) s.heap H locs → lv_has ls 7 [(0, .ref (ad 0)), (1, .int (iI (a)))] → W p l e (headSpec wsX6_isTrue { frames := 2, cells := 0, slots := 0, locals := 49 }).room s m (#[.ref (ad 0), .int (iI (a))] : Array Value) below meth c H locs 0 0 (MQ below (va_Qi (fun (r : Int32) (st' : St) => r = iI (aTrue st a) ∧ st' = ust st 0 0 0 (kLay st a) ∧ GI wb st') (gP D cy ad n) (gA n ad s.heap.size)) (#[.ref (ad 0), .int (iI (a))] : Array Value) s 0 0 (gA n ad s.heap.size)) (F0 m 39 ls [.int (iI (isv))]) := by
      intro isv H locs ls his hG hl
      refine lv_istore_n (lv' := [(2, .int (iI (isv))), (0, .ref (ad 0)), (1, .int (iI (a)))]) hx hb dX6_isTrue_39 rfl hl (by decide) rfl (fun ls hl => ?_)
      refine lv_iconst (v := iI (0)) hx hb dX6_isTrue_40 rfl ?_
      refine lv_istore_n (lv' := [(3, .int (iI (0))), (2, .int (iI (isv))), (0, .ref (ad 0)), (1, .int (iI (a)))]) hx hb dX6_isTrue_41 rfl hl (by decide) rfl (fun ls hl => ?_)
      have hloop42 : ∀ (N : Nat) (x2 : Int) (k : Nat) (H : Heap) (locs : List Loc) (ls : Array Slot), 129 - k < N → ((k : Int) ≤ 16 * st 15 0 a) → ((isv = 1 ∧ x2 = trU st a k) ∨ (isv = 0 ∧ x2 = 0)) →  GH D cy ad n st1 (gA n ad s.heap.size) s.heap H locs → lv_has ls 7 [(2, .int (iI (x2))), (3, .int (iI (((k : Nat) : Int)))), (0, .ref (ad 0)), (1, .int (iI (a)))] → W p l e (headSpec wsX6_isTrue { frames := 2, cells := 0, slots := 0, locals := 49 }).room s m (#[.ref (ad 0), .int (iI (a))] : Array Value) below meth c H locs 0 0 (MQ below (va_Qi (fun (r : Int32) (st' : St) => r = iI (aTrue st a) ∧ st' = ust st 0 0 0 (kLay st a) ∧ GI wb st') (gP D cy ad n) (gA n ad s.heap.size)) (#[.ref (ad 0), .int (iI (a))] : Array Value) s 0 0 (gA n ad s.heap.size)) (F0 m 42 ls []) := by
        intro N
        induction N with
        | zero => intro x2 k H locs ls hm; exact absurd hm (Nat.not_lt_zero _)
        | succ N ih42 =>
          intro x2 k H locs ls hm hk hx2 hG hl
          have htr := trU_r st a k
          have hlab153 : ∀  (H : Heap) (locs : List Loc) (ls : Array Slot), ((isv = 1 ∧ x2 = trU st a (16 * (st 15 0 a).toNat)) ∨ (isv = 0 ∧ x2 = 0)) →  GH D cy ad n st1 (gA n ad s.heap.size) s.heap H locs → lv_has ls 7 [(2, .int (iI (x2))), (3, .int (iI (((k : Nat) : Int)))), (0, .ref (ad 0)), (1, .int (iI (a)))] → W p l e (headSpec wsX6_isTrue { frames := 2, cells := 0, slots := 0, locals := 49 }).room s m (#[.ref (ad 0), .int (iI (a))] : Array Value) below meth c H locs 0 0 (MQ below (va_Qi (fun (r : Int32) (st' : St) => r = iI (aTrue st a) ∧ st' = ust st 0 0 0 (kLay st a) ∧ GI wb st') (gP D cy ad n) (gA n ad s.heap.size)) (#[.ref (ad 0), .int (iI (a))] : Array Value) s 0 0 (gA n ad s.heap.size)) (F0 m 153 ls []) := by
            intro  H locs ls hfin hG hl
            refine lv_iload_n hx hb dX6_isTrue_153 rfl (lv_at hl 0 rfl) ?_
            exact g_zret hx hb hr hlocks (narZ (by omega)) hG (by
              refine ⟨?_, by rw [← ht]; assumption, hI⟩
              congr 1
              unfold aTrue
              rcases his with hq | hq
              · rw [if_pos (by omega)]; omega
              · rw [if_neg (by omega)]; omega) dX6_isTrue_154
          refine lv_iload_n hx hb dX6_isTrue_42 rfl (lv_at hl 0 rfl) ?_
          refine r_if_eq (tgt := 153) hx hb (by omega) dX6_isTrue_43 (by decide) (fun c2 => ?_) (fun c2 => ?_)
          · skip
            exact hlab153   _ _ _ (by first | omega | (rw [show 16 * (st 15 0 a).toNat = k + (16 * (st 15 0 a).toNat - k) by omega]; have := fun h => trU_m (st := st) (a := a) (k := k) h (16 * (st 15 0 a).toNat - k); omega) | (rw [show 16 * (st 15 0 a).toNat = k by omega]; omega)) hG (lv_sub hl [0, 1, 2, 3] rfl)
          · skip
            refine lv_iload_n hx hb dX6_isTrue_46 rfl (lv_at hl 1 rfl) ?_
            refine lv_bipush (v := iI (16)) hx hb dX6_isTrue_47 (by decide +kernel) ?_
            refine lv_aload_n hx hb dX6_isTrue_49 rfl (lv_at hl 2 rfl) ?_
            refine g_get hx hb hts hin6 hown hK hG (key := 0) (by omega) (gC_0 st1 ad cy) rfl 15 (by decide) L_45 (fun _ h9 => h9) rfl dX6_isTrue_50 ?_
            refine lv_iload_n hx hb dX6_isTrue_53 rfl (lv_at hl 3 rfl) ?_
            refine g_iald hx hb hK hG (11) (kd := 11) (o := 0) rfl rfl (by omega) (cp := 15) (ln := 6) rfl rfl (by omega) dX6_isTrue_54 ?_
            have hr3 := gI_15 hI (0) (a)
            have kq4 : st1 15 (0) (a) = st 15 (0) (a) := by rw [hst1, ust_c (by decide)]
            rw [kq4] at hr3
            refine r_as kq4 ?_
            clear kq4
            refine r_nm (fun v5 ev5 => ?_)
            rw [← ev5] at hr3
            refine r_imul hx hb dX6_isTrue_55 ?_
            refine r_nm (fun v6 ev6 => ?_)
            refine r_icmp_ge (tgt := 153) hx hb (by omega) dX6_isTrue_56 (by decide) (fun c7 => ?_) (fun c7 => ?_)
            · skip
              exact hlab153   _ _ _ (by first | omega | (rw [show 16 * (st 15 0 a).toNat = k + (16 * (st 15 0 a).toNat - k) by omega]; have := fun h => trU_m (st := st) (a := a) (k := k) h (16 * (st 15 0 a).toNat - k); omega) | (rw [show 16 * (st 15 0 a).toNat = k by omega]; omega)) hG (lv_sub hl [0, 1, 2, 3] rfl)
            · skip
              refine lv_iload_n hx hb dX6_isTrue_59 rfl (lv_at hl 1 rfl) ?_
              refine lv_bipush (v := iI (16)) hx hb dX6_isTrue_60 (by decide +kernel) ?_
              refine r_idiv hx hb (by omega) dX6_isTrue_62 ?_
              refine r_nm (fun v8 ev8 => ?_)
              refine lv_istore (lv' := [(4, .int (iI (v8))), (2, .int (iI (x2))), (3, .int (iI (((k : Nat) : Int)))), (0, .ref (ad 0)), (1, .int (iI (a)))]) hx hb dX6_isTrue_63 hl (by decide) rfl (fun ls hl => ?_)
              refine lv_iload_n hx hb dX6_isTrue_65 rfl (lv_at hl 2 rfl) ?_
              refine lv_bipush (v := iI (16)) hx hb dX6_isTrue_66 (by decide +kernel) ?_
              refine r_irem hx hb (by omega) dX6_isTrue_68 ?_
              refine r_nm (fun v9 ev9 => ?_)
              refine lv_istore (lv' := [(5, .int (iI (v9))), (4, .int (iI (v8))), (2, .int (iI (x2))), (3, .int (iI (((k : Nat) : Int)))), (0, .ref (ad 0)), (1, .int (iI (a)))]) hx hb dX6_isTrue_69 hl (by decide) rfl (fun ls hl => ?_)
              refine lv_iload hx hb dX6_isTrue_71 (lv_at hl 0 rfl) ?_
              refine lv_iconst (v := iI (4)) hx hb dX6_isTrue_73 rfl ?_
              refine lv_aload_n hx hb dX6_isTrue_74 rfl (lv_at hl 4 rfl) ?_
              refine g_get hx hb hts hin6 hown hK hG (key := 0) (by omega) (gC_0 st1 ad cy) rfl 16 (by decide) L_48 (fun _ h9 => h9) rfl dX6_isTrue_75 ?_
              refine lv_iload_n hx hb dX6_isTrue_78 rfl (lv_at hl 5 rfl) ?_
              refine g_iald hx hb hK hG (12) (kd := 12) (o := 0) rfl rfl (by omega) (cp := 16) (ln := 6) rfl rfl (by omega) dX6_isTrue_79 ?_
              have hr10 := gI_16 hI (0) (a)
              have kq11 : st1 16 (0) (a) = st 16 (0) (a) := by rw [hst1, ust_c (by decide)]
              rw [kq11] at hr10
              refine r_as kq11 ?_
              clear kq11
              refine r_nm (fun v12 ev12 => ?_)
              rw [← ev12] at hr10
              refine r_imul hx hb dX6_isTrue_80 ?_
              refine r_nm (fun v13 ev13 => ?_)
              refine r_icmp_ge (tgt := 88) hx hb (by omega) dX6_isTrue_81 (by decide) (fun c14 => ?_) (fun c14 => ?_)
              · skip
                refine lv_iconst (v := iI (0)) hx hb dX6_isTrue_88 rfl ?_
                refine lv_istore (lv' := [(6, .int (iI (0))), (5, .int (iI (v9))), (4, .int (iI (v8))), (2, .int (iI (x2))), (3, .int (iI (((k : Nat) : Int)))), (0, .ref (ad 0)), (1, .int (iI (a)))]) hx hb dX6_isTrue_89 hl (by decide) rfl (fun ls hl => ?_)
                refine lv_iload hx hb dX6_isTrue_91 (lv_at hl 0 rfl) ?_
                refine r_if_eq (tgt := 141) hx hb (by omega) dX6_isTrue_93 (by decide) (fun c15 => ?_) (fun c15 => ?_)
                · skip
                  refine lv_iconst (v := iI (1)) hx hb dX6_isTrue_141 rfl ?_
                  refine lv_goto (tgt := 146) hx hb dX6_isTrue_142 (by decide) ?_
                  refine lv_istore_n (lv' := [(2, .int (iI (1))), (6, .int (iI (0))), (5, .int (iI (v9))), (4, .int (iI (v8))), (3, .int (iI (((k : Nat) : Int)))), (0, .ref (ad 0)), (1, .int (iI (a)))]) hx hb dX6_isTrue_146 rfl hl (by decide) rfl (fun ls hl => ?_)
                  obtain ⟨v16, ev16⟩ : ∃ y9 : Int, y9 = ((k : Nat) : Int) + (1) := ⟨_, rfl⟩
                  refine lv_iinc (v := iI v16) (lv' := [(3, .int (iI (v16))), (2, .int (iI (1))), (6, .int (iI (0))), (5, .int (iI (v9))), (4, .int (iI (v8))), (0, .ref (ad 0)), (1, .int (iI (a)))]) hx hb dX6_isTrue_147 hl (k := 4) rfl (by rw [ev16]; exact iI_add _ _) (by decide) rfl (fun ls hl => ?_)
                  refine lv_goto (tgt := 42) hx hb dX6_isTrue_150 (by decide) ?_
                  rw [show (v16 : Int) = (((k + 1) : Nat) : Int) from by omega] at hl
                  exact ih42 (1) (k + 1) _ _ _ (by omega) (by omega) (by refine Or.inl ⟨by omega, ?_⟩; rw [trU_s, if_neg (by omega)]; unfold okF; first | (rw [if_pos (fun q => absurd q (by omega))]; done) | (rw [← hcn, ← hnn]; first | (rw [if_pos (fun _ => by omega)]; done) | (rw [if_neg (fun q => by have := q (by omega); omega)]; done))) hG (lv_sub hl [1, 0, 5, 6] rfl)
                · skip
                  refine lv_aload_n hx hb dX6_isTrue_96 rfl (lv_at hl 5 rfl) ?_
                  refine lv_aload_n hx hb dX6_isTrue_97 rfl (lv_at hl 5 rfl) ?_
                  refine g_get hx hb hts hin6 hown hK hG (key := 0) (by omega) (gC_0 st1 ad cy) rfl 20 (by decide) L_60 (fun _ h9 => h9) rfl dX6_isTrue_98 ?_
                  refine lv_iload_n hx hb dX6_isTrue_101 rfl (lv_at hl 6 rfl) ?_
                  refine g_iald hx hb hK hG (16) (kd := 16) (o := 0) rfl rfl (by omega) (cp := 20) (ln := 6) rfl rfl (by omega) dX6_isTrue_102 ?_
                  have hr17 := gI_20 hI (0) (a)
                  have kq18 : st1 20 (0) (a) = st 20 (0) (a) := by rw [hst1, ust_c (by decide)]
                  rw [kq18] at hr17
                  refine r_as kq18 ?_
                  clear kq18
                  refine r_nm (fun v19 ev19 => ?_)
                  rw [← ev19] at hr17
                  refine lv_aload_n hx hb dX6_isTrue_103 rfl (lv_at hl 5 rfl) ?_
                  refine g_get hx hb hts hin6 hown hK hG (key := 0) (by omega) (gC_0 st1 ad cy) rfl 21 (by decide) L_63 (fun _ h9 => h9) rfl dX6_isTrue_104 ?_
                  refine lv_bipush (v := iI (8)) hx hb dX6_isTrue_107 (by decide +kernel) ?_
                  refine lv_iload_n hx hb dX6_isTrue_109 rfl (lv_at hl 6 rfl) ?_
                  refine r_imul hx hb dX6_isTrue_110 ?_
                  refine r_nm (fun v20 ev20 => ?_)
                  refine lv_iload hx hb dX6_isTrue_111 (lv_at hl 2 rfl) ?_
                  refine r_iadd hx hb dX6_isTrue_113 ?_
                  refine r_nm (fun v21 ev21 => ?_)
                  refine g_iald hx hb hK hG (17) (kd := 17) (o := 0) rfl rfl (by omega) (cp := 21) (ln := 48) rfl rfl (by omega) dX6_isTrue_114 ?_
                  have hr22 := gI_21 hI (0) (v21)
                  have kq23 : st1 21 (0) (v21) = st 21 (0) (v21) := by rw [hst1, ust_c (by decide)]
                  rw [kq23] at hr22
                  refine r_as kq23 ?_
                  clear kq23
                  refine r_nm (fun v24 ev24 => ?_)
                  rw [← ev24] at hr22
                  refine lv_iload hx hb dX6_isTrue_115 (lv_at hl 1 rfl) ?_
                  refine g_goi hG hA (va_runS (As := [.int (iI (v19)), .int (iI (v24)), .int (iI (v9))]) (rest := [.ref (ad 0)]) ⟨hx, hb, hml, hown, hts⟩ (mX6_cellAt l D cy ad n st1 _ fz wb hn hI (by omega) (v19) (v24) (v9) ) (va_cwS 3 hts gX6_isTrue_X6_cellAt rfl rfl rfl (by decide +kernel) ⟨Nat.le_of_ble_eq_true rfl, Nat.le_of_ble_eq_true rfl⟩) ⟨g_blind, g_pre hK hG hA hN hZ⟩ rfl rfl hl.1 rfl (lv_room (Nat.le_of_ble_eq_true rfl)) dX6_isTrue_117 ⟨Nat.zero_le _, Nat.zero_le _⟩) (fun r9 s9 H locs hp hG => ?_)
                  obtain ⟨rfl, hs9⟩ := hp
                  rw [hs9] at hG
                  clear hs9
                  refine r_nm (fun v25 ev25 => ?_)
                  have hq8 : st1 6 0 (v25) ≤ st1 1 0 0 := by rw [hst1, ust_c (by decide), ust_c (by decide)]; exact hsi _
                  refine g_goi hG hA (va_runV (As := [.int (iI (v25))]) (rest := []) ⟨hx, hb, hml, hown, hts⟩ (mX6_conducts l D cy ad n st1 _ fz wb hn hI (by omega) (v25) (by omega) (by omega)) (cwV 1 hts gX6_isTrue_X6_conducts rfl rfl rfl (by decide +kernel) ⟨Nat.le_of_ble_eq_true rfl, Nat.le_of_ble_eq_true rfl⟩) ⟨g_blind, va_recv hK hG.1 (q0 := 0) (ci := 6) rfl ((gw_at (by omega)).trans (by rw [gC_0 st1 ad cy])), g_pre hK hG hA hN hZ⟩ rfl rfl hl.1 rfl (lv_room (Nat.le_of_ble_eq_true rfl)) dX6_isTrue_120 ⟨Nat.zero_le _, Nat.zero_le _⟩) (fun r9 s9 H locs hp hG => ?_)
                  obtain ⟨rfl, hs9⟩ := hp
                  rw [hs9] at hG
                  clear hs9
                  refine r_nm (fun v26 ev26 => ?_)
                  have hr27 := conM_r hI (v25) (by omega)
                  rw [← ev26] at hr27
                  have hcn : v26 = conM st (128 * st 20 0 a + 16 * st 21 0 (8 * a + (k : Int) / 16) + (k : Int) % 16) := by subst_vars; exact conM_u0 _ _ _
                  refine lv_aload_n hx hb dX6_isTrue_123 rfl (lv_at hl 5 rfl) ?_
                  refine lv_iload_n hx hb dX6_isTrue_124 rfl (lv_at hl 6 rfl) ?_
                  refine lv_iload hx hb dX6_isTrue_125 (lv_at hl 2 rfl) ?_
                  refine lv_iload hx hb dX6_isTrue_127 (lv_at hl 1 rfl) ?_
                  refine lv_iconst (v := iI (4)) hx hb dX6_isTrue_129 rfl ?_
                  refine r_idiv hx hb (by omega) dX6_isTrue_130 ?_
                  refine r_nm (fun v28 ev28 => ?_)
                  refine lv_iload hx hb dX6_isTrue_131 (lv_at hl 1 rfl) ?_
                  refine lv_iconst (v := iI (4)) hx hb dX6_isTrue_133 rfl ?_
                  refine r_irem hx hb (by omega) dX6_isTrue_134 ?_
                  refine r_nm (fun v29 ev29 => ?_)
                  refine g_goi hG hA (va_runV (As := [.int (iI (a)), .int (iI (v8)), .int (iI (v28)), .int (iI (v29))]) (rest := [.int (iI (v26))]) ⟨hx, hb, hml, hown, hts⟩ (mX6_needs l D cy ad n st1 _ fz wb hn hI (by omega) (a) (v8) (v28) (v29) (by omega) (by omega) (by omega) (by omega)) (cwV 4 hts gX6_isTrue_X6_needs rfl rfl rfl (by decide +kernel) ⟨Nat.le_of_ble_eq_true rfl, Nat.le_of_ble_eq_true rfl⟩) ⟨g_blind, va_recv hK hG.1 (q0 := 0) (ci := 6) rfl ((gw_at (by omega)).trans (by rw [gC_0 st1 ad cy])), g_pre hK hG hA hN hZ⟩ rfl rfl hl.1 rfl (lv_room (Nat.le_of_ble_eq_true rfl)) dX6_isTrue_135 ⟨Nat.zero_le _, Nat.zero_le _⟩) (fun r9 s9 H locs hp hG => ?_)
                  obtain ⟨rfl, hs9⟩ := hp
                  rw [hs9] at hG
                  clear hs9
                  refine r_nm (fun v30 ev30 => ?_)
                  have hr31 := needV_r (gI_17 hI 0 (32 * (a) + 4 * (v8) + (v28))) (v29)
                  rw [← ev30] at hr31
                  have hnn : v30 = needV (st 17 0 (32 * a + 4 * ((k : Int) / 16) + (k : Int) % 16 / 4)) ((k : Int) % 16 % 4) := by subst_vars; rfl
                  refine r_icmp_ne (tgt := 145) hx hb (by omega) dX6_isTrue_138 (by decide) (fun c32 => ?_) (fun c32 => ?_)
                  · skip
                    refine lv_iconst (v := iI (0)) hx hb dX6_isTrue_145 rfl ?_
                    refine lv_istore_n (lv' := [(2, .int (iI (0))), (6, .int (iI (0))), (5, .int (iI (v9))), (4, .int (iI (v8))), (3, .int (iI (((k : Nat) : Int)))), (0, .ref (ad 0)), (1, .int (iI (a)))]) hx hb dX6_isTrue_146 rfl hl (by decide) rfl (fun ls hl => ?_)
                    obtain ⟨v33, ev33⟩ : ∃ y9 : Int, y9 = ((k : Nat) : Int) + (1) := ⟨_, rfl⟩
                    refine lv_iinc (v := iI v33) (lv' := [(3, .int (iI (v33))), (2, .int (iI (0))), (6, .int (iI (0))), (5, .int (iI (v9))), (4, .int (iI (v8))), (0, .ref (ad 0)), (1, .int (iI (a)))]) hx hb dX6_isTrue_147 hl (k := 4) rfl (by rw [ev33]; exact iI_add _ _) (by decide) rfl (fun ls hl => ?_)
                    refine lv_goto (tgt := 42) hx hb dX6_isTrue_150 (by decide) ?_
                    rw [show (v33 : Int) = (((k + 1) : Nat) : Int) from by omega] at hl
                    exact ih42 (0) (k + 1) _ _ _ (by omega) (by omega) (by refine Or.inl ⟨by omega, ?_⟩; rw [trU_s, if_neg (by omega)]; unfold okF; first | (rw [if_pos (fun q => absurd q (by omega))]; done) | (rw [← hcn, ← hnn]; first | (rw [if_pos (fun _ => by omega)]; done) | (rw [if_neg (fun q => by have := q (by omega); omega)]; done))) hG (lv_sub hl [1, 0, 5, 6] rfl)
                  · skip
                    refine lv_iconst (v := iI (1)) hx hb dX6_isTrue_141 rfl ?_
                    refine lv_goto (tgt := 146) hx hb dX6_isTrue_142 (by decide) ?_
                    refine lv_istore_n (lv' := [(2, .int (iI (1))), (6, .int (iI (0))), (5, .int (iI (v9))), (4, .int (iI (v8))), (3, .int (iI (((k : Nat) : Int)))), (0, .ref (ad 0)), (1, .int (iI (a)))]) hx hb dX6_isTrue_146 rfl hl (by decide) rfl (fun ls hl => ?_)
                    obtain ⟨v34, ev34⟩ : ∃ y9 : Int, y9 = ((k : Nat) : Int) + (1) := ⟨_, rfl⟩
                    refine lv_iinc (v := iI v34) (lv' := [(3, .int (iI (v34))), (2, .int (iI (1))), (6, .int (iI (0))), (5, .int (iI (v9))), (4, .int (iI (v8))), (0, .ref (ad 0)), (1, .int (iI (a)))]) hx hb dX6_isTrue_147 hl (k := 4) rfl (by rw [ev34]; exact iI_add _ _) (by decide) rfl (fun ls hl => ?_)
                    refine lv_goto (tgt := 42) hx hb dX6_isTrue_150 (by decide) ?_
                    rw [show (v34 : Int) = (((k + 1) : Nat) : Int) from by omega] at hl
                    exact ih42 (1) (k + 1) _ _ _ (by omega) (by omega) (by refine Or.inl ⟨by omega, ?_⟩; rw [trU_s, if_neg (by omega)]; unfold okF; first | (rw [if_pos (fun q => absurd q (by omega))]; done) | (rw [← hcn, ← hnn]; first | (rw [if_pos (fun _ => by omega)]; done) | (rw [if_neg (fun q => by have := q (by omega); omega)]; done))) hG (lv_sub hl [1, 0, 5, 6] rfl)
              · skip
                refine lv_iconst (v := iI (1)) hx hb dX6_isTrue_84 rfl ?_
                refine lv_goto (tgt := 89) hx hb dX6_isTrue_85 (by decide) ?_
                refine lv_istore (lv' := [(6, .int (iI (1))), (5, .int (iI (v9))), (4, .int (iI (v8))), (2, .int (iI (x2))), (3, .int (iI (((k : Nat) : Int)))), (0, .ref (ad 0)), (1, .int (iI (a)))]) hx hb dX6_isTrue_89 hl (by decide) rfl (fun ls hl => ?_)
                refine lv_iload hx hb dX6_isTrue_91 (lv_at hl 0 rfl) ?_
                refine r_if_eq (tgt := 141) hx hb (by omega) dX6_isTrue_93 (by decide) (fun c35 => ?_) (fun c35 => ?_)
                · skip
                  refine lv_iconst (v := iI (1)) hx hb dX6_isTrue_141 rfl ?_
                  refine lv_goto (tgt := 146) hx hb dX6_isTrue_142 (by decide) ?_
                  refine lv_istore_n (lv' := [(2, .int (iI (1))), (6, .int (iI (1))), (5, .int (iI (v9))), (4, .int (iI (v8))), (3, .int (iI (((k : Nat) : Int)))), (0, .ref (ad 0)), (1, .int (iI (a)))]) hx hb dX6_isTrue_146 rfl hl (by decide) rfl (fun ls hl => ?_)
                  obtain ⟨v36, ev36⟩ : ∃ y9 : Int, y9 = ((k : Nat) : Int) + (1) := ⟨_, rfl⟩
                  refine lv_iinc (v := iI v36) (lv' := [(3, .int (iI (v36))), (2, .int (iI (1))), (6, .int (iI (1))), (5, .int (iI (v9))), (4, .int (iI (v8))), (0, .ref (ad 0)), (1, .int (iI (a)))]) hx hb dX6_isTrue_147 hl (k := 4) rfl (by rw [ev36]; exact iI_add _ _) (by decide) rfl (fun ls hl => ?_)
                  refine lv_goto (tgt := 42) hx hb dX6_isTrue_150 (by decide) ?_
                  rw [show (v36 : Int) = (((k + 1) : Nat) : Int) from by omega] at hl
                  exact ih42 (1) (k + 1) _ _ _ (by omega) (by omega) (by refine Or.inl ⟨by omega, ?_⟩; rw [trU_s, if_neg (by omega)]; unfold okF; first | (rw [if_pos (fun q => absurd q (by omega))]; done) | (rw [← hcn, ← hnn]; first | (rw [if_pos (fun _ => by omega)]; done) | (rw [if_neg (fun q => by have := q (by omega); omega)]; done))) hG (lv_sub hl [1, 0, 5, 6] rfl)
                · skip
                  refine lv_aload_n hx hb dX6_isTrue_96 rfl (lv_at hl 5 rfl) ?_
                  refine lv_aload_n hx hb dX6_isTrue_97 rfl (lv_at hl 5 rfl) ?_
                  refine g_get hx hb hts hin6 hown hK hG (key := 0) (by omega) (gC_0 st1 ad cy) rfl 20 (by decide) L_60 (fun _ h9 => h9) rfl dX6_isTrue_98 ?_
                  refine lv_iload_n hx hb dX6_isTrue_101 rfl (lv_at hl 6 rfl) ?_
                  refine g_iald hx hb hK hG (16) (kd := 16) (o := 0) rfl rfl (by omega) (cp := 20) (ln := 6) rfl rfl (by omega) dX6_isTrue_102 ?_
                  have hr37 := gI_20 hI (0) (a)
                  have kq38 : st1 20 (0) (a) = st 20 (0) (a) := by rw [hst1, ust_c (by decide)]
                  rw [kq38] at hr37
                  refine r_as kq38 ?_
                  clear kq38
                  refine r_nm (fun v39 ev39 => ?_)
                  rw [← ev39] at hr37
                  refine lv_aload_n hx hb dX6_isTrue_103 rfl (lv_at hl 5 rfl) ?_
                  refine g_get hx hb hts hin6 hown hK hG (key := 0) (by omega) (gC_0 st1 ad cy) rfl 21 (by decide) L_63 (fun _ h9 => h9) rfl dX6_isTrue_104 ?_
                  refine lv_bipush (v := iI (8)) hx hb dX6_isTrue_107 (by decide +kernel) ?_
                  refine lv_iload_n hx hb dX6_isTrue_109 rfl (lv_at hl 6 rfl) ?_
                  refine r_imul hx hb dX6_isTrue_110 ?_
                  refine r_nm (fun v40 ev40 => ?_)
                  refine lv_iload hx hb dX6_isTrue_111 (lv_at hl 2 rfl) ?_
                  refine r_iadd hx hb dX6_isTrue_113 ?_
                  refine r_nm (fun v41 ev41 => ?_)
                  refine g_iald hx hb hK hG (17) (kd := 17) (o := 0) rfl rfl (by omega) (cp := 21) (ln := 48) rfl rfl (by omega) dX6_isTrue_114 ?_
                  have hr42 := gI_21 hI (0) (v41)
                  have kq43 : st1 21 (0) (v41) = st 21 (0) (v41) := by rw [hst1, ust_c (by decide)]
                  rw [kq43] at hr42
                  refine r_as kq43 ?_
                  clear kq43
                  refine r_nm (fun v44 ev44 => ?_)
                  rw [← ev44] at hr42
                  refine lv_iload hx hb dX6_isTrue_115 (lv_at hl 1 rfl) ?_
                  refine g_goi hG hA (va_runS (As := [.int (iI (v39)), .int (iI (v44)), .int (iI (v9))]) (rest := [.ref (ad 0)]) ⟨hx, hb, hml, hown, hts⟩ (mX6_cellAt l D cy ad n st1 _ fz wb hn hI (by omega) (v39) (v44) (v9) ) (va_cwS 3 hts gX6_isTrue_X6_cellAt rfl rfl rfl (by decide +kernel) ⟨Nat.le_of_ble_eq_true rfl, Nat.le_of_ble_eq_true rfl⟩) ⟨g_blind, g_pre hK hG hA hN hZ⟩ rfl rfl hl.1 rfl (lv_room (Nat.le_of_ble_eq_true rfl)) dX6_isTrue_117 ⟨Nat.zero_le _, Nat.zero_le _⟩) (fun r9 s9 H locs hp hG => ?_)
                  obtain ⟨rfl, hs9⟩ := hp
                  rw [hs9] at hG
                  clear hs9
                  refine r_nm (fun v45 ev45 => ?_)
                  have hq8 : st1 6 0 (v45) ≤ st1 1 0 0 := by rw [hst1, ust_c (by decide), ust_c (by decide)]; exact hsi _
                  refine g_goi hG hA (va_runV (As := [.int (iI (v45))]) (rest := []) ⟨hx, hb, hml, hown, hts⟩ (mX6_conducts l D cy ad n st1 _ fz wb hn hI (by omega) (v45) (by omega) (by omega)) (cwV 1 hts gX6_isTrue_X6_conducts rfl rfl rfl (by decide +kernel) ⟨Nat.le_of_ble_eq_true rfl, Nat.le_of_ble_eq_true rfl⟩) ⟨g_blind, va_recv hK hG.1 (q0 := 0) (ci := 6) rfl ((gw_at (by omega)).trans (by rw [gC_0 st1 ad cy])), g_pre hK hG hA hN hZ⟩ rfl rfl hl.1 rfl (lv_room (Nat.le_of_ble_eq_true rfl)) dX6_isTrue_120 ⟨Nat.zero_le _, Nat.zero_le _⟩) (fun r9 s9 H locs hp hG => ?_)
                  obtain ⟨rfl, hs9⟩ := hp
                  rw [hs9] at hG
                  clear hs9
                  refine r_nm (fun v46 ev46 => ?_)
                  have hr47 := conM_r hI (v45) (by omega)
                  rw [← ev46] at hr47
                  have hcn : v46 = conM st (128 * st 20 0 a + 16 * st 21 0 (8 * a + (k : Int) / 16) + (k : Int) % 16) := by subst_vars; exact conM_u0 _ _ _
                  refine lv_aload_n hx hb dX6_isTrue_123 rfl (lv_at hl 5 rfl) ?_
                  refine lv_iload_n hx hb dX6_isTrue_124 rfl (lv_at hl 6 rfl) ?_
                  refine lv_iload hx hb dX6_isTrue_125 (lv_at hl 2 rfl) ?_
                  refine lv_iload hx hb dX6_isTrue_127 (lv_at hl 1 rfl) ?_
                  refine lv_iconst (v := iI (4)) hx hb dX6_isTrue_129 rfl ?_
                  refine r_idiv hx hb (by omega) dX6_isTrue_130 ?_
                  refine r_nm (fun v48 ev48 => ?_)
                  refine lv_iload hx hb dX6_isTrue_131 (lv_at hl 1 rfl) ?_
                  refine lv_iconst (v := iI (4)) hx hb dX6_isTrue_133 rfl ?_
                  refine r_irem hx hb (by omega) dX6_isTrue_134 ?_
                  refine r_nm (fun v49 ev49 => ?_)
                  refine g_goi hG hA (va_runV (As := [.int (iI (a)), .int (iI (v8)), .int (iI (v48)), .int (iI (v49))]) (rest := [.int (iI (v46))]) ⟨hx, hb, hml, hown, hts⟩ (mX6_needs l D cy ad n st1 _ fz wb hn hI (by omega) (a) (v8) (v48) (v49) (by omega) (by omega) (by omega) (by omega)) (cwV 4 hts gX6_isTrue_X6_needs rfl rfl rfl (by decide +kernel) ⟨Nat.le_of_ble_eq_true rfl, Nat.le_of_ble_eq_true rfl⟩) ⟨g_blind, va_recv hK hG.1 (q0 := 0) (ci := 6) rfl ((gw_at (by omega)).trans (by rw [gC_0 st1 ad cy])), g_pre hK hG hA hN hZ⟩ rfl rfl hl.1 rfl (lv_room (Nat.le_of_ble_eq_true rfl)) dX6_isTrue_135 ⟨Nat.zero_le _, Nat.zero_le _⟩) (fun r9 s9 H locs hp hG => ?_)
                  obtain ⟨rfl, hs9⟩ := hp
                  rw [hs9] at hG
                  clear hs9
                  refine r_nm (fun v50 ev50 => ?_)
                  have hr51 := needV_r (gI_17 hI 0 (32 * (a) + 4 * (v8) + (v48))) (v49)
                  rw [← ev50] at hr51
                  have hnn : v50 = needV (st 17 0 (32 * a + 4 * ((k : Int) / 16) + (k : Int) % 16 / 4)) ((k : Int) % 16 % 4) := by subst_vars; rfl
                  refine r_icmp_ne (tgt := 145) hx hb (by omega) dX6_isTrue_138 (by decide) (fun c52 => ?_) (fun c52 => ?_)
                  · skip
                    refine lv_iconst (v := iI (0)) hx hb dX6_isTrue_145 rfl ?_
                    refine lv_istore_n (lv' := [(2, .int (iI (0))), (6, .int (iI (1))), (5, .int (iI (v9))), (4, .int (iI (v8))), (3, .int (iI (((k : Nat) : Int)))), (0, .ref (ad 0)), (1, .int (iI (a)))]) hx hb dX6_isTrue_146 rfl hl (by decide) rfl (fun ls hl => ?_)
                    obtain ⟨v53, ev53⟩ : ∃ y9 : Int, y9 = ((k : Nat) : Int) + (1) := ⟨_, rfl⟩
                    refine lv_iinc (v := iI v53) (lv' := [(3, .int (iI (v53))), (2, .int (iI (0))), (6, .int (iI (1))), (5, .int (iI (v9))), (4, .int (iI (v8))), (0, .ref (ad 0)), (1, .int (iI (a)))]) hx hb dX6_isTrue_147 hl (k := 4) rfl (by rw [ev53]; exact iI_add _ _) (by decide) rfl (fun ls hl => ?_)
                    refine lv_goto (tgt := 42) hx hb dX6_isTrue_150 (by decide) ?_
                    rw [show (v53 : Int) = (((k + 1) : Nat) : Int) from by omega] at hl
                    exact ih42 (0) (k + 1) _ _ _ (by omega) (by omega) (by refine Or.inl ⟨by omega, ?_⟩; rw [trU_s, if_neg (by omega)]; unfold okF; first | (rw [if_pos (fun q => absurd q (by omega))]; done) | (rw [← hcn, ← hnn]; first | (rw [if_pos (fun _ => by omega)]; done) | (rw [if_neg (fun q => by have := q (by omega); omega)]; done))) hG (lv_sub hl [1, 0, 5, 6] rfl)
                  · skip
                    refine lv_iconst (v := iI (1)) hx hb dX6_isTrue_141 rfl ?_
                    refine lv_goto (tgt := 146) hx hb dX6_isTrue_142 (by decide) ?_
                    refine lv_istore_n (lv' := [(2, .int (iI (1))), (6, .int (iI (1))), (5, .int (iI (v9))), (4, .int (iI (v8))), (3, .int (iI (((k : Nat) : Int)))), (0, .ref (ad 0)), (1, .int (iI (a)))]) hx hb dX6_isTrue_146 rfl hl (by decide) rfl (fun ls hl => ?_)
                    obtain ⟨v54, ev54⟩ : ∃ y9 : Int, y9 = ((k : Nat) : Int) + (1) := ⟨_, rfl⟩
                    refine lv_iinc (v := iI v54) (lv' := [(3, .int (iI (v54))), (2, .int (iI (1))), (6, .int (iI (1))), (5, .int (iI (v9))), (4, .int (iI (v8))), (0, .ref (ad 0)), (1, .int (iI (a)))]) hx hb dX6_isTrue_147 hl (k := 4) rfl (by rw [ev54]; exact iI_add _ _) (by decide) rfl (fun ls hl => ?_)
                    refine lv_goto (tgt := 42) hx hb dX6_isTrue_150 (by decide) ?_
                    rw [show (v54 : Int) = (((k + 1) : Nat) : Int) from by omega] at hl
                    exact ih42 (1) (k + 1) _ _ _ (by omega) (by omega) (by refine Or.inl ⟨by omega, ?_⟩; rw [trU_s, if_neg (by omega)]; unfold okF; first | (rw [if_pos (fun q => absurd q (by omega))]; done) | (rw [← hcn, ← hnn]; first | (rw [if_pos (fun _ => by omega)]; done) | (rw [if_neg (fun q => by have := q (by omega); omega)]; done))) hG (lv_sub hl [1, 0, 5, 6] rfl)
      exact hloop42 _ (isv) (0) _ _ _ (Nat.lt_succ_self _) (by omega) (by have : trU st a 0 = 1 := rfl; omega) hG (lv_sub hl [1, 0, 2, 3] rfl)
    refine lv_aload_n hx hb dX6_isTrue_17 rfl (lv_at hl 0 rfl) ?_
    refine g_get hx hb hts hin6 hown hK hG (key := 0) (by omega) (gC_0 st1 ad cy) rfl 0 (by decide) L_75 (fun _ h9 => h9) rfl dX6_isTrue_18 ?_
    have hr55 := gI_0 hI (0) (0)
    have kq56 : st1 0 (0) (0) = t := by rw [hst1, ust_s]
    rw [kq56] at hr55
    refine r_as kq56 ?_
    clear kq56
    refine r_if_ne (tgt := 38) hx hb (by omega) dX6_isTrue_21 (by decide) (fun c57 => ?_) (fun c57 => ?_)
    · skip
      refine lv_iconst (v := iI (0)) hx hb dX6_isTrue_38 rfl ?_
      exact hlab39 (0)  _ _ _ (by omega) hG (lv_sub hl [0, 1] rfl)
    · skip
      refine lv_aload_n hx hb dX6_isTrue_24 rfl (lv_at hl 0 rfl) ?_
      refine g_get hx hb hts hin6 hown hK hG (key := 0) (by omega) (gC_0 st1 ad cy) rfl 20 (by decide) L_60 (fun _ h9 => h9) rfl dX6_isTrue_25 ?_
      refine lv_iload_n hx hb dX6_isTrue_28 rfl (lv_at hl 1 rfl) ?_
      refine g_iald hx hb hK hG (16) (kd := 16) (o := 0) rfl rfl (by omega) (cp := 20) (ln := 6) rfl rfl (by omega) dX6_isTrue_29 ?_
      have hr58 := gI_20 hI (0) (a)
      have kq59 : st1 20 (0) (a) = st 20 (0) (a) := by rw [hst1, ust_c (by decide)]
      rw [kq59] at hr58
      refine r_as kq59 ?_
      clear kq59
      refine r_nm (fun v60 ev60 => ?_)
      rw [← ev60] at hr58
      refine lv_iconst (v := iI (-1)) hx hb dX6_isTrue_30 rfl ?_
      refine r_icmp_eq (tgt := 38) hx hb (by omega) dX6_isTrue_31 (by decide) (fun c61 => ?_) (fun c61 => ?_)
      · skip
        refine lv_iconst (v := iI (0)) hx hb dX6_isTrue_38 rfl ?_
        exact hlab39 (0)  _ _ _ (by omega) hG (lv_sub hl [0, 1] rfl)
      · skip
        refine lv_iconst (v := iI (1)) hx hb dX6_isTrue_34 rfl ?_
        refine lv_goto (tgt := 39) hx hb dX6_isTrue_35 (by decide) ?_
        exact hlab39 (1)  _ _ _ (by omega) hG (lv_sub hl [0, 1] rfl)
  refine lv_aload_n hx hb dX6_isTrue_1 rfl (lv_at hl 0 rfl) ?_
  refine lv_iload_n hx hb dX6_isTrue_2 rfl (lv_at hl 1 rfl) ?_
  refine g_goi hG hA (va_runV (As := [.int (iI (a))]) (rest := [.ref (ad 0)]) ⟨hx, hb, hml, hown, hts⟩ (mX6_isLayer l D cy ad n st _ fz wb hn hI (by omega) (a) (by omega)) (cwV 1 hts gX6_isTrue_X6_isLayer rfl rfl rfl (by decide +kernel) ⟨Nat.le_of_ble_eq_true rfl, Nat.le_of_ble_eq_true rfl⟩) ⟨g_blind, va_recv hK hG.1 (q0 := 0) (ci := 6) rfl ((gw_at (by omega)).trans (by rw [gC_0 st ad cy])), g_pre hK hG hA hN hZ⟩ rfl rfl hl.1 rfl (lv_room (Nat.le_of_ble_eq_true rfl)) dX6_isTrue_3 ⟨Nat.zero_le _, Nat.zero_le _⟩) (fun r9 s9 H locs hp hG => ?_)
  obtain ⟨rfl, hs9⟩ := hp
  rw [hs9] at hG
  clear hs9
  refine r_nm (fun v62 ev62 => ?_)
  have hr63 := inF_s (a) 0 (st 14 0 0 - 1)
  rw [← ev62] at hr63
  refine r_if_eq (tgt := 13) hx hb (by omega) dX6_isTrue_6 (by decide) (fun c64 => ?_) (fun c64 => ?_)
  · skip
    refine lv_iconst (v := iI (1)) hx hb dX6_isTrue_13 rfl ?_
    exact hlab14 (1)  _ _ _ (by omega) hG (lv_sub hl [0, 1] rfl)
  · skip
    refine lv_iconst (v := iI (0)) hx hb dX6_isTrue_9 rfl ?_
    refine lv_goto (tgt := 14) hx hb dX6_isTrue_10 (by decide) ?_
    exact hlab14 (0)  _ _ _ (by omega) hG (lv_sub hl [0, 1] rfl)
set_option maxHeartbeats 400000 in
set_option maxRecDepth 100000 in
theorem mX6_wear (l : Launch) (D : va_G) (cy : Nat → ClassId) (ad : Nat → Nat) (n : Nat) (st : St) (sz fz : Nat) (wb : Int) (hn : 75 ≤ n) (hI : GI wb st) (hW : wb ≤ 2000000) (t0 : Int) (ht0 : -2147483648 ≤ t0 ∧ t0 < 2147483648) : Met l yX6_wear wsX6_wear ({ frames := 2, cells := 0, slots := 0, locals := 42 }) (va_Pc [.ref (ad 0), .int (iI (t0))] (gB D cy ad n st sz fz)) (va_Ql (fun (r : Int64) (st' : St) => r = lI (aWear st t0) ∧ st' = ust st 0 0 0 (kRange 0 5 t0) ∧ GI wb st') (gP D cy ad n) (gA n ad sz)) 0 0 (gA n ad sz) := by
  refine Met.ofW (cc := cX6_wear) (maxL := 5) (ret := (some .long)) (by decide) rfl ?_
  intro p e s m args below meth c s₁ B hml hv
  obtain ⟨rfl, hsz, hP, hK, hD0, hN, hZ⟩ := hv
  have hx := B.exec
  have hb := B.bytes
  have hr := B.returns
  have hts := atoms_spec (ws := wsX6_wear) B.pre
  have hown : s.vm.findClass RX6 = some m.cls := findClass_of_methodNamed B.named
  have hlocks := B.notSynchronized
  subst hsz
  have hA : ∀ q : Nat, s.heap.size ≤ q → gA n ad s.heap.size q := fun q h => Or.inr h
  have hG : GH D cy ad n st (gA n ad s.heap.size) s.heap s.heap [] := ⟨hP, gw_A hD0, va_S.rf⟩
  have hl := lv_entry ([.ref (ad 0), .int (iI (t0))]) (n := 5) (Nat.le_of_ble_eq_true rfl)
  rw [lg_entry_eq]
  generalize (lg_sl ([.ref (ad 0), .int (iI (t0))]) ++ List.replicate (5 - (lg_sl ([.ref (ad 0), .int (iI (t0))])).length) Slot.unset).toArray = ls at hl ⊢
  have hl : lv_has ls 5 [(0, .ref (ad 0)), (1, .int (iI (t0)))] := hl
  have hin6 : ∀ w ∈ u_ws RX6 TX6 25, w ∈ wsX6_wear := by decide +kernel
  have L_17 := hts (.fieldLink RX6 17 "CrossbarryModel" "wears" "[I") (by decide +kernel)
  have L_75 := hts (.fieldLink RX6 75 "CrossbarryModel" "thrown" "I") (by decide +kernel)
  have hks := kRange_s 0 5 t0
  refine lv_aload_n hx hb dX6_wear_0 rfl (lv_at hl 0 rfl) ?_
  have hlab13 : ∀ (t : Int) (H : Heap) (locs : List Loc) (ls : Array Slot), (t = kRange 0 5 t0) →  GH D cy ad n st (gA n ad s.heap.size) s.heap H locs → lv_has ls 5 [(0, .ref (ad 0)), (1, .int (iI (t0)))] → W p l e (headSpec wsX6_wear { frames := 2, cells := 0, slots := 0, locals := 42 }).room s m (#[.ref (ad 0), .int (iI (t0))] : Array Value) below meth c H locs 0 0 (MQ below (va_Ql (fun (r : Int64) (st' : St) => r = lI (aWear st t0) ∧ st' = ust st 0 0 0 (kRange 0 5 t0) ∧ GI wb st') (gP D cy ad n) (gA n ad s.heap.size)) (#[.ref (ad 0), .int (iI (t0))] : Array Value) s 0 0 (gA n ad s.heap.size)) (F0 m 13 ls [.int (iI (t)), .ref (ad 0)]) := by
    intro t H locs ls ht hG hl
    refine g_put hx hb hts hin6 tyX6 tyX6_ok nmX6 hown hK hG (key := 0) (by omega) (gC_0 st ad cy) rfl 0 (by decide) L_75 (fun _ h9 => h9) rfl (ty := .int) (by decide +kernel) rfl rfl (Nat.le_of_ble_eq_true rfl) dX6_wear_13 (ust st 0 0 0 (t)) (fun j _ => gU_0 st ad cy (t) j) (fun H locs hG => ?_)
    obtain ⟨st1, hst1⟩ : ∃ z : St, z = ust st 0 (0) (0) (t) := ⟨_, rfl⟩
    rw [← hst1] at hG
    replace hI := hst1 ▸ gIu_0 hI (0) (0) (v := t) (by omega)
    refine lv_lconst (v := 0) hx hb dX6_wear_16 rfl ?_
    refine lv_lstore_n (lv' := [(2, .long (0)), (0, .ref (ad 0)), (1, .int (iI (t0)))]) hx hb dX6_wear_17 rfl hl (by decide) rfl (fun ls hl => ?_)
    refine lv_iconst (v := iI (0)) hx hb dX6_wear_18 rfl ?_
    refine lv_istore (lv' := [(4, .int (iI (0))), (2, .long (0)), (0, .ref (ad 0)), (1, .int (iI (t0)))]) hx hb dX6_wear_19 hl (by decide) rfl (fun ls hl => ?_)
    have hloop21 : ∀ (N : Nat)  (k : Nat) (H : Heap) (locs : List Loc) (ls : Array Slot), 128 - k < N → ((t = 0 ∧ k ≤ 128) ∨ (t ≠ 0 ∧ k = 0)) →  GH D cy ad n st1 (gA n ad s.heap.size) s.heap H locs → lv_has ls 5 [(2, .long (lI (weU st t0 k))), (4, .int (iI (((k : Nat) : Int)))), (0, .ref (ad 0)), (1, .int (iI (t0)))] → W p l e (headSpec wsX6_wear { frames := 2, cells := 0, slots := 0, locals := 42 }).room s m (#[.ref (ad 0), .int (iI (t0))] : Array Value) below meth c H locs 0 0 (MQ below (va_Ql (fun (r : Int64) (st' : St) => r = lI (aWear st t0) ∧ st' = ust st 0 0 0 (kRange 0 5 t0) ∧ GI wb st') (gP D cy ad n) (gA n ad s.heap.size)) (#[.ref (ad 0), .int (iI (t0))] : Array Value) s 0 0 (gA n ad s.heap.size)) (F0 m 21 ls []) := by
      intro N
      induction N with
      | zero => intro  k H locs ls hm; exact absurd hm (Nat.not_lt_zero _)
      | succ N ih21 =>
        intro  k H locs ls hm hk hG hl
        refine lv_iload hx hb dX6_wear_21 (lv_at hl 1 rfl) ?_
        refine lv_sipush (v := iI (128)) hx hb dX6_wear_23 (by decide +kernel) ?_
        refine r_icmp_ge (tgt := 59) hx hb (by omega) dX6_wear_26 (by decide) (fun c2 => ?_) (fun c2 => ?_)
        · skip
          refine lv_lload_n hx hb dX6_wear_59 rfl (lv_at hl 0 rfl) ?_
          exact g_lret hx hb hr hlocks hG (by
            refine ⟨?_, by rw [← ht]; assumption, hI⟩
            congr 1
            unfold aWear
            by_cases hz : t = 0
            · rw [if_pos (by omega), show k = 128 by omega]
            · rw [if_neg (by omega), show k = 0 by omega]; rfl) dX6_wear_60
        · skip
          refine lv_aload_n hx hb dX6_wear_29 rfl (lv_at hl 2 rfl) ?_
          refine g_get hx hb hts hin6 hown hK hG (key := 0) (by omega) (gC_0 st1 ad cy) rfl 0 (by decide) L_75 (fun _ h9 => h9) rfl dX6_wear_30 ?_
          have hr3 := gI_0 hI (0) (0)
          have kq4 : st1 0 (0) (0) = t := by rw [hst1, ust_s]
          rw [kq4] at hr3
          refine r_as kq4 ?_
          clear kq4
          refine r_if_ne (tgt := 59) hx hb (by omega) dX6_wear_33 (by decide) (fun c5 => ?_) (fun c5 => ?_)
          · skip
            refine lv_lload_n hx hb dX6_wear_59 rfl (lv_at hl 0 rfl) ?_
            exact g_lret hx hb hr hlocks hG (by
              refine ⟨?_, by rw [← ht]; assumption, hI⟩
              congr 1
              unfold aWear
              by_cases hz : t = 0
              · rw [if_pos (by omega), show k = 128 by omega]
              · rw [if_neg (by omega), show k = 0 by omega]; rfl) dX6_wear_60
          · skip
            refine lv_lload_n hx hb dX6_wear_36 rfl (lv_at hl 0 rfl) ?_
            refine lv_aload_n hx hb dX6_wear_37 rfl (lv_at hl 2 rfl) ?_
            refine g_get hx hb hts hin6 hown hK hG (key := 0) (by omega) (gC_0 st1 ad cy) rfl 5 (by decide) L_17 (fun _ h9 => h9) rfl dX6_wear_38 ?_
            refine lv_sipush (v := iI (128)) hx hb dX6_wear_41 (by decide +kernel) ?_
            refine lv_iload_n hx hb dX6_wear_44 rfl (lv_at hl 3 rfl) ?_
            refine r_imul hx hb dX6_wear_45 ?_
            refine r_nm (fun v6 ev6 => ?_)
            refine lv_iload hx hb dX6_wear_46 (lv_at hl 1 rfl) ?_
            refine r_iadd hx hb dX6_wear_48 ?_
            refine r_nm (fun v7 ev7 => ?_)
            refine g_iald hx hb hK hG (2) (kd := 2) (o := 0) rfl rfl (by omega) (cp := 5) (ln := 768) rfl rfl (by omega) dX6_wear_49 ?_
            have hr8 := gI_5 hI (0) (v7)
            have kq9 : st1 5 (0) (v7) = st 5 (0) (v7) := by rw [hst1, ust_c (by decide)]
            rw [kq9] at hr8
            refine r_as kq9 ?_
            clear kq9
            refine r_nm (fun v10 ev10 => ?_)
            rw [← ev10] at hr8
            refine lv_i2l (v := lI (v10)) hx hb dX6_wear_50 (lI_i2l (by omega) (by omega)) ?_
            refine lv_ladd hx hb dX6_wear_51 ?_
            refine r_asL (y := lI (weU st t0 (k + 1))) (by rw [weU_s, lI_add]; congr 1; subst_vars; rfl) ?_
            refine lv_lstore_n (lv' := [(2, .long (lI (weU st t0 (k + 1)))), (4, .int (iI (((k : Nat) : Int)))), (0, .ref (ad 0)), (1, .int (iI (t0)))]) hx hb dX6_wear_52 rfl hl (by decide) rfl (fun ls hl => ?_)
            obtain ⟨v11, ev11⟩ : ∃ y9 : Int, y9 = ((k : Nat) : Int) + (1) := ⟨_, rfl⟩
            refine lv_iinc (v := iI v11) (lv' := [(4, .int (iI (v11))), (2, .long (lI (weU st t0 (k + 1)))), (0, .ref (ad 0)), (1, .int (iI (t0)))]) hx hb dX6_wear_53 hl (k := 1) rfl (by rw [ev11]; exact iI_add _ _) (by decide) rfl (fun ls hl => ?_)
            refine lv_goto (tgt := 21) hx hb dX6_wear_56 (by decide) ?_
            rw [show (v11 : Int) = (((k + 1) : Nat) : Int) from by omega] at hl
            exact ih21  (k + 1) _ _ _ (by omega) (by omega) hG (lv_sub hl [1, 0, 2, 3] rfl)
    exact hloop21 _  (0) _ _ _ (Nat.lt_succ_self _) (by omega) hG (lv_sub hl [1, 0, 2, 3] rfl)
  refine lv_iload_n hx hb dX6_wear_1 rfl (lv_at hl 1 rfl) ?_
  refine g_goi hG hA (va_runS (As := [.int (iI (t0))]) (rest := [.ref (ad 0)]) ⟨hx, hb, hml, hown, hts⟩ (mX6_isTile l D cy ad n st _ fz wb hn hI (by omega) (t0) (by omega)) (va_cwS 1 hts gX6_wear_X6_isTile rfl rfl rfl (by decide +kernel) ⟨Nat.le_of_ble_eq_true rfl, Nat.le_of_ble_eq_true rfl⟩) ⟨g_blind, g_pre hK hG hA hN hZ⟩ rfl rfl hl.1 rfl (lv_room (Nat.le_of_ble_eq_true rfl)) dX6_wear_2 ⟨Nat.zero_le _, Nat.zero_le _⟩) (fun r9 s9 H locs hp hG => ?_)
  obtain ⟨rfl, hs9⟩ := hp
  rw [hs9] at hG
  clear hs9
  refine r_nm (fun v12 ev12 => ?_)
  have hr13 := inF_s (t0) 0 5
  rw [← ev12] at hr13
  refine r_if_eq (tgt := 12) hx hb (by omega) dX6_wear_5 (by decide) (fun c14 => ?_) (fun c14 => ?_)
  · skip
    refine lv_iconst (v := iI (1)) hx hb dX6_wear_12 rfl ?_
    exact hlab13 (1)  _ _ _ (by omega) hG (lv_sub hl [0, 1] rfl)
  · skip
    refine lv_iconst (v := iI (0)) hx hb dX6_wear_8 rfl ?_
    refine lv_goto (tgt := 13) hx hb dX6_wear_9 (by decide) ?_
    exact hlab13 (0)  _ _ _ (by omega) hG (lv_sub hl [0, 1] rfl)
set_option maxHeartbeats 400000 in
set_option maxRecDepth 100000 in
theorem mX6_share (l : Launch) (D : va_G) (cy : Nat → ClassId) (ad : Nat → Nat) (n : Nat) (st : St) (sz fz : Nat) (wb : Int) (hn : 75 ≤ n) (hI : GI wb st) (hW : wb ≤ 2000000) (t0 : Int) (ht0 : -2147483648 ≤ t0 ∧ t0 < 2147483648) : Met l yX6_share wsX6_share ({ frames := 2, cells := 0, slots := 0, locals := 42 }) (va_Pc [.ref (ad 0), .int (iI (t0))] (gB D cy ad n st sz fz)) (va_Qf (fun (r : UInt32) (st' : St) => r = fShare (cShare st t0) ∧ st' = ust st 0 0 0 (kRange 0 5 t0) ∧ GI wb st') (gP D cy ad n) (gA n ad sz)) 0 0 (gA n ad sz) := by
  refine Met.ofW (cc := cX6_share) (maxL := 4) (ret := (some .float)) (by decide) rfl ?_
  intro p e s m args below meth c s₁ B hml hv
  obtain ⟨rfl, hsz, hP, hK, hD0, hN, hZ⟩ := hv
  have hx := B.exec
  have hb := B.bytes
  have hr := B.returns
  have hts := atoms_spec (ws := wsX6_share) B.pre
  have hown : s.vm.findClass RX6 = some m.cls := findClass_of_methodNamed B.named
  have hlocks := B.notSynchronized
  subst hsz
  have hA : ∀ q : Nat, s.heap.size ≤ q → gA n ad s.heap.size q := fun q h => Or.inr h
  have hG : GH D cy ad n st (gA n ad s.heap.size) s.heap s.heap [] := ⟨hP, gw_A hD0, va_S.rf⟩
  have hl := lv_entry ([.ref (ad 0), .int (iI (t0))]) (n := 4) (Nat.le_of_ble_eq_true rfl)
  rw [lg_entry_eq]
  generalize (lg_sl ([.ref (ad 0), .int (iI (t0))]) ++ List.replicate (4 - (lg_sl ([.ref (ad 0), .int (iI (t0))])).length) Slot.unset).toArray = ls at hl ⊢
  have hl : lv_has ls 4 [(0, .ref (ad 0)), (1, .int (iI (t0)))] := hl
  have hin6 : ∀ w ∈ u_ws RX6 TX6 25, w ∈ wsX6_share := by decide +kernel
  have L_190 := hts (.constantFloat RX6 190 (1124073472)) (by decide +kernel)
  have L_23 := hts (.fieldLink RX6 23 "CrossbarryModel" "isStuck" "[Z") (by decide +kernel)
  have L_75 := hts (.fieldLink RX6 75 "CrossbarryModel" "thrown" "I") (by decide +kernel)
  have hks := kRange_s 0 5 t0
  have hb7 := gI_7 hI 0
  refine lv_aload_n hx hb dX6_share_0 rfl (lv_at hl 0 rfl) ?_
  have hlab13 : ∀ (t : Int) (H : Heap) (locs : List Loc) (ls : Array Slot), (t = kRange 0 5 t0) →  GH D cy ad n st (gA n ad s.heap.size) s.heap H locs → lv_has ls 4 [(0, .ref (ad 0)), (1, .int (iI (t0)))] → W p l e (headSpec wsX6_share { frames := 2, cells := 0, slots := 0, locals := 42 }).room s m (#[.ref (ad 0), .int (iI (t0))] : Array Value) below meth c H locs 0 0 (MQ below (va_Qf (fun (r : UInt32) (st' : St) => r = fShare (cShare st t0) ∧ st' = ust st 0 0 0 (kRange 0 5 t0) ∧ GI wb st') (gP D cy ad n) (gA n ad s.heap.size)) (#[.ref (ad 0), .int (iI (t0))] : Array Value) s 0 0 (gA n ad s.heap.size)) (F0 m 13 ls [.int (iI (t)), .ref (ad 0)]) := by
    intro t H locs ls ht hG hl
    refine g_put hx hb hts hin6 tyX6 tyX6_ok nmX6 hown hK hG (key := 0) (by omega) (gC_0 st ad cy) rfl 0 (by decide) L_75 (fun _ h9 => h9) rfl (ty := .int) (by decide +kernel) rfl rfl (Nat.le_of_ble_eq_true rfl) dX6_share_13 (ust st 0 0 0 (t)) (fun j _ => gU_0 st ad cy (t) j) (fun H locs hG => ?_)
    obtain ⟨st1, hst1⟩ : ∃ z : St, z = ust st 0 (0) (0) (t) := ⟨_, rfl⟩
    rw [← hst1] at hG
    replace hI := hst1 ▸ gIu_0 hI (0) (0) (v := t) (by omega)
    refine lv_iconst (v := iI (0)) hx hb dX6_share_16 rfl ?_
    refine lv_istore_n (lv' := [(2, .int (iI (0))), (0, .ref (ad 0)), (1, .int (iI (t0)))]) hx hb dX6_share_17 rfl hl (by decide) rfl (fun ls hl => ?_)
    refine lv_iconst (v := iI (0)) hx hb dX6_share_18 rfl ?_
    refine lv_istore_n (lv' := [(3, .int (iI (0))), (2, .int (iI (0))), (0, .ref (ad 0)), (1, .int (iI (t0)))]) hx hb dX6_share_19 rfl hl (by decide) rfl (fun ls hl => ?_)
    have hloop20 : ∀ (N : Nat)  (k : Nat) (H : Heap) (locs : List Loc) (ls : Array Slot), 128 - k < N → ((t = 0 ∧ k ≤ 128) ∨ (t ≠ 0 ∧ k = 0)) →  GH D cy ad n st1 (gA n ad s.heap.size) s.heap H locs → lv_has ls 4 [(2, .int (iI (shU st t0 k))), (3, .int (iI (((k : Nat) : Int)))), (0, .ref (ad 0)), (1, .int (iI (t0)))] → W p l e (headSpec wsX6_share { frames := 2, cells := 0, slots := 0, locals := 42 }).room s m (#[.ref (ad 0), .int (iI (t0))] : Array Value) below meth c H locs 0 0 (MQ below (va_Qf (fun (r : UInt32) (st' : St) => r = fShare (cShare st t0) ∧ st' = ust st 0 0 0 (kRange 0 5 t0) ∧ GI wb st') (gP D cy ad n) (gA n ad s.heap.size)) (#[.ref (ad 0), .int (iI (t0))] : Array Value) s 0 0 (gA n ad s.heap.size)) (F0 m 20 ls []) := by
      intro N
      induction N with
      | zero => intro  k H locs ls hm; exact absurd hm (Nat.not_lt_zero _)
      | succ N ih20 =>
        intro  k H locs ls hm hk hG hl
        have hshr : 0 ≤ shU st t0 k ∧ shU st t0 k ≤ 1 * (k : Int) := sumN_r (fun _ => hb7 _) k
        refine lv_iload_n hx hb dX6_share_20 rfl (lv_at hl 1 rfl) ?_
        refine lv_sipush (v := iI (128)) hx hb dX6_share_21 (by decide +kernel) ?_
        refine r_icmp_ge (tgt := 63) hx hb (by omega) dX6_share_24 (by decide) (fun c2 => ?_) (fun c2 => ?_)
        · skip
          refine lv_iload_n hx hb dX6_share_63 rfl (lv_at hl 0 rfl) ?_
          refine lv_i2f hx hb dX6_share_64 ?_
          refine lv_ldcf hx hb hown L_190 dX6_share_65 ?_
          refine lv_fdiv hx hb dX6_share_67 (by exact fShare_n2 (by omega)) ?_
          exact g_fret hx hb hr hlocks hG (by
            refine ⟨?_, by rw [← ht]; assumption, hI⟩
            unfold fShare cShare
            by_cases hz : t = 0
            · rw [if_pos (by omega), show k = 128 by omega]
            · rw [if_neg (by omega), show k = 0 by omega]; rfl) dX6_share_68
        · skip
          refine lv_aload_n hx hb dX6_share_27 rfl (lv_at hl 2 rfl) ?_
          refine g_get hx hb hts hin6 hown hK hG (key := 0) (by omega) (gC_0 st1 ad cy) rfl 0 (by decide) L_75 (fun _ h9 => h9) rfl dX6_share_28 ?_
          have hr3 := gI_0 hI (0) (0)
          have kq4 : st1 0 (0) (0) = t := by rw [hst1, ust_s]
          rw [kq4] at hr3
          refine r_as kq4 ?_
          clear kq4
          refine r_if_ne (tgt := 63) hx hb (by omega) dX6_share_31 (by decide) (fun c5 => ?_) (fun c5 => ?_)
          · skip
            refine lv_iload_n hx hb dX6_share_63 rfl (lv_at hl 0 rfl) ?_
            refine lv_i2f hx hb dX6_share_64 ?_
            refine lv_ldcf hx hb hown L_190 dX6_share_65 ?_
            refine lv_fdiv hx hb dX6_share_67 (by exact fShare_n2 (by omega)) ?_
            exact g_fret hx hb hr hlocks hG (by
              refine ⟨?_, by rw [← ht]; assumption, hI⟩
              unfold fShare cShare
              by_cases hz : t = 0
              · rw [if_pos (by omega), show k = 128 by omega]
              · rw [if_neg (by omega), show k = 0 by omega]; rfl) dX6_share_68
          · skip
            refine lv_iload_n hx hb dX6_share_34 rfl (lv_at hl 0 rfl) ?_
            refine lv_aload_n hx hb dX6_share_35 rfl (lv_at hl 2 rfl) ?_
            refine g_get hx hb hts hin6 hown hK hG (key := 0) (by omega) (gC_0 st1 ad cy) rfl 7 (by decide) L_23 (fun _ h9 => h9) rfl dX6_share_36 ?_
            refine lv_sipush (v := iI (128)) hx hb dX6_share_39 (by decide +kernel) ?_
            refine lv_iload_n hx hb dX6_share_42 rfl (lv_at hl 3 rfl) ?_
            refine r_imul hx hb dX6_share_43 ?_
            refine r_nm (fun v6 ev6 => ?_)
            refine lv_iload_n hx hb dX6_share_44 rfl (lv_at hl 1 rfl) ?_
            refine r_iadd hx hb dX6_share_45 ?_
            refine r_nm (fun v7 ev7 => ?_)
            refine g_zald hx hb hK hG (4) (kd := 4) (o := 0) rfl rfl (by omega) (cp := 7) (ln := 768) rfl rfl (by omega) dX6_share_46 ?_
            have hr8 := gI_7 hI (0) (v7)
            have kq9 : st1 7 (0) (v7) = st 7 (0) (v7) := by rw [hst1, ust_c (by decide)]
            rw [kq9] at hr8
            refine r_as kq9 ?_
            clear kq9
            refine r_nm (fun v10 ev10 => ?_)
            rw [← ev10] at hr8
            refine r_if_eq (tgt := 54) hx hb (by omega) dX6_share_47 (by decide) (fun c11 => ?_) (fun c11 => ?_)
            · skip
              refine lv_iconst (v := iI (0)) hx hb dX6_share_54 rfl ?_
              refine r_iadd hx hb dX6_share_55 ?_
              refine r_nm (fun v12 ev12 => ?_)
              refine lv_istore_n (lv' := [(2, .int (iI (v12))), (3, .int (iI (((k : Nat) : Int)))), (0, .ref (ad 0)), (1, .int (iI (t0)))]) hx hb dX6_share_56 rfl hl (by decide) rfl (fun ls hl => ?_)
              obtain ⟨v13, ev13⟩ : ∃ y9 : Int, y9 = ((k : Nat) : Int) + (1) := ⟨_, rfl⟩
              refine lv_iinc (v := iI v13) (lv' := [(3, .int (iI (v13))), (2, .int (iI (v12))), (0, .ref (ad 0)), (1, .int (iI (t0)))]) hx hb dX6_share_57 hl (k := 1) rfl (by rw [ev13]; exact iI_add _ _) (by decide) rfl (fun ls hl => ?_)
              refine lv_goto (tgt := 20) hx hb dX6_share_60 (by decide) ?_
              rw [show (v12 : Int) = shU st t0 (k + 1) from by (rw [shU_s]; subst_vars; omega)] at hl
              rw [show (v13 : Int) = (((k + 1) : Nat) : Int) from by omega] at hl
              exact ih20  (k + 1) _ _ _ (by omega) (by omega) hG (lv_sub hl [1, 0, 2, 3] rfl)
            · skip
              refine lv_iconst (v := iI (1)) hx hb dX6_share_50 rfl ?_
              refine lv_goto (tgt := 55) hx hb dX6_share_51 (by decide) ?_
              refine r_iadd hx hb dX6_share_55 ?_
              refine r_nm (fun v14 ev14 => ?_)
              refine lv_istore_n (lv' := [(2, .int (iI (v14))), (3, .int (iI (((k : Nat) : Int)))), (0, .ref (ad 0)), (1, .int (iI (t0)))]) hx hb dX6_share_56 rfl hl (by decide) rfl (fun ls hl => ?_)
              obtain ⟨v15, ev15⟩ : ∃ y9 : Int, y9 = ((k : Nat) : Int) + (1) := ⟨_, rfl⟩
              refine lv_iinc (v := iI v15) (lv' := [(3, .int (iI (v15))), (2, .int (iI (v14))), (0, .ref (ad 0)), (1, .int (iI (t0)))]) hx hb dX6_share_57 hl (k := 1) rfl (by rw [ev15]; exact iI_add _ _) (by decide) rfl (fun ls hl => ?_)
              refine lv_goto (tgt := 20) hx hb dX6_share_60 (by decide) ?_
              rw [show (v14 : Int) = shU st t0 (k + 1) from by (rw [shU_s]; subst_vars; omega)] at hl
              rw [show (v15 : Int) = (((k + 1) : Nat) : Int) from by omega] at hl
              exact ih20  (k + 1) _ _ _ (by omega) (by omega) hG (lv_sub hl [1, 0, 2, 3] rfl)
    exact hloop20 _  (0) _ _ _ (Nat.lt_succ_self _) (by omega) hG (lv_sub hl [1, 0, 2, 3] rfl)
  refine lv_iload_n hx hb dX6_share_1 rfl (lv_at hl 1 rfl) ?_
  refine g_goi hG hA (va_runS (As := [.int (iI (t0))]) (rest := [.ref (ad 0)]) ⟨hx, hb, hml, hown, hts⟩ (mX6_isTile l D cy ad n st _ fz wb hn hI (by omega) (t0) (by omega)) (va_cwS 1 hts gX6_share_X6_isTile rfl rfl rfl (by decide +kernel) ⟨Nat.le_of_ble_eq_true rfl, Nat.le_of_ble_eq_true rfl⟩) ⟨g_blind, g_pre hK hG hA hN hZ⟩ rfl rfl hl.1 rfl (lv_room (Nat.le_of_ble_eq_true rfl)) dX6_share_2 ⟨Nat.zero_le _, Nat.zero_le _⟩) (fun r9 s9 H locs hp hG => ?_)
  obtain ⟨rfl, hs9⟩ := hp
  rw [hs9] at hG
  clear hs9
  refine r_nm (fun v16 ev16 => ?_)
  have hr17 := inF_s (t0) 0 5
  rw [← ev16] at hr17
  refine r_if_eq (tgt := 12) hx hb (by omega) dX6_share_5 (by decide) (fun c18 => ?_) (fun c18 => ?_)
  · skip
    refine lv_iconst (v := iI (1)) hx hb dX6_share_12 rfl ?_
    exact hlab13 (1)  _ _ _ (by omega) hG (lv_sub hl [0, 1] rfl)
  · skip
    refine lv_iconst (v := iI (0)) hx hb dX6_share_8 rfl ?_
    refine lv_goto (tgt := 13) hx hb dX6_share_9 (by decide) ?_
    exact hlab13 (0)  _ _ _ (by omega) hG (lv_sub hl [0, 1] rfl)
