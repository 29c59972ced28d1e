set_option maxHeartbeats 400000 in
set_option maxRecDepth 100000 in
theorem mX6_cell (l : Launch) (D : va_G) (cy : Nat → ClassId) (ad : Nat → Nat) (n : Nat) (st : St) (sz fz : Nat) (wb : Int) (hn : 75 ≤ n) (hI : GI wb st) (hW : wb ≤ 2000000) (t0 : Int) (b : Int) (d : Int) (w : Int) (ht0 : -2147483648 ≤ t0 ∧ t0 < 2147483648) (hb : -2147483648 ≤ b ∧ b < 2147483648) (hd : -2147483648 ≤ d ∧ d < 2147483648) (hw : -2147483648 ≤ w ∧ w < 2147483648) (hsi : ∀ j : Int, st 6 0 j ≤ st 1 0 0) : Met l yX6_cell wsX6_cell ({ frames := 3, cells := 0, slots := 0, locals := 64 }) (va_Pc [.ref (ad 0), .int (iI (t0)), .int (iI (b)), .int (iI (d)), .int (iI (w))] (gB D cy ad n st sz fz)) (va_Qi (fun (r : Int32) (st' : St) => r = iI (aCell st t0 b d w) ∧ st' = ust st 0 0 0 (kCell t0 b d w) ∧ GI wb st') (gP D cy ad n) (gA n ad sz)) 0 0 (gA n ad sz) := by
  refine Met.ofW (cc := cX6_cell) (maxL := 6) (ret := (some .int)) (by decide) rfl ?_
  intro p e s m args below meth c s₁ B hml hv
  obtain ⟨rfl, hsz, hP, hK, hD0, hN, hZ⟩ := hv
  have hx := B.exec
  have hb := B.bytes
  have hr := B.returns
  have hts := atoms_spec (ws := wsX6_cell) B.pre
  have hown : s.vm.findClass RX6 = some m.cls := findClass_of_methodNamed B.named
  have hlocks := B.notSynchronized
  subst hsz
  have hA : ∀ q : Nat, s.heap.size ≤ q → gA n ad s.heap.size q := fun q h => Or.inr h
  have hG : GH D cy ad n st (gA n ad s.heap.size) s.heap s.heap [] := ⟨hP, gw_A hD0, va_S.rf⟩
  have hl := lv_entry ([.ref (ad 0), .int (iI (t0)), .int (iI (b)), .int (iI (d)), .int (iI (w))]) (n := 6) (Nat.le_of_ble_eq_true rfl)
  rw [lg_entry_eq]
  generalize (lg_sl ([.ref (ad 0), .int (iI (t0)), .int (iI (b)), .int (iI (d)), .int (iI (w))]) ++ List.replicate (6 - (lg_sl ([.ref (ad 0), .int (iI (t0)), .int (iI (b)), .int (iI (d)), .int (iI (w))])).length) Slot.unset).toArray = ls at hl ⊢
  have hl : lv_has ls 6 [(0, .ref (ad 0)), (1, .int (iI (t0))), (2, .int (iI (b))), (3, .int (iI (d))), (4, .int (iI (w)))] := hl
  have hin6 : ∀ w ∈ u_ws RX6 TX6 25, w ∈ wsX6_cell := by decide +kernel
  have L_13 := hts (.fieldLink RX6 13 "CrossbarryModel" "states" "[I") (by decide +kernel)
  have L_17 := hts (.fieldLink RX6 17 "CrossbarryModel" "wears" "[I") (by decide +kernel)
  have L_23 := hts (.fieldLink RX6 23 "CrossbarryModel" "isStuck" "[Z") (by decide +kernel)
  have L_27 := hts (.fieldLink RX6 27 "CrossbarryModel" "isKnown" "[Z") (by decide +kernel)
  have L_75 := hts (.fieldLink RX6 75 "CrossbarryModel" "thrown" "I") (by decide +kernel)
  have hmn := gI_14 hI 0 0
  refine lv_aload_n hx hb dX6_cell_0 rfl (lv_at hl 0 rfl) ?_
  have hlab25 : ∀ (t : Int) (H : Heap) (locs : List Loc) (ls : Array Slot), (t = kCell t0 b d w) →  GH D cy ad n st (gA n ad s.heap.size) s.heap H locs → lv_has ls 6 [(0, .ref (ad 0)), (1, .int (iI (t0))), (2, .int (iI (b))), (3, .int (iI (d))), (4, .int (iI (w)))] → W p l e (headSpec wsX6_cell { frames := 3, cells := 0, slots := 0, locals := 64 }).room s m (#[.ref (ad 0), .int (iI (t0)), .int (iI (b)), .int (iI (d)), .int (iI (w))] : Array Value) below meth c H locs 0 0 (MQ below (va_Qi (fun (r : Int32) (st' : St) => r = iI (aCell st t0 b d w) ∧ st' = ust st 0 0 0 (kCell t0 b d w) ∧ GI wb st') (gP D cy ad n) (gA n ad s.heap.size)) (#[.ref (ad 0), .int (iI (t0)), .int (iI (b)), .int (iI (d)), .int (iI (w))] : Array Value) s 0 0 (gA n ad s.heap.size)) (F0 m 25 ls [.int (iI (t)), .ref (ad 0)]) := by
    intro t H locs ls ht hG hl
    have hks := kCell_s t0 b d w
    refine g_put hx hb hts hin6 tyX6 tyX6_ok nmX6 hown hK hG (key := 0) (by omega) (gC_0 st ad cy) rfl 0 (by decide) L_75 (fun _ h9 => h9) rfl (ty := .int) (by decide +kernel) rfl rfl (Nat.le_of_ble_eq_true rfl) dX6_cell_25 (ust st 0 0 0 (t)) (fun j _ => gU_0 st ad cy (t) j) (fun H locs hG => ?_)
    obtain ⟨st1, hst1⟩ : ∃ z : St, z = ust st 0 (0) (0) (t) := ⟨_, rfl⟩
    rw [← hst1] at hG
    replace hI := hst1 ▸ gIu_0 hI (0) (0) (v := t) (by omega)
    refine lv_aload_n hx hb dX6_cell_28 rfl (lv_at hl 0 rfl) ?_
    refine g_get hx hb hts hin6 hown hK hG (key := 0) (by omega) (gC_0 st1 ad cy) rfl 0 (by decide) L_75 (fun _ h9 => h9) rfl dX6_cell_29 ?_
    have hr2 := gI_0 hI (0) (0)
    have kq3 : st1 0 (0) (0) = t := by rw [hst1, ust_s]
    rw [kq3] at hr2
    refine r_as kq3 ?_
    clear kq3
    refine r_if_le (tgt := 37) hx hb (by omega) dX6_cell_32 (by decide) (fun c4 => ?_) (fun c4 => ?_)
    · skip
      refine lv_iload_n hx hb dX6_cell_37 rfl (lv_at hl 1 rfl) ?_
      refine lv_iload_n hx hb dX6_cell_38 rfl (lv_at hl 2 rfl) ?_
      refine lv_iload_n hx hb dX6_cell_39 rfl (lv_at hl 3 rfl) ?_
      refine g_goi hG hA (va_runS (As := [.int (iI (t0)), .int (iI (b)), .int (iI (d))]) (rest := []) ⟨hx, hb, hml, hown, hts⟩ (mX6_cellAt l D cy ad n st1 _ fz wb hn hI (by omega) (t0) (b) (d) ) (va_cwS 3 hts gX6_cell_X6_cellAt rfl rfl rfl (by decide +kernel) ⟨Nat.le_of_ble_eq_true rfl, Nat.le_of_ble_eq_true rfl⟩) ⟨g_blind, g_pre hK hG hA hN hZ⟩ rfl rfl hl.1 rfl (lv_room (Nat.le_of_ble_eq_true rfl)) dX6_cell_40 ⟨Nat.zero_le _, Nat.zero_le _⟩) (fun r9 s9 H locs hp hG => ?_)
      obtain ⟨rfl, hs9⟩ := hp
      rw [hs9] at hG
      clear hs9
      refine r_nm (fun v5 ev5 => ?_)
      refine lv_istore (lv' := [(5, .int (iI (v5))), (0, .ref (ad 0)), (1, .int (iI (t0))), (2, .int (iI (b))), (3, .int (iI (d))), (4, .int (iI (w)))]) hx hb dX6_cell_43 hl (by decide) rfl (fun ls hl => ?_)
      refine lv_iload hx hb dX6_cell_45 (lv_at hl 5 rfl) ?_
      refine lv_iconst (v := iI (3)) hx hb dX6_cell_47 rfl ?_
      refine r_icmp_ge (tgt := 89) hx hb (by omega) dX6_cell_48 (by decide) (fun c6 => ?_) (fun c6 => ?_)
      · skip
        refine lv_iload hx hb dX6_cell_89 (lv_at hl 5 rfl) ?_
        refine lv_iconst (v := iI (3)) hx hb dX6_cell_91 rfl ?_
        refine r_icmp_ne (tgt := 108) hx hb (by omega) dX6_cell_92 (by decide) (fun c7 => ?_) (fun c7 => ?_)
        · skip
          refine lv_aload_n hx hb dX6_cell_108 rfl (lv_at hl 1 rfl) ?_
          refine g_get hx hb hts hin6 hown hK hG (key := 0) (by omega) (gC_0 st1 ad cy) rfl 8 (by decide) L_27 (fun _ h9 => h9) rfl dX6_cell_109 ?_
          refine lv_iload hx hb dX6_cell_112 (lv_at hl 0 rfl) ?_
          refine g_zald hx hb hK hG (5) (kd := 5) (o := 0) rfl rfl (by omega) (cp := 8) (ln := 768) rfl rfl (by omega) dX6_cell_114 ?_
          have hr8 := gI_8 hI (0) (v5)
          have kq9 : st1 8 (0) (v5) = st 8 (0) (v5) := by rw [hst1, ust_c (by decide)]
          rw [kq9] at hr8
          refine r_as kq9 ?_
          clear kq9
          refine r_nm (fun v10 ev10 => ?_)
          rw [← ev10] at hr8
          refine r_if_eq (tgt := 122) hx hb (by omega) dX6_cell_115 (by decide) (fun c11 => ?_) (fun c11 => ?_)
          · skip
            refine lv_iconst (v := iI (0)) hx hb dX6_cell_122 rfl ?_
            exact g_iret hx hb hr hlocks hG (by
              first
                | (refine ⟨?_, ?_, hI⟩
                   · congr 1; unfold aCell; rw [if_neg (by omega)]
                   · rw [← ht]; assumption)
                | (refine ⟨?_, ?_, hI⟩
                   · congr 1; unfold aCell; rw [if_pos (by omega)]; unfold aCellW; first | (rw [if_pos (by omega)]; first | omega | (subst_vars; first | rfl | omega | exact conM_0 _ _ _)) | (rw [if_neg (by omega), if_pos (by omega)]; first | omega | (subst_vars; first | rfl | omega | exact conM_0 _ _ _)) | (rw [if_neg (by omega), if_neg (by omega), if_pos (by omega)]; first | omega | (subst_vars; first | rfl | omega | exact conM_0 _ _ _)) | (rw [if_neg (by omega), if_neg (by omega), if_neg (by omega), if_pos (by omega)]; first | omega | (subst_vars; first | rfl | omega | exact conM_0 _ _ _)) | (rw [if_neg (by omega), if_neg (by omega), if_neg (by omega), if_neg (by omega)]; first | omega | (subst_vars; first | rfl | omega | exact conM_0 _ _ _))
                   · rw [← ht]; assumption)) dX6_cell_123
          · skip
            refine lv_iconst (v := iI (1)) hx hb dX6_cell_118 rfl ?_
            refine lv_goto (tgt := 123) hx hb dX6_cell_119 (by decide) ?_
            exact g_iret hx hb hr hlocks hG (by
              first
                | (refine ⟨?_, ?_, hI⟩
                   · congr 1; unfold aCell; rw [if_neg (by omega)]
                   · rw [← ht]; assumption)
                | (refine ⟨?_, ?_, hI⟩
                   · congr 1; unfold aCell; rw [if_pos (by omega)]; unfold aCellW; first | (rw [if_pos (by omega)]; first | omega | (subst_vars; first | rfl | omega | exact conM_0 _ _ _)) | (rw [if_neg (by omega), if_pos (by omega)]; first | omega | (subst_vars; first | rfl | omega | exact conM_0 _ _ _)) | (rw [if_neg (by omega), if_neg (by omega), if_pos (by omega)]; first | omega | (subst_vars; first | rfl | omega | exact conM_0 _ _ _)) | (rw [if_neg (by omega), if_neg (by omega), if_neg (by omega), if_pos (by omega)]; first | omega | (subst_vars; first | rfl | omega | exact conM_0 _ _ _)) | (rw [if_neg (by omega), if_neg (by omega), if_neg (by omega), if_neg (by omega)]; first | omega | (subst_vars; first | rfl | omega | exact conM_0 _ _ _))
                   · rw [← ht]; assumption)) dX6_cell_123
        · skip
          refine lv_aload_n hx hb dX6_cell_95 rfl (lv_at hl 1 rfl) ?_
          refine g_get hx hb hts hin6 hown hK hG (key := 0) (by omega) (gC_0 st1 ad cy) rfl 7 (by decide) L_23 (fun _ h9 => h9) rfl dX6_cell_96 ?_
          refine lv_iload hx hb dX6_cell_99 (lv_at hl 0 rfl) ?_
          refine g_zald hx hb hK hG (4) (kd := 4) (o := 0) rfl rfl (by omega) (cp := 7) (ln := 768) rfl rfl (by omega) dX6_cell_101 ?_
          have hr12 := gI_7 hI (0) (v5)
          have kq13 : st1 7 (0) (v5) = st 7 (0) (v5) := by rw [hst1, ust_c (by decide)]
          rw [kq13] at hr12
          refine r_as kq13 ?_
          clear kq13
          refine r_nm (fun v14 ev14 => ?_)
          rw [← ev14] at hr12
          refine r_if_eq (tgt := 122) hx hb (by omega) dX6_cell_102 (by decide) (fun c15 => ?_) (fun c15 => ?_)
          · skip
            refine lv_iconst (v := iI (0)) hx hb dX6_cell_122 rfl ?_
            exact g_iret hx hb hr hlocks hG (by
              first
                | (refine ⟨?_, ?_, hI⟩
                   · congr 1; unfold aCell; rw [if_neg (by omega)]
                   · rw [← ht]; assumption)
                | (refine ⟨?_, ?_, hI⟩
                   · congr 1; unfold aCell; rw [if_pos (by omega)]; unfold aCellW; first | (rw [if_pos (by omega)]; first | omega | (subst_vars; first | rfl | omega | exact conM_0 _ _ _)) | (rw [if_neg (by omega), if_pos (by omega)]; first | omega | (subst_vars; first | rfl | omega | exact conM_0 _ _ _)) | (rw [if_neg (by omega), if_neg (by omega), if_pos (by omega)]; first | omega | (subst_vars; first | rfl | omega | exact conM_0 _ _ _)) | (rw [if_neg (by omega), if_neg (by omega), if_neg (by omega), if_pos (by omega)]; first | omega | (subst_vars; first | rfl | omega | exact conM_0 _ _ _)) | (rw [if_neg (by omega), if_neg (by omega), if_neg (by omega), if_neg (by omega)]; first | omega | (subst_vars; first | rfl | omega | exact conM_0 _ _ _))
                   · rw [← ht]; assumption)) dX6_cell_123
          · skip
            refine lv_goto (tgt := 118) hx hb dX6_cell_105 (by decide) ?_
            refine lv_iconst (v := iI (1)) hx hb dX6_cell_118 rfl ?_
            refine lv_goto (tgt := 123) hx hb dX6_cell_119 (by decide) ?_
            exact g_iret hx hb hr hlocks hG (by
              first
                | (refine ⟨?_, ?_, hI⟩
                   · congr 1; unfold aCell; rw [if_neg (by omega)]
                   · rw [← ht]; assumption)
                | (refine ⟨?_, ?_, hI⟩
                   · congr 1; unfold aCell; rw [if_pos (by omega)]; unfold aCellW; first | (rw [if_pos (by omega)]; first | omega | (subst_vars; first | rfl | omega | exact conM_0 _ _ _)) | (rw [if_neg (by omega), if_pos (by omega)]; first | omega | (subst_vars; first | rfl | omega | exact conM_0 _ _ _)) | (rw [if_neg (by omega), if_neg (by omega), if_pos (by omega)]; first | omega | (subst_vars; first | rfl | omega | exact conM_0 _ _ _)) | (rw [if_neg (by omega), if_neg (by omega), if_neg (by omega), if_pos (by omega)]; first | omega | (subst_vars; first | rfl | omega | exact conM_0 _ _ _)) | (rw [if_neg (by omega), if_neg (by omega), if_neg (by omega), if_neg (by omega)]; first | omega | (subst_vars; first | rfl | omega | exact conM_0 _ _ _))
                   · rw [← ht]; assumption)) dX6_cell_123
      · skip
        refine lv_iload hx hb dX6_cell_51 (lv_at hl 5 rfl) ?_
        refine r_if_ne (tgt := 66) hx hb (by omega) dX6_cell_53 (by decide) (fun c16 => ?_) (fun c16 => ?_)
        · skip
          refine lv_iload hx hb dX6_cell_66 (lv_at hl 5 rfl) ?_
          refine lv_iconst (v := iI (1)) hx hb dX6_cell_68 rfl ?_
          refine r_icmp_ne (tgt := 81) hx hb (by omega) dX6_cell_69 (by decide) (fun c17 => ?_) (fun c17 => ?_)
          · skip
            refine lv_aload_n hx hb dX6_cell_81 rfl (lv_at hl 1 rfl) ?_
            refine g_get hx hb hts hin6 hown hK hG (key := 0) (by omega) (gC_0 st1 ad cy) rfl 5 (by decide) L_17 (fun _ h9 => h9) rfl dX6_cell_82 ?_
            refine lv_iload hx hb dX6_cell_85 (lv_at hl 0 rfl) ?_
            refine g_iald hx hb hK hG (2) (kd := 2) (o := 0) rfl rfl (by omega) (cp := 5) (ln := 768) rfl rfl (by omega) dX6_cell_87 ?_
            have hr18 := gI_5 hI (0) (v5)
            have kq19 : st1 5 (0) (v5) = st 5 (0) (v5) := by rw [hst1, ust_c (by decide)]
            rw [kq19] at hr18
            refine r_as kq19 ?_
            clear kq19
            refine r_nm (fun v20 ev20 => ?_)
            rw [← ev20] at hr18
            exact g_iret hx hb hr hlocks hG (by
              first
                | (refine ⟨?_, ?_, hI⟩
                   · congr 1; unfold aCell; rw [if_neg (by omega)]
                   · rw [← ht]; assumption)
                | (refine ⟨?_, ?_, hI⟩
                   · congr 1; unfold aCell; rw [if_pos (by omega)]; unfold aCellW; first | (rw [if_pos (by omega)]; first | omega | (subst_vars; first | rfl | omega | exact conM_0 _ _ _)) | (rw [if_neg (by omega), if_pos (by omega)]; first | omega | (subst_vars; first | rfl | omega | exact conM_0 _ _ _)) | (rw [if_neg (by omega), if_neg (by omega), if_pos (by omega)]; first | omega | (subst_vars; first | rfl | omega | exact conM_0 _ _ _)) | (rw [if_neg (by omega), if_neg (by omega), if_neg (by omega), if_pos (by omega)]; first | omega | (subst_vars; first | rfl | omega | exact conM_0 _ _ _)) | (rw [if_neg (by omega), if_neg (by omega), if_neg (by omega), if_neg (by omega)]; first | omega | (subst_vars; first | rfl | omega | exact conM_0 _ _ _))
                   · rw [← ht]; assumption)) dX6_cell_88
          · skip
            refine lv_aload_n hx hb dX6_cell_72 rfl (lv_at hl 1 rfl) ?_
            refine lv_iload hx hb dX6_cell_73 (lv_at hl 0 rfl) ?_
            have hq8 : st1 6 0 (v5) ≤ st1 1 0 0 := by rw [hst1, ust_c (by decide), ust_c (by decide)]; exact hsi _
            refine g_goi hG hA (va_runV (As := [.int (iI (v5))]) (rest := []) ⟨hx, hb, hml, hown, hts⟩ (mX6_conducts l D cy ad n st1 _ fz wb hn hI (by omega) (v5) (by omega) (by omega)) (cwV 1 hts gX6_cell_X6_conducts rfl rfl rfl (by decide +kernel) ⟨Nat.le_of_ble_eq_true rfl, Nat.le_of_ble_eq_true rfl⟩) ⟨g_blind, va_recv hK hG.1 (q0 := 0) (ci := 6) rfl ((gw_at (by omega)).trans (by rw [gC_0 st1 ad cy])), g_pre hK hG hA hN hZ⟩ rfl rfl hl.1 rfl (lv_room (Nat.le_of_ble_eq_true rfl)) dX6_cell_75 ⟨Nat.zero_le _, Nat.zero_le _⟩) (fun r9 s9 H locs hp hG => ?_)
            obtain ⟨rfl, hs9⟩ := hp
            rw [hs9] at hG
            clear hs9
            refine r_nm (fun v21 ev21 => ?_)
            have hr22 := conM_r hI (v5) (by omega)
            rw [← ev21] at hr22
            refine lv_goto (tgt := 88) hx hb dX6_cell_78 (by decide) ?_
            exact g_iret hx hb hr hlocks hG (by
              first
                | (refine ⟨?_, ?_, hI⟩
                   · congr 1; unfold aCell; rw [if_neg (by omega)]
                   · rw [← ht]; assumption)
                | (refine ⟨?_, ?_, hI⟩
                   · congr 1; unfold aCell; rw [if_pos (by omega)]; unfold aCellW; first | (rw [if_pos (by omega)]; first | omega | (subst_vars; first | rfl | omega | exact conM_0 _ _ _)) | (rw [if_neg (by omega), if_pos (by omega)]; first | omega | (subst_vars; first | rfl | omega | exact conM_0 _ _ _)) | (rw [if_neg (by omega), if_neg (by omega), if_pos (by omega)]; first | omega | (subst_vars; first | rfl | omega | exact conM_0 _ _ _)) | (rw [if_neg (by omega), if_neg (by omega), if_neg (by omega), if_pos (by omega)]; first | omega | (subst_vars; first | rfl | omega | exact conM_0 _ _ _)) | (rw [if_neg (by omega), if_neg (by omega), if_neg (by omega), if_neg (by omega)]; first | omega | (subst_vars; first | rfl | omega | exact conM_0 _ _ _))
                   · rw [← ht]; assumption)) dX6_cell_88
        · skip
          refine lv_aload_n hx hb dX6_cell_56 rfl (lv_at hl 1 rfl) ?_
          refine g_get hx hb hts hin6 hown hK hG (key := 0) (by omega) (gC_0 st1 ad cy) rfl 4 (by decide) L_13 (fun _ h9 => h9) rfl dX6_cell_57 ?_
          refine lv_iload hx hb dX6_cell_60 (lv_at hl 0 rfl) ?_
          refine g_iald hx hb hK hG (1) (kd := 1) (o := 0) rfl rfl (by omega) (cp := 4) (ln := 768) rfl rfl (by omega) dX6_cell_62 ?_
          have hr23 := gI_4 hI (0) (v5)
          have kq24 : st1 4 (0) (v5) = st 4 (0) (v5) := by rw [hst1, ust_c (by decide)]
          rw [kq24] at hr23
          refine r_as kq24 ?_
          clear kq24
          refine r_nm (fun v25 ev25 => ?_)
          rw [← ev25] at hr23
          refine lv_goto (tgt := 88) hx hb dX6_cell_63 (by decide) ?_
          exact g_iret hx hb hr hlocks hG (by
            first
              | (refine ⟨?_, ?_, hI⟩
                 · congr 1; unfold aCell; rw [if_neg (by omega)]
                 · rw [← ht]; assumption)
              | (refine ⟨?_, ?_, hI⟩
                 · congr 1; unfold aCell; rw [if_pos (by omega)]; unfold aCellW; first | (rw [if_pos (by omega)]; first | omega | (subst_vars; first | rfl | omega | exact conM_0 _ _ _)) | (rw [if_neg (by omega), if_pos (by omega)]; first | omega | (subst_vars; first | rfl | omega | exact conM_0 _ _ _)) | (rw [if_neg (by omega), if_neg (by omega), if_pos (by omega)]; first | omega | (subst_vars; first | rfl | omega | exact conM_0 _ _ _)) | (rw [if_neg (by omega), if_neg (by omega), if_neg (by omega), if_pos (by omega)]; first | omega | (subst_vars; first | rfl | omega | exact conM_0 _ _ _)) | (rw [if_neg (by omega), if_neg (by omega), if_neg (by omega), if_neg (by omega)]; first | omega | (subst_vars; first | rfl | omega | exact conM_0 _ _ _))
                 · rw [← ht]; assumption)) dX6_cell_88
    · skip
      refine lv_iconst (v := iI (0)) hx hb dX6_cell_35 rfl ?_
      exact g_iret hx hb hr hlocks hG (by
        first
          | (refine ⟨?_, ?_, hI⟩
             · congr 1; unfold aCell; rw [if_neg (by omega)]
             · rw [← ht]; assumption)
          | (refine ⟨?_, ?_, hI⟩
             · congr 1; unfold aCell; rw [if_pos (by omega)]; unfold aCellW; first | (rw [if_pos (by omega)]; first | omega | (subst_vars; first | rfl | omega | exact conM_0 _ _ _)) | (rw [if_neg (by omega), if_pos (by omega)]; first | omega | (subst_vars; first | rfl | omega | exact conM_0 _ _ _)) | (rw [if_neg (by omega), if_neg (by omega), if_pos (by omega)]; first | omega | (subst_vars; first | rfl | omega | exact conM_0 _ _ _)) | (rw [if_neg (by omega), if_neg (by omega), if_neg (by omega), if_pos (by omega)]; first | omega | (subst_vars; first | rfl | omega | exact conM_0 _ _ _)) | (rw [if_neg (by omega), if_neg (by omega), if_neg (by omega), if_neg (by omega)]; first | omega | (subst_vars; first | rfl | omega | exact conM_0 _ _ _))
             · rw [← ht]; assumption)) dX6_cell_36
  refine lv_iload_n hx hb dX6_cell_1 rfl (lv_at hl 1 rfl) ?_
  refine lv_iload_n hx hb dX6_cell_2 rfl (lv_at hl 2 rfl) ?_
  refine lv_iload_n hx hb dX6_cell_3 rfl (lv_at hl 3 rfl) ?_
  refine g_goi hG hA (va_runS (As := [.int (iI (t0)), .int (iI (b)), .int (iI (d))]) (rest := [.ref (ad 0)]) ⟨hx, hb, hml, hown, hts⟩ (mX6_isCell l D cy ad n st _ fz wb hn hI (by omega) (t0) (b) (d) (by omega) (by omega) (by omega)) (va_cwS 3 hts gX6_cell_X6_isCell rfl rfl rfl (by decide +kernel) ⟨Nat.le_of_ble_eq_true rfl, Nat.le_of_ble_eq_true rfl⟩) ⟨g_blind, g_pre hK hG hA hN hZ⟩ rfl rfl hl.1 rfl (lv_room (Nat.le_of_ble_eq_true rfl)) dX6_cell_4 ⟨Nat.zero_le _, Nat.zero_le _⟩) (fun r9 s9 H locs hp hG => ?_)
  obtain ⟨rfl, hs9⟩ := hp
  rw [hs9] at hG
  clear hs9
  refine r_nm (fun v26 ev26 => ?_)
  have hr27 := isCellF_s (t0) (b) (d)
  rw [← ev26] at hr27
  refine r_if_eq (tgt := 24) hx hb (by omega) dX6_cell_7 (by decide) (fun c28 => ?_) (fun c28 => ?_)
  · skip
    refine lv_iconst (v := iI (1)) hx hb dX6_cell_24 rfl ?_
    exact hlab25 (1)  _ _ _ (by have hks := kCell_s t0 b d w; omega) hG (lv_sub hl [0, 1, 2, 3, 4] rfl)
  · skip
    refine lv_iload hx hb dX6_cell_10 (lv_at hl 4 rfl) ?_
    refine lv_iconst (v := iI (0)) hx hb dX6_cell_12 rfl ?_
    refine lv_iconst (v := iI (4)) hx hb dX6_cell_13 rfl ?_
    refine g_goi hG hA (va_runS (As := [.int (iI (w)), .int (iI (0)), .int (iI (4))]) (rest := [.ref (ad 0)]) ⟨hx, hb, hml, hown, hts⟩ (mX6_in l D cy ad n st _ fz wb hn hI (by omega) (w) (0) (4) (by omega) (by omega) (by omega)) (va_cwS 3 hts gX6_cell_X6_in rfl rfl rfl (by decide +kernel) ⟨Nat.le_of_ble_eq_true rfl, Nat.le_of_ble_eq_true rfl⟩) ⟨g_blind, g_pre hK hG hA hN hZ⟩ rfl rfl hl.1 rfl (lv_room (Nat.le_of_ble_eq_true rfl)) dX6_cell_14 ⟨Nat.zero_le _, Nat.zero_le _⟩) (fun r9 s9 H locs hp hG => ?_)
    obtain ⟨rfl, hs9⟩ := hp
    rw [hs9] at hG
    clear hs9
    refine r_nm (fun v29 ev29 => ?_)
    have hr30 := inF_s (w) (0) (4)
    rw [← ev29] at hr30
    refine r_if_eq (tgt := 24) hx hb (by omega) dX6_cell_17 (by decide) (fun c31 => ?_) (fun c31 => ?_)
    · skip
      refine lv_iconst (v := iI (1)) hx hb dX6_cell_24 rfl ?_
      exact hlab25 (1)  _ _ _ (by have hks := kCell_s t0 b d w; omega) hG (lv_sub hl [0, 1, 2, 3, 4] rfl)
    · skip
      refine lv_iconst (v := iI (0)) hx hb dX6_cell_20 rfl ?_
      refine lv_goto (tgt := 25) hx hb dX6_cell_21 (by decide) ?_
      exact hlab25 (0)  _ _ _ (by have hks := kCell_s t0 b d w; omega) hG (lv_sub hl [0, 1, 2, 3, 4] rfl)
set_option maxHeartbeats 400000 in
set_option maxRecDepth 100000 in
theorem mX6_inputOf (l : Launch) (D : va_G) (cy : Nat → ClassId) (ad : Nat → Nat) (n : Nat) (st : St) (sz fz : Nat) (wb : Int) (hn : 75 ≤ n) (hI : GI wb st) (hW : wb ≤ 2000000) (vec : Nat) (k : Nat) (hvec : vec < 2 ^ 64) (hk : k < 8) : Met l yX6_inputOf wsX6_inputOf ({ frames := 0, cells := 0, slots := 0, locals := 0 }) (va_Pc [.long (lN vec), .int (iI (((k : Nat) : Int)))] (gB D cy ad n st sz fz)) (va_Qi (fun (r : Int32) (st' : St) => r = iI (inpF vec k) ∧ st' = st) (gP D cy ad n) (gA n ad sz)) 0 0 (gA n ad sz) := by
  refine Met.ofW (cc := cX6_inputOf) (maxL := 3) (ret := (some .int)) (by decide) rfl ?_
  intro p e s m args below meth c s₁ B hml hv
  obtain ⟨rfl, hsz, hP, hK, hD0, hN, hZ⟩ := hv
  have hx := B.exec
  have hb := B.bytes
  have hr := B.returns
  have hts := atoms_spec (ws := wsX6_inputOf) B.pre
  have hown : s.vm.findClass RX6 = some m.cls := findClass_of_methodNamed B.named
  have hlocks := B.notSynchronized
  subst hsz
  have hA : ∀ q : Nat, s.heap.size ≤ q → gA n ad s.heap.size q := fun q h => Or.inr h
  have hG : GH D cy ad n st (gA n ad s.heap.size) s.heap s.heap [] := ⟨hP, gw_A hD0, va_S.rf⟩
  have hl := lv_entry ([.long (lN vec), .int (iI (((k : Nat) : Int)))]) (n := 3) (Nat.le_of_ble_eq_true rfl)
  rw [lg_entry_eq]
  generalize (lg_sl ([.long (lN vec), .int (iI (((k : Nat) : Int)))]) ++ List.replicate (3 - (lg_sl ([.long (lN vec), .int (iI (((k : Nat) : Int)))])).length) Slot.unset).toArray = ls at hl ⊢
  have hl : lv_has ls 3 [(0, .long (lN vec)), (2, .int (iI (((k : Nat) : Int))))] := hl
  have L_154 := hts (.constantLong RX6 154 (255)) (by decide +kernel)
  refine lv_lload_n hx hb dX6_inputOf_0 rfl (lv_at hl 0 rfl) ?_
  refine lv_bipush (v := iI (8)) hx hb dX6_inputOf_1 (by decide +kernel) ?_
  refine lv_iload_n hx hb dX6_inputOf_3 rfl (lv_at hl 1 rfl) ?_
  refine r_imul hx hb dX6_inputOf_4 ?_
  refine r_nm (fun v1 ev1 => ?_)
  refine r_as (y := ((8 * k : Nat) : Int)) (by omega) ?_
  refine lv_lushr (v := lN (vec / 2 ^ (8 * k))) hx hb dX6_inputOf_5 (by exact vlushr hvec (by omega)) ?_
  refine lv_ldc2 hx hb hown L_154 dX6_inputOf_6 ?_
  refine lv_land hx hb dX6_inputOf_9 ?_
  refine r_asL (y := lN (vec / 2 ^ (8 * k) % 256)) (by exact vland255 (vdivlt hvec)) ?_
  refine lv_l2i (v := iI (((vec / 2 ^ (8 * k) % 256 : Nat) : Int))) hx hb dX6_inputOf_10 (by exact vl2i _) ?_
  skip
  refine r_nm (fun v2 ev2 => ?_)
  exact g_iret hx hb hr hlocks hG (by
    refine ⟨?_, rfl⟩
    congr 1) dX6_inputOf_11
set_option maxHeartbeats 400000 in
set_option maxRecDepth 100000 in
theorem mX6_drawn (l : Launch) (D : va_G) (cy : Nat → ClassId) (ad : Nat → Nat) (n : Nat) (st : St) (sz fz : Nat) (wb : Int) (hn : 75 ≤ n) (hI : GI wb st) (hW : wb ≤ 2000000) (x : Int) (hx9 : 0 ≤ x ∧ x ≤ 65535) : Met l yX6_drawn wsX6_drawn ({ frames := 0, cells := 0, slots := 0, locals := 0 }) (va_Pc [.int (iI (x))] (gB D cy ad n st sz fz)) (va_Qi (fun (r : Int32) (st' : St) => r = iI (drF x) ∧ st' = st) (gP D cy ad n) (gA n ad sz)) 0 0 (gA n ad sz) := by
  refine Met.ofW (cc := cX6_drawn) (maxL := 1) (ret := (some .int)) (by decide) rfl ?_
  intro p e s m args below meth c s₁ B hml hv
  obtain ⟨rfl, hsz, hP, hK, hD0, hN, hZ⟩ := hv
  have hx := B.exec
  have hb := B.bytes
  have hr := B.returns
  have hts := atoms_spec (ws := wsX6_drawn) B.pre
  have hown : s.vm.findClass RX6 = some m.cls := findClass_of_methodNamed B.named
  have hlocks := B.notSynchronized
  subst hsz
  have hA : ∀ q : Nat, s.heap.size ≤ q → gA n ad s.heap.size q := fun q h => Or.inr h
  have hG : GH D cy ad n st (gA n ad s.heap.size) s.heap s.heap [] := ⟨hP, gw_A hD0, va_S.rf⟩
  have hl := lv_entry ([.int (iI (x))]) (n := 1) (Nat.le_of_ble_eq_true rfl)
  rw [lg_entry_eq]
  generalize (lg_sl ([.int (iI (x))]) ++ List.replicate (1 - (lg_sl ([.int (iI (x))])).length) Slot.unset).toArray = ls at hl ⊢
  have hl : lv_has ls 1 [(0, .int (iI (x)))] := hl
  have L_142 := hts (.constantLong RX6 142 (25173)) (by decide +kernel)
  have L_144 := hts (.constantLong RX6 144 (13849)) (by decide +kernel)
  have L_146 := hts (.constantLong RX6 146 (65536)) (by decide +kernel)
  refine lv_ldc2 hx hb hown L_142 dX6_drawn_0 ?_
  refine r_asL (y := lI (25173)) (by decide +kernel) ?_
  refine lv_iload_n hx hb dX6_drawn_3 rfl (lv_at hl 0 rfl) ?_
  refine lv_i2l (v := lI (x)) hx hb dX6_drawn_4 (lI_i2l (by omega) (by omega)) ?_
  refine lv_lmul hx hb dX6_drawn_5 ?_
  refine r_asL (y := lI (25173 * x)) (by exact lI_mul _ _) ?_
  refine lv_ldc2 hx hb hown L_144 dX6_drawn_6 ?_
  refine r_asL (y := lI (13849)) (by decide +kernel) ?_
  refine lv_ladd hx hb dX6_drawn_9 ?_
  refine r_asL (y := lI (25173 * x + 13849)) (by exact lI_add _ _) ?_
  refine lv_ldc2 hx hb hown L_146 dX6_drawn_10 ?_
  refine r_asL (y := lI (65536)) (by decide +kernel) ?_
  refine lv_lrem hx hb dX6_drawn_13 (by decide +kernel) ?_
  refine r_asL (y := lI ((25173 * x + 13849) % 65536)) (by exact lI_rem (by omega) (by omega) (by omega) (by omega)) ?_
  refine lv_l2i (v := iI ((25173 * x + 13849) % 65536)) hx hb dX6_drawn_14 (by exact lI_l2i) ?_
  skip
  refine r_nm (fun v1 ev1 => ?_)
  exact g_iret hx hb hr hlocks hG (by
    refine ⟨?_, rfl⟩
    congr 1) dX6_drawn_15
set_option maxHeartbeats 400000 in
set_option maxRecDepth 100000 in
theorem mX6_ones (l : Launch) (D : va_G) (cy : Nat → ClassId) (ad : Nat → Nat) (n : Nat) (st : St) (sz fz : Nat) (wb : Int) (hn : 75 ≤ n) (hI : GI wb st) (hW : wb ≤ 2000000) (S : Nat) (hS : S < 256) : Met l yX6_ones wsX6_ones ({ frames := 0, cells := 0, slots := 0, locals := 0 }) (va_Pc [.int (iI (((S : Nat) : Int)))] (gB D cy ad n st sz fz)) (va_Qi (fun (r : Int32) (st' : St) => r = iI (((onesU S 8 : Nat) : Int)) ∧ st' = st) (gP D cy ad n) (gA n ad sz)) 0 0 (gA n ad sz) := by
  refine Met.ofW (cc := cX6_ones) (maxL := 3) (ret := (some .int)) (by decide) rfl ?_
  intro p e s m args below meth c s₁ B hml hv
  obtain ⟨rfl, hsz, hP, hK, hD0, hN, hZ⟩ := hv
  have hx := B.exec
  have hb := B.bytes
  have hr := B.returns
  have hts := atoms_spec (ws := wsX6_ones) B.pre
  have hown : s.vm.findClass RX6 = some m.cls := findClass_of_methodNamed B.named
  have hlocks := B.notSynchronized
  subst hsz
  have hA : ∀ q : Nat, s.heap.size ≤ q → gA n ad s.heap.size q := fun q h => Or.inr h
  have hG : GH D cy ad n st (gA n ad s.heap.size) s.heap s.heap [] := ⟨hP, gw_A hD0, va_S.rf⟩
  have hl := lv_entry ([.int (iI (((S : Nat) : Int)))]) (n := 3) (Nat.le_of_ble_eq_true rfl)
  rw [lg_entry_eq]
  generalize (lg_sl ([.int (iI (((S : Nat) : Int)))]) ++ List.replicate (3 - (lg_sl ([.int (iI (((S : Nat) : Int)))])).length) Slot.unset).toArray = ls at hl ⊢
  have hl : lv_has ls 3 [(0, .int (iI (((S : Nat) : Int))))] := hl
  refine lv_iconst (v := iI (0)) hx hb dX6_ones_0 rfl ?_
  refine lv_istore_n (lv' := [(1, .int (iI (0))), (0, .int (iI (((S : Nat) : Int))))]) hx hb dX6_ones_1 rfl hl (by decide) rfl (fun ls hl => ?_)
  refine lv_iconst (v := iI (0)) hx hb dX6_ones_2 rfl ?_
  refine lv_istore_n (lv' := [(2, .int (iI (0))), (1, .int (iI (0))), (0, .int (iI (((S : Nat) : Int))))]) hx hb dX6_ones_3 rfl hl (by decide) rfl (fun ls hl => ?_)
  have hloop4 : ∀ (N : Nat)  (k : Nat) (H : Heap) (locs : List Loc) (ls : Array Slot), 8 - k < N → (k ≤ 8) →  GH D cy ad n st (gA n ad s.heap.size) s.heap H locs → lv_has ls 3 [(1, .int (iI (((onesU S k : Nat) : Int)))), (2, .int (iI (((k : Nat) : Int)))), (0, .int (iI (((S : Nat) : Int))))] → W p l e (headSpec wsX6_ones { frames := 0, cells := 0, slots := 0, locals := 0 }).room s m (#[.int (iI (((S : Nat) : Int)))] : Array Value) below meth c H locs 0 0 (MQ below (va_Qi (fun (r : Int32) (st' : St) => r = iI (((onesU S 8 : Nat) : Int)) ∧ st' = st) (gP D cy ad n) (gA n ad s.heap.size)) (#[.int (iI (((S : Nat) : Int)))] : Array Value) s 0 0 (gA n ad s.heap.size)) (F0 m 4 ls []) := by
    intro N
    induction N with
    | zero => intro  k H locs ls hm; exact absurd hm (Nat.not_lt_zero _)
    | succ N ih4 =>
      intro  k H locs ls hm hk hG hl
      refine lv_iload_n hx hb dX6_ones_4 rfl (lv_at hl 1 rfl) ?_
      refine lv_bipush (v := iI (8)) hx hb dX6_ones_5 (by decide +kernel) ?_
      refine r_icmp_ge (tgt := 24) hx hb (by omega) dX6_ones_7 (by decide) (fun c1 => ?_) (fun c1 => ?_)
      · skip
        refine lv_iload_n hx hb dX6_ones_24 rfl (lv_at hl 0 rfl) ?_
        exact g_iret hx hb hr hlocks hG (by
          refine ⟨?_, rfl⟩
          congr 1
          rw [show k = 8 by omega]) dX6_ones_25
      · skip
        refine lv_iload_n hx hb dX6_ones_10 rfl (lv_at hl 0 rfl) ?_
        refine lv_iload_n hx hb dX6_ones_11 rfl (lv_at hl 2 rfl) ?_
        refine lv_iload_n hx hb dX6_ones_12 rfl (lv_at hl 1 rfl) ?_
        refine r_as (y := ((k : Nat) : Int)) (by rfl) ?_
        refine r_ishr hx hb (by omega) (by constructor <;> omega) dX6_ones_13 ?_
        refine r_nm (fun v2 ev2 => ?_)
        refine lv_iconst (v := iI (1)) hx hb dX6_ones_14 rfl ?_
        refine r_iand 1 hx hb (by decide) (by decide) dX6_ones_15 ?_
        refine r_nm (fun v3 ev3 => ?_)
        refine r_iadd hx hb dX6_ones_16 ?_
        refine r_nm (fun v4 ev4 => ?_)
        refine lv_istore_n (lv' := [(1, .int (iI (v4))), (2, .int (iI (((k : Nat) : Int)))), (0, .int (iI (((S : Nat) : Int))))]) hx hb dX6_ones_17 rfl hl (by decide) rfl (fun ls hl => ?_)
        obtain ⟨v5, ev5⟩ : ∃ y : Int, y = ((k : Nat) : Int) + (1) := ⟨_, rfl⟩
        refine lv_iinc (v := iI v5) (lv' := [(2, .int (iI (v5))), (1, .int (iI (v4))), (0, .int (iI (((S : Nat) : Int))))]) hx hb dX6_ones_18 hl (k := 1) rfl (by rw [ev5]; exact iI_add _ _) (by decide) rfl (fun ls hl => ?_)
        refine lv_goto (tgt := 4) hx hb dX6_ones_21 (by decide) ?_
        rw [show (v4 : Int) = ((onesU S (k + 1) : Nat) : Int) from by (rw [onesU_s]; omega)] at hl
        rw [show (v5 : Int) = (((k + 1) : Nat) : Int) from by omega] at hl
        exact ih4  (k + 1) _ _ _ (by omega) (by omega) hG (lv_sub hl [1, 0, 2] rfl)
  exact hloop4 _  (0) _ _ _ (Nat.lt_succ_self _) (by omega) hG (lv_sub hl [1, 0, 2] rfl)
set_option maxHeartbeats 400000 in
set_option maxRecDepth 100000 in
theorem mX6_idealOf (l : Launch) (D : va_G) (cy : Nat → ClassId) (ad : Nat → Nat) (n : Nat) (st : St) (sz fz : Nat) (wb : Int) (hn : 75 ≤ n) (hI : GI wb st) (hW : wb ≤ 2000000) (a : Int) (vec : Nat) (o : Int) (ha : 0 ≤ a ∧ a < 6) (hvec : vec < 2 ^ 64) (ho : 0 ≤ o ∧ o < 4) : Met l yX6_idealOf wsX6_idealOf ({ frames := 1, cells := 0, slots := 0, locals := 22 }) (va_Pc [.ref (ad 0), .int (iI (a)), .long (lN vec), .int (iI (o))] (gB D cy ad n st sz fz)) (va_Qi (fun (r : Int32) (st' : St) => r = iI (idU st a o vec (st 15 0 a).toNat) ∧ st' = st) (gP D cy ad n) (gA n ad sz)) 0 0 (gA n ad sz) := by
  refine Met.ofW (cc := cX6_idealOf) (maxL := 7) (ret := (some .int)) (by decide) rfl ?_
  intro p e s m args below meth c s₁ B hml hv
  obtain ⟨rfl, hsz, hP, hK, hD0, hN, hZ⟩ := hv
  have hx := B.exec
  have hb := B.bytes
  have hr := B.returns
  have hts := atoms_spec (ws := wsX6_idealOf) B.pre
  have hown : s.vm.findClass RX6 = some m.cls := findClass_of_methodNamed B.named
  have hlocks := B.notSynchronized
  subst hsz
  have hA : ∀ q : Nat, s.heap.size ≤ q → gA n ad s.heap.size q := fun q h => Or.inr h
  have hG : GH D cy ad n st (gA n ad s.heap.size) s.heap s.heap [] := ⟨hP, gw_A hD0, va_S.rf⟩
  have hl := lv_entry ([.ref (ad 0), .int (iI (a)), .long (lN vec), .int (iI (o))]) (n := 7) (Nat.le_of_ble_eq_true rfl)
  rw [lg_entry_eq]
  generalize (lg_sl ([.ref (ad 0), .int (iI (a)), .long (lN vec), .int (iI (o))]) ++ List.replicate (7 - (lg_sl ([.ref (ad 0), .int (iI (a)), .long (lN vec), .int (iI (o))])).length) Slot.unset).toArray = ls at hl ⊢
  have hl : lv_has ls 7 [(0, .ref (ad 0)), (1, .int (iI (a))), (2, .long (lN vec)), (4, .int (iI (o)))] := hl
  have hin6 : ∀ w ∈ u_ws RX6 TX6 25, w ∈ wsX6_idealOf := by decide +kernel
  have L_45 := hts (.fieldLink RX6 45 "CrossbarryModel" "inputs" "[I") (by decide +kernel)
  have L_51 := hts (.fieldLink RX6 51 "CrossbarryModel" "weights" "[I") (by decide +kernel)
  have hin := gI_15 hI 0 a
  refine lv_iconst (v := iI (0)) hx hb dX6_idealOf_0 rfl ?_
  refine lv_istore (lv' := [(5, .int (iI (0))), (0, .ref (ad 0)), (1, .int (iI (a))), (2, .long (lN vec)), (4, .int (iI (o)))]) hx hb dX6_idealOf_1 hl (by decide) rfl (fun ls hl => ?_)
  refine lv_iconst (v := iI (0)) hx hb dX6_idealOf_3 rfl ?_
  refine lv_istore (lv' := [(6, .int (iI (0))), (5, .int (iI (0))), (0, .ref (ad 0)), (1, .int (iI (a))), (2, .long (lN vec)), (4, .int (iI (o)))]) hx hb dX6_idealOf_4 hl (by decide) rfl (fun ls hl => ?_)
  have hloop6 : ∀ (N : Nat)  (k : Nat) (H : Heap) (locs : List Loc) (ls : Array Slot), 8 - k < N → ((k : Int) ≤ st 15 0 a) →  GH D cy ad n st (gA n ad s.heap.size) s.heap H locs → lv_has ls 7 [(5, .int (iI (idU st a o vec k))), (6, .int (iI (((k : Nat) : Int)))), (0, .ref (ad 0)), (1, .int (iI (a))), (2, .long (lN vec)), (4, .int (iI (o)))] → W p l e (headSpec wsX6_idealOf { frames := 1, cells := 0, slots := 0, locals := 22 }).room s m (#[.ref (ad 0), .int (iI (a)), .long (lN vec), .int (iI (o))] : Array Value) below meth c H locs 0 0 (MQ below (va_Qi (fun (r : Int32) (st' : St) => r = iI (idU st a o vec (st 15 0 a).toNat) ∧ st' = st) (gP D cy ad n) (gA n ad s.heap.size)) (#[.ref (ad 0), .int (iI (a)), .long (lN vec), .int (iI (o))] : Array Value) s 0 0 (gA n ad s.heap.size)) (F0 m 6 ls []) := by
    intro N
    induction N with
    | zero => intro  k H locs ls hm; exact absurd hm (Nat.not_lt_zero _)
    | succ N ih6 =>
      intro  k H locs ls hm hk hG hl
      refine lv_iload hx hb dX6_idealOf_6 (lv_at hl 1 rfl) ?_
      refine lv_aload_n hx hb dX6_idealOf_8 rfl (lv_at hl 2 rfl) ?_
      refine g_get hx hb hts hin6 hown hK hG (key := 0) (by omega) (gC_0 st ad cy) rfl 15 (by decide) L_45 (fun _ h9 => h9) rfl dX6_idealOf_9 ?_
      refine lv_iload_n hx hb dX6_idealOf_12 rfl (lv_at hl 3 rfl) ?_
      refine g_iald hx hb hK hG (11) (kd := 11) (o := 0) rfl rfl (by omega) (cp := 15) (ln := 6) rfl rfl (by omega) dX6_idealOf_13 ?_
      have hr1 := gI_15 hI (0) (a)
      refine r_nm (fun v2 ev2 => ?_)
      rw [← ev2] at hr1
      refine r_icmp_ge (tgt := 48) hx hb (by omega) dX6_idealOf_14 (by decide) (fun c3 => ?_) (fun c3 => ?_)
      · skip
        refine lv_iload hx hb dX6_idealOf_48 (lv_at hl 0 rfl) ?_
        exact g_iret hx hb hr hlocks hG (by
          refine ⟨?_, rfl⟩
          congr 2
          omega) dX6_idealOf_50
      · skip
        refine lv_iload hx hb dX6_idealOf_17 (lv_at hl 0 rfl) ?_
        refine lv_aload_n hx hb dX6_idealOf_19 rfl (lv_at hl 2 rfl) ?_
        refine g_get hx hb hts hin6 hown hK hG (key := 0) (by omega) (gC_0 st ad cy) rfl 17 (by decide) L_51 (fun _ h9 => h9) rfl dX6_idealOf_20 ?_
        refine lv_iload_n hx hb dX6_idealOf_23 rfl (lv_at hl 3 rfl) ?_
        refine lv_iload hx hb dX6_idealOf_24 (lv_at hl 1 rfl) ?_
        refine lv_iload hx hb dX6_idealOf_26 (lv_at hl 5 rfl) ?_
        refine g_goi hG hA (va_runS (As := [.int (iI (a)), .int (iI (((k : Nat) : Int))), .int (iI (o))]) (rest := [.ref (ad 13), .int (iI (idU st a o vec k))]) ⟨hx, hb, hml, hown, hts⟩ (mX6_weightAt l D cy ad n st _ fz wb hn hI (by omega) (a) (((k : Nat) : Int)) (o) ) (va_cwS 3 hts gX6_idealOf_X6_weightAt rfl rfl rfl (by decide +kernel) ⟨Nat.le_of_ble_eq_true rfl, Nat.le_of_ble_eq_true rfl⟩) ⟨g_blind, g_pre hK hG hA hN hZ⟩ rfl rfl hl.1 rfl (lv_room (Nat.le_of_ble_eq_true rfl)) dX6_idealOf_28 ⟨Nat.zero_le _, Nat.zero_le _⟩) (fun r9 s9 H locs hp hG => ?_)
        obtain ⟨rfl, hs9⟩ := hp
        rw [hs9] at hG
        clear hs9
        refine r_nm (fun v4 ev4 => ?_)
        refine g_iald hx hb hK hG (13) (kd := 13) (o := 0) rfl rfl (by omega) (cp := 17) (ln := 192) rfl rfl (by omega) dX6_idealOf_31 ?_
        have hr5 := gI_17 hI (0) (v4)
        refine r_nm (fun v6 ev6 => ?_)
        rw [← ev6] at hr5
        refine lv_lload_n hx hb dX6_idealOf_32 rfl (lv_at hl 4 rfl) ?_
        refine lv_iload hx hb dX6_idealOf_33 (lv_at hl 1 rfl) ?_
        refine g_goi hG hA (va_runS (As := [.long (lN vec), .int (iI (((k : Nat) : Int)))]) (rest := [.int (iI (v6)), .int (iI (idU st a o vec k))]) ⟨hx, hb, hml, hown, hts⟩ (mX6_inputOf l D cy ad n st _ fz wb hn hI (by omega) vec (k) (by omega) (by omega)) (va_cwS 2 hts gX6_idealOf_X6_inputOf rfl rfl rfl (by decide +kernel) ⟨Nat.le_of_ble_eq_true rfl, Nat.le_of_ble_eq_true rfl⟩) ⟨g_blind, g_pre hK hG hA hN hZ⟩ rfl rfl hl.1 rfl (lv_room (Nat.le_of_ble_eq_true rfl)) dX6_idealOf_35 ⟨Nat.zero_le _, Nat.zero_le _⟩) (fun r9 s9 H locs hp hG => ?_)
        obtain ⟨rfl, hs9⟩ := hp
        rw [hs9] at hG
        clear hs9
        refine r_nm (fun v7 ev7 => ?_)
        have hr8 := inpF_r vec (k)
        rw [← ev7] at hr8
        refine r_imul hx hb dX6_idealOf_38 ?_
        refine r_nm (fun v9 ev9 => ?_)
        refine r_iadd hx hb dX6_idealOf_39 ?_
        refine r_nm (fun v10 ev10 => ?_)
        refine lv_istore (lv' := [(5, .int (iI (v10))), (6, .int (iI (((k : Nat) : Int)))), (0, .ref (ad 0)), (1, .int (iI (a))), (2, .long (lN vec)), (4, .int (iI (o)))]) hx hb dX6_idealOf_40 hl (by decide) rfl (fun ls hl => ?_)
        obtain ⟨v11, ev11⟩ : ∃ y : Int, y = ((k : Nat) : Int) + (1) := ⟨_, rfl⟩
        refine lv_iinc (v := iI v11) (lv' := [(6, .int (iI (v11))), (5, .int (iI (v10))), (0, .ref (ad 0)), (1, .int (iI (a))), (2, .long (lN vec)), (4, .int (iI (o)))]) hx hb dX6_idealOf_42 hl (k := 1) rfl (by rw [ev11]; exact iI_add _ _) (by decide) rfl (fun ls hl => ?_)
        refine lv_goto (tgt := 6) hx hb dX6_idealOf_45 (by decide) ?_
        rw [show (v10 : Int) = idU st a o vec (k + 1) from by (subst_vars; rfl)] at hl
        rw [show (v11 : Int) = (((k + 1) : Nat) : Int) from by omega] at hl
        exact ih6  (k + 1) _ _ _ (by omega) (by omega) hG (lv_sub hl [1, 0, 2, 3, 4, 5] rfl)
  exact hloop6 _  (0) _ _ _ (Nat.lt_succ_self _) (by omega) hG (lv_sub hl [1, 0, 2, 3, 4, 5] rfl)
set_option maxHeartbeats 400000 in
set_option maxRecDepth 100000 in
theorem mX6_ideal (l : Launch) (D : va_G) (cy : Nat → ClassId) (ad : Nat → Nat) (n : Nat) (st : St) (sz fz : Nat) (wb : Int) (hn : 75 ≤ n) (hI : GI wb st) (hW : wb ≤ 2000000) (a : Int) (vec : Nat) (o : Int) (ha : -2147483648 ≤ a ∧ a < 2147483648) (ho : -2147483648 ≤ o ∧ o < 2147483648) (hvec : vec < 2 ^ 64) : Met l yX6_ideal wsX6_ideal ({ frames := 2, cells := 0, slots := 0, locals := 48 }) (va_Pc [.ref (ad 0), .int (iI (a)), .long (lN vec), .int (iI (o))] (gB D cy ad n st sz fz)) (va_Qi (fun (r : Int32) (st' : St) => r = iI (aIdl st a o vec) ∧ st' = ust st 0 0 0 (kIdl st a o) ∧ GI wb st') (gP D cy ad n) (gA n ad sz)) 0 0 (gA n ad sz) := by
  refine Met.ofW (cc := cX6_ideal) (maxL := 5) (ret := (some .int)) (by decide) rfl ?_
  intro p e s m args below meth c s₁ B hml hv
  obtain ⟨rfl, hsz, hP, hK, hD0, hN, hZ⟩ := hv
  have hx := B.exec
  have hb := B.bytes
  have hr := B.returns
  have hts := atoms_spec (ws := wsX6_ideal) B.pre
  have hown : s.vm.findClass RX6 = some m.cls := findClass_of_methodNamed B.named
  have hlocks := B.notSynchronized
  subst hsz
  have hA : ∀ q : Nat, s.heap.size ≤ q → gA n ad s.heap.size q := fun q h => Or.inr h
  have hG : GH D cy ad n st (gA n ad s.heap.size) s.heap s.heap [] := ⟨hP, gw_A hD0, va_S.rf⟩
  have hl := lv_entry ([.ref (ad 0), .int (iI (a)), .long (lN vec), .int (iI (o))]) (n := 5) (Nat.le_of_ble_eq_true rfl)
  rw [lg_entry_eq]
  generalize (lg_sl ([.ref (ad 0), .int (iI (a)), .long (lN vec), .int (iI (o))]) ++ List.replicate (5 - (lg_sl ([.ref (ad 0), .int (iI (a)), .long (lN vec), .int (iI (o))])).length) Slot.unset).toArray = ls at hl ⊢
  have hl : lv_has ls 5 [(0, .ref (ad 0)), (1, .int (iI (a))), (2, .long (lN vec)), (4, .int (iI (o)))] := hl
  have hin6 : ∀ w ∈ u_ws RX6 TX6 25, w ∈ wsX6_ideal := by decide +kernel
  have L_48 := hts (.fieldLink RX6 48 "CrossbarryModel" "outputs" "[I") (by decide +kernel)
  have L_75 := hts (.fieldLink RX6 75 "CrossbarryModel" "thrown" "I") (by decide +kernel)
  have hmn := gI_14 hI 0 0
  have hw16 := gI_16 hI 0 a
  refine lv_aload_n hx hb dX6_ideal_0 rfl (lv_at hl 0 rfl) ?_
  have hlab31 : ∀ (t : Int) (H : Heap) (locs : List Loc) (ls : Array Slot), (t = kIdl st a o) →  GH D cy ad n st (gA n ad s.heap.size) s.heap H locs → lv_has ls 5 [(0, .ref (ad 0)), (1, .int (iI (a))), (2, .long (lN vec)), (4, .int (iI (o)))] → W p l e (headSpec wsX6_ideal { frames := 2, cells := 0, slots := 0, locals := 48 }).room s m (#[.ref (ad 0), .int (iI (a)), .long (lN vec), .int (iI (o))] : Array Value) below meth c H locs 0 0 (MQ below (va_Qi (fun (r : Int32) (st' : St) => r = iI (aIdl st a o vec) ∧ st' = ust st 0 0 0 (kIdl st a o) ∧ GI wb st') (gP D cy ad n) (gA n ad s.heap.size)) (#[.ref (ad 0), .int (iI (a)), .long (lN vec), .int (iI (o))] : Array Value) s 0 0 (gA n ad s.heap.size)) (F0 m 31 ls [.int (iI (t)), .ref (ad 0)]) := by
    intro t H locs ls ht hG hl
    have hks := kIdl_s st a o
    refine g_put hx hb hts hin6 tyX6 tyX6_ok nmX6 hown hK hG (key := 0) (by omega) (gC_0 st ad cy) rfl 0 (by decide) L_75 (fun _ h9 => h9) rfl (ty := .int) (by decide +kernel) rfl rfl (Nat.le_of_ble_eq_true rfl) dX6_ideal_31 (ust st 0 0 0 (t)) (fun j _ => gU_0 st ad cy (t) j) (fun H locs hG => ?_)
    obtain ⟨st1, hst1⟩ : ∃ z : St, z = ust st 0 (0) (0) (t) := ⟨_, rfl⟩
    rw [← hst1] at hG
    replace hI := hst1 ▸ gIu_0 hI (0) (0) (v := t) (by omega)
    refine lv_aload_n hx hb dX6_ideal_34 rfl (lv_at hl 0 rfl) ?_
    refine g_get hx hb hts hin6 hown hK hG (key := 0) (by omega) (gC_0 st1 ad cy) rfl 0 (by decide) L_75 (fun _ h9 => h9) rfl dX6_ideal_35 ?_
    have hr2 := gI_0 hI (0) (0)
    have kq3 : st1 0 (0) (0) = t := by rw [hst1, ust_s]
    rw [kq3] at hr2
    refine r_as kq3 ?_
    clear kq3
    refine r_if_le (tgt := 45) hx hb (by omega) dX6_ideal_38 (by decide) (fun c4 => ?_) (fun c4 => ?_)
    · skip
      refine lv_aload_n hx hb dX6_ideal_45 rfl (lv_at hl 0 rfl) ?_
      refine lv_iload_n hx hb dX6_ideal_46 rfl (lv_at hl 1 rfl) ?_
      refine lv_lload_n hx hb dX6_ideal_47 rfl (lv_at hl 2 rfl) ?_
      refine lv_iload hx hb dX6_ideal_48 (lv_at hl 3 rfl) ?_
      refine g_goi hG hA (va_runV (As := [.int (iI (a)), .long (lN vec), .int (iI (o))]) (rest := []) ⟨hx, hb, hml, hown, hts⟩ (mX6_idealOf l D cy ad n st1 _ fz wb hn hI (by omega) (a) vec (o) (by omega) (by omega) (by omega)) (cwV 3 hts gX6_ideal_X6_idealOf rfl rfl rfl (by decide +kernel) ⟨Nat.le_of_ble_eq_true rfl, Nat.le_of_ble_eq_true rfl⟩) ⟨g_blind, va_recv hK hG.1 (q0 := 0) (ci := 6) rfl ((gw_at (by omega)).trans (by rw [gC_0 st1 ad cy])), g_pre hK hG hA hN hZ⟩ rfl rfl hl.1 rfl (lv_room (Nat.le_of_ble_eq_true rfl)) dX6_ideal_50 ⟨Nat.zero_le _, Nat.zero_le _⟩) (fun r9 s9 H locs hp hG => ?_)
      obtain ⟨rfl, hs9⟩ := hp
      rw [hs9] at hG
      clear hs9
      refine r_nm (fun v5 ev5 => ?_)
      have hr6 := idU_b hI (a) (o) vec (st1 15 0 (a)).toNat
      rw [← ev5] at hr6
      exact g_iret hx hb hr hlocks hG (by
        first
          | (refine ⟨?_, ?_, hI⟩
             · congr 1; unfold aIdl; rw [if_neg (by omega)]
             · rw [← ht]; assumption)
          | (refine ⟨?_, ?_, hI⟩
             · congr 1; unfold aIdl; rw [if_pos (by omega)]; subst_vars; rfl
             · rw [← ht]; assumption)) dX6_ideal_53
    · skip
      refine lv_iconst (v := iI (0)) hx hb dX6_ideal_41 rfl ?_
      refine lv_goto (tgt := 53) hx hb dX6_ideal_42 (by decide) ?_
      exact g_iret hx hb hr hlocks hG (by
        first
          | (refine ⟨?_, ?_, hI⟩
             · congr 1; unfold aIdl; rw [if_neg (by omega)]
             · rw [← ht]; assumption)
          | (refine ⟨?_, ?_, hI⟩
             · congr 1; unfold aIdl; rw [if_pos (by omega)]; subst_vars; rfl
             · rw [← ht]; assumption)) dX6_ideal_53
  refine lv_aload_n hx hb dX6_ideal_1 rfl (lv_at hl 0 rfl) ?_
  refine lv_iload_n hx hb dX6_ideal_2 rfl (lv_at hl 1 rfl) ?_
  refine g_goi hG hA (va_runV (As := [.int (iI (a))]) (rest := [.ref (ad 0)]) ⟨hx, hb, hml, hown, hts⟩ (mX6_isLayer l D cy ad n st _ fz wb hn hI (by omega) (a) (by omega)) (cwV 1 hts gX6_ideal_X6_isLayer rfl rfl rfl (by decide +kernel) ⟨Nat.le_of_ble_eq_true rfl, Nat.le_of_ble_eq_true rfl⟩) ⟨g_blind, va_recv hK hG.1 (q0 := 0) (ci := 6) rfl ((gw_at (by omega)).trans (by rw [gC_0 st ad cy])), g_pre hK hG hA hN hZ⟩ rfl rfl hl.1 rfl (lv_room (Nat.le_of_ble_eq_true rfl)) dX6_ideal_3 ⟨Nat.zero_le _, Nat.zero_le _⟩) (fun r9 s9 H locs hp hG => ?_)
  obtain ⟨rfl, hs9⟩ := hp
  rw [hs9] at hG
  clear hs9
  refine r_nm (fun v7 ev7 => ?_)
  have hr8 := inF_s (a) 0 (st 14 0 0 - 1)
  rw [← ev7] at hr8
  refine r_if_eq (tgt := 30) hx hb (by omega) dX6_ideal_6 (by decide) (fun c9 => ?_) (fun c9 => ?_)
  · skip
    refine lv_iconst (v := iI (1)) hx hb dX6_ideal_30 rfl ?_
    exact hlab31 (1)  _ _ _ (by have hks := kIdl_s st a o; omega) hG (lv_sub hl [0, 1, 2, 3] rfl)
  · skip
    refine lv_iload hx hb dX6_ideal_9 (lv_at hl 3 rfl) ?_
    refine lv_iconst (v := iI (0)) hx hb dX6_ideal_11 rfl ?_
    refine lv_aload_n hx hb dX6_ideal_12 rfl (lv_at hl 0 rfl) ?_
    refine g_get hx hb hts hin6 hown hK hG (key := 0) (by omega) (gC_0 st ad cy) rfl 16 (by decide) L_48 (fun _ h9 => h9) rfl dX6_ideal_13 ?_
    refine lv_iload_n hx hb dX6_ideal_16 rfl (lv_at hl 1 rfl) ?_
    refine g_iald hx hb hK hG (12) (kd := 12) (o := 0) rfl rfl (by omega) (cp := 16) (ln := 6) rfl rfl (by omega) dX6_ideal_17 ?_
    have hr10 := gI_16 hI (0) (a)
    refine r_nm (fun v11 ev11 => ?_)
    rw [← ev11] at hr10
    refine lv_iconst (v := iI (1)) hx hb dX6_ideal_18 rfl ?_
    refine r_isub hx hb dX6_ideal_19 ?_
    refine r_nm (fun v12 ev12 => ?_)
    refine g_goi hG hA (va_runS (As := [.int (iI (o)), .int (iI (0)), .int (iI (v12))]) (rest := [.ref (ad 0)]) ⟨hx, hb, hml, hown, hts⟩ (mX6_in l D cy ad n st _ fz wb hn hI (by omega) (o) (0) (v12) (by omega) (by omega) (by omega)) (va_cwS 3 hts gX6_ideal_X6_in rfl rfl rfl (by decide +kernel) ⟨Nat.le_of_ble_eq_true rfl, Nat.le_of_ble_eq_true rfl⟩) ⟨g_blind, g_pre hK hG hA hN hZ⟩ rfl rfl hl.1 rfl (lv_room (Nat.le_of_ble_eq_true rfl)) dX6_ideal_20 ⟨Nat.zero_le _, Nat.zero_le _⟩) (fun r9 s9 H locs hp hG => ?_)
    obtain ⟨rfl, hs9⟩ := hp
    rw [hs9] at hG
    clear hs9
    refine r_nm (fun v13 ev13 => ?_)
    have hr14 := inF_s (o) (0) (v12)
    rw [← ev13] at hr14
    refine r_if_eq (tgt := 30) hx hb (by omega) dX6_ideal_23 (by decide) (fun c15 => ?_) (fun c15 => ?_)
    · skip
      refine lv_iconst (v := iI (1)) hx hb dX6_ideal_30 rfl ?_
      exact hlab31 (1)  _ _ _ (by have hks := kIdl_s st a o; omega) hG (lv_sub hl [0, 1, 2, 3] rfl)
    · skip
      refine lv_iconst (v := iI (0)) hx hb dX6_ideal_26 rfl ?_
      refine lv_goto (tgt := 31) hx hb dX6_ideal_27 (by decide) ?_
      exact hlab31 (0)  _ _ _ (by have hks := kIdl_s st a o; omega) hG (lv_sub hl [0, 1, 2, 3] rfl)
