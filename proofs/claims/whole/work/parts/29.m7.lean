set_option maxHeartbeats 400000 in
set_option maxRecDepth 100000 in
theorem mX6_spoil (l : Launch) (D : va_G) (cy : Nat → ClassId) (ad : Nat → Nat) (n : Nat) (st : St) (sz fz : Nat) (wb : Int) (hn : 75 ≤ n) (hI : GI wb st) (hW : wb ≤ 2000000) (t0 : Int) (x : Int) (y : Int) (ht0 : -2147483648 ≤ t0 ∧ t0 < 2147483648) (hx : -2147483648 ≤ x ∧ x < 2147483648) (hy : -2147483648 ≤ y ∧ y < 2147483648) : Met l yX6_spoil wsX6_spoil ({ frames := 2, cells := 0, slots := 0, locals := 42 }) (va_Pc [.ref (ad 0), .int (iI (t0)), .int (iI (x)), .int (iI (y))] (gB D cy ad n st sz fz)) (va_Qi (fun (r : Int32) (st' : St) => r = iI (spX st t0 x y).2.1 ∧ st' = (spX st t0 x y).1 ∧ GI wb st') (gP D cy ad n) (gA n ad sz)) 0 0 (gA n ad sz) := by
  refine Met.ofW (cc := cX6_spoil) (maxL := 8) (ret := (some .int)) (by decide) rfl ?_
  intro p e s m args below meth c s₁ B hml hv
  obtain ⟨rfl, hsz, hP, hK, hD0, hN, hZ⟩ := hv
  have hx := B.exec
  have hb := B.bytes
  have hr := B.returns
  have hts := atoms_spec (ws := wsX6_spoil) B.pre
  have hown : s.vm.findClass RX6 = some m.cls := findClass_of_methodNamed B.named
  have hlocks := B.notSynchronized
  subst hsz
  have hA : ∀ q : Nat, s.heap.size ≤ q → gA n ad s.heap.size q := fun q h => Or.inr h
  have hG : GH D cy ad n st (gA n ad s.heap.size) s.heap s.heap [] := ⟨hP, gw_A hD0, va_S.rf⟩
  have hl := lv_entry ([.ref (ad 0), .int (iI (t0)), .int (iI (x)), .int (iI (y))]) (n := 8) (Nat.le_of_ble_eq_true rfl)
  rw [lg_entry_eq]
  generalize (lg_sl ([.ref (ad 0), .int (iI (t0)), .int (iI (x)), .int (iI (y))]) ++ List.replicate (8 - (lg_sl ([.ref (ad 0), .int (iI (t0)), .int (iI (x)), .int (iI (y))])).length) Slot.unset).toArray = ls at hl ⊢
  have hl : lv_has ls 8 [(0, .ref (ad 0)), (1, .int (iI (t0))), (2, .int (iI (x))), (3, .int (iI (y)))] := hl
  have hin6 : ∀ w ∈ u_ws RX6 TX6 25, w ∈ wsX6_spoil := by decide +kernel
  have L_148 := hts (.constant RX6 148 (65535)) (by decide +kernel)
  have L_23 := hts (.fieldLink RX6 23 "CrossbarryModel" "isStuck" "[Z") (by decide +kernel)
  have L_75 := hts (.fieldLink RX6 75 "CrossbarryModel" "thrown" "I") (by decide +kernel)
  refine lv_aload_n hx hb dX6_spoil_0 rfl (lv_at hl 0 rfl) ?_
  have hlab37 : ∀ (t : Int) (H : Heap) (locs : List Loc) (ls : Array Slot), (t = kSpoil t0 x y) →  GH D cy ad n st (gA n ad s.heap.size) s.heap H locs → lv_has ls 8 [(0, .ref (ad 0)), (1, .int (iI (t0))), (2, .int (iI (x))), (3, .int (iI (y)))] → W p l e (headSpec wsX6_spoil { frames := 2, cells := 0, slots := 0, locals := 42 }).room s m (#[.ref (ad 0), .int (iI (t0)), .int (iI (x)), .int (iI (y))] : Array Value) below meth c H locs 0 0 (MQ below (va_Qi (fun (r : Int32) (st' : St) => r = iI (spX st t0 x y).2.1 ∧ st' = (spX st t0 x y).1 ∧ GI wb st') (gP D cy ad n) (gA n ad s.heap.size)) (#[.ref (ad 0), .int (iI (t0)), .int (iI (x)), .int (iI (y))] : Array Value) s 0 0 (gA n ad s.heap.size)) (F0 m 37 ls [.int (iI (t)), .ref (ad 0)]) := by
    intro t H locs ls ht hG hl
    have hks := kSpoil_s t0 x y
    refine g_put hx hb hts hin6 tyX6 tyX6_ok nmX6 hown hK hG (key := 0) (by omega) (gC_0 st ad cy) rfl 0 (by decide) L_75 (fun _ h9 => h9) rfl (ty := .int) (by decide +kernel) rfl rfl (Nat.le_of_ble_eq_true rfl) dX6_spoil_37 (ust st 0 0 0 (t)) (fun j _ => gU_0 st ad cy (t) j) (fun H locs hG => ?_)
    obtain ⟨st1, hst1⟩ : ∃ z : St, z = ust st 0 (0) (0) (t) := ⟨_, rfl⟩
    rw [← hst1] at hG
    replace hI := hst1 ▸ gIu_0 hI (0) (0) (v := t) (by omega)
    refine lv_iconst (v := iI (0)) hx hb dX6_spoil_40 rfl ?_
    refine lv_istore (lv' := [(4, .int (iI (0))), (0, .ref (ad 0)), (1, .int (iI (t0))), (2, .int (iI (x))), (3, .int (iI (y)))]) hx hb dX6_spoil_41 hl (by decide) rfl (fun ls hl => ?_)
    refine lv_iload_n hx hb dX6_spoil_43 rfl (lv_at hl 3 rfl) ?_
    refine lv_istore (lv' := [(5, .int (iI (x))), (4, .int (iI (0))), (0, .ref (ad 0)), (1, .int (iI (t0))), (2, .int (iI (x))), (3, .int (iI (y)))]) hx hb dX6_spoil_44 hl (by decide) rfl (fun ls hl => ?_)
    refine lv_iconst (v := iI (0)) hx hb dX6_spoil_46 rfl ?_
    refine lv_istore (lv' := [(6, .int (iI (0))), (5, .int (iI (x))), (4, .int (iI (0))), (0, .ref (ad 0)), (1, .int (iI (t0))), (2, .int (iI (x))), (3, .int (iI (y)))]) hx hb dX6_spoil_47 hl (by decide) rfl (fun ls hl => ?_)
    have hloop49 : ∀ (N : Nat) (x5 : Int) (j : Nat) (stb : St) (H : Heap) (locs : List Loc) (ls : Array Slot), 20 - j < N → ((t = 0 ∧ (j : Int) ≤ y) ∨ (t ≠ 0 ∧ j = 0)) → (x5 = (spI t0 (ust st 0 0 0 (kSpoil t0 x y), 0, x) j).2.2) → (t = 0 → 0 ≤ x5 ∧ x5 ≤ 65535) → (stb = (spI t0 (ust st 0 0 0 (kSpoil t0 x y), 0, x) j).1) → (stb 0 0 0 = t) → GI wb stb → GH D cy ad n stb (gA n ad s.heap.size) s.heap H locs → lv_has ls 8 [(4, .int (iI ((spI t0 (ust st 0 0 0 (kSpoil t0 x y), 0, x) j).2.1))), (5, .int (iI (x5))), (6, .int (iI (((j : Nat) : Int)))), (0, .ref (ad 0)), (1, .int (iI (t0))), (2, .int (iI (x))), (3, .int (iI (y)))] → W p l e (headSpec wsX6_spoil { frames := 2, cells := 0, slots := 0, locals := 42 }).room s m (#[.ref (ad 0), .int (iI (t0)), .int (iI (x)), .int (iI (y))] : Array Value) below meth c H locs 0 0 (MQ below (va_Qi (fun (r : Int32) (st' : St) => r = iI (spX st t0 x y).2.1 ∧ st' = (spX st t0 x y).1 ∧ GI wb st') (gP D cy ad n) (gA n ad s.heap.size)) (#[.ref (ad 0), .int (iI (t0)), .int (iI (x)), .int (iI (y))] : Array Value) s 0 0 (gA n ad s.heap.size)) (F0 m 49 ls []) := by
      intro N
      induction N with
      | zero => intro x5 j stb H locs ls hm; exact absurd hm (Nat.not_lt_zero _)
      | succ N ih49 =>
        intro x5 j stb H locs ls hm hj hx5 hx5r hstb hth hI hG hl
        refine lv_iload hx hb dX6_spoil_49 (lv_at hl 2 rfl) ?_
        refine lv_iload_n hx hb dX6_spoil_51 rfl (lv_at hl 6 rfl) ?_
        refine r_icmp_ge (tgt := 120) hx hb (by omega) dX6_spoil_52 (by decide) (fun c2 => ?_) (fun c2 => ?_)
        · skip
          refine lv_iload hx hb dX6_spoil_120 (lv_at hl 0 rfl) ?_
          exact g_iret hx hb hr hlocks hG (by
            by_cases hz : t = 0
            · have h1 : kSpoil t0 x y = 0 := by omega
              have h2 : y.toNat = j := by omega
              have h3 : spX st t0 x y = spI t0 (ust st 0 0 0 (kSpoil t0 x y), 0, x) j := by unfold spX; rw [if_pos h1, h2]
              rw [h3]; exact ⟨rfl, hstb, hI⟩
            · have h1 : ¬ kSpoil t0 x y = 0 := by omega
              obtain rfl : j = 0 := by omega
              have h3 : spX st t0 x y = spI t0 (ust st 0 0 0 (kSpoil t0 x y), 0, x) 0 := by unfold spX; rw [if_neg h1]; rfl
              rw [h3]; exact ⟨rfl, hstb, hI⟩) dX6_spoil_122
        · skip
          refine lv_aload_n hx hb dX6_spoil_55 rfl (lv_at hl 3 rfl) ?_
          refine g_get hx hb hts hin6 hown hK hG (key := 0) (by omega) (gC_0 stb ad cy) rfl 0 (by decide) L_75 (fun _ h9 => h9) rfl dX6_spoil_56 ?_
          have hr3 := gI_0 hI (0) (0)
          refine r_nm (fun v4 ev4 => ?_)
          rw [← ev4] at hr3
          refine r_if_ne (tgt := 120) hx hb (by omega) dX6_spoil_59 (by decide) (fun c5 => ?_) (fun c5 => ?_)
          · skip
            refine lv_iload hx hb dX6_spoil_120 (lv_at hl 0 rfl) ?_
            exact g_iret hx hb hr hlocks hG (by
              by_cases hz : t = 0
              · have h1 : kSpoil t0 x y = 0 := by omega
                have h2 : y.toNat = j := by omega
                have h3 : spX st t0 x y = spI t0 (ust st 0 0 0 (kSpoil t0 x y), 0, x) j := by unfold spX; rw [if_pos h1, h2]
                rw [h3]; exact ⟨rfl, hstb, hI⟩
              · have h1 : ¬ kSpoil t0 x y = 0 := by omega
                obtain rfl : j = 0 := by omega
                have h3 : spX st t0 x y = spI t0 (ust st 0 0 0 (kSpoil t0 x y), 0, x) 0 := by unfold spX; rw [if_neg h1]; rfl
                rw [h3]; exact ⟨rfl, hstb, hI⟩) dX6_spoil_122
          · skip
            refine lv_iload hx hb dX6_spoil_62 (lv_at hl 1 rfl) ?_
            refine g_goi hG hA (va_runS (As := [.int (iI (x5))]) (rest := []) ⟨hx, hb, hml, hown, hts⟩ (mX6_drawn l D cy ad n stb _ fz wb hn hI (by omega) (x5) (by omega)) (va_cwS 1 hts gX6_spoil_X6_drawn rfl rfl rfl (by decide +kernel) ⟨Nat.le_of_ble_eq_true rfl, Nat.le_of_ble_eq_true rfl⟩) ⟨g_blind, g_pre hK hG hA hN hZ⟩ rfl rfl hl.1 rfl (lv_room (Nat.le_of_ble_eq_true rfl)) dX6_spoil_64 ⟨Nat.zero_le _, Nat.zero_le _⟩) (fun r9 s9 H locs hp hG => ?_)
            obtain ⟨rfl, hs9⟩ := hp
            rw [hs9] at hG
            clear hs9
            refine r_nm (fun v6 ev6 => ?_)
            have hr7 := drF_r (x5)
            rw [← ev6] at hr7
            have ed1 : v6 = drF x5 := ev6
            refine lv_istore (lv' := [(5, .int (iI (v6))), (4, .int (iI ((spI t0 (ust st 0 0 0 (kSpoil t0 x y), 0, x) j).2.1))), (6, .int (iI (((j : Nat) : Int)))), (0, .ref (ad 0)), (1, .int (iI (t0))), (2, .int (iI (x))), (3, .int (iI (y)))]) hx hb dX6_spoil_67 hl (by decide) rfl (fun ls hl => ?_)
            refine lv_sipush (v := iI (128)) hx hb dX6_spoil_69 (by decide +kernel) ?_
            refine lv_iload_n hx hb dX6_spoil_72 rfl (lv_at hl 4 rfl) ?_
            refine r_imul hx hb dX6_spoil_73 ?_
            refine r_nm (fun v8 ev8 => ?_)
            refine lv_iload hx hb dX6_spoil_74 (lv_at hl 0 rfl) ?_
            refine lv_sipush (v := iI (128)) hx hb dX6_spoil_76 (by decide +kernel) ?_
            refine r_irem hx hb (by omega) dX6_spoil_79 ?_
            refine r_nm (fun v9 ev9 => ?_)
            refine r_iadd hx hb dX6_spoil_80 ?_
            refine r_nm (fun v10 ev10 => ?_)
            refine lv_istore (lv' := [(7, .int (iI (v10))), (5, .int (iI (v6))), (4, .int (iI ((spI t0 (ust st 0 0 0 (kSpoil t0 x y), 0, x) j).2.1))), (6, .int (iI (((j : Nat) : Int)))), (0, .ref (ad 0)), (1, .int (iI (t0))), (2, .int (iI (x))), (3, .int (iI (y)))]) hx hb dX6_spoil_81 hl (by decide) rfl (fun ls hl => ?_)
            refine lv_iload hx hb dX6_spoil_83 (lv_at hl 1 rfl) ?_
            refine g_goi hG hA (va_runS (As := [.int (iI (v6))]) (rest := []) ⟨hx, hb, hml, hown, hts⟩ (mX6_drawn l D cy ad n stb _ fz wb hn hI (by omega) (v6) (by omega)) (va_cwS 1 hts gX6_spoil_X6_drawn rfl rfl rfl (by decide +kernel) ⟨Nat.le_of_ble_eq_true rfl, Nat.le_of_ble_eq_true rfl⟩) ⟨g_blind, g_pre hK hG hA hN hZ⟩ rfl rfl hl.1 rfl (lv_room (Nat.le_of_ble_eq_true rfl)) dX6_spoil_85 ⟨Nat.zero_le _, Nat.zero_le _⟩) (fun r9 s9 H locs hp hG => ?_)
            obtain ⟨rfl, hs9⟩ := hp
            rw [hs9] at hG
            clear hs9
            refine r_nm (fun v11 ev11 => ?_)
            have hr12 := drF_r (v6)
            rw [← ev11] at hr12
            have ed2 : v11 = drF (drF x5) := by rw [← ed1]; exact ev11
            refine lv_istore (lv' := [(5, .int (iI (v11))), (7, .int (iI (v10))), (4, .int (iI ((spI t0 (ust st 0 0 0 (kSpoil t0 x y), 0, x) j).2.1))), (6, .int (iI (((j : Nat) : Int)))), (0, .ref (ad 0)), (1, .int (iI (t0))), (2, .int (iI (x))), (3, .int (iI (y)))]) hx hb dX6_spoil_88 hl (by decide) rfl (fun ls hl => ?_)
            refine lv_aload_n hx hb dX6_spoil_90 rfl (lv_at hl 4 rfl) ?_
            refine g_get hx hb hts hin6 hown hK hG (key := 0) (by omega) (gC_0 stb ad cy) rfl 7 (by decide) L_23 (fun _ h9 => h9) rfl dX6_spoil_91 ?_
            refine lv_iload hx hb dX6_spoil_94 (lv_at hl 1 rfl) ?_
            refine g_zald hx hb hK hG (4) (kd := 4) (o := 0) rfl rfl (by omega) (cp := 7) (ln := 768) rfl rfl (by omega) dX6_spoil_96 ?_
            have hr13 := gI_7 hI (0) (v10)
            refine r_nm (fun v14 ev14 => ?_)
            rw [← ev14] at hr13
            refine r_if_ne (tgt := 114) hx hb (by omega) dX6_spoil_97 (by decide) (fun c15 => ?_) (fun c15 => ?_)
            · skip
              obtain ⟨v16, ev16⟩ : ∃ y9 : Int, y9 = ((j : Nat) : Int) + (1) := ⟨_, rfl⟩
              refine lv_iinc (v := iI v16) (lv' := [(6, .int (iI (v16))), (5, .int (iI (v11))), (7, .int (iI (v10))), (4, .int (iI ((spI t0 (ust st 0 0 0 (kSpoil t0 x y), 0, x) j).2.1))), (0, .ref (ad 0)), (1, .int (iI (t0))), (2, .int (iI (x))), (3, .int (iI (y)))]) hx hb dX6_spoil_114 hl (k := 3) rfl (by rw [ev16]; exact iI_add _ _) (by decide) rfl (fun ls hl => ?_)
              refine lv_goto (tgt := 49) hx hb dX6_spoil_117 (by decide) ?_
              have e7 : stb 0 0 0 = t := by first | exact hth | (rw [hs9]; unfold sSticks; rw [ust_c (by decide), ust_c (by decide)]; exact hth)
              first
                | (have e5 := spStep_1 (t := t0) (x := spI t0 (ust st 0 0 0 (kSpoil t0 x y), 0, x) j) (i := (v10)) (v := (v11) % 16) (d := (v11)) (k := ((spI t0 (ust st 0 0 0 (kSpoil t0 x y), 0, x) j).2.1)) (by rw [← hstb]; omega) (by rw [← hx5, ← ed1]; omega) (by rw [← hx5]; exact ed2) rfl (by omega); have e6 := (congrArg (fun q => q.2.1) e5).symm; have e9 := (congrArg (fun q => q.2.2) e5).symm; have e8 := (congrArg (fun q => q.1) e5).symm)
                | (have e5 := spStep_0 (t := t0) (x := spI t0 (ust st 0 0 0 (kSpoil t0 x y), 0, x) j) (i := (v10)) (d := (v11)) (by rw [← hstb]; omega) (by rw [← hx5, ← ed1]; omega) (by rw [← hx5]; exact ed2); have e6 := (congrArg (fun q => q.2.1) e5).symm; have e9 := (congrArg (fun q => q.2.2) e5).symm; have e8 := (congrArg (fun q => q.1) e5).symm)
              rw [show ((spI t0 (ust st 0 0 0 (kSpoil t0 x y), 0, x) j).2.1 : Int) = (spI t0 (ust st 0 0 0 (kSpoil t0 x y), 0, x) (j + 1)).2.1 from by (rw [spI_s]; exact e6)] at hl
              rw [show (v16 : Int) = (((j + 1) : Nat) : Int) from by omega] at hl
              exact ih49 (v11) (j + 1) stb _ _ _ (by omega) (by omega) (by rw [spI_s]; exact e9) (by omega) (by first | (rw [spI_s]; exact hstb.trans e8) | (rw [spI_s, hs9, hstb]; exact e8)) (by exact e7) hI hG (lv_sub hl [3, 1, 0, 4, 5, 6, 7] rfl)
            · skip
              refine lv_aload_n hx hb dX6_spoil_100 rfl (lv_at hl 4 rfl) ?_
              refine lv_iload hx hb dX6_spoil_101 (lv_at hl 1 rfl) ?_
              refine lv_iload hx hb dX6_spoil_103 (lv_at hl 0 rfl) ?_
              refine lv_bipush (v := iI (16)) hx hb dX6_spoil_105 (by decide +kernel) ?_
              refine r_irem hx hb (by omega) dX6_spoil_107 ?_
              refine r_nm (fun v17 ev17 => ?_)
              refine g_gov hG hA (va_runV (As := [.int (iI (v10)), .int (iI (v17))]) (rest := []) ⟨hx, hb, hml, hown, hts⟩ (mX6_sticks l D cy ad n stb _ fz wb hn hI (by omega) (v10) (v17) (by omega) (by omega)) (cwV 2 hts gX6_spoil_X6_sticks rfl rfl rfl (by decide +kernel) ⟨Nat.le_of_ble_eq_true rfl, Nat.le_of_ble_eq_true rfl⟩) ⟨g_blind, va_recv hK hG.1 (q0 := 0) (ci := 6) rfl ((gw_at (by omega)).trans (by rw [gC_0 stb ad cy])), g_pre hK hG hA hN hZ⟩ rfl rfl hl.1 rfl (lv_room (Nat.le_of_ble_eq_true rfl)) dX6_spoil_108 ⟨Nat.zero_le _, Nat.zero_le _⟩) (fun st18 H locs hp => ?_)
              intro hG
              obtain ⟨hs9, hI⟩ := hp
              rw [show (v17) = (v11) % 16 by omega] at hs9
              obtain ⟨v19, ev19⟩ : ∃ y9 : Int, y9 = (spI t0 (ust st 0 0 0 (kSpoil t0 x y), 0, x) j).2.1 + (1) := ⟨_, rfl⟩
              refine lv_iinc (v := iI v19) (lv' := [(4, .int (iI (v19))), (5, .int (iI (v11))), (7, .int (iI (v10))), (6, .int (iI (((j : Nat) : Int)))), (0, .ref (ad 0)), (1, .int (iI (t0))), (2, .int (iI (x))), (3, .int (iI (y)))]) hx hb dX6_spoil_111 hl (k := 2) rfl (by rw [ev19]; exact iI_add _ _) (by decide) rfl (fun ls hl => ?_)
              obtain ⟨v20, ev20⟩ : ∃ y9 : Int, y9 = ((j : Nat) : Int) + (1) := ⟨_, rfl⟩
              refine lv_iinc (v := iI v20) (lv' := [(6, .int (iI (v20))), (4, .int (iI (v19))), (5, .int (iI (v11))), (7, .int (iI (v10))), (0, .ref (ad 0)), (1, .int (iI (t0))), (2, .int (iI (x))), (3, .int (iI (y)))]) hx hb dX6_spoil_114 hl (k := 3) rfl (by rw [ev20]; exact iI_add _ _) (by decide) rfl (fun ls hl => ?_)
              refine lv_goto (tgt := 49) hx hb dX6_spoil_117 (by decide) ?_
              have e7 : st18 0 0 0 = t := by first | exact hth | (rw [hs9]; unfold sSticks; rw [ust_c (by decide), ust_c (by decide)]; exact hth)
              first
                | (have e5 := spStep_1 (t := t0) (x := spI t0 (ust st 0 0 0 (kSpoil t0 x y), 0, x) j) (i := (v10)) (v := (v11) % 16) (d := (v11)) (k := (v19)) (by rw [← hstb]; omega) (by rw [← hx5, ← ed1]; omega) (by rw [← hx5]; exact ed2) rfl (by omega); have e6 := (congrArg (fun q => q.2.1) e5).symm; have e9 := (congrArg (fun q => q.2.2) e5).symm; have e8 := (congrArg (fun q => q.1) e5).symm)
                | (have e5 := spStep_0 (t := t0) (x := spI t0 (ust st 0 0 0 (kSpoil t0 x y), 0, x) j) (i := (v10)) (d := (v11)) (by rw [← hstb]; omega) (by rw [← hx5, ← ed1]; omega) (by rw [← hx5]; exact ed2); have e6 := (congrArg (fun q => q.2.1) e5).symm; have e9 := (congrArg (fun q => q.2.2) e5).symm; have e8 := (congrArg (fun q => q.1) e5).symm)
              rw [show (v19 : Int) = (spI t0 (ust st 0 0 0 (kSpoil t0 x y), 0, x) (j + 1)).2.1 from by (rw [spI_s]; exact e6)] at hl
              rw [show (v20 : Int) = (((j + 1) : Nat) : Int) from by omega] at hl
              exact ih49 (v11) (j + 1) st18 _ _ _ (by omega) (by omega) (by rw [spI_s]; exact e9) (by omega) (by first | (rw [spI_s]; exact hstb.trans e8) | (rw [spI_s, hs9, hstb]; exact e8)) (by exact e7) hI hG (lv_sub hl [1, 2, 0, 4, 5, 6, 7] rfl)
    exact hloop49 _ (x) (0) st1 _ _ _ (Nat.lt_succ_self _) (by omega) (by rfl) (by omega) (by subst_vars; rfl) (by rw [hst1]; exact ust_s) hI hG (lv_sub hl [2, 1, 0, 3, 4, 5, 6] rfl)
  refine lv_iload_n hx hb dX6_spoil_1 rfl (lv_at hl 1 rfl) ?_
  refine g_goi hG hA (va_runS (As := [.int (iI (t0))]) (rest := [.ref (ad 0)]) ⟨hx, hb, hml, hown, hts⟩ (mX6_isTile l D cy ad n st _ fz wb hn hI (by omega) (t0) (by omega)) (va_cwS 1 hts gX6_spoil_X6_isTile rfl rfl rfl (by decide +kernel) ⟨Nat.le_of_ble_eq_true rfl, Nat.le_of_ble_eq_true rfl⟩) ⟨g_blind, g_pre hK hG hA hN hZ⟩ rfl rfl hl.1 rfl (lv_room (Nat.le_of_ble_eq_true rfl)) dX6_spoil_2 ⟨Nat.zero_le _, Nat.zero_le _⟩) (fun r9 s9 H locs hp hG => ?_)
  obtain ⟨rfl, hs9⟩ := hp
  rw [hs9] at hG
  clear hs9
  refine r_nm (fun v21 ev21 => ?_)
  have hr22 := inF_s (t0) 0 5
  rw [← ev21] at hr22
  refine r_if_ne (tgt := 12) hx hb (by omega) dX6_spoil_5 (by decide) (fun c23 => ?_) (fun c23 => ?_)
  · skip
    refine lv_iload_n hx hb dX6_spoil_12 rfl (lv_at hl 2 rfl) ?_
    refine lv_iconst (v := iI (0)) hx hb dX6_spoil_13 rfl ?_
    refine lv_ldc hx hb hown L_148 dX6_spoil_14 ?_
    refine r_asI (y := 65535) (by decide +kernel) ?_
    refine g_goi hG hA (va_runS (As := [.int (iI (x)), .int (iI (0)), .int (iI (65535))]) (rest := [.ref (ad 0)]) ⟨hx, hb, hml, hown, hts⟩ (mX6_in l D cy ad n st _ fz wb hn hI (by omega) (x) (0) (65535) (by omega) (by omega) (by omega)) (va_cwS 3 hts gX6_spoil_X6_in rfl rfl rfl (by decide +kernel) ⟨Nat.le_of_ble_eq_true rfl, Nat.le_of_ble_eq_true rfl⟩) ⟨g_blind, g_pre hK hG hA hN hZ⟩ rfl rfl hl.1 rfl (lv_room (Nat.le_of_ble_eq_true rfl)) dX6_spoil_16 ⟨Nat.zero_le _, Nat.zero_le _⟩) (fun r9 s9 H locs hp hG => ?_)
    obtain ⟨rfl, hs9⟩ := hp
    rw [hs9] at hG
    clear hs9
    refine r_nm (fun v24 ev24 => ?_)
    have hr25 := inF_s (x) (0) (65535)
    rw [← ev24] at hr25
    refine r_if_eq (tgt := 36) hx hb (by omega) dX6_spoil_19 (by decide) (fun c26 => ?_) (fun c26 => ?_)
    · skip
      refine lv_iconst (v := iI (2)) hx hb dX6_spoil_36 rfl ?_
      exact hlab37 (2)  _ _ _ (by have hks := kSpoil_s t0 x y; omega) hG (lv_sub hl [0, 1, 2, 3] rfl)
    · skip
      refine lv_iload_n hx hb dX6_spoil_22 rfl (lv_at hl 3 rfl) ?_
      refine lv_iconst (v := iI (1)) hx hb dX6_spoil_23 rfl ?_
      refine lv_bipush (v := iI (20)) hx hb dX6_spoil_24 (by decide +kernel) ?_
      refine g_goi hG hA (va_runS (As := [.int (iI (y)), .int (iI (1)), .int (iI (20))]) (rest := [.ref (ad 0)]) ⟨hx, hb, hml, hown, hts⟩ (mX6_in l D cy ad n st _ fz wb hn hI (by omega) (y) (1) (20) (by omega) (by omega) (by omega)) (va_cwS 3 hts gX6_spoil_X6_in rfl rfl rfl (by decide +kernel) ⟨Nat.le_of_ble_eq_true rfl, Nat.le_of_ble_eq_true rfl⟩) ⟨g_blind, g_pre hK hG hA hN hZ⟩ rfl rfl hl.1 rfl (lv_room (Nat.le_of_ble_eq_true rfl)) dX6_spoil_26 ⟨Nat.zero_le _, Nat.zero_le _⟩) (fun r9 s9 H locs hp hG => ?_)
      obtain ⟨rfl, hs9⟩ := hp
      rw [hs9] at hG
      clear hs9
      refine r_nm (fun v27 ev27 => ?_)
      have hr28 := inF_s (y) (1) (20)
      rw [← ev27] at hr28
      refine r_if_eq (tgt := 36) hx hb (by omega) dX6_spoil_29 (by decide) (fun c29 => ?_) (fun c29 => ?_)
      · skip
        refine lv_iconst (v := iI (2)) hx hb dX6_spoil_36 rfl ?_
        exact hlab37 (2)  _ _ _ (by have hks := kSpoil_s t0 x y; omega) hG (lv_sub hl [0, 1, 2, 3] rfl)
      · skip
        refine lv_iconst (v := iI (0)) hx hb dX6_spoil_32 rfl ?_
        refine lv_goto (tgt := 37) hx hb dX6_spoil_33 (by decide) ?_
        exact hlab37 (0)  _ _ _ (by have hks := kSpoil_s t0 x y; omega) hG (lv_sub hl [0, 1, 2, 3] rfl)
  · skip
    refine lv_iconst (v := iI (1)) hx hb dX6_spoil_8 rfl ?_
    refine lv_goto (tgt := 37) hx hb dX6_spoil_9 (by decide) ?_
    exact hlab37 (1)  _ _ _ (by have hks := kSpoil_s t0 x y; omega) hG (lv_sub hl [0, 1, 2, 3] rfl)
