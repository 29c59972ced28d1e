set_option maxHeartbeats 400000 in
set_option maxRecDepth 100000 in
theorem mX6_needs (l : Launch) (D : va_G) (cy : Nat → ClassId) (ad : Nat → Nat) (n : Nat) (st : St) (sz fz : Nat) (wb : Int) (hn : 75 ≤ n) (hI : GI wb st) (hW : wb ≤ 2000000) (a : Int) (i : Int) (o : Int) (q : Int) (ha : 0 ≤ a ∧ a < 6) (hi : 0 ≤ i ∧ i < 8) (ho : 0 ≤ o ∧ o < 4) (hq : 0 ≤ q ∧ q < 4) : Met l yX6_needs wsX6_needs ({ frames := 1, cells := 0, slots := 0, locals := 22 }) (va_Pc [.ref (ad 0), .int (iI (a)), .int (iI (i)), .int (iI (o)), .int (iI (q))] (gB D cy ad n st sz fz)) (va_Qi (fun (r : Int32) (st' : St) => r = iI (needV (st 17 0 (32 * a + 4 * i + o)) q) ∧ st' = st) (gP D cy ad n) (gA n ad sz)) 0 0 (gA n ad sz) := by
  refine Met.ofW (cc := cX6_needs) (maxL := 8) (ret := (some .int)) (by decide) rfl ?_
  intro p e s m args below meth c s₁ B hml hv
  obtain ⟨rfl, hsz, hP, hK, hD0, hN, hZ⟩ := hv
  have hx := B.exec
  have hb := B.bytes
  have hr := B.returns
  have hts := atoms_spec (ws := wsX6_needs) B.pre
  have hown : s.vm.findClass RX6 = some m.cls := findClass_of_methodNamed B.named
  have hlocks := B.notSynchronized
  subst hsz
  have hA : ∀ q : Nat, s.heap.size ≤ q → gA n ad s.heap.size q := fun q h => Or.inr h
  have hG : GH D cy ad n st (gA n ad s.heap.size) s.heap s.heap [] := ⟨hP, gw_A hD0, va_S.rf⟩
  have hl := lv_entry ([.ref (ad 0), .int (iI (a)), .int (iI (i)), .int (iI (o)), .int (iI (q))]) (n := 8) (Nat.le_of_ble_eq_true rfl)
  rw [lg_entry_eq]
  generalize (lg_sl ([.ref (ad 0), .int (iI (a)), .int (iI (i)), .int (iI (o)), .int (iI (q))]) ++ List.replicate (8 - (lg_sl ([.ref (ad 0), .int (iI (a)), .int (iI (i)), .int (iI (o)), .int (iI (q))])).length) Slot.unset).toArray = ls at hl ⊢
  have hl : lv_has ls 8 [(0, .ref (ad 0)), (1, .int (iI (a))), (2, .int (iI (i))), (3, .int (iI (o))), (4, .int (iI (q)))] := hl
  have hin6 : ∀ w ∈ u_ws RX6 TX6 25, w ∈ wsX6_needs := by decide +kernel
  have L_51 := hts (.fieldLink RX6 51 "CrossbarryModel" "weights" "[I") (by decide +kernel)
  have habs := fun w : Int => absI_s w
  refine lv_aload_n hx hb dX6_needs_0 rfl (lv_at hl 0 rfl) ?_
  refine g_get hx hb hts hin6 hown hK hG (key := 0) (by omega) (gC_0 st ad cy) rfl 17 (by decide) L_51 (fun _ h9 => h9) rfl dX6_needs_1 ?_
  refine lv_iload_n hx hb dX6_needs_4 rfl (lv_at hl 1 rfl) ?_
  refine lv_iload_n hx hb dX6_needs_5 rfl (lv_at hl 2 rfl) ?_
  refine lv_iload_n hx hb dX6_needs_6 rfl (lv_at hl 3 rfl) ?_
  refine g_goi hG hA (va_runS (As := [.int (iI (a)), .int (iI (i)), .int (iI (o))]) (rest := [.ref (ad 13)]) ⟨hx, hb, hml, hown, hts⟩ (mX6_weightAt l D cy ad n st _ fz wb hn hI (by omega) (a) (i) (o) ) (va_cwS 3 hts gX6_needs_X6_weightAt rfl rfl rfl (by decide +kernel) ⟨Nat.le_of_ble_eq_true rfl, Nat.le_of_ble_eq_true rfl⟩) ⟨g_blind, g_pre hK hG hA hN hZ⟩ rfl rfl hl.1 rfl (lv_room (Nat.le_of_ble_eq_true rfl)) dX6_needs_7 ⟨Nat.zero_le _, Nat.zero_le _⟩) (fun r9 s9 H locs hp hG => ?_)
  obtain ⟨rfl, hs9⟩ := hp
  rw [hs9] at hG
  clear hs9
  refine r_nm (fun v1 ev1 => ?_)
  refine g_iald hx hb hK hG (13) (kd := 13) (o := 0) rfl rfl (by omega) (cp := 17) (ln := 192) rfl rfl (by omega) dX6_needs_10 ?_
  have hr2 := gI_17 hI (0) (v1)
  refine r_nm (fun v3 ev3 => ?_)
  rw [← ev3] at hr2
  refine lv_istore (lv' := [(5, .int (iI (v3))), (0, .ref (ad 0)), (1, .int (iI (a))), (2, .int (iI (i))), (3, .int (iI (o))), (4, .int (iI (q)))]) hx hb dX6_needs_11 hl (by decide) rfl (fun ls hl => ?_)
  have hlab26 : ∀ (sz : Int) (H : Heap) (locs : List Loc) (ls : Array Slot), (sz = absI (v3)) →  GH D cy ad n st (gA n ad s.heap.size) s.heap H locs → lv_has ls 8 [(5, .int (iI (v3))), (0, .ref (ad 0)), (1, .int (iI (a))), (2, .int (iI (i))), (3, .int (iI (o))), (4, .int (iI (q)))] → W p l e (headSpec wsX6_needs { frames := 1, cells := 0, slots := 0, locals := 22 }).room s m (#[.ref (ad 0), .int (iI (a)), .int (iI (i)), .int (iI (o)), .int (iI (q))] : Array Value) below meth c H locs 0 0 (MQ below (va_Qi (fun (r : Int32) (st' : St) => r = iI (needV (st 17 0 (32 * a + 4 * i + o)) q) ∧ st' = st) (gP D cy ad n) (gA n ad s.heap.size)) (#[.ref (ad 0), .int (iI (a)), .int (iI (i)), .int (iI (o)), .int (iI (q))] : Array Value) s 0 0 (gA n ad s.heap.size)) (F0 m 26 ls [.int (iI (sz))]) := by
    intro sz H locs ls hsz hG hl
    have hsr := absI_s (v3)
    refine lv_istore (lv' := [(6, .int (iI (sz))), (5, .int (iI (v3))), (0, .ref (ad 0)), (1, .int (iI (a))), (2, .int (iI (i))), (3, .int (iI (o))), (4, .int (iI (q)))]) hx hb dX6_needs_26 hl (by decide) rfl (fun ls hl => ?_)
    have hlab57 : ∀ (b : Int) (H : Heap) (locs : List Loc) (ls : Array Slot), ((b = 1 ∧ ((0 ≤ (v3) ∧ q < 2) ∨ ((v3) < 0 ∧ 2 ≤ q))) ∨ (b = 0 ∧ ¬ ((0 ≤ (v3) ∧ q < 2) ∨ ((v3) < 0 ∧ 2 ≤ q)))) →  GH D cy ad n st (gA n ad s.heap.size) s.heap H locs → lv_has ls 8 [(6, .int (iI (sz))), (5, .int (iI (v3))), (0, .ref (ad 0)), (1, .int (iI (a))), (2, .int (iI (i))), (3, .int (iI (o))), (4, .int (iI (q)))] → W p l e (headSpec wsX6_needs { frames := 1, cells := 0, slots := 0, locals := 22 }).room s m (#[.ref (ad 0), .int (iI (a)), .int (iI (i)), .int (iI (o)), .int (iI (q))] : Array Value) below meth c H locs 0 0 (MQ below (va_Qi (fun (r : Int32) (st' : St) => r = iI (needV (st 17 0 (32 * a + 4 * i + o)) q) ∧ st' = st) (gP D cy ad n) (gA n ad s.heap.size)) (#[.ref (ad 0), .int (iI (a)), .int (iI (i)), .int (iI (o)), .int (iI (q))] : Array Value) s 0 0 (gA n ad s.heap.size)) (F0 m 57 ls [.int (iI (b))]) := by
      intro b H locs ls hb9 hG hl
      refine lv_istore (lv' := [(7, .int (iI (b))), (6, .int (iI (sz))), (5, .int (iI (v3))), (0, .ref (ad 0)), (1, .int (iI (a))), (2, .int (iI (i))), (3, .int (iI (o))), (4, .int (iI (q)))]) hx hb dX6_needs_57 hl (by decide) rfl (fun ls hl => ?_)
      refine lv_iload hx hb dX6_needs_59 (lv_at hl 0 rfl) ?_
      refine r_if_ne (tgt := 68) hx hb (by omega) dX6_needs_61 (by decide) (fun c4 => ?_) (fun c4 => ?_)
      · skip
        refine lv_iload hx hb dX6_needs_68 (lv_at hl 7 rfl) ?_
        refine lv_iconst (v := iI (2)) hx hb dX6_needs_70 rfl ?_
        refine r_irem hx hb (by omega) dX6_needs_71 ?_
        refine r_nm (fun v5 ev5 => ?_)
        refine r_if_ne (tgt := 83) hx hb (by omega) dX6_needs_72 (by decide) (fun c6 => ?_) (fun c6 => ?_)
        · skip
          refine lv_iload hx hb dX6_needs_83 (lv_at hl 1 rfl) ?_
          refine lv_bipush (v := iI (16)) hx hb dX6_needs_85 (by decide +kernel) ?_
          refine r_idiv hx hb (by omega) dX6_needs_87 ?_
          refine r_nm (fun v7 ev7 => ?_)
          exact g_iret hx hb hr hlocks hG (by
            refine ⟨?_, rfl⟩
            congr 1
            unfold needV
            subst_vars
            first
              | rw [if_neg (by omega)]
              | rw [if_pos (by omega), if_pos (by omega)]
              | rw [if_pos (by omega), if_neg (by omega)]) dX6_needs_88
        · skip
          refine lv_iload hx hb dX6_needs_75 (lv_at hl 1 rfl) ?_
          refine lv_bipush (v := iI (16)) hx hb dX6_needs_77 (by decide +kernel) ?_
          refine r_irem hx hb (by omega) dX6_needs_79 ?_
          refine r_nm (fun v8 ev8 => ?_)
          refine lv_goto (tgt := 88) hx hb dX6_needs_80 (by decide) ?_
          exact g_iret hx hb hr hlocks hG (by
            refine ⟨?_, rfl⟩
            congr 1
            unfold needV
            subst_vars
            first
              | rw [if_neg (by omega)]
              | rw [if_pos (by omega), if_pos (by omega)]
              | rw [if_pos (by omega), if_neg (by omega)]) dX6_needs_88
      · skip
        refine lv_iconst (v := iI (0)) hx hb dX6_needs_64 rfl ?_
        refine lv_goto (tgt := 88) hx hb dX6_needs_65 (by decide) ?_
        exact g_iret hx hb hr hlocks hG (by
          refine ⟨?_, rfl⟩
          congr 1
          unfold needV
          subst_vars
          first
            | rw [if_neg (by omega)]
            | rw [if_pos (by omega), if_pos (by omega)]
            | rw [if_pos (by omega), if_neg (by omega)]) dX6_needs_88
    refine lv_iload hx hb dX6_needs_28 (lv_at hl 1 rfl) ?_
    refine r_if_lt (tgt := 37) hx hb (by omega) dX6_needs_30 (by decide) (fun c9 => ?_) (fun c9 => ?_)
    · skip
      refine lv_iconst (v := iI (0)) hx hb dX6_needs_37 rfl ?_
      refine lv_iload hx hb dX6_needs_38 (lv_at hl 6 rfl) ?_
      refine lv_iconst (v := iI (2)) hx hb dX6_needs_40 rfl ?_
      refine r_icmp_ge (tgt := 48) hx hb (by omega) dX6_needs_41 (by decide) (fun c10 => ?_) (fun c10 => ?_)
      · skip
        refine lv_iconst (v := iI (0)) hx hb dX6_needs_48 rfl ?_
        refine r_icmp_ne (tgt := 56) hx hb (by omega) dX6_needs_49 (by decide) (fun c11 => ?_) (fun c11 => ?_)
        · skip
          refine lv_iconst (v := iI (0)) hx hb dX6_needs_56 rfl ?_
          exact hlab57 (0)  _ _ _ (by omega) hG (lv_sub hl [0, 1, 2, 3, 4, 5, 6] rfl)
        · skip
          refine lv_iconst (v := iI (1)) hx hb dX6_needs_52 rfl ?_
          refine lv_goto (tgt := 57) hx hb dX6_needs_53 (by decide) ?_
          exact hlab57 (1)  _ _ _ (by omega) hG (lv_sub hl [0, 1, 2, 3, 4, 5, 6] rfl)
      · skip
        refine lv_iconst (v := iI (1)) hx hb dX6_needs_44 rfl ?_
        refine lv_goto (tgt := 49) hx hb dX6_needs_45 (by decide) ?_
        refine r_icmp_ne (tgt := 56) hx hb (by omega) dX6_needs_49 (by decide) (fun c12 => ?_) (fun c12 => ?_)
        · skip
          refine lv_iconst (v := iI (0)) hx hb dX6_needs_56 rfl ?_
          exact hlab57 (0)  _ _ _ (by omega) hG (lv_sub hl [0, 1, 2, 3, 4, 5, 6] rfl)
        · skip
          refine lv_iconst (v := iI (1)) hx hb dX6_needs_52 rfl ?_
          refine lv_goto (tgt := 57) hx hb dX6_needs_53 (by decide) ?_
          exact hlab57 (1)  _ _ _ (by omega) hG (lv_sub hl [0, 1, 2, 3, 4, 5, 6] rfl)
    · skip
      refine lv_iconst (v := iI (1)) hx hb dX6_needs_33 rfl ?_
      refine lv_goto (tgt := 38) hx hb dX6_needs_34 (by decide) ?_
      refine lv_iload hx hb dX6_needs_38 (lv_at hl 6 rfl) ?_
      refine lv_iconst (v := iI (2)) hx hb dX6_needs_40 rfl ?_
      refine r_icmp_ge (tgt := 48) hx hb (by omega) dX6_needs_41 (by decide) (fun c13 => ?_) (fun c13 => ?_)
      · skip
        refine lv_iconst (v := iI (0)) hx hb dX6_needs_48 rfl ?_
        refine r_icmp_ne (tgt := 56) hx hb (by omega) dX6_needs_49 (by decide) (fun c14 => ?_) (fun c14 => ?_)
        · skip
          refine lv_iconst (v := iI (0)) hx hb dX6_needs_56 rfl ?_
          exact hlab57 (0)  _ _ _ (by omega) hG (lv_sub hl [0, 1, 2, 3, 4, 5, 6] rfl)
        · skip
          refine lv_iconst (v := iI (1)) hx hb dX6_needs_52 rfl ?_
          refine lv_goto (tgt := 57) hx hb dX6_needs_53 (by decide) ?_
          exact hlab57 (1)  _ _ _ (by omega) hG (lv_sub hl [0, 1, 2, 3, 4, 5, 6] rfl)
      · skip
        refine lv_iconst (v := iI (1)) hx hb dX6_needs_44 rfl ?_
        refine lv_goto (tgt := 49) hx hb dX6_needs_45 (by decide) ?_
        refine r_icmp_ne (tgt := 56) hx hb (by omega) dX6_needs_49 (by decide) (fun c15 => ?_) (fun c15 => ?_)
        · skip
          refine lv_iconst (v := iI (0)) hx hb dX6_needs_56 rfl ?_
          exact hlab57 (0)  _ _ _ (by omega) hG (lv_sub hl [0, 1, 2, 3, 4, 5, 6] rfl)
        · skip
          refine lv_iconst (v := iI (1)) hx hb dX6_needs_52 rfl ?_
          refine lv_goto (tgt := 57) hx hb dX6_needs_53 (by decide) ?_
          exact hlab57 (1)  _ _ _ (by omega) hG (lv_sub hl [0, 1, 2, 3, 4, 5, 6] rfl)
  refine lv_iload hx hb dX6_needs_13 (lv_at hl 0 rfl) ?_
  refine r_if_ge (tgt := 24) hx hb (by omega) dX6_needs_15 (by decide) (fun c16 => ?_) (fun c16 => ?_)
  · skip
    refine lv_iload hx hb dX6_needs_24 (lv_at hl 0 rfl) ?_
    exact hlab26 (v3)  _ _ _ (by have := absI_s (v3); omega) hG (lv_sub hl [0, 1, 2, 3, 4, 5] rfl)
  · skip
    refine lv_iload hx hb dX6_needs_18 (lv_at hl 0 rfl) ?_
    refine r_ineg hx hb dX6_needs_20 ?_
    refine r_nm (fun v17 ev17 => ?_)
    refine lv_goto (tgt := 26) hx hb dX6_needs_21 (by decide) ?_
    exact hlab26 (v17)  _ _ _ (by have := absI_s (v3); omega) hG (lv_sub hl [0, 1, 2, 3, 4, 5] rfl)
set_option maxHeartbeats 400000 in
set_option maxRecDepth 100000 in
theorem mX6_layerOn (l : Launch) (D : va_G) (cy : Nat → ClassId) (ad : Nat → Nat) (n : Nat) (st : St) (sz fz : Nat) (wb : Int) (hn : 75 ≤ n) (hI : GI wb st) (hW : wb ≤ 2000000) (a : Int) (ha : -2147483648 ≤ a ∧ a < 2147483648) : Met l yX6_layerOn wsX6_layerOn ({ frames := 0, cells := 0, slots := 0, locals := 0 }) (va_Pc [.ref (ad 0), .int (iI (a))] (gB D cy ad n st sz fz)) (va_Qi (fun (r : Int32) (st' : St) => r = iI (lonF st a (st 14 0 0).toNat) ∧ st' = st) (gP D cy ad n) (gA n ad sz)) 0 0 (gA n ad sz) := by
  refine Met.ofW (cc := cX6_layerOn) (maxL := 4) (ret := (some .int)) (by decide) rfl ?_
  intro p e s m args below meth c s₁ B hml hv
  obtain ⟨rfl, hsz, hP, hK, hD0, hN, hZ⟩ := hv
  have hx := B.exec
  have hb := B.bytes
  have hr := B.returns
  have hts := atoms_spec (ws := wsX6_layerOn) B.pre
  have hown : s.vm.findClass RX6 = some m.cls := findClass_of_methodNamed B.named
  have hlocks := B.notSynchronized
  subst hsz
  have hA : ∀ q : Nat, s.heap.size ≤ q → gA n ad s.heap.size q := fun q h => Or.inr h
  have hG : GH D cy ad n st (gA n ad s.heap.size) s.heap s.heap [] := ⟨hP, gw_A hD0, va_S.rf⟩
  have hl := lv_entry ([.ref (ad 0), .int (iI (a))]) (n := 4) (Nat.le_of_ble_eq_true rfl)
  rw [lg_entry_eq]
  generalize (lg_sl ([.ref (ad 0), .int (iI (a))]) ++ List.replicate (4 - (lg_sl ([.ref (ad 0), .int (iI (a))])).length) Slot.unset).toArray = ls at hl ⊢
  have hl : lv_has ls 4 [(0, .ref (ad 0)), (1, .int (iI (a)))] := hl
  have hin6 : ∀ w ∈ u_ws RX6 TX6 25, w ∈ wsX6_layerOn := by decide +kernel
  have L_60 := hts (.fieldLink RX6 60 "CrossbarryModel" "tileAt" "[I") (by decide +kernel)
  have L_78 := hts (.fieldLink RX6 78 "CrossbarryModel" "many" "I") (by decide +kernel)
  have hmn := gI_14 hI 0 0
  refine lv_iconst (v := iI (-1)) hx hb dX6_layerOn_0 rfl ?_
  refine lv_istore_n (lv' := [(2, .int (iI (-1))), (0, .ref (ad 0)), (1, .int (iI (a)))]) hx hb dX6_layerOn_1 rfl hl (by decide) rfl (fun ls hl => ?_)
  refine lv_iconst (v := iI (0)) hx hb dX6_layerOn_2 rfl ?_
  refine lv_istore_n (lv' := [(3, .int (iI (0))), (2, .int (iI (-1))), (0, .ref (ad 0)), (1, .int (iI (a)))]) hx hb dX6_layerOn_3 rfl hl (by decide) rfl (fun ls hl => ?_)
  have hloop4 : ∀ (N : Nat)  (k : Nat) (H : Heap) (locs : List Loc) (ls : Array Slot), 6 - k < N → ((k : Int) ≤ st 14 0 0) →  GH D cy ad n st (gA n ad s.heap.size) s.heap H locs → lv_has ls 4 [(2, .int (iI (lonF st a k))), (3, .int (iI (((k : Nat) : Int)))), (0, .ref (ad 0)), (1, .int (iI (a)))] → W p l e (headSpec wsX6_layerOn { frames := 0, cells := 0, slots := 0, locals := 0 }).room s m (#[.ref (ad 0), .int (iI (a))] : Array Value) below meth c H locs 0 0 (MQ below (va_Qi (fun (r : Int32) (st' : St) => r = iI (lonF st a (st 14 0 0).toNat) ∧ st' = st) (gP D cy ad n) (gA n ad s.heap.size)) (#[.ref (ad 0), .int (iI (a))] : Array Value) s 0 0 (gA n ad s.heap.size)) (F0 m 4 ls []) := by
    intro N
    induction N with
    | zero => intro  k H locs ls hm; exact absurd hm (Nat.not_lt_zero _)
    | succ N ih4 =>
      intro  k H locs ls hm hk hG hl
      have hlr := lonF_r st a k
      refine lv_iload_n hx hb dX6_layerOn_4 rfl (lv_at hl 1 rfl) ?_
      refine lv_aload_n hx hb dX6_layerOn_5 rfl (lv_at hl 2 rfl) ?_
      refine g_get hx hb hts hin6 hown hK hG (key := 0) (by omega) (gC_0 st ad cy) rfl 14 (by decide) L_78 (fun _ h9 => h9) rfl dX6_layerOn_6 ?_
      have hr1 := gI_14 hI (0) (0)
      refine r_nm (fun v2 ev2 => ?_)
      rw [← ev2] at hr1
      refine r_icmp_ge (tgt := 34) hx hb (by omega) dX6_layerOn_9 (by decide) (fun c3 => ?_) (fun c3 => ?_)
      · skip
        refine lv_iload_n hx hb dX6_layerOn_34 rfl (lv_at hl 0 rfl) ?_
        exact g_iret hx hb hr hlocks hG (by
          refine ⟨?_, rfl⟩
          congr 1
          rw [show (st 14 0 0).toNat = k by omega]) dX6_layerOn_35
      · skip
        refine lv_aload_n hx hb dX6_layerOn_12 rfl (lv_at hl 2 rfl) ?_
        refine g_get hx hb hts hin6 hown hK hG (key := 0) (by omega) (gC_0 st ad cy) rfl 20 (by decide) L_60 (fun _ h9 => h9) rfl dX6_layerOn_13 ?_
        refine lv_iload_n hx hb dX6_layerOn_16 rfl (lv_at hl 1 rfl) ?_
        refine g_iald hx hb hK hG (16) (kd := 16) (o := 0) rfl rfl (by omega) (cp := 20) (ln := 6) rfl rfl (by omega) dX6_layerOn_17 ?_
        have hr4 := gI_20 hI (0) (((k : Nat) : Int))
        refine r_nm (fun v5 ev5 => ?_)
        rw [← ev5] at hr4
        refine lv_iload_n hx hb dX6_layerOn_18 rfl (lv_at hl 3 rfl) ?_
        refine r_icmp_ne (tgt := 26) hx hb (by omega) dX6_layerOn_19 (by decide) (fun c6 => ?_) (fun c6 => ?_)
        · skip
          refine lv_iload_n hx hb dX6_layerOn_26 rfl (lv_at hl 0 rfl) ?_
          refine lv_istore_n (lv' := [(2, .int (iI (lonF st a k))), (3, .int (iI (((k : Nat) : Int)))), (0, .ref (ad 0)), (1, .int (iI (a)))]) hx hb dX6_layerOn_27 rfl hl (by decide) rfl (fun ls hl => ?_)
          obtain ⟨v7, ev7⟩ : ∃ y : Int, y = ((k : Nat) : Int) + (1) := ⟨_, rfl⟩
          refine lv_iinc (v := iI v7) (lv' := [(3, .int (iI (v7))), (2, .int (iI (lonF st a k))), (0, .ref (ad 0)), (1, .int (iI (a)))]) hx hb dX6_layerOn_28 hl (k := 1) rfl (by rw [ev7]; exact iI_add _ _) (by decide) rfl (fun ls hl => ?_)
          refine lv_goto (tgt := 4) hx hb dX6_layerOn_31 (by decide) ?_
          rw [show (lonF st a k : Int) = lonF st a (k + 1) from by (rw [lonF_s]; first | (rw [if_pos (by omega)]; done) | (rw [if_neg (by omega)]; done))] at hl
          rw [show (v7 : Int) = (((k + 1) : Nat) : Int) from by omega] at hl
          exact ih4  (k + 1) _ _ _ (by omega) (by omega) hG (lv_sub hl [1, 0, 2, 3] rfl)
        · skip
          refine lv_iload_n hx hb dX6_layerOn_22 rfl (lv_at hl 1 rfl) ?_
          refine lv_goto (tgt := 27) hx hb dX6_layerOn_23 (by decide) ?_
          refine lv_istore_n (lv' := [(2, .int (iI (((k : Nat) : Int)))), (3, .int (iI (((k : Nat) : Int)))), (0, .ref (ad 0)), (1, .int (iI (a)))]) hx hb dX6_layerOn_27 rfl hl (by decide) rfl (fun ls hl => ?_)
          obtain ⟨v8, ev8⟩ : ∃ y : Int, y = ((k : Nat) : Int) + (1) := ⟨_, rfl⟩
          refine lv_iinc (v := iI v8) (lv' := [(3, .int (iI (v8))), (2, .int (iI (((k : Nat) : Int)))), (0, .ref (ad 0)), (1, .int (iI (a)))]) hx hb dX6_layerOn_28 hl (k := 1) rfl (by rw [ev8]; exact iI_add _ _) (by decide) rfl (fun ls hl => ?_)
          refine lv_goto (tgt := 4) hx hb dX6_layerOn_31 (by decide) ?_
          rw [show (((k : Nat) : Int) : Int) = lonF st a (k + 1) from by (rw [lonF_s]; first | (rw [if_pos (by omega)]; done) | (rw [if_neg (by omega)]; done))] at hl
          rw [show (v8 : Int) = (((k + 1) : Nat) : Int) from by omega] at hl
          exact ih4  (k + 1) _ _ _ (by omega) (by omega) hG (lv_sub hl [1, 0, 2, 3] rfl)
  exact hloop4 _  (0) _ _ _ (Nat.lt_succ_self _) (by omega) hG (lv_sub hl [1, 0, 2, 3] rfl)
set_option maxHeartbeats 400000 in
set_option maxRecDepth 100000 in
theorem mX6_misfitsOf (l : Launch) (D : va_G) (cy : Nat → ClassId) (ad : Nat → Nat) (n : Nat) (st : St) (sz fz : Nat) (wb : Int) (hn : 75 ≤ n) (hI : GI wb st) (hW : wb ≤ 2000000) (a : Int) (t0 : Int) (i : Int) (rw : Int) (ha : 0 ≤ a ∧ a < 6) (ht : 0 ≤ t0 ∧ t0 < 6) (hi : 0 ≤ i ∧ i < 8) (hw : 0 ≤ rw ∧ rw < 8) : Met l yX6_misfitsOf wsX6_misfitsOf ({ frames := 2, cells := 0, slots := 0, locals := 49 }) (va_Pc [.ref (ad 0), .int (iI (a)), .int (iI (t0)), .int (iI (i)), .int (iI (rw))] (gB D cy ad n st sz fz)) (va_Qi (fun (r : Int32) (st' : St) => r = iI (sumN (mfM st a t0 i rw) (4 * (st 16 0 a).toNat)) ∧ st' = st) (gP D cy ad n) (gA n ad sz)) 0 0 (gA n ad sz) := by
  refine Met.ofW (cc := cX6_misfitsOf) (maxL := 9) (ret := (some .int)) (by decide) rfl ?_
  intro p e s m args below meth c s₁ B hml hv
  obtain ⟨rfl, hsz, hP, hK, hD0, hN, hZ⟩ := hv
  have hx := B.exec
  have hb := B.bytes
  have hr := B.returns
  have hts := atoms_spec (ws := wsX6_misfitsOf) B.pre
  have hown : s.vm.findClass RX6 = some m.cls := findClass_of_methodNamed B.named
  have hlocks := B.notSynchronized
  subst hsz
  have hA : ∀ q : Nat, s.heap.size ≤ q → gA n ad s.heap.size q := fun q h => Or.inr h
  have hG : GH D cy ad n st (gA n ad s.heap.size) s.heap s.heap [] := ⟨hP, gw_A hD0, va_S.rf⟩
  have hl := lv_entry ([.ref (ad 0), .int (iI (a)), .int (iI (t0)), .int (iI (i)), .int (iI (rw))]) (n := 9) (Nat.le_of_ble_eq_true rfl)
  rw [lg_entry_eq]
  generalize (lg_sl ([.ref (ad 0), .int (iI (a)), .int (iI (t0)), .int (iI (i)), .int (iI (rw))]) ++ List.replicate (9 - (lg_sl ([.ref (ad 0), .int (iI (a)), .int (iI (t0)), .int (iI (i)), .int (iI (rw))])).length) Slot.unset).toArray = ls at hl ⊢
  have hl : lv_has ls 9 [(0, .ref (ad 0)), (1, .int (iI (a))), (2, .int (iI (t0))), (3, .int (iI (i))), (4, .int (iI (rw)))] := hl
  have hin6 : ∀ w ∈ u_ws RX6 TX6 25, w ∈ wsX6_misfitsOf := by decide +kernel
  have L_13 := hts (.fieldLink RX6 13 "CrossbarryModel" "states" "[I") (by decide +kernel)
  have L_27 := hts (.fieldLink RX6 27 "CrossbarryModel" "isKnown" "[Z") (by decide +kernel)
  have L_48 := hts (.fieldLink RX6 48 "CrossbarryModel" "outputs" "[I") (by decide +kernel)
  have hou := gI_16 hI 0 a
  refine lv_iconst (v := iI (0)) hx hb dX6_misfitsOf_0 rfl ?_
  refine lv_istore (lv' := [(5, .int (iI (0))), (0, .ref (ad 0)), (1, .int (iI (a))), (2, .int (iI (t0))), (3, .int (iI (i))), (4, .int (iI (rw)))]) hx hb dX6_misfitsOf_1 hl (by decide) rfl (fun ls hl => ?_)
  refine lv_iconst (v := iI (0)) hx hb dX6_misfitsOf_3 rfl ?_
  refine lv_istore (lv' := [(6, .int (iI (0))), (5, .int (iI (0))), (0, .ref (ad 0)), (1, .int (iI (a))), (2, .int (iI (t0))), (3, .int (iI (i))), (4, .int (iI (rw)))]) hx hb dX6_misfitsOf_4 hl (by decide) rfl (fun ls hl => ?_)
  have hloop6 : ∀ (N : Nat)  (ko : Nat) (H : Heap) (locs : List Loc) (ls : Array Slot), 4 - ko < N → ((ko : Int) ≤ st 16 0 a) →  GH D cy ad n st (gA n ad s.heap.size) s.heap H locs → lv_has ls 9 [(5, .int (iI (sumN (mfM st a t0 i rw) (4 * ko)))), (6, .int (iI (((ko : Nat) : Int)))), (0, .ref (ad 0)), (1, .int (iI (a))), (2, .int (iI (t0))), (3, .int (iI (i))), (4, .int (iI (rw)))] → W p l e (headSpec wsX6_misfitsOf { frames := 2, cells := 0, slots := 0, locals := 49 }).room s m (#[.ref (ad 0), .int (iI (a)), .int (iI (t0)), .int (iI (i)), .int (iI (rw))] : Array Value) below meth c H locs 0 0 (MQ below (va_Qi (fun (r : Int32) (st' : St) => r = iI (sumN (mfM st a t0 i rw) (4 * (st 16 0 a).toNat)) ∧ st' = st) (gP D cy ad n) (gA n ad s.heap.size)) (#[.ref (ad 0), .int (iI (a)), .int (iI (t0)), .int (iI (i)), .int (iI (rw))] : Array Value) s 0 0 (gA n ad s.heap.size)) (F0 m 6 ls []) := by
    intro N
    induction N with
    | zero => intro  ko H locs ls hm; exact absurd hm (Nat.not_lt_zero _)
    | succ N ih6 =>
      intro  ko H locs ls hm hko hG hl
      refine lv_iload hx hb dX6_misfitsOf_6 (lv_at hl 1 rfl) ?_
      refine lv_aload_n hx hb dX6_misfitsOf_8 rfl (lv_at hl 2 rfl) ?_
      refine g_get hx hb hts hin6 hown hK hG (key := 0) (by omega) (gC_0 st ad cy) rfl 16 (by decide) L_48 (fun _ h9 => h9) rfl dX6_misfitsOf_9 ?_
      refine lv_iload_n hx hb dX6_misfitsOf_12 rfl (lv_at hl 3 rfl) ?_
      refine g_iald hx hb hK hG (12) (kd := 12) (o := 0) rfl rfl (by omega) (cp := 16) (ln := 6) rfl rfl (by omega) dX6_misfitsOf_13 ?_
      have hr1 := gI_16 hI (0) (a)
      refine r_nm (fun v2 ev2 => ?_)
      rw [← ev2] at hr1
      refine r_icmp_ge (tgt := 93) hx hb (by omega) dX6_misfitsOf_14 (by decide) (fun c3 => ?_) (fun c3 => ?_)
      · skip
        refine lv_iload hx hb dX6_misfitsOf_93 (lv_at hl 0 rfl) ?_
        exact g_iret hx hb hr hlocks hG (by
          refine ⟨?_, rfl⟩
          congr 2
          omega) dX6_misfitsOf_95
      · skip
        refine lv_iconst (v := iI (0)) hx hb dX6_misfitsOf_17 rfl ?_
        refine lv_istore (lv' := [(7, .int (iI (0))), (5, .int (iI (sumN (mfM st a t0 i rw) (4 * ko)))), (6, .int (iI (((ko : Nat) : Int)))), (0, .ref (ad 0)), (1, .int (iI (a))), (2, .int (iI (t0))), (3, .int (iI (i))), (4, .int (iI (rw)))]) hx hb dX6_misfitsOf_18 hl (by decide) rfl (fun ls hl => ?_)
        have hloop20 : ∀ (N : Nat)  (kw : Nat) (H : Heap) (locs : List Loc) (ls : Array Slot), 4 - kw < N → (kw ≤ 4) →  GH D cy ad n st (gA n ad s.heap.size) s.heap H locs → lv_has ls 9 [(5, .int (iI (sumN (mfM st a t0 i rw) (4 * ko + kw)))), (7, .int (iI (((kw : Nat) : Int)))), (6, .int (iI (((ko : Nat) : Int)))), (0, .ref (ad 0)), (1, .int (iI (a))), (2, .int (iI (t0))), (3, .int (iI (i))), (4, .int (iI (rw)))] → W p l e (headSpec wsX6_misfitsOf { frames := 2, cells := 0, slots := 0, locals := 49 }).room s m (#[.ref (ad 0), .int (iI (a)), .int (iI (t0)), .int (iI (i)), .int (iI (rw))] : Array Value) below meth c H locs 0 0 (MQ below (va_Qi (fun (r : Int32) (st' : St) => r = iI (sumN (mfM st a t0 i rw) (4 * (st 16 0 a).toNat)) ∧ st' = st) (gP D cy ad n) (gA n ad s.heap.size)) (#[.ref (ad 0), .int (iI (a)), .int (iI (t0)), .int (iI (i)), .int (iI (rw))] : Array Value) s 0 0 (gA n ad s.heap.size)) (F0 m 20 ls []) := by
          intro N
          induction N with
          | zero => intro  kw H locs ls hm; exact absurd hm (Nat.not_lt_zero _)
          | succ N ih20 =>
            intro  kw H locs ls hm hkw hG hl
            refine lv_iload hx hb dX6_misfitsOf_20 (lv_at hl 1 rfl) ?_
            refine lv_iconst (v := iI (4)) hx hb dX6_misfitsOf_22 rfl ?_
            refine r_icmp_ge (tgt := 87) hx hb (by omega) dX6_misfitsOf_23 (by decide) (fun c4 => ?_) (fun c4 => ?_)
            · skip
              obtain ⟨v5, ev5⟩ : ∃ y : Int, y = ((ko : Nat) : Int) + (1) := ⟨_, rfl⟩
              refine lv_iinc (v := iI v5) (lv' := [(6, .int (iI (v5))), (5, .int (iI (sumN (mfM st a t0 i rw) (4 * ko + kw)))), (7, .int (iI (((kw : Nat) : Int)))), (0, .ref (ad 0)), (1, .int (iI (a))), (2, .int (iI (t0))), (3, .int (iI (i))), (4, .int (iI (rw)))]) hx hb dX6_misfitsOf_87 hl (k := 2) rfl (by rw [ev5]; exact iI_add _ _) (by decide) rfl (fun ls hl => ?_)
              refine lv_goto (tgt := 6) hx hb dX6_misfitsOf_90 (by decide) ?_
              rw [show (sumN (mfM st a t0 i rw) (4 * ko + kw) : Int) = sumN (mfM st a t0 i rw) (4 * (ko + 1)) from by (congr 1; omega)] at hl
              rw [show (v5 : Int) = (((ko + 1) : Nat) : Int) from by omega] at hl
              exact ih6  (ko + 1) _ _ _ (by omega) (by omega) hG (lv_sub hl [1, 0, 3, 4, 5, 6, 7] rfl)
            · skip
              refine lv_iload_n hx hb dX6_misfitsOf_26 rfl (lv_at hl 5 rfl) ?_
              refine lv_iload hx hb dX6_misfitsOf_27 (lv_at hl 7 rfl) ?_
              refine lv_iconst (v := iI (4)) hx hb dX6_misfitsOf_29 rfl ?_
              refine lv_iload hx hb dX6_misfitsOf_30 (lv_at hl 2 rfl) ?_
              refine r_imul hx hb dX6_misfitsOf_32 ?_
              refine r_nm (fun v6 ev6 => ?_)
              refine lv_iload hx hb dX6_misfitsOf_33 (lv_at hl 1 rfl) ?_
              refine r_iadd hx hb dX6_misfitsOf_35 ?_
              refine r_nm (fun v7 ev7 => ?_)
              refine g_goi hG hA (va_runS (As := [.int (iI (t0)), .int (iI (rw)), .int (iI (v7))]) (rest := []) ⟨hx, hb, hml, hown, hts⟩ (mX6_cellAt l D cy ad n st _ fz wb hn hI (by omega) (t0) (rw) (v7) ) (va_cwS 3 hts gX6_misfitsOf_X6_cellAt rfl rfl rfl (by decide +kernel) ⟨Nat.le_of_ble_eq_true rfl, Nat.le_of_ble_eq_true rfl⟩) ⟨g_blind, g_pre hK hG hA hN hZ⟩ rfl rfl hl.1 rfl (lv_room (Nat.le_of_ble_eq_true rfl)) dX6_misfitsOf_36 ⟨Nat.zero_le _, Nat.zero_le _⟩) (fun r9 s9 H locs hp hG => ?_)
              obtain ⟨rfl, hs9⟩ := hp
              rw [hs9] at hG
              clear hs9
              refine r_nm (fun v8 ev8 => ?_)
              refine lv_istore (lv' := [(8, .int (iI (v8))), (5, .int (iI (sumN (mfM st a t0 i rw) (4 * ko + kw)))), (7, .int (iI (((kw : Nat) : Int)))), (6, .int (iI (((ko : Nat) : Int)))), (0, .ref (ad 0)), (1, .int (iI (a))), (2, .int (iI (t0))), (3, .int (iI (i))), (4, .int (iI (rw)))]) hx hb dX6_misfitsOf_39 hl (by decide) rfl (fun ls hl => ?_)
              refine lv_iload hx hb dX6_misfitsOf_41 (lv_at hl 1 rfl) ?_
              refine lv_aload_n hx hb dX6_misfitsOf_43 rfl (lv_at hl 4 rfl) ?_
              refine g_get hx hb hts hin6 hown hK hG (key := 0) (by omega) (gC_0 st ad cy) rfl 8 (by decide) L_27 (fun _ h9 => h9) rfl dX6_misfitsOf_44 ?_
              refine lv_iload hx hb dX6_misfitsOf_47 (lv_at hl 0 rfl) ?_
              refine g_zald hx hb hK hG (5) (kd := 5) (o := 0) rfl rfl (by omega) (cp := 8) (ln := 768) rfl rfl (by omega) dX6_misfitsOf_49 ?_
              have hr9 := gI_8 hI (0) (v8)
              refine r_nm (fun v10 ev10 => ?_)
              rw [← ev10] at hr9
              refine r_if_eq (tgt := 77) hx hb (by omega) dX6_misfitsOf_50 (by decide) (fun c11 => ?_) (fun c11 => ?_)
              · skip
                refine lv_iconst (v := iI (0)) hx hb dX6_misfitsOf_77 rfl ?_
                refine r_iadd hx hb dX6_misfitsOf_78 ?_
                refine r_nm (fun v12 ev12 => ?_)
                refine lv_istore (lv' := [(5, .int (iI (v12))), (8, .int (iI (v8))), (7, .int (iI (((kw : Nat) : Int)))), (6, .int (iI (((ko : Nat) : Int)))), (0, .ref (ad 0)), (1, .int (iI (a))), (2, .int (iI (t0))), (3, .int (iI (i))), (4, .int (iI (rw)))]) hx hb dX6_misfitsOf_79 hl (by decide) rfl (fun ls hl => ?_)
                obtain ⟨v13, ev13⟩ : ∃ y : Int, y = ((kw : Nat) : Int) + (1) := ⟨_, rfl⟩
                refine lv_iinc (v := iI v13) (lv' := [(7, .int (iI (v13))), (5, .int (iI (v12))), (8, .int (iI (v8))), (6, .int (iI (((ko : Nat) : Int)))), (0, .ref (ad 0)), (1, .int (iI (a))), (2, .int (iI (t0))), (3, .int (iI (i))), (4, .int (iI (rw)))]) hx hb dX6_misfitsOf_81 hl (k := 2) rfl (by rw [ev13]; exact iI_add _ _) (by decide) rfl (fun ls hl => ?_)
                refine lv_goto (tgt := 20) hx hb dX6_misfitsOf_84 (by decide) ?_
                rw [show (v12 : Int) = sumN (mfM st a t0 i rw) (4 * ko + (kw + 1)) from by (rw [← Nat.add_assoc, sumN_s, mfM_c (x := (v8)) (by omega) (by omega)]; first | (rw [if_pos (by omega)]; omega) | (rw [if_neg (by omega)]; omega))] at hl
                rw [show (v13 : Int) = (((kw + 1) : Nat) : Int) from by omega] at hl
                exact ih20  (kw + 1) _ _ _ (by omega) (by omega) hG (lv_sub hl [1, 0, 3, 4, 5, 6, 7, 8] rfl)
              · skip
                refine lv_aload_n hx hb dX6_misfitsOf_53 rfl (lv_at hl 4 rfl) ?_
                refine g_get hx hb hts hin6 hown hK hG (key := 0) (by omega) (gC_0 st ad cy) rfl 4 (by decide) L_13 (fun _ h9 => h9) rfl dX6_misfitsOf_54 ?_
                refine lv_iload hx hb dX6_misfitsOf_57 (lv_at hl 0 rfl) ?_
                refine g_iald hx hb hK hG (1) (kd := 1) (o := 0) rfl rfl (by omega) (cp := 4) (ln := 768) rfl rfl (by omega) dX6_misfitsOf_59 ?_
                have hr14 := gI_4 hI (0) (v8)
                refine r_nm (fun v15 ev15 => ?_)
                rw [← ev15] at hr14
                refine lv_aload_n hx hb dX6_misfitsOf_60 rfl (lv_at hl 4 rfl) ?_
                refine lv_iload_n hx hb dX6_misfitsOf_61 rfl (lv_at hl 5 rfl) ?_
                refine lv_iload_n hx hb dX6_misfitsOf_62 rfl (lv_at hl 7 rfl) ?_
                refine lv_iload hx hb dX6_misfitsOf_63 (lv_at hl 3 rfl) ?_
                refine lv_iload hx hb dX6_misfitsOf_65 (lv_at hl 2 rfl) ?_
                refine g_goi hG hA (va_runV (As := [.int (iI (a)), .int (iI (i)), .int (iI (((ko : Nat) : Int))), .int (iI (((kw : Nat) : Int)))]) (rest := [.int (iI (v15)), .int (iI (sumN (mfM st a t0 i rw) (4 * ko + kw)))]) ⟨hx, hb, hml, hown, hts⟩ (mX6_needs l D cy ad n st _ fz wb hn hI (by omega) (a) (i) (((ko : Nat) : Int)) (((kw : Nat) : Int)) (by omega) (by omega) (by omega) (by omega)) (cwV 4 hts gX6_misfitsOf_X6_needs rfl rfl rfl (by decide +kernel) ⟨Nat.le_of_ble_eq_true rfl, Nat.le_of_ble_eq_true rfl⟩) ⟨g_blind, va_recv hK hG.1 (q0 := 0) (ci := 6) rfl ((gw_at (by omega)).trans (by rw [gC_0 st ad cy])), g_pre hK hG hA hN hZ⟩ rfl rfl hl.1 rfl (lv_room (Nat.le_of_ble_eq_true rfl)) dX6_misfitsOf_67 ⟨Nat.zero_le _, Nat.zero_le _⟩) (fun r9 s9 H locs hp hG => ?_)
                obtain ⟨rfl, hs9⟩ := hp
                rw [hs9] at hG
                clear hs9
                refine r_nm (fun v16 ev16 => ?_)
                have hr17 := needV_r (gI_17 hI 0 (32 * (a) + 4 * (i) + (((ko : Nat) : Int)))) (((kw : Nat) : Int))
                rw [← ev16] at hr17
                refine r_icmp_eq (tgt := 77) hx hb (by omega) dX6_misfitsOf_70 (by decide) (fun c18 => ?_) (fun c18 => ?_)
                · skip
                  refine lv_iconst (v := iI (0)) hx hb dX6_misfitsOf_77 rfl ?_
                  refine r_iadd hx hb dX6_misfitsOf_78 ?_
                  refine r_nm (fun v19 ev19 => ?_)
                  refine lv_istore (lv' := [(5, .int (iI (v19))), (8, .int (iI (v8))), (7, .int (iI (((kw : Nat) : Int)))), (6, .int (iI (((ko : Nat) : Int)))), (0, .ref (ad 0)), (1, .int (iI (a))), (2, .int (iI (t0))), (3, .int (iI (i))), (4, .int (iI (rw)))]) hx hb dX6_misfitsOf_79 hl (by decide) rfl (fun ls hl => ?_)
                  obtain ⟨v20, ev20⟩ : ∃ y : Int, y = ((kw : Nat) : Int) + (1) := ⟨_, rfl⟩
                  refine lv_iinc (v := iI v20) (lv' := [(7, .int (iI (v20))), (5, .int (iI (v19))), (8, .int (iI (v8))), (6, .int (iI (((ko : Nat) : Int)))), (0, .ref (ad 0)), (1, .int (iI (a))), (2, .int (iI (t0))), (3, .int (iI (i))), (4, .int (iI (rw)))]) hx hb dX6_misfitsOf_81 hl (k := 2) rfl (by rw [ev20]; exact iI_add _ _) (by decide) rfl (fun ls hl => ?_)
                  refine lv_goto (tgt := 20) hx hb dX6_misfitsOf_84 (by decide) ?_
                  rw [show (v19 : Int) = sumN (mfM st a t0 i rw) (4 * ko + (kw + 1)) from by (rw [← Nat.add_assoc, sumN_s, mfM_c (x := (v8)) (by omega) (by omega)]; first | (rw [if_pos (by omega)]; omega) | (rw [if_neg (by omega)]; omega))] at hl
                  rw [show (v20 : Int) = (((kw + 1) : Nat) : Int) from by omega] at hl
                  exact ih20  (kw + 1) _ _ _ (by omega) (by omega) hG (lv_sub hl [1, 0, 3, 4, 5, 6, 7, 8] rfl)
                · skip
                  refine lv_iconst (v := iI (1)) hx hb dX6_misfitsOf_73 rfl ?_
                  refine lv_goto (tgt := 78) hx hb dX6_misfitsOf_74 (by decide) ?_
                  refine r_iadd hx hb dX6_misfitsOf_78 ?_
                  refine r_nm (fun v21 ev21 => ?_)
                  refine lv_istore (lv' := [(5, .int (iI (v21))), (8, .int (iI (v8))), (7, .int (iI (((kw : Nat) : Int)))), (6, .int (iI (((ko : Nat) : Int)))), (0, .ref (ad 0)), (1, .int (iI (a))), (2, .int (iI (t0))), (3, .int (iI (i))), (4, .int (iI (rw)))]) hx hb dX6_misfitsOf_79 hl (by decide) rfl (fun ls hl => ?_)
                  obtain ⟨v22, ev22⟩ : ∃ y : Int, y = ((kw : Nat) : Int) + (1) := ⟨_, rfl⟩
                  refine lv_iinc (v := iI v22) (lv' := [(7, .int (iI (v22))), (5, .int (iI (v21))), (8, .int (iI (v8))), (6, .int (iI (((ko : Nat) : Int)))), (0, .ref (ad 0)), (1, .int (iI (a))), (2, .int (iI (t0))), (3, .int (iI (i))), (4, .int (iI (rw)))]) hx hb dX6_misfitsOf_81 hl (k := 2) rfl (by rw [ev22]; exact iI_add _ _) (by decide) rfl (fun ls hl => ?_)
                  refine lv_goto (tgt := 20) hx hb dX6_misfitsOf_84 (by decide) ?_
                  rw [show (v21 : Int) = sumN (mfM st a t0 i rw) (4 * ko + (kw + 1)) from by (rw [← Nat.add_assoc, sumN_s, mfM_c (x := (v8)) (by omega) (by omega)]; first | (rw [if_pos (by omega)]; omega) | (rw [if_neg (by omega)]; omega))] at hl
                  rw [show (v22 : Int) = (((kw + 1) : Nat) : Int) from by omega] at hl
                  exact ih20  (kw + 1) _ _ _ (by omega) (by omega) hG (lv_sub hl [1, 0, 3, 4, 5, 6, 7, 8] rfl)
        exact hloop20 _  (0) _ _ _ (Nat.lt_succ_self _) (by omega) hG (lv_sub hl [1, 0, 2, 3, 4, 5, 6, 7] rfl)
  exact hloop6 _  (0) _ _ _ (Nat.lt_succ_self _) (by omega) hG (lv_sub hl [1, 0, 2, 3, 4, 5, 6] rfl)
