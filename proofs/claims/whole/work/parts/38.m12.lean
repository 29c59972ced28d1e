set_option maxHeartbeats 400000 in
set_option maxRecDepth 100000 in
theorem mX6_pipesCode (l : Launch) (D : va_G) (cy : Nat → ClassId) (ad : Nat → Nat) (n : Nat) (st : St) (sz fz : Nat) (wb : Int) (hn : 75 ≤ n) (hI : GI wb st) (hW : wb ≤ 2000000) (a : Int) (w : Int) (ha : -2147483648 ≤ a ∧ a < 2147483648) (hw : -2147483648 ≤ w ∧ w < 2147483648) (hch : ∀ q : Int, 0 ≤ q → q < st 14 0 0 → st 19 0 q = -1 ∨ (q < st 19 0 q ∧ st 19 0 q < st 14 0 0)) : Met l yX6_pipesCode wsX6_pipesCode ({ frames := 2, cells := 0, slots := 0, locals := 43 }) (va_Pc [.ref (ad 0), .int (iI (a)), .int (iI (w))] (gB D cy ad n st sz fz)) (va_Qi (fun (r : Int32) (st' : St) => r = iI (kPipe st a w) ∧ st' = st) (gP D cy ad n) (gA n ad sz)) 0 0 (gA n ad sz) := by
  refine Met.ofW (cc := cX6_pipesCode) (maxL := 3) (ret := (some .int)) (by decide) rfl ?_
  intro p e s m args below meth c s₁ B hml hv
  obtain ⟨rfl, hsz, hP, hK, hD0, hN, hZ⟩ := hv
  have hx := B.exec
  have hb := B.bytes
  have hr := B.returns
  have hts := atoms_spec (ws := wsX6_pipesCode) B.pre
  have hown : s.vm.findClass RX6 = some m.cls := findClass_of_methodNamed B.named
  have hlocks := B.notSynchronized
  subst hsz
  have hA : ∀ q : Nat, s.heap.size ≤ q → gA n ad s.heap.size q := fun q h => Or.inr h
  have hG : GH D cy ad n st (gA n ad s.heap.size) s.heap s.heap [] := ⟨hP, gw_A hD0, va_S.rf⟩
  have hl := lv_entry ([.ref (ad 0), .int (iI (a)), .int (iI (w))]) (n := 3) (Nat.le_of_ble_eq_true rfl)
  rw [lg_entry_eq]
  generalize (lg_sl ([.ref (ad 0), .int (iI (a)), .int (iI (w))]) ++ List.replicate (3 - (lg_sl ([.ref (ad 0), .int (iI (a)), .int (iI (w))])).length) Slot.unset).toArray = ls at hl ⊢
  have hl : lv_has ls 3 [(0, .ref (ad 0)), (1, .int (iI (a))), (2, .int (iI (w)))] := hl
  have hin6 : ∀ w ∈ u_ws RX6 TX6 25, w ∈ wsX6_pipesCode := by decide +kernel
  have hmn := gI_14 hI 0 0
  have hks := kPipe_s st a w
  have hcr9 := chP_r st 6 a
  refine lv_aload_n hx hb dX6_pipesCode_0 rfl (lv_at hl 0 rfl) ?_
  refine lv_iload_n hx hb dX6_pipesCode_1 rfl (lv_at hl 1 rfl) ?_
  refine g_goi hG hA (va_runV (As := [.int (iI (a))]) (rest := []) ⟨hx, hb, hml, hown, hts⟩ (mX6_isLayer l D cy ad n st _ fz wb hn hI (by omega) (a) (by omega)) (cwV 1 hts gX6_pipesCode_X6_isLayer rfl rfl rfl (by decide +kernel) ⟨Nat.le_of_ble_eq_true rfl, Nat.le_of_ble_eq_true rfl⟩) ⟨g_blind, va_recv hK hG.1 (q0 := 0) (ci := 6) rfl ((gw_at (by omega)).trans (by rw [gC_0 st ad cy])), g_pre hK hG hA hN hZ⟩ rfl rfl hl.1 rfl (lv_room (Nat.le_of_ble_eq_true rfl)) dX6_pipesCode_2 ⟨Nat.zero_le _, Nat.zero_le _⟩) (fun r9 s9 H locs hp hG => ?_)
  obtain ⟨rfl, hs9⟩ := hp
  rw [hs9] at hG
  clear hs9
  refine r_nm (fun v1 ev1 => ?_)
  have hr2 := inF_s (a) 0 (st 14 0 0 - 1)
  rw [← ev1] at hr2
  refine r_if_ne (tgt := 12) hx hb (by omega) dX6_pipesCode_5 (by decide) (fun c3 => ?_) (fun c3 => ?_)
  · skip
    refine lv_iload_n hx hb dX6_pipesCode_12 rfl (lv_at hl 2 rfl) ?_
    refine lv_iconst (v := iI (1)) hx hb dX6_pipesCode_13 rfl ?_
    refine lv_sipush (v := iI (1000)) hx hb dX6_pipesCode_14 (by decide +kernel) ?_
    refine g_goi hG hA (va_runS (As := [.int (iI (w)), .int (iI (1)), .int (iI (1000))]) (rest := []) ⟨hx, hb, hml, hown, hts⟩ (mX6_in l D cy ad n st _ fz wb hn hI (by omega) (w) (1) (1000) (by omega) (by omega) (by omega)) (va_cwS 3 hts gX6_pipesCode_X6_in rfl rfl rfl (by decide +kernel) ⟨Nat.le_of_ble_eq_true rfl, Nat.le_of_ble_eq_true rfl⟩) ⟨g_blind, g_pre hK hG hA hN hZ⟩ rfl rfl hl.1 rfl (lv_room (Nat.le_of_ble_eq_true rfl)) dX6_pipesCode_17 ⟨Nat.zero_le _, Nat.zero_le _⟩) (fun r9 s9 H locs hp hG => ?_)
    obtain ⟨rfl, hs9⟩ := hp
    rw [hs9] at hG
    clear hs9
    refine r_nm (fun v4 ev4 => ?_)
    have hr5 := inF_s (w) (1) (1000)
    rw [← ev4] at hr5
    refine r_if_ne (tgt := 27) hx hb (by omega) dX6_pipesCode_20 (by decide) (fun c6 => ?_) (fun c6 => ?_)
    · skip
      refine lv_aload_n hx hb dX6_pipesCode_27 rfl (lv_at hl 0 rfl) ?_
      refine lv_iload_n hx hb dX6_pipesCode_28 rfl (lv_at hl 1 rfl) ?_
      refine g_goi hG hA (va_runV (As := [.int (iI (a))]) (rest := []) ⟨hx, hb, hml, hown, hts⟩ (mX6_isChainPlaced l D cy ad n st _ fz wb hn hI (by omega) (a) (by omega) (by omega)) (cwV 1 hts gX6_pipesCode_X6_isChainPlaced rfl rfl rfl (by decide +kernel) ⟨Nat.le_of_ble_eq_true rfl, Nat.le_of_ble_eq_true rfl⟩) ⟨g_blind, va_recv hK hG.1 (q0 := 0) (ci := 6) rfl ((gw_at (by omega)).trans (by rw [gC_0 st ad cy])), g_pre hK hG hA hN hZ⟩ rfl rfl hl.1 rfl (lv_room (Nat.le_of_ble_eq_true rfl)) dX6_pipesCode_29 ⟨Nat.zero_le _, Nat.zero_le _⟩) (fun r9 s9 H locs hp hG => ?_)
      obtain ⟨rfl, hs9⟩ := hp
      rw [hs9] at hG
      clear hs9
      refine r_nm (fun v7 ev7 => ?_)
      have hr8 := chP_r st 6 (a)
      rw [← ev7] at hr8
      refine r_if_eq (tgt := 39) hx hb (by omega) dX6_pipesCode_32 (by decide) (fun c9 => ?_) (fun c9 => ?_)
      · skip
        refine lv_iconst (v := iI (3)) hx hb dX6_pipesCode_39 rfl ?_
        exact g_iret hx hb hr hlocks hG (by
          refine ⟨?_, rfl⟩
          congr 1
          omega) dX6_pipesCode_40
      · skip
        refine lv_iconst (v := iI (0)) hx hb dX6_pipesCode_35 rfl ?_
        refine lv_goto (tgt := 40) hx hb dX6_pipesCode_36 (by decide) ?_
        exact g_iret hx hb hr hlocks hG (by
          refine ⟨?_, rfl⟩
          congr 1
          omega) dX6_pipesCode_40
    · skip
      refine lv_iconst (v := iI (2)) hx hb dX6_pipesCode_23 rfl ?_
      refine lv_goto (tgt := 40) hx hb dX6_pipesCode_24 (by decide) ?_
      exact g_iret hx hb hr hlocks hG (by
        refine ⟨?_, rfl⟩
        congr 1
        omega) dX6_pipesCode_40
  · skip
    refine lv_iconst (v := iI (1)) hx hb dX6_pipesCode_8 rfl ?_
    refine lv_goto (tgt := 40) hx hb dX6_pipesCode_9 (by decide) ?_
    exact g_iret hx hb hr hlocks hG (by
      refine ⟨?_, rfl⟩
      congr 1
      omega) dX6_pipesCode_40
set_option maxHeartbeats 400000 in
set_option maxRecDepth 100000 in
theorem mX6_pipes (l : Launch) (D : va_G) (cy : Nat → ClassId) (ad : Nat → Nat) (n : Nat) (st : St) (sz fz : Nat) (wb : Int) (hn : 75 ≤ n) (hI : GI wb st) (hW : wb ≤ 2000000) (a : Int) (w : Int) (ha : 0 ≤ a ∧ a < st 14 0 0) (hw : 1 ≤ w ∧ w ≤ 1000) (hch : ∀ q : Int, 0 ≤ q → q < st 14 0 0 → st 19 0 q = -1 ∨ (q < st 19 0 q ∧ st 19 0 q < st 14 0 0)) (hpl : chP st 6 a = 1) : Met l yX6_pipes wsX6_pipes ({ frames := 1, cells := 0, slots := 0, locals := 22 }) (va_Pc [.ref (ad 0), .int (iI (a)), .int (iI (w))] (gB D cy ad n st sz fz)) (va_Qi (fun (r : Int32) (st' : St) => r = iI (pvF st a w.toNat).2 ∧ st' = setL st (pvF st a w.toNat).1 ∧ GI wb st') (gP D cy ad n) (gA n ad sz)) 0 0 (gA n ad sz) := by
  refine Met.ofW (cc := cX6_pipes) (maxL := 7) (ret := (some .int)) (by decide) rfl ?_
  intro p e s m args below meth c s₁ B hml hv
  obtain ⟨rfl, hsz, hP, hK, hD0, hN, hZ⟩ := hv
  have hx := B.exec
  have hb := B.bytes
  have hr := B.returns
  have hts := atoms_spec (ws := wsX6_pipes) B.pre
  have hown : s.vm.findClass RX6 = some m.cls := findClass_of_methodNamed B.named
  have hlocks := B.notSynchronized
  subst hsz
  have hA : ∀ q : Nat, s.heap.size ≤ q → gA n ad s.heap.size q := fun q h => Or.inr h
  have hG : GH D cy ad n st (gA n ad s.heap.size) s.heap s.heap [] := ⟨hP, gw_A hD0, va_S.rf⟩
  have hl := lv_entry ([.ref (ad 0), .int (iI (a)), .int (iI (w))]) (n := 7) (Nat.le_of_ble_eq_true rfl)
  rw [lg_entry_eq]
  generalize (lg_sl ([.ref (ad 0), .int (iI (a)), .int (iI (w))]) ++ List.replicate (7 - (lg_sl ([.ref (ad 0), .int (iI (a)), .int (iI (w))])).length) Slot.unset).toArray = ls at hl ⊢
  have hl : lv_has ls 7 [(0, .ref (ad 0)), (1, .int (iI (a))), (2, .int (iI (w)))] := hl
  have hin6 : ∀ w ∈ u_ws RX6 TX6 25, w ∈ wsX6_pipes := by decide +kernel
  have L_57 := hts (.fieldLink RX6 57 "CrossbarryModel" "nexts" "[I") (by decide +kernel)
  have L_72 := hts (.fieldLink RX6 72 "CrossbarryModel" "left" "[I") (by decide +kernel)
  have hmn := gI_14 hI 0 0
  refine lv_iconst (v := iI (0)) hx hb dX6_pipes_0 rfl ?_
  refine lv_istore_n (lv' := [(3, .int (iI (0))), (0, .ref (ad 0)), (1, .int (iI (a))), (2, .int (iI (w)))]) hx hb dX6_pipes_1 rfl hl (by decide) rfl (fun ls hl => ?_)
  have hloop2 : ∀ (N : Nat)  (k : Nat) (sta : St) (H : Heap) (locs : List Loc) (ls : Array Slot), 6 - k < N → (k ≤ 6) → (sta = setL st (lfA st k)) → GI wb sta → GH D cy ad n sta (gA n ad s.heap.size) s.heap H locs → lv_has ls 7 [(3, .int (iI (((k : Nat) : Int)))), (0, .ref (ad 0)), (1, .int (iI (a))), (2, .int (iI (w)))] → W p l e (headSpec wsX6_pipes { frames := 1, cells := 0, slots := 0, locals := 22 }).room s m (#[.ref (ad 0), .int (iI (a)), .int (iI (w))] : Array Value) below meth c H locs 0 0 (MQ below (va_Qi (fun (r : Int32) (st' : St) => r = iI (pvF st a w.toNat).2 ∧ st' = setL st (pvF st a w.toNat).1 ∧ GI wb st') (gP D cy ad n) (gA n ad s.heap.size)) (#[.ref (ad 0), .int (iI (a)), .int (iI (w))] : Array Value) s 0 0 (gA n ad s.heap.size)) (F0 m 2 ls []) := by
    intro N
    induction N with
    | zero => intro  k sta H locs ls hm; exact absurd hm (Nat.not_lt_zero _)
    | succ N ih2 =>
      intro  k sta H locs ls hm hk hsta hI hG hl
      refine lv_iload_n hx hb dX6_pipes_2 rfl (lv_at hl 0 rfl) ?_
      refine lv_bipush (v := iI (6)) hx hb dX6_pipes_3 (by decide +kernel) ?_
      refine r_icmp_ge (tgt := 21) hx hb (by omega) dX6_pipes_5 (by decide) (fun c1 => ?_) (fun c1 => ?_)
      · skip
        refine lv_iconst (v := iI (0)) hx hb dX6_pipes_21 rfl ?_
        refine lv_istore_n (lv' := [(3, .int (iI (0))), (0, .ref (ad 0)), (1, .int (iI (a))), (2, .int (iI (w)))]) hx hb dX6_pipes_22 rfl hl (by decide) rfl (fun ls hl => ?_)
        refine lv_iconst (v := iI (0)) hx hb dX6_pipes_23 rfl ?_
        refine lv_istore (lv' := [(4, .int (iI (0))), (3, .int (iI (0))), (0, .ref (ad 0)), (1, .int (iI (a))), (2, .int (iI (w)))]) hx hb dX6_pipes_24 hl (by decide) rfl (fun ls hl => ?_)
        have hloop26 : ∀ (N : Nat) (x3 : Int) (v : Nat) (stb : St) (H : Heap) (locs : List Loc) (ls : Array Slot), w.toNat - v < N → ((v : Int) ≤ w) → (v = 0 ∨ x3 = (pvF st a v).2) → (v = 0 → x3 = 0) → (stb = setL st (pvF st a v).1) → (∀ i : Int, 0 ≤ i → i < 6 → 0 ≤ (pvF st a v).1 i ∧ (pvF st a v).1 i ≤ 768 * (v : Int)) → GI wb stb → GH D cy ad n stb (gA n ad s.heap.size) s.heap H locs → lv_has ls 7 [(3, .int (iI (x3))), (4, .int (iI (((v : Nat) : Int)))), (0, .ref (ad 0)), (1, .int (iI (a))), (2, .int (iI (w)))] → W p l e (headSpec wsX6_pipes { frames := 1, cells := 0, slots := 0, locals := 22 }).room s m (#[.ref (ad 0), .int (iI (a)), .int (iI (w))] : Array Value) below meth c H locs 0 0 (MQ below (va_Qi (fun (r : Int32) (st' : St) => r = iI (pvF st a w.toNat).2 ∧ st' = setL st (pvF st a w.toNat).1 ∧ GI wb st') (gP D cy ad n) (gA n ad s.heap.size)) (#[.ref (ad 0), .int (iI (a)), .int (iI (w))] : Array Value) s 0 0 (gA n ad s.heap.size)) (F0 m 26 ls []) := by
          intro N
          induction N with
          | zero => intro x3 v stb H locs ls hm; exact absurd hm (Nat.not_lt_zero _)
          | succ N ih26 =>
            intro x3 v stb H locs ls hm hv hx3 hx0 hstb hlb hI hG hl
            have hfb : ∀ c o i, (c < 24 ∨ 24 < c) → stb c o i = st c o i := fun c o i h => by rw [hstb]; exact setL_c _ _ h
            have hla := hlb a (by omega) (by omega)
            refine lv_iload hx hb dX6_pipes_26 (lv_at hl 1 rfl) ?_
            refine lv_iload_n hx hb dX6_pipes_28 rfl (lv_at hl 4 rfl) ?_
            refine r_icmp_ge (tgt := 121) hx hb (by omega) dX6_pipes_29 (by decide) (fun c2 => ?_) (fun c2 => ?_)
            · skip
              refine lv_iload_n hx hb dX6_pipes_121 rfl (lv_at hl 0 rfl) ?_
              exact g_iret hx hb hr hlocks hG (by
                have hv2 : w.toNat = v := by omega
                rw [hv2]
                exact ⟨by congr 1; omega, hstb, hI⟩) dX6_pipes_122
            · skip
              refine lv_aload_n hx hb dX6_pipes_32 rfl (lv_at hl 2 rfl) ?_
              refine g_get hx hb hts hin6 hown hK hG (key := 0) (by omega) (gC_0 stb ad cy) rfl 24 (by decide) L_72 (fun _ h9 => h9) rfl dX6_pipes_33 ?_
              refine lv_iload_n hx hb dX6_pipes_36 rfl (lv_at hl 3 rfl) ?_
              refine g_iald hx hb hK hG (20) (kd := 20) (o := 0) rfl rfl (by omega) (cp := 24) (ln := 6) rfl rfl (by omega) dX6_pipes_37 ?_
              have hr3 := gI_24 hI (0) (a)
              refine r_nm (fun v4 ev4 => ?_)
              rw [← ev4] at hr3
              have hl9 : v4 = (pvF st a v).1 a := by rw [ev4, hstb]; rfl
              refine lv_istore_n (lv' := [(3, .int (iI (v4))), (4, .int (iI (((v : Nat) : Int)))), (0, .ref (ad 0)), (1, .int (iI (a))), (2, .int (iI (w)))]) hx hb dX6_pipes_38 rfl hl (by decide) rfl (fun ls hl => ?_)
              refine lv_iload_n hx hb dX6_pipes_39 rfl (lv_at hl 3 rfl) ?_
              refine lv_istore (lv' := [(5, .int (iI (a))), (3, .int (iI (v4))), (4, .int (iI (((v : Nat) : Int)))), (0, .ref (ad 0)), (1, .int (iI (a))), (2, .int (iI (w)))]) hx hb dX6_pipes_40 hl (by decide) rfl (fun ls hl => ?_)
              have hloop42 : ∀ (N : Nat) (x3 : Int) (x5 : Int) (lf : Int → Int) (f : Nat) (stc : St) (H : Heap) (locs : List Loc) (ls : Array Slot), f < N → (x5 = -1 ∨ (0 ≤ x5 ∧ x5 < st 14 0 0 ∧ 6 ≤ x5 + (f : Int))) → (f ≤ 6) → (0 ≤ x3 ∧ x3 ≤ 768 * (v : Int) + 128 * (6 - (f : Int))) → (stc = setL st lf) → (∀ i : Int, 0 ≤ i → i < 6 → 0 ≤ lf i ∧ lf i ≤ 768 * (v : Int) + 128 * (6 - (f : Int))) → (chP st f x5 = 1) → (pcF st f x5 (lf, x3) = pcF st 6 a ((pvF st a v).1, (pvF st a v).1 a)) → GI wb stc → GH D cy ad n stc (gA n ad s.heap.size) s.heap H locs → lv_has ls 7 [(3, .int (iI (x3))), (5, .int (iI (x5))), (4, .int (iI (((v : Nat) : Int)))), (0, .ref (ad 0)), (1, .int (iI (a))), (2, .int (iI (w)))] → W p l e (headSpec wsX6_pipes { frames := 1, cells := 0, slots := 0, locals := 22 }).room s m (#[.ref (ad 0), .int (iI (a)), .int (iI (w))] : Array Value) below meth c H locs 0 0 (MQ below (va_Qi (fun (r : Int32) (st' : St) => r = iI (pvF st a w.toNat).2 ∧ st' = setL st (pvF st a w.toNat).1 ∧ GI wb st') (gP D cy ad n) (gA n ad s.heap.size)) (#[.ref (ad 0), .int (iI (a)), .int (iI (w))] : Array Value) s 0 0 (gA n ad s.heap.size)) (F0 m 42 ls []) := by
                intro N
                induction N with
                | zero => intro x3 x5 lf f stc H locs ls hm; exact absurd hm (Nat.not_lt_zero _)
                | succ N ih42 =>
                  intro x3 x5 lf f stc H locs ls hm hx5 hf6 hx3c hstc hlc hcp hres hI hG hl
                  have hnx := hch x5
                  have hfc : ∀ c o i, (c < 24 ∨ 24 < c) → stc c o i = st c o i := fun c o i h => by rw [hstc]; exact setL_c _ _ h
                  have htl : x5 ≠ -1 → 0 ≤ st 20 0 x5 := by
                    intro q
                    obtain ⟨f1, rfl⟩ : ∃ f1 : Nat, f = f1 + 1 := ⟨f - 1, by omega⟩
                    have h7 := gI_20 hI 0 x5
                    rw [hfc 20 0 _ (by decide)] at h7
                    have h9 := hcp
                    rw [chP_s, if_neg (by omega)] at h9
                    by_cases h8 : st 20 0 x5 = -1
                    · rw [if_pos h8] at h9; omega
                    · omega
                  refine lv_iload hx hb dX6_pipes_42 (lv_at hl 1 rfl) ?_
                  refine lv_iconst (v := iI (-1)) hx hb dX6_pipes_44 rfl ?_
                  refine r_icmp_eq (tgt := 115) hx hb (by omega) dX6_pipes_45 (by decide) (fun c5 => ?_) (fun c5 => ?_)
                  · skip
                    obtain ⟨v6, ev6⟩ : ∃ y9 : Int, y9 = ((v : Nat) : Int) + (1) := ⟨_, rfl⟩
                    refine lv_iinc (v := iI v6) (lv' := [(4, .int (iI (v6))), (3, .int (iI (x3))), (5, .int (iI (x5))), (0, .ref (ad 0)), (1, .int (iI (a))), (2, .int (iI (w)))]) hx hb dX6_pipes_115 hl (k := 2) rfl (by rw [ev6]; exact iI_add _ _) (by decide) rfl (fun ls hl => ?_)
                    refine lv_goto (tgt := 26) hx hb dX6_pipes_118 (by decide) ?_
                    rw [show (v6 : Int) = (((v + 1) : Nat) : Int) from by omega] at hl
                    exact ih26 (x3) (v + 1) stc _ _ _ (by omega) (by omega) (by right; rw [pvF_s, ← hres, show x5 = -1 by omega, pcF_e]) (by omega) (by rw [hstc, pvF_s, ← hres, show x5 = -1 by omega, pcF_e]) (by rw [pvF_s, ← hres, show x5 = -1 by omega, pcF_e]; intro i h1 h2; have := hlc i h1 h2; show 0 ≤ lf i ∧ lf i ≤ _; omega) hI hG (lv_sub hl [1, 0, 3, 4, 5] rfl)
                  · skip
                    refine lv_iload_n hx hb dX6_pipes_48 rfl (lv_at hl 0 rfl) ?_
                    refine lv_aload_n hx hb dX6_pipes_49 rfl (lv_at hl 3 rfl) ?_
                    refine lv_iload hx hb dX6_pipes_50 (lv_at hl 1 rfl) ?_
                    refine g_goi hG hA (va_runV (As := [.int (iI (x5))]) (rest := [.int (iI (x3))]) ⟨hx, hb, hml, hown, hts⟩ (mX6_cyclesOf l D cy ad n stc _ fz wb hn hI (by omega) (x5) (by omega) (by rw [hfc 20 0 _ (by decide)]; exact htl (by omega))) (cwV 1 hts gX6_pipes_X6_cyclesOf rfl rfl rfl (by decide +kernel) ⟨Nat.le_of_ble_eq_true rfl, Nat.le_of_ble_eq_true rfl⟩) ⟨g_blind, va_recv hK hG.1 (q0 := 0) (ci := 6) rfl ((gw_at (by omega)).trans (by rw [gC_0 stc ad cy])), g_pre hK hG hA hN hZ⟩ rfl rfl hl.1 rfl (lv_room (Nat.le_of_ble_eq_true rfl)) dX6_pipes_52 ⟨Nat.zero_le _, Nat.zero_le _⟩) (fun r9 s9 H locs hp hG => ?_)
                    obtain ⟨rfl, hs9⟩ := hp
                    rw [hs9] at hG
                    clear hs9
                    refine r_nm (fun v7 ev7 => ?_)
                    have hr8 := cyF_r (gI_16 hI 0 (x5)) (gI_13 hI 0 (stc 20 0 (x5)))
                    rw [← ev7] at hr8
                    have hcy : v7 = cyL st x5 := by rw [ev7, hfc 16 0 _ (by decide), hfc 20 0 _ (by decide), hfc 13 0 _ (by decide)]; rfl
                    refine r_iadd hx hb dX6_pipes_55 ?_
                    refine r_nm (fun v9 ev9 => ?_)
                    refine lv_istore_n (lv' := [(3, .int (iI (v9))), (5, .int (iI (x5))), (4, .int (iI (((v : Nat) : Int)))), (0, .ref (ad 0)), (1, .int (iI (a))), (2, .int (iI (w)))]) hx hb dX6_pipes_56 rfl hl (by decide) rfl (fun ls hl => ?_)
                    refine lv_aload_n hx hb dX6_pipes_57 rfl (lv_at hl 3 rfl) ?_
                    refine g_get hx hb hts hin6 hown hK hG (key := 0) (by omega) (gC_0 stc ad cy) rfl 19 (by decide) L_57 (fun _ h9 => h9) rfl dX6_pipes_58 ?_
                    refine lv_iload hx hb dX6_pipes_61 (lv_at hl 1 rfl) ?_
                    refine g_iald hx hb hK hG (15) (kd := 15) (o := 0) rfl rfl (by omega) (cp := 19) (ln := 6) rfl rfl (by omega) dX6_pipes_63 ?_
                    have hr10 := gI_19 hI (0) (x5)
                    have kq11 : stc 19 (0) (x5) = st 19 (0) (x5) := by rw [hfc _ _ _ (by decide)]
                    rw [kq11] at hr10
                    refine r_as kq11 ?_
                    clear kq11
                    refine r_nm (fun v12 ev12 => ?_)
                    rw [← ev12] at hr10
                    refine lv_istore (lv' := [(6, .int (iI (v12))), (3, .int (iI (v9))), (5, .int (iI (x5))), (4, .int (iI (((v : Nat) : Int)))), (0, .ref (ad 0)), (1, .int (iI (a))), (2, .int (iI (w)))]) hx hb dX6_pipes_64 hl (by decide) rfl (fun ls hl => ?_)
                    refine lv_iload hx hb dX6_pipes_66 (lv_at hl 0 rfl) ?_
                    refine lv_iconst (v := iI (-1)) hx hb dX6_pipes_68 rfl ?_
                    refine r_icmp_eq (tgt := 93) hx hb (by omega) dX6_pipes_69 (by decide) (fun c13 => ?_) (fun c13 => ?_)
                    · skip
                      refine lv_iload_n hx hb dX6_pipes_93 rfl (lv_at hl 1 rfl) ?_
                      refine lv_istore_n (lv' := [(3, .int (iI (v9))), (6, .int (iI (v12))), (5, .int (iI (x5))), (4, .int (iI (((v : Nat) : Int)))), (0, .ref (ad 0)), (1, .int (iI (a))), (2, .int (iI (w)))]) hx hb dX6_pipes_94 rfl hl (by decide) rfl (fun ls hl => ?_)
                      refine lv_aload_n hx hb dX6_pipes_95 rfl (lv_at hl 4 rfl) ?_
                      refine g_get hx hb hts hin6 hown hK hG (key := 0) (by omega) (gC_0 stc ad cy) rfl 24 (by decide) L_72 (fun _ h9 => h9) rfl dX6_pipes_96 ?_
                      refine lv_iload hx hb dX6_pipes_99 (lv_at hl 2 rfl) ?_
                      refine lv_iload_n hx hb dX6_pipes_101 rfl (lv_at hl 0 rfl) ?_
                      refine g_iast hx hb hK hG (20) (kd := 20) (o := 0) rfl rfl (by omega) (cp := 24) (ln := 6) rfl rfl (by omega) dX6_pipes_102 (fun H locs hG => ?_)
                      obtain ⟨st14, hst14⟩ : ∃ z : St, z = ust stc 24 (0) (x5) (v9) := ⟨_, rfl⟩
                      rw [← hst14] at hG
                      replace hI := hst14 ▸ gIu_24 hI (0) (x5) (v := v9) (by omega)
                      refine lv_aload_n hx hb dX6_pipes_103 rfl (lv_at hl 4 rfl) ?_
                      refine g_get hx hb hts hin6 hown hK hG (key := 0) (by omega) (gC_0 st14 ad cy) rfl 19 (by decide) L_57 (fun _ h9 => h9) rfl dX6_pipes_104 ?_
                      refine lv_iload hx hb dX6_pipes_107 (lv_at hl 2 rfl) ?_
                      refine g_iald hx hb hK hG (15) (kd := 15) (o := 0) rfl rfl (by omega) (cp := 19) (ln := 6) rfl rfl (by omega) dX6_pipes_109 ?_
                      have hr15 := gI_19 hI (0) (x5)
                      have kq16 : st14 19 (0) (x5) = st 19 (0) (x5) := by rw [hst14, ust_c (by decide), hfc _ _ _ (by decide)]
                      rw [kq16] at hr15
                      refine r_as kq16 ?_
                      clear kq16
                      refine r_nm (fun v17 ev17 => ?_)
                      rw [← ev17] at hr15
                      refine lv_istore (lv' := [(5, .int (iI (v17))), (3, .int (iI (v9))), (6, .int (iI (v12))), (4, .int (iI (((v : Nat) : Int)))), (0, .ref (ad 0)), (1, .int (iI (a))), (2, .int (iI (w)))]) hx hb dX6_pipes_110 hl (by decide) rfl (fun ls hl => ?_)
                      refine lv_goto (tgt := 42) hx hb dX6_pipes_112 (by decide) ?_
                      obtain ⟨f1, rfl⟩ : ∃ f1 : Nat, f = f1 + 1 := ⟨f - 1, by omega⟩
                      have hlx := hlc (v12)
                      have h56 : (v17) = (v12) := by omega
                      exact ih42 (v9) (v17) (updI lf x5 (v9)) (f1) st14 _ _ _ (by omega) (by omega) (by omega) (by omega) (by rw [hst14, hstc]; exact setL_u _ _ _ _) (by intro i h1 h2; have := hlc i h1 h2; unfold updI; split <;> omega) (by have h9 := hcp; rw [chP_s, if_neg (by omega), if_neg (by omega)] at h9; rw [show (v17) = st 19 0 x5 by omega]; exact h9) (by rw [← hres, h56]; exact (pcF_step (by omega) (by omega) (by omega)).symm) hI hG (lv_sub hl [1, 0, 3, 4, 5, 6] rfl)
                    · skip
                      refine lv_aload_n hx hb dX6_pipes_72 rfl (lv_at hl 4 rfl) ?_
                      refine g_get hx hb hts hin6 hown hK hG (key := 0) (by omega) (gC_0 stc ad cy) rfl 24 (by decide) L_72 (fun _ h9 => h9) rfl dX6_pipes_73 ?_
                      refine lv_iload hx hb dX6_pipes_76 (lv_at hl 0 rfl) ?_
                      refine g_iald hx hb hK hG (20) (kd := 20) (o := 0) rfl rfl (by omega) (cp := 24) (ln := 6) rfl rfl (by omega) dX6_pipes_78 ?_
                      have hr18 := gI_24 hI (0) (v12)
                      refine r_nm (fun v19 ev19 => ?_)
                      rw [← ev19] at hr18
                      have hl9 : v19 = lf (v12) := by rw [ev19, hstc]; rfl
                      refine lv_iload_n hx hb dX6_pipes_79 rfl (lv_at hl 1 rfl) ?_
                      refine r_icmp_le (tgt := 93) hx hb (by omega) dX6_pipes_80 (by decide) (fun c20 => ?_) (fun c20 => ?_)
                      · skip
                        refine lv_iload_n hx hb dX6_pipes_93 rfl (lv_at hl 1 rfl) ?_
                        refine lv_istore_n (lv' := [(3, .int (iI (v9))), (6, .int (iI (v12))), (5, .int (iI (x5))), (4, .int (iI (((v : Nat) : Int)))), (0, .ref (ad 0)), (1, .int (iI (a))), (2, .int (iI (w)))]) hx hb dX6_pipes_94 rfl hl (by decide) rfl (fun ls hl => ?_)
                        refine lv_aload_n hx hb dX6_pipes_95 rfl (lv_at hl 4 rfl) ?_
                        refine g_get hx hb hts hin6 hown hK hG (key := 0) (by omega) (gC_0 stc ad cy) rfl 24 (by decide) L_72 (fun _ h9 => h9) rfl dX6_pipes_96 ?_
                        refine lv_iload hx hb dX6_pipes_99 (lv_at hl 2 rfl) ?_
                        refine lv_iload_n hx hb dX6_pipes_101 rfl (lv_at hl 0 rfl) ?_
                        refine g_iast hx hb hK hG (20) (kd := 20) (o := 0) rfl rfl (by omega) (cp := 24) (ln := 6) rfl rfl (by omega) dX6_pipes_102 (fun H locs hG => ?_)
                        obtain ⟨st21, hst21⟩ : ∃ z : St, z = ust stc 24 (0) (x5) (v9) := ⟨_, rfl⟩
                        rw [← hst21] at hG
                        replace hI := hst21 ▸ gIu_24 hI (0) (x5) (v := v9) (by omega)
                        refine lv_aload_n hx hb dX6_pipes_103 rfl (lv_at hl 4 rfl) ?_
                        refine g_get hx hb hts hin6 hown hK hG (key := 0) (by omega) (gC_0 st21 ad cy) rfl 19 (by decide) L_57 (fun _ h9 => h9) rfl dX6_pipes_104 ?_
                        refine lv_iload hx hb dX6_pipes_107 (lv_at hl 2 rfl) ?_
                        refine g_iald hx hb hK hG (15) (kd := 15) (o := 0) rfl rfl (by omega) (cp := 19) (ln := 6) rfl rfl (by omega) dX6_pipes_109 ?_
                        have hr22 := gI_19 hI (0) (x5)
                        have kq23 : st21 19 (0) (x5) = st 19 (0) (x5) := by rw [hst21, ust_c (by decide), hfc _ _ _ (by decide)]
                        rw [kq23] at hr22
                        refine r_as kq23 ?_
                        clear kq23
                        refine r_nm (fun v24 ev24 => ?_)
                        rw [← ev24] at hr22
                        refine lv_istore (lv' := [(5, .int (iI (v24))), (3, .int (iI (v9))), (6, .int (iI (v12))), (4, .int (iI (((v : Nat) : Int)))), (0, .ref (ad 0)), (1, .int (iI (a))), (2, .int (iI (w)))]) hx hb dX6_pipes_110 hl (by decide) rfl (fun ls hl => ?_)
                        refine lv_goto (tgt := 42) hx hb dX6_pipes_112 (by decide) ?_
                        obtain ⟨f1, rfl⟩ : ∃ f1 : Nat, f = f1 + 1 := ⟨f - 1, by omega⟩
                        have hlx := hlc (v12)
                        have h56 : (v24) = (v12) := by omega
                        exact ih42 (v9) (v24) (updI lf x5 (v9)) (f1) st21 _ _ _ (by omega) (by omega) (by omega) (by omega) (by rw [hst21, hstc]; exact setL_u _ _ _ _) (by intro i h1 h2; have := hlc i h1 h2; unfold updI; split <;> omega) (by have h9 := hcp; rw [chP_s, if_neg (by omega), if_neg (by omega)] at h9; rw [show (v24) = st 19 0 x5 by omega]; exact h9) (by rw [← hres, h56]; exact (pcF_step (by omega) (by omega) (by omega)).symm) hI hG (lv_sub hl [1, 0, 3, 4, 5, 6] rfl)
                      · skip
                        refine lv_aload_n hx hb dX6_pipes_83 rfl (lv_at hl 4 rfl) ?_
                        refine g_get hx hb hts hin6 hown hK hG (key := 0) (by omega) (gC_0 stc ad cy) rfl 24 (by decide) L_72 (fun _ h9 => h9) rfl dX6_pipes_84 ?_
                        refine lv_iload hx hb dX6_pipes_87 (lv_at hl 0 rfl) ?_
                        refine g_iald hx hb hK hG (20) (kd := 20) (o := 0) rfl rfl (by omega) (cp := 24) (ln := 6) rfl rfl (by omega) dX6_pipes_89 ?_
                        have hr25 := gI_24 hI (0) (v12)
                        refine r_nm (fun v26 ev26 => ?_)
                        rw [← ev26] at hr25
                        have hl8 : v26 = lf (v12) := by rw [ev26, hstc]; rfl
                        refine lv_goto (tgt := 94) hx hb dX6_pipes_90 (by decide) ?_
                        refine lv_istore_n (lv' := [(3, .int (iI (v26))), (6, .int (iI (v12))), (5, .int (iI (x5))), (4, .int (iI (((v : Nat) : Int)))), (0, .ref (ad 0)), (1, .int (iI (a))), (2, .int (iI (w)))]) hx hb dX6_pipes_94 rfl hl (by decide) rfl (fun ls hl => ?_)
                        refine lv_aload_n hx hb dX6_pipes_95 rfl (lv_at hl 4 rfl) ?_
                        refine g_get hx hb hts hin6 hown hK hG (key := 0) (by omega) (gC_0 stc ad cy) rfl 24 (by decide) L_72 (fun _ h9 => h9) rfl dX6_pipes_96 ?_
                        refine lv_iload hx hb dX6_pipes_99 (lv_at hl 2 rfl) ?_
                        refine lv_iload_n hx hb dX6_pipes_101 rfl (lv_at hl 0 rfl) ?_
                        refine g_iast hx hb hK hG (20) (kd := 20) (o := 0) rfl rfl (by omega) (cp := 24) (ln := 6) rfl rfl (by omega) dX6_pipes_102 (fun H locs hG => ?_)
                        obtain ⟨st27, hst27⟩ : ∃ z : St, z = ust stc 24 (0) (x5) (v26) := ⟨_, rfl⟩
                        rw [← hst27] at hG
                        replace hI := hst27 ▸ gIu_24 hI (0) (x5) (v := v26) (by omega)
                        refine lv_aload_n hx hb dX6_pipes_103 rfl (lv_at hl 4 rfl) ?_
                        refine g_get hx hb hts hin6 hown hK hG (key := 0) (by omega) (gC_0 st27 ad cy) rfl 19 (by decide) L_57 (fun _ h9 => h9) rfl dX6_pipes_104 ?_
                        refine lv_iload hx hb dX6_pipes_107 (lv_at hl 2 rfl) ?_
                        refine g_iald hx hb hK hG (15) (kd := 15) (o := 0) rfl rfl (by omega) (cp := 19) (ln := 6) rfl rfl (by omega) dX6_pipes_109 ?_
                        have hr28 := gI_19 hI (0) (x5)
                        have kq29 : st27 19 (0) (x5) = st 19 (0) (x5) := by rw [hst27, ust_c (by decide), hfc _ _ _ (by decide)]
                        rw [kq29] at hr28
                        refine r_as kq29 ?_
                        clear kq29
                        refine r_nm (fun v30 ev30 => ?_)
                        rw [← ev30] at hr28
                        refine lv_istore (lv' := [(5, .int (iI (v30))), (3, .int (iI (v26))), (6, .int (iI (v12))), (4, .int (iI (((v : Nat) : Int)))), (0, .ref (ad 0)), (1, .int (iI (a))), (2, .int (iI (w)))]) hx hb dX6_pipes_110 hl (by decide) rfl (fun ls hl => ?_)
                        refine lv_goto (tgt := 42) hx hb dX6_pipes_112 (by decide) ?_
                        obtain ⟨f1, rfl⟩ : ∃ f1 : Nat, f = f1 + 1 := ⟨f - 1, by omega⟩
                        have hlx := hlc (v12)
                        have h56 : (v30) = (v12) := by omega
                        exact ih42 (v26) (v30) (updI lf x5 (v26)) (f1) st27 _ _ _ (by omega) (by omega) (by omega) (by omega) (by rw [hst27, hstc]; exact setL_u _ _ _ _) (by intro i h1 h2; have := hlc i h1 h2; unfold updI; split <;> omega) (by have h9 := hcp; rw [chP_s, if_neg (by omega), if_neg (by omega)] at h9; rw [show (v30) = st 19 0 x5 by omega]; exact h9) (by rw [← hres, h56]; exact (pcF_step (by omega) (by omega) (by omega)).symm) hI hG (lv_sub hl [1, 0, 3, 4, 5, 6] rfl)
              exact hloop42 _ (v4) (a) ((pvF st a v).1) (6) stb _ _ _ (Nat.lt_succ_self _) (by omega) (by omega) (by omega) (by exact hstb) (by intro i h1 h2; have := hlb i h1 h2; omega) (by exact hpl) (by rw [hl9]) hI hG (lv_sub hl [1, 0, 2, 3, 4, 5] rfl)
        exact hloop26 _ (0) (0) sta _ _ _ (Nat.lt_succ_self _) (by omega) (by omega) (by omega) (by rw [hsta, show k = 6 by omega]; rfl) (by intro i h1 h2; show 0 ≤ lfA st 6 i ∧ lfA st 6 i ≤ _; unfold lfA; rw [if_pos (by omega)]; omega) hI hG (lv_sub hl [1, 0, 2, 3, 4] rfl)
      · skip
        refine lv_aload_n hx hb dX6_pipes_8 rfl (lv_at hl 1 rfl) ?_
        refine g_get hx hb hts hin6 hown hK hG (key := 0) (by omega) (gC_0 sta ad cy) rfl 24 (by decide) L_72 (fun _ h9 => h9) rfl dX6_pipes_9 ?_
        refine lv_iload_n hx hb dX6_pipes_12 rfl (lv_at hl 0 rfl) ?_
        refine lv_iconst (v := iI (0)) hx hb dX6_pipes_13 rfl ?_
        refine g_iast hx hb hK hG (20) (kd := 20) (o := 0) rfl rfl (by omega) (cp := 24) (ln := 6) rfl rfl (by omega) dX6_pipes_14 (fun H locs hG => ?_)
        obtain ⟨st31, hst31⟩ : ∃ z : St, z = ust sta 24 (0) (((k : Nat) : Int)) (0) := ⟨_, rfl⟩
        rw [← hst31] at hG
        replace hI := hst31 ▸ gIu_24 hI (0) (((k : Nat) : Int)) (v := 0) (by omega)
        obtain ⟨v32, ev32⟩ : ∃ y9 : Int, y9 = ((k : Nat) : Int) + (1) := ⟨_, rfl⟩
        refine lv_iinc (v := iI v32) (lv' := [(3, .int (iI (v32))), (0, .ref (ad 0)), (1, .int (iI (a))), (2, .int (iI (w)))]) hx hb dX6_pipes_15 hl (k := 0) rfl (by rw [ev32]; exact iI_add _ _) (by decide) rfl (fun ls hl => ?_)
        refine lv_goto (tgt := 2) hx hb dX6_pipes_18 (by decide) ?_
        rw [show (v32 : Int) = (((k + 1) : Nat) : Int) from by omega] at hl
        exact ih2  (k + 1) st31 _ _ _ (by omega) (by omega) (by rw [hst31, hsta, setL_u, lfA_s]) hI hG (lv_sub hl [0, 1, 2, 3] rfl)
  exact hloop2 _  (0) st _ _ _ (Nat.lt_succ_self _) (by omega) (by rw [show lfA st 0 = st 24 0 from by funext i; unfold lfA; rw [if_neg (by omega)]]; exact setL_self st) hI hG (lv_sub hl [0, 1, 2, 3] rfl)
set_option maxHeartbeats 400000 in
set_option maxRecDepth 100000 in
theorem mX6_cycles (l : Launch) (D : va_G) (cy : Nat → ClassId) (ad : Nat → Nat) (n : Nat) (st : St) (sz fz : Nat) (wb : Int) (hn : 75 ≤ n) (hI : GI wb st) (hW : wb ≤ 2000000) (a : Int) (w : Int) (ha : -2147483648 ≤ a ∧ a < 2147483648) (hw : -2147483648 ≤ w ∧ w < 2147483648) (hch : ∀ q : Int, 0 ≤ q → q < st 14 0 0 → st 19 0 q = -1 ∨ (q < st 19 0 q ∧ st 19 0 q < st 14 0 0)) : Met l yX6_cycles wsX6_cycles ({ frames := 3, cells := 0, slots := 0, locals := 65 }) (va_Pc [.ref (ad 0), .int (iI (a)), .int (iI (w))] (gB D cy ad n st sz fz)) (va_Qi (fun (r : Int32) (st' : St) => r = iI (aCyc st a w) ∧ st' = sCyc st a w ∧ GI wb st') (gP D cy ad n) (gA n ad sz)) 0 0 (gA n ad sz) := by
  refine Met.ofW (cc := cX6_cycles) (maxL := 3) (ret := (some .int)) (by decide) rfl ?_
  intro p e s m args below meth c s₁ B hml hv
  obtain ⟨rfl, hsz, hP, hK, hD0, hN, hZ⟩ := hv
  have hx := B.exec
  have hb := B.bytes
  have hr := B.returns
  have hts := atoms_spec (ws := wsX6_cycles) B.pre
  have hown : s.vm.findClass RX6 = some m.cls := findClass_of_methodNamed B.named
  have hlocks := B.notSynchronized
  subst hsz
  have hA : ∀ q : Nat, s.heap.size ≤ q → gA n ad s.heap.size q := fun q h => Or.inr h
  have hG : GH D cy ad n st (gA n ad s.heap.size) s.heap s.heap [] := ⟨hP, gw_A hD0, va_S.rf⟩
  have hl := lv_entry ([.ref (ad 0), .int (iI (a)), .int (iI (w))]) (n := 3) (Nat.le_of_ble_eq_true rfl)
  rw [lg_entry_eq]
  generalize (lg_sl ([.ref (ad 0), .int (iI (a)), .int (iI (w))]) ++ List.replicate (3 - (lg_sl ([.ref (ad 0), .int (iI (a)), .int (iI (w))])).length) Slot.unset).toArray = ls at hl ⊢
  have hl : lv_has ls 3 [(0, .ref (ad 0)), (1, .int (iI (a))), (2, .int (iI (w)))] := hl
  have hin6 : ∀ w ∈ u_ws RX6 TX6 25, w ∈ wsX6_cycles := by decide +kernel
  have L_75 := hts (.fieldLink RX6 75 "CrossbarryModel" "thrown" "I") (by decide +kernel)
  have hmn := gI_14 hI 0 0
  have hks := kPipe_s st a w
  refine lv_aload_n hx hb dX6_cycles_0 rfl (lv_at hl 0 rfl) ?_
  refine lv_aload_n hx hb dX6_cycles_1 rfl (lv_at hl 0 rfl) ?_
  refine lv_iload_n hx hb dX6_cycles_2 rfl (lv_at hl 1 rfl) ?_
  refine lv_iload_n hx hb dX6_cycles_3 rfl (lv_at hl 2 rfl) ?_
  refine g_goi hG hA (va_runV (As := [.int (iI (a)), .int (iI (w))]) (rest := [.ref (ad 0)]) ⟨hx, hb, hml, hown, hts⟩ (mX6_pipesCode l D cy ad n st _ fz wb hn hI (by omega) (a) (w) (by omega) (by omega) (by omega)) (cwV 2 hts gX6_cycles_X6_pipesCode rfl rfl rfl (by decide +kernel) ⟨Nat.le_of_ble_eq_true rfl, Nat.le_of_ble_eq_true rfl⟩) ⟨g_blind, va_recv hK hG.1 (q0 := 0) (ci := 6) rfl ((gw_at (by omega)).trans (by rw [gC_0 st ad cy])), g_pre hK hG hA hN hZ⟩ rfl rfl hl.1 rfl (lv_room (Nat.le_of_ble_eq_true rfl)) dX6_cycles_4 ⟨Nat.zero_le _, Nat.zero_le _⟩) (fun r9 s9 H locs hp hG => ?_)
  obtain ⟨rfl, hs9⟩ := hp
  rw [hs9] at hG
  clear hs9
  refine r_nm (fun v1 ev1 => ?_)
  have hr2 := kPipe_s st (a) (w)
  rw [← ev1] at hr2
  refine g_put hx hb hts hin6 tyX6 tyX6_ok nmX6 hown hK hG (key := 0) (by omega) (gC_0 st ad cy) rfl 0 (by decide) L_75 (fun _ h9 => h9) rfl (ty := .int) (by decide +kernel) rfl rfl (Nat.le_of_ble_eq_true rfl) dX6_cycles_7 (ust st 0 0 0 (v1)) (fun j _ => gU_0 st ad cy (v1) j) (fun H locs hG => ?_)
  obtain ⟨st3, hst3⟩ : ∃ z : St, z = ust st 0 (0) (0) (v1) := ⟨_, rfl⟩
  rw [← hst3] at hG
  replace hI := hst3 ▸ gIu_0 hI (0) (0) (v := v1) (by omega)
  refine lv_aload_n hx hb dX6_cycles_10 rfl (lv_at hl 0 rfl) ?_
  refine g_get hx hb hts hin6 hown hK hG (key := 0) (by omega) (gC_0 st3 ad cy) rfl 0 (by decide) L_75 (fun _ h9 => h9) rfl dX6_cycles_11 ?_
  have hr4 := gI_0 hI (0) (0)
  have kq5 : st3 0 (0) (0) = v1 := by rw [hst3, ust_s]
  rw [kq5] at hr4
  refine r_as kq5 ?_
  clear kq5
  refine r_if_le (tgt := 21) hx hb (by omega) dX6_cycles_14 (by decide) (fun c6 => ?_) (fun c6 => ?_)
  · skip
    refine lv_aload_n hx hb dX6_cycles_21 rfl (lv_at hl 0 rfl) ?_
    refine lv_iload_n hx hb dX6_cycles_22 rfl (lv_at hl 1 rfl) ?_
    refine lv_iload_n hx hb dX6_cycles_23 rfl (lv_at hl 2 rfl) ?_
    refine g_goi hG hA (va_runV (As := [.int (iI (a)), .int (iI (w))]) (rest := []) ⟨hx, hb, hml, hown, hts⟩ (mX6_pipes l D cy ad n st3 _ fz wb hn hI (by omega) (a) (w) (by rw [hst3, ust_c (by decide)]; omega) (by omega) (fun q h1 h2 => by rw [hst3, ust_c (by decide), ust_c (by decide)]; exact hch q h1 (by rw [hst3, ust_c (by decide)] at h2; exact h2)) (by rw [hst3, chP_0]; omega)) (cwV 2 hts gX6_cycles_X6_pipes rfl rfl rfl (by decide +kernel) ⟨Nat.le_of_ble_eq_true rfl, Nat.le_of_ble_eq_true rfl⟩) ⟨g_blind, va_recv hK hG.1 (q0 := 0) (ci := 6) rfl ((gw_at (by omega)).trans (by rw [gC_0 st3 ad cy])), g_pre hK hG hA hN hZ⟩ rfl rfl hl.1 rfl (lv_room (Nat.le_of_ble_eq_true rfl)) dX6_cycles_24 ⟨Nat.zero_le _, Nat.zero_le _⟩) (fun r9 st7 H locs hp hG => ?_)
    obtain ⟨rfl, hs9, hI⟩ := hp
    refine r_nm (fun v8 ev8 => ?_)
    exact g_iret hx hb hr hlocks hG (by
      unfold aCyc sCyc
      first
        | (rw [if_neg (by omega), if_neg (by omega)]; exact ⟨rfl, by subst_vars; rfl, hI⟩)
        | (rw [if_pos (by omega), if_pos (by omega)]; refine ⟨by subst_vars; rfl, by subst_vars; rfl, hI⟩)) dX6_cycles_27
  · skip
    refine lv_iconst (v := iI (0)) hx hb dX6_cycles_17 rfl ?_
    refine lv_goto (tgt := 27) hx hb dX6_cycles_18 (by decide) ?_
    exact g_iret hx hb hr hlocks hG (by
      unfold aCyc sCyc
      first
        | (rw [if_neg (by omega), if_neg (by omega)]; exact ⟨rfl, by subst_vars; rfl, hI⟩)
        | (rw [if_pos (by omega), if_pos (by omega)]; refine ⟨by subst_vars; rfl, by subst_vars; rfl, hI⟩)) dX6_cycles_27
set_option maxHeartbeats 400000 in
set_option maxRecDepth 100000 in
theorem mX6_cyclesAnew (l : Launch) (D : va_G) (cy : Nat → ClassId) (ad : Nat → Nat) (n : Nat) (st : St) (sz fz : Nat) (wb : Int) (hn : 75 ≤ n) (hI : GI wb st) (hW : wb ≤ 2000000) (a : Int) (w : Int) (ha : -2147483648 ≤ a ∧ a < 2147483648) (hw : -2147483648 ≤ w ∧ w < 2147483648) (hch : ∀ q : Int, 0 ≤ q → q < st 14 0 0 → st 19 0 q = -1 ∨ (q < st 19 0 q ∧ st 19 0 q < st 14 0 0)) : Met l yX6_cyclesAnew wsX6_cyclesAnew ({ frames := 3, cells := 0, slots := 0, locals := 65 }) (va_Pc [.ref (ad 0), .int (iI (a)), .int (iI (w))] (gB D cy ad n st sz fz)) (va_Qi (fun (r : Int32) (st' : St) => r = iI (aCyc st a w) ∧ st' = sCyc st a w ∧ GI wb st') (gP D cy ad n) (gA n ad sz)) 0 0 (gA n ad sz) := by
  refine Met.ofW (cc := cX6_cyclesAnew) (maxL := 3) (ret := (some .int)) (by decide) rfl ?_
  intro p e s m args below meth c s₁ B hml hv
  obtain ⟨rfl, hsz, hP, hK, hD0, hN, hZ⟩ := hv
  have hx := B.exec
  have hb := B.bytes
  have hr := B.returns
  have hts := atoms_spec (ws := wsX6_cyclesAnew) B.pre
  have hown : s.vm.findClass RX6 = some m.cls := findClass_of_methodNamed B.named
  have hlocks := B.notSynchronized
  subst hsz
  have hA : ∀ q : Nat, s.heap.size ≤ q → gA n ad s.heap.size q := fun q h => Or.inr h
  have hG : GH D cy ad n st (gA n ad s.heap.size) s.heap s.heap [] := ⟨hP, gw_A hD0, va_S.rf⟩
  have hl := lv_entry ([.ref (ad 0), .int (iI (a)), .int (iI (w))]) (n := 3) (Nat.le_of_ble_eq_true rfl)
  rw [lg_entry_eq]
  generalize (lg_sl ([.ref (ad 0), .int (iI (a)), .int (iI (w))]) ++ List.replicate (3 - (lg_sl ([.ref (ad 0), .int (iI (a)), .int (iI (w))])).length) Slot.unset).toArray = ls at hl ⊢
  have hl : lv_has ls 3 [(0, .ref (ad 0)), (1, .int (iI (a))), (2, .int (iI (w)))] := hl
  have hin6 : ∀ w ∈ u_ws RX6 TX6 25, w ∈ wsX6_cyclesAnew := by decide +kernel
  have L_75 := hts (.fieldLink RX6 75 "CrossbarryModel" "thrown" "I") (by decide +kernel)
  have hmn := gI_14 hI 0 0
  have hks := kPipe_s st a w
  refine lv_aload_n hx hb dX6_cyclesAnew_0 rfl (lv_at hl 0 rfl) ?_
  refine lv_aload_n hx hb dX6_cyclesAnew_1 rfl (lv_at hl 0 rfl) ?_
  refine lv_iload_n hx hb dX6_cyclesAnew_2 rfl (lv_at hl 1 rfl) ?_
  refine lv_iload_n hx hb dX6_cyclesAnew_3 rfl (lv_at hl 2 rfl) ?_
  refine g_goi hG hA (va_runV (As := [.int (iI (a)), .int (iI (w))]) (rest := [.ref (ad 0)]) ⟨hx, hb, hml, hown, hts⟩ (mX6_pipesCode l D cy ad n st _ fz wb hn hI (by omega) (a) (w) (by omega) (by omega) (by omega)) (cwV 2 hts gX6_cyclesAnew_X6_pipesCode rfl rfl rfl (by decide +kernel) ⟨Nat.le_of_ble_eq_true rfl, Nat.le_of_ble_eq_true rfl⟩) ⟨g_blind, va_recv hK hG.1 (q0 := 0) (ci := 6) rfl ((gw_at (by omega)).trans (by rw [gC_0 st ad cy])), g_pre hK hG hA hN hZ⟩ rfl rfl hl.1 rfl (lv_room (Nat.le_of_ble_eq_true rfl)) dX6_cyclesAnew_4 ⟨Nat.zero_le _, Nat.zero_le _⟩) (fun r9 s9 H locs hp hG => ?_)
  obtain ⟨rfl, hs9⟩ := hp
  rw [hs9] at hG
  clear hs9
  refine r_nm (fun v1 ev1 => ?_)
  have hr2 := kPipe_s st (a) (w)
  rw [← ev1] at hr2
  refine g_put hx hb hts hin6 tyX6 tyX6_ok nmX6 hown hK hG (key := 0) (by omega) (gC_0 st ad cy) rfl 0 (by decide) L_75 (fun _ h9 => h9) rfl (ty := .int) (by decide +kernel) rfl rfl (Nat.le_of_ble_eq_true rfl) dX6_cyclesAnew_7 (ust st 0 0 0 (v1)) (fun j _ => gU_0 st ad cy (v1) j) (fun H locs hG => ?_)
  obtain ⟨st3, hst3⟩ : ∃ z : St, z = ust st 0 (0) (0) (v1) := ⟨_, rfl⟩
  rw [← hst3] at hG
  replace hI := hst3 ▸ gIu_0 hI (0) (0) (v := v1) (by omega)
  refine lv_aload_n hx hb dX6_cyclesAnew_10 rfl (lv_at hl 0 rfl) ?_
  refine g_get hx hb hts hin6 hown hK hG (key := 0) (by omega) (gC_0 st3 ad cy) rfl 0 (by decide) L_75 (fun _ h9 => h9) rfl dX6_cyclesAnew_11 ?_
  have hr4 := gI_0 hI (0) (0)
  have kq5 : st3 0 (0) (0) = v1 := by rw [hst3, ust_s]
  rw [kq5] at hr4
  refine r_as kq5 ?_
  clear kq5
  refine r_if_le (tgt := 21) hx hb (by omega) dX6_cyclesAnew_14 (by decide) (fun c6 => ?_) (fun c6 => ?_)
  · skip
    refine lv_aload_n hx hb dX6_cyclesAnew_21 rfl (lv_at hl 0 rfl) ?_
    refine lv_iload_n hx hb dX6_cyclesAnew_22 rfl (lv_at hl 1 rfl) ?_
    refine lv_iload_n hx hb dX6_cyclesAnew_23 rfl (lv_at hl 2 rfl) ?_
    refine g_goi hG hA (va_runV (As := [.int (iI (a)), .int (iI (w))]) (rest := []) ⟨hx, hb, hml, hown, hts⟩ (mX6_pipes l D cy ad n st3 _ fz wb hn hI (by omega) (a) (w) (by rw [hst3, ust_c (by decide)]; omega) (by omega) (fun q h1 h2 => by rw [hst3, ust_c (by decide), ust_c (by decide)]; exact hch q h1 (by rw [hst3, ust_c (by decide)] at h2; exact h2)) (by rw [hst3, chP_0]; omega)) (cwV 2 hts gX6_cyclesAnew_X6_pipes rfl rfl rfl (by decide +kernel) ⟨Nat.le_of_ble_eq_true rfl, Nat.le_of_ble_eq_true rfl⟩) ⟨g_blind, va_recv hK hG.1 (q0 := 0) (ci := 6) rfl ((gw_at (by omega)).trans (by rw [gC_0 st3 ad cy])), g_pre hK hG hA hN hZ⟩ rfl rfl hl.1 rfl (lv_room (Nat.le_of_ble_eq_true rfl)) dX6_cyclesAnew_24 ⟨Nat.zero_le _, Nat.zero_le _⟩) (fun r9 st7 H locs hp hG => ?_)
    obtain ⟨rfl, hs9, hI⟩ := hp
    refine r_nm (fun v8 ev8 => ?_)
    exact g_iret hx hb hr hlocks hG (by
      unfold aCyc sCyc
      first
        | (rw [if_neg (by omega), if_neg (by omega)]; exact ⟨rfl, by subst_vars; rfl, hI⟩)
        | (rw [if_pos (by omega), if_pos (by omega)]; refine ⟨by subst_vars; rfl, by subst_vars; rfl, hI⟩)) dX6_cyclesAnew_27
  · skip
    refine lv_iconst (v := iI (0)) hx hb dX6_cyclesAnew_17 rfl ?_
    refine lv_goto (tgt := 27) hx hb dX6_cyclesAnew_18 (by decide) ?_
    exact g_iret hx hb hr hlocks hG (by
      unfold aCyc sCyc
      first
        | (rw [if_neg (by omega), if_neg (by omega)]; exact ⟨rfl, by subst_vars; rfl, hI⟩)
        | (rw [if_pos (by omega), if_pos (by omega)]; refine ⟨by subst_vars; rfl, by subst_vars; rfl, hI⟩)) dX6_cyclesAnew_27
