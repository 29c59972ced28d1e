set_option maxHeartbeats 400000 in
set_option maxRecDepth 100000 in
theorem mX5_wear (l : Launch) (D : va_G) (cy : Nat → ClassId) (ad : Nat → Nat) (n : Nat) (st : St) (sz fz : Nat) (wb : Int) (hn : 75 ≤ n) (hI : GI wb st) (hW : wb ≤ 2000000) (t0 : Int) (ht0 : -2147483648 ≤ t0 ∧ t0 < 2147483648) (hlf : l.stackTraces = false) (hnl : (n : Int) = 75 + 3 * st 33 0 0) (hR : RY st) : vx_Met l yX5_wear wsX5_wear ({ frames := 7, cells := 1, slots := 6, locals := 111 }) (va_Pc [.ref (ad 21), .int (iI (t0))] (gB D cy ad n st sz fz)) (va_Ql (fun (r : Int64) (st' : St) => kRange 0 5 t0 = 0 ∧ (r = lI (weU st t0 128) ∧ st' = st) ∧ GI wb st') (gP D cy ad n) (gA n ad sz)) (gX D cy ad n (fun (E : String) (st' : St) => xE [xI] E (kRange 0 5 t0) ∧ st' = st) (gA n ad sz)) 1 6 (gA n ad sz) := by
  refine vx_ofW (cc := cX5_wear) (maxL := 6) (ret := (some .long)) (by decide) rfl ?_
  intro p e s m args below meth c s₁ B hml hnt hv
  obtain ⟨rfl, hsz, hP, hK, hD0, hN, hZ⟩ := hv
  have hx := B.exec
  have hb := B.bytes
  have hr := B.returns
  have hts := atoms_spec (ws := wsX5_wear) B.pre
  have hown : s.vm.findClass RX5 = some m.cls := findClass_of_methodNamed B.named
  have hlocks := B.notSynchronized
  subst hsz
  have hA : ∀ q : Nat, s.heap.size ≤ q → gA n ad s.heap.size q := fun q h => Or.inr h
  have hG : GH D cy ad n st (gA n ad s.heap.size) s.heap s.heap [] := ⟨hP, gw_A hD0, va_S.rf⟩
  have hl := lv_entry ([.ref (ad 21), .int (iI (t0))]) (n := 6) (Nat.le_of_ble_eq_true rfl)
  rw [lg_entry_eq]
  generalize (lg_sl ([.ref (ad 21), .int (iI (t0))]) ++ List.replicate (6 - (lg_sl ([.ref (ad 21), .int (iI (t0))])).length) Slot.unset).toArray = ls at hl ⊢
  have hl : lv_has ls 6 [(0, .ref (ad 21)), (1, .int (iI (t0)))] := hl
  have hin5 : ∀ w ∈ u_ws RX5 TX5 6, w ∈ wsX5_wear := by decide +kernel
  have hin4 : ∀ w ∈ u_ws RX4 TX4 12, w ∈ wsX5_wear := by decide +kernel
  have L_190 := hts (.fieldLink RX5 190 "Crossbarry$Tile" "wears" "[I") (by decide +kernel)
  obtain ⟨⟨hR1, hR2, hR3, hR4⟩, hRl, hRw, hRr, hRc, hRt, hRo, hRk, hsc, hsi, hch, hun, hfr⟩ := id hR
  have h33 := gI_33 hI 0 0
  refine lv_aload_n hx hb dX5_wear_0 rfl (lv_at hl 0 rfl) ?_
  refine lv_iload_n hx hb dX5_wear_1 rfl (lv_at hl 1 rfl) ?_
  refine gx_gor hG hA (vx_runV (As := [.int (iI (t0))]) (rest := []) ⟨hx, hb, hml, hown, hts⟩ (mX5_tileAt l D cy ad n st _ fz wb hn hI (by omega) (t0) hlf (by omega)) (cwV 1 hts gX5_wear_X5_tileAt rfl rfl rfl (by decide +kernel) ⟨Nat.le_of_ble_eq_true rfl, Nat.le_of_ble_eq_true rfl⟩) ⟨g_blind, va_recv hK hG.1 (q0 := 21 - 19) (ci := 5) rfl ((gw_at (k := 21) (by omega)).trans (by rw [gC_21 st ad cy])), g_pre hK hG hA hN hZ⟩ rfl rfl hl.1 rfl (lv_room (Nat.le_of_ble_eq_true rfl)) dX5_wear_2 ⟨Nat.le_of_ble_eq_true rfl, Nat.le_of_ble_eq_true rfl⟩) (fun E9 st9 H locs ce9 q9 hp hG hce hcv hcl => ?_) (fun s9 H locs hp hG => ?_)
  · skip
    obtain ⟨⟨rfl, hcx⟩, hs9⟩ := hp
    rw [hs9] at hG
    clear hs9
    exact g_out hnt hlocks hG hce hcv hcl (by
      refine ⟨?_, rfl⟩
      have hks := kRange_s 0 5 t0
      first
        | exact ⟨0, rfl, by omega⟩
        | exact ⟨1, rfl, by omega⟩
        | exact ⟨2, rfl, by omega⟩) (Nat.le_of_ble_eq_true rfl) (Nat.le_of_ble_eq_true rfl)
  obtain ⟨hcr, hs9⟩ := hp
  rw [hs9] at hG
  clear hs9
  obtain ⟨t, ht⟩ : ∃ z9 : Nat, z9 = ((t0)).toNat := ⟨_, rfl⟩
  rw [← ht]
  have hut : ((t : Nat) : Int) = (t0) := by omega
  have hbt : t < 6 := by omega
  refine lv_astore_n (lv' := [(2, .ref (ad (33 + 7 * t))), (0, .ref (ad 21)), (1, .int (iI (t0)))]) hx hb dX5_wear_5 rfl hl (by decide) rfl (fun ls hl => ?_)
  refine lv_lconst (v := 0) hx hb dX5_wear_6 rfl ?_
  refine lv_lstore_n (lv' := [(3, .long (0)), (2, .ref (ad (33 + 7 * t))), (0, .ref (ad 21)), (1, .int (iI (t0)))]) hx hb dX5_wear_7 rfl hl (by decide) rfl (fun ls hl => ?_)
  refine lv_iconst (v := iI (0)) hx hb dX5_wear_8 rfl ?_
  refine lv_istore (lv' := [(5, .int (iI (0))), (3, .long (0)), (2, .ref (ad (33 + 7 * t))), (0, .ref (ad 21)), (1, .int (iI (t0)))]) hx hb dX5_wear_9 hl (by decide) rfl (fun ls hl => ?_)
  have hloop11 : ∀ (N : Nat)  (k : Nat) (H : Heap) (locs : List Loc) (ls : Array Slot), 129 - k < N → (k ≤ 128) →  GH D cy ad n st (gA n ad s.heap.size) s.heap H locs → lv_has ls 6 [(3, .long (lI (weU st t0 k))), (5, .int (iI (((k : Nat) : Int)))), (2, .ref (ad (33 + 7 * t))), (0, .ref (ad 21)), (1, .int (iI (t0)))] → W p l e (headSpec wsX5_wear { frames := 7, cells := 1, slots := 6, locals := 111 }).room s m (#[.ref (ad 21), .int (iI (t0))] : Array Value) below meth c H locs 1 6 (vx_MQ below (va_Ql (fun (r : Int64) (st' : St) => kRange 0 5 t0 = 0 ∧ (r = lI (weU st t0 128) ∧ st' = st) ∧ GI wb st') (gP D cy ad n) (gA n ad s.heap.size)) (gX D cy ad n (fun (E : String) (st' : St) => xE [xI] E (kRange 0 5 t0) ∧ st' = st) (gA n ad s.heap.size)) (#[.ref (ad 21), .int (iI (t0))] : Array Value) s 1 6 (gA n ad s.heap.size)) (F0 m 11 ls []) := by
    intro N
    induction N with
    | zero => intro  k H locs ls hm; exact absurd hm (Nat.not_lt_zero _)
    | succ N ih11 =>
      intro  k H locs ls hm hk hG hl
      refine lv_iload hx hb dX5_wear_11 (lv_at hl 1 rfl) ?_
      refine lv_sipush (v := iI (128)) hx hb dX5_wear_13 (by decide +kernel) ?_
      refine r_icmp_ge (tgt := 36) hx hb (by omega) dX5_wear_16 (by decide) (fun c1 => ?_) (fun c1 => ?_)
      · skip
        refine lv_lload_n hx hb dX5_wear_36 rfl (lv_at hl 0 rfl) ?_
        refine W.widen (k := 1) (n := 6) (by omega) (by omega) ?_
        refine vx_ret ?_
        exact g_lret hx hb hr hlocks hG (by
          have hks := kRange_s 0 5 t0
          refine ⟨by omega, ?_, hI⟩
          refine ⟨?_, rfl⟩
          rw [show k = 128 by omega]) dX5_wear_37
      · skip
        refine lv_lload_n hx hb dX5_wear_19 rfl (lv_at hl 0 rfl) ?_
        refine lv_aload_n hx hb dX5_wear_20 rfl (lv_at hl 2 rfl) ?_
        refine g_get hx hb hts hin4 hown hK hG (key := 33 + 7 * t) (by omega) (gC_t st ad cy hbt) rfl 2 (by decide) L_190 (fun _ h9 => h9) rfl dX5_wear_21 ?_
        refine lv_iload hx hb dX5_wear_24 (lv_at hl 1 rfl) ?_
        refine g_iald hx hb hK hG (35 + 7 * t) (kd := 35) (o := t) (gk_t (o := t) (j := 2) hbt (by decide)) rfl (by omega) (cp := 41) (ln := 128) rfl rfl (by omega) dX5_wear_26 ?_
        have hr2 := gI_41 hI (t) (((k : Nat) : Int))
        refine r_nm (fun v3 ev3 => ?_)
        rw [← ev3] at hr2
        have htc := hRc t (k : Int) hbt (by omega)
        rw [hut] at htc
        have hwk : v3 = st 5 0 (128 * t0 + (k : Int)) := by rw [ev3]; exact htc.2.1
        refine lv_i2l (v := lI (v3)) hx hb dX5_wear_27 (lI_i2l (by omega) (by omega)) ?_
        refine lv_ladd hx hb dX5_wear_28 ?_
        refine r_asL (y := lI (weU st t0 (k + 1))) (by rw [weU_s, lI_add, hwk]) ?_
        refine lv_lstore_n (lv' := [(3, .long (lI (weU st t0 (k + 1)))), (5, .int (iI (((k : Nat) : Int)))), (2, .ref (ad (33 + 7 * t))), (0, .ref (ad 21)), (1, .int (iI (t0)))]) hx hb dX5_wear_29 rfl hl (by decide) rfl (fun ls hl => ?_)
        obtain ⟨v4, ev4⟩ : ∃ y9 : Int, y9 = ((k : Nat) : Int) + (1) := ⟨_, rfl⟩
        refine lv_iinc (v := iI v4) (lv' := [(5, .int (iI (v4))), (3, .long (lI (weU st t0 (k + 1)))), (2, .ref (ad (33 + 7 * t))), (0, .ref (ad 21)), (1, .int (iI (t0)))]) hx hb dX5_wear_30 hl (k := 1) rfl (by rw [ev4]; exact iI_add _ _) (by decide) rfl (fun ls hl => ?_)
        refine lv_goto (tgt := 11) hx hb dX5_wear_33 (by decide) ?_
        rw [show (v4 : Int) = (((k + 1) : Nat) : Int) from by omega] at hl
        exact ih11  (k + 1) _ _ _ (by omega) (by omega) hG (lv_sub hl [1, 0, 2, 3, 4] rfl)
  exact hloop11 _  (0) _ _ _ (Nat.lt_succ_self _) (by omega) hG (lv_sub hl [1, 0, 2, 3, 4] rfl)
set_option maxHeartbeats 400000 in
set_option maxRecDepth 100000 in
theorem mX5_share (l : Launch) (D : va_G) (cy : Nat → ClassId) (ad : Nat → Nat) (n : Nat) (st : St) (sz fz : Nat) (wb : Int) (hn : 75 ≤ n) (hI : GI wb st) (hW : wb ≤ 2000000) (t0 : Int) (ht0 : -2147483648 ≤ t0 ∧ t0 < 2147483648) (hlf : l.stackTraces = false) (hnl : (n : Int) = 75 + 3 * st 33 0 0) (hR : RY st) : vx_Met l yX5_share wsX5_share ({ frames := 7, cells := 1, slots := 6, locals := 111 }) (va_Pc [.ref (ad 21), .int (iI (t0))] (gB D cy ad n st sz fz)) (va_Qf (fun (r : UInt32) (st' : St) => kRange 0 5 t0 = 0 ∧ (r = fShare (shU st t0 128) ∧ st' = st) ∧ GI wb st') (gP D cy ad n) (gA n ad sz)) (gX D cy ad n (fun (E : String) (st' : St) => xE [xI] E (kRange 0 5 t0) ∧ st' = st) (gA n ad sz)) 1 6 (gA n ad sz) := by
  refine vx_ofW (cc := cX5_share) (maxL := 5) (ret := (some .float)) (by decide) rfl ?_
  intro p e s m args below meth c s₁ B hml hnt hv
  obtain ⟨rfl, hsz, hP, hK, hD0, hN, hZ⟩ := hv
  have hx := B.exec
  have hb := B.bytes
  have hr := B.returns
  have hts := atoms_spec (ws := wsX5_share) B.pre
  have hown : s.vm.findClass RX5 = some m.cls := findClass_of_methodNamed B.named
  have hlocks := B.notSynchronized
  subst hsz
  have hA : ∀ q : Nat, s.heap.size ≤ q → gA n ad s.heap.size q := fun q h => Or.inr h
  have hG : GH D cy ad n st (gA n ad s.heap.size) s.heap s.heap [] := ⟨hP, gw_A hD0, va_S.rf⟩
  have hl := lv_entry ([.ref (ad 21), .int (iI (t0))]) (n := 5) (Nat.le_of_ble_eq_true rfl)
  rw [lg_entry_eq]
  generalize (lg_sl ([.ref (ad 21), .int (iI (t0))]) ++ List.replicate (5 - (lg_sl ([.ref (ad 21), .int (iI (t0))])).length) Slot.unset).toArray = ls at hl ⊢
  have hl : lv_has ls 5 [(0, .ref (ad 21)), (1, .int (iI (t0)))] := hl
  have hin5 : ∀ w ∈ u_ws RX5 TX5 6, w ∈ wsX5_share := by decide +kernel
  have hin4 : ∀ w ∈ u_ws RX4 TX4 12, w ∈ wsX5_share := by decide +kernel
  have L_193 := hts (.fieldLink RX5 193 "Crossbarry$Tile" "isStuck" "[Z") (by decide +kernel)
  have L_240 := hts (.constantFloat RX5 240 (1124073472)) (by decide +kernel)
  obtain ⟨⟨hR1, hR2, hR3, hR4⟩, hRl, hRw, hRr, hRc, hRt, hRo, hRk, hsc, hsi, hch, hun, hfr⟩ := id hR
  have h33 := gI_33 hI 0 0
  have hb7 := gI_7 hI 0
  refine lv_aload_n hx hb dX5_share_0 rfl (lv_at hl 0 rfl) ?_
  refine lv_iload_n hx hb dX5_share_1 rfl (lv_at hl 1 rfl) ?_
  refine gx_gor hG hA (vx_runV (As := [.int (iI (t0))]) (rest := []) ⟨hx, hb, hml, hown, hts⟩ (mX5_tileAt l D cy ad n st _ fz wb hn hI (by omega) (t0) hlf (by omega)) (cwV 1 hts gX5_share_X5_tileAt rfl rfl rfl (by decide +kernel) ⟨Nat.le_of_ble_eq_true rfl, Nat.le_of_ble_eq_true rfl⟩) ⟨g_blind, va_recv hK hG.1 (q0 := 21 - 19) (ci := 5) rfl ((gw_at (k := 21) (by omega)).trans (by rw [gC_21 st ad cy])), g_pre hK hG hA hN hZ⟩ rfl rfl hl.1 rfl (lv_room (Nat.le_of_ble_eq_true rfl)) dX5_share_2 ⟨Nat.le_of_ble_eq_true rfl, Nat.le_of_ble_eq_true rfl⟩) (fun E9 st9 H locs ce9 q9 hp hG hce hcv hcl => ?_) (fun s9 H locs hp hG => ?_)
  · skip
    obtain ⟨⟨rfl, hcx⟩, hs9⟩ := hp
    rw [hs9] at hG
    clear hs9
    exact g_out hnt hlocks hG hce hcv hcl (by
      refine ⟨?_, rfl⟩
      have hks := kRange_s 0 5 t0
      first
        | exact ⟨0, rfl, by omega⟩
        | exact ⟨1, rfl, by omega⟩
        | exact ⟨2, rfl, by omega⟩) (Nat.le_of_ble_eq_true rfl) (Nat.le_of_ble_eq_true rfl)
  obtain ⟨hcr, hs9⟩ := hp
  rw [hs9] at hG
  clear hs9
  obtain ⟨t, ht⟩ : ∃ z9 : Nat, z9 = ((t0)).toNat := ⟨_, rfl⟩
  rw [← ht]
  have hut : ((t : Nat) : Int) = (t0) := by omega
  have hbt : t < 6 := by omega
  refine lv_astore_n (lv' := [(2, .ref (ad (33 + 7 * t))), (0, .ref (ad 21)), (1, .int (iI (t0)))]) hx hb dX5_share_5 rfl hl (by decide) rfl (fun ls hl => ?_)
  refine lv_iconst (v := iI (0)) hx hb dX5_share_6 rfl ?_
  refine lv_istore_n (lv' := [(3, .int (iI (0))), (2, .ref (ad (33 + 7 * t))), (0, .ref (ad 21)), (1, .int (iI (t0)))]) hx hb dX5_share_7 rfl hl (by decide) rfl (fun ls hl => ?_)
  refine lv_iconst (v := iI (0)) hx hb dX5_share_8 rfl ?_
  refine lv_istore (lv' := [(4, .int (iI (0))), (3, .int (iI (0))), (2, .ref (ad (33 + 7 * t))), (0, .ref (ad 21)), (1, .int (iI (t0)))]) hx hb dX5_share_9 hl (by decide) rfl (fun ls hl => ?_)
  have hloop11 : ∀ (N : Nat)  (k : Nat) (H : Heap) (locs : List Loc) (ls : Array Slot), 129 - k < N → (k ≤ 128) →  GH D cy ad n st (gA n ad s.heap.size) s.heap H locs → lv_has ls 5 [(3, .int (iI (shU st t0 k))), (4, .int (iI (((k : Nat) : Int)))), (2, .ref (ad (33 + 7 * t))), (0, .ref (ad 21)), (1, .int (iI (t0)))] → W p l e (headSpec wsX5_share { frames := 7, cells := 1, slots := 6, locals := 111 }).room s m (#[.ref (ad 21), .int (iI (t0))] : Array Value) below meth c H locs 1 6 (vx_MQ below (va_Qf (fun (r : UInt32) (st' : St) => kRange 0 5 t0 = 0 ∧ (r = fShare (shU st t0 128) ∧ st' = st) ∧ GI wb st') (gP D cy ad n) (gA n ad s.heap.size)) (gX D cy ad n (fun (E : String) (st' : St) => xE [xI] E (kRange 0 5 t0) ∧ st' = st) (gA n ad s.heap.size)) (#[.ref (ad 21), .int (iI (t0))] : Array Value) s 1 6 (gA n ad s.heap.size)) (F0 m 11 ls []) := by
    intro N
    induction N with
    | zero => intro  k H locs ls hm; exact absurd hm (Nat.not_lt_zero _)
    | succ N ih11 =>
      intro  k H locs ls hm hk hG hl
      have hshr : 0 ≤ shU st t0 k ∧ shU st t0 k ≤ 1 * (k : Int) := sumN_r (fun _ => hb7 _) k
      refine lv_iload hx hb dX5_share_11 (lv_at hl 1 rfl) ?_
      refine lv_sipush (v := iI (128)) hx hb dX5_share_13 (by decide +kernel) ?_
      refine r_icmp_ge (tgt := 43) hx hb (by omega) dX5_share_16 (by decide) (fun c1 => ?_) (fun c1 => ?_)
      · skip
        refine lv_iload_n hx hb dX5_share_43 rfl (lv_at hl 0 rfl) ?_
        refine lv_i2f hx hb dX5_share_44 ?_
        refine lv_ldcf hx hb hown L_240 dX5_share_45 ?_
        refine lv_fdiv hx hb dX5_share_47 (by exact fShare_n2 (by omega)) ?_
        refine W.widen (k := 1) (n := 6) (by omega) (by omega) ?_
        refine vx_ret ?_
        exact g_fret hx hb hr hlocks hG (by
          have hks := kRange_s 0 5 t0
          refine ⟨by omega, ?_, hI⟩
          refine ⟨?_, rfl⟩
          rw [show k = 128 by omega]
          rfl) dX5_share_48
      · skip
        refine lv_iload_n hx hb dX5_share_19 rfl (lv_at hl 0 rfl) ?_
        refine lv_aload_n hx hb dX5_share_20 rfl (lv_at hl 2 rfl) ?_
        refine g_get hx hb hts hin4 hown hK hG (key := 33 + 7 * t) (by omega) (gC_t st ad cy hbt) rfl 4 (by decide) L_193 (fun _ h9 => h9) rfl dX5_share_21 ?_
        refine lv_iload hx hb dX5_share_24 (lv_at hl 1 rfl) ?_
        refine g_zald hx hb hK hG (37 + 7 * t) (kd := 37) (o := t) (gk_t (o := t) (j := 4) hbt (by decide)) rfl (by omega) (cp := 43) (ln := 128) rfl rfl (by omega) dX5_share_26 ?_
        have hr2 := gI_43 hI (t) (((k : Nat) : Int))
        refine r_nm (fun v3 ev3 => ?_)
        rw [← ev3] at hr2
        have htc := hRc t (k : Int) hbt (by omega)
        rw [hut] at htc
        have hsk : v3 = st 7 0 (128 * t0 + (k : Int)) := by rw [ev3]; exact htc.2.2.2.1
        have h7k := hb7 (128 * t0 + (k : Int))
        have hlab35 : ∀ (sv : Int) (H : Heap) (locs : List Loc) (ls : Array Slot), (sv = st 7 0 (128 * t0 + (k : Int))) →  GH D cy ad n st (gA n ad s.heap.size) s.heap H locs → lv_has ls 5 [(3, .int (iI (shU st t0 k))), (4, .int (iI (((k : Nat) : Int)))), (2, .ref (ad (33 + 7 * t))), (0, .ref (ad 21)), (1, .int (iI (t0)))] → W p l e (headSpec wsX5_share { frames := 7, cells := 1, slots := 6, locals := 111 }).room s m (#[.ref (ad 21), .int (iI (t0))] : Array Value) below meth c H locs 1 6 (vx_MQ below (va_Qf (fun (r : UInt32) (st' : St) => kRange 0 5 t0 = 0 ∧ (r = fShare (shU st t0 128) ∧ st' = st) ∧ GI wb st') (gP D cy ad n) (gA n ad s.heap.size)) (gX D cy ad n (fun (E : String) (st' : St) => xE [xI] E (kRange 0 5 t0) ∧ st' = st) (gA n ad s.heap.size)) (#[.ref (ad 21), .int (iI (t0))] : Array Value) s 1 6 (gA n ad s.heap.size)) (F0 m 35 ls [.int (iI (sv)), .int (iI (shU st t0 k))]) := by
          intro sv H locs ls hsv hG hl
          refine r_iadd hx hb dX5_share_35 ?_
          refine r_nm (fun v4 ev4 => ?_)
          refine lv_istore_n (lv' := [(3, .int (iI (v4))), (4, .int (iI (((k : Nat) : Int)))), (2, .ref (ad (33 + 7 * t))), (0, .ref (ad 21)), (1, .int (iI (t0)))]) hx hb dX5_share_36 rfl hl (by decide) rfl (fun ls hl => ?_)
          obtain ⟨v5, ev5⟩ : ∃ y9 : Int, y9 = ((k : Nat) : Int) + (1) := ⟨_, rfl⟩
          refine lv_iinc (v := iI v5) (lv' := [(4, .int (iI (v5))), (3, .int (iI (v4))), (2, .ref (ad (33 + 7 * t))), (0, .ref (ad 21)), (1, .int (iI (t0)))]) hx hb dX5_share_37 hl (k := 1) rfl (by rw [ev5]; exact iI_add _ _) (by decide) rfl (fun ls hl => ?_)
          refine lv_goto (tgt := 11) hx hb dX5_share_40 (by decide) ?_
          rw [show (v4 : Int) = shU st t0 (k + 1) from by (rw [shU_s]; subst_vars; omega)] at hl
          rw [show (v5 : Int) = (((k + 1) : Nat) : Int) from by omega] at hl
          exact ih11  (k + 1) _ _ _ (by omega) (by omega) hG (lv_sub hl [1, 0, 2, 3, 4] rfl)
        refine r_if_eq (tgt := 34) hx hb (by omega) dX5_share_27 (by decide) (fun c6 => ?_) (fun c6 => ?_)
        · skip
          refine lv_iconst (v := iI (0)) hx hb dX5_share_34 rfl ?_
          exact hlab35 (0)  _ _ _ (by omega) hG (lv_sub hl [0, 1, 2, 3, 4] rfl)
        · skip
          refine lv_iconst (v := iI (1)) hx hb dX5_share_30 rfl ?_
          refine lv_goto (tgt := 35) hx hb dX5_share_31 (by decide) ?_
          exact hlab35 (1)  _ _ _ (by omega) hG (lv_sub hl [0, 1, 2, 3, 4] rfl)
  exact hloop11 _  (0) _ _ _ (Nat.lt_succ_self _) (by omega) hG (lv_sub hl [1, 0, 2, 3, 4] rfl)
set_option maxHeartbeats 400000 in
set_option maxRecDepth 100000 in
theorem mX5_spoil (l : Launch) (D : va_G) (cy : Nat → ClassId) (ad : Nat → Nat) (n : Nat) (st : St) (sz fz : Nat) (wb : Int) (hn : 75 ≤ n) (hI : GI wb st) (hW : wb ≤ 2000000) (t0 : Int) (x : Int) (y : Int) (ht0 : -2147483648 ≤ t0 ∧ t0 < 2147483648) (hx : -2147483648 ≤ x ∧ x < 2147483648) (hy : -2147483648 ≤ y ∧ y < 2147483648) (hlf : l.stackTraces = false) (hnl : (n : Int) = 75 + 3 * st 33 0 0) (hR : RY st) : vx_Met l yX5_spoil wsX5_spoil ({ frames := 7, cells := 3, slots := 18, locals := 112 }) (va_Pc [.ref (ad 21), .int (iI (t0)), .int (iI (x)), .int (iI (y))] (gB D cy ad n st sz fz)) (va_Qi (fun (r : Int32) (st' : St) => kSpoil t0 x y = 0 ∧ (r = iI (cspI (t0).toNat (st, 0, x) (y).toNat).2.1 ∧ st' = (cspI (t0).toNat (st, 0, x) (y).toNat).1) ∧ GI wb st') (gP D cy ad n) (gA n ad sz)) (gX D cy ad n (fun (E : String) (st' : St) => xE [xI, xA] E (kSpoil t0 x y) ∧ st' = st) (gA n ad sz)) 3 18 (gA n ad sz) := by
  refine vx_ofW (cc := cX5_spoil) (maxL := 9) (ret := (some .int)) (by decide) rfl ?_
  intro p e s m args below meth c s₁ B hml hnt hv
  obtain ⟨rfl, hsz, hP, hK, hD0, hN, hZ⟩ := hv
  have hx := B.exec
  have hb := B.bytes
  have hr := B.returns
  have hts := atoms_spec (ws := wsX5_spoil) B.pre
  have hown : s.vm.findClass RX5 = some m.cls := findClass_of_methodNamed B.named
  have hlocks := B.notSynchronized
  subst hsz
  have hA : ∀ q : Nat, s.heap.size ≤ q → gA n ad s.heap.size q := fun q h => Or.inr h
  have hG : GH D cy ad n st (gA n ad s.heap.size) s.heap s.heap [] := ⟨hP, gw_A hD0, va_S.rf⟩
  have hl := lv_entry ([.ref (ad 21), .int (iI (t0)), .int (iI (x)), .int (iI (y))]) (n := 9) (Nat.le_of_ble_eq_true rfl)
  rw [lg_entry_eq]
  generalize (lg_sl ([.ref (ad 21), .int (iI (t0)), .int (iI (x)), .int (iI (y))]) ++ List.replicate (9 - (lg_sl ([.ref (ad 21), .int (iI (t0)), .int (iI (x)), .int (iI (y))])).length) Slot.unset).toArray = ls at hl ⊢
  have hl : lv_has ls 9 [(0, .ref (ad 21)), (1, .int (iI (t0))), (2, .int (iI (x))), (3, .int (iI (y)))] := hl
  have hin5 : ∀ w ∈ u_ws RX5 TX5 6, w ∈ wsX5_spoil := by decide +kernel
  have hin4 : ∀ w ∈ u_ws RX4 TX4 12, w ∈ wsX5_spoil := by decide +kernel
  have L_139 := hts (.constant RX5 139 (65535)) (by decide +kernel)
  obtain ⟨⟨hR1, hR2, hR3, hR4⟩, hRl, hRw, hRr, hRc, hRt, hRo, hRk, hsc, hsi, hch, hun, hfr⟩ := id hR
  have h33 := gI_33 hI 0 0
  refine lv_aload_n hx hb dX5_spoil_0 rfl (lv_at hl 0 rfl) ?_
  refine lv_iload_n hx hb dX5_spoil_1 rfl (lv_at hl 1 rfl) ?_
  refine gx_gor hG hA (vx_runV (As := [.int (iI (t0))]) (rest := []) ⟨hx, hb, hml, hown, hts⟩ (mX5_tileAt l D cy ad n st _ fz wb hn hI (by omega) (t0) hlf (by omega)) (cwV 1 hts gX5_spoil_X5_tileAt rfl rfl rfl (by decide +kernel) ⟨Nat.le_of_ble_eq_true rfl, Nat.le_of_ble_eq_true rfl⟩) ⟨g_blind, va_recv hK hG.1 (q0 := 21 - 19) (ci := 5) rfl ((gw_at (k := 21) (by omega)).trans (by rw [gC_21 st ad cy])), g_pre hK hG hA hN hZ⟩ rfl rfl hl.1 rfl (lv_room (Nat.le_of_ble_eq_true rfl)) dX5_spoil_2 ⟨Nat.le_of_ble_eq_true rfl, Nat.le_of_ble_eq_true rfl⟩) (fun E9 st9 H locs ce9 q9 hp hG hce hcv hcl => ?_) (fun s9 H locs hp hG => ?_)
  · skip
    obtain ⟨⟨rfl, hcx⟩, hs9⟩ := hp
    rw [hs9] at hG
    clear hs9
    exact g_out hnt hlocks hG hce hcv hcl (by
      refine ⟨?_, rfl⟩
      have hks := kSpoil_s t0 x y
      first
        | exact ⟨0, rfl, by omega⟩
        | exact ⟨1, rfl, by omega⟩
        | exact ⟨2, rfl, by omega⟩) (Nat.le_of_ble_eq_true rfl) (Nat.le_of_ble_eq_true rfl)
  obtain ⟨hcr, hs9⟩ := hp
  rw [hs9] at hG
  clear hs9
  obtain ⟨t, ht⟩ : ∃ z9 : Nat, z9 = ((t0)).toNat := ⟨_, rfl⟩
  rw [← ht]
  have hut : ((t : Nat) : Int) = (t0) := by omega
  have hbt : t < 6 := by omega
  refine lv_astore (lv' := [(4, .ref (ad (33 + 7 * t))), (0, .ref (ad 21)), (1, .int (iI (t0))), (2, .int (iI (x))), (3, .int (iI (y)))]) hx hb dX5_spoil_5 hl (by decide) rfl (fun ls hl => ?_)
  refine lv_iload_n hx hb dX5_spoil_7 rfl (lv_at hl 3 rfl) ?_
  refine lv_iconst (v := iI (0)) hx hb dX5_spoil_8 rfl ?_
  refine lv_ldc hx hb hown L_139 dX5_spoil_9 ?_
  refine r_asI (y := 65535) (by decide +kernel) ?_
  refine gx_gov hG hA (vx_runS (As := [.int (iI (x)), .int (iI (0)), .int (iI (65535))]) (rest := []) ⟨hx, hb, hml, hown, hts⟩ (mX5_checkArgument l D cy ad n st _ fz wb hn hI (by omega) (x) (0) (65535) hlf (by omega) (by omega) (by omega)) (va_cwS 3 hts gX5_spoil_X5_checkArgument rfl rfl rfl (by decide +kernel) ⟨Nat.le_of_ble_eq_true rfl, Nat.le_of_ble_eq_true rfl⟩) ⟨g_blind, g_pre hK hG hA hN hZ⟩ rfl rfl hl.1 rfl (lv_room (Nat.le_of_ble_eq_true rfl)) dX5_spoil_11 ⟨Nat.le_of_ble_eq_true rfl, Nat.le_of_ble_eq_true rfl⟩) (fun E9 st9 H locs ce9 q9 hp hG hce hcv hcl => ?_) (fun s9 H locs hp hG => ?_)
  · skip
    obtain ⟨⟨rfl, hcx⟩, hs9⟩ := hp
    rw [hs9] at hG
    clear hs9
    exact g_out hnt hlocks hG hce hcv hcl (by
      refine ⟨?_, rfl⟩
      have hks := kSpoil_s t0 x y
      first
        | exact ⟨0, rfl, by omega⟩
        | exact ⟨1, rfl, by omega⟩
        | exact ⟨2, rfl, by omega⟩) (Nat.le_of_ble_eq_true rfl) (Nat.le_of_ble_eq_true rfl)
  obtain ⟨hcr, hs9⟩ := hp
  rw [hs9] at hG
  clear hs9
  refine lv_iload_n hx hb dX5_spoil_14 rfl (lv_at hl 4 rfl) ?_
  refine lv_iconst (v := iI (1)) hx hb dX5_spoil_15 rfl ?_
  refine lv_bipush (v := iI (20)) hx hb dX5_spoil_16 (by decide +kernel) ?_
  refine gx_gov hG hA (vx_runS (As := [.int (iI (y)), .int (iI (1)), .int (iI (20))]) (rest := []) ⟨hx, hb, hml, hown, hts⟩ (mX5_checkArgument l D cy ad n st _ fz wb hn hI (by omega) (y) (1) (20) hlf (by omega) (by omega) (by omega)) (va_cwS 3 hts gX5_spoil_X5_checkArgument rfl rfl rfl (by decide +kernel) ⟨Nat.le_of_ble_eq_true rfl, Nat.le_of_ble_eq_true rfl⟩) ⟨g_blind, g_pre hK hG hA hN hZ⟩ rfl rfl hl.1 rfl (lv_room (Nat.le_of_ble_eq_true rfl)) dX5_spoil_18 ⟨Nat.le_of_ble_eq_true rfl, Nat.le_of_ble_eq_true rfl⟩) (fun E9 st9 H locs ce9 q9 hp hG hce hcv hcl => ?_) (fun s9 H locs hp hG => ?_)
  · skip
    obtain ⟨⟨rfl, hcx⟩, hs9⟩ := hp
    rw [hs9] at hG
    clear hs9
    exact g_out hnt hlocks hG hce hcv hcl (by
      refine ⟨?_, rfl⟩
      have hks := kSpoil_s t0 x y
      first
        | exact ⟨0, rfl, by omega⟩
        | exact ⟨1, rfl, by omega⟩
        | exact ⟨2, rfl, by omega⟩) (Nat.le_of_ble_eq_true rfl) (Nat.le_of_ble_eq_true rfl)
  obtain ⟨hcr, hs9⟩ := hp
  rw [hs9] at hG
  clear hs9
  refine lv_iconst (v := iI (0)) hx hb dX5_spoil_21 rfl ?_
  refine lv_istore (lv' := [(5, .int (iI (0))), (4, .ref (ad (33 + 7 * t))), (0, .ref (ad 21)), (1, .int (iI (t0))), (2, .int (iI (x))), (3, .int (iI (y)))]) hx hb dX5_spoil_22 hl (by decide) rfl (fun ls hl => ?_)
  refine lv_iload_n hx hb dX5_spoil_24 rfl (lv_at hl 4 rfl) ?_
  refine lv_istore (lv' := [(6, .int (iI (x))), (5, .int (iI (0))), (4, .ref (ad (33 + 7 * t))), (0, .ref (ad 21)), (1, .int (iI (t0))), (2, .int (iI (x))), (3, .int (iI (y)))]) hx hb dX5_spoil_25 hl (by decide) rfl (fun ls hl => ?_)
  refine lv_iconst (v := iI (0)) hx hb dX5_spoil_27 rfl ?_
  refine lv_istore (lv' := [(7, .int (iI (0))), (6, .int (iI (x))), (5, .int (iI (0))), (4, .ref (ad (33 + 7 * t))), (0, .ref (ad 21)), (1, .int (iI (t0))), (2, .int (iI (x))), (3, .int (iI (y)))]) hx hb dX5_spoil_28 hl (by decide) rfl (fun ls hl => ?_)
  have hloop30 : ∀ (N : Nat) (x5 : Int) (x6 : Int) (v : Nat) (stb : St) (H : Heap) (locs : List Loc) (ls : Array Slot), 21 - v < N → ((v : Int) ≤ y) → ((cspI t (st, 0, x) v).2.1 = x5) → (x6 = (cspI t (st, 0, x) v).2.2) → (0 ≤ x6 ∧ x6 ≤ 65535) → (0 ≤ x5 ∧ x5 ≤ (v : Int)) → (stb = (cspI t (st, 0, x) v).1) → GI wb stb → GH D cy ad n stb (gA n ad s.heap.size) s.heap H locs → lv_has ls 9 [(5, .int (iI (x5))), (6, .int (iI (x6))), (7, .int (iI (((v : Nat) : Int)))), (4, .ref (ad (33 + 7 * t))), (0, .ref (ad 21)), (1, .int (iI (t0))), (2, .int (iI (x))), (3, .int (iI (y)))] → W p l e (headSpec wsX5_spoil { frames := 7, cells := 3, slots := 18, locals := 112 }).room s m (#[.ref (ad 21), .int (iI (t0)), .int (iI (x)), .int (iI (y))] : Array Value) below meth c H locs 3 18 (vx_MQ below (va_Qi (fun (r : Int32) (st' : St) => kSpoil t0 x y = 0 ∧ (r = iI (cspI t (st, 0, x) (y).toNat).2.1 ∧ st' = (cspI t (st, 0, x) (y).toNat).1) ∧ GI wb st') (gP D cy ad n) (gA n ad s.heap.size)) (gX D cy ad n (fun (E : String) (st' : St) => xE [xI, xA] E (kSpoil t0 x y) ∧ st' = st) (gA n ad s.heap.size)) (#[.ref (ad 21), .int (iI (t0)), .int (iI (x)), .int (iI (y))] : Array Value) s 3 18 (gA n ad s.heap.size)) (F0 m 30 ls []) := by
    intro N
    induction N with
    | zero => intro x5 x6 v stb H locs ls hm; exact absurd hm (Nat.not_lt_zero _)
    | succ N ih30 =>
      intro x5 x6 v stb H locs ls hm hv hx5 hx6 hx6r hx5r hstb hI hG hl
      refine lv_iload hx hb dX5_spoil_30 (lv_at hl 2 rfl) ?_
      refine lv_iload_n hx hb dX5_spoil_32 rfl (lv_at hl 7 rfl) ?_
      refine r_icmp_ge (tgt := 90) hx hb (by omega) dX5_spoil_33 (by decide) (fun c1 => ?_) (fun c1 => ?_)
      · skip
        refine lv_iload hx hb dX5_spoil_90 (lv_at hl 0 rfl) ?_
        refine W.widen (k := 3) (n := 18) (by omega) (by omega) ?_
        refine vx_ret ?_
        exact g_iret hx hb hr hlocks hG (by
          have hks := kSpoil_s t0 x y
          refine ⟨by omega, ?_, hI⟩
          try rw [← ht]
          rw [show (y).toNat = v by omega, hx5]
          exact ⟨rfl, hstb⟩) dX5_spoil_92
      · skip
        refine lv_iload hx hb dX5_spoil_36 (lv_at hl 1 rfl) ?_
        refine g_goi hG hA (va_runS (As := [.int (iI (x6))]) (rest := []) ⟨hx, hb, hml, hown, hts⟩ (mX5_drawBehind l D cy ad n stb _ fz wb hn hI (by omega) (x6) (by omega)) (va_cwS 1 hts gX5_spoil_X5_drawBehind rfl rfl rfl (by decide +kernel) ⟨Nat.le_of_ble_eq_true rfl, Nat.le_of_ble_eq_true rfl⟩) ⟨g_blind, g_pre hK hG hA hN hZ⟩ rfl rfl hl.1 rfl (lv_room (Nat.le_of_ble_eq_true rfl)) dX5_spoil_38 ⟨Nat.le_of_ble_eq_true rfl, Nat.le_of_ble_eq_true rfl⟩) (fun r9 s9 H locs hp hG => ?_)
        obtain ⟨rfl, hs9⟩ := hp
        rw [hs9] at hG
        clear hs9
        refine r_nm (fun v2 ev2 => ?_)
        have hr3 := drF_r (x6)
        rw [← ev2] at hr3
        have hd1 : v2 = drF x6 := ev2
        refine lv_istore (lv' := [(6, .int (iI (v2))), (5, .int (iI (x5))), (7, .int (iI (((v : Nat) : Int)))), (4, .ref (ad (33 + 7 * t))), (0, .ref (ad 21)), (1, .int (iI (t0))), (2, .int (iI (x))), (3, .int (iI (y)))]) hx hb dX5_spoil_41 hl (by decide) rfl (fun ls hl => ?_)
        refine lv_iload hx hb dX5_spoil_43 (lv_at hl 0 rfl) ?_
        refine lv_sipush (v := iI (128)) hx hb dX5_spoil_45 (by decide +kernel) ?_
        refine r_irem hx hb (by omega) dX5_spoil_48 ?_
        refine r_nm (fun v4 ev4 => ?_)
        refine lv_istore (lv' := [(8, .int (iI (v4))), (6, .int (iI (v2))), (5, .int (iI (x5))), (7, .int (iI (((v : Nat) : Int)))), (4, .ref (ad (33 + 7 * t))), (0, .ref (ad 21)), (1, .int (iI (t0))), (2, .int (iI (x))), (3, .int (iI (y)))]) hx hb dX5_spoil_49 hl (by decide) rfl (fun ls hl => ?_)
        refine lv_iload hx hb dX5_spoil_51 (lv_at hl 1 rfl) ?_
        refine g_goi hG hA (va_runS (As := [.int (iI (v2))]) (rest := []) ⟨hx, hb, hml, hown, hts⟩ (mX5_drawBehind l D cy ad n stb _ fz wb hn hI (by omega) (v2) (by omega)) (va_cwS 1 hts gX5_spoil_X5_drawBehind rfl rfl rfl (by decide +kernel) ⟨Nat.le_of_ble_eq_true rfl, Nat.le_of_ble_eq_true rfl⟩) ⟨g_blind, g_pre hK hG hA hN hZ⟩ rfl rfl hl.1 rfl (lv_room (Nat.le_of_ble_eq_true rfl)) dX5_spoil_53 ⟨Nat.le_of_ble_eq_true rfl, Nat.le_of_ble_eq_true rfl⟩) (fun r9 s9 H locs hp hG => ?_)
        obtain ⟨rfl, hs9⟩ := hp
        rw [hs9] at hG
        clear hs9
        refine r_nm (fun v5 ev5 => ?_)
        have hr6 := drF_r (v2)
        rw [← ev5] at hr6
        have hd2 : v5 = drF (drF x6) := by rw [ev5, hd1]
        refine lv_istore (lv' := [(6, .int (iI (v5))), (8, .int (iI (v4))), (5, .int (iI (x5))), (7, .int (iI (((v : Nat) : Int)))), (4, .ref (ad (33 + 7 * t))), (0, .ref (ad 21)), (1, .int (iI (t0))), (2, .int (iI (x))), (3, .int (iI (y)))]) hx hb dX5_spoil_56 hl (by decide) rfl (fun ls hl => ?_)
        refine lv_aload hx hb dX5_spoil_58 (lv_at hl 4 rfl) ?_
        refine lv_iload hx hb dX5_spoil_60 (lv_at hl 1 rfl) ?_
        refine lv_bipush (v := iI (16)) hx hb dX5_spoil_62 (by decide +kernel) ?_
        refine r_idiv hx hb (by omega) dX5_spoil_64 ?_
        refine r_nm (fun v7 ev7 => ?_)
        refine lv_iload hx hb dX5_spoil_65 (lv_at hl 1 rfl) ?_
        refine lv_bipush (v := iI (16)) hx hb dX5_spoil_67 (by decide +kernel) ?_
        refine r_irem hx hb (by omega) dX5_spoil_69 ?_
        refine r_nm (fun v8 ev8 => ?_)
        refine lv_iload hx hb dX5_spoil_70 (lv_at hl 0 rfl) ?_
        refine lv_bipush (v := iI (16)) hx hb dX5_spoil_72 (by decide +kernel) ?_
        refine r_irem hx hb (by omega) dX5_spoil_74 ?_
        refine r_nm (fun v9 ev9 => ?_)
        have h43 := gI_43 hI t (drF x6 % 128)
        have hAB : 16 * (v7) + (v8) = drF x6 % 128 := by omega
        have hVV : (v9) = drF (drF x6) % 16 := by omega
        refine g_goi hG hA (va_runV (As := [.int (iI (v7)), .int (iI (v8)), .int (iI (v9))]) (rest := []) ⟨hx, hb, hml, hown, hts⟩ (mX4_becomesStuck l D cy ad n stb _ fz wb hn hI (by omega) (t) (v7) (v8) (v9) (by omega) (by omega) (by omega) (by omega)) (cwV 3 hts gX5_spoil_X4_becomesStuck rfl rfl rfl (by decide +kernel) ⟨Nat.le_of_ble_eq_true rfl, Nat.le_of_ble_eq_true rfl⟩) ⟨g_blind, va_recv hK hG.1 (q0 := (33 + 7 * t) - 19) (ci := 4) rfl ((gw_at (k := 33 + 7 * t) (by omega)).trans (by rw [gC_t stb ad cy hbt])), g_pre hK hG hA hN hZ⟩ rfl rfl hl.1 rfl (lv_room (Nat.le_of_ble_eq_true rfl)) dX5_spoil_75 ⟨Nat.le_of_ble_eq_true rfl, Nat.le_of_ble_eq_true rfl⟩) (fun r9 st10 H locs hp hG => ?_)
        obtain ⟨rfl, hs9, hI⟩ := hp
        refine r_nm (fun v11 ev11 => ?_)
        rw [hAB] at hs9 ev11
        rw [hVV] at hs9
        refine r_if_eq (tgt := 84) hx hb (by omega) dX5_spoil_78 (by decide) (fun c12 => ?_) (fun c12 => ?_)
        · skip
          obtain ⟨v13, ev13⟩ : ∃ y9 : Int, y9 = ((v : Nat) : Int) + (1) := ⟨_, rfl⟩
          refine lv_iinc (v := iI v13) (lv' := [(7, .int (iI (v13))), (6, .int (iI (v5))), (8, .int (iI (v4))), (5, .int (iI (x5))), (4, .ref (ad (33 + 7 * t))), (0, .ref (ad 21)), (1, .int (iI (t0))), (2, .int (iI (x))), (3, .int (iI (y)))]) hx hb dX5_spoil_84 hl (k := 3) rfl (by rw [ev13]; exact iI_add _ _) (by decide) rfl (fun ls hl => ?_)
          refine lv_goto (tgt := 30) hx hb dX5_spoil_87 (by decide) ?_
          rw [show (v13 : Int) = (((v + 1) : Nat) : Int) from by omega] at hl
          exact ih30 (x5) (v5) (v + 1) st10 _ _ _ (by omega) (by omega) (by rw [cspI_s]; unfold cspStep; rw [← hx6, ← hstb, hx5]; show x5 + (1 - stb 43 t (drF x6 % 128)) = (x5); omega) (by rw [cspI_s]; unfold cspStep; rw [← hx6]; subst_vars; rfl) (by omega) (by omega) (by rw [hs9, hstb, hx6]; rfl) hI hG (lv_sub hl [3, 1, 0, 4, 5, 6, 7, 8] rfl)
        · skip
          obtain ⟨v14, ev14⟩ : ∃ y9 : Int, y9 = x5 + (1) := ⟨_, rfl⟩
          refine lv_iinc (v := iI v14) (lv' := [(5, .int (iI (v14))), (6, .int (iI (v5))), (8, .int (iI (v4))), (7, .int (iI (((v : Nat) : Int)))), (4, .ref (ad (33 + 7 * t))), (0, .ref (ad 21)), (1, .int (iI (t0))), (2, .int (iI (x))), (3, .int (iI (y)))]) hx hb dX5_spoil_81 hl (k := 2) rfl (by rw [ev14]; exact iI_add _ _) (by decide) rfl (fun ls hl => ?_)
          obtain ⟨v15, ev15⟩ : ∃ y9 : Int, y9 = ((v : Nat) : Int) + (1) := ⟨_, rfl⟩
          refine lv_iinc (v := iI v15) (lv' := [(7, .int (iI (v15))), (5, .int (iI (v14))), (6, .int (iI (v5))), (8, .int (iI (v4))), (4, .ref (ad (33 + 7 * t))), (0, .ref (ad 21)), (1, .int (iI (t0))), (2, .int (iI (x))), (3, .int (iI (y)))]) hx hb dX5_spoil_84 hl (k := 3) rfl (by rw [ev15]; exact iI_add _ _) (by decide) rfl (fun ls hl => ?_)
          refine lv_goto (tgt := 30) hx hb dX5_spoil_87 (by decide) ?_
          rw [show (v15 : Int) = (((v + 1) : Nat) : Int) from by omega] at hl
          exact ih30 (v14) (v5) (v + 1) st10 _ _ _ (by omega) (by omega) (by rw [cspI_s]; unfold cspStep; rw [← hx6, ← hstb, hx5]; show x5 + (1 - stb 43 t (drF x6 % 128)) = (v14); omega) (by rw [cspI_s]; unfold cspStep; rw [← hx6]; subst_vars; rfl) (by omega) (by omega) (by rw [hs9, hstb, hx6]; rfl) hI hG (lv_sub hl [1, 2, 0, 4, 5, 6, 7, 8] rfl)
  exact hloop30 _ (0) (x) (0) st _ _ _ (Nat.lt_succ_self _) (by omega) (by rfl) (by rfl) (by omega) (by omega) (by rfl) hI hG (lv_sub hl [2, 1, 0, 3, 4, 5, 6, 7] rfl)
set_option maxHeartbeats 400000 in
set_option maxRecDepth 100000 in
theorem mX5_misfits (l : Launch) (D : va_G) (cy : Nat → ClassId) (ad : Nat → Nat) (n : Nat) (st : St) (sz fz : Nat) (wb : Int) (hn : 75 ≤ n) (hI : GI wb st) (hW : wb ≤ 2000000) (a : Int) (t0 : Int) (ha : -2147483648 ≤ a ∧ a < 2147483648) (ht0 : -2147483648 ≤ t0 ∧ t0 < 2147483648) (hlf : l.stackTraces = false) (hnl : (n : Int) = 75 + 3 * st 33 0 0) (hR : RY st) : vx_Met l yX5_misfits wsX5_misfits ({ frames := 7, cells := 2, slots := 12, locals := 111 }) (va_Pc [.ref (ad 21), .int (iI (a)), .int (iI (t0))] (gB D cy ad n st sz fz)) (va_Qi (fun (r : Int32) (st' : St) => kMis st a t0 = 0 ∧ (r = iI (fdV st a t0) ∧ ∃ cf ff, st' = setW st cf ff) ∧ GI wb st') (gP D cy ad n) (gA n ad sz)) (gX D cy ad n (fun (E : String) (st' : St) => xE [xI] E (kMis st a t0) ∧ st' = st) (gA n ad sz)) 2 12 (gA n ad sz) := by
  refine vx_ofW (cc := cX5_misfits) (maxL := 4) (ret := (some .int)) (by decide) rfl ?_
  intro p e s m args below meth c s₁ B hml hnt hv
  obtain ⟨rfl, hsz, hP, hK, hD0, hN, hZ⟩ := hv
  have hx := B.exec
  have hb := B.bytes
  have hr := B.returns
  have hts := atoms_spec (ws := wsX5_misfits) B.pre
  have hown : s.vm.findClass RX5 = some m.cls := findClass_of_methodNamed B.named
  have hlocks := B.notSynchronized
  subst hsz
  have hA : ∀ q : Nat, s.heap.size ≤ q → gA n ad s.heap.size q := fun q h => Or.inr h
  have hG : GH D cy ad n st (gA n ad s.heap.size) s.heap s.heap [] := ⟨hP, gw_A hD0, va_S.rf⟩
  have hl := lv_entry ([.ref (ad 21), .int (iI (a)), .int (iI (t0))]) (n := 4) (Nat.le_of_ble_eq_true rfl)
  rw [lg_entry_eq]
  generalize (lg_sl ([.ref (ad 21), .int (iI (a)), .int (iI (t0))]) ++ List.replicate (4 - (lg_sl ([.ref (ad 21), .int (iI (a)), .int (iI (t0))])).length) Slot.unset).toArray = ls at hl ⊢
  have hl : lv_has ls 4 [(0, .ref (ad 21)), (1, .int (iI (a))), (2, .int (iI (t0)))] := hl
  have hin5 : ∀ w ∈ u_ws RX5 TX5 6, w ∈ wsX5_misfits := by decide +kernel
  have hin0 : ∀ w ∈ u_ws RX0 TX0 8, w ∈ wsX5_misfits := by decide +kernel
  have hin2 : ∀ w ∈ u_ws RX2 TX2 2, w ∈ wsX5_misfits := by decide +kernel
  have L_31 := hts (.fieldLink RX5 31 "Crossbarry" "seating" "LCrossbarry$Seating;") (by decide +kernel)
  have L_66 := hts (.fieldLink RX5 66 "Crossbarry$Layer" "inputs" "I") (by decide +kernel)
  obtain ⟨⟨hR1, hR2, hR3, hR4⟩, hRl, hRw, hRr, hRc, hRt, hRo, hRk, hsc, hsi, hch, hun, hfr⟩ := id hR
  have h33 := gI_33 hI 0 0
  refine lv_aload_n hx hb dX5_misfits_0 rfl (lv_at hl 0 rfl) ?_
  refine lv_iload_n hx hb dX5_misfits_1 rfl (lv_at hl 1 rfl) ?_
  refine gx_gor hG hA (vx_runV (As := [.int (iI (a))]) (rest := []) ⟨hx, hb, hml, hown, hts⟩ (mX5_layerAt l D cy ad n st _ fz wb hn hI (by omega) (a) hlf hnl (by omega)) (cwV 1 hts gX5_misfits_X5_layerAt rfl rfl rfl (by decide +kernel) ⟨Nat.le_of_ble_eq_true rfl, Nat.le_of_ble_eq_true rfl⟩) ⟨g_blind, va_recv hK hG.1 (q0 := 21 - 19) (ci := 5) rfl ((gw_at (k := 21) (by omega)).trans (by rw [gC_21 st ad cy])), g_pre hK hG hA hN hZ⟩ rfl rfl hl.1 rfl (lv_room (Nat.le_of_ble_eq_true rfl)) dX5_misfits_2 ⟨Nat.le_of_ble_eq_true rfl, Nat.le_of_ble_eq_true rfl⟩) (fun E9 st9 H locs ce9 q9 hp hG hce hcv hcl => ?_) (fun s9 H locs hp hG => ?_)
  · skip
    obtain ⟨⟨rfl, hcx⟩, hs9⟩ := hp
    rw [hs9] at hG
    clear hs9
    exact g_out hnt hlocks hG hce hcv hcl (by
      refine ⟨?_, rfl⟩
      have hks := kMis_s st a t0
      first
        | exact ⟨0, rfl, by omega⟩
        | exact ⟨1, rfl, by omega⟩
        | exact ⟨2, rfl, by omega⟩) (Nat.le_of_ble_eq_true rfl) (Nat.le_of_ble_eq_true rfl)
  obtain ⟨hcr, hs9⟩ := hp
  rw [hs9] at hG
  clear hs9
  obtain ⟨q, hq⟩ : ∃ z9 : Nat, z9 = ((a)).toNat := ⟨_, rfl⟩
  rw [← hq]
  have huq : ((q : Nat) : Int) = (a) := by omega
  have hlq := hRl q (by omega)
  rw [huq] at hlq
  have h60 := gI_60 hI q 0
  have h61 := gI_61 hI q 0
  have hm6 := gI_14 hI 0 0
  refine lv_astore_n (lv' := [(3, .ref (ad (75 + 3 * q))), (0, .ref (ad 21)), (1, .int (iI (a))), (2, .int (iI (t0)))]) hx hb dX5_misfits_5 rfl hl (by decide) rfl (fun ls hl => ?_)
  refine lv_aload_n hx hb dX5_misfits_6 rfl (lv_at hl 1 rfl) ?_
  refine g_get hx hb hts hin5 hown hK hG (key := 21) (by omega) (gC_21 st ad cy) rfl 3 (by decide) L_31 (fun _ h9 => h9) rfl dX5_misfits_7 ?_
  refine lv_aload_n hx hb dX5_misfits_10 rfl (lv_at hl 0 rfl) ?_
  refine lv_aload_n hx hb dX5_misfits_11 rfl (lv_at hl 1 rfl) ?_
  refine lv_iload_n hx hb dX5_misfits_12 rfl (lv_at hl 3 rfl) ?_
  refine gx_gor hG hA (vx_runV (As := [.int (iI (t0))]) (rest := [.ref (ad (75 + 3 * q)), .ref (ad 25)]) ⟨hx, hb, hml, hown, hts⟩ (mX5_tileAt l D cy ad n st _ fz wb hn hI (by omega) (t0) hlf (by omega)) (cwV 1 hts gX5_misfits_X5_tileAt rfl rfl rfl (by decide +kernel) ⟨Nat.le_of_ble_eq_true rfl, Nat.le_of_ble_eq_true rfl⟩) ⟨g_blind, va_recv hK hG.1 (q0 := 21 - 19) (ci := 5) rfl ((gw_at (k := 21) (by omega)).trans (by rw [gC_21 st ad cy])), g_pre hK hG hA hN hZ⟩ rfl rfl hl.1 rfl (lv_room (Nat.le_of_ble_eq_true rfl)) dX5_misfits_13 ⟨Nat.le_of_ble_eq_true rfl, Nat.le_of_ble_eq_true rfl⟩) (fun E9 st9 H locs ce9 q9 hp hG hce hcv hcl => ?_) (fun s9 H locs hp hG => ?_)
  · skip
    obtain ⟨⟨rfl, hcx⟩, hs9⟩ := hp
    rw [hs9] at hG
    clear hs9
    exact g_out hnt hlocks hG hce hcv hcl (by
      refine ⟨?_, rfl⟩
      have hks := kMis_s st a t0
      first
        | exact ⟨0, rfl, by omega⟩
        | exact ⟨1, rfl, by omega⟩
        | exact ⟨2, rfl, by omega⟩) (Nat.le_of_ble_eq_true rfl) (Nat.le_of_ble_eq_true rfl)
  obtain ⟨hcr, hs9⟩ := hp
  rw [hs9] at hG
  clear hs9
  obtain ⟨t, ht⟩ : ∃ z9 : Nat, z9 = ((t0)).toNat := ⟨_, rfl⟩
  rw [← ht]
  have hut : ((t : Nat) : Int) = (t0) := by omega
  have hbt : t < 6 := by omega
  refine g_gov hG hA (va_runV (As := [.ref (ad (75 + 3 * q)), .ref (ad (33 + 7 * t))]) (rest := []) ⟨hx, hb, hml, hown, hts⟩ (mX2_weigh l D cy ad n st _ fz wb hn hI (by omega) (q) (t) (by omega) (by omega)) (cwV 2 hts gX5_misfits_X2_weigh rfl rfl rfl (by decide +kernel) ⟨Nat.le_of_ble_eq_true rfl, Nat.le_of_ble_eq_true rfl⟩) ⟨g_blind, va_recv hK hG.1 (q0 := 25 - 19) (ci := 2) rfl ((gw_at (k := 25) (by omega)).trans (by rw [gC_25 st ad cy])), g_pre hK hG hA hN hZ⟩ rfl rfl hl.1 rfl (lv_room (Nat.le_of_ble_eq_true rfl)) dX5_misfits_16 ⟨Nat.le_of_ble_eq_true rfl, Nat.le_of_ble_eq_true rfl⟩) (fun st1 H locs hp => ?_)
  intro hG
  obtain ⟨hs9, hI⟩ := hp
  have hWe : st1 = setW st (cwX st q t (8 * (st 60 q 0).toNat)) (st 35 0) := hs9
  have e60 : st1 60 q 0 = st 60 q 0 := by rw [hWe]; exact setW_c _ _ _ (by decide)
  obtain ⟨ni, hni⟩ : ∃ z9 : Nat, z9 = (st 60 q 0).toNat := ⟨_, rfl⟩
  have hcw : ∀ i r, i < ni → r < 8 → csT st1 i r = cst st a t0 i r := by
    intro i r hi hr
    rw [← huq, ← hut]
    exact csT_w hR hWe (by omega) hbt (by omega) (by omega) hr h61
  refine lv_aload_n hx hb dX5_misfits_19 rfl (lv_at hl 1 rfl) ?_
  refine g_get hx hb hts hin5 hown hK hG (key := 21) (by omega) (gC_21 st1 ad cy) rfl 3 (by decide) L_31 (fun _ h9 => h9) rfl dX5_misfits_20 ?_
  refine lv_aload_n hx hb dX5_misfits_23 rfl (lv_at hl 0 rfl) ?_
  refine g_get hx hb hts hin0 hown hK hG (key := 75 + 3 * q) (by omega) (gC_l st1 ad cy q) rfl 1 (by decide) L_66 (fun _ h9 => h9) rfl dX5_misfits_24 ?_
  have hr2 := gI_60 hI (q) (0)
  refine r_nm (fun v3 ev3 => ?_)
  rw [← ev3] at hr2
  refine r_as (y := ((ni : Nat) : Int)) (by omega) ?_
  refine g_goi hG hA (va_runV (As := [.int (iI (((ni : Nat) : Int)))]) (rest := []) ⟨hx, hb, hml, hown, hts⟩ (mX2_fewestMisfits l D cy ad n st1 _ fz wb hn hI (by omega) (ni) (by omega)) (cwV 1 hts gX5_misfits_X2_fewestMisfits rfl rfl rfl (by decide +kernel) ⟨Nat.le_of_ble_eq_true rfl, Nat.le_of_ble_eq_true rfl⟩) ⟨g_blind, va_recv hK hG.1 (q0 := 25 - 19) (ci := 2) rfl ((gw_at (k := 25) (by omega)).trans (by rw [gC_25 st1 ad cy])), g_pre hK hG hA hN hZ⟩ rfl rfl hl.1 rfl (lv_room (Nat.le_of_ble_eq_true rfl)) dX5_misfits_27 ⟨Nat.le_of_ble_eq_true rfl, Nat.le_of_ble_eq_true rfl⟩) (fun r9 st4 H locs hp hG => ?_)
  obtain ⟨rfl, hs9, hI⟩ := hp
  refine r_nm (fun v5 ev5 => ?_)
  have hr6 := dpV_r (fun p q => (csT_r (st := st1) (by assumption) p q).1) (ni) 0
  rw [← ev5] at hr6
  refine W.widen (k := 2) (n := 12) (by omega) (by omega) ?_
  refine vx_ret ?_
  exact g_iret hx hb hr hlocks hG (by
    have hks := kMis_s st a t0
    refine ⟨by omega, ?_, hI⟩
    refine ⟨?_, fsC_ex hWe hs9⟩
    congr 1
    unfold fdV
    rw [show (st 15 0 a).toNat = ni by omega, ← dpV_e hcw (by decide)]
    assumption) dX5_misfits_30
set_option maxHeartbeats 400000 in
set_option maxRecDepth 100000 in
theorem mX5_misfitsAnew (l : Launch) (D : va_G) (cy : Nat → ClassId) (ad : Nat → Nat) (n : Nat) (st : St) (sz fz : Nat) (wb : Int) (hn : 75 ≤ n) (hI : GI wb st) (hW : wb ≤ 2000000) (a : Int) (t0 : Int) (ha : -2147483648 ≤ a ∧ a < 2147483648) (ht0 : -2147483648 ≤ t0 ∧ t0 < 2147483648) (hlf : l.stackTraces = false) (hnl : (n : Int) = 75 + 3 * st 33 0 0) (hR : RY st) : vx_Met l yX5_misfitsAnew wsX5_misfitsAnew ({ frames := 7, cells := 3, slots := 18, locals := 111 }) (va_Pc [.ref (ad 21), .int (iI (a)), .int (iI (t0))] (gB D cy ad n st sz fz)) (va_Qi (fun (r : Int32) (st' : St) => kMisA st a t0 = 0 ∧ (r = iI (fdV st a t0) ∧ ∃ cf ff, st' = setW st cf ff) ∧ GI wb st') (gP D cy ad n) (gA n ad sz)) (gX D cy ad n (fun (E : String) (st' : St) => xE [xI, xS] E (kMisA st a t0) ∧ st' = st) (gA n ad sz)) 3 18 (gA n ad sz) := by
  refine vx_ofW (cc := cX5_misfitsAnew) (maxL := 5) (ret := (some .int)) (by decide) rfl ?_
  intro p e s m args below meth c s₁ B hml hnt hv
  obtain ⟨rfl, hsz, hP, hK, hD0, hN, hZ⟩ := hv
  have hx := B.exec
  have hb := B.bytes
  have hr := B.returns
  have hts := atoms_spec (ws := wsX5_misfitsAnew) B.pre
  have hown : s.vm.findClass RX5 = some m.cls := findClass_of_methodNamed B.named
  have hlocks := B.notSynchronized
  subst hsz
  have hA : ∀ q : Nat, s.heap.size ≤ q → gA n ad s.heap.size q := fun q h => Or.inr h
  have hG : GH D cy ad n st (gA n ad s.heap.size) s.heap s.heap [] := ⟨hP, gw_A hD0, va_S.rf⟩
  have hl := lv_entry ([.ref (ad 21), .int (iI (a)), .int (iI (t0))]) (n := 5) (Nat.le_of_ble_eq_true rfl)
  rw [lg_entry_eq]
  generalize (lg_sl ([.ref (ad 21), .int (iI (a)), .int (iI (t0))]) ++ List.replicate (5 - (lg_sl ([.ref (ad 21), .int (iI (a)), .int (iI (t0))])).length) Slot.unset).toArray = ls at hl ⊢
  have hl : lv_has ls 5 [(0, .ref (ad 21)), (1, .int (iI (a))), (2, .int (iI (t0)))] := hl
  have hin5 : ∀ w ∈ u_ws RX5 TX5 6, w ∈ wsX5_misfitsAnew := by decide +kernel
  have hin0 : ∀ w ∈ u_ws RX0 TX0 8, w ∈ wsX5_misfitsAnew := by decide +kernel
  have hin2 : ∀ w ∈ u_ws RX2 TX2 2, w ∈ wsX5_misfitsAnew := by decide +kernel
  have L_31 := hts (.fieldLink RX5 31 "Crossbarry" "seating" "LCrossbarry$Seating;") (by decide +kernel)
  have L_66 := hts (.fieldLink RX5 66 "Crossbarry$Layer" "inputs" "I") (by decide +kernel)
  obtain ⟨⟨hR1, hR2, hR3, hR4⟩, hRl, hRw, hRr, hRc, hRt, hRo, hRk, hsc, hsi, hch, hun, hfr⟩ := id hR
  have h33 := gI_33 hI 0 0
  refine lv_aload_n hx hb dX5_misfitsAnew_0 rfl (lv_at hl 0 rfl) ?_
  refine lv_iload_n hx hb dX5_misfitsAnew_1 rfl (lv_at hl 1 rfl) ?_
  refine gx_gor hG hA (vx_runV (As := [.int (iI (a))]) (rest := []) ⟨hx, hb, hml, hown, hts⟩ (mX5_layerAt l D cy ad n st _ fz wb hn hI (by omega) (a) hlf hnl (by omega)) (cwV 1 hts gX5_misfitsAnew_X5_layerAt rfl rfl rfl (by decide +kernel) ⟨Nat.le_of_ble_eq_true rfl, Nat.le_of_ble_eq_true rfl⟩) ⟨g_blind, va_recv hK hG.1 (q0 := 21 - 19) (ci := 5) rfl ((gw_at (k := 21) (by omega)).trans (by rw [gC_21 st ad cy])), g_pre hK hG hA hN hZ⟩ rfl rfl hl.1 rfl (lv_room (Nat.le_of_ble_eq_true rfl)) dX5_misfitsAnew_2 ⟨Nat.le_of_ble_eq_true rfl, Nat.le_of_ble_eq_true rfl⟩) (fun E9 st9 H locs ce9 q9 hp hG hce hcv hcl => ?_) (fun s9 H locs hp hG => ?_)
  · skip
    obtain ⟨⟨rfl, hcx⟩, hs9⟩ := hp
    rw [hs9] at hG
    clear hs9
    exact g_out hnt hlocks hG hce hcv hcl (by
      refine ⟨?_, rfl⟩
      have hks := kMisA_s st a t0
      first
        | exact ⟨0, rfl, by omega⟩
        | exact ⟨1, rfl, by omega⟩
        | exact ⟨2, rfl, by omega⟩) (Nat.le_of_ble_eq_true rfl) (Nat.le_of_ble_eq_true rfl)
  obtain ⟨hcr, hs9⟩ := hp
  rw [hs9] at hG
  clear hs9
  obtain ⟨q, hq⟩ : ∃ z9 : Nat, z9 = ((a)).toNat := ⟨_, rfl⟩
  rw [← hq]
  have huq : ((q : Nat) : Int) = (a) := by omega
  have hlq := hRl q (by omega)
  rw [huq] at hlq
  have h60 := gI_60 hI q 0
  have h61 := gI_61 hI q 0
  have hm6 := gI_14 hI 0 0
  refine lv_astore_n (lv' := [(3, .ref (ad (75 + 3 * q))), (0, .ref (ad 21)), (1, .int (iI (a))), (2, .int (iI (t0)))]) hx hb dX5_misfitsAnew_5 rfl hl (by decide) rfl (fun ls hl => ?_)
  refine lv_aload_n hx hb dX5_misfitsAnew_6 rfl (lv_at hl 1 rfl) ?_
  refine lv_iload_n hx hb dX5_misfitsAnew_7 rfl (lv_at hl 3 rfl) ?_
  refine gx_gor hG hA (vx_runV (As := [.int (iI (t0))]) (rest := []) ⟨hx, hb, hml, hown, hts⟩ (mX5_tileAt l D cy ad n st _ fz wb hn hI (by omega) (t0) hlf (by omega)) (cwV 1 hts gX5_misfitsAnew_X5_tileAt rfl rfl rfl (by decide +kernel) ⟨Nat.le_of_ble_eq_true rfl, Nat.le_of_ble_eq_true rfl⟩) ⟨g_blind, va_recv hK hG.1 (q0 := 21 - 19) (ci := 5) rfl ((gw_at (k := 21) (by omega)).trans (by rw [gC_21 st ad cy])), g_pre hK hG hA hN hZ⟩ rfl rfl hl.1 rfl (lv_room (Nat.le_of_ble_eq_true rfl)) dX5_misfitsAnew_8 ⟨Nat.le_of_ble_eq_true rfl, Nat.le_of_ble_eq_true rfl⟩) (fun E9 st9 H locs ce9 q9 hp hG hce hcv hcl => ?_) (fun s9 H locs hp hG => ?_)
  · skip
    obtain ⟨⟨rfl, hcx⟩, hs9⟩ := hp
    rw [hs9] at hG
    clear hs9
    exact g_out hnt hlocks hG hce hcv hcl (by
      refine ⟨?_, rfl⟩
      have hks := kMisA_s st a t0
      first
        | exact ⟨0, rfl, by omega⟩
        | exact ⟨1, rfl, by omega⟩
        | exact ⟨2, rfl, by omega⟩) (Nat.le_of_ble_eq_true rfl) (Nat.le_of_ble_eq_true rfl)
  obtain ⟨hcr, hs9⟩ := hp
  rw [hs9] at hG
  clear hs9
  obtain ⟨t, ht⟩ : ∃ z9 : Nat, z9 = ((t0)).toNat := ⟨_, rfl⟩
  rw [← ht]
  have hut : ((t : Nat) : Int) = (t0) := by omega
  have hbt : t < 6 := by omega
  refine lv_astore (lv' := [(4, .ref (ad (33 + 7 * t))), (3, .ref (ad (75 + 3 * q))), (0, .ref (ad 21)), (1, .int (iI (a))), (2, .int (iI (t0)))]) hx hb dX5_misfitsAnew_11 hl (by decide) rfl (fun ls hl => ?_)
  refine lv_aload_n hx hb dX5_misfitsAnew_13 rfl (lv_at hl 1 rfl) ?_
  refine g_get hx hb hts hin0 hown hK hG (key := 75 + 3 * q) (by omega) (gC_l st ad cy q) rfl 1 (by decide) L_66 (fun _ h9 => h9) rfl dX5_misfitsAnew_14 ?_
  have hr1 := gI_60 hI (q) (0)
  refine r_nm (fun v2 ev2 => ?_)
  rw [← ev2] at hr1
  refine lv_iconst (v := iI (4)) hx hb dX5_misfitsAnew_17 rfl ?_
  refine r_icmp_le (tgt := 31) hx hb (by omega) dX5_misfitsAnew_18 (by decide) (fun c3 => ?_) (fun c3 => ?_)
  · skip
    refine lv_aload_n hx hb dX5_misfitsAnew_31 rfl (lv_at hl 2 rfl) ?_
    refine g_get hx hb hts hin5 hown hK hG (key := 21) (by omega) (gC_21 st ad cy) rfl 3 (by decide) L_31 (fun _ h9 => h9) rfl dX5_misfitsAnew_32 ?_
    refine lv_aload_n hx hb dX5_misfitsAnew_35 rfl (lv_at hl 1 rfl) ?_
    refine lv_aload hx hb dX5_misfitsAnew_36 (lv_at hl 0 rfl) ?_
    refine g_gov hG hA (va_runV (As := [.ref (ad (75 + 3 * q)), .ref (ad (33 + 7 * t))]) (rest := []) ⟨hx, hb, hml, hown, hts⟩ (mX2_weigh l D cy ad n st _ fz wb hn hI (by omega) (q) (t) (by omega) (by omega)) (cwV 2 hts gX5_misfitsAnew_X2_weigh rfl rfl rfl (by decide +kernel) ⟨Nat.le_of_ble_eq_true rfl, Nat.le_of_ble_eq_true rfl⟩) ⟨g_blind, va_recv hK hG.1 (q0 := 25 - 19) (ci := 2) rfl ((gw_at (k := 25) (by omega)).trans (by rw [gC_25 st ad cy])), g_pre hK hG hA hN hZ⟩ rfl rfl hl.1 rfl (lv_room (Nat.le_of_ble_eq_true rfl)) dX5_misfitsAnew_38 ⟨Nat.le_of_ble_eq_true rfl, Nat.le_of_ble_eq_true rfl⟩) (fun st4 H locs hp => ?_)
    intro hG
    obtain ⟨hs9, hI⟩ := hp
    have hWe : st4 = setW st (cwX st q t (8 * (st 60 q 0).toNat)) (st 35 0) := hs9
    have e60 : st4 60 q 0 = st 60 q 0 := by rw [hWe]; exact setW_c _ _ _ (by decide)
    obtain ⟨ni, hni⟩ : ∃ z9 : Nat, z9 = (st 60 q 0).toNat := ⟨_, rfl⟩
    have hcw : ∀ i r, i < ni → r < 8 → csT st4 i r = cst st a t0 i r := by
      intro i r hi hr
      rw [← huq, ← hut]
      exact csT_w hR hWe (by omega) hbt (by omega) (by omega) hr h61
    refine lv_aload_n hx hb dX5_misfitsAnew_41 rfl (lv_at hl 2 rfl) ?_
    refine g_get hx hb hts hin5 hown hK hG (key := 21) (by omega) (gC_21 st4 ad cy) rfl 3 (by decide) L_31 (fun _ h9 => h9) rfl dX5_misfitsAnew_42 ?_
    refine lv_aload_n hx hb dX5_misfitsAnew_45 rfl (lv_at hl 1 rfl) ?_
    refine g_get hx hb hts hin0 hown hK hG (key := 75 + 3 * q) (by omega) (gC_l st4 ad cy q) rfl 1 (by decide) L_66 (fun _ h9 => h9) rfl dX5_misfitsAnew_46 ?_
    have hr5 := gI_60 hI (q) (0)
    refine r_nm (fun v6 ev6 => ?_)
    rw [← ev6] at hr5
    refine r_as (y := ((ni : Nat) : Int)) (by omega) ?_
    refine g_goi hG hA (va_runV (As := [.int (iI (((ni : Nat) : Int)))]) (rest := []) ⟨hx, hb, hml, hown, hts⟩ (mX2_fewestOfAllWays l D cy ad n st4 _ fz wb hn hI (by omega) (ni) (by omega)) (cwV 1 hts gX5_misfitsAnew_X2_fewestOfAllWays rfl rfl rfl (by decide +kernel) ⟨Nat.le_of_ble_eq_true rfl, Nat.le_of_ble_eq_true rfl⟩) ⟨g_blind, va_recv hK hG.1 (q0 := 25 - 19) (ci := 2) rfl ((gw_at (k := 25) (by omega)).trans (by rw [gC_25 st4 ad cy])), g_pre hK hG hA hN hZ⟩ rfl rfl hl.1 rfl (lv_room (Nat.le_of_ble_eq_true rfl)) dX5_misfitsAnew_49 ⟨Nat.le_of_ble_eq_true rfl, Nat.le_of_ble_eq_true rfl⟩) (fun r9 s9 H locs hp hG => ?_)
    obtain ⟨rfl, hs9⟩ := hp
    rw [hs9] at hG
    clear hs9
    refine r_nm (fun v7 ev7 => ?_)
    have hr8 := dpV_r (fun p q => (csT_r (st := st4) (by assumption) p q).1) (ni) 0
    rw [← ev7] at hr8
    refine W.widen (k := 3) (n := 18) (by omega) (by omega) ?_
    refine vx_ret ?_
    exact g_iret hx hb hr hlocks hG (by
      have hks := kMisA_s st a t0
      refine ⟨by omega, ?_, hI⟩
      refine ⟨?_, _, _, hWe⟩
      congr 1
      unfold fdV
      rw [show (st 15 0 a).toNat = ni by omega, ← dpV_e hcw (by decide)]
      assumption) dX5_misfitsAnew_52
  · skip
    exact g_xthrow (ik := 53) (is := 206) (ic := 57) (cls := xS) (text := "the layer has more than 4 inputs") hx hb hlf hown hts xftS xnbS xgdS (by decide +kernel) (by decide +kernel) (by decide +kernel) (by decide +kernel) hN hZ hG (hl.1.trans hml.symm) dX5_misfitsAnew_21 dX5_misfitsAnew_24 dX5_misfitsAnew_25 dX5_misfitsAnew_27 dX5_misfitsAnew_30 hnt (Nat.le_of_ble_eq_true rfl) (Nat.le_of_ble_eq_true rfl) (Nat.le_of_ble_eq_true rfl) (Nat.le_of_ble_eq_true rfl) hlocks (by
      refine ⟨?_, rfl⟩
      have hks := kMisA_s st a t0
      first
        | exact ⟨0, rfl, by omega⟩
        | exact ⟨1, rfl, by omega⟩
        | exact ⟨2, rfl, by omega⟩) (Nat.le_of_ble_eq_true rfl) (Nat.le_of_ble_eq_true rfl)
set_option maxHeartbeats 400000 in
set_option maxRecDepth 100000 in
theorem mX5_place (l : Launch) (D : va_G) (cy : Nat → ClassId) (ad : Nat → Nat) (n : Nat) (st : St) (sz fz : Nat) (wb : Int) (hn : 75 ≤ n) (hI : GI wb st) (hW : wb ≤ 1900000) (a : Int) (t0 : Int) (ha : -2147483648 ≤ a ∧ a < 2147483648) (ht0 : -2147483648 ≤ t0 ∧ t0 < 2147483648) (hlf : l.stackTraces = false) (hnl : (n : Int) = 75 + 3 * st 33 0 0) (hR : RY st) : vx_Met l yX5_place wsX5_place ({ frames := 7, cells := 3, slots := 18, locals := 111 }) (va_Pc [.ref (ad 21), .int (iI (a)), .int (iI (t0))] (gB D cy ad n st sz fz)) (va_Qi (fun (r : Int32) (st' : St) => kPlace st a t0 = 0 ∧ (r = iI (ldCF (plC st (a).toNat (t0).toNat) (a).toNat (t0).toNat) ∧ st' = ldCS (plC st (a).toNat (t0).toNat) (a).toNat (t0).toNat) ∧ GI (wb + 2048) st') (gP D cy ad n) (gA n ad sz)) (gX D cy ad n (fun (E : String) (st' : St) => xE [xI, xS] E (kPlace st a t0) ∧ st' = st) (gA n ad sz)) 3 18 (gA n ad sz) := by
  refine vx_ofW (cc := cX5_place) (maxL := 5) (ret := (some .int)) (by decide) rfl ?_
  intro p e s m args below meth c s₁ B hml hnt hv
  obtain ⟨rfl, hsz, hP, hK, hD0, hN, hZ⟩ := hv
  have hx := B.exec
  have hb := B.bytes
  have hr := B.returns
  have hts := atoms_spec (ws := wsX5_place) B.pre
  have hown : s.vm.findClass RX5 = some m.cls := findClass_of_methodNamed B.named
  have hlocks := B.notSynchronized
  subst hsz
  have hA : ∀ q : Nat, s.heap.size ≤ q → gA n ad s.heap.size q := fun q h => Or.inr h
  have hG : GH D cy ad n st (gA n ad s.heap.size) s.heap s.heap [] := ⟨hP, gw_A hD0, va_S.rf⟩
  have hl := lv_entry ([.ref (ad 21), .int (iI (a)), .int (iI (t0))]) (n := 5) (Nat.le_of_ble_eq_true rfl)
  rw [lg_entry_eq]
  generalize (lg_sl ([.ref (ad 21), .int (iI (a)), .int (iI (t0))]) ++ List.replicate (5 - (lg_sl ([.ref (ad 21), .int (iI (a)), .int (iI (t0))])).length) Slot.unset).toArray = ls at hl ⊢
  have hl : lv_has ls 5 [(0, .ref (ad 21)), (1, .int (iI (a))), (2, .int (iI (t0)))] := hl
  have hin5 : ∀ w ∈ u_ws RX5 TX5 6, w ∈ wsX5_place := by decide +kernel
  have hin0 : ∀ w ∈ u_ws RX0 TX0 8, w ∈ wsX5_place := by decide +kernel
  have hin2 : ∀ w ∈ u_ws RX2 TX2 2, w ∈ wsX5_place := by decide +kernel
  have hin4 : ∀ w ∈ u_ws RX4 TX4 12, w ∈ wsX5_place := by decide +kernel
  have L_106 := hts (.fieldLink RX5 106 "Crossbarry$Layer" "ground" "LCrossbarry$Tile;") (by decide +kernel)
  have L_110 := hts (.fieldLink RX5 110 "Crossbarry$Tile" "isTaken" "Z") (by decide +kernel)
  have L_12 := hts (.fieldLink RX5 12 "Crossbarry" "setting" "LCrossbarry$Setting;") (by decide +kernel)
  have L_31 := hts (.fieldLink RX5 31 "Crossbarry" "seating" "LCrossbarry$Seating;") (by decide +kernel)
  obtain ⟨⟨hR1, hR2, hR3, hR4⟩, hRl, hRw, hRr, hRc, hRt, hRo, hRk, hsc, hsi, hch, hun, hfr⟩ := id hR
  have h33 := gI_33 hI 0 0
  refine lv_aload_n hx hb dX5_place_0 rfl (lv_at hl 0 rfl) ?_
  refine lv_iload_n hx hb dX5_place_1 rfl (lv_at hl 1 rfl) ?_
  refine gx_gor hG hA (vx_runV (As := [.int (iI (a))]) (rest := []) ⟨hx, hb, hml, hown, hts⟩ (mX5_layerAt l D cy ad n st _ fz wb hn hI (by omega) (a) hlf hnl (by omega)) (cwV 1 hts gX5_place_X5_layerAt rfl rfl rfl (by decide +kernel) ⟨Nat.le_of_ble_eq_true rfl, Nat.le_of_ble_eq_true rfl⟩) ⟨g_blind, va_recv hK hG.1 (q0 := 21 - 19) (ci := 5) rfl ((gw_at (k := 21) (by omega)).trans (by rw [gC_21 st ad cy])), g_pre hK hG hA hN hZ⟩ rfl rfl hl.1 rfl (lv_room (Nat.le_of_ble_eq_true rfl)) dX5_place_2 ⟨Nat.le_of_ble_eq_true rfl, Nat.le_of_ble_eq_true rfl⟩) (fun E9 st9 H locs ce9 q9 hp hG hce hcv hcl => ?_) (fun s9 H locs hp hG => ?_)
  · skip
    obtain ⟨⟨rfl, hcx⟩, hs9⟩ := hp
    rw [hs9] at hG
    clear hs9
    exact g_out hnt hlocks hG hce hcv hcl (by
      refine ⟨?_, rfl⟩
      have hks := kPlace_s st a t0
      first
        | exact ⟨0, rfl, by omega⟩
        | exact ⟨1, rfl, by omega⟩
        | exact ⟨2, rfl, by omega⟩) (Nat.le_of_ble_eq_true rfl) (Nat.le_of_ble_eq_true rfl)
  obtain ⟨hcr, hs9⟩ := hp
  rw [hs9] at hG
  clear hs9
  obtain ⟨q, hq⟩ : ∃ z9 : Nat, z9 = ((a)).toNat := ⟨_, rfl⟩
  rw [← hq]
  have huq : ((q : Nat) : Int) = (a) := by omega
  have hlq := hRl q (by omega)
  rw [huq] at hlq
  have h60 := gI_60 hI q 0
  have h61 := gI_61 hI q 0
  have hm6 := gI_14 hI 0 0
  refine lv_astore_n (lv' := [(3, .ref (ad (75 + 3 * q))), (0, .ref (ad 21)), (1, .int (iI (a))), (2, .int (iI (t0)))]) hx hb dX5_place_5 rfl hl (by decide) rfl (fun ls hl => ?_)
  refine lv_aload_n hx hb dX5_place_6 rfl (lv_at hl 1 rfl) ?_
  refine lv_iload_n hx hb dX5_place_7 rfl (lv_at hl 3 rfl) ?_
  refine gx_gor hG hA (vx_runV (As := [.int (iI (t0))]) (rest := []) ⟨hx, hb, hml, hown, hts⟩ (mX5_tileAt l D cy ad n st _ fz wb hn hI (by omega) (t0) hlf (by omega)) (cwV 1 hts gX5_place_X5_tileAt rfl rfl rfl (by decide +kernel) ⟨Nat.le_of_ble_eq_true rfl, Nat.le_of_ble_eq_true rfl⟩) ⟨g_blind, va_recv hK hG.1 (q0 := 21 - 19) (ci := 5) rfl ((gw_at (k := 21) (by omega)).trans (by rw [gC_21 st ad cy])), g_pre hK hG hA hN hZ⟩ rfl rfl hl.1 rfl (lv_room (Nat.le_of_ble_eq_true rfl)) dX5_place_8 ⟨Nat.le_of_ble_eq_true rfl, Nat.le_of_ble_eq_true rfl⟩) (fun E9 st9 H locs ce9 q9 hp hG hce hcv hcl => ?_) (fun s9 H locs hp hG => ?_)
  · skip
    obtain ⟨⟨rfl, hcx⟩, hs9⟩ := hp
    rw [hs9] at hG
    clear hs9
    exact g_out hnt hlocks hG hce hcv hcl (by
      refine ⟨?_, rfl⟩
      have hks := kPlace_s st a t0
      first
        | exact ⟨0, rfl, by omega⟩
        | exact ⟨1, rfl, by omega⟩
        | exact ⟨2, rfl, by omega⟩) (Nat.le_of_ble_eq_true rfl) (Nat.le_of_ble_eq_true rfl)
  obtain ⟨hcr, hs9⟩ := hp
  rw [hs9] at hG
  clear hs9
  obtain ⟨t, ht⟩ : ∃ z9 : Nat, z9 = ((t0)).toNat := ⟨_, rfl⟩
  rw [← ht]
  have hut : ((t : Nat) : Int) = (t0) := by omega
  have hbt : t < 6 := by omega
  have hpk := place_k hR hbt
  rw [hut] at hpk
  refine lv_astore (lv' := [(4, .ref (ad (33 + 7 * t))), (3, .ref (ad (75 + 3 * q))), (0, .ref (ad 21)), (1, .int (iI (a))), (2, .int (iI (t0)))]) hx hb dX5_place_11 hl (by decide) rfl (fun ls hl => ?_)
  refine lv_aload_n hx hb dX5_place_13 rfl (lv_at hl 1 rfl) ?_
  refine g_get hx hb hts hin0 hown hK hG (key := 75 + 3 * q) (by omega) (gC_l st ad cy q) rfl 7 (by decide) L_106 (fun _ h9 => h9) rfl dX5_place_14 ?_
  refine g_refs (fun hn1 => ?_) (fun t2 ht2 => ?_)
  · skip
    have hrhn1 := gI_66 hI q 0
    refine lv_ifnonnullN hx hb dX5_place_17 ?_
    refine lv_aload hx hb dX5_place_20 (lv_at hl 0 rfl) ?_
    refine g_get hx hb hts hin4 hown hK hG (key := 33 + 7 * t) (by omega) (gC_t st ad cy hbt) rfl 11 (by decide) L_110 (fun _ h9 => h9) rfl dX5_place_22 ?_
    have hr3 := gI_50 hI (t) (0)
    refine r_nm (fun v4 ev4 => ?_)
    rw [← ev4] at hr3
    refine r_if_eq (tgt := 38) hx hb (by omega) dX5_place_25 (by decide) (fun c5 => ?_) (fun c5 => ?_)
    · skip
      refine lv_aload_n hx hb dX5_place_38 rfl (lv_at hl 2 rfl) ?_
      refine g_get hx hb hts hin5 hown hK hG (key := 21) (by omega) (gC_21 st ad cy) rfl 3 (by decide) L_31 (fun _ h9 => h9) rfl dX5_place_39 ?_
      refine lv_aload_n hx hb dX5_place_42 rfl (lv_at hl 1 rfl) ?_
      refine lv_aload hx hb dX5_place_43 (lv_at hl 0 rfl) ?_
      refine g_gov hG hA (va_runV (As := [.ref (ad (75 + 3 * q)), .ref (ad (33 + 7 * t))]) (rest := []) ⟨hx, hb, hml, hown, hts⟩ (mX2_weigh l D cy ad n st _ fz wb hn hI (by omega) (q) (t) (by omega) (by omega)) (cwV 2 hts gX5_place_X2_weigh rfl rfl rfl (by decide +kernel) ⟨Nat.le_of_ble_eq_true rfl, Nat.le_of_ble_eq_true rfl⟩) ⟨g_blind, va_recv hK hG.1 (q0 := 25 - 19) (ci := 2) rfl ((gw_at (k := 25) (by omega)).trans (by rw [gC_25 st ad cy])), g_pre hK hG hA hN hZ⟩ rfl rfl hl.1 rfl (lv_room (Nat.le_of_ble_eq_true rfl)) dX5_place_45 ⟨Nat.le_of_ble_eq_true rfl, Nat.le_of_ble_eq_true rfl⟩) (fun st6 H locs hp => ?_)
      intro hG
      obtain ⟨hs9, hI⟩ := hp
      have hWe : st6 = setW st (cwX st q t (8 * (st 60 q 0).toNat)) (st 35 0) := hs9
      refine lv_aload_n hx hb dX5_place_48 rfl (lv_at hl 2 rfl) ?_
      refine g_get hx hb hts hin5 hown hK hG (key := 21) (by omega) (gC_21 st6 ad cy) rfl 3 (by decide) L_31 (fun _ h9 => h9) rfl dX5_place_49 ?_
      refine lv_aload_n hx hb dX5_place_52 rfl (lv_at hl 1 rfl) ?_
      refine g_gov hG hA (va_runV (As := [.ref (ad (75 + 3 * q))]) (rest := []) ⟨hx, hb, hml, hown, hts⟩ (mX2_seat l D cy ad n st6 _ fz wb hn hI (by omega) (q) (by omega)) (cwV 1 hts gX5_place_X2_seat rfl rfl rfl (by decide +kernel) ⟨Nat.le_of_ble_eq_true rfl, Nat.le_of_ble_eq_true rfl⟩) ⟨g_blind, va_recv hK hG.1 (q0 := 25 - 19) (ci := 2) rfl ((gw_at (k := 25) (by omega)).trans (by rw [gC_25 st6 ad cy])), g_pre hK hG hA hN hZ⟩ rfl rfl hl.1 rfl (lv_room (Nat.le_of_ble_eq_true rfl)) dX5_place_53 ⟨Nat.le_of_ble_eq_true rfl, Nat.le_of_ble_eq_true rfl⟩) (fun st7 H locs hp => ?_)
      intro hG
      obtain ⟨hs9, hI⟩ := hp
      have hSe : st7 = stC st6 q := hs9
      refine lv_aload_n hx hb dX5_place_56 rfl (lv_at hl 1 rfl) ?_
      refine lv_aload hx hb dX5_place_57 (lv_at hl 0 rfl) ?_
      refine g_put hx hb hts hin0 tyX0 tyX0_ok nmX0 hown hK hG (key := 75 + 3 * q) (by omega) (gC_l st7 ad cy q) rfl 7 (by decide) L_106 (fun _ h9 => h9) rfl (ty := (.object "Crossbarry$Tile")) (by decide +kernel) rfl rfl (Nat.le_of_ble_eq_true rfl) dX5_place_59 (ust st7 66 q 0 (((t : Nat) : Int))) (fun j _ => gU_66r st7 ad cy (o := q) t j) (fun H locs hG => ?_)
      obtain ⟨st8, hst8⟩ : ∃ z : St, z = ust st7 66 (q) (0) (((t : Nat) : Int)) := ⟨_, rfl⟩
      rw [← hst8] at hG
      replace hI := hst8 ▸ gIu_66 hI (q) (0) (v := ((t : Nat) : Int)) (by omega)
      have hP1 : st8 = ust st7 66 q 0 ((t : Nat) : Int) := hst8
      refine lv_aload hx hb dX5_place_62 (lv_at hl 0 rfl) ?_
      refine lv_iconst (v := iI (1)) hx hb dX5_place_64 rfl ?_
      refine g_put hx hb hts hin4 tyX4 tyX4_ok nmX4 hown hK hG (key := 33 + 7 * t) (by omega) (gC_t st8 ad cy hbt) rfl 11 (by decide) L_110 (fun _ h9 => h9) rfl (ty := .boolean) (by decide +kernel) (narZ (by omega)) (fitZ (by omega)) (Nat.le_of_ble_eq_true rfl) dX5_place_65 (ust st8 50 t 0 (1)) (fun j _ => gU_50 st8 ad cy hbt (1) j) (fun H locs hG => ?_)
      obtain ⟨st9, hst9⟩ : ∃ z : St, z = ust st8 50 (t) (0) (1) := ⟨_, rfl⟩
      rw [← hst9] at hG
      replace hI := hst9 ▸ gIu_50 hI (t) (0) (v := 1) (by omega)
      have hP2 : st9 = ust st8 50 t 0 1 := hst9
      have hPP : st9 = plC st q t := by rw [hP2, hP1, hSe, hWe]; rfl
      refine lv_aload_n hx hb dX5_place_68 rfl (lv_at hl 1 rfl) ?_
      refine lv_aload hx hb dX5_place_69 (lv_at hl 0 rfl) ?_
      refine lv_aload_n hx hb dX5_place_71 rfl (lv_at hl 2 rfl) ?_
      refine g_get hx hb hts hin5 hown hK hG (key := 21) (by omega) (gC_21 st9 ad cy) rfl 0 (by decide) L_12 (fun _ h9 => h9) rfl dX5_place_72 ?_
      refine g_goi hG hA (va_runV (As := [.ref (ad (33 + 7 * t)), .ref (ad 22)]) (rest := []) ⟨hx, hb, hml, hown, hts⟩ (mX0_writeOn l D cy ad n st9 _ fz wb hn hI (by omega) (q) (t) (by omega) (by omega) (fun p9 j9 => by rw [hPP, plC_c _ _ _ _ _ (by decide), plC_c _ _ _ _ _ (by decide)]; exact hsc p9 j9)) (cwV 2 hts gX5_place_X0_writeOn rfl rfl rfl (by decide +kernel) ⟨Nat.le_of_ble_eq_true rfl, Nat.le_of_ble_eq_true rfl⟩) ⟨g_blind, va_recv hK hG.1 (q0 := (75 + 3 * q) - 19) (ci := 0) rfl ((gw_at (k := 75 + 3 * q) (by omega)).trans (by rw [gC_l st9 ad cy q])), g_pre hK hG hA hN hZ⟩ rfl rfl hl.1 rfl (lv_room (Nat.le_of_ble_eq_true rfl)) dX5_place_75 ⟨Nat.le_of_ble_eq_true rfl, Nat.le_of_ble_eq_true rfl⟩) (fun r9 st10 H locs hp hG => ?_)
      obtain ⟨rfl, hs9, hI⟩ := hp
      refine r_nm (fun v11 ev11 => ?_)
      refine W.widen (k := 3) (n := 18) (by omega) (by omega) ?_
      refine vx_ret ?_
      exact g_iret hx hb hr hlocks hG (by
        have hks := kPlace_s st a t0
        refine ⟨by omega, ?_, hI⟩
        try rw [← hq]
        try rw [← ht]
        rw [← hPP]
        exact ⟨by congr 1, hs9⟩) dX5_place_78
    · skip
      exact g_xthrow (ik := 53) (is := 114) (ic := 57) (cls := xS) (text := "the layer is placed, or the tile has one") hx hb hlf hown hts xftS xnbS xgdS (by decide +kernel) (by decide +kernel) (by decide +kernel) (by decide +kernel) hN hZ hG (hl.1.trans hml.symm) dX5_place_28 dX5_place_31 dX5_place_32 dX5_place_34 dX5_place_37 hnt (Nat.le_of_ble_eq_true rfl) (Nat.le_of_ble_eq_true rfl) (Nat.le_of_ble_eq_true rfl) (Nat.le_of_ble_eq_true rfl) hlocks (by
        refine ⟨?_, rfl⟩
        have hks := kPlace_s st a t0
        first
          | exact ⟨0, rfl, by omega⟩
          | exact ⟨1, rfl, by omega⟩
          | exact ⟨2, rfl, by omega⟩) (Nat.le_of_ble_eq_true rfl) (Nat.le_of_ble_eq_true rfl)
  · skip
    have hrt2 := gI_66 hI q 0
    have hbt2 : t2 < 6 := by omega
    refine lv_ifnonnull (tgt := 28) hx hb dX5_place_17 (by decide) ?_
    exact g_xthrow (ik := 53) (is := 114) (ic := 57) (cls := xS) (text := "the layer is placed, or the tile has one") hx hb hlf hown hts xftS xnbS xgdS (by decide +kernel) (by decide +kernel) (by decide +kernel) (by decide +kernel) hN hZ hG (hl.1.trans hml.symm) dX5_place_28 dX5_place_31 dX5_place_32 dX5_place_34 dX5_place_37 hnt (Nat.le_of_ble_eq_true rfl) (Nat.le_of_ble_eq_true rfl) (Nat.le_of_ble_eq_true rfl) (Nat.le_of_ble_eq_true rfl) hlocks (by
      refine ⟨?_, rfl⟩
      have hks := kPlace_s st a t0
      first
        | exact ⟨0, rfl, by omega⟩
        | exact ⟨1, rfl, by omega⟩
        | exact ⟨2, rfl, by omega⟩) (Nat.le_of_ble_eq_true rfl) (Nat.le_of_ble_eq_true rfl)
set_option maxHeartbeats 400000 in
set_option maxRecDepth 100000 in
theorem mX5_tellPipeline (l : Launch) (D : va_G) (cy : Nat → ClassId) (ad : Nat → Nat) (n : Nat) (st : St) (sz fz : Nat) (wb : Int) (hn : 75 ≤ n) (hI : GI wb st) (hW : wb ≤ 2000000) (q : Nat) (hlf : l.stackTraces = false) (hnl : (n : Int) = 75 + 3 * st 33 0 0) (hR : RY st) (hq : 77 + 3 * q < n) (hqm : (q : Int) < st 14 0 0) : vx_Met l yX5_tellPipeline wsX5_tellPipeline ({ frames := 7, cells := 6, slots := 36, locals := 110 }) (va_Pc [.ref (ad 21), .ref (ad (75 + 3 * q))] (gB D cy ad n st sz fz)) (va_Qv (fun (st' : St) => chP st 6 ((q : Nat) : Int) = 1 ∧ tpP st ((q : Nat) : Int) st' ∧ GI wb st') (gP D cy ad n) (gA n ad sz)) (gX D cy ad n (fun (E : String) (st' : St) => (E = xS ∧ chP st 6 ((q : Nat) : Int) = 0) ∧ (∃ tf sg, st' = setT st tf sg) ∧ GI wb st') (gA n ad sz)) 6 36 (gA n ad sz) := by
  refine vx_ofW (cc := cX5_tellPipeline) (maxL := 3) (ret := none) (by decide) rfl ?_
  intro p e s m args below meth c s₁ B hml hnt hv
  obtain ⟨rfl, hsz, hP, hK, hD0, hN, hZ⟩ := hv
  have hx := B.exec
  have hb := B.bytes
  have hr := B.returns
  have hts := atoms_spec (ws := wsX5_tellPipeline) B.pre
  have hown : s.vm.findClass RX5 = some m.cls := findClass_of_methodNamed B.named
  have hlocks := B.notSynchronized
  subst hsz
  have hA : ∀ q : Nat, s.heap.size ≤ q → gA n ad s.heap.size q := fun q h => Or.inr h
  have hG : GH D cy ad n st (gA n ad s.heap.size) s.heap s.heap [] := ⟨hP, gw_A hD0, va_S.rf⟩
  have hl := lv_entry ([.ref (ad 21), .ref (ad (75 + 3 * q))]) (n := 3) (Nat.le_of_ble_eq_true rfl)
  rw [lg_entry_eq]
  generalize (lg_sl ([.ref (ad 21), .ref (ad (75 + 3 * q))]) ++ List.replicate (3 - (lg_sl ([.ref (ad 21), .ref (ad (75 + 3 * q))])).length) Slot.unset).toArray = ls at hl ⊢
  have hl : lv_has ls 3 [(0, .ref (ad 21)), (1, .ref (ad (75 + 3 * q)))] := hl
  have hin5 : ∀ w ∈ u_ws RX5 TX5 6, w ∈ wsX5_tellPipeline := by decide +kernel
  have hin0 : ∀ w ∈ u_ws RX0 TX0 8, w ∈ wsX5_tellPipeline := by decide +kernel
  have hin1 : ∀ w ∈ u_ws RX1 TX1 3, w ∈ wsX5_tellPipeline := by decide +kernel
  have L_38 := hts (.fieldLink RX5 38 "Crossbarry" "pipeline" "LCrossbarry$Pipeline;") (by decide +kernel)
  have L_95 := hts (.fieldLink RX5 95 "Crossbarry$Layer" "nextLayer" "LCrossbarry$Layer;") (by decide +kernel)
  obtain ⟨⟨hR1, hR2, hR3, hR4⟩, hRl, hRw, hRr, hRc, hRt, hRo, hRk, hsc, hsi, hch, hun, hfr⟩ := id hR
  have h33 := gI_33 hI 0 0
  have hI0 := hI
  have hm6 := gI_14 hI 0 0
  refine lv_aload_n hx hb dX5_tellPipeline_0 rfl (lv_at hl 0 rfl) ?_
  refine g_get hx hb hts hin5 hown hK hG (key := 21) (by omega) (gC_21 st ad cy) rfl 4 (by decide) L_38 (fun _ h9 => h9) rfl dX5_tellPipeline_1 ?_
  refine g_gov hG hA (va_runV (As := []) (rest := []) ⟨hx, hb, hml, hown, hts⟩ (mX1_clear l D cy ad n st _ fz wb hn hI (by omega)  ) (cwV 0 hts gX5_tellPipeline_X1_clear rfl rfl rfl (by decide +kernel) ⟨Nat.le_of_ble_eq_true rfl, Nat.le_of_ble_eq_true rfl⟩) ⟨g_blind, va_recv hK hG.1 (q0 := 28 - 19) (ci := 1) rfl ((gw_at (k := 28) (by omega)).trans (by rw [gC_28 st ad cy])), g_pre hK hG hA hN hZ⟩ rfl rfl hl.1 rfl (lv_room (Nat.le_of_ble_eq_true rfl)) dX5_tellPipeline_4 ⟨(by show _ ≤ 6; omega), (by show _ ≤ 36; omega)⟩) (fun st1 H locs hp => ?_)
  intro hG
  obtain ⟨hs9, hI⟩ := hp
  have hC0 : st1 = setT st (st 37 0) 0 := by rw [hs9]; exact setT_u0 st
  refine lv_aload_n hx hb dX5_tellPipeline_7 rfl (lv_at hl 1 rfl) ?_
  refine lv_astore_n (lv' := [(2, .ref (ad (75 + 3 * q))), (0, .ref (ad 21)), (1, .ref (ad (75 + 3 * q)))]) hx hb dX5_tellPipeline_8 rfl hl (by decide) rfl (fun ls hl => ?_)
  have hloop9 : ∀ (N : Nat)  (la : Int) (k : Nat) (tf : Int → Int) (stb : St) (H : Heap) (locs : List Loc) (ls : Array Slot), 7 - k < N → (la = chN st ((q : Nat) : Int) k) → (la = -1 ∨ (0 ≤ la ∧ la < st 14 0 0 ∧ (k : Int) ≤ la)) → (k ≤ 6) → (k = 0 → la = ((q : Nat) : Int)) → (stb = setT st tf (k : Int)) → (∀ j : Nat, j < k → tf (j : Int) = cyL st (chN st ((q : Nat) : Int) j)) → (∀ j, j < k → 0 ≤ chN st ((q : Nat) : Int) j ∧ chN st ((q : Nat) : Int) j < st 14 0 0 ∧ 0 ≤ st 20 0 (chN st ((q : Nat) : Int) j)) → (∀ i j, i < j → j < k → chN st ((q : Nat) : Int) i < chN st ((q : Nat) : Int) j) → (∀ j, j < k → la ≠ -1 → chN st ((q : Nat) : Int) j < la) → (chP st (6 - k) la = chP st 6 ((q : Nat) : Int)) → GI wb stb → GH D cy ad n stb (gA n ad s.heap.size) s.heap H locs → lv_has ls 3 [(2, va_rf (gref ad 75 3 (la))), (0, .ref (ad 21)), (1, .ref (ad (75 + 3 * q)))] → W p l e (headSpec wsX5_tellPipeline { frames := 7, cells := 6, slots := 36, locals := 110 }).room s m (#[.ref (ad 21), .ref (ad (75 + 3 * q))] : Array Value) below meth c H locs k (6 * k) (vx_MQ below (va_Qv (fun (st' : St) => chP st 6 ((q : Nat) : Int) = 1 ∧ tpP st ((q : Nat) : Int) st' ∧ GI wb st') (gP D cy ad n) (gA n ad s.heap.size)) (gX D cy ad n (fun (E : String) (st' : St) => (E = xS ∧ chP st 6 ((q : Nat) : Int) = 0) ∧ (∃ tf sg, st' = setT st tf sg) ∧ GI wb st') (gA n ad s.heap.size)) (#[.ref (ad 21), .ref (ad (75 + 3 * q))] : Array Value) s 6 36 (gA n ad s.heap.size)) (F0 m 9 ls []) := by
    intro N
    induction N with
    | zero => intro  la k tf stb H locs ls hm; exact absurd hm (Nat.not_lt_zero _)
    | succ N ih9 =>
      intro  la k tf stb H locs ls hm hla hlr hk6 hk1 hstb htf hcr9 hcm hcl hcp hI hG hl
      have hfb : ∀ c o i, (c < 36 ∨ 37 < c) → stb c o i = st c o i := fun c o i h => by rw [hstb]; exact setT_c _ _ _ h
      by_cases hsp : la < 0
      · skip
        have hl : lv_has ls 3 [(2, .null), (0, .ref (ad 21)), (1, .ref (ad (75 + 3 * q)))] := by rw [rf_n hsp] at hl; exact hl
        refine lv_aload_nN hx hb dX5_tellPipeline_9 rfl (lv_at hl 0 rfl) ?_
        refine lv_ifnullN (tgt := 36) hx hb dX5_tellPipeline_10 (by decide) ?_
        refine W.widen (k := 6) (n := 36) (by omega) (by omega) ?_
        refine vx_ret ?_
        exact g_vret hx hb hr hlocks hG (by
          have hlm : la = -1 := by omega
          rw [hlm, chP_e] at hcp
          refine ⟨hcp.symm, ⟨k, ⟨by omega, hk6⟩, by rw [← hla]; exact hlm, hcr9, hcm, tf, htf, hstb⟩, hI⟩) dX5_tellPipeline_36
      · skip
        obtain ⟨y, hy⟩ : ∃ z9 : Nat, la = (z9 : Int) := ⟨(la).toNat, by omega⟩
        have hl : lv_has ls 3 [(2, .ref (ad (75 + 3 * y))), (0, .ref (ad 21)), (1, .ref (ad (75 + 3 * q)))] := by rw [rf_t hy] at hl; exact hl
        have hly := hRl y (by omega)
        have hcy := hch ((y : Nat) : Int) (by omega) (by omega)
        have h20 := gI_20 hI0 0 ((y : Nat) : Int)
        have h61 := gI_61 hI0 y 0
        obtain ⟨f1, hf1⟩ : ∃ f1, 6 - k = f1 + 1 := ⟨5 - k, by omega⟩
        rw [hf1, hy, chP_s, if_neg (by omega)] at hcp
        refine lv_aload_n hx hb dX5_tellPipeline_9 rfl (lv_at hl 0 rfl) ?_
        refine lv_ifnull hx hb dX5_tellPipeline_10 ?_
        refine lv_aload_n hx hb dX5_tellPipeline_13 rfl (lv_at hl 1 rfl) ?_
        refine g_get hx hb hts hin5 hown hK hG (key := 21) (by omega) (gC_21 stb ad cy) rfl 4 (by decide) L_38 (fun _ h9 => h9) rfl dX5_tellPipeline_14 ?_
        refine lv_aload_n hx hb dX5_tellPipeline_17 rfl (lv_at hl 0 rfl) ?_
        refine lv_aload_n hx hb dX5_tellPipeline_18 rfl (lv_at hl 0 rfl) ?_
        refine gx_gor hG hA (vx_runS (As := [.ref (ad (75 + 3 * y))]) (rest := [.ref (ad (75 + 3 * y)), .ref (ad 28)]) ⟨hx, hb, hml, hown, hts⟩ (mX5_groundOf l D cy ad n stb _ fz wb hn hI (by omega) (y) hlf (by omega)) (va_cwS 1 hts gX5_tellPipeline_X5_groundOf rfl rfl rfl (by decide +kernel) ⟨Nat.le_of_ble_eq_true rfl, Nat.le_of_ble_eq_true rfl⟩) ⟨g_blind, g_pre hK hG hA hN hZ⟩ rfl rfl hl.1 rfl (lv_room (Nat.le_of_ble_eq_true rfl)) dX5_tellPipeline_19 ⟨(by show _ ≤ 6; omega), (by show _ ≤ 36; omega)⟩) (fun E9 st9 H locs ce9 q9 hp hG hce hcv hcl => ?_) (fun s9 H locs hp hG => ?_)
        · skip
          obtain ⟨⟨rfl, hcx⟩, hs9⟩ := hp
          rw [hs9] at hG
          clear hs9
          have hg66 := gI_66 (st := stb) (by assumption) (y) 0
          exact g_out hnt hlocks hG hce hcv hcl (by
            refine ⟨⟨rfl, ?_⟩, ⟨tf, (k : Int), hstb⟩, hI⟩
            have e66 : stb 66 y 0 = st 66 y 0 := hfb 66 _ _ (by decide)
            rw [if_pos (by omega)] at hcp
            omega) (by omega) (by omega)
        obtain ⟨hcr, hs9⟩ := hp
        rw [hs9] at hG
        clear hs9
        obtain ⟨t, ht⟩ : ∃ z9 : Nat, z9 = (stb 66 (y) 0).toNat := ⟨_, rfl⟩
        rw [← ht]
        have hut : ((t : Nat) : Int) = stb 66 (y) 0 := by omega
        have hrt := gI_66 (st := stb) (by assumption) (y) 0
        have hbt : t < 6 := by omega
        have e66 : stb 66 y 0 = st 66 y 0 := hfb 66 _ _ (by decide)
        rw [if_neg (by omega)] at hcp
        refine g_goi hG hA (va_runV (As := [.ref (ad (33 + 7 * t))]) (rest := [.ref (ad 28)]) ⟨hx, hb, hml, hown, hts⟩ (mX0_cyclesOn l D cy ad n stb _ fz wb hn hI (by omega) (y) (t) (by omega) (by omega)) (cwV 1 hts gX5_tellPipeline_X0_cyclesOn rfl rfl rfl (by decide +kernel) ⟨Nat.le_of_ble_eq_true rfl, Nat.le_of_ble_eq_true rfl⟩) ⟨g_blind, va_recv hK hG.1 (q0 := (75 + 3 * y) - 19) (ci := 0) rfl ((gw_at (k := 75 + 3 * y) (by omega)).trans (by rw [gC_l stb ad cy y])), g_pre hK hG hA hN hZ⟩ rfl rfl hl.1 rfl (lv_room (Nat.le_of_ble_eq_true rfl)) dX5_tellPipeline_22 ⟨(by show _ ≤ 6; omega), (by show _ ≤ 36; omega)⟩) (fun r9 s9 H locs hp hG => ?_)
        obtain ⟨rfl, hs9⟩ := hp
        rw [hs9] at hG
        clear hs9
        refine r_nm (fun v2 ev2 => ?_)
        have hcy2 : v2 = cyL st ((y : Nat) : Int) := by rw [ev2, hfb 61 _ _ (by decide), hfb 49 _ _ (by decide)]; exact cyL_e hR (by omega) hbt (by omega) (gI_49 hI0 t 0).1
        have hcv : 0 ≤ v2 ∧ v2 ≤ 128 := by rw [hcy2]; unfold cyL; exact cyF_r (gI_16 hI0 0 ((y : Nat) : Int)) (gI_13 hI0 0 (st 20 0 ((y : Nat) : Int)))
        refine g_gov hG hA (va_runV (As := [.int (iI (v2))]) (rest := []) ⟨hx, hb, hml, hown, hts⟩ (mX1_add l D cy ad n stb _ fz wb hn hI (by omega) (v2) (by omega) (by rw [hstb, setT_36]; omega)) (cwV 1 hts gX5_tellPipeline_X1_add rfl rfl rfl (by decide +kernel) ⟨Nat.le_of_ble_eq_true rfl, Nat.le_of_ble_eq_true rfl⟩) ⟨g_blind, va_recv hK hG.1 (q0 := 28 - 19) (ci := 1) rfl ((gw_at (k := 28) (by omega)).trans (by rw [gC_28 stb ad cy])), g_pre hK hG hA hN hZ⟩ rfl rfl hl.1 rfl (lv_room (Nat.le_of_ble_eq_true rfl)) dX5_tellPipeline_25 ⟨(by show _ ≤ 6; omega), (by show _ ≤ 36; omega)⟩) (fun st3 H locs hp => ?_)
        intro hG
        obtain ⟨hs9, hI⟩ := hp
        have hS2 : st3 = setT st (updI tf (k : Int) (v2)) ((k + 1 : Nat) : Int) := by rw [hs9, hstb, setT_36, setT_u37, setT_u36]; push_cast; rfl
        have hfc : ∀ c o i, (c < 36 ∨ 37 < c) → st3 c o i = st c o i := fun c o i h => by rw [hS2]; exact setT_c _ _ _ h
        refine lv_aload_n hx hb dX5_tellPipeline_28 rfl (lv_at hl 0 rfl) ?_
        refine g_get hx hb hts hin0 hown hK hG (key := 75 + 3 * y) (by omega) (gC_l st3 ad cy y) rfl 6 (by decide) L_95 (fun _ h9 => h9) rfl dX5_tellPipeline_29 ?_
        rw [show st3 65 y 0 = st 65 y 0 from by rw [hfc _ _ _ (by decide)]]
        refine g_refs (fun hn4 => ?_) (fun t5 ht5 => ?_)
        · skip
          have hrhn4 := gI_65 hI y 0
          rw [show st3 65 y 0 = st 65 y 0 from by rw [hfc _ _ _ (by decide)]] at hrhn4
          refine lv_astore_nN (lv' := [(2, .null), (0, .ref (ad 21)), (1, .ref (ad (75 + 3 * q)))]) hx hb dX5_tellPipeline_32 rfl hl (by decide) rfl (fun ls hl => ?_)
          refine lv_goto (tgt := 9) hx hb dX5_tellPipeline_33 (by decide) ?_
          refine W.widen (k := k + 1) (n := 6 * (k + 1)) (by omega) (by omega) ?_
          have hl : lv_has ls 3 [(2, va_rf (gref ad 75 3 (((-1))))), (0, .ref (ad 21)), (1, .ref (ad (75 + 3 * q)))] := by rw [rf_n (by decide)]; exact hl
          exact ih9  ((-1)) (k + 1) (st3 37 0) st3 _ _ _ (by omega) (by rw [chN_s (by omega), ← hla, hy]; omega) (by omega) (by omega) (by omega) (by exact (setT_q hS2).2) (by intro j hj; rw [(setT_q hS2).1]; by_cases hjk : j = k; (subst hjk; rw [updI_s, hcy2, ← hla, hy]); (rw [updI_n (by omega)]; exact htf j (by omega))) (by intro j hj; by_cases hjk : j = k; (subst hjk; rw [← hla, hy]; omega); (exact hcr9 j (by omega))) (by intro i j hij hj; by_cases hjk : j = k; (subst hjk; rw [← hla]; exact hcl i hij (by omega)); (exact hcm i j hij (by omega))) (by intro j hj hne; by_cases hjk : j = k; (subst hjk; rw [← hla, hy]; omega); (have := hcl j (by omega) (by omega); omega)) (by rw [show 6 - (k + 1) = f1 by omega]; rw [show st 19 0 ((y : Nat) : Int) = (-1) by omega] at hcp; exact hcp) hI hG (lv_sub hl [0, 1, 2] rfl)
        · skip
          have hrt5 := gI_65 hI y 0
          rw [show st3 65 y 0 = st 65 y 0 from by rw [hfc _ _ _ (by decide)]] at hrt5
          have hbt5 : t5 < 6 := by omega
          refine lv_astore_n (lv' := [(2, .ref (ad (75 + 3 * t5))), (0, .ref (ad 21)), (1, .ref (ad (75 + 3 * q)))]) hx hb dX5_tellPipeline_32 rfl hl (by decide) rfl (fun ls hl => ?_)
          refine lv_goto (tgt := 9) hx hb dX5_tellPipeline_33 (by decide) ?_
          refine W.widen (k := k + 1) (n := 6 * (k + 1)) (by omega) (by omega) ?_
          have hl : lv_has ls 3 [(2, va_rf (gref ad 75 3 ((((t5 : Nat) : Int))))), (0, .ref (ad 21)), (1, .ref (ad (75 + 3 * q)))] := by rw [rf_t rfl]; exact hl
          exact ih9  (((t5 : Nat) : Int)) (k + 1) (st3 37 0) st3 _ _ _ (by omega) (by rw [chN_s (by omega), ← hla, hy]; omega) (by omega) (by omega) (by omega) (by exact (setT_q hS2).2) (by intro j hj; rw [(setT_q hS2).1]; by_cases hjk : j = k; (subst hjk; rw [updI_s, hcy2, ← hla, hy]); (rw [updI_n (by omega)]; exact htf j (by omega))) (by intro j hj; by_cases hjk : j = k; (subst hjk; rw [← hla, hy]; omega); (exact hcr9 j (by omega))) (by intro i j hij hj; by_cases hjk : j = k; (subst hjk; rw [← hla]; exact hcl i hij (by omega)); (exact hcm i j hij (by omega))) (by intro j hj hne; by_cases hjk : j = k; (subst hjk; rw [← hla, hy]; omega); (have := hcl j (by omega) (by omega); omega)) (by rw [show 6 - (k + 1) = f1 by omega]; rw [show st 19 0 ((y : Nat) : Int) = ((t5 : Nat) : Int) by omega] at hcp; exact hcp) hI hG (lv_sub hl [0, 1, 2] rfl)
  have hl : lv_has ls 3 [(2, va_rf (gref ad 75 3 ((((q : Nat) : Int))))), (0, .ref (ad 21)), (1, .ref (ad (75 + 3 * q)))] := by rw [rf_t rfl]; exact hl
  exact hloop9 _  (((q : Nat) : Int)) (0) (st 37 0) st1 _ _ _ (Nat.lt_succ_self _) (by rfl) (by omega) (by omega) (by exact fun _ => rfl) (by exact hC0) (by exact fun j hj => absurd hj (Nat.not_lt_zero j)) (by exact fun j hj => absurd hj (Nat.not_lt_zero j)) (by exact fun i j _ hj => absurd hj (Nat.not_lt_zero j)) (by exact fun j hj => absurd hj (Nat.not_lt_zero j)) (by rfl) hI hG (lv_sub hl [0, 1, 2] rfl)
set_option maxHeartbeats 400000 in
set_option maxRecDepth 100000 in
theorem mX5_cycles (l : Launch) (D : va_G) (cy : Nat → ClassId) (ad : Nat → Nat) (n : Nat) (st : St) (sz fz : Nat) (wb : Int) (hn : 75 ≤ n) (hI : GI wb st) (hW : wb ≤ 2000000) (a : Int) (w : Int) (ha : -2147483648 ≤ a ∧ a < 2147483648) (hw : -2147483648 ≤ w ∧ w < 2147483648) (hlf : l.stackTraces = false) (hnl : (n : Int) = 75 + 3 * st 33 0 0) (hR : RY st) : vx_Met l yX5_cycles wsX5_cycles ({ frames := 8, cells := 8, slots := 48, locals := 132 }) (va_Pc [.ref (ad 21), .int (iI (a)), .int (iI (w))] (gB D cy ad n st sz fz)) (va_Qi (fun (r : Int32) (st' : St) => kPipe st a w = 0 ∧ (r = iI (aCyc st a w) ∧ ∃ tf sg, st' = setT st tf sg) ∧ GI wb st') (gP D cy ad n) (gA n ad sz)) (gX D cy ad n (fun (E : String) (st' : St) => xE [xI, xA, xS] E (kPipe st a w) ∧ (∃ tf sg, st' = setT st tf sg) ∧ GI wb st') (gA n ad sz)) 8 48 (gA n ad sz) := by
  refine vx_ofW (cc := cX5_cycles) (maxL := 4) (ret := (some .int)) (by decide) rfl ?_
  intro p e s m args below meth c s₁ B hml hnt hv
  obtain ⟨rfl, hsz, hP, hK, hD0, hN, hZ⟩ := hv
  have hx := B.exec
  have hb := B.bytes
  have hr := B.returns
  have hts := atoms_spec (ws := wsX5_cycles) B.pre
  have hown : s.vm.findClass RX5 = some m.cls := findClass_of_methodNamed B.named
  have hlocks := B.notSynchronized
  subst hsz
  have hA : ∀ q : Nat, s.heap.size ≤ q → gA n ad s.heap.size q := fun q h => Or.inr h
  have hG : GH D cy ad n st (gA n ad s.heap.size) s.heap s.heap [] := ⟨hP, gw_A hD0, va_S.rf⟩
  have hl := lv_entry ([.ref (ad 21), .int (iI (a)), .int (iI (w))]) (n := 4) (Nat.le_of_ble_eq_true rfl)
  rw [lg_entry_eq]
  generalize (lg_sl ([.ref (ad 21), .int (iI (a)), .int (iI (w))]) ++ List.replicate (4 - (lg_sl ([.ref (ad 21), .int (iI (a)), .int (iI (w))])).length) Slot.unset).toArray = ls at hl ⊢
  have hl : lv_has ls 4 [(0, .ref (ad 21)), (1, .int (iI (a))), (2, .int (iI (w)))] := hl
  have hin5 : ∀ w ∈ u_ws RX5 TX5 6, w ∈ wsX5_cycles := by decide +kernel
  have hin0 : ∀ w ∈ u_ws RX0 TX0 8, w ∈ wsX5_cycles := by decide +kernel
  have hin1 : ∀ w ∈ u_ws RX1 TX1 3, w ∈ wsX5_cycles := by decide +kernel
  have L_38 := hts (.fieldLink RX5 38 "Crossbarry" "pipeline" "LCrossbarry$Pipeline;") (by decide +kernel)
  obtain ⟨⟨hR1, hR2, hR3, hR4⟩, hRl, hRw, hRr, hRc, hRt, hRo, hRk, hsc, hsi, hch, hun, hfr⟩ := id hR
  have h33 := gI_33 hI 0 0
  have hI0 := hI
  refine lv_aload_n hx hb dX5_cycles_0 rfl (lv_at hl 0 rfl) ?_
  refine lv_iload_n hx hb dX5_cycles_1 rfl (lv_at hl 1 rfl) ?_
  refine gx_gor hG hA (vx_runV (As := [.int (iI (a))]) (rest := []) ⟨hx, hb, hml, hown, hts⟩ (mX5_layerAt l D cy ad n st _ fz wb hn hI (by omega) (a) hlf hnl (by omega)) (cwV 1 hts gX5_cycles_X5_layerAt rfl rfl rfl (by decide +kernel) ⟨Nat.le_of_ble_eq_true rfl, Nat.le_of_ble_eq_true rfl⟩) ⟨g_blind, va_recv hK hG.1 (q0 := 21 - 19) (ci := 5) rfl ((gw_at (k := 21) (by omega)).trans (by rw [gC_21 st ad cy])), g_pre hK hG hA hN hZ⟩ rfl rfl hl.1 rfl (lv_room (Nat.le_of_ble_eq_true rfl)) dX5_cycles_2 ⟨Nat.le_of_ble_eq_true rfl, Nat.le_of_ble_eq_true rfl⟩) (fun E9 st9 H locs ce9 q9 hp hG hce hcv hcl => ?_) (fun s9 H locs hp hG => ?_)
  · skip
    obtain ⟨⟨rfl, hcx⟩, hs9⟩ := hp
    rw [hs9] at hG
    clear hs9
    exact g_out hnt hlocks hG hce hcv hcl (by
      refine ⟨?_, ⟨_, _, setT_self st⟩, hI⟩
      have hks := kPipe_s st a w
      first
        | exact ⟨0, rfl, by omega⟩
        | exact ⟨1, rfl, by omega⟩
        | exact ⟨2, rfl, by omega⟩) (Nat.le_of_ble_eq_true rfl) (Nat.le_of_ble_eq_true rfl)
  obtain ⟨hcr, hs9⟩ := hp
  rw [hs9] at hG
  clear hs9
  obtain ⟨q, hq⟩ : ∃ z9 : Nat, z9 = ((a)).toNat := ⟨_, rfl⟩
  rw [← hq]
  have huq : ((q : Nat) : Int) = (a) := by omega
  have hlq := hRl q (by omega)
  rw [huq] at hlq
  have h60 := gI_60 hI q 0
  have h61 := gI_61 hI q 0
  have hm6 := gI_14 hI 0 0
  refine lv_astore_n (lv' := [(3, .ref (ad (75 + 3 * q))), (0, .ref (ad 21)), (1, .int (iI (a))), (2, .int (iI (w)))]) hx hb dX5_cycles_5 rfl hl (by decide) rfl (fun ls hl => ?_)
  refine lv_iload_n hx hb dX5_cycles_6 rfl (lv_at hl 3 rfl) ?_
  refine lv_iconst (v := iI (1)) hx hb dX5_cycles_7 rfl ?_
  refine lv_sipush (v := iI (1000)) hx hb dX5_cycles_8 (by decide +kernel) ?_
  refine gx_gov hG hA (vx_runS (As := [.int (iI (w)), .int (iI (1)), .int (iI (1000))]) (rest := []) ⟨hx, hb, hml, hown, hts⟩ (mX5_checkArgument l D cy ad n st _ fz wb hn hI (by omega) (w) (1) (1000) hlf (by omega) (by omega) (by omega)) (va_cwS 3 hts gX5_cycles_X5_checkArgument rfl rfl rfl (by decide +kernel) ⟨Nat.le_of_ble_eq_true rfl, Nat.le_of_ble_eq_true rfl⟩) ⟨g_blind, g_pre hK hG hA hN hZ⟩ rfl rfl hl.1 rfl (lv_room (Nat.le_of_ble_eq_true rfl)) dX5_cycles_11 ⟨Nat.le_of_ble_eq_true rfl, Nat.le_of_ble_eq_true rfl⟩) (fun E9 st9 H locs ce9 q9 hp hG hce hcv hcl => ?_) (fun s9 H locs hp hG => ?_)
  · skip
    obtain ⟨⟨rfl, hcx⟩, hs9⟩ := hp
    rw [hs9] at hG
    clear hs9
    exact g_out hnt hlocks hG hce hcv hcl (by
      refine ⟨?_, ⟨_, _, setT_self st⟩, hI⟩
      have hks := kPipe_s st a w
      first
        | exact ⟨0, rfl, by omega⟩
        | exact ⟨1, rfl, by omega⟩
        | exact ⟨2, rfl, by omega⟩) (Nat.le_of_ble_eq_true rfl) (Nat.le_of_ble_eq_true rfl)
  obtain ⟨hcr, hs9⟩ := hp
  rw [hs9] at hG
  clear hs9
  refine lv_aload_n hx hb dX5_cycles_14 rfl (lv_at hl 1 rfl) ?_
  refine lv_aload_n hx hb dX5_cycles_15 rfl (lv_at hl 0 rfl) ?_
  refine gx_gov hG hA (vx_runV (As := [.ref (ad (75 + 3 * q))]) (rest := []) ⟨hx, hb, hml, hown, hts⟩ (mX5_tellPipeline l D cy ad n st _ fz wb hn hI (by omega) (q) hlf hnl hR (by omega) (by omega)) (cwV 1 hts gX5_cycles_X5_tellPipeline rfl rfl rfl (by decide +kernel) ⟨Nat.le_of_ble_eq_true rfl, Nat.le_of_ble_eq_true rfl⟩) ⟨g_blind, va_recv hK hG.1 (q0 := 21 - 19) (ci := 5) rfl ((gw_at (k := 21) (by omega)).trans (by rw [gC_21 st ad cy])), g_pre hK hG hA hN hZ⟩ rfl rfl hl.1 rfl (lv_room (Nat.le_of_ble_eq_true rfl)) dX5_cycles_16 ⟨Nat.le_of_ble_eq_true rfl, Nat.le_of_ble_eq_true rfl⟩) (fun E9 st9 H locs ce9 q9 hp hG hce hcv hcl => ?_) (fun st1 H locs hp hG => ?_)
  · skip
    obtain ⟨⟨rfl, hcp0⟩, ⟨tf9, sg9, hs9⟩, hI⟩ := hp
    exact g_out hnt hlocks hG hce hcv hcl (by
      refine ⟨?_, ⟨tf9, sg9, hs9⟩, hI⟩
      rw [huq] at hcp0
      have hks := kPipe_s st a w
      first
        | exact ⟨0, rfl, by omega⟩
        | exact ⟨1, rfl, by omega⟩
        | exact ⟨2, rfl, by omega⟩) (Nat.le_of_ble_eq_true rfl) (Nat.le_of_ble_eq_true rfl)
  obtain ⟨hcp1, htp, hI⟩ := hp
  rw [huq] at hcp1 htp
  obtain ⟨tfq, sgq, hsq⟩ := tpP_ex htp
  have hI9 := hI
  refine lv_aload_n hx hb dX5_cycles_19 rfl (lv_at hl 1 rfl) ?_
  refine g_get hx hb hts hin5 hown hK hG (key := 21) (by omega) (gC_21 st1 ad cy) rfl 4 (by decide) L_38 (fun _ h9 => h9) rfl dX5_cycles_20 ?_
  refine lv_iload_n hx hb dX5_cycles_23 rfl (lv_at hl 3 rfl) ?_
  refine g_goi hG hA (va_runV (As := [.int (iI (w))]) (rest := []) ⟨hx, hb, hml, hown, hts⟩ (mX1_cyclesReckoned l D cy ad n st1 _ fz wb hn hI (by omega) (w) (by omega)) (cwV 1 hts gX5_cycles_X1_cyclesReckoned rfl rfl rfl (by decide +kernel) ⟨Nat.le_of_ble_eq_true rfl, Nat.le_of_ble_eq_true rfl⟩) ⟨g_blind, va_recv hK hG.1 (q0 := 28 - 19) (ci := 1) rfl ((gw_at (k := 28) (by omega)).trans (by rw [gC_28 st1 ad cy])), g_pre hK hG hA hN hZ⟩ rfl rfl hl.1 rfl (lv_room (Nat.le_of_ble_eq_true rfl)) dX5_cycles_24 ⟨Nat.le_of_ble_eq_true rfl, Nat.le_of_ble_eq_true rfl⟩) (fun r9 s9 H locs hp hG => ?_)
  obtain ⟨rfl, hs9⟩ := hp
  rw [hs9] at hG
  clear hs9
  refine r_nm (fun v2 ev2 => ?_)
  refine W.widen (k := 8) (n := 48) (by omega) (by omega) ?_
  refine vx_ret ?_
  exact g_iret hx hb hr hlocks hG (by
    have hks := kPipe_s st a w
    have hk0 : kPipe st a w = 0 := by omega
    refine ⟨hk0, ⟨?_, tfq, sgq, hsq⟩, hI⟩
    congr 1
    rw [← (tp_cyc hR hI0 hI9 htp (by omega) (by omega) hk0).1]
    assumption) dX5_cycles_27
set_option maxHeartbeats 400000 in
set_option maxRecDepth 100000 in
theorem mX5_cyclesAnew (l : Launch) (D : va_G) (cy : Nat → ClassId) (ad : Nat → Nat) (n : Nat) (st : St) (sz fz : Nat) (wb : Int) (hn : 75 ≤ n) (hI : GI wb st) (hW : wb ≤ 2000000) (a : Int) (w : Int) (ha : -2147483648 ≤ a ∧ a < 2147483648) (hw : -2147483648 ≤ w ∧ w < 2147483648) (hlf : l.stackTraces = false) (hnl : (n : Int) = 75 + 3 * st 33 0 0) (hR : RY st) : vx_Met l yX5_cyclesAnew wsX5_cyclesAnew ({ frames := 8, cells := 8, slots := 48, locals := 132 }) (va_Pc [.ref (ad 21), .int (iI (a)), .int (iI (w))] (gB D cy ad n st sz fz)) (va_Qi (fun (r : Int32) (st' : St) => kPipe st a w = 0 ∧ (r = iI (aCyc st a w) ∧ ∃ tf sg lf, st' = setP (setT st tf sg) lf) ∧ GI wb st') (gP D cy ad n) (gA n ad sz)) (gX D cy ad n (fun (E : String) (st' : St) => xE [xI, xA, xS] E (kPipe st a w) ∧ (∃ tf sg, st' = setT st tf sg) ∧ GI wb st') (gA n ad sz)) 8 48 (gA n ad sz) := by
  refine vx_ofW (cc := cX5_cyclesAnew) (maxL := 4) (ret := (some .int)) (by decide) rfl ?_
  intro p e s m args below meth c s₁ B hml hnt hv
  obtain ⟨rfl, hsz, hP, hK, hD0, hN, hZ⟩ := hv
  have hx := B.exec
  have hb := B.bytes
  have hr := B.returns
  have hts := atoms_spec (ws := wsX5_cyclesAnew) B.pre
  have hown : s.vm.findClass RX5 = some m.cls := findClass_of_methodNamed B.named
  have hlocks := B.notSynchronized
  subst hsz
  have hA : ∀ q : Nat, s.heap.size ≤ q → gA n ad s.heap.size q := fun q h => Or.inr h
  have hG : GH D cy ad n st (gA n ad s.heap.size) s.heap s.heap [] := ⟨hP, gw_A hD0, va_S.rf⟩
  have hl := lv_entry ([.ref (ad 21), .int (iI (a)), .int (iI (w))]) (n := 4) (Nat.le_of_ble_eq_true rfl)
  rw [lg_entry_eq]
  generalize (lg_sl ([.ref (ad 21), .int (iI (a)), .int (iI (w))]) ++ List.replicate (4 - (lg_sl ([.ref (ad 21), .int (iI (a)), .int (iI (w))])).length) Slot.unset).toArray = ls at hl ⊢
  have hl : lv_has ls 4 [(0, .ref (ad 21)), (1, .int (iI (a))), (2, .int (iI (w)))] := hl
  have hin5 : ∀ w ∈ u_ws RX5 TX5 6, w ∈ wsX5_cyclesAnew := by decide +kernel
  have hin0 : ∀ w ∈ u_ws RX0 TX0 8, w ∈ wsX5_cyclesAnew := by decide +kernel
  have hin1 : ∀ w ∈ u_ws RX1 TX1 3, w ∈ wsX5_cyclesAnew := by decide +kernel
  have L_38 := hts (.fieldLink RX5 38 "Crossbarry" "pipeline" "LCrossbarry$Pipeline;") (by decide +kernel)
  obtain ⟨⟨hR1, hR2, hR3, hR4⟩, hRl, hRw, hRr, hRc, hRt, hRo, hRk, hsc, hsi, hch, hun, hfr⟩ := id hR
  have h33 := gI_33 hI 0 0
  have hI0 := hI
  refine lv_aload_n hx hb dX5_cyclesAnew_0 rfl (lv_at hl 0 rfl) ?_
  refine lv_iload_n hx hb dX5_cyclesAnew_1 rfl (lv_at hl 1 rfl) ?_
  refine gx_gor hG hA (vx_runV (As := [.int (iI (a))]) (rest := []) ⟨hx, hb, hml, hown, hts⟩ (mX5_layerAt l D cy ad n st _ fz wb hn hI (by omega) (a) hlf hnl (by omega)) (cwV 1 hts gX5_cyclesAnew_X5_layerAt rfl rfl rfl (by decide +kernel) ⟨Nat.le_of_ble_eq_true rfl, Nat.le_of_ble_eq_true rfl⟩) ⟨g_blind, va_recv hK hG.1 (q0 := 21 - 19) (ci := 5) rfl ((gw_at (k := 21) (by omega)).trans (by rw [gC_21 st ad cy])), g_pre hK hG hA hN hZ⟩ rfl rfl hl.1 rfl (lv_room (Nat.le_of_ble_eq_true rfl)) dX5_cyclesAnew_2 ⟨Nat.le_of_ble_eq_true rfl, Nat.le_of_ble_eq_true rfl⟩) (fun E9 st9 H locs ce9 q9 hp hG hce hcv hcl => ?_) (fun s9 H locs hp hG => ?_)
  · skip
    obtain ⟨⟨rfl, hcx⟩, hs9⟩ := hp
    rw [hs9] at hG
    clear hs9
    exact g_out hnt hlocks hG hce hcv hcl (by
      refine ⟨?_, ⟨_, _, setT_self st⟩, hI⟩
      have hks := kPipe_s st a w
      first
        | exact ⟨0, rfl, by omega⟩
        | exact ⟨1, rfl, by omega⟩
        | exact ⟨2, rfl, by omega⟩) (Nat.le_of_ble_eq_true rfl) (Nat.le_of_ble_eq_true rfl)
  obtain ⟨hcr, hs9⟩ := hp
  rw [hs9] at hG
  clear hs9
  obtain ⟨q, hq⟩ : ∃ z9 : Nat, z9 = ((a)).toNat := ⟨_, rfl⟩
  rw [← hq]
  have huq : ((q : Nat) : Int) = (a) := by omega
  have hlq := hRl q (by omega)
  rw [huq] at hlq
  have h60 := gI_60 hI q 0
  have h61 := gI_61 hI q 0
  have hm6 := gI_14 hI 0 0
  refine lv_astore_n (lv' := [(3, .ref (ad (75 + 3 * q))), (0, .ref (ad 21)), (1, .int (iI (a))), (2, .int (iI (w)))]) hx hb dX5_cyclesAnew_5 rfl hl (by decide) rfl (fun ls hl => ?_)
  refine lv_iload_n hx hb dX5_cyclesAnew_6 rfl (lv_at hl 3 rfl) ?_
  refine lv_iconst (v := iI (1)) hx hb dX5_cyclesAnew_7 rfl ?_
  refine lv_sipush (v := iI (1000)) hx hb dX5_cyclesAnew_8 (by decide +kernel) ?_
  refine gx_gov hG hA (vx_runS (As := [.int (iI (w)), .int (iI (1)), .int (iI (1000))]) (rest := []) ⟨hx, hb, hml, hown, hts⟩ (mX5_checkArgument l D cy ad n st _ fz wb hn hI (by omega) (w) (1) (1000) hlf (by omega) (by omega) (by omega)) (va_cwS 3 hts gX5_cyclesAnew_X5_checkArgument rfl rfl rfl (by decide +kernel) ⟨Nat.le_of_ble_eq_true rfl, Nat.le_of_ble_eq_true rfl⟩) ⟨g_blind, g_pre hK hG hA hN hZ⟩ rfl rfl hl.1 rfl (lv_room (Nat.le_of_ble_eq_true rfl)) dX5_cyclesAnew_11 ⟨Nat.le_of_ble_eq_true rfl, Nat.le_of_ble_eq_true rfl⟩) (fun E9 st9 H locs ce9 q9 hp hG hce hcv hcl => ?_) (fun s9 H locs hp hG => ?_)
  · skip
    obtain ⟨⟨rfl, hcx⟩, hs9⟩ := hp
    rw [hs9] at hG
    clear hs9
    exact g_out hnt hlocks hG hce hcv hcl (by
      refine ⟨?_, ⟨_, _, setT_self st⟩, hI⟩
      have hks := kPipe_s st a w
      first
        | exact ⟨0, rfl, by omega⟩
        | exact ⟨1, rfl, by omega⟩
        | exact ⟨2, rfl, by omega⟩) (Nat.le_of_ble_eq_true rfl) (Nat.le_of_ble_eq_true rfl)
  obtain ⟨hcr, hs9⟩ := hp
  rw [hs9] at hG
  clear hs9
  refine lv_aload_n hx hb dX5_cyclesAnew_14 rfl (lv_at hl 1 rfl) ?_
  refine lv_aload_n hx hb dX5_cyclesAnew_15 rfl (lv_at hl 0 rfl) ?_
  refine gx_gov hG hA (vx_runV (As := [.ref (ad (75 + 3 * q))]) (rest := []) ⟨hx, hb, hml, hown, hts⟩ (mX5_tellPipeline l D cy ad n st _ fz wb hn hI (by omega) (q) hlf hnl hR (by omega) (by omega)) (cwV 1 hts gX5_cyclesAnew_X5_tellPipeline rfl rfl rfl (by decide +kernel) ⟨Nat.le_of_ble_eq_true rfl, Nat.le_of_ble_eq_true rfl⟩) ⟨g_blind, va_recv hK hG.1 (q0 := 21 - 19) (ci := 5) rfl ((gw_at (k := 21) (by omega)).trans (by rw [gC_21 st ad cy])), g_pre hK hG hA hN hZ⟩ rfl rfl hl.1 rfl (lv_room (Nat.le_of_ble_eq_true rfl)) dX5_cyclesAnew_16 ⟨Nat.le_of_ble_eq_true rfl, Nat.le_of_ble_eq_true rfl⟩) (fun E9 st9 H locs ce9 q9 hp hG hce hcv hcl => ?_) (fun st1 H locs hp hG => ?_)
  · skip
    obtain ⟨⟨rfl, hcp0⟩, ⟨tf9, sg9, hs9⟩, hI⟩ := hp
    exact g_out hnt hlocks hG hce hcv hcl (by
      refine ⟨?_, ⟨tf9, sg9, hs9⟩, hI⟩
      rw [huq] at hcp0
      have hks := kPipe_s st a w
      first
        | exact ⟨0, rfl, by omega⟩
        | exact ⟨1, rfl, by omega⟩
        | exact ⟨2, rfl, by omega⟩) (Nat.le_of_ble_eq_true rfl) (Nat.le_of_ble_eq_true rfl)
  obtain ⟨hcp1, htp, hI⟩ := hp
  rw [huq] at hcp1 htp
  obtain ⟨tfq, sgq, hsq⟩ := tpP_ex htp
  have hI9 := hI
  refine lv_aload_n hx hb dX5_cyclesAnew_19 rfl (lv_at hl 1 rfl) ?_
  refine g_get hx hb hts hin5 hown hK hG (key := 21) (by omega) (gC_21 st1 ad cy) rfl 4 (by decide) L_38 (fun _ h9 => h9) rfl dX5_cyclesAnew_20 ?_
  refine lv_iload_n hx hb dX5_cyclesAnew_23 rfl (lv_at hl 3 rfl) ?_
  refine g_goi hG hA (va_runV (As := [.int (iI (w))]) (rest := []) ⟨hx, hb, hml, hown, hts⟩ (mX1_cyclesCounted l D cy ad n st1 _ fz wb hn hI (by omega) (w) (by omega)) (cwV 1 hts gX5_cyclesAnew_X1_cyclesCounted rfl rfl rfl (by decide +kernel) ⟨Nat.le_of_ble_eq_true rfl, Nat.le_of_ble_eq_true rfl⟩) ⟨g_blind, va_recv hK hG.1 (q0 := 28 - 19) (ci := 1) rfl ((gw_at (k := 28) (by omega)).trans (by rw [gC_28 st1 ad cy])), g_pre hK hG hA hN hZ⟩ rfl rfl hl.1 rfl (lv_room (Nat.le_of_ble_eq_true rfl)) dX5_cyclesAnew_24 ⟨Nat.le_of_ble_eq_true rfl, Nat.le_of_ble_eq_true rfl⟩) (fun r9 st2 H locs hp hG => ?_)
  obtain ⟨rfl, hs9, hI⟩ := hp
  obtain ⟨lfz, hs9⟩ := hs9
  refine r_nm (fun v3 ev3 => ?_)
  refine W.widen (k := 8) (n := 48) (by omega) (by omega) ?_
  refine vx_ret ?_
  exact g_iret hx hb hr hlocks hG (by
    have hks := kPipe_s st a w
    have hk0 : kPipe st a w = 0 := by omega
    refine ⟨hk0, ⟨?_, cy_ex hsq hs9⟩, hI⟩
    congr 1
    rw [← (tp_cyc hR hI0 hI9 htp (by omega) (by omega) hk0).2]
    assumption) dX5_cyclesAnew_27
