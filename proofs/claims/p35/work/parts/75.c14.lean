set_option maxHeartbeats 400000 in
set_option maxRecDepth 100000 in
theorem mX5_checkIndex (l : Launch) (D : va_G) (cy : Nat → ClassId) (ad : Nat → Nat) (n : Nat) (st : St) (sz fz : Nat) (wb : Int) (hn : 75 ≤ n) (hI : GI wb st) (hW : wb ≤ 2000000) (i : Int) (nn : Int) (hlf : l.stackTraces = false) (hi : -2147483648 ≤ i ∧ i < 2147483648) (hnn : -2147483648 ≤ nn ∧ nn < 2147483648) : vx_Met l yX5_checkIndex wsX5_checkIndex ({ frames := 6, cells := 1, slots := 6, locals := 90 }) (va_Pc [.int (iI (i)), .int (iI (nn))] (gB D cy ad n st sz fz)) (va_Qv (fun (st' : St) => (0 ≤ i ∧ i < nn) ∧ st' = st) (gP D cy ad n) (gA n ad sz)) (gX D cy ad n (fun (E : String) (st' : St) => (E = xI ∧ ¬ (0 ≤ i ∧ i < nn)) ∧ st' = st) (gA n ad sz)) 1 6 (gA n ad sz) := by
  refine vx_ofW (cc := cX5_checkIndex) (maxL := 2) (ret := none) (by decide) rfl ?_
  intro p e s m args below meth c s₁ B hml hnt hv
  obtain ⟨rfl, hsz, hP, hK, hD0, hN, hZ⟩ := hv
  have hx := B.exec
  have hb := B.bytes
  have hr := B.returns
  have hts := atoms_spec (ws := wsX5_checkIndex) B.pre
  have hown : s.vm.findClass RX5 = some m.cls := findClass_of_methodNamed B.named
  have hlocks := B.notSynchronized
  subst hsz
  have hA : ∀ q : Nat, s.heap.size ≤ q → gA n ad s.heap.size q := fun q h => Or.inr h
  have hG : GH D cy ad n st (gA n ad s.heap.size) s.heap s.heap [] := ⟨hP, gw_A hD0, va_S.rf⟩
  have hl := lv_entry ([.int (iI (i)), .int (iI (nn))]) (n := 2) (Nat.le_of_ble_eq_true rfl)
  rw [lg_entry_eq]
  generalize (lg_sl ([.int (iI (i)), .int (iI (nn))]) ++ List.replicate (2 - (lg_sl ([.int (iI (i)), .int (iI (nn))])).length) Slot.unset).toArray = ls at hl ⊢
  have hl : lv_has ls 2 [(0, .int (iI (i))), (1, .int (iI (nn)))] := hl
  refine lv_iload_n hx hb dX5_checkIndex_0 rfl (lv_at hl 0 rfl) ?_
  refine r_if_lt (tgt := 9) hx hb (by omega) dX5_checkIndex_1 (by decide) (fun c1 => ?_) (fun c1 => ?_)
  · skip
    exact g_xthrow (ik := 241) (is := 250) (ic := 245) (cls := xI) (text := "there is no such one") hx hb hlf hown hts xftI xnbI xgdI (by decide +kernel) (by decide +kernel) (by decide +kernel) (by decide +kernel) hN hZ hG (hl.1.trans hml.symm) dX5_checkIndex_9 dX5_checkIndex_12 dX5_checkIndex_13 dX5_checkIndex_15 dX5_checkIndex_18 hnt (Nat.le_of_ble_eq_true rfl) (Nat.le_of_ble_eq_true rfl) (Nat.le_of_ble_eq_true rfl) (Nat.le_of_ble_eq_true rfl) hlocks (by
      exact ⟨⟨rfl, by omega⟩, rfl⟩) (Nat.le_of_ble_eq_true rfl) (Nat.le_of_ble_eq_true rfl)
  · skip
    refine lv_iload_n hx hb dX5_checkIndex_4 rfl (lv_at hl 0 rfl) ?_
    refine lv_iload_n hx hb dX5_checkIndex_5 rfl (lv_at hl 1 rfl) ?_
    refine r_icmp_lt (tgt := 19) hx hb (by omega) dX5_checkIndex_6 (by decide) (fun c2 => ?_) (fun c2 => ?_)
    · skip
      refine W.widen (k := 1) (n := 6) (by omega) (by omega) ?_
      refine vx_ret ?_
      exact g_vret hx hb hr hlocks hG (by
        exact ⟨by omega, rfl⟩) dX5_checkIndex_19
    · skip
      exact g_xthrow (ik := 241) (is := 250) (ic := 245) (cls := xI) (text := "there is no such one") hx hb hlf hown hts xftI xnbI xgdI (by decide +kernel) (by decide +kernel) (by decide +kernel) (by decide +kernel) hN hZ hG (hl.1.trans hml.symm) dX5_checkIndex_9 dX5_checkIndex_12 dX5_checkIndex_13 dX5_checkIndex_15 dX5_checkIndex_18 hnt (Nat.le_of_ble_eq_true rfl) (Nat.le_of_ble_eq_true rfl) (Nat.le_of_ble_eq_true rfl) (Nat.le_of_ble_eq_true rfl) hlocks (by
        exact ⟨⟨rfl, by omega⟩, rfl⟩) (Nat.le_of_ble_eq_true rfl) (Nat.le_of_ble_eq_true rfl)
set_option maxHeartbeats 400000 in
set_option maxRecDepth 100000 in
theorem mX5_checkArgument (l : Launch) (D : va_G) (cy : Nat → ClassId) (ad : Nat → Nat) (n : Nat) (st : St) (sz fz : Nat) (wb : Int) (hn : 75 ≤ n) (hI : GI wb st) (hW : wb ≤ 2000000) (v : Int) (lo : Int) (up : Int) (hlf : l.stackTraces = false) (hv0 : -2147483648 ≤ v ∧ v < 2147483648) (hlo : -2147483648 ≤ lo ∧ lo < 2147483648) (hup : -2147483648 ≤ up ∧ up < 2147483648) : vx_Met l yX5_checkArgument wsX5_checkArgument ({ frames := 6, cells := 1, slots := 6, locals := 90 }) (va_Pc [.int (iI (v)), .int (iI (lo)), .int (iI (up))] (gB D cy ad n st sz fz)) (va_Qv (fun (st' : St) => (lo ≤ v ∧ v ≤ up) ∧ st' = st) (gP D cy ad n) (gA n ad sz)) (gX D cy ad n (fun (E : String) (st' : St) => (E = xA ∧ ¬ (lo ≤ v ∧ v ≤ up)) ∧ st' = st) (gA n ad sz)) 1 6 (gA n ad sz) := by
  refine vx_ofW (cc := cX5_checkArgument) (maxL := 3) (ret := none) (by decide) rfl ?_
  intro p e s m args below meth c s₁ B hml hnt hv
  obtain ⟨rfl, hsz, hP, hK, hD0, hN, hZ⟩ := hv
  have hx := B.exec
  have hb := B.bytes
  have hr := B.returns
  have hts := atoms_spec (ws := wsX5_checkArgument) B.pre
  have hown : s.vm.findClass RX5 = some m.cls := findClass_of_methodNamed B.named
  have hlocks := B.notSynchronized
  subst hsz
  have hA : ∀ q : Nat, s.heap.size ≤ q → gA n ad s.heap.size q := fun q h => Or.inr h
  have hG : GH D cy ad n st (gA n ad s.heap.size) s.heap s.heap [] := ⟨hP, gw_A hD0, va_S.rf⟩
  have hl := lv_entry ([.int (iI (v)), .int (iI (lo)), .int (iI (up))]) (n := 3) (Nat.le_of_ble_eq_true rfl)
  rw [lg_entry_eq]
  generalize (lg_sl ([.int (iI (v)), .int (iI (lo)), .int (iI (up))]) ++ List.replicate (3 - (lg_sl ([.int (iI (v)), .int (iI (lo)), .int (iI (up))])).length) Slot.unset).toArray = ls at hl ⊢
  have hl : lv_has ls 3 [(0, .int (iI (v))), (1, .int (iI (lo))), (2, .int (iI (up)))] := hl
  refine lv_iload_n hx hb dX5_checkArgument_0 rfl (lv_at hl 0 rfl) ?_
  refine lv_iload_n hx hb dX5_checkArgument_1 rfl (lv_at hl 1 rfl) ?_
  refine r_icmp_lt (tgt := 10) hx hb (by omega) dX5_checkArgument_2 (by decide) (fun c1 => ?_) (fun c1 => ?_)
  · skip
    exact g_xthrow (ik := 90) (is := 252) (ic := 94) (cls := xA) (text := "an argument is out of range") hx hb hlf hown hts xftA xnbA xgdA (by decide +kernel) (by decide +kernel) (by decide +kernel) (by decide +kernel) hN hZ hG (hl.1.trans hml.symm) dX5_checkArgument_10 dX5_checkArgument_13 dX5_checkArgument_14 dX5_checkArgument_16 dX5_checkArgument_19 hnt (Nat.le_of_ble_eq_true rfl) (Nat.le_of_ble_eq_true rfl) (Nat.le_of_ble_eq_true rfl) (Nat.le_of_ble_eq_true rfl) hlocks (by
      exact ⟨⟨rfl, by omega⟩, rfl⟩) (Nat.le_of_ble_eq_true rfl) (Nat.le_of_ble_eq_true rfl)
  · skip
    refine lv_iload_n hx hb dX5_checkArgument_5 rfl (lv_at hl 0 rfl) ?_
    refine lv_iload_n hx hb dX5_checkArgument_6 rfl (lv_at hl 2 rfl) ?_
    refine r_icmp_le (tgt := 20) hx hb (by omega) dX5_checkArgument_7 (by decide) (fun c2 => ?_) (fun c2 => ?_)
    · skip
      refine W.widen (k := 1) (n := 6) (by omega) (by omega) ?_
      refine vx_ret ?_
      exact g_vret hx hb hr hlocks hG (by
        exact ⟨by omega, rfl⟩) dX5_checkArgument_20
    · skip
      exact g_xthrow (ik := 90) (is := 252) (ic := 94) (cls := xA) (text := "an argument is out of range") hx hb hlf hown hts xftA xnbA xgdA (by decide +kernel) (by decide +kernel) (by decide +kernel) (by decide +kernel) hN hZ hG (hl.1.trans hml.symm) dX5_checkArgument_10 dX5_checkArgument_13 dX5_checkArgument_14 dX5_checkArgument_16 dX5_checkArgument_19 hnt (Nat.le_of_ble_eq_true rfl) (Nat.le_of_ble_eq_true rfl) (Nat.le_of_ble_eq_true rfl) (Nat.le_of_ble_eq_true rfl) hlocks (by
        exact ⟨⟨rfl, by omega⟩, rfl⟩) (Nat.le_of_ble_eq_true rfl) (Nat.le_of_ble_eq_true rfl)
set_option maxHeartbeats 400000 in
set_option maxRecDepth 100000 in
theorem mX5_tileAt (l : Launch) (D : va_G) (cy : Nat → ClassId) (ad : Nat → Nat) (n : Nat) (st : St) (sz fz : Nat) (wb : Int) (hn : 75 ≤ n) (hI : GI wb st) (hW : wb ≤ 2000000) (a : Int) (hlf : l.stackTraces = false) (ha : -2147483648 ≤ a ∧ a < 2147483648) : vx_Met l yX5_tileAt wsX5_tileAt ({ frames := 6, cells := 1, slots := 6, locals := 90 }) (va_Pc [.ref (ad 21), .int (iI (a))] (gB D cy ad n st sz fz)) (va_Qr (fun (st' : St) => (0 ≤ a ∧ a < 6) ∧ st' = st) (fun st' ra t => ra = ad (33 + 7 * (a).toNat) ∧ gP D cy ad n st' t) (gA n ad sz)) (gX D cy ad n (fun (E : String) (st' : St) => (E = xI ∧ ¬ (0 ≤ a ∧ a < 6)) ∧ st' = st) (gA n ad sz)) 1 6 (gA n ad sz) := by
  refine vx_ofW (cc := cX5_tileAt) (maxL := 2) (ret := (some (.object "Crossbarry$Tile"))) (by decide) rfl ?_
  intro p e s m args below meth c s₁ B hml hnt hv
  obtain ⟨rfl, hsz, hP, hK, hD0, hN, hZ⟩ := hv
  have hx := B.exec
  have hb := B.bytes
  have hr := B.returns
  have hts := atoms_spec (ws := wsX5_tileAt) B.pre
  have hown : s.vm.findClass RX5 = some m.cls := findClass_of_methodNamed B.named
  have hlocks := B.notSynchronized
  subst hsz
  have hA : ∀ q : Nat, s.heap.size ≤ q → gA n ad s.heap.size q := fun q h => Or.inr h
  have hG : GH D cy ad n st (gA n ad s.heap.size) s.heap s.heap [] := ⟨hP, gw_A hD0, va_S.rf⟩
  have hl := lv_entry ([.ref (ad 21), .int (iI (a))]) (n := 2) (Nat.le_of_ble_eq_true rfl)
  rw [lg_entry_eq]
  generalize (lg_sl ([.ref (ad 21), .int (iI (a))]) ++ List.replicate (2 - (lg_sl ([.ref (ad 21), .int (iI (a))])).length) Slot.unset).toArray = ls at hl ⊢
  have hl : lv_has ls 2 [(0, .ref (ad 21)), (1, .int (iI (a)))] := hl
  have hin5 : ∀ w ∈ u_ws RX5 TX5 6, w ∈ wsX5_tileAt := by decide +kernel
  have L_18 := hts (.fieldLink RX5 18 "Crossbarry" "tiles" "[LCrossbarry$Tile;") (by decide +kernel)
  refine lv_iload_n hx hb dX5_tileAt_0 rfl (lv_at hl 1 rfl) ?_
  refine r_if_lt (tgt := 10) hx hb (by omega) dX5_tileAt_1 (by decide) (fun c1 => ?_) (fun c1 => ?_)
  · skip
    exact g_xthrow (ik := 241) (is := 246) (ic := 245) (cls := xI) (text := "there is no such tile") hx hb hlf hown hts xftI xnbI xgdI (by decide +kernel) (by decide +kernel) (by decide +kernel) (by decide +kernel) hN hZ hG (hl.1.trans hml.symm) dX5_tileAt_10 dX5_tileAt_13 dX5_tileAt_14 dX5_tileAt_16 dX5_tileAt_19 hnt (Nat.le_of_ble_eq_true rfl) (Nat.le_of_ble_eq_true rfl) (Nat.le_of_ble_eq_true rfl) (Nat.le_of_ble_eq_true rfl) hlocks (by
      exact ⟨⟨rfl, by omega⟩, rfl⟩) (Nat.le_of_ble_eq_true rfl) (Nat.le_of_ble_eq_true rfl)
  · skip
    refine lv_iload_n hx hb dX5_tileAt_4 rfl (lv_at hl 1 rfl) ?_
    refine lv_bipush (v := iI (6)) hx hb dX5_tileAt_5 (by decide +kernel) ?_
    refine r_icmp_lt (tgt := 20) hx hb (by omega) dX5_tileAt_7 (by decide) (fun c2 => ?_) (fun c2 => ?_)
    · skip
      refine lv_aload_n hx hb dX5_tileAt_20 rfl (lv_at hl 0 rfl) ?_
      refine g_get hx hb hts hin5 hown hK hG (key := 21) (by omega) (gC_21 st ad cy) rfl 1 (by decide) L_18 (fun _ h9 => h9) rfl dX5_tileAt_21 ?_
      refine lv_iload_n hx hb dX5_tileAt_24 rfl (lv_at hl 1 rfl) ?_
      refine g_tld hx hb hn hK hG (t := (a).toNat) (by omega) (by omega) dX5_tileAt_25 ?_
      refine W.widen (k := 1) (n := 6) (by omega) (by omega) ?_
      refine vx_ret ?_
      exact g_aret hx hb hr ⟨_, rfl⟩ hlocks hG (by
        exact ⟨by omega, rfl⟩) dX5_tileAt_26
    · skip
      exact g_xthrow (ik := 241) (is := 246) (ic := 245) (cls := xI) (text := "there is no such tile") hx hb hlf hown hts xftI xnbI xgdI (by decide +kernel) (by decide +kernel) (by decide +kernel) (by decide +kernel) hN hZ hG (hl.1.trans hml.symm) dX5_tileAt_10 dX5_tileAt_13 dX5_tileAt_14 dX5_tileAt_16 dX5_tileAt_19 hnt (Nat.le_of_ble_eq_true rfl) (Nat.le_of_ble_eq_true rfl) (Nat.le_of_ble_eq_true rfl) (Nat.le_of_ble_eq_true rfl) hlocks (by
        exact ⟨⟨rfl, by omega⟩, rfl⟩) (Nat.le_of_ble_eq_true rfl) (Nat.le_of_ble_eq_true rfl)
set_option maxHeartbeats 400000 in
set_option maxRecDepth 100000 in
theorem mX5_layerAt (l : Launch) (D : va_G) (cy : Nat → ClassId) (ad : Nat → Nat) (n : Nat) (st : St) (sz fz : Nat) (wb : Int) (hn : 75 ≤ n) (hI : GI wb st) (hW : wb ≤ 2000000) (a : Int) (hlf : l.stackTraces = false) (hnl : (n : Int) = 75 + 3 * st 33 0 0) (ha : -2147483648 ≤ a ∧ a < 2147483648) : vx_Met l yX5_layerAt wsX5_layerAt ({ frames := 6, cells := 1, slots := 6, locals := 90 }) (va_Pc [.ref (ad 21), .int (iI (a))] (gB D cy ad n st sz fz)) (va_Qr (fun (st' : St) => (0 ≤ a ∧ a < st 33 0 0) ∧ st' = st) (fun st' ra t => ra = ad (75 + 3 * (a).toNat) ∧ gP D cy ad n st' t) (gA n ad sz)) (gX D cy ad n (fun (E : String) (st' : St) => (E = xI ∧ ¬ (0 ≤ a ∧ a < st 33 0 0)) ∧ st' = st) (gA n ad sz)) 1 6 (gA n ad sz) := by
  refine vx_ofW (cc := cX5_layerAt) (maxL := 2) (ret := (some (.object "Crossbarry$Layer"))) (by decide) rfl ?_
  intro p e s m args below meth c s₁ B hml hnt hv
  obtain ⟨rfl, hsz, hP, hK, hD0, hN, hZ⟩ := hv
  have hx := B.exec
  have hb := B.bytes
  have hr := B.returns
  have hts := atoms_spec (ws := wsX5_layerAt) B.pre
  have hown : s.vm.findClass RX5 = some m.cls := findClass_of_methodNamed B.named
  have hlocks := B.notSynchronized
  subst hsz
  have hA : ∀ q : Nat, s.heap.size ≤ q → gA n ad s.heap.size q := fun q h => Or.inr h
  have hG : GH D cy ad n st (gA n ad s.heap.size) s.heap s.heap [] := ⟨hP, gw_A hD0, va_S.rf⟩
  have hl := lv_entry ([.ref (ad 21), .int (iI (a))]) (n := 2) (Nat.le_of_ble_eq_true rfl)
  rw [lg_entry_eq]
  generalize (lg_sl ([.ref (ad 21), .int (iI (a))]) ++ List.replicate (2 - (lg_sl ([.ref (ad 21), .int (iI (a))])).length) Slot.unset).toArray = ls at hl ⊢
  have hl : lv_has ls 2 [(0, .ref (ad 21)), (1, .int (iI (a)))] := hl
  have hin5 : ∀ w ∈ u_ws RX5 TX5 6, w ∈ wsX5_layerAt := by decide +kernel
  have L_24 := hts (.fieldLink RX5 24 "Crossbarry" "layers" "[LCrossbarry$Layer;") (by decide +kernel)
  have h33 := gI_33 hI 0 0
  refine lv_iload_n hx hb dX5_layerAt_0 rfl (lv_at hl 1 rfl) ?_
  refine r_if_lt (tgt := 19) hx hb (by omega) dX5_layerAt_1 (by decide) (fun c1 => ?_) (fun c1 => ?_)
  · skip
    exact g_xthrow (ik := 241) (is := 243) (ic := 245) (cls := xI) (text := "there is no such layer") hx hb hlf hown hts xftI xnbI xgdI (by decide +kernel) (by decide +kernel) (by decide +kernel) (by decide +kernel) hN hZ hG (hl.1.trans hml.symm) dX5_layerAt_19 dX5_layerAt_22 dX5_layerAt_23 dX5_layerAt_25 dX5_layerAt_28 hnt (Nat.le_of_ble_eq_true rfl) (Nat.le_of_ble_eq_true rfl) (Nat.le_of_ble_eq_true rfl) (Nat.le_of_ble_eq_true rfl) hlocks (by
      exact ⟨⟨rfl, by omega⟩, rfl⟩) (Nat.le_of_ble_eq_true rfl) (Nat.le_of_ble_eq_true rfl)
  · skip
    refine lv_iload_n hx hb dX5_layerAt_4 rfl (lv_at hl 1 rfl) ?_
    refine lv_bipush (v := iI (6)) hx hb dX5_layerAt_5 (by decide +kernel) ?_
    refine r_icmp_ge (tgt := 19) hx hb (by omega) dX5_layerAt_7 (by decide) (fun c2 => ?_) (fun c2 => ?_)
    · skip
      exact g_xthrow (ik := 241) (is := 243) (ic := 245) (cls := xI) (text := "there is no such layer") hx hb hlf hown hts xftI xnbI xgdI (by decide +kernel) (by decide +kernel) (by decide +kernel) (by decide +kernel) hN hZ hG (hl.1.trans hml.symm) dX5_layerAt_19 dX5_layerAt_22 dX5_layerAt_23 dX5_layerAt_25 dX5_layerAt_28 hnt (Nat.le_of_ble_eq_true rfl) (Nat.le_of_ble_eq_true rfl) (Nat.le_of_ble_eq_true rfl) (Nat.le_of_ble_eq_true rfl) hlocks (by
        exact ⟨⟨rfl, by omega⟩, rfl⟩) (Nat.le_of_ble_eq_true rfl) (Nat.le_of_ble_eq_true rfl)
    · skip
      refine lv_aload_n hx hb dX5_layerAt_10 rfl (lv_at hl 0 rfl) ?_
      refine g_get hx hb hts hin5 hown hK hG (key := 21) (by omega) (gC_21 st ad cy) rfl 2 (by decide) L_24 (fun _ h9 => h9) rfl dX5_layerAt_11 ?_
      refine lv_iload_n hx hb dX5_layerAt_14 rfl (lv_at hl 1 rfl) ?_
      refine g_lld hx hb hn hK hG (q := (a).toNat) (by omega) (by omega) dX5_layerAt_15 (fun hl3 => ?_) (fun hl3 => ?_)
      · skip
        refine lv_ifnonnull (tgt := 29) hx hb dX5_layerAt_16 (by decide) ?_
        refine lv_aload_n hx hb dX5_layerAt_29 rfl (lv_at hl 0 rfl) ?_
        refine g_get hx hb hts hin5 hown hK hG (key := 21) (by omega) (gC_21 st ad cy) rfl 2 (by decide) L_24 (fun _ h9 => h9) rfl dX5_layerAt_30 ?_
        refine lv_iload_n hx hb dX5_layerAt_33 rfl (lv_at hl 1 rfl) ?_
        refine g_lld hx hb hn hK hG (q := (a).toNat) (by omega) (by omega) dX5_layerAt_34 (fun _ => ?_) (fun h9 => absurd hl3 h9)
        refine W.widen (k := 1) (n := 6) (by omega) (by omega) ?_
        refine vx_ret ?_
        exact g_aret hx hb hr ⟨_, rfl⟩ hlocks hG (by
          exact ⟨by omega, rfl⟩) dX5_layerAt_35
      · skip
        refine lv_ifnonnullN hx hb dX5_layerAt_16 ?_
        exact g_xthrow (ik := 241) (is := 243) (ic := 245) (cls := xI) (text := "there is no such layer") hx hb hlf hown hts xftI xnbI xgdI (by decide +kernel) (by decide +kernel) (by decide +kernel) (by decide +kernel) hN hZ hG (hl.1.trans hml.symm) dX5_layerAt_19 dX5_layerAt_22 dX5_layerAt_23 dX5_layerAt_25 dX5_layerAt_28 hnt (Nat.le_of_ble_eq_true rfl) (Nat.le_of_ble_eq_true rfl) (Nat.le_of_ble_eq_true rfl) (Nat.le_of_ble_eq_true rfl) hlocks (by
          exact ⟨⟨rfl, by omega⟩, rfl⟩) (Nat.le_of_ble_eq_true rfl) (Nat.le_of_ble_eq_true rfl)
set_option maxHeartbeats 400000 in
set_option maxRecDepth 100000 in
theorem mX5_groundOf (l : Launch) (D : va_G) (cy : Nat → ClassId) (ad : Nat → Nat) (n : Nat) (st : St) (sz fz : Nat) (wb : Int) (hn : 75 ≤ n) (hI : GI wb st) (hW : wb ≤ 2000000) (q : Nat) (hlf : l.stackTraces = false) (hq : 77 + 3 * q < n) : vx_Met l yX5_groundOf wsX5_groundOf ({ frames := 6, cells := 1, slots := 6, locals := 90 }) (va_Pc [.ref (ad (75 + 3 * q))] (gB D cy ad n st sz fz)) (va_Qr (fun (st' : St) => 0 ≤ st 66 q 0 ∧ st' = st) (fun st' ra t => ra = ad (33 + 7 * (st 66 q 0).toNat) ∧ gP D cy ad n st' t) (gA n ad sz)) (gX D cy ad n (fun (E : String) (st' : St) => (E = xS ∧ ¬ (0 ≤ st 66 q 0)) ∧ st' = st) (gA n ad sz)) 1 6 (gA n ad sz) := by
  refine vx_ofW (cc := cX5_groundOf) (maxL := 1) (ret := (some (.object "Crossbarry$Tile"))) (by decide) rfl ?_
  intro p e s m args below meth c s₁ B hml hnt hv
  obtain ⟨rfl, hsz, hP, hK, hD0, hN, hZ⟩ := hv
  have hx := B.exec
  have hb := B.bytes
  have hr := B.returns
  have hts := atoms_spec (ws := wsX5_groundOf) B.pre
  have hown : s.vm.findClass RX5 = some m.cls := findClass_of_methodNamed B.named
  have hlocks := B.notSynchronized
  subst hsz
  have hA : ∀ q : Nat, s.heap.size ≤ q → gA n ad s.heap.size q := fun q h => Or.inr h
  have hG : GH D cy ad n st (gA n ad s.heap.size) s.heap s.heap [] := ⟨hP, gw_A hD0, va_S.rf⟩
  have hl := lv_entry ([.ref (ad (75 + 3 * q))]) (n := 1) (Nat.le_of_ble_eq_true rfl)
  rw [lg_entry_eq]
  generalize (lg_sl ([.ref (ad (75 + 3 * q))]) ++ List.replicate (1 - (lg_sl ([.ref (ad (75 + 3 * q))])).length) Slot.unset).toArray = ls at hl ⊢
  have hl : lv_has ls 1 [(0, .ref (ad (75 + 3 * q)))] := hl
  have hin0 : ∀ w ∈ u_ws RX0 TX0 8, w ∈ wsX5_groundOf := by decide +kernel
  have L_106 := hts (.fieldLink RX5 106 "Crossbarry$Layer" "ground" "LCrossbarry$Tile;") (by decide +kernel)
  refine lv_aload_n hx hb dX5_groundOf_0 rfl (lv_at hl 0 rfl) ?_
  refine g_get hx hb hts hin0 hown hK hG (key := 75 + 3 * q) (by omega) (gC_l st ad cy q) rfl 7 (by decide) L_106 (fun _ h9 => h9) rfl dX5_groundOf_1 ?_
  refine g_refs (fun hn1 => ?_) (fun t2 ht2 => ?_)
  · skip
    have hrhn1 := gI_66 hI q 0
    refine lv_ifnonnullN hx hb dX5_groundOf_4 ?_
    exact g_xthrow (ik := 53) (is := 248) (ic := 57) (cls := xS) (text := "the layer is not placed") hx hb hlf hown hts xftS xnbS xgdS (by decide +kernel) (by decide +kernel) (by decide +kernel) (by decide +kernel) hN hZ hG (hl.1.trans hml.symm) dX5_groundOf_7 dX5_groundOf_10 dX5_groundOf_11 dX5_groundOf_13 dX5_groundOf_16 hnt (Nat.le_of_ble_eq_true rfl) (Nat.le_of_ble_eq_true rfl) (Nat.le_of_ble_eq_true rfl) (Nat.le_of_ble_eq_true rfl) hlocks (by
      exact ⟨⟨rfl, by omega⟩, rfl⟩) (Nat.le_of_ble_eq_true rfl) (Nat.le_of_ble_eq_true rfl)
  · skip
    have hrt2 := gI_66 hI q 0
    have hbt2 : t2 < 6 := by omega
    refine lv_ifnonnull (tgt := 17) hx hb dX5_groundOf_4 (by decide) ?_
    refine lv_aload_n hx hb dX5_groundOf_17 rfl (lv_at hl 0 rfl) ?_
    refine g_get hx hb hts hin0 hown hK hG (key := 75 + 3 * q) (by omega) (gC_l st ad cy q) rfl 7 (by decide) L_106 (fun _ h9 => h9) rfl dX5_groundOf_18 ?_
    refine g_refs (fun hn9 => absurd hn9 (by omega)) (fun tz9 htz9 => ?_)
    rw [show tz9 = t2 by omega]
    clear htz9
    refine W.widen (k := 1) (n := 6) (by omega) (by omega) ?_
    refine vx_ret ?_
    rw [show ad (33 + 7 * t2) = ad (33 + 7 * (st 66 q 0).toNat) from congrArg ad (by omega)]
    exact g_aret hx hb hr ⟨_, rfl⟩ hlocks hG (by
      exact ⟨by omega, rfl⟩) dX5_groundOf_21
set_option maxHeartbeats 400000 in
set_option maxRecDepth 100000 in
theorem mX5_drawBehind (l : Launch) (D : va_G) (cy : Nat → ClassId) (ad : Nat → Nat) (n : Nat) (st : St) (sz fz : Nat) (wb : Int) (hn : 75 ≤ n) (hI : GI wb st) (hW : wb ≤ 2000000) (x : Int) (hx9 : 0 ≤ x ∧ x ≤ 65535) : Met l yX5_drawBehind wsX5_drawBehind ({ frames := 0, cells := 0, slots := 0, locals := 0 }) (va_Pc [.int (iI (x))] (gB D cy ad n st sz fz)) (va_Qi (fun (r : Int32) (st' : St) => r = iI (drF x) ∧ st' = st) (gP D cy ad n) (gA n ad sz)) 0 0 (gA n ad sz) := by
  refine Met.ofW (cc := cX5_drawBehind) (maxL := 1) (ret := (some .int)) (by decide) rfl ?_
  intro p e s m args below meth c s₁ B hml hv
  obtain ⟨rfl, hsz, hP, hK, hD0, hN, hZ⟩ := hv
  have hx := B.exec
  have hb := B.bytes
  have hr := B.returns
  have hts := atoms_spec (ws := wsX5_drawBehind) B.pre
  have hown : s.vm.findClass RX5 = some m.cls := findClass_of_methodNamed B.named
  have hlocks := B.notSynchronized
  subst hsz
  have hA : ∀ q : Nat, s.heap.size ≤ q → gA n ad s.heap.size q := fun q h => Or.inr h
  have hG : GH D cy ad n st (gA n ad s.heap.size) s.heap s.heap [] := ⟨hP, gw_A hD0, va_S.rf⟩
  have hl := lv_entry ([.int (iI (x))]) (n := 1) (Nat.le_of_ble_eq_true rfl)
  rw [lg_entry_eq]
  generalize (lg_sl ([.int (iI (x))]) ++ List.replicate (1 - (lg_sl ([.int (iI (x))])).length) Slot.unset).toArray = ls at hl ⊢
  have hl : lv_has ls 1 [(0, .int (iI (x)))] := hl
  have L_254 := hts (.constant RX5 254 (65536)) (by decide +kernel)
  refine lv_sipush (v := iI (25173)) hx hb dX5_drawBehind_0 (by decide +kernel) ?_
  refine lv_iload_n hx hb dX5_drawBehind_3 rfl (lv_at hl 0 rfl) ?_
  refine r_imul hx hb dX5_drawBehind_4 ?_
  refine r_nm (fun v1 ev1 => ?_)
  refine lv_sipush (v := iI (13849)) hx hb dX5_drawBehind_5 (by decide +kernel) ?_
  refine r_iadd hx hb dX5_drawBehind_8 ?_
  refine r_nm (fun v2 ev2 => ?_)
  refine lv_ldc hx hb hown L_254 dX5_drawBehind_9 ?_
  refine r_asI (y := 65536) (by decide +kernel) ?_
  refine r_irem hx hb (by omega) dX5_drawBehind_11 ?_
  refine r_nm (fun v3 ev3 => ?_)
  exact g_iret hx hb hr hlocks hG (by
    refine ⟨?_, rfl⟩
    congr 1
    unfold drF
    subst_vars
    rfl) dX5_drawBehind_12
set_option maxHeartbeats 400000 in
set_option maxRecDepth 100000 in
theorem mX5_weight (l : Launch) (D : va_G) (cy : Nat → ClassId) (ad : Nat → Nat) (n : Nat) (st : St) (sz fz : Nat) (wb : Int) (hn : 75 ≤ n) (hI : GI wb st) (hW : wb ≤ 2000000) (a : Int) (i : Int) (o : Int) (w : Int) (ha : -2147483648 ≤ a ∧ a < 2147483648) (hi : -2147483648 ≤ i ∧ i < 2147483648) (ho : -2147483648 ≤ o ∧ o < 2147483648) (hw : -2147483648 ≤ w ∧ w < 2147483648) (hlf : l.stackTraces = false) (hnl : (n : Int) = 75 + 3 * st 33 0 0) (hR : RY st) : vx_Met l yX5_weight wsX5_weight ({ frames := 7, cells := 4, slots := 24, locals := 112 }) (va_Pc [.ref (ad 21), .int (iI (a)), .int (iI (i)), .int (iI (o)), .int (iI (w))] (gB D cy ad n st sz fz)) (va_Qi (fun (r : Int32) (st' : St) => kWeight st a i o w = 0 ∧ (r = iI (st 62 (a).toNat (4 * i + o)) ∧ st' = ust st 62 (a).toNat (4 * i + o) w) ∧ GI wb st') (gP D cy ad n) (gA n ad sz)) (gX D cy ad n (fun (E : String) (st' : St) => xE [xI, xA] E (kWeight st a i o w) ∧ st' = st) (gA n ad sz)) 4 24 (gA n ad sz) := by
  refine vx_ofW (cc := cX5_weight) (maxL := 7) (ret := (some .int)) (by decide) rfl ?_
  intro p e s m args below meth c s₁ B hml hnt hv
  obtain ⟨rfl, hsz, hP, hK, hD0, hN, hZ⟩ := hv
  have hx := B.exec
  have hb := B.bytes
  have hr := B.returns
  have hts := atoms_spec (ws := wsX5_weight) B.pre
  have hown : s.vm.findClass RX5 = some m.cls := findClass_of_methodNamed B.named
  have hlocks := B.notSynchronized
  subst hsz
  have hA : ∀ q : Nat, s.heap.size ≤ q → gA n ad s.heap.size q := fun q h => Or.inr h
  have hG : GH D cy ad n st (gA n ad s.heap.size) s.heap s.heap [] := ⟨hP, gw_A hD0, va_S.rf⟩
  have hl := lv_entry ([.ref (ad 21), .int (iI (a)), .int (iI (i)), .int (iI (o)), .int (iI (w))]) (n := 7) (Nat.le_of_ble_eq_true rfl)
  rw [lg_entry_eq]
  generalize (lg_sl ([.ref (ad 21), .int (iI (a)), .int (iI (i)), .int (iI (o)), .int (iI (w))]) ++ List.replicate (7 - (lg_sl ([.ref (ad 21), .int (iI (a)), .int (iI (i)), .int (iI (o)), .int (iI (w))])).length) Slot.unset).toArray = ls at hl ⊢
  have hl : lv_has ls 7 [(0, .ref (ad 21)), (1, .int (iI (a))), (2, .int (iI (i))), (3, .int (iI (o))), (4, .int (iI (w)))] := hl
  have hin5 : ∀ w ∈ u_ws RX5 TX5 6, w ∈ wsX5_weight := by decide +kernel
  have hin0 : ∀ w ∈ u_ws RX0 TX0 8, w ∈ wsX5_weight := by decide +kernel
  have L_66 := hts (.fieldLink RX5 66 "Crossbarry$Layer" "inputs" "I") (by decide +kernel)
  have L_73 := hts (.fieldLink RX5 73 "Crossbarry$Layer" "outputs" "I") (by decide +kernel)
  obtain ⟨⟨hR1, hR2, hR3, hR4⟩, hRl, hRw, hRr, hRc, hRt, hRo, hRk, hsc, hsi, hch, hun, hfr⟩ := id hR
  have h33 := gI_33 hI 0 0
  refine lv_aload_n hx hb dX5_weight_0 rfl (lv_at hl 0 rfl) ?_
  refine lv_iload_n hx hb dX5_weight_1 rfl (lv_at hl 1 rfl) ?_
  refine gx_gor hG hA (vx_runV (As := [.int (iI (a))]) (rest := []) ⟨hx, hb, hml, hown, hts⟩ (mX5_layerAt l D cy ad n st _ fz wb hn hI (by omega) (a) hlf hnl (by omega)) (cwV 1 hts gX5_weight_X5_layerAt rfl rfl rfl (by decide +kernel) ⟨Nat.le_of_ble_eq_true rfl, Nat.le_of_ble_eq_true rfl⟩) ⟨g_blind, va_recv hK hG.1 (q0 := 21 - 19) (ci := 5) rfl ((gw_at (k := 21) (by omega)).trans (by rw [gC_21 st ad cy])), g_pre hK hG hA hN hZ⟩ rfl rfl hl.1 rfl (lv_room (Nat.le_of_ble_eq_true rfl)) dX5_weight_2 ⟨Nat.le_of_ble_eq_true rfl, Nat.le_of_ble_eq_true rfl⟩) (fun E9 st9 H locs ce9 q9 hp hG hce hcv hcl => ?_) (fun s9 H locs hp hG => ?_)
  · skip
    obtain ⟨⟨rfl, hcx⟩, hs9⟩ := hp
    rw [hs9] at hG
    clear hs9
    exact g_out hnt hlocks hG hce hcv hcl (by
      refine ⟨?_, rfl⟩
      have hks := kWeight_s st a i o w
      first
        | exact ⟨0, rfl, by omega⟩
        | exact ⟨1, rfl, by omega⟩
        | exact ⟨2, rfl, by omega⟩) (Nat.le_of_ble_eq_true rfl) (Nat.le_of_ble_eq_true rfl)
  obtain ⟨hcr, hs9⟩ := hp
  rw [hs9] at hG
  clear hs9
  obtain ⟨q, hq⟩ : ∃ z9 : Nat, z9 = ((a)).toNat := ⟨_, rfl⟩
  rw [← hq]
  have huq : ((q : Nat) : Int) = (a) := by omega
  have hlq := hRl q (by omega)
  rw [huq] at hlq
  refine lv_astore (lv' := [(5, .ref (ad (75 + 3 * q))), (0, .ref (ad 21)), (1, .int (iI (a))), (2, .int (iI (i))), (3, .int (iI (o))), (4, .int (iI (w)))]) hx hb dX5_weight_5 hl (by decide) rfl (fun ls hl => ?_)
  refine lv_iload_n hx hb dX5_weight_7 rfl (lv_at hl 3 rfl) ?_
  refine lv_aload hx hb dX5_weight_8 (lv_at hl 0 rfl) ?_
  refine g_get hx hb hts hin0 hown hK hG (key := 75 + 3 * q) (by omega) (gC_l st ad cy q) rfl 1 (by decide) L_66 (fun _ h9 => h9) rfl dX5_weight_10 ?_
  have hr1 := gI_60 hI (q) (0)
  refine r_nm (fun v2 ev2 => ?_)
  rw [← ev2] at hr1
  refine gx_gov hG hA (vx_runS (As := [.int (iI (i)), .int (iI (v2))]) (rest := []) ⟨hx, hb, hml, hown, hts⟩ (mX5_checkIndex l D cy ad n st _ fz wb hn hI (by omega) (i) (v2) hlf (by omega) (by omega)) (va_cwS 2 hts gX5_weight_X5_checkIndex rfl rfl rfl (by decide +kernel) ⟨Nat.le_of_ble_eq_true rfl, Nat.le_of_ble_eq_true rfl⟩) ⟨g_blind, g_pre hK hG hA hN hZ⟩ rfl rfl hl.1 rfl (lv_room (Nat.le_of_ble_eq_true rfl)) dX5_weight_13 ⟨Nat.le_of_ble_eq_true rfl, Nat.le_of_ble_eq_true rfl⟩) (fun E9 st9 H locs ce9 q9 hp hG hce hcv hcl => ?_) (fun s9 H locs hp hG => ?_)
  · skip
    obtain ⟨⟨rfl, hcx⟩, hs9⟩ := hp
    rw [hs9] at hG
    clear hs9
    exact g_out hnt hlocks hG hce hcv hcl (by
      refine ⟨?_, rfl⟩
      have hks := kWeight_s st a i o w
      first
        | exact ⟨0, rfl, by omega⟩
        | exact ⟨1, rfl, by omega⟩
        | exact ⟨2, rfl, by omega⟩) (Nat.le_of_ble_eq_true rfl) (Nat.le_of_ble_eq_true rfl)
  obtain ⟨hcr, hs9⟩ := hp
  rw [hs9] at hG
  clear hs9
  refine lv_iload_n hx hb dX5_weight_16 rfl (lv_at hl 4 rfl) ?_
  refine lv_aload hx hb dX5_weight_17 (lv_at hl 0 rfl) ?_
  refine g_get hx hb hts hin0 hown hK hG (key := 75 + 3 * q) (by omega) (gC_l st ad cy q) rfl 2 (by decide) L_73 (fun _ h9 => h9) rfl dX5_weight_19 ?_
  have hr3 := gI_61 hI (q) (0)
  refine r_nm (fun v4 ev4 => ?_)
  rw [← ev4] at hr3
  refine gx_gov hG hA (vx_runS (As := [.int (iI (o)), .int (iI (v4))]) (rest := []) ⟨hx, hb, hml, hown, hts⟩ (mX5_checkIndex l D cy ad n st _ fz wb hn hI (by omega) (o) (v4) hlf (by omega) (by omega)) (va_cwS 2 hts gX5_weight_X5_checkIndex rfl rfl rfl (by decide +kernel) ⟨Nat.le_of_ble_eq_true rfl, Nat.le_of_ble_eq_true rfl⟩) ⟨g_blind, g_pre hK hG hA hN hZ⟩ rfl rfl hl.1 rfl (lv_room (Nat.le_of_ble_eq_true rfl)) dX5_weight_22 ⟨Nat.le_of_ble_eq_true rfl, Nat.le_of_ble_eq_true rfl⟩) (fun E9 st9 H locs ce9 q9 hp hG hce hcv hcl => ?_) (fun s9 H locs hp hG => ?_)
  · skip
    obtain ⟨⟨rfl, hcx⟩, hs9⟩ := hp
    rw [hs9] at hG
    clear hs9
    exact g_out hnt hlocks hG hce hcv hcl (by
      refine ⟨?_, rfl⟩
      have hks := kWeight_s st a i o w
      first
        | exact ⟨0, rfl, by omega⟩
        | exact ⟨1, rfl, by omega⟩
        | exact ⟨2, rfl, by omega⟩) (Nat.le_of_ble_eq_true rfl) (Nat.le_of_ble_eq_true rfl)
  obtain ⟨hcr, hs9⟩ := hp
  rw [hs9] at hG
  clear hs9
  refine lv_iload hx hb dX5_weight_25 (lv_at hl 5 rfl) ?_
  refine lv_sipush (v := iI (-255)) hx hb dX5_weight_27 (by decide +kernel) ?_
  refine lv_sipush (v := iI (255)) hx hb dX5_weight_30 (by decide +kernel) ?_
  refine gx_gov hG hA (vx_runS (As := [.int (iI (w)), .int (iI (-255)), .int (iI (255))]) (rest := []) ⟨hx, hb, hml, hown, hts⟩ (mX5_checkArgument l D cy ad n st _ fz wb hn hI (by omega) (w) (-255) (255) hlf (by omega) (by omega) (by omega)) (va_cwS 3 hts gX5_weight_X5_checkArgument rfl rfl rfl (by decide +kernel) ⟨Nat.le_of_ble_eq_true rfl, Nat.le_of_ble_eq_true rfl⟩) ⟨g_blind, g_pre hK hG hA hN hZ⟩ rfl rfl hl.1 rfl (lv_room (Nat.le_of_ble_eq_true rfl)) dX5_weight_33 ⟨Nat.le_of_ble_eq_true rfl, Nat.le_of_ble_eq_true rfl⟩) (fun E9 st9 H locs ce9 q9 hp hG hce hcv hcl => ?_) (fun s9 H locs hp hG => ?_)
  · skip
    obtain ⟨⟨rfl, hcx⟩, hs9⟩ := hp
    rw [hs9] at hG
    clear hs9
    exact g_out hnt hlocks hG hce hcv hcl (by
      refine ⟨?_, rfl⟩
      have hks := kWeight_s st a i o w
      first
        | exact ⟨0, rfl, by omega⟩
        | exact ⟨1, rfl, by omega⟩
        | exact ⟨2, rfl, by omega⟩) (Nat.le_of_ble_eq_true rfl) (Nat.le_of_ble_eq_true rfl)
  obtain ⟨hcr, hs9⟩ := hp
  rw [hs9] at hG
  clear hs9
  refine lv_aload hx hb dX5_weight_36 (lv_at hl 0 rfl) ?_
  refine lv_iload_n hx hb dX5_weight_38 rfl (lv_at hl 3 rfl) ?_
  refine lv_iload_n hx hb dX5_weight_39 rfl (lv_at hl 4 rfl) ?_
  refine g_goi hG hA (va_runV (As := [.int (iI (i)), .int (iI (o))]) (rest := []) ⟨hx, hb, hml, hown, hts⟩ (mX0_weightOf l D cy ad n st _ fz wb hn hI (by omega) (q) (i) (o) (by omega) (by omega) (by omega)) (cwV 2 hts gX5_weight_X0_weightOf rfl rfl rfl (by decide +kernel) ⟨Nat.le_of_ble_eq_true rfl, Nat.le_of_ble_eq_true rfl⟩) ⟨g_blind, va_recv hK hG.1 (q0 := (75 + 3 * q) - 19) (ci := 0) rfl ((gw_at (k := 75 + 3 * q) (by omega)).trans (by rw [gC_l st ad cy q])), g_pre hK hG hA hN hZ⟩ rfl rfl hl.1 rfl (lv_room (Nat.le_of_ble_eq_true rfl)) dX5_weight_40 ⟨Nat.le_of_ble_eq_true rfl, Nat.le_of_ble_eq_true rfl⟩) (fun r9 s9 H locs hp hG => ?_)
  obtain ⟨rfl, hs9⟩ := hp
  rw [hs9] at hG
  clear hs9
  refine r_nm (fun v5 ev5 => ?_)
  have hr6 := gI_62 hI (q) (4 * (i) + (o))
  rw [← ev5] at hr6
  refine lv_istore (lv' := [(6, .int (iI (v5))), (5, .ref (ad (75 + 3 * q))), (0, .ref (ad 21)), (1, .int (iI (a))), (2, .int (iI (i))), (3, .int (iI (o))), (4, .int (iI (w)))]) hx hb dX5_weight_43 hl (by decide) rfl (fun ls hl => ?_)
  refine lv_aload hx hb dX5_weight_45 (lv_at hl 1 rfl) ?_
  refine lv_iload_n hx hb dX5_weight_47 rfl (lv_at hl 4 rfl) ?_
  refine lv_iload_n hx hb dX5_weight_48 rfl (lv_at hl 5 rfl) ?_
  refine lv_iload hx hb dX5_weight_49 (lv_at hl 6 rfl) ?_
  refine g_gov hG hA (va_runV (As := [.int (iI (i)), .int (iI (o)), .int (iI (w))]) (rest := []) ⟨hx, hb, hml, hown, hts⟩ (mX0_tellWeight l D cy ad n st _ fz wb hn hI (by omega) (q) (i) (o) (w) (by omega) (by omega) (by omega) (by omega)) (cwV 3 hts gX5_weight_X0_tellWeight rfl rfl rfl (by decide +kernel) ⟨Nat.le_of_ble_eq_true rfl, Nat.le_of_ble_eq_true rfl⟩) ⟨g_blind, va_recv hK hG.1 (q0 := (75 + 3 * q) - 19) (ci := 0) rfl ((gw_at (k := 75 + 3 * q) (by omega)).trans (by rw [gC_l st ad cy q])), g_pre hK hG hA hN hZ⟩ rfl rfl hl.1 rfl (lv_room (Nat.le_of_ble_eq_true rfl)) dX5_weight_51 ⟨Nat.le_of_ble_eq_true rfl, Nat.le_of_ble_eq_true rfl⟩) (fun st7 H locs hp => ?_)
  intro hG
  obtain ⟨hs9, hI⟩ := hp
  refine lv_iload hx hb dX5_weight_54 (lv_at hl 0 rfl) ?_
  refine W.widen (k := 4) (n := 24) (by omega) (by omega) ?_
  refine vx_ret ?_
  exact g_iret hx hb hr hlocks hG (by
    have hks := kWeight_s st a i o w
    refine ⟨by omega, ?_, hI⟩
    try rw [← hq]
    exact ⟨by subst_vars; rfl, hs9⟩) dX5_weight_56
set_option maxHeartbeats 400000 in
set_option maxRecDepth 100000 in
theorem mX5_shift (l : Launch) (D : va_G) (cy : Nat → ClassId) (ad : Nat → Nat) (n : Nat) (st : St) (sz fz : Nat) (wb : Int) (hn : 75 ≤ n) (hI : GI wb st) (hW : wb ≤ 2000000) (a : Int) (b : Int) (ha : -2147483648 ≤ a ∧ a < 2147483648) (hb : -2147483648 ≤ b ∧ b < 2147483648) (hlf : l.stackTraces = false) (hnl : (n : Int) = 75 + 3 * st 33 0 0) (hR : RY st) : vx_Met l yX5_shift wsX5_shift ({ frames := 7, cells := 2, slots := 12, locals := 112 }) (va_Pc [.ref (ad 21), .int (iI (a)), .int (iI (b))] (gB D cy ad n st sz fz)) (va_Qi (fun (r : Int32) (st' : St) => kShift st a b = 0 ∧ (r = iI (st 64 (a).toNat 0) ∧ st' = ust st 64 (a).toNat 0 b) ∧ GI wb st') (gP D cy ad n) (gA n ad sz)) (gX D cy ad n (fun (E : String) (st' : St) => xE [xI, xA] E (kShift st a b) ∧ st' = st) (gA n ad sz)) 2 12 (gA n ad sz) := by
  refine vx_ofW (cc := cX5_shift) (maxL := 5) (ret := (some .int)) (by decide) rfl ?_
  intro p e s m args below meth c s₁ B hml hnt hv
  obtain ⟨rfl, hsz, hP, hK, hD0, hN, hZ⟩ := hv
  have hx := B.exec
  have hb := B.bytes
  have hr := B.returns
  have hts := atoms_spec (ws := wsX5_shift) B.pre
  have hown : s.vm.findClass RX5 = some m.cls := findClass_of_methodNamed B.named
  have hlocks := B.notSynchronized
  subst hsz
  have hA : ∀ q : Nat, s.heap.size ≤ q → gA n ad s.heap.size q := fun q h => Or.inr h
  have hG : GH D cy ad n st (gA n ad s.heap.size) s.heap s.heap [] := ⟨hP, gw_A hD0, va_S.rf⟩
  have hl := lv_entry ([.ref (ad 21), .int (iI (a)), .int (iI (b))]) (n := 5) (Nat.le_of_ble_eq_true rfl)
  rw [lg_entry_eq]
  generalize (lg_sl ([.ref (ad 21), .int (iI (a)), .int (iI (b))]) ++ List.replicate (5 - (lg_sl ([.ref (ad 21), .int (iI (a)), .int (iI (b))])).length) Slot.unset).toArray = ls at hl ⊢
  have hl : lv_has ls 5 [(0, .ref (ad 21)), (1, .int (iI (a))), (2, .int (iI (b)))] := hl
  have hin5 : ∀ w ∈ u_ws RX5 TX5 6, w ∈ wsX5_shift := by decide +kernel
  have hin0 : ∀ w ∈ u_ws RX0 TX0 8, w ∈ wsX5_shift := by decide +kernel
  have L_83 := hts (.fieldLink RX5 83 "Crossbarry$Layer" "shiftBy" "I") (by decide +kernel)
  obtain ⟨⟨hR1, hR2, hR3, hR4⟩, hRl, hRw, hRr, hRc, hRt, hRo, hRk, hsc, hsi, hch, hun, hfr⟩ := id hR
  have h33 := gI_33 hI 0 0
  refine lv_aload_n hx hb dX5_shift_0 rfl (lv_at hl 0 rfl) ?_
  refine lv_iload_n hx hb dX5_shift_1 rfl (lv_at hl 1 rfl) ?_
  refine gx_gor hG hA (vx_runV (As := [.int (iI (a))]) (rest := []) ⟨hx, hb, hml, hown, hts⟩ (mX5_layerAt l D cy ad n st _ fz wb hn hI (by omega) (a) hlf hnl (by omega)) (cwV 1 hts gX5_shift_X5_layerAt rfl rfl rfl (by decide +kernel) ⟨Nat.le_of_ble_eq_true rfl, Nat.le_of_ble_eq_true rfl⟩) ⟨g_blind, va_recv hK hG.1 (q0 := 21 - 19) (ci := 5) rfl ((gw_at (k := 21) (by omega)).trans (by rw [gC_21 st ad cy])), g_pre hK hG hA hN hZ⟩ rfl rfl hl.1 rfl (lv_room (Nat.le_of_ble_eq_true rfl)) dX5_shift_2 ⟨Nat.le_of_ble_eq_true rfl, Nat.le_of_ble_eq_true rfl⟩) (fun E9 st9 H locs ce9 q9 hp hG hce hcv hcl => ?_) (fun s9 H locs hp hG => ?_)
  · skip
    obtain ⟨⟨rfl, hcx⟩, hs9⟩ := hp
    rw [hs9] at hG
    clear hs9
    exact g_out hnt hlocks hG hce hcv hcl (by
      refine ⟨?_, rfl⟩
      have hks := kShift_s st a b
      first
        | exact ⟨0, rfl, by omega⟩
        | exact ⟨1, rfl, by omega⟩
        | exact ⟨2, rfl, by omega⟩) (Nat.le_of_ble_eq_true rfl) (Nat.le_of_ble_eq_true rfl)
  obtain ⟨hcr, hs9⟩ := hp
  rw [hs9] at hG
  clear hs9
  obtain ⟨q, hq⟩ : ∃ z9 : Nat, z9 = ((a)).toNat := ⟨_, rfl⟩
  rw [← hq]
  have huq : ((q : Nat) : Int) = (a) := by omega
  have hlq := hRl q (by omega)
  rw [huq] at hlq
  refine lv_astore_n (lv' := [(3, .ref (ad (75 + 3 * q))), (0, .ref (ad 21)), (1, .int (iI (a))), (2, .int (iI (b)))]) hx hb dX5_shift_5 rfl hl (by decide) rfl (fun ls hl => ?_)
  refine lv_iload_n hx hb dX5_shift_6 rfl (lv_at hl 3 rfl) ?_
  refine lv_iconst (v := iI (0)) hx hb dX5_shift_7 rfl ?_
  refine lv_bipush (v := iI (20)) hx hb dX5_shift_8 (by decide +kernel) ?_
  refine gx_gov hG hA (vx_runS (As := [.int (iI (b)), .int (iI (0)), .int (iI (20))]) (rest := []) ⟨hx, hb, hml, hown, hts⟩ (mX5_checkArgument l D cy ad n st _ fz wb hn hI (by omega) (b) (0) (20) hlf (by omega) (by omega) (by omega)) (va_cwS 3 hts gX5_shift_X5_checkArgument rfl rfl rfl (by decide +kernel) ⟨Nat.le_of_ble_eq_true rfl, Nat.le_of_ble_eq_true rfl⟩) ⟨g_blind, g_pre hK hG hA hN hZ⟩ rfl rfl hl.1 rfl (lv_room (Nat.le_of_ble_eq_true rfl)) dX5_shift_10 ⟨Nat.le_of_ble_eq_true rfl, Nat.le_of_ble_eq_true rfl⟩) (fun E9 st9 H locs ce9 q9 hp hG hce hcv hcl => ?_) (fun s9 H locs hp hG => ?_)
  · skip
    obtain ⟨⟨rfl, hcx⟩, hs9⟩ := hp
    rw [hs9] at hG
    clear hs9
    exact g_out hnt hlocks hG hce hcv hcl (by
      refine ⟨?_, rfl⟩
      have hks := kShift_s st a b
      first
        | exact ⟨0, rfl, by omega⟩
        | exact ⟨1, rfl, by omega⟩
        | exact ⟨2, rfl, by omega⟩) (Nat.le_of_ble_eq_true rfl) (Nat.le_of_ble_eq_true rfl)
  obtain ⟨hcr, hs9⟩ := hp
  rw [hs9] at hG
  clear hs9
  refine lv_aload_n hx hb dX5_shift_13 rfl (lv_at hl 0 rfl) ?_
  refine g_get hx hb hts hin0 hown hK hG (key := 75 + 3 * q) (by omega) (gC_l st ad cy q) rfl 5 (by decide) L_83 (fun _ h9 => h9) rfl dX5_shift_14 ?_
  have hr1 := gI_64 hI (q) (0)
  refine r_nm (fun v2 ev2 => ?_)
  rw [← ev2] at hr1
  refine lv_istore (lv' := [(4, .int (iI (v2))), (3, .ref (ad (75 + 3 * q))), (0, .ref (ad 21)), (1, .int (iI (a))), (2, .int (iI (b)))]) hx hb dX5_shift_17 hl (by decide) rfl (fun ls hl => ?_)
  refine lv_aload_n hx hb dX5_shift_19 rfl (lv_at hl 1 rfl) ?_
  refine lv_iload_n hx hb dX5_shift_20 rfl (lv_at hl 4 rfl) ?_
  refine g_put hx hb hts hin0 tyX0 tyX0_ok nmX0 hown hK hG (key := 75 + 3 * q) (by omega) (gC_l st ad cy q) rfl 5 (by decide) L_83 (fun _ h9 => h9) rfl (ty := .int) (by decide +kernel) rfl rfl (Nat.le_of_ble_eq_true rfl) dX5_shift_21 (ust st 64 q 0 (b)) (fun j _ => gU_64 st ad cy (o := q) (b) j) (fun H locs hG => ?_)
  obtain ⟨st3, hst3⟩ : ∃ z : St, z = ust st 64 (q) (0) (b) := ⟨_, rfl⟩
  rw [← hst3] at hG
  replace hI := hst3 ▸ gIu_64 hI (q) (0) (v := b) (by omega)
  refine lv_iload hx hb dX5_shift_24 (lv_at hl 0 rfl) ?_
  refine W.widen (k := 2) (n := 12) (by omega) (by omega) ?_
  refine vx_ret ?_
  exact g_iret hx hb hr hlocks hG (by
    have hks := kShift_s st a b
    refine ⟨by omega, ?_, hI⟩
    try rw [← hq]
    exact ⟨by subst_vars; rfl, by subst_vars; rfl⟩) dX5_shift_26
set_option maxHeartbeats 400000 in
set_option maxRecDepth 100000 in
theorem mX5_drift (l : Launch) (D : va_G) (cy : Nat → ClassId) (ad : Nat → Nat) (n : Nat) (st : St) (sz fz : Nat) (wb : Int) (hn : 75 ≤ n) (hI : GI wb st) (hW : wb ≤ 2000000) (v : Int) (hv0 : -2147483648 ≤ v ∧ v < 2147483648) (hlf : l.stackTraces = false) (hnl : (n : Int) = 75 + 3 * st 33 0 0) (hR : RY st) : vx_Met l yX5_drift wsX5_drift ({ frames := 7, cells := 1, slots := 6, locals := 112 }) (va_Pc [.ref (ad 21), .int (iI (v))] (gB D cy ad n st sz fz)) (va_Qi (fun (r : Int32) (st' : St) => kRange 0 1000 v = 0 ∧ (r = iI (st 31 0 0) ∧ st' = ust st 31 0 0 v) ∧ GI wb st') (gP D cy ad n) (gA n ad sz)) (gX D cy ad n (fun (E : String) (st' : St) => xE [xA] E (kRange 0 1000 v) ∧ st' = st) (gA n ad sz)) 1 6 (gA n ad sz) := by
  refine vx_ofW (cc := cX5_drift) (maxL := 3) (ret := (some .int)) (by decide) rfl ?_
  intro p e s m args below meth c s₁ B hml hnt hv
  obtain ⟨rfl, hsz, hP, hK, hD0, hN, hZ⟩ := hv
  have hx := B.exec
  have hb := B.bytes
  have hr := B.returns
  have hts := atoms_spec (ws := wsX5_drift) B.pre
  have hown : s.vm.findClass RX5 = some m.cls := findClass_of_methodNamed B.named
  have hlocks := B.notSynchronized
  subst hsz
  have hA : ∀ q : Nat, s.heap.size ≤ q → gA n ad s.heap.size q := fun q h => Or.inr h
  have hG : GH D cy ad n st (gA n ad s.heap.size) s.heap s.heap [] := ⟨hP, gw_A hD0, va_S.rf⟩
  have hl := lv_entry ([.ref (ad 21), .int (iI (v))]) (n := 3) (Nat.le_of_ble_eq_true rfl)
  rw [lg_entry_eq]
  generalize (lg_sl ([.ref (ad 21), .int (iI (v))]) ++ List.replicate (3 - (lg_sl ([.ref (ad 21), .int (iI (v))])).length) Slot.unset).toArray = ls at hl ⊢
  have hl : lv_has ls 3 [(0, .ref (ad 21)), (1, .int (iI (v)))] := hl
  have hin5 : ∀ w ∈ u_ws RX5 TX5 6, w ∈ wsX5_drift := by decide +kernel
  have hin3 : ∀ w ∈ u_ws RX3 TX3 3, w ∈ wsX5_drift := by decide +kernel
  have L_12 := hts (.fieldLink RX5 12 "Crossbarry" "setting" "LCrossbarry$Setting;") (by decide +kernel)
  have L_144 := hts (.fieldLink RX5 144 "Crossbarry$Setting" "driftHours" "I") (by decide +kernel)
  obtain ⟨⟨hR1, hR2, hR3, hR4⟩, hRl, hRw, hRr, hRc, hRt, hRo, hRk, hsc, hsi, hch, hun, hfr⟩ := id hR
  have h33 := gI_33 hI 0 0
  refine lv_iload_n hx hb dX5_drift_0 rfl (lv_at hl 1 rfl) ?_
  refine lv_iconst (v := iI (0)) hx hb dX5_drift_1 rfl ?_
  refine lv_sipush (v := iI (1000)) hx hb dX5_drift_2 (by decide +kernel) ?_
  refine gx_gov hG hA (vx_runS (As := [.int (iI (v)), .int (iI (0)), .int (iI (1000))]) (rest := []) ⟨hx, hb, hml, hown, hts⟩ (mX5_checkArgument l D cy ad n st _ fz wb hn hI (by omega) (v) (0) (1000) hlf (by omega) (by omega) (by omega)) (va_cwS 3 hts gX5_drift_X5_checkArgument rfl rfl rfl (by decide +kernel) ⟨Nat.le_of_ble_eq_true rfl, Nat.le_of_ble_eq_true rfl⟩) ⟨g_blind, g_pre hK hG hA hN hZ⟩ rfl rfl hl.1 rfl (lv_room (Nat.le_of_ble_eq_true rfl)) dX5_drift_5 ⟨Nat.le_of_ble_eq_true rfl, Nat.le_of_ble_eq_true rfl⟩) (fun E9 st9 H locs ce9 q9 hp hG hce hcv hcl => ?_) (fun s9 H locs hp hG => ?_)
  · skip
    obtain ⟨⟨rfl, hcx⟩, hs9⟩ := hp
    rw [hs9] at hG
    clear hs9
    exact g_out hnt hlocks hG hce hcv hcl (by
      refine ⟨?_, rfl⟩
      have hks := kRange_s 0 1000 v
      first
        | exact ⟨0, rfl, by omega⟩
        | exact ⟨1, rfl, by omega⟩
        | exact ⟨2, rfl, by omega⟩) (Nat.le_of_ble_eq_true rfl) (Nat.le_of_ble_eq_true rfl)
  obtain ⟨hcr, hs9⟩ := hp
  rw [hs9] at hG
  clear hs9
  refine lv_aload_n hx hb dX5_drift_8 rfl (lv_at hl 0 rfl) ?_
  refine g_get hx hb hts hin5 hown hK hG (key := 21) (by omega) (gC_21 st ad cy) rfl 0 (by decide) L_12 (fun _ h9 => h9) rfl dX5_drift_9 ?_
  refine g_get hx hb hts hin3 hown hK hG (key := 22) (by omega) (gC_22 st ad cy) rfl 1 (by decide) L_144 (fun _ h9 => h9) rfl dX5_drift_12 ?_
  have hr1 := gI_31 hI (0) (0)
  refine r_nm (fun v2 ev2 => ?_)
  rw [← ev2] at hr1
  refine lv_istore_n (lv' := [(2, .int (iI (v2))), (0, .ref (ad 21)), (1, .int (iI (v)))]) hx hb dX5_drift_15 rfl hl (by decide) rfl (fun ls hl => ?_)
  refine lv_aload_n hx hb dX5_drift_16 rfl (lv_at hl 1 rfl) ?_
  refine g_get hx hb hts hin5 hown hK hG (key := 21) (by omega) (gC_21 st ad cy) rfl 0 (by decide) L_12 (fun _ h9 => h9) rfl dX5_drift_17 ?_
  refine lv_iload_n hx hb dX5_drift_20 rfl (lv_at hl 2 rfl) ?_
  refine g_put hx hb hts hin3 tyX3 tyX3_ok nmX3 hown hK hG (key := 22) (by omega) (gC_22 st ad cy) rfl 1 (by decide) L_144 (fun _ h9 => h9) rfl (ty := .int) (by decide +kernel) rfl rfl (Nat.le_of_ble_eq_true rfl) dX5_drift_21 (ust st 31 0 0 (v)) (fun j _ => gU_31 st ad cy (v) j) (fun H locs hG => ?_)
  obtain ⟨st3, hst3⟩ : ∃ z : St, z = ust st 31 (0) (0) (v) := ⟨_, rfl⟩
  rw [← hst3] at hG
  replace hI := hst3 ▸ gIu_31 hI (0) (0) (v := v) (by omega)
  refine lv_iload_n hx hb dX5_drift_24 rfl (lv_at hl 0 rfl) ?_
  refine W.widen (k := 1) (n := 6) (by omega) (by omega) ?_
  refine vx_ret ?_
  exact g_iret hx hb hr hlocks hG (by
    have hks := kRange_s 0 1000 v
    refine ⟨by omega, ?_, hI⟩
    exact ⟨by subst_vars; rfl, by subst_vars; rfl⟩) dX5_drift_25
set_option maxHeartbeats 400000 in
set_option maxRecDepth 100000 in
theorem mX5_hour (l : Launch) (D : va_G) (cy : Nat → ClassId) (ad : Nat → Nat) (n : Nat) (st : St) (sz fz : Nat) (wb : Int) (hn : 75 ≤ n) (hI : GI wb st) (hW : wb ≤ 2000000)   : Met l yX5_hour wsX5_hour ({ frames := 0, cells := 0, slots := 0, locals := 0 }) (va_Pc [.ref (ad 21)] (gB D cy ad n st sz fz)) (va_Qi (fun (r : Int32) (st' : St) => r = iI (st 30 0 0) ∧ st' = st) (gP D cy ad n) (gA n ad sz)) 0 0 (gA n ad sz) := by
  refine Met.ofW (cc := cX5_hour) (maxL := 1) (ret := (some .int)) (by decide) rfl ?_
  intro p e s m args below meth c s₁ B hml hv
  obtain ⟨rfl, hsz, hP, hK, hD0, hN, hZ⟩ := hv
  have hx := B.exec
  have hb := B.bytes
  have hr := B.returns
  have hts := atoms_spec (ws := wsX5_hour) B.pre
  have hown : s.vm.findClass RX5 = some m.cls := findClass_of_methodNamed B.named
  have hlocks := B.notSynchronized
  subst hsz
  have hA : ∀ q : Nat, s.heap.size ≤ q → gA n ad s.heap.size q := fun q h => Or.inr h
  have hG : GH D cy ad n st (gA n ad s.heap.size) s.heap s.heap [] := ⟨hP, gw_A hD0, va_S.rf⟩
  have hl := lv_entry ([.ref (ad 21)]) (n := 1) (Nat.le_of_ble_eq_true rfl)
  rw [lg_entry_eq]
  generalize (lg_sl ([.ref (ad 21)]) ++ List.replicate (1 - (lg_sl ([.ref (ad 21)])).length) Slot.unset).toArray = ls at hl ⊢
  have hl : lv_has ls 1 [(0, .ref (ad 21))] := hl
  have hin5 : ∀ w ∈ u_ws RX5 TX5 6, w ∈ wsX5_hour := by decide +kernel
  have hin3 : ∀ w ∈ u_ws RX3 TX3 3, w ∈ wsX5_hour := by decide +kernel
  have L_12 := hts (.fieldLink RX5 12 "Crossbarry" "setting" "LCrossbarry$Setting;") (by decide +kernel)
  have L_151 := hts (.fieldLink RX5 151 "Crossbarry$Setting" "now" "I") (by decide +kernel)
  refine lv_aload_n hx hb dX5_hour_0 rfl (lv_at hl 0 rfl) ?_
  refine g_get hx hb hts hin5 hown hK hG (key := 21) (by omega) (gC_21 st ad cy) rfl 0 (by decide) L_12 (fun _ h9 => h9) rfl dX5_hour_1 ?_
  refine g_get hx hb hts hin3 hown hK hG (key := 22) (by omega) (gC_22 st ad cy) rfl 0 (by decide) L_151 (fun _ h9 => h9) rfl dX5_hour_4 ?_
  have hr1 := gI_30 hI (0) (0)
  refine r_nm (fun v2 ev2 => ?_)
  rw [← ev2] at hr1
  exact g_iret hx hb hr hlocks hG (by
    refine ⟨?_, rfl⟩
    congr 1) dX5_hour_7
