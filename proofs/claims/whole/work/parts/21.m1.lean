set_option maxHeartbeats 400000 in
set_option maxRecDepth 100000 in
theorem mX6_in (l : Launch) (D : va_G) (cy : Nat → ClassId) (ad : Nat → Nat) (n : Nat) (st : St) (sz fz : Nat) (wb : Int) (hn : 75 ≤ n) (hI : GI wb st) (hW : wb ≤ 2000000) (v : Int) (lo : Int) (hi : Int) (hv : -2147483648 ≤ v ∧ v < 2147483648) (hlo : -2147483648 ≤ lo ∧ lo < 2147483648) (hhi : -2147483648 ≤ hi ∧ hi < 2147483648) : Met l yX6_in wsX6_in ({ frames := 0, cells := 0, slots := 0, locals := 0 }) (va_Pc [.int (iI (v)), .int (iI (lo)), .int (iI (hi))] (gB D cy ad n st sz fz)) (va_Qi (fun (r : Int32) (st' : St) => r = iI (inF v lo hi) ∧ st' = st) (gP D cy ad n) (gA n ad sz)) 0 0 (gA n ad sz) := by
  refine Met.ofW (cc := cX6_in) (maxL := 3) (ret := (some .boolean)) (by decide) rfl ?_
  intro p e s m args below meth c s₁ B hml hv
  obtain ⟨rfl, hsz, hP, hK, hD0, hN, hZ⟩ := hv
  have hx := B.exec
  have hb := B.bytes
  have hr := B.returns
  have hts := atoms_spec (ws := wsX6_in) B.pre
  have hown : s.vm.findClass RX6 = some m.cls := findClass_of_methodNamed B.named
  have hlocks := B.notSynchronized
  subst hsz
  have hA : ∀ q : Nat, s.heap.size ≤ q → gA n ad s.heap.size q := fun q h => Or.inr h
  have hG : GH D cy ad n st (gA n ad s.heap.size) s.heap s.heap [] := ⟨hP, gw_A hD0, va_S.rf⟩
  have hl := lv_entry ([.int (iI (v)), .int (iI (lo)), .int (iI (hi))]) (n := 3) (Nat.le_of_ble_eq_true rfl)
  rw [lg_entry_eq]
  generalize (lg_sl ([.int (iI (v)), .int (iI (lo)), .int (iI (hi))]) ++ List.replicate (3 - (lg_sl ([.int (iI (v)), .int (iI (lo)), .int (iI (hi))])).length) Slot.unset).toArray = ls at hl ⊢
  have hl : lv_has ls 3 [(0, .int (iI (v))), (1, .int (iI (lo))), (2, .int (iI (hi)))] := hl
  refine lv_iload_n hx hb dX6_in_0 rfl (lv_at hl 0 rfl) ?_
  refine lv_iload_n hx hb dX6_in_1 rfl (lv_at hl 1 rfl) ?_
  refine r_icmp_lt (tgt := 14) hx hb (by omega) dX6_in_2 (by decide) (fun c1 => ?_) (fun c1 => ?_)
  · skip
    refine lv_iconst (v := iI (0)) hx hb dX6_in_14 rfl ?_
    exact g_zret hx hb hr hlocks (narZ (by omega)) hG (by
      refine ⟨?_, rfl⟩
      congr 1
      have := inF_s v lo hi
      omega) dX6_in_15
  · skip
    refine lv_iload_n hx hb dX6_in_5 rfl (lv_at hl 0 rfl) ?_
    refine lv_iload_n hx hb dX6_in_6 rfl (lv_at hl 2 rfl) ?_
    refine r_icmp_gt (tgt := 14) hx hb (by omega) dX6_in_7 (by decide) (fun c2 => ?_) (fun c2 => ?_)
    · skip
      refine lv_iconst (v := iI (0)) hx hb dX6_in_14 rfl ?_
      exact g_zret hx hb hr hlocks (narZ (by omega)) hG (by
        refine ⟨?_, rfl⟩
        congr 1
        have := inF_s v lo hi
        omega) dX6_in_15
    · skip
      refine lv_iconst (v := iI (1)) hx hb dX6_in_10 rfl ?_
      refine lv_goto (tgt := 15) hx hb dX6_in_11 (by decide) ?_
      exact g_zret hx hb hr hlocks (narZ (by omega)) hG (by
        refine ⟨?_, rfl⟩
        congr 1
        have := inF_s v lo hi
        omega) dX6_in_15
set_option maxHeartbeats 400000 in
set_option maxRecDepth 100000 in
theorem mX6_isLayer (l : Launch) (D : va_G) (cy : Nat → ClassId) (ad : Nat → Nat) (n : Nat) (st : St) (sz fz : Nat) (wb : Int) (hn : 75 ≤ n) (hI : GI wb st) (hW : wb ≤ 2000000) (a : Int) (ha : -2147483648 ≤ a ∧ a < 2147483648) : Met l yX6_isLayer wsX6_isLayer ({ frames := 1, cells := 0, slots := 0, locals := 22 }) (va_Pc [.ref (ad 0), .int (iI (a))] (gB D cy ad n st sz fz)) (va_Qi (fun (r : Int32) (st' : St) => r = iI (inF a 0 (st 14 0 0 - 1)) ∧ st' = st) (gP D cy ad n) (gA n ad sz)) 0 0 (gA n ad sz) := by
  refine Met.ofW (cc := cX6_isLayer) (maxL := 2) (ret := (some .boolean)) (by decide) rfl ?_
  intro p e s m args below meth c s₁ B hml hv
  obtain ⟨rfl, hsz, hP, hK, hD0, hN, hZ⟩ := hv
  have hx := B.exec
  have hb := B.bytes
  have hr := B.returns
  have hts := atoms_spec (ws := wsX6_isLayer) B.pre
  have hown : s.vm.findClass RX6 = some m.cls := findClass_of_methodNamed B.named
  have hlocks := B.notSynchronized
  subst hsz
  have hA : ∀ q : Nat, s.heap.size ≤ q → gA n ad s.heap.size q := fun q h => Or.inr h
  have hG : GH D cy ad n st (gA n ad s.heap.size) s.heap s.heap [] := ⟨hP, gw_A hD0, va_S.rf⟩
  have hl := lv_entry ([.ref (ad 0), .int (iI (a))]) (n := 2) (Nat.le_of_ble_eq_true rfl)
  rw [lg_entry_eq]
  generalize (lg_sl ([.ref (ad 0), .int (iI (a))]) ++ List.replicate (2 - (lg_sl ([.ref (ad 0), .int (iI (a))])).length) Slot.unset).toArray = ls at hl ⊢
  have hl : lv_has ls 2 [(0, .ref (ad 0)), (1, .int (iI (a)))] := hl
  have hin6 : ∀ w ∈ u_ws RX6 TX6 25, w ∈ wsX6_isLayer := by decide +kernel
  have L_78 := hts (.fieldLink RX6 78 "CrossbarryModel" "many" "I") (by decide +kernel)
  refine lv_iload_n hx hb dX6_isLayer_0 rfl (lv_at hl 1 rfl) ?_
  refine lv_iconst (v := iI (0)) hx hb dX6_isLayer_1 rfl ?_
  refine lv_aload_n hx hb dX6_isLayer_2 rfl (lv_at hl 0 rfl) ?_
  refine g_get hx hb hts hin6 hown hK hG (key := 0) (by omega) (gC_0 st ad cy) rfl 14 (by decide) L_78 (fun _ h9 => h9) rfl dX6_isLayer_3 ?_
  have hr1 := gI_14 hI (0) (0)
  refine r_nm (fun v2 ev2 => ?_)
  rw [← ev2] at hr1
  refine lv_iconst (v := iI (1)) hx hb dX6_isLayer_6 rfl ?_
  refine r_isub hx hb dX6_isLayer_7 ?_
  refine r_nm (fun v3 ev3 => ?_)
  refine g_goi hG hA (va_runS (As := [.int (iI (a)), .int (iI (0)), .int (iI (v3))]) (rest := []) ⟨hx, hb, hml, hown, hts⟩ (mX6_in l D cy ad n st _ fz wb hn hI (by omega) (a) (0) (v3) (by omega) (by omega) (by omega)) (va_cwS 3 hts gX6_isLayer_X6_in rfl rfl rfl (by decide +kernel) ⟨Nat.le_of_ble_eq_true rfl, Nat.le_of_ble_eq_true rfl⟩) ⟨g_blind, g_pre hK hG hA hN hZ⟩ rfl rfl hl.1 rfl (lv_room (Nat.le_of_ble_eq_true rfl)) dX6_isLayer_8 ⟨Nat.zero_le _, Nat.zero_le _⟩) (fun r9 s9 H locs hp hG => ?_)
  obtain ⟨rfl, hs9⟩ := hp
  rw [hs9] at hG
  clear hs9
  refine r_nm (fun v4 ev4 => ?_)
  have hr5 := inF_s (a) (0) (v3)
  rw [← ev4] at hr5
  exact g_zret hx hb hr hlocks (narZ (by omega)) hG (by
    refine ⟨?_, rfl⟩
    congr 1
    subst_vars
    rfl) dX6_isLayer_11
set_option maxHeartbeats 400000 in
set_option maxRecDepth 100000 in
theorem mX6_isTile (l : Launch) (D : va_G) (cy : Nat → ClassId) (ad : Nat → Nat) (n : Nat) (st : St) (sz fz : Nat) (wb : Int) (hn : 75 ≤ n) (hI : GI wb st) (hW : wb ≤ 2000000) (a : Int) (ha : -2147483648 ≤ a ∧ a < 2147483648) : Met l yX6_isTile wsX6_isTile ({ frames := 1, cells := 0, slots := 0, locals := 22 }) (va_Pc [.int (iI (a))] (gB D cy ad n st sz fz)) (va_Qi (fun (r : Int32) (st' : St) => r = iI (inF a 0 5) ∧ st' = st) (gP D cy ad n) (gA n ad sz)) 0 0 (gA n ad sz) := by
  refine Met.ofW (cc := cX6_isTile) (maxL := 1) (ret := (some .boolean)) (by decide) rfl ?_
  intro p e s m args below meth c s₁ B hml hv
  obtain ⟨rfl, hsz, hP, hK, hD0, hN, hZ⟩ := hv
  have hx := B.exec
  have hb := B.bytes
  have hr := B.returns
  have hts := atoms_spec (ws := wsX6_isTile) B.pre
  have hown : s.vm.findClass RX6 = some m.cls := findClass_of_methodNamed B.named
  have hlocks := B.notSynchronized
  subst hsz
  have hA : ∀ q : Nat, s.heap.size ≤ q → gA n ad s.heap.size q := fun q h => Or.inr h
  have hG : GH D cy ad n st (gA n ad s.heap.size) s.heap s.heap [] := ⟨hP, gw_A hD0, va_S.rf⟩
  have hl := lv_entry ([.int (iI (a))]) (n := 1) (Nat.le_of_ble_eq_true rfl)
  rw [lg_entry_eq]
  generalize (lg_sl ([.int (iI (a))]) ++ List.replicate (1 - (lg_sl ([.int (iI (a))])).length) Slot.unset).toArray = ls at hl ⊢
  have hl : lv_has ls 1 [(0, .int (iI (a)))] := hl
  refine lv_iload_n hx hb dX6_isTile_0 rfl (lv_at hl 0 rfl) ?_
  refine lv_iconst (v := iI (0)) hx hb dX6_isTile_1 rfl ?_
  refine lv_iconst (v := iI (5)) hx hb dX6_isTile_2 rfl ?_
  refine g_goi hG hA (va_runS (As := [.int (iI (a)), .int (iI (0)), .int (iI (5))]) (rest := []) ⟨hx, hb, hml, hown, hts⟩ (mX6_in l D cy ad n st _ fz wb hn hI (by omega) (a) (0) (5) (by omega) (by omega) (by omega)) (va_cwS 3 hts gX6_isTile_X6_in rfl rfl rfl (by decide +kernel) ⟨Nat.le_of_ble_eq_true rfl, Nat.le_of_ble_eq_true rfl⟩) ⟨g_blind, g_pre hK hG hA hN hZ⟩ rfl rfl hl.1 rfl (lv_room (Nat.le_of_ble_eq_true rfl)) dX6_isTile_3 ⟨Nat.zero_le _, Nat.zero_le _⟩) (fun r9 s9 H locs hp hG => ?_)
  obtain ⟨rfl, hs9⟩ := hp
  rw [hs9] at hG
  clear hs9
  refine r_nm (fun v1 ev1 => ?_)
  have hr2 := inF_s (a) (0) (5)
  rw [← ev1] at hr2
  exact g_zret hx hb hr hlocks (narZ (by omega)) hG (by
    refine ⟨?_, rfl⟩
    congr 1) dX6_isTile_6
set_option maxHeartbeats 400000 in
set_option maxRecDepth 100000 in
theorem mX6_isCell (l : Launch) (D : va_G) (cy : Nat → ClassId) (ad : Nat → Nat) (n : Nat) (st : St) (sz fz : Nat) (wb : Int) (hn : 75 ≤ n) (hI : GI wb st) (hW : wb ≤ 2000000) (a : Int) (b : Int) (d : Int) (ha : -2147483648 ≤ a ∧ a < 2147483648) (hb0 : -2147483648 ≤ b ∧ b < 2147483648) (hd : -2147483648 ≤ d ∧ d < 2147483648) : Met l yX6_isCell wsX6_isCell ({ frames := 2, cells := 0, slots := 0, locals := 42 }) (va_Pc [.int (iI (a)), .int (iI (b)), .int (iI (d))] (gB D cy ad n st sz fz)) (va_Qi (fun (r : Int32) (st' : St) => r = iI (isCellF a b d) ∧ st' = st) (gP D cy ad n) (gA n ad sz)) 0 0 (gA n ad sz) := by
  refine Met.ofW (cc := cX6_isCell) (maxL := 3) (ret := (some .boolean)) (by decide) rfl ?_
  intro p e s m args below meth c s₁ B hml hv
  obtain ⟨rfl, hsz, hP, hK, hD0, hN, hZ⟩ := hv
  have hx := B.exec
  have hb := B.bytes
  have hr := B.returns
  have hts := atoms_spec (ws := wsX6_isCell) B.pre
  have hown : s.vm.findClass RX6 = some m.cls := findClass_of_methodNamed B.named
  have hlocks := B.notSynchronized
  subst hsz
  have hA : ∀ q : Nat, s.heap.size ≤ q → gA n ad s.heap.size q := fun q h => Or.inr h
  have hG : GH D cy ad n st (gA n ad s.heap.size) s.heap s.heap [] := ⟨hP, gw_A hD0, va_S.rf⟩
  have hl := lv_entry ([.int (iI (a)), .int (iI (b)), .int (iI (d))]) (n := 3) (Nat.le_of_ble_eq_true rfl)
  rw [lg_entry_eq]
  generalize (lg_sl ([.int (iI (a)), .int (iI (b)), .int (iI (d))]) ++ List.replicate (3 - (lg_sl ([.int (iI (a)), .int (iI (b)), .int (iI (d))])).length) Slot.unset).toArray = ls at hl ⊢
  have hl : lv_has ls 3 [(0, .int (iI (a))), (1, .int (iI (b))), (2, .int (iI (d)))] := hl
  refine lv_iload_n hx hb dX6_isCell_0 rfl (lv_at hl 0 rfl) ?_
  refine g_goi hG hA (va_runS (As := [.int (iI (a))]) (rest := []) ⟨hx, hb, hml, hown, hts⟩ (mX6_isTile l D cy ad n st _ fz wb hn hI (by omega) (a) (by omega)) (va_cwS 1 hts gX6_isCell_X6_isTile rfl rfl rfl (by decide +kernel) ⟨Nat.le_of_ble_eq_true rfl, Nat.le_of_ble_eq_true rfl⟩) ⟨g_blind, g_pre hK hG hA hN hZ⟩ rfl rfl hl.1 rfl (lv_room (Nat.le_of_ble_eq_true rfl)) dX6_isCell_1 ⟨Nat.zero_le _, Nat.zero_le _⟩) (fun r9 s9 H locs hp hG => ?_)
  obtain ⟨rfl, hs9⟩ := hp
  rw [hs9] at hG
  clear hs9
  refine r_nm (fun v1 ev1 => ?_)
  have hr2 := inF_s (a) 0 5
  rw [← ev1] at hr2
  refine r_if_eq (tgt := 31) hx hb (by omega) dX6_isCell_4 (by decide) (fun c3 => ?_) (fun c3 => ?_)
  · skip
    refine lv_iconst (v := iI (0)) hx hb dX6_isCell_31 rfl ?_
    exact g_zret hx hb hr hlocks (narZ (by omega)) hG (by
      refine ⟨?_, rfl⟩
      congr 1
      have := isCellF_s a b d
      omega) dX6_isCell_32
  · skip
    refine lv_iload_n hx hb dX6_isCell_7 rfl (lv_at hl 1 rfl) ?_
    refine lv_iconst (v := iI (0)) hx hb dX6_isCell_8 rfl ?_
    refine lv_bipush (v := iI (7)) hx hb dX6_isCell_9 (by decide +kernel) ?_
    refine g_goi hG hA (va_runS (As := [.int (iI (b)), .int (iI (0)), .int (iI (7))]) (rest := []) ⟨hx, hb, hml, hown, hts⟩ (mX6_in l D cy ad n st _ fz wb hn hI (by omega) (b) (0) (7) (by omega) (by omega) (by omega)) (va_cwS 3 hts gX6_isCell_X6_in rfl rfl rfl (by decide +kernel) ⟨Nat.le_of_ble_eq_true rfl, Nat.le_of_ble_eq_true rfl⟩) ⟨g_blind, g_pre hK hG hA hN hZ⟩ rfl rfl hl.1 rfl (lv_room (Nat.le_of_ble_eq_true rfl)) dX6_isCell_11 ⟨Nat.zero_le _, Nat.zero_le _⟩) (fun r9 s9 H locs hp hG => ?_)
    obtain ⟨rfl, hs9⟩ := hp
    rw [hs9] at hG
    clear hs9
    refine r_nm (fun v4 ev4 => ?_)
    have hr5 := inF_s (b) (0) (7)
    rw [← ev4] at hr5
    refine r_if_eq (tgt := 31) hx hb (by omega) dX6_isCell_14 (by decide) (fun c6 => ?_) (fun c6 => ?_)
    · skip
      refine lv_iconst (v := iI (0)) hx hb dX6_isCell_31 rfl ?_
      exact g_zret hx hb hr hlocks (narZ (by omega)) hG (by
        refine ⟨?_, rfl⟩
        congr 1
        have := isCellF_s a b d
        omega) dX6_isCell_32
    · skip
      refine lv_iload_n hx hb dX6_isCell_17 rfl (lv_at hl 2 rfl) ?_
      refine lv_iconst (v := iI (0)) hx hb dX6_isCell_18 rfl ?_
      refine lv_bipush (v := iI (15)) hx hb dX6_isCell_19 (by decide +kernel) ?_
      refine g_goi hG hA (va_runS (As := [.int (iI (d)), .int (iI (0)), .int (iI (15))]) (rest := []) ⟨hx, hb, hml, hown, hts⟩ (mX6_in l D cy ad n st _ fz wb hn hI (by omega) (d) (0) (15) (by omega) (by omega) (by omega)) (va_cwS 3 hts gX6_isCell_X6_in rfl rfl rfl (by decide +kernel) ⟨Nat.le_of_ble_eq_true rfl, Nat.le_of_ble_eq_true rfl⟩) ⟨g_blind, g_pre hK hG hA hN hZ⟩ rfl rfl hl.1 rfl (lv_room (Nat.le_of_ble_eq_true rfl)) dX6_isCell_21 ⟨Nat.zero_le _, Nat.zero_le _⟩) (fun r9 s9 H locs hp hG => ?_)
      obtain ⟨rfl, hs9⟩ := hp
      rw [hs9] at hG
      clear hs9
      refine r_nm (fun v7 ev7 => ?_)
      have hr8 := inF_s (d) (0) (15)
      rw [← ev7] at hr8
      refine r_if_eq (tgt := 31) hx hb (by omega) dX6_isCell_24 (by decide) (fun c9 => ?_) (fun c9 => ?_)
      · skip
        refine lv_iconst (v := iI (0)) hx hb dX6_isCell_31 rfl ?_
        exact g_zret hx hb hr hlocks (narZ (by omega)) hG (by
          refine ⟨?_, rfl⟩
          congr 1
          have := isCellF_s a b d
          omega) dX6_isCell_32
      · skip
        refine lv_iconst (v := iI (1)) hx hb dX6_isCell_27 rfl ?_
        refine lv_goto (tgt := 32) hx hb dX6_isCell_28 (by decide) ?_
        exact g_zret hx hb hr hlocks (narZ (by omega)) hG (by
          refine ⟨?_, rfl⟩
          congr 1
          have := isCellF_s a b d
          omega) dX6_isCell_32
set_option maxHeartbeats 400000 in
set_option maxRecDepth 100000 in
theorem mX6_cellAt (l : Launch) (D : va_G) (cy : Nat → ClassId) (ad : Nat → Nat) (n : Nat) (st : St) (sz fz : Nat) (wb : Int) (hn : 75 ≤ n) (hI : GI wb st) (hW : wb ≤ 2000000) (a : Int) (b : Int) (d : Int)  : Met l yX6_cellAt wsX6_cellAt ({ frames := 0, cells := 0, slots := 0, locals := 0 }) (va_Pc [.int (iI (a)), .int (iI (b)), .int (iI (d))] (gB D cy ad n st sz fz)) (va_Qi (fun (r : Int32) (st' : St) => r = iI (128 * a + 16 * b + d) ∧ st' = st) (gP D cy ad n) (gA n ad sz)) 0 0 (gA n ad sz) := by
  refine Met.ofW (cc := cX6_cellAt) (maxL := 3) (ret := (some .int)) (by decide) rfl ?_
  intro p e s m args below meth c s₁ B hml hv
  obtain ⟨rfl, hsz, hP, hK, hD0, hN, hZ⟩ := hv
  have hx := B.exec
  have hb := B.bytes
  have hr := B.returns
  have hts := atoms_spec (ws := wsX6_cellAt) B.pre
  have hown : s.vm.findClass RX6 = some m.cls := findClass_of_methodNamed B.named
  have hlocks := B.notSynchronized
  subst hsz
  have hA : ∀ q : Nat, s.heap.size ≤ q → gA n ad s.heap.size q := fun q h => Or.inr h
  have hG : GH D cy ad n st (gA n ad s.heap.size) s.heap s.heap [] := ⟨hP, gw_A hD0, va_S.rf⟩
  have hl := lv_entry ([.int (iI (a)), .int (iI (b)), .int (iI (d))]) (n := 3) (Nat.le_of_ble_eq_true rfl)
  rw [lg_entry_eq]
  generalize (lg_sl ([.int (iI (a)), .int (iI (b)), .int (iI (d))]) ++ List.replicate (3 - (lg_sl ([.int (iI (a)), .int (iI (b)), .int (iI (d))])).length) Slot.unset).toArray = ls at hl ⊢
  have hl : lv_has ls 3 [(0, .int (iI (a))), (1, .int (iI (b))), (2, .int (iI (d)))] := hl
  refine lv_sipush (v := iI (128)) hx hb dX6_cellAt_0 (by decide +kernel) ?_
  refine lv_iload_n hx hb dX6_cellAt_3 rfl (lv_at hl 0 rfl) ?_
  refine r_imul hx hb dX6_cellAt_4 ?_
  refine r_nm (fun v1 ev1 => ?_)
  refine lv_bipush (v := iI (16)) hx hb dX6_cellAt_5 (by decide +kernel) ?_
  refine lv_iload_n hx hb dX6_cellAt_7 rfl (lv_at hl 1 rfl) ?_
  refine r_imul hx hb dX6_cellAt_8 ?_
  refine r_nm (fun v2 ev2 => ?_)
  refine r_iadd hx hb dX6_cellAt_9 ?_
  refine r_nm (fun v3 ev3 => ?_)
  refine lv_iload_n hx hb dX6_cellAt_10 rfl (lv_at hl 2 rfl) ?_
  refine r_iadd hx hb dX6_cellAt_11 ?_
  refine r_nm (fun v4 ev4 => ?_)
  exact g_iret hx hb hr hlocks hG (by
    refine ⟨?_, rfl⟩
    congr 1
    omega) dX6_cellAt_12
set_option maxHeartbeats 400000 in
set_option maxRecDepth 100000 in
theorem mX6_weightAt (l : Launch) (D : va_G) (cy : Nat → ClassId) (ad : Nat → Nat) (n : Nat) (st : St) (sz fz : Nat) (wb : Int) (hn : 75 ≤ n) (hI : GI wb st) (hW : wb ≤ 2000000) (a : Int) (b : Int) (d : Int)  : Met l yX6_weightAt wsX6_weightAt ({ frames := 0, cells := 0, slots := 0, locals := 0 }) (va_Pc [.int (iI (a)), .int (iI (b)), .int (iI (d))] (gB D cy ad n st sz fz)) (va_Qi (fun (r : Int32) (st' : St) => r = iI (32 * a + 4 * b + d) ∧ st' = st) (gP D cy ad n) (gA n ad sz)) 0 0 (gA n ad sz) := by
  refine Met.ofW (cc := cX6_weightAt) (maxL := 3) (ret := (some .int)) (by decide) rfl ?_
  intro p e s m args below meth c s₁ B hml hv
  obtain ⟨rfl, hsz, hP, hK, hD0, hN, hZ⟩ := hv
  have hx := B.exec
  have hb := B.bytes
  have hr := B.returns
  have hts := atoms_spec (ws := wsX6_weightAt) B.pre
  have hown : s.vm.findClass RX6 = some m.cls := findClass_of_methodNamed B.named
  have hlocks := B.notSynchronized
  subst hsz
  have hA : ∀ q : Nat, s.heap.size ≤ q → gA n ad s.heap.size q := fun q h => Or.inr h
  have hG : GH D cy ad n st (gA n ad s.heap.size) s.heap s.heap [] := ⟨hP, gw_A hD0, va_S.rf⟩
  have hl := lv_entry ([.int (iI (a)), .int (iI (b)), .int (iI (d))]) (n := 3) (Nat.le_of_ble_eq_true rfl)
  rw [lg_entry_eq]
  generalize (lg_sl ([.int (iI (a)), .int (iI (b)), .int (iI (d))]) ++ List.replicate (3 - (lg_sl ([.int (iI (a)), .int (iI (b)), .int (iI (d))])).length) Slot.unset).toArray = ls at hl ⊢
  have hl : lv_has ls 3 [(0, .int (iI (a))), (1, .int (iI (b))), (2, .int (iI (d)))] := hl
  refine lv_bipush (v := iI (32)) hx hb dX6_weightAt_0 (by decide +kernel) ?_
  refine lv_iload_n hx hb dX6_weightAt_2 rfl (lv_at hl 0 rfl) ?_
  refine r_imul hx hb dX6_weightAt_3 ?_
  refine r_nm (fun v1 ev1 => ?_)
  refine lv_iconst (v := iI (4)) hx hb dX6_weightAt_4 rfl ?_
  refine lv_iload_n hx hb dX6_weightAt_5 rfl (lv_at hl 1 rfl) ?_
  refine r_imul hx hb dX6_weightAt_6 ?_
  refine r_nm (fun v2 ev2 => ?_)
  refine r_iadd hx hb dX6_weightAt_7 ?_
  refine r_nm (fun v3 ev3 => ?_)
  refine lv_iload_n hx hb dX6_weightAt_8 rfl (lv_at hl 2 rfl) ?_
  refine r_iadd hx hb dX6_weightAt_9 ?_
  refine r_nm (fun v4 ev4 => ?_)
  exact g_iret hx hb hr hlocks hG (by
    refine ⟨?_, rfl⟩
    congr 1
    omega) dX6_weightAt_10
set_option maxHeartbeats 400000 in
set_option maxRecDepth 100000 in
theorem mX6_thrown (l : Launch) (D : va_G) (cy : Nat → ClassId) (ad : Nat → Nat) (n : Nat) (st : St) (sz fz : Nat) (wb : Int) (hn : 75 ≤ n) (hI : GI wb st) (hW : wb ≤ 2000000)   : Met l yX6_thrown wsX6_thrown ({ frames := 0, cells := 0, slots := 0, locals := 0 }) (va_Pc [.ref (ad 0)] (gB D cy ad n st sz fz)) (va_Qi (fun (r : Int32) (st' : St) => r = iI (st 0 0 0) ∧ st' = st) (gP D cy ad n) (gA n ad sz)) 0 0 (gA n ad sz) := by
  refine Met.ofW (cc := cX6_thrown) (maxL := 1) (ret := (some .int)) (by decide) rfl ?_
  intro p e s m args below meth c s₁ B hml hv
  obtain ⟨rfl, hsz, hP, hK, hD0, hN, hZ⟩ := hv
  have hx := B.exec
  have hb := B.bytes
  have hr := B.returns
  have hts := atoms_spec (ws := wsX6_thrown) B.pre
  have hown : s.vm.findClass RX6 = some m.cls := findClass_of_methodNamed B.named
  have hlocks := B.notSynchronized
  subst hsz
  have hA : ∀ q : Nat, s.heap.size ≤ q → gA n ad s.heap.size q := fun q h => Or.inr h
  have hG : GH D cy ad n st (gA n ad s.heap.size) s.heap s.heap [] := ⟨hP, gw_A hD0, va_S.rf⟩
  have hl := lv_entry ([.ref (ad 0)]) (n := 1) (Nat.le_of_ble_eq_true rfl)
  rw [lg_entry_eq]
  generalize (lg_sl ([.ref (ad 0)]) ++ List.replicate (1 - (lg_sl ([.ref (ad 0)])).length) Slot.unset).toArray = ls at hl ⊢
  have hl : lv_has ls 1 [(0, .ref (ad 0))] := hl
  have hin6 : ∀ w ∈ u_ws RX6 TX6 25, w ∈ wsX6_thrown := by decide +kernel
  have L_75 := hts (.fieldLink RX6 75 "CrossbarryModel" "thrown" "I") (by decide +kernel)
  refine lv_aload_n hx hb dX6_thrown_0 rfl (lv_at hl 0 rfl) ?_
  refine g_get hx hb hts hin6 hown hK hG (key := 0) (by omega) (gC_0 st ad cy) rfl 0 (by decide) L_75 (fun _ h9 => h9) rfl dX6_thrown_1 ?_
  have hr1 := gI_0 hI (0) (0)
  refine r_nm (fun v2 ev2 => ?_)
  rw [← ev2] at hr1
  exact g_iret hx hb hr hlocks hG (by
    refine ⟨?_, rfl⟩
    congr 1) dX6_thrown_4
set_option maxHeartbeats 400000 in
set_option maxRecDepth 100000 in
theorem mX6_conducts (l : Launch) (D : va_G) (cy : Nat → ClassId) (ad : Nat → Nat) (n : Nat) (st : St) (sz fz : Nat) (wb : Int) (hn : 75 ≤ n) (hI : GI wb st) (hW : wb ≤ 2000000) (i : Int) (hi : 0 ≤ i ∧ i < 768) (hs : st 6 0 i ≤ st 1 0 0) : Met l yX6_conducts wsX6_conducts ({ frames := 0, cells := 0, slots := 0, locals := 0 }) (va_Pc [.ref (ad 0), .int (iI (i))] (gB D cy ad n st sz fz)) (va_Qi (fun (r : Int32) (st' : St) => r = iI (conM st i) ∧ st' = st) (gP D cy ad n) (gA n ad sz)) 0 0 (gA n ad sz) := by
  refine Met.ofW (cc := cX6_conducts) (maxL := 3) (ret := (some .int)) (by decide) rfl ?_
  intro p e s m args below meth c s₁ B hml hv
  obtain ⟨rfl, hsz, hP, hK, hD0, hN, hZ⟩ := hv
  have hx := B.exec
  have hb := B.bytes
  have hr := B.returns
  have hts := atoms_spec (ws := wsX6_conducts) B.pre
  have hown : s.vm.findClass RX6 = some m.cls := findClass_of_methodNamed B.named
  have hlocks := B.notSynchronized
  subst hsz
  have hA : ∀ q : Nat, s.heap.size ≤ q → gA n ad s.heap.size q := fun q h => Or.inr h
  have hG : GH D cy ad n st (gA n ad s.heap.size) s.heap s.heap [] := ⟨hP, gw_A hD0, va_S.rf⟩
  have hl := lv_entry ([.ref (ad 0), .int (iI (i))]) (n := 3) (Nat.le_of_ble_eq_true rfl)
  rw [lg_entry_eq]
  generalize (lg_sl ([.ref (ad 0), .int (iI (i))]) ++ List.replicate (3 - (lg_sl ([.ref (ad 0), .int (iI (i))])).length) Slot.unset).toArray = ls at hl ⊢
  have hl : lv_has ls 3 [(0, .ref (ad 0)), (1, .int (iI (i)))] := hl
  have hin6 : ∀ w ∈ u_ws RX6 TX6 25, w ∈ wsX6_conducts := by decide +kernel
  have L_13 := hts (.fieldLink RX6 13 "CrossbarryModel" "states" "[I") (by decide +kernel)
  have L_20 := hts (.fieldLink RX6 20 "CrossbarryModel" "since" "[I") (by decide +kernel)
  have L_23 := hts (.fieldLink RX6 23 "CrossbarryModel" "isStuck" "[Z") (by decide +kernel)
  have L_89 := hts (.fieldLink RX6 89 "CrossbarryModel" "driftHours" "I") (by decide +kernel)
  have L_92 := hts (.fieldLink RX6 92 "CrossbarryModel" "now" "I") (by decide +kernel)
  refine lv_aload_n hx hb dX6_conducts_0 rfl (lv_at hl 0 rfl) ?_
  refine g_get hx hb hts hin6 hown hK hG (key := 0) (by omega) (gC_0 st ad cy) rfl 2 (by decide) L_89 (fun _ h9 => h9) rfl dX6_conducts_1 ?_
  have hr1 := gI_2 hI (0) (0)
  refine r_nm (fun v2 ev2 => ?_)
  rw [← ev2] at hr1
  refine r_if_eq (tgt := 16) hx hb (by omega) dX6_conducts_4 (by decide) (fun c3 => ?_) (fun c3 => ?_)
  · skip
    refine lv_aload_n hx hb dX6_conducts_16 rfl (lv_at hl 0 rfl) ?_
    refine g_get hx hb hts hin6 hown hK hG (key := 0) (by omega) (gC_0 st ad cy) rfl 4 (by decide) L_13 (fun _ h9 => h9) rfl dX6_conducts_17 ?_
    refine lv_iload_n hx hb dX6_conducts_20 rfl (lv_at hl 1 rfl) ?_
    refine g_iald hx hb hK hG (1) (kd := 1) (o := 0) rfl rfl (by omega) (cp := 4) (ln := 768) rfl rfl (by omega) dX6_conducts_21 ?_
    have hr4 := gI_4 hI (0) (i)
    refine r_nm (fun v5 ev5 => ?_)
    rw [← ev5] at hr4
    exact g_iret hx hb hr hlocks hG (by
      refine ⟨?_, rfl⟩
      congr 1
      unfold conM conV
      subst_vars
      first
        | rw [if_pos (by omega)]
        | (rw [if_neg (by omega)]; omega)) dX6_conducts_22
  · skip
    refine lv_aload_n hx hb dX6_conducts_7 rfl (lv_at hl 0 rfl) ?_
    refine g_get hx hb hts hin6 hown hK hG (key := 0) (by omega) (gC_0 st ad cy) rfl 7 (by decide) L_23 (fun _ h9 => h9) rfl dX6_conducts_8 ?_
    refine lv_iload_n hx hb dX6_conducts_11 rfl (lv_at hl 1 rfl) ?_
    refine g_zald hx hb hK hG (4) (kd := 4) (o := 0) rfl rfl (by omega) (cp := 7) (ln := 768) rfl rfl (by omega) dX6_conducts_12 ?_
    have hr6 := gI_7 hI (0) (i)
    refine r_nm (fun v7 ev7 => ?_)
    rw [← ev7] at hr6
    refine r_if_eq (tgt := 23) hx hb (by omega) dX6_conducts_13 (by decide) (fun c8 => ?_) (fun c8 => ?_)
    · skip
      refine lv_aload_n hx hb dX6_conducts_23 rfl (lv_at hl 0 rfl) ?_
      refine g_get hx hb hts hin6 hown hK hG (key := 0) (by omega) (gC_0 st ad cy) rfl 4 (by decide) L_13 (fun _ h9 => h9) rfl dX6_conducts_24 ?_
      refine lv_iload_n hx hb dX6_conducts_27 rfl (lv_at hl 1 rfl) ?_
      refine g_iald hx hb hK hG (1) (kd := 1) (o := 0) rfl rfl (by omega) (cp := 4) (ln := 768) rfl rfl (by omega) dX6_conducts_28 ?_
      have hr9 := gI_4 hI (0) (i)
      refine r_nm (fun v10 ev10 => ?_)
      rw [← ev10] at hr9
      refine lv_aload_n hx hb dX6_conducts_29 rfl (lv_at hl 0 rfl) ?_
      refine g_get hx hb hts hin6 hown hK hG (key := 0) (by omega) (gC_0 st ad cy) rfl 1 (by decide) L_92 (fun _ h9 => h9) rfl dX6_conducts_30 ?_
      have hr11 := gI_1 hI (0) (0)
      refine r_nm (fun v12 ev12 => ?_)
      rw [← ev12] at hr11
      refine lv_aload_n hx hb dX6_conducts_33 rfl (lv_at hl 0 rfl) ?_
      refine g_get hx hb hts hin6 hown hK hG (key := 0) (by omega) (gC_0 st ad cy) rfl 6 (by decide) L_20 (fun _ h9 => h9) rfl dX6_conducts_34 ?_
      refine lv_iload_n hx hb dX6_conducts_37 rfl (lv_at hl 1 rfl) ?_
      refine g_iald hx hb hK hG (3) (kd := 3) (o := 0) rfl rfl (by omega) (cp := 6) (ln := 768) rfl rfl (by omega) dX6_conducts_38 ?_
      have hr13 := gI_6 hI (0) (i)
      refine r_nm (fun v14 ev14 => ?_)
      rw [← ev14] at hr13
      refine r_isub hx hb dX6_conducts_39 ?_
      refine r_nm (fun v15 ev15 => ?_)
      refine lv_aload_n hx hb dX6_conducts_40 rfl (lv_at hl 0 rfl) ?_
      refine g_get hx hb hts hin6 hown hK hG (key := 0) (by omega) (gC_0 st ad cy) rfl 2 (by decide) L_89 (fun _ h9 => h9) rfl dX6_conducts_41 ?_
      have hr16 := gI_2 hI (0) (0)
      refine r_nm (fun v17 ev17 => ?_)
      rw [← ev17] at hr16
      refine r_idiv hx hb (by omega) dX6_conducts_44 ?_
      refine r_nm (fun v18 ev18 => ?_)
      have hr19 := divB (x := v15) (y := v17) (by omega) (by omega)
      rw [← ev18] at hr19
      refine r_isub hx hb dX6_conducts_45 ?_
      refine r_nm (fun v20 ev20 => ?_)
      refine lv_istore_n (lv' := [(2, .int (iI (v20))), (0, .ref (ad 0)), (1, .int (iI (i)))]) hx hb dX6_conducts_46 rfl hl (by decide) rfl (fun ls hl => ?_)
      refine lv_iload_n hx hb dX6_conducts_47 rfl (lv_at hl 0 rfl) ?_
      refine r_if_ge (tgt := 55) hx hb (by omega) dX6_conducts_48 (by decide) (fun c21 => ?_) (fun c21 => ?_)
      · skip
        refine lv_iload_n hx hb dX6_conducts_55 rfl (lv_at hl 0 rfl) ?_
        exact g_iret hx hb hr hlocks hG (by
          refine ⟨?_, rfl⟩
          congr 1
          unfold conM conV
          subst_vars
          first
            | rw [if_pos (by omega)]
            | (rw [if_neg (by omega)]; omega)) dX6_conducts_56
      · skip
        refine lv_iconst (v := iI (0)) hx hb dX6_conducts_51 rfl ?_
        refine lv_goto (tgt := 56) hx hb dX6_conducts_52 (by decide) ?_
        exact g_iret hx hb hr hlocks hG (by
          refine ⟨?_, rfl⟩
          congr 1
          unfold conM conV
          subst_vars
          first
            | rw [if_pos (by omega)]
            | (rw [if_neg (by omega)]; omega)) dX6_conducts_56
    · skip
      refine lv_aload_n hx hb dX6_conducts_16 rfl (lv_at hl 0 rfl) ?_
      refine g_get hx hb hts hin6 hown hK hG (key := 0) (by omega) (gC_0 st ad cy) rfl 4 (by decide) L_13 (fun _ h9 => h9) rfl dX6_conducts_17 ?_
      refine lv_iload_n hx hb dX6_conducts_20 rfl (lv_at hl 1 rfl) ?_
      refine g_iald hx hb hK hG (1) (kd := 1) (o := 0) rfl rfl (by omega) (cp := 4) (ln := 768) rfl rfl (by omega) dX6_conducts_21 ?_
      have hr22 := gI_4 hI (0) (i)
      refine r_nm (fun v23 ev23 => ?_)
      rw [← ev23] at hr22
      exact g_iret hx hb hr hlocks hG (by
        refine ⟨?_, rfl⟩
        congr 1
        unfold conM conV
        subst_vars
        first
          | rw [if_pos (by omega)]
          | (rw [if_neg (by omega)]; omega)) dX6_conducts_22
