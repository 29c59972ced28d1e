set_option maxHeartbeats 400000 in
set_option maxRecDepth 100000 in
theorem mX5_vectorFrom (l : Launch) (D : va_G) (cy : Nat → ClassId) (ad : Nat → Nat) (n : Nat) (st : St) (sz fz : Nat) (wb : Int) (hn : 75 ≤ n) (hI : GI wb st) (hW : wb ≤ 2000000) (q : Nat) (o : Nat) (vec : Nat) (hR : RY st) (hq : 77 + 3 * q < n) (hqm : (q : Int) < st 14 0 0) (ho : o < 6) (hoq : st 20 0 (q : Int) = (o : Int)) (hvec : vec < 2 ^ 64) : Met l yX5_vectorFrom wsX5_vectorFrom ({ frames := 4, cells := 0, slots := 0, locals := 103 }) (va_Pc [.ref (ad 21), .ref (ad (75 + 3 * q)), .ref (ad (33 + 7 * o)), .long (lN vec)] (gB D cy ad n st sz fz)) (va_Ql (fun (r : Int64) (st' : St) => r = lN (vecU st ((q : Nat) : Int) vec 0 (st 16 0 ((q : Nat) : Int)).toNat) ∧ st' = st) (gP D cy ad n) (gA n ad sz)) 0 0 (gA n ad sz) := by
  refine Met.ofW (cc := cX5_vectorFrom) (maxL := 10) (ret := (some .long)) (by decide) rfl ?_
  intro p e s m args below meth c s₁ B hml hv
  obtain ⟨rfl, hsz, hP, hK, hD0, hN, hZ⟩ := hv
  have hx := B.exec
  have hb := B.bytes
  have hr := B.returns
  have hts := atoms_spec (ws := wsX5_vectorFrom) B.pre
  have hown : s.vm.findClass RX5 = some m.cls := findClass_of_methodNamed B.named
  have hlocks := B.notSynchronized
  subst hsz
  have hA : ∀ q : Nat, s.heap.size ≤ q → gA n ad s.heap.size q := fun q h => Or.inr h
  have hG : GH D cy ad n st (gA n ad s.heap.size) s.heap s.heap [] := ⟨hP, gw_A hD0, va_S.rf⟩
  have hl := lv_entry ([.ref (ad 21), .ref (ad (75 + 3 * q)), .ref (ad (33 + 7 * o)), .long (lN vec)]) (n := 10) (Nat.le_of_ble_eq_true rfl)
  rw [lg_entry_eq]
  generalize (lg_sl ([.ref (ad 21), .ref (ad (75 + 3 * q)), .ref (ad (33 + 7 * o)), .long (lN vec)]) ++ List.replicate (10 - (lg_sl ([.ref (ad 21), .ref (ad (75 + 3 * q)), .ref (ad (33 + 7 * o)), .long (lN vec)])).length) Slot.unset).toArray = ls at hl ⊢
  have hl : lv_has ls 10 [(0, .ref (ad 21)), (1, .ref (ad (75 + 3 * q))), (2, .ref (ad (33 + 7 * o))), (3, .long (lN vec))] := hl
  have hin5 : ∀ w ∈ u_ws RX5 TX5 6, w ∈ wsX5_vectorFrom := by decide +kernel
  have hin0 : ∀ w ∈ u_ws RX0 TX0 8, w ∈ wsX5_vectorFrom := by decide +kernel
  have L_12 := hts (.fieldLink RX5 12 "Crossbarry" "setting" "LCrossbarry$Setting;") (by decide +kernel)
  have L_255 := hts (.methodLink RX5 255 Lib.Math.min.name) (by decide +kernel)
  have L_260 := hts (.methodLink RX5 260 Lib.Math.max.name) (by decide +kernel)
  have L_73 := hts (.fieldLink RX5 73 "Crossbarry$Layer" "outputs" "I") (by decide +kernel)
  have L_83 := hts (.fieldLink RX5 83 "Crossbarry$Layer" "shiftBy" "I") (by decide +kernel)
  have Lcmax := hts (.code Lib.Math.max.name Lib.Math.max.code 2 (some .int)) (by decide +kernel)
  have Lcmin := hts (.code Lib.Math.min.name Lib.Math.min.code 2 (some .int)) (by decide +kernel)
  have Li := hts (.initialized "java/lang/Math") (by decide +kernel)
  have Lsmax := hts (.static Lib.Math.max.name) (by decide +kernel)
  have Lsmin := hts (.static Lib.Math.min.name) (by decide +kernel)
  obtain ⟨⟨hR1, hR2, hR3, hR4⟩, hRl, hRw, hRr, hRc, hRt, hRo, hRk, hsc, hsi, hch, hun, hfr⟩ := id hR
  have h33 := gI_33 hI 0 0
  have hlq := hRl q hqm
  have h60 := gI_60 hI q 0
  have h61 := gI_61 hI q 0
  have h64 := gI_64 hI q 0
  have hr63 := fun k => gI_63 hI q k
  have hm6 := gI_14 hI 0 0
  refine lv_lconst (v := 0) hx hb dX5_vectorFrom_0 rfl ?_
  refine lv_lstore (lv' := [(5, .long (0)), (0, .ref (ad 21)), (1, .ref (ad (75 + 3 * q))), (2, .ref (ad (33 + 7 * o))), (3, .long (lN vec))]) hx hb dX5_vectorFrom_1 hl (by decide) rfl (fun ls hl => ?_)
  refine lv_iconst (v := iI (0)) hx hb dX5_vectorFrom_3 rfl ?_
  refine lv_istore (lv' := [(7, .int (iI (0))), (5, .long (0)), (0, .ref (ad 21)), (1, .ref (ad (75 + 3 * q))), (2, .ref (ad (33 + 7 * o))), (3, .long (lN vec))]) hx hb dX5_vectorFrom_4 hl (by decide) rfl (fun ls hl => ?_)
  have hloop6 : ∀ (N : Nat)  (k : Nat) (H : Heap) (locs : List Loc) (ls : Array Slot), 5 - k < N → ((k : Int) ≤ st 61 q 0) →  GH D cy ad n st (gA n ad s.heap.size) s.heap H locs → lv_has ls 10 [(5, .long (lN (vecU st ((q : Nat) : Int) vec 0 k))), (7, .int (iI (((k : Nat) : Int)))), (0, .ref (ad 21)), (1, .ref (ad (75 + 3 * q))), (2, .ref (ad (33 + 7 * o))), (3, .long (lN vec))] → W p l e (headSpec wsX5_vectorFrom { frames := 4, cells := 0, slots := 0, locals := 103 }).room s m (#[.ref (ad 21), .ref (ad (75 + 3 * q)), .ref (ad (33 + 7 * o)), .long (lN vec)] : Array Value) below meth c H locs 0 0 (MQ below (va_Ql (fun (r : Int64) (st' : St) => r = lN (vecU st ((q : Nat) : Int) vec 0 (st 16 0 ((q : Nat) : Int)).toNat) ∧ st' = st) (gP D cy ad n) (gA n ad s.heap.size)) (#[.ref (ad 21), .ref (ad (75 + 3 * q)), .ref (ad (33 + 7 * o)), .long (lN vec)] : Array Value) s 0 0 (gA n ad s.heap.size)) (F0 m 6 ls []) := by
    intro N
    induction N with
    | zero => intro  k H locs ls hm; exact absurd hm (Nat.not_lt_zero _)
    | succ N ih6 =>
      intro  k H locs ls hm hk hG hl
      refine lv_iload hx hb dX5_vectorFrom_6 (lv_at hl 1 rfl) ?_
      refine lv_aload_n hx hb dX5_vectorFrom_8 rfl (lv_at hl 3 rfl) ?_
      refine g_get hx hb hts hin0 hown hK hG (key := 75 + 3 * q) (by omega) (gC_l st ad cy q) rfl 2 (by decide) L_73 (fun _ h9 => h9) rfl dX5_vectorFrom_9 ?_
      have hr1 := gI_61 hI (q) (0)
      refine r_nm (fun v2 ev2 => ?_)
      rw [← ev2] at hr1
      refine r_icmp_ge (tgt := 82) hx hb (by omega) dX5_vectorFrom_12 (by decide) (fun c3 => ?_) (fun c3 => ?_)
      · skip
        refine lv_lload hx hb dX5_vectorFrom_82 (lv_at hl 0 rfl) ?_
        exact g_lret hx hb hr hlocks hG (by
          refine ⟨?_, rfl⟩
          rw [show (st 16 0 ((q : Nat) : Int)).toNat = k by omega]) dX5_vectorFrom_84
      · skip
        refine lv_aload_n hx hb dX5_vectorFrom_15 rfl (lv_at hl 4 rfl) ?_
        refine lv_ifnonnull (tgt := 29) hx hb dX5_vectorFrom_16 (by decide) ?_
        refine lv_aload_n hx hb dX5_vectorFrom_29 rfl (lv_at hl 3 rfl) ?_
        refine lv_aload_n hx hb dX5_vectorFrom_30 rfl (lv_at hl 4 rfl) ?_
        refine lv_lload_n hx hb dX5_vectorFrom_31 rfl (lv_at hl 5 rfl) ?_
        refine lv_iload hx hb dX5_vectorFrom_32 (lv_at hl 1 rfl) ?_
        refine lv_aload_n hx hb dX5_vectorFrom_34 rfl (lv_at hl 2 rfl) ?_
        refine g_get hx hb hts hin5 hown hK hG (key := 21) (by omega) (gC_21 st ad cy) rfl 0 (by decide) L_12 (fun _ h9 => h9) rfl dX5_vectorFrom_35 ?_
        refine g_goi hG hA (va_runV (As := [.ref (ad (33 + 7 * o)), .long (lN vec), .int (iI (((k : Nat) : Int))), .ref (ad 22)]) (rest := []) ⟨hx, hb, hml, hown, hts⟩ (mX0_answerOn l D cy ad n st _ fz wb hn hI (by omega) (q) (o) vec (((k : Nat) : Int)) (by omega) (by omega) (by omega) (by omega) hsc) (cwV 4 hts gX5_vectorFrom_X0_answerOn rfl rfl rfl (by decide +kernel) ⟨Nat.le_of_ble_eq_true rfl, Nat.le_of_ble_eq_true rfl⟩) ⟨g_blind, va_recv hK hG.1 (q0 := (75 + 3 * q) - 19) (ci := 0) rfl ((gw_at (k := 75 + 3 * q) (by omega)).trans (by rw [gC_l st ad cy q])), g_pre hK hG hA hN hZ⟩ rfl rfl hl.1 rfl (lv_room (Nat.le_of_ble_eq_true rfl)) dX5_vectorFrom_38 ⟨Nat.zero_le _, Nat.zero_le _⟩) (fun r9 s9 H locs hp hG => ?_)
        obtain ⟨rfl, hs9⟩ := hp
        rw [hs9] at hG
        clear hs9
        refine r_nm (fun v4 ev4 => ?_)
        have hans : v4 = ansG st ((q : Nat) : Int) vec 0 k := by
          rw [ev4, RY_ans hR hqm ho (by omega) hoq (by omega) hvec hr63 (by omega)]
          unfold ansG
          rw [if_neg (by decide)]
        have hab := ansG_b hI ((q : Nat) : Int) vec 0 k
        rw [← hans] at hab
        refine lv_istore (lv' := [(8, .int (iI (v4))), (5, .long (lN (vecU st ((q : Nat) : Int) vec 0 k))), (7, .int (iI (((k : Nat) : Int)))), (0, .ref (ad 21)), (1, .ref (ad (75 + 3 * q))), (2, .ref (ad (33 + 7 * o))), (3, .long (lN vec))]) hx hb dX5_vectorFrom_41 hl (by decide) rfl (fun ls hl => ?_)
        refine lv_iconst (v := iI (0)) hx hb dX5_vectorFrom_43 rfl ?_
        refine lv_sipush (v := iI (255)) hx hb dX5_vectorFrom_44 (by decide +kernel) ?_
        refine lv_iload hx hb dX5_vectorFrom_47 (lv_at hl 0 rfl) ?_
        refine lv_aload_n hx hb dX5_vectorFrom_49 rfl (lv_at hl 4 rfl) ?_
        refine g_get hx hb hts hin0 hown hK hG (key := 75 + 3 * q) (by omega) (gC_l st ad cy q) rfl 5 (by decide) L_83 (fun _ h9 => h9) rfl dX5_vectorFrom_50 ?_
        have hr5 := gI_64 hI (q) (0)
        refine r_nm (fun v6 ev6 => ?_)
        rw [← ev6] at hr5
        refine r_as (y := ((((v6) : Int).toNat : Nat) : Int)) (by omega) ?_
        refine r_ishr hx hb (by omega) (by omega) dX5_vectorFrom_53 ?_
        refine r_nm (fun v7 ev7 => ?_)
        have hsq : ansG st ((q : Nat) : Int) vec 0 k / 2 ^ (st 18 0 ((q : Nat) : Int)).toNat = v7 := by
          rw [ev7, hans]
          congr 2
          omega
        have hqb := shrB (k := (st 18 0 ((q : Nat) : Int)).toNat) (ansG_b hI ((q : Nat) : Int) vec 0 k)
        rw [hsq] at hqb
        refine va_mmin hx hb (hml.trans hl.1.symm) hown L_255 Lsmin Li Lcmin (Nat.le_of_ble_eq_true rfl) (Nat.le_of_ble_eq_true rfl) (by omega) (by omega) dX5_vectorFrom_54 ?_
        refine r_asI (y := min (255) (v7)) (iI_min (by omega)) ?_
        refine r_nm (fun v8 ev8 => ?_)
        refine va_mmax hx hb (hml.trans hl.1.symm) hown L_260 Lsmax Li Lcmax (Nat.le_of_ble_eq_true rfl) (Nat.le_of_ble_eq_true rfl) (by omega) (by omega) dX5_vectorFrom_57 ?_
        refine r_asI (y := max (0) (v8)) (iI_max (by omega)) ?_
        refine r_nm (fun v9 ev9 => ?_)
        refine lv_istore (lv' := [(9, .int (iI (v9))), (8, .int (iI (v4))), (5, .long (lN (vecU st ((q : Nat) : Int) vec 0 k))), (7, .int (iI (((k : Nat) : Int)))), (0, .ref (ad 21)), (1, .ref (ad (75 + 3 * q))), (2, .ref (ad (33 + 7 * o))), (3, .long (lN vec))]) hx hb dX5_vectorFrom_60 hl (by decide) rfl (fun ls hl => ?_)
        refine lv_lload hx hb dX5_vectorFrom_62 (lv_at hl 2 rfl) ?_
        refine lv_iload hx hb dX5_vectorFrom_64 (lv_at hl 0 rfl) ?_
        refine lv_i2l (v := lN ((v9) : Int).toNat) hx hb dX5_vectorFrom_66 (by exact vi2l (by omega) (by omega)) ?_
        refine lv_bipush (v := iI (8)) hx hb dX5_vectorFrom_67 (by decide +kernel) ?_
        refine lv_iload hx hb dX5_vectorFrom_69 (lv_at hl 3 rfl) ?_
        refine r_imul hx hb dX5_vectorFrom_71 ?_
        refine r_nm (fun v10 ev10 => ?_)
        refine r_as (y := ((8 * k : Nat) : Int)) (by omega) ?_
        refine lv_lshl (v := lN (((v9) : Int).toNat * 2 ^ (8 * k))) hx hb dX5_vectorFrom_72 (by exact vlshl _ (by omega)) ?_
        refine lv_lor hx hb dX5_vectorFrom_73 ?_
        refine r_asL (y := lN (vecU st ((q : Nat) : Int) vec 0 k ||| ((v9) : Int).toNat * 2 ^ (8 * k))) (by exact vlor _ _) ?_
        refine lv_lstore (lv' := [(5, .long (lN (vecU st ((q : Nat) : Int) vec 0 k ||| ((v9) : Int).toNat * 2 ^ (8 * k)))), (9, .int (iI (v9))), (8, .int (iI (v4))), (7, .int (iI (((k : Nat) : Int)))), (0, .ref (ad 21)), (1, .ref (ad (75 + 3 * q))), (2, .ref (ad (33 + 7 * o))), (3, .long (lN vec))]) hx hb dX5_vectorFrom_74 hl (by decide) rfl (fun ls hl => ?_)
        obtain ⟨v11, ev11⟩ : ∃ y9 : Int, y9 = ((k : Nat) : Int) + (1) := ⟨_, rfl⟩
        refine lv_iinc (v := iI v11) (lv' := [(7, .int (iI (v11))), (5, .long (lN (vecU st ((q : Nat) : Int) vec 0 k ||| ((v9) : Int).toNat * 2 ^ (8 * k)))), (9, .int (iI (v9))), (8, .int (iI (v4))), (0, .ref (ad 21)), (1, .ref (ad (75 + 3 * q))), (2, .ref (ad (33 + 7 * o))), (3, .long (lN vec))]) hx hb dX5_vectorFrom_76 hl (k := 3) rfl (by rw [ev11]; exact iI_add _ _) (by decide) rfl (fun ls hl => ?_)
        refine lv_goto (tgt := 6) hx hb dX5_vectorFrom_79 (by decide) ?_
        rw [show (lN (vecU st ((q : Nat) : Int) vec 0 k ||| ((v9) : Int).toNat * 2 ^ (8 * k)) : Int64) = lN (vecU st ((q : Nat) : Int) vec 0 (k + 1)) from by (rw [vecU_s, show clipF (ansG st ((q : Nat) : Int) vec 0 k / 2 ^ (st 18 0 ((q : Nat) : Int)).toNat) = (v9) from by (rw [hsq]; unfold clipF; omega)])] at hl
        rw [show (v11 : Int) = (((k + 1) : Nat) : Int) from by omega] at hl
        exact ih6  (k + 1) _ _ _ (by omega) (by omega) hG (lv_sub hl [1, 0, 4, 5, 6, 7] rfl)
  exact hloop6 _  (0) _ _ _ (Nat.lt_succ_self _) (by omega) hG (lv_sub hl [1, 0, 2, 3, 4, 5] rfl)
set_option maxHeartbeats 400000 in
set_option maxRecDepth 100000 in
theorem mX5_vectorFromN (l : Launch) (D : va_G) (cy : Nat → ClassId) (ad : Nat → Nat) (n : Nat) (st : St) (sz fz : Nat) (wb : Int) (hn : 75 ≤ n) (hI : GI wb st) (hW : wb ≤ 2000000) (q : Nat) (vec : Nat) (hR : RY st) (hq : 77 + 3 * q < n) (hqm : (q : Int) < st 14 0 0) (hvec : vec < 2 ^ 64) : Met l yX5_vectorFrom wsX5_vectorFrom ({ frames := 4, cells := 0, slots := 0, locals := 103 }) (va_Pc [.ref (ad 21), .ref (ad (75 + 3 * q)), .null, .long (lN vec)] (gB D cy ad n st sz fz)) (va_Ql (fun (r : Int64) (st' : St) => r = lN (vecU st ((q : Nat) : Int) vec 1 (st 16 0 ((q : Nat) : Int)).toNat) ∧ st' = st) (gP D cy ad n) (gA n ad sz)) 0 0 (gA n ad sz) := by
  refine Met.ofW (cc := cX5_vectorFrom) (maxL := 10) (ret := (some .long)) (by decide) rfl ?_
  intro p e s m args below meth c s₁ B hml hv
  obtain ⟨rfl, hsz, hP, hK, hD0, hN, hZ⟩ := hv
  have hx := B.exec
  have hb := B.bytes
  have hr := B.returns
  have hts := atoms_spec (ws := wsX5_vectorFrom) B.pre
  have hown : s.vm.findClass RX5 = some m.cls := findClass_of_methodNamed B.named
  have hlocks := B.notSynchronized
  subst hsz
  have hA : ∀ q : Nat, s.heap.size ≤ q → gA n ad s.heap.size q := fun q h => Or.inr h
  have hG : GH D cy ad n st (gA n ad s.heap.size) s.heap s.heap [] := ⟨hP, gw_A hD0, va_S.rf⟩
  have hl := lv_entry ([.ref (ad 21), .ref (ad (75 + 3 * q)), .null, .long (lN vec)]) (n := 10) (Nat.le_of_ble_eq_true rfl)
  rw [lg_entry_eq]
  generalize (lg_sl ([.ref (ad 21), .ref (ad (75 + 3 * q)), .null, .long (lN vec)]) ++ List.replicate (10 - (lg_sl ([.ref (ad 21), .ref (ad (75 + 3 * q)), .null, .long (lN vec)])).length) Slot.unset).toArray = ls at hl ⊢
  have hl : lv_has ls 10 [(0, .ref (ad 21)), (1, .ref (ad (75 + 3 * q))), (2, .null), (3, .long (lN vec))] := hl
  have hin5 : ∀ w ∈ u_ws RX5 TX5 6, w ∈ wsX5_vectorFrom := by decide +kernel
  have hin0 : ∀ w ∈ u_ws RX0 TX0 8, w ∈ wsX5_vectorFrom := by decide +kernel
  have L_255 := hts (.methodLink RX5 255 Lib.Math.min.name) (by decide +kernel)
  have L_260 := hts (.methodLink RX5 260 Lib.Math.max.name) (by decide +kernel)
  have L_73 := hts (.fieldLink RX5 73 "Crossbarry$Layer" "outputs" "I") (by decide +kernel)
  have L_83 := hts (.fieldLink RX5 83 "Crossbarry$Layer" "shiftBy" "I") (by decide +kernel)
  have Lcmax := hts (.code Lib.Math.max.name Lib.Math.max.code 2 (some .int)) (by decide +kernel)
  have Lcmin := hts (.code Lib.Math.min.name Lib.Math.min.code 2 (some .int)) (by decide +kernel)
  have Li := hts (.initialized "java/lang/Math") (by decide +kernel)
  have Lsmax := hts (.static Lib.Math.max.name) (by decide +kernel)
  have Lsmin := hts (.static Lib.Math.min.name) (by decide +kernel)
  obtain ⟨⟨hR1, hR2, hR3, hR4⟩, hRl, hRw, hRr, hRc, hRt, hRo, hRk, hsc, hsi, hch, hun, hfr⟩ := id hR
  have h33 := gI_33 hI 0 0
  have hlq := hRl q hqm
  have h60 := gI_60 hI q 0
  have h61 := gI_61 hI q 0
  have h64 := gI_64 hI q 0
  have hr63 := fun k => gI_63 hI q k
  have hm6 := gI_14 hI 0 0
  refine lv_lconst (v := 0) hx hb dX5_vectorFrom_0 rfl ?_
  refine lv_lstore (lv' := [(5, .long (0)), (0, .ref (ad 21)), (1, .ref (ad (75 + 3 * q))), (2, .null), (3, .long (lN vec))]) hx hb dX5_vectorFrom_1 hl (by decide) rfl (fun ls hl => ?_)
  refine lv_iconst (v := iI (0)) hx hb dX5_vectorFrom_3 rfl ?_
  refine lv_istore (lv' := [(7, .int (iI (0))), (5, .long (0)), (0, .ref (ad 21)), (1, .ref (ad (75 + 3 * q))), (2, .null), (3, .long (lN vec))]) hx hb dX5_vectorFrom_4 hl (by decide) rfl (fun ls hl => ?_)
  have hloop6 : ∀ (N : Nat)  (k : Nat) (H : Heap) (locs : List Loc) (ls : Array Slot), 5 - k < N → ((k : Int) ≤ st 61 q 0) →  GH D cy ad n st (gA n ad s.heap.size) s.heap H locs → lv_has ls 10 [(5, .long (lN (vecU st ((q : Nat) : Int) vec 1 k))), (7, .int (iI (((k : Nat) : Int)))), (0, .ref (ad 21)), (1, .ref (ad (75 + 3 * q))), (2, .null), (3, .long (lN vec))] → W p l e (headSpec wsX5_vectorFrom { frames := 4, cells := 0, slots := 0, locals := 103 }).room s m (#[.ref (ad 21), .ref (ad (75 + 3 * q)), .null, .long (lN vec)] : Array Value) below meth c H locs 0 0 (MQ below (va_Ql (fun (r : Int64) (st' : St) => r = lN (vecU st ((q : Nat) : Int) vec 1 (st 16 0 ((q : Nat) : Int)).toNat) ∧ st' = st) (gP D cy ad n) (gA n ad s.heap.size)) (#[.ref (ad 21), .ref (ad (75 + 3 * q)), .null, .long (lN vec)] : Array Value) s 0 0 (gA n ad s.heap.size)) (F0 m 6 ls []) := by
    intro N
    induction N with
    | zero => intro  k H locs ls hm; exact absurd hm (Nat.not_lt_zero _)
    | succ N ih6 =>
      intro  k H locs ls hm hk hG hl
      refine lv_iload hx hb dX5_vectorFrom_6 (lv_at hl 1 rfl) ?_
      refine lv_aload_n hx hb dX5_vectorFrom_8 rfl (lv_at hl 3 rfl) ?_
      refine g_get hx hb hts hin0 hown hK hG (key := 75 + 3 * q) (by omega) (gC_l st ad cy q) rfl 2 (by decide) L_73 (fun _ h9 => h9) rfl dX5_vectorFrom_9 ?_
      have hr1 := gI_61 hI (q) (0)
      refine r_nm (fun v2 ev2 => ?_)
      rw [← ev2] at hr1
      refine r_icmp_ge (tgt := 82) hx hb (by omega) dX5_vectorFrom_12 (by decide) (fun c3 => ?_) (fun c3 => ?_)
      · skip
        refine lv_lload hx hb dX5_vectorFrom_82 (lv_at hl 0 rfl) ?_
        exact g_lret hx hb hr hlocks hG (by
          refine ⟨?_, rfl⟩
          rw [show (st 16 0 ((q : Nat) : Int)).toNat = k by omega]) dX5_vectorFrom_84
      · skip
        refine lv_aload_nN hx hb dX5_vectorFrom_15 rfl (lv_at hl 4 rfl) ?_
        refine lv_ifnonnullN hx hb dX5_vectorFrom_16 ?_
        refine lv_aload_n hx hb dX5_vectorFrom_19 rfl (lv_at hl 3 rfl) ?_
        refine lv_lload_n hx hb dX5_vectorFrom_20 rfl (lv_at hl 5 rfl) ?_
        refine lv_iload hx hb dX5_vectorFrom_21 (lv_at hl 1 rfl) ?_
        refine g_goi hG hA (va_runV (As := [.long (lN vec), .int (iI (((k : Nat) : Int)))]) (rest := []) ⟨hx, hb, hml, hown, hts⟩ (mX0_idealAnswer l D cy ad n st _ fz wb hn hI (by omega) (q) vec (((k : Nat) : Int)) (by omega) (by omega) (by omega)) (cwV 2 hts gX5_vectorFrom_X0_idealAnswer rfl rfl rfl (by decide +kernel) ⟨Nat.le_of_ble_eq_true rfl, Nat.le_of_ble_eq_true rfl⟩) ⟨g_blind, va_recv hK hG.1 (q0 := (75 + 3 * q) - 19) (ci := 0) rfl ((gw_at (k := 75 + 3 * q) (by omega)).trans (by rw [gC_l st ad cy q])), g_pre hK hG hA hN hZ⟩ rfl rfl hl.1 rfl (lv_room (Nat.le_of_ble_eq_true rfl)) dX5_vectorFrom_23 ⟨Nat.zero_le _, Nat.zero_le _⟩) (fun r9 s9 H locs hp hG => ?_)
        obtain ⟨rfl, hs9⟩ := hp
        rw [hs9] at hG
        clear hs9
        refine r_nm (fun v4 ev4 => ?_)
        have hans : v4 = ansG st ((q : Nat) : Int) vec 1 k := by
          rw [ev4, RY_ideal hR hqm (by omega) vec (by omega), hlq.1]
          unfold ansG
          rw [if_pos rfl]
        have hab := ansG_b hI ((q : Nat) : Int) vec 1 k
        rw [← hans] at hab
        refine lv_goto (tgt := 41) hx hb dX5_vectorFrom_26 (by decide) ?_
        refine lv_istore (lv' := [(8, .int (iI (v4))), (5, .long (lN (vecU st ((q : Nat) : Int) vec 1 k))), (7, .int (iI (((k : Nat) : Int)))), (0, .ref (ad 21)), (1, .ref (ad (75 + 3 * q))), (2, .null), (3, .long (lN vec))]) hx hb dX5_vectorFrom_41 hl (by decide) rfl (fun ls hl => ?_)
        refine lv_iconst (v := iI (0)) hx hb dX5_vectorFrom_43 rfl ?_
        refine lv_sipush (v := iI (255)) hx hb dX5_vectorFrom_44 (by decide +kernel) ?_
        refine lv_iload hx hb dX5_vectorFrom_47 (lv_at hl 0 rfl) ?_
        refine lv_aload_n hx hb dX5_vectorFrom_49 rfl (lv_at hl 4 rfl) ?_
        refine g_get hx hb hts hin0 hown hK hG (key := 75 + 3 * q) (by omega) (gC_l st ad cy q) rfl 5 (by decide) L_83 (fun _ h9 => h9) rfl dX5_vectorFrom_50 ?_
        have hr5 := gI_64 hI (q) (0)
        refine r_nm (fun v6 ev6 => ?_)
        rw [← ev6] at hr5
        refine r_as (y := ((((v6) : Int).toNat : Nat) : Int)) (by omega) ?_
        refine r_ishr hx hb (by omega) (by omega) dX5_vectorFrom_53 ?_
        refine r_nm (fun v7 ev7 => ?_)
        have hsq : ansG st ((q : Nat) : Int) vec 1 k / 2 ^ (st 18 0 ((q : Nat) : Int)).toNat = v7 := by
          rw [ev7, hans]
          congr 2
          omega
        have hqb := shrB (k := (st 18 0 ((q : Nat) : Int)).toNat) (ansG_b hI ((q : Nat) : Int) vec 1 k)
        rw [hsq] at hqb
        refine va_mmin hx hb (hml.trans hl.1.symm) hown L_255 Lsmin Li Lcmin (Nat.le_of_ble_eq_true rfl) (Nat.le_of_ble_eq_true rfl) (by omega) (by omega) dX5_vectorFrom_54 ?_
        refine r_asI (y := min (255) (v7)) (iI_min (by omega)) ?_
        refine r_nm (fun v8 ev8 => ?_)
        refine va_mmax hx hb (hml.trans hl.1.symm) hown L_260 Lsmax Li Lcmax (Nat.le_of_ble_eq_true rfl) (Nat.le_of_ble_eq_true rfl) (by omega) (by omega) dX5_vectorFrom_57 ?_
        refine r_asI (y := max (0) (v8)) (iI_max (by omega)) ?_
        refine r_nm (fun v9 ev9 => ?_)
        refine lv_istore (lv' := [(9, .int (iI (v9))), (8, .int (iI (v4))), (5, .long (lN (vecU st ((q : Nat) : Int) vec 1 k))), (7, .int (iI (((k : Nat) : Int)))), (0, .ref (ad 21)), (1, .ref (ad (75 + 3 * q))), (2, .null), (3, .long (lN vec))]) hx hb dX5_vectorFrom_60 hl (by decide) rfl (fun ls hl => ?_)
        refine lv_lload hx hb dX5_vectorFrom_62 (lv_at hl 2 rfl) ?_
        refine lv_iload hx hb dX5_vectorFrom_64 (lv_at hl 0 rfl) ?_
        refine lv_i2l (v := lN ((v9) : Int).toNat) hx hb dX5_vectorFrom_66 (by exact vi2l (by omega) (by omega)) ?_
        refine lv_bipush (v := iI (8)) hx hb dX5_vectorFrom_67 (by decide +kernel) ?_
        refine lv_iload hx hb dX5_vectorFrom_69 (lv_at hl 3 rfl) ?_
        refine r_imul hx hb dX5_vectorFrom_71 ?_
        refine r_nm (fun v10 ev10 => ?_)
        refine r_as (y := ((8 * k : Nat) : Int)) (by omega) ?_
        refine lv_lshl (v := lN (((v9) : Int).toNat * 2 ^ (8 * k))) hx hb dX5_vectorFrom_72 (by exact vlshl _ (by omega)) ?_
        refine lv_lor hx hb dX5_vectorFrom_73 ?_
        refine r_asL (y := lN (vecU st ((q : Nat) : Int) vec 1 k ||| ((v9) : Int).toNat * 2 ^ (8 * k))) (by exact vlor _ _) ?_
        refine lv_lstore (lv' := [(5, .long (lN (vecU st ((q : Nat) : Int) vec 1 k ||| ((v9) : Int).toNat * 2 ^ (8 * k)))), (9, .int (iI (v9))), (8, .int (iI (v4))), (7, .int (iI (((k : Nat) : Int)))), (0, .ref (ad 21)), (1, .ref (ad (75 + 3 * q))), (2, .null), (3, .long (lN vec))]) hx hb dX5_vectorFrom_74 hl (by decide) rfl (fun ls hl => ?_)
        obtain ⟨v11, ev11⟩ : ∃ y9 : Int, y9 = ((k : Nat) : Int) + (1) := ⟨_, rfl⟩
        refine lv_iinc (v := iI v11) (lv' := [(7, .int (iI (v11))), (5, .long (lN (vecU st ((q : Nat) : Int) vec 1 k ||| ((v9) : Int).toNat * 2 ^ (8 * k)))), (9, .int (iI (v9))), (8, .int (iI (v4))), (0, .ref (ad 21)), (1, .ref (ad (75 + 3 * q))), (2, .null), (3, .long (lN vec))]) hx hb dX5_vectorFrom_76 hl (k := 3) rfl (by rw [ev11]; exact iI_add _ _) (by decide) rfl (fun ls hl => ?_)
        refine lv_goto (tgt := 6) hx hb dX5_vectorFrom_79 (by decide) ?_
        rw [show (lN (vecU st ((q : Nat) : Int) vec 1 k ||| ((v9) : Int).toNat * 2 ^ (8 * k)) : Int64) = lN (vecU st ((q : Nat) : Int) vec 1 (k + 1)) from by (rw [vecU_s, show clipF (ansG st ((q : Nat) : Int) vec 1 k / 2 ^ (st 18 0 ((q : Nat) : Int)).toNat) = (v9) from by (rw [hsq]; unfold clipF; omega)])] at hl
        rw [show (v11 : Int) = (((k + 1) : Nat) : Int) from by omega] at hl
        exact ih6  (k + 1) _ _ _ (by omega) (by omega) hG (lv_sub hl [1, 0, 4, 5, 6, 7] rfl)
  exact hloop6 _  (0) _ _ _ (Nat.lt_succ_self _) (by omega) hG (lv_sub hl [1, 0, 2, 3, 4, 5] rfl)
set_option maxHeartbeats 400000 in
set_option maxRecDepth 100000 in
theorem mX5_answer (l : Launch) (D : va_G) (cy : Nat → ClassId) (ad : Nat → Nat) (n : Nat) (st : St) (sz fz : Nat) (wb : Int) (hn : 75 ≤ n) (hI : GI wb st) (hW : wb ≤ 2000000) (a : Int) (vec : Nat) (o : Int) (ha : -2147483648 ≤ a ∧ a < 2147483648) (ho : -2147483648 ≤ o ∧ o < 2147483648) (hlf : l.stackTraces = false) (hnl : (n : Int) = 75 + 3 * st 33 0 0) (hR : RY st) (hvec : vec < 2 ^ 64) : vx_Met l yX5_answer wsX5_answer ({ frames := 7, cells := 3, slots := 18, locals := 111 }) (va_Pc [.ref (ad 21), .int (iI (a)), .long (lN vec), .int (iI (o))] (gB D cy ad n st sz fz)) (va_Qi (fun (r : Int32) (st' : St) => kAns st a o = 0 ∧ (r = iI (ansU st a o vec 8) ∧ st' = st) ∧ GI wb st') (gP D cy ad n) (gA n ad sz)) (gX D cy ad n (fun (E : String) (st' : St) => xE [xI, xS] E (kAns st a o) ∧ st' = st) (gA n ad sz)) 3 18 (gA n ad sz) := by
  refine vx_ofW (cc := cX5_answer) (maxL := 6) (ret := (some .int)) (by decide) rfl ?_
  intro p e s m args below meth c s₁ B hml hnt hv
  obtain ⟨rfl, hsz, hP, hK, hD0, hN, hZ⟩ := hv
  have hx := B.exec
  have hb := B.bytes
  have hr := B.returns
  have hts := atoms_spec (ws := wsX5_answer) B.pre
  have hown : s.vm.findClass RX5 = some m.cls := findClass_of_methodNamed B.named
  have hlocks := B.notSynchronized
  subst hsz
  have hA : ∀ q : Nat, s.heap.size ≤ q → gA n ad s.heap.size q := fun q h => Or.inr h
  have hG : GH D cy ad n st (gA n ad s.heap.size) s.heap s.heap [] := ⟨hP, gw_A hD0, va_S.rf⟩
  have hl := lv_entry ([.ref (ad 21), .int (iI (a)), .long (lN vec), .int (iI (o))]) (n := 6) (Nat.le_of_ble_eq_true rfl)
  rw [lg_entry_eq]
  generalize (lg_sl ([.ref (ad 21), .int (iI (a)), .long (lN vec), .int (iI (o))]) ++ List.replicate (6 - (lg_sl ([.ref (ad 21), .int (iI (a)), .long (lN vec), .int (iI (o))])).length) Slot.unset).toArray = ls at hl ⊢
  have hl : lv_has ls 6 [(0, .ref (ad 21)), (1, .int (iI (a))), (2, .long (lN vec)), (4, .int (iI (o)))] := hl
  have hin5 : ∀ w ∈ u_ws RX5 TX5 6, w ∈ wsX5_answer := by decide +kernel
  have hin0 : ∀ w ∈ u_ws RX0 TX0 8, w ∈ wsX5_answer := by decide +kernel
  have L_12 := hts (.fieldLink RX5 12 "Crossbarry" "setting" "LCrossbarry$Setting;") (by decide +kernel)
  have L_73 := hts (.fieldLink RX5 73 "Crossbarry$Layer" "outputs" "I") (by decide +kernel)
  obtain ⟨⟨hR1, hR2, hR3, hR4⟩, hRl, hRw, hRr, hRc, hRt, hRo, hRk, hsc, hsi, hch, hun, hfr⟩ := id hR
  have h33 := gI_33 hI 0 0
  refine lv_aload_n hx hb dX5_answer_0 rfl (lv_at hl 0 rfl) ?_
  refine lv_iload_n hx hb dX5_answer_1 rfl (lv_at hl 1 rfl) ?_
  refine gx_gor hG hA (vx_runV (As := [.int (iI (a))]) (rest := []) ⟨hx, hb, hml, hown, hts⟩ (mX5_layerAt l D cy ad n st _ fz wb hn hI (by omega) (a) hlf hnl (by omega)) (cwV 1 hts gX5_answer_X5_layerAt rfl rfl rfl (by decide +kernel) ⟨Nat.le_of_ble_eq_true rfl, Nat.le_of_ble_eq_true rfl⟩) ⟨g_blind, va_recv hK hG.1 (q0 := 21 - 19) (ci := 5) rfl ((gw_at (k := 21) (by omega)).trans (by rw [gC_21 st ad cy])), g_pre hK hG hA hN hZ⟩ rfl rfl hl.1 rfl (lv_room (Nat.le_of_ble_eq_true rfl)) dX5_answer_2 ⟨Nat.le_of_ble_eq_true rfl, Nat.le_of_ble_eq_true rfl⟩) (fun E9 st9 H locs ce9 q9 hp hG hce hcv hcl => ?_) (fun s9 H locs hp hG => ?_)
  · skip
    obtain ⟨⟨rfl, hcx⟩, hs9⟩ := hp
    rw [hs9] at hG
    clear hs9
    exact g_out hnt hlocks hG hce hcv hcl (by
      refine ⟨?_, rfl⟩
      have hks := kAns_s st a o
      first
        | exact ⟨0, rfl, by omega⟩
        | exact ⟨1, rfl, by omega⟩
        | exact ⟨2, rfl, by omega⟩) (Nat.le_of_ble_eq_true rfl) (Nat.le_of_ble_eq_true rfl)
  obtain ⟨hcr, hs9⟩ := hp
  rw [hs9] at hG
  clear hs9
  obtain ⟨q, hq⟩ : ∃ z9 : Nat, z9 = ((a)).toNat := ⟨_, rfl⟩
  rw [← hq]
  have huq : ((q : Nat) : Int) = (a) := by omega
  have hlq := hRl q (by omega)
  rw [huq] at hlq
  have h60 := gI_60 hI q 0
  have h61 := gI_61 hI q 0
  have hr63 := fun k => gI_63 hI q k
  have h20 := gI_20 hI 0 a
  have hm6 := gI_14 hI 0 0
  refine lv_astore (lv' := [(5, .ref (ad (75 + 3 * q))), (0, .ref (ad 21)), (1, .int (iI (a))), (2, .long (lN vec)), (4, .int (iI (o)))]) hx hb dX5_answer_5 hl (by decide) rfl (fun ls hl => ?_)
  refine lv_iload hx hb dX5_answer_7 (lv_at hl 4 rfl) ?_
  refine lv_aload hx hb dX5_answer_9 (lv_at hl 0 rfl) ?_
  refine g_get hx hb hts hin0 hown hK hG (key := 75 + 3 * q) (by omega) (gC_l st ad cy q) rfl 2 (by decide) L_73 (fun _ h9 => h9) rfl dX5_answer_11 ?_
  have hr1 := gI_61 hI (q) (0)
  refine r_nm (fun v2 ev2 => ?_)
  rw [← ev2] at hr1
  refine gx_gov hG hA (vx_runS (As := [.int (iI (o)), .int (iI (v2))]) (rest := []) ⟨hx, hb, hml, hown, hts⟩ (mX5_checkIndex l D cy ad n st _ fz wb hn hI (by omega) (o) (v2) hlf (by omega) (by omega)) (va_cwS 2 hts gX5_answer_X5_checkIndex rfl rfl rfl (by decide +kernel) ⟨Nat.le_of_ble_eq_true rfl, Nat.le_of_ble_eq_true rfl⟩) ⟨g_blind, g_pre hK hG hA hN hZ⟩ rfl rfl hl.1 rfl (lv_room (Nat.le_of_ble_eq_true rfl)) dX5_answer_14 ⟨Nat.le_of_ble_eq_true rfl, Nat.le_of_ble_eq_true rfl⟩) (fun E9 st9 H locs ce9 q9 hp hG hce hcv hcl => ?_) (fun s9 H locs hp hG => ?_)
  · skip
    obtain ⟨⟨rfl, hcx⟩, hs9⟩ := hp
    rw [hs9] at hG
    clear hs9
    exact g_out hnt hlocks hG hce hcv hcl (by
      refine ⟨?_, rfl⟩
      have hks := kAns_s st a o
      first
        | exact ⟨0, rfl, by omega⟩
        | exact ⟨1, rfl, by omega⟩
        | exact ⟨2, rfl, by omega⟩) (Nat.le_of_ble_eq_true rfl) (Nat.le_of_ble_eq_true rfl)
  obtain ⟨hcr, hs9⟩ := hp
  rw [hs9] at hG
  clear hs9
  refine lv_aload hx hb dX5_answer_17 (lv_at hl 0 rfl) ?_
  refine lv_aload hx hb dX5_answer_19 (lv_at hl 0 rfl) ?_
  refine gx_gor hG hA (vx_runS (As := [.ref (ad (75 + 3 * q))]) (rest := [.ref (ad (75 + 3 * q))]) ⟨hx, hb, hml, hown, hts⟩ (mX5_groundOf l D cy ad n st _ fz wb hn hI (by omega) (q) hlf (by omega)) (va_cwS 1 hts gX5_answer_X5_groundOf rfl rfl rfl (by decide +kernel) ⟨Nat.le_of_ble_eq_true rfl, Nat.le_of_ble_eq_true rfl⟩) ⟨g_blind, g_pre hK hG hA hN hZ⟩ rfl rfl hl.1 rfl (lv_room (Nat.le_of_ble_eq_true rfl)) dX5_answer_21 ⟨Nat.le_of_ble_eq_true rfl, Nat.le_of_ble_eq_true rfl⟩) (fun E9 st9 H locs ce9 q9 hp hG hce hcv hcl => ?_) (fun s9 H locs hp hG => ?_)
  · skip
    obtain ⟨⟨rfl, hcx⟩, hs9⟩ := hp
    rw [hs9] at hG
    clear hs9
    have hg66 := gI_66 (st := st) (by assumption) (q) 0
    exact g_out hnt hlocks hG hce hcv hcl (by
      refine ⟨?_, rfl⟩
      have hks := kAns_s st a o
      first
        | exact ⟨0, rfl, by omega⟩
        | exact ⟨1, rfl, by omega⟩
        | exact ⟨2, rfl, by omega⟩) (Nat.le_of_ble_eq_true rfl) (Nat.le_of_ble_eq_true rfl)
  obtain ⟨hcr, hs9⟩ := hp
  rw [hs9] at hG
  clear hs9
  obtain ⟨t, ht⟩ : ∃ z9 : Nat, z9 = (st 66 (q) 0).toNat := ⟨_, rfl⟩
  rw [← ht]
  have hut : ((t : Nat) : Int) = st 66 (q) 0 := by omega
  have hrt := gI_66 (st := st) (by assumption) (q) 0
  have hbt : t < 6 := by omega
  refine lv_lload_n hx hb dX5_answer_24 rfl (lv_at hl 3 rfl) ?_
  refine lv_iload hx hb dX5_answer_25 (lv_at hl 4 rfl) ?_
  refine lv_aload_n hx hb dX5_answer_27 rfl (lv_at hl 1 rfl) ?_
  refine g_get hx hb hts hin5 hown hK hG (key := 21) (by omega) (gC_21 st ad cy) rfl 0 (by decide) L_12 (fun _ h9 => h9) rfl dX5_answer_28 ?_
  refine g_goi hG hA (va_runV (As := [.ref (ad (33 + 7 * t)), .long (lN vec), .int (iI (o)), .ref (ad 22)]) (rest := []) ⟨hx, hb, hml, hown, hts⟩ (mX0_answerOn l D cy ad n st _ fz wb hn hI (by omega) (q) (t) vec (o) (by omega) (by omega) (by omega) (by omega) hsc) (cwV 4 hts gX5_answer_X0_answerOn rfl rfl rfl (by decide +kernel) ⟨Nat.le_of_ble_eq_true rfl, Nat.le_of_ble_eq_true rfl⟩) ⟨g_blind, va_recv hK hG.1 (q0 := (75 + 3 * q) - 19) (ci := 0) rfl ((gw_at (k := 75 + 3 * q) (by omega)).trans (by rw [gC_l st ad cy q])), g_pre hK hG hA hN hZ⟩ rfl rfl hl.1 rfl (lv_room (Nat.le_of_ble_eq_true rfl)) dX5_answer_31 ⟨Nat.le_of_ble_eq_true rfl, Nat.le_of_ble_eq_true rfl⟩) (fun r9 s9 H locs hp hG => ?_)
  obtain ⟨rfl, hs9⟩ := hp
  rw [hs9] at hG
  clear hs9
  refine r_nm (fun v3 ev3 => ?_)
  refine W.widen (k := 3) (n := 18) (by omega) (by omega) ?_
  refine vx_ret ?_
  exact g_iret hx hb hr hlocks hG (by
    have hks := kAns_s st a o
    refine ⟨by omega, ?_, hI⟩
    refine ⟨?_, rfl⟩
    congr 1
    rw [← huq, ← RY_ans hR (q := q) (t := t) (by omega) hbt (by omega) (by rw [huq]; omega) (by omega) hvec hr63 (by omega)]
    omega) dX5_answer_34
set_option maxHeartbeats 400000 in
set_option maxRecDepth 100000 in
theorem mX5_ideal (l : Launch) (D : va_G) (cy : Nat → ClassId) (ad : Nat → Nat) (n : Nat) (st : St) (sz fz : Nat) (wb : Int) (hn : 75 ≤ n) (hI : GI wb st) (hW : wb ≤ 2000000) (a : Int) (vec : Nat) (o : Int) (ha : -2147483648 ≤ a ∧ a < 2147483648) (ho : -2147483648 ≤ o ∧ o < 2147483648) (hlf : l.stackTraces = false) (hnl : (n : Int) = 75 + 3 * st 33 0 0) (hR : RY st) (hvec : vec < 2 ^ 64) : vx_Met l yX5_ideal wsX5_ideal ({ frames := 7, cells := 2, slots := 12, locals := 111 }) (va_Pc [.ref (ad 21), .int (iI (a)), .long (lN vec), .int (iI (o))] (gB D cy ad n st sz fz)) (va_Qi (fun (r : Int32) (st' : St) => kIdl st a o = 0 ∧ (r = iI (idU st a o vec (st 15 0 a).toNat) ∧ st' = st) ∧ GI wb st') (gP D cy ad n) (gA n ad sz)) (gX D cy ad n (fun (E : String) (st' : St) => xE [xI] E (kIdl st a o) ∧ st' = st) (gA n ad sz)) 2 12 (gA n ad sz) := by
  refine vx_ofW (cc := cX5_ideal) (maxL := 6) (ret := (some .int)) (by decide) rfl ?_
  intro p e s m args below meth c s₁ B hml hnt hv
  obtain ⟨rfl, hsz, hP, hK, hD0, hN, hZ⟩ := hv
  have hx := B.exec
  have hb := B.bytes
  have hr := B.returns
  have hts := atoms_spec (ws := wsX5_ideal) B.pre
  have hown : s.vm.findClass RX5 = some m.cls := findClass_of_methodNamed B.named
  have hlocks := B.notSynchronized
  subst hsz
  have hA : ∀ q : Nat, s.heap.size ≤ q → gA n ad s.heap.size q := fun q h => Or.inr h
  have hG : GH D cy ad n st (gA n ad s.heap.size) s.heap s.heap [] := ⟨hP, gw_A hD0, va_S.rf⟩
  have hl := lv_entry ([.ref (ad 21), .int (iI (a)), .long (lN vec), .int (iI (o))]) (n := 6) (Nat.le_of_ble_eq_true rfl)
  rw [lg_entry_eq]
  generalize (lg_sl ([.ref (ad 21), .int (iI (a)), .long (lN vec), .int (iI (o))]) ++ List.replicate (6 - (lg_sl ([.ref (ad 21), .int (iI (a)), .long (lN vec), .int (iI (o))])).length) Slot.unset).toArray = ls at hl ⊢
  have hl : lv_has ls 6 [(0, .ref (ad 21)), (1, .int (iI (a))), (2, .long (lN vec)), (4, .int (iI (o)))] := hl
  have hin5 : ∀ w ∈ u_ws RX5 TX5 6, w ∈ wsX5_ideal := by decide +kernel
  have hin0 : ∀ w ∈ u_ws RX0 TX0 8, w ∈ wsX5_ideal := by decide +kernel
  have L_73 := hts (.fieldLink RX5 73 "Crossbarry$Layer" "outputs" "I") (by decide +kernel)
  obtain ⟨⟨hR1, hR2, hR3, hR4⟩, hRl, hRw, hRr, hRc, hRt, hRo, hRk, hsc, hsi, hch, hun, hfr⟩ := id hR
  have h33 := gI_33 hI 0 0
  refine lv_aload_n hx hb dX5_ideal_0 rfl (lv_at hl 0 rfl) ?_
  refine lv_iload_n hx hb dX5_ideal_1 rfl (lv_at hl 1 rfl) ?_
  refine gx_gor hG hA (vx_runV (As := [.int (iI (a))]) (rest := []) ⟨hx, hb, hml, hown, hts⟩ (mX5_layerAt l D cy ad n st _ fz wb hn hI (by omega) (a) hlf hnl (by omega)) (cwV 1 hts gX5_ideal_X5_layerAt rfl rfl rfl (by decide +kernel) ⟨Nat.le_of_ble_eq_true rfl, Nat.le_of_ble_eq_true rfl⟩) ⟨g_blind, va_recv hK hG.1 (q0 := 21 - 19) (ci := 5) rfl ((gw_at (k := 21) (by omega)).trans (by rw [gC_21 st ad cy])), g_pre hK hG hA hN hZ⟩ rfl rfl hl.1 rfl (lv_room (Nat.le_of_ble_eq_true rfl)) dX5_ideal_2 ⟨Nat.le_of_ble_eq_true rfl, Nat.le_of_ble_eq_true rfl⟩) (fun E9 st9 H locs ce9 q9 hp hG hce hcv hcl => ?_) (fun s9 H locs hp hG => ?_)
  · skip
    obtain ⟨⟨rfl, hcx⟩, hs9⟩ := hp
    rw [hs9] at hG
    clear hs9
    exact g_out hnt hlocks hG hce hcv hcl (by
      refine ⟨?_, rfl⟩
      have hks := kIdl_s st a o
      first
        | exact ⟨0, rfl, by omega⟩
        | exact ⟨1, rfl, by omega⟩
        | exact ⟨2, rfl, by omega⟩) (Nat.le_of_ble_eq_true rfl) (Nat.le_of_ble_eq_true rfl)
  obtain ⟨hcr, hs9⟩ := hp
  rw [hs9] at hG
  clear hs9
  obtain ⟨q, hq⟩ : ∃ z9 : Nat, z9 = ((a)).toNat := ⟨_, rfl⟩
  rw [← hq]
  have huq : ((q : Nat) : Int) = (a) := by omega
  have hlq := hRl q (by omega)
  rw [huq] at hlq
  have h60 := gI_60 hI q 0
  have h61 := gI_61 hI q 0
  have hr63 := fun k => gI_63 hI q k
  have h20 := gI_20 hI 0 a
  have hm6 := gI_14 hI 0 0
  refine lv_astore (lv' := [(5, .ref (ad (75 + 3 * q))), (0, .ref (ad 21)), (1, .int (iI (a))), (2, .long (lN vec)), (4, .int (iI (o)))]) hx hb dX5_ideal_5 hl (by decide) rfl (fun ls hl => ?_)
  refine lv_iload hx hb dX5_ideal_7 (lv_at hl 4 rfl) ?_
  refine lv_aload hx hb dX5_ideal_9 (lv_at hl 0 rfl) ?_
  refine g_get hx hb hts hin0 hown hK hG (key := 75 + 3 * q) (by omega) (gC_l st ad cy q) rfl 2 (by decide) L_73 (fun _ h9 => h9) rfl dX5_ideal_11 ?_
  have hr1 := gI_61 hI (q) (0)
  refine r_nm (fun v2 ev2 => ?_)
  rw [← ev2] at hr1
  refine gx_gov hG hA (vx_runS (As := [.int (iI (o)), .int (iI (v2))]) (rest := []) ⟨hx, hb, hml, hown, hts⟩ (mX5_checkIndex l D cy ad n st _ fz wb hn hI (by omega) (o) (v2) hlf (by omega) (by omega)) (va_cwS 2 hts gX5_ideal_X5_checkIndex rfl rfl rfl (by decide +kernel) ⟨Nat.le_of_ble_eq_true rfl, Nat.le_of_ble_eq_true rfl⟩) ⟨g_blind, g_pre hK hG hA hN hZ⟩ rfl rfl hl.1 rfl (lv_room (Nat.le_of_ble_eq_true rfl)) dX5_ideal_14 ⟨Nat.le_of_ble_eq_true rfl, Nat.le_of_ble_eq_true rfl⟩) (fun E9 st9 H locs ce9 q9 hp hG hce hcv hcl => ?_) (fun s9 H locs hp hG => ?_)
  · skip
    obtain ⟨⟨rfl, hcx⟩, hs9⟩ := hp
    rw [hs9] at hG
    clear hs9
    exact g_out hnt hlocks hG hce hcv hcl (by
      refine ⟨?_, rfl⟩
      have hks := kIdl_s st a o
      first
        | exact ⟨0, rfl, by omega⟩
        | exact ⟨1, rfl, by omega⟩
        | exact ⟨2, rfl, by omega⟩) (Nat.le_of_ble_eq_true rfl) (Nat.le_of_ble_eq_true rfl)
  obtain ⟨hcr, hs9⟩ := hp
  rw [hs9] at hG
  clear hs9
  refine lv_aload hx hb dX5_ideal_17 (lv_at hl 0 rfl) ?_
  refine lv_lload_n hx hb dX5_ideal_19 rfl (lv_at hl 3 rfl) ?_
  refine lv_iload hx hb dX5_ideal_20 (lv_at hl 4 rfl) ?_
  refine g_goi hG hA (va_runV (As := [.long (lN vec), .int (iI (o))]) (rest := []) ⟨hx, hb, hml, hown, hts⟩ (mX0_idealAnswer l D cy ad n st _ fz wb hn hI (by omega) (q) vec (o) (by omega) (by omega) (by omega)) (cwV 2 hts gX5_ideal_X0_idealAnswer rfl rfl rfl (by decide +kernel) ⟨Nat.le_of_ble_eq_true rfl, Nat.le_of_ble_eq_true rfl⟩) ⟨g_blind, va_recv hK hG.1 (q0 := (75 + 3 * q) - 19) (ci := 0) rfl ((gw_at (k := 75 + 3 * q) (by omega)).trans (by rw [gC_l st ad cy q])), g_pre hK hG hA hN hZ⟩ rfl rfl hl.1 rfl (lv_room (Nat.le_of_ble_eq_true rfl)) dX5_ideal_22 ⟨Nat.le_of_ble_eq_true rfl, Nat.le_of_ble_eq_true rfl⟩) (fun r9 s9 H locs hp hG => ?_)
  obtain ⟨rfl, hs9⟩ := hp
  rw [hs9] at hG
  clear hs9
  refine r_nm (fun v3 ev3 => ?_)
  refine W.widen (k := 2) (n := 12) (by omega) (by omega) ?_
  refine vx_ret ?_
  exact g_iret hx hb hr hlocks hG (by
    have hks := kIdl_s st a o
    refine ⟨by omega, ?_, hI⟩
    refine ⟨?_, rfl⟩
    congr 1
    rw [← huq, ← RY_ideal hR (q := q) (by omega) (by omega) vec (by rw [huq]; omega), huq, ← hlq.1]
    omega) dX5_ideal_25
set_option maxHeartbeats 400000 in
set_option maxRecDepth 100000 in
theorem mX5_bound (l : Launch) (D : va_G) (cy : Nat → ClassId) (ad : Nat → Nat) (n : Nat) (st : St) (sz fz : Nat) (wb : Int) (hn : 75 ≤ n) (hI : GI wb st) (hW : wb ≤ 2000000) (a : Int) (o : Int) (u : Int) (ha : -2147483648 ≤ a ∧ a < 2147483648) (ho : -2147483648 ≤ o ∧ o < 2147483648) (hu : -2147483648 ≤ u ∧ u < 2147483648) (hlf : l.stackTraces = false) (hnl : (n : Int) = 75 + 3 * st 33 0 0) (hR : RY st) (huz : u = 0 ∨ u = 1) : vx_Met l yX5_bound wsX5_bound ({ frames := 7, cells := 3, slots := 18, locals := 111 }) (va_Pc [.ref (ad 21), .int (iI (a)), .int (iI (o)), .int (iI (u))] (gB D cy ad n st sz fz)) (va_Qi (fun (r : Int32) (st' : St) => kAns st a o = 0 ∧ (r = iI (255 * (errF st a o 0 u + 16 * errF st a o 1 u - (errF st a o 2 (1 - u) + 16 * errF st a o 3 (1 - u)))) ∧ st' = st) ∧ GI wb st') (gP D cy ad n) (gA n ad sz)) (gX D cy ad n (fun (E : String) (st' : St) => xE [xI, xS] E (kAns st a o) ∧ st' = st) (gA n ad sz)) 3 18 (gA n ad sz) := by
  refine vx_ofW (cc := cX5_bound) (maxL := 5) (ret := (some .int)) (by decide) rfl ?_
  intro p e s m args below meth c s₁ B hml hnt hv
  obtain ⟨rfl, hsz, hP, hK, hD0, hN, hZ⟩ := hv
  have hx := B.exec
  have hb := B.bytes
  have hr := B.returns
  have hts := atoms_spec (ws := wsX5_bound) B.pre
  have hown : s.vm.findClass RX5 = some m.cls := findClass_of_methodNamed B.named
  have hlocks := B.notSynchronized
  subst hsz
  have hA : ∀ q : Nat, s.heap.size ≤ q → gA n ad s.heap.size q := fun q h => Or.inr h
  have hG : GH D cy ad n st (gA n ad s.heap.size) s.heap s.heap [] := ⟨hP, gw_A hD0, va_S.rf⟩
  have hl := lv_entry ([.ref (ad 21), .int (iI (a)), .int (iI (o)), .int (iI (u))]) (n := 5) (Nat.le_of_ble_eq_true rfl)
  rw [lg_entry_eq]
  generalize (lg_sl ([.ref (ad 21), .int (iI (a)), .int (iI (o)), .int (iI (u))]) ++ List.replicate (5 - (lg_sl ([.ref (ad 21), .int (iI (a)), .int (iI (o)), .int (iI (u))])).length) Slot.unset).toArray = ls at hl ⊢
  have hl : lv_has ls 5 [(0, .ref (ad 21)), (1, .int (iI (a))), (2, .int (iI (o))), (3, .int (iI (u)))] := hl
  have hin5 : ∀ w ∈ u_ws RX5 TX5 6, w ∈ wsX5_bound := by decide +kernel
  have hin0 : ∀ w ∈ u_ws RX0 TX0 8, w ∈ wsX5_bound := by decide +kernel
  have L_73 := hts (.fieldLink RX5 73 "Crossbarry$Layer" "outputs" "I") (by decide +kernel)
  obtain ⟨⟨hR1, hR2, hR3, hR4⟩, hRl, hRw, hRr, hRc, hRt, hRo, hRk, hsc, hsi, hch, hun, hfr⟩ := id hR
  have h33 := gI_33 hI 0 0
  refine lv_aload_n hx hb dX5_bound_0 rfl (lv_at hl 0 rfl) ?_
  refine lv_iload_n hx hb dX5_bound_1 rfl (lv_at hl 1 rfl) ?_
  refine gx_gor hG hA (vx_runV (As := [.int (iI (a))]) (rest := []) ⟨hx, hb, hml, hown, hts⟩ (mX5_layerAt l D cy ad n st _ fz wb hn hI (by omega) (a) hlf hnl (by omega)) (cwV 1 hts gX5_bound_X5_layerAt rfl rfl rfl (by decide +kernel) ⟨Nat.le_of_ble_eq_true rfl, Nat.le_of_ble_eq_true rfl⟩) ⟨g_blind, va_recv hK hG.1 (q0 := 21 - 19) (ci := 5) rfl ((gw_at (k := 21) (by omega)).trans (by rw [gC_21 st ad cy])), g_pre hK hG hA hN hZ⟩ rfl rfl hl.1 rfl (lv_room (Nat.le_of_ble_eq_true rfl)) dX5_bound_2 ⟨Nat.le_of_ble_eq_true rfl, Nat.le_of_ble_eq_true rfl⟩) (fun E9 st9 H locs ce9 q9 hp hG hce hcv hcl => ?_) (fun s9 H locs hp hG => ?_)
  · skip
    obtain ⟨⟨rfl, hcx⟩, hs9⟩ := hp
    rw [hs9] at hG
    clear hs9
    exact g_out hnt hlocks hG hce hcv hcl (by
      refine ⟨?_, rfl⟩
      have hks := kAns_s st a o
      first
        | exact ⟨0, rfl, by omega⟩
        | exact ⟨1, rfl, by omega⟩
        | exact ⟨2, rfl, by omega⟩) (Nat.le_of_ble_eq_true rfl) (Nat.le_of_ble_eq_true rfl)
  obtain ⟨hcr, hs9⟩ := hp
  rw [hs9] at hG
  clear hs9
  obtain ⟨q, hq⟩ : ∃ z9 : Nat, z9 = ((a)).toNat := ⟨_, rfl⟩
  rw [← hq]
  have huq : ((q : Nat) : Int) = (a) := by omega
  have hlq := hRl q (by omega)
  rw [huq] at hlq
  have h60 := gI_60 hI q 0
  have h61 := gI_61 hI q 0
  have hr63 := fun k => gI_63 hI q k
  have h20 := gI_20 hI 0 a
  have hm6 := gI_14 hI 0 0
  refine lv_astore (lv' := [(4, .ref (ad (75 + 3 * q))), (0, .ref (ad 21)), (1, .int (iI (a))), (2, .int (iI (o))), (3, .int (iI (u)))]) hx hb dX5_bound_5 hl (by decide) rfl (fun ls hl => ?_)
  refine lv_iload_n hx hb dX5_bound_7 rfl (lv_at hl 3 rfl) ?_
  refine lv_aload hx hb dX5_bound_8 (lv_at hl 0 rfl) ?_
  refine g_get hx hb hts hin0 hown hK hG (key := 75 + 3 * q) (by omega) (gC_l st ad cy q) rfl 2 (by decide) L_73 (fun _ h9 => h9) rfl dX5_bound_10 ?_
  have hr1 := gI_61 hI (q) (0)
  refine r_nm (fun v2 ev2 => ?_)
  rw [← ev2] at hr1
  refine gx_gov hG hA (vx_runS (As := [.int (iI (o)), .int (iI (v2))]) (rest := []) ⟨hx, hb, hml, hown, hts⟩ (mX5_checkIndex l D cy ad n st _ fz wb hn hI (by omega) (o) (v2) hlf (by omega) (by omega)) (va_cwS 2 hts gX5_bound_X5_checkIndex rfl rfl rfl (by decide +kernel) ⟨Nat.le_of_ble_eq_true rfl, Nat.le_of_ble_eq_true rfl⟩) ⟨g_blind, g_pre hK hG hA hN hZ⟩ rfl rfl hl.1 rfl (lv_room (Nat.le_of_ble_eq_true rfl)) dX5_bound_13 ⟨Nat.le_of_ble_eq_true rfl, Nat.le_of_ble_eq_true rfl⟩) (fun E9 st9 H locs ce9 q9 hp hG hce hcv hcl => ?_) (fun s9 H locs hp hG => ?_)
  · skip
    obtain ⟨⟨rfl, hcx⟩, hs9⟩ := hp
    rw [hs9] at hG
    clear hs9
    exact g_out hnt hlocks hG hce hcv hcl (by
      refine ⟨?_, rfl⟩
      have hks := kAns_s st a o
      first
        | exact ⟨0, rfl, by omega⟩
        | exact ⟨1, rfl, by omega⟩
        | exact ⟨2, rfl, by omega⟩) (Nat.le_of_ble_eq_true rfl) (Nat.le_of_ble_eq_true rfl)
  obtain ⟨hcr, hs9⟩ := hp
  rw [hs9] at hG
  clear hs9
  refine lv_aload hx hb dX5_bound_16 (lv_at hl 0 rfl) ?_
  refine lv_aload hx hb dX5_bound_18 (lv_at hl 0 rfl) ?_
  refine gx_gor hG hA (vx_runS (As := [.ref (ad (75 + 3 * q))]) (rest := [.ref (ad (75 + 3 * q))]) ⟨hx, hb, hml, hown, hts⟩ (mX5_groundOf l D cy ad n st _ fz wb hn hI (by omega) (q) hlf (by omega)) (va_cwS 1 hts gX5_bound_X5_groundOf rfl rfl rfl (by decide +kernel) ⟨Nat.le_of_ble_eq_true rfl, Nat.le_of_ble_eq_true rfl⟩) ⟨g_blind, g_pre hK hG hA hN hZ⟩ rfl rfl hl.1 rfl (lv_room (Nat.le_of_ble_eq_true rfl)) dX5_bound_20 ⟨Nat.le_of_ble_eq_true rfl, Nat.le_of_ble_eq_true rfl⟩) (fun E9 st9 H locs ce9 q9 hp hG hce hcv hcl => ?_) (fun s9 H locs hp hG => ?_)
  · skip
    obtain ⟨⟨rfl, hcx⟩, hs9⟩ := hp
    rw [hs9] at hG
    clear hs9
    have hg66 := gI_66 (st := st) (by assumption) (q) 0
    exact g_out hnt hlocks hG hce hcv hcl (by
      refine ⟨?_, rfl⟩
      have hks := kAns_s st a o
      first
        | exact ⟨0, rfl, by omega⟩
        | exact ⟨1, rfl, by omega⟩
        | exact ⟨2, rfl, by omega⟩) (Nat.le_of_ble_eq_true rfl) (Nat.le_of_ble_eq_true rfl)
  obtain ⟨hcr, hs9⟩ := hp
  rw [hs9] at hG
  clear hs9
  obtain ⟨t, ht⟩ : ∃ z9 : Nat, z9 = (st 66 (q) 0).toNat := ⟨_, rfl⟩
  rw [← ht]
  have hut : ((t : Nat) : Int) = st 66 (q) 0 := by omega
  have hrt := gI_66 (st := st) (by assumption) (q) 0
  have hbt : t < 6 := by omega
  refine lv_iload_n hx hb dX5_bound_23 rfl (lv_at hl 3 rfl) ?_
  refine lv_iload_n hx hb dX5_bound_24 rfl (lv_at hl 4 rfl) ?_
  refine g_goi hG hA (va_runV (As := [.ref (ad (33 + 7 * t)), .int (iI (o)), .int (iI (u))]) (rest := []) ⟨hx, hb, hml, hown, hts⟩ (mX0_boundOn l D cy ad n st _ fz wb hn hI (by omega) (q) (t) (o) (u) (by omega) (by omega) (by omega) (by omega)) (cwV 3 hts gX5_bound_X0_boundOn rfl rfl rfl (by decide +kernel) ⟨Nat.le_of_ble_eq_true rfl, Nat.le_of_ble_eq_true rfl⟩) ⟨g_blind, va_recv hK hG.1 (q0 := (75 + 3 * q) - 19) (ci := 0) rfl ((gw_at (k := 75 + 3 * q) (by omega)).trans (by rw [gC_l st ad cy q])), g_pre hK hG hA hN hZ⟩ rfl rfl hl.1 rfl (lv_room (Nat.le_of_ble_eq_true rfl)) dX5_bound_25 ⟨Nat.le_of_ble_eq_true rfl, Nat.le_of_ble_eq_true rfl⟩) (fun r9 s9 H locs hp hG => ?_)
  obtain ⟨rfl, hs9⟩ := hp
  rw [hs9] at hG
  clear hs9
  refine r_nm (fun v3 ev3 => ?_)
  refine W.widen (k := 3) (n := 18) (by omega) (by omega) ?_
  refine vx_ret ?_
  exact g_iret hx hb hr hlocks hG (by
    have hks := kAns_s st a o
    refine ⟨by omega, ?_, hI⟩
    refine ⟨?_, rfl⟩
    congr 1
    rw [← huq, ← RY_bound hR (q := q) (t := t) (by omega) hbt (by rw [huq]; omega) (by omega) huz (by omega)]
    omega) dX5_bound_28
set_option maxHeartbeats 400000 in
set_option maxRecDepth 100000 in
theorem mX5_isTrue (l : Launch) (D : va_G) (cy : Nat → ClassId) (ad : Nat → Nat) (n : Nat) (st : St) (sz fz : Nat) (wb : Int) (hn : 75 ≤ n) (hI : GI wb st) (hW : wb ≤ 2000000) (a : Int) (ha : -2147483648 ≤ a ∧ a < 2147483648) (hlf : l.stackTraces = false) (hnl : (n : Int) = 75 + 3 * st 33 0 0) (hR : RY st) : vx_Met l yX5_isTrue wsX5_isTrue ({ frames := 7, cells := 1, slots := 6, locals := 111 }) (va_Pc [.ref (ad 21), .int (iI (a))] (gB D cy ad n st sz fz)) (va_Qi (fun (r : Int32) (st' : St) => kLay st a = 0 ∧ (r = iI (if st 20 0 a = -1 then 0 else trU st a (16 * (st 15 0 a).toNat)) ∧ st' = st) ∧ GI wb st') (gP D cy ad n) (gA n ad sz)) (gX D cy ad n (fun (E : String) (st' : St) => xE [xI] E (kLay st a) ∧ st' = st) (gA n ad sz)) 1 6 (gA n ad sz) := by
  refine vx_ofW (cc := cX5_isTrue) (maxL := 3) (ret := (some .boolean)) (by decide) rfl ?_
  intro p e s m args below meth c s₁ B hml hnt hv
  obtain ⟨rfl, hsz, hP, hK, hD0, hN, hZ⟩ := hv
  have hx := B.exec
  have hb := B.bytes
  have hr := B.returns
  have hts := atoms_spec (ws := wsX5_isTrue) B.pre
  have hown : s.vm.findClass RX5 = some m.cls := findClass_of_methodNamed B.named
  have hlocks := B.notSynchronized
  subst hsz
  have hA : ∀ q : Nat, s.heap.size ≤ q → gA n ad s.heap.size q := fun q h => Or.inr h
  have hG : GH D cy ad n st (gA n ad s.heap.size) s.heap s.heap [] := ⟨hP, gw_A hD0, va_S.rf⟩
  have hl := lv_entry ([.ref (ad 21), .int (iI (a))]) (n := 3) (Nat.le_of_ble_eq_true rfl)
  rw [lg_entry_eq]
  generalize (lg_sl ([.ref (ad 21), .int (iI (a))]) ++ List.replicate (3 - (lg_sl ([.ref (ad 21), .int (iI (a))])).length) Slot.unset).toArray = ls at hl ⊢
  have hl : lv_has ls 3 [(0, .ref (ad 21)), (1, .int (iI (a)))] := hl
  have hin5 : ∀ w ∈ u_ws RX5 TX5 6, w ∈ wsX5_isTrue := by decide +kernel
  have hin0 : ∀ w ∈ u_ws RX0 TX0 8, w ∈ wsX5_isTrue := by decide +kernel
  have L_106 := hts (.fieldLink RX5 106 "Crossbarry$Layer" "ground" "LCrossbarry$Tile;") (by decide +kernel)
  have L_12 := hts (.fieldLink RX5 12 "Crossbarry" "setting" "LCrossbarry$Setting;") (by decide +kernel)
  obtain ⟨⟨hR1, hR2, hR3, hR4⟩, hRl, hRw, hRr, hRc, hRt, hRo, hRk, hsc, hsi, hch, hun, hfr⟩ := id hR
  have h33 := gI_33 hI 0 0
  refine lv_aload_n hx hb dX5_isTrue_0 rfl (lv_at hl 0 rfl) ?_
  refine lv_iload_n hx hb dX5_isTrue_1 rfl (lv_at hl 1 rfl) ?_
  refine gx_gor hG hA (vx_runV (As := [.int (iI (a))]) (rest := []) ⟨hx, hb, hml, hown, hts⟩ (mX5_layerAt l D cy ad n st _ fz wb hn hI (by omega) (a) hlf hnl (by omega)) (cwV 1 hts gX5_isTrue_X5_layerAt rfl rfl rfl (by decide +kernel) ⟨Nat.le_of_ble_eq_true rfl, Nat.le_of_ble_eq_true rfl⟩) ⟨g_blind, va_recv hK hG.1 (q0 := 21 - 19) (ci := 5) rfl ((gw_at (k := 21) (by omega)).trans (by rw [gC_21 st ad cy])), g_pre hK hG hA hN hZ⟩ rfl rfl hl.1 rfl (lv_room (Nat.le_of_ble_eq_true rfl)) dX5_isTrue_2 ⟨Nat.le_of_ble_eq_true rfl, Nat.le_of_ble_eq_true rfl⟩) (fun E9 st9 H locs ce9 q9 hp hG hce hcv hcl => ?_) (fun s9 H locs hp hG => ?_)
  · skip
    obtain ⟨⟨rfl, hcx⟩, hs9⟩ := hp
    rw [hs9] at hG
    clear hs9
    exact g_out hnt hlocks hG hce hcv hcl (by
      refine ⟨?_, rfl⟩
      have hks := kLay_s st a
      first
        | exact ⟨0, rfl, by omega⟩
        | exact ⟨1, rfl, by omega⟩
        | exact ⟨2, rfl, by omega⟩) (Nat.le_of_ble_eq_true rfl) (Nat.le_of_ble_eq_true rfl)
  obtain ⟨hcr, hs9⟩ := hp
  rw [hs9] at hG
  clear hs9
  obtain ⟨q, hq⟩ : ∃ z9 : Nat, z9 = ((a)).toNat := ⟨_, rfl⟩
  rw [← hq]
  have huq : ((q : Nat) : Int) = (a) := by omega
  have hlq := hRl q (by omega)
  rw [huq] at hlq
  have h60 := gI_60 hI q 0
  have h61 := gI_61 hI q 0
  have hr63 := fun k => gI_63 hI q k
  have h20 := gI_20 hI 0 a
  have hm6 := gI_14 hI 0 0
  refine lv_astore_n (lv' := [(2, .ref (ad (75 + 3 * q))), (0, .ref (ad 21)), (1, .int (iI (a)))]) hx hb dX5_isTrue_5 rfl hl (by decide) rfl (fun ls hl => ?_)
  refine lv_aload_n hx hb dX5_isTrue_6 rfl (lv_at hl 0 rfl) ?_
  refine g_get hx hb hts hin0 hown hK hG (key := 75 + 3 * q) (by omega) (gC_l st ad cy q) rfl 7 (by decide) L_106 (fun _ h9 => h9) rfl dX5_isTrue_7 ?_
  refine g_refs (fun hn1 => ?_) (fun t ht => ?_)
  · skip
    have hrhn1 := gI_66 hI q 0
    refine lv_ifnullN (tgt := 32) hx hb dX5_isTrue_10 (by decide) ?_
    refine lv_iconst (v := iI (0)) hx hb dX5_isTrue_32 rfl ?_
    refine W.widen (k := 1) (n := 6) (by omega) (by omega) ?_
    refine vx_ret ?_
    exact g_zret hx hb hr hlocks (narZ (by omega)) hG (by
      have hks := kLay_s st a
      refine ⟨by omega, ?_, hI⟩
      refine ⟨?_, rfl⟩
      congr 1
      first
        | (rw [if_pos (by omega)]; done)
        | (rw [if_pos (by omega)]; omega)
        | (rw [if_neg (by omega)]; have e9 := RY_true hR (q := q) (t := t) (by omega) hbt (by rw [huq]; omega) hr63 (by omega) (st 15 0 a).toNat (by omega); rw [huq] at e9; rw [← e9, ← hlq.1]; omega)) dX5_isTrue_33
  · skip
    have hrt := gI_66 hI q 0
    have hbt : t < 6 := by omega
    refine lv_ifnull hx hb dX5_isTrue_10 ?_
    refine lv_aload_n hx hb dX5_isTrue_13 rfl (lv_at hl 0 rfl) ?_
    refine lv_aload_n hx hb dX5_isTrue_14 rfl (lv_at hl 0 rfl) ?_
    refine g_get hx hb hts hin0 hown hK hG (key := 75 + 3 * q) (by omega) (gC_l st ad cy q) rfl 7 (by decide) L_106 (fun _ h9 => h9) rfl dX5_isTrue_15 ?_
    refine g_refs (fun hn9 => absurd hn9 (by omega)) (fun tz9 htz9 => ?_)
    rw [show tz9 = t by omega]
    clear htz9
    refine lv_aload_n hx hb dX5_isTrue_18 rfl (lv_at hl 1 rfl) ?_
    refine g_get hx hb hts hin5 hown hK hG (key := 21) (by omega) (gC_21 st ad cy) rfl 0 (by decide) L_12 (fun _ h9 => h9) rfl dX5_isTrue_19 ?_
    refine g_goi hG hA (va_runV (As := [.ref (ad (33 + 7 * t)), .ref (ad 22)]) (rest := []) ⟨hx, hb, hml, hown, hts⟩ (mX0_conductsAsNeeded l D cy ad n st _ fz wb hn hI (by omega) (q) (t) (by omega) (by omega) hsc) (cwV 2 hts gX5_isTrue_X0_conductsAsNeeded rfl rfl rfl (by decide +kernel) ⟨Nat.le_of_ble_eq_true rfl, Nat.le_of_ble_eq_true rfl⟩) ⟨g_blind, va_recv hK hG.1 (q0 := (75 + 3 * q) - 19) (ci := 0) rfl ((gw_at (k := 75 + 3 * q) (by omega)).trans (by rw [gC_l st ad cy q])), g_pre hK hG hA hN hZ⟩ rfl rfl hl.1 rfl (lv_room (Nat.le_of_ble_eq_true rfl)) dX5_isTrue_22 ⟨Nat.le_of_ble_eq_true rfl, Nat.le_of_ble_eq_true rfl⟩) (fun r9 s9 H locs hp hG => ?_)
    obtain ⟨rfl, hs9⟩ := hp
    rw [hs9] at hG
    clear hs9
    refine r_nm (fun v2 ev2 => ?_)
    have hr3 := allK_r st (q) (t) (st 60 (q) 0).toNat
    rw [← ev2] at hr3
    refine r_if_eq (tgt := 32) hx hb (by omega) dX5_isTrue_25 (by decide) (fun c4 => ?_) (fun c4 => ?_)
    · skip
      refine lv_iconst (v := iI (0)) hx hb dX5_isTrue_32 rfl ?_
      refine W.widen (k := 1) (n := 6) (by omega) (by omega) ?_
      refine vx_ret ?_
      exact g_zret hx hb hr hlocks (narZ (by omega)) hG (by
        have hks := kLay_s st a
        refine ⟨by omega, ?_, hI⟩
        refine ⟨?_, rfl⟩
        congr 1
        first
          | (rw [if_pos (by omega)]; done)
          | (rw [if_pos (by omega)]; omega)
          | (rw [if_neg (by omega)]; have e9 := RY_true hR (q := q) (t := t) (by omega) hbt (by rw [huq]; omega) hr63 (by omega) (st 15 0 a).toNat (by omega); rw [huq] at e9; rw [← e9, ← hlq.1]; omega)) dX5_isTrue_33
    · skip
      refine lv_iconst (v := iI (1)) hx hb dX5_isTrue_28 rfl ?_
      refine lv_goto (tgt := 33) hx hb dX5_isTrue_29 (by decide) ?_
      refine W.widen (k := 1) (n := 6) (by omega) (by omega) ?_
      refine vx_ret ?_
      exact g_zret hx hb hr hlocks (narZ (by omega)) hG (by
        have hks := kLay_s st a
        refine ⟨by omega, ?_, hI⟩
        refine ⟨?_, rfl⟩
        congr 1
        first
          | (rw [if_pos (by omega)]; done)
          | (rw [if_pos (by omega)]; omega)
          | (rw [if_neg (by omega)]; have e9 := RY_true hR (q := q) (t := t) (by omega) hbt (by rw [huq]; omega) hr63 (by omega) (st 15 0 a).toNat (by omega); rw [huq] at e9; rw [← e9, ← hlq.1]; omega)) dX5_isTrue_33
set_option maxHeartbeats 400000 in
set_option maxRecDepth 100000 in
theorem mX5_run (l : Launch) (D : va_G) (cy : Nat → ClassId) (ad : Nat → Nat) (n : Nat) (st : St) (sz fz : Nat) (wb : Int) (hn : 75 ≤ n) (hI : GI wb st) (hW : wb ≤ 2000000) (a : Int) (vec : Nat) (ha : -2147483648 ≤ a ∧ a < 2147483648) (hlf : l.stackTraces = false) (hnl : (n : Int) = 75 + 3 * st 33 0 0) (hR : RY st) (hvec : vec < 2 ^ 64) : vx_Met l yX5_run wsX5_run ({ frames := 7, cells := 7, slots := 42, locals := 132 }) (va_Pc [.ref (ad 21), .int (iI (a)), .long (lN vec)] (gB D cy ad n st sz fz)) (va_Ql (fun (r : Int64) (st' : St) => kRun st a = 0 ∧ (r = lN (runC st 0 6 a vec) ∧ st' = st) ∧ GI wb st') (gP D cy ad n) (gA n ad sz)) (gX D cy ad n (fun (E : String) (st' : St) => xE [xI, xS] E (kRun st a) ∧ st' = st) (gA n ad sz)) 7 42 (gA n ad sz) := by
  refine vx_ofW (cc := cX5_run) (maxL := 7) (ret := (some .long)) (by decide) rfl ?_
  intro p e s m args below meth c s₁ B hml hnt hv
  obtain ⟨rfl, hsz, hP, hK, hD0, hN, hZ⟩ := hv
  have hx := B.exec
  have hb := B.bytes
  have hr := B.returns
  have hts := atoms_spec (ws := wsX5_run) B.pre
  have hown : s.vm.findClass RX5 = some m.cls := findClass_of_methodNamed B.named
  have hlocks := B.notSynchronized
  subst hsz
  have hA : ∀ q : Nat, s.heap.size ≤ q → gA n ad s.heap.size q := fun q h => Or.inr h
  have hG : GH D cy ad n st (gA n ad s.heap.size) s.heap s.heap [] := ⟨hP, gw_A hD0, va_S.rf⟩
  have hl := lv_entry ([.ref (ad 21), .int (iI (a)), .long (lN vec)]) (n := 7) (Nat.le_of_ble_eq_true rfl)
  rw [lg_entry_eq]
  generalize (lg_sl ([.ref (ad 21), .int (iI (a)), .long (lN vec)]) ++ List.replicate (7 - (lg_sl ([.ref (ad 21), .int (iI (a)), .long (lN vec)])).length) Slot.unset).toArray = ls at hl ⊢
  have hl : lv_has ls 7 [(0, .ref (ad 21)), (1, .int (iI (a))), (2, .long (lN vec))] := hl
  have hin5 : ∀ w ∈ u_ws RX5 TX5 6, w ∈ wsX5_run := by decide +kernel
  have hin0 : ∀ w ∈ u_ws RX0 TX0 8, w ∈ wsX5_run := by decide +kernel
  have L_95 := hts (.fieldLink RX5 95 "Crossbarry$Layer" "nextLayer" "LCrossbarry$Layer;") (by decide +kernel)
  obtain ⟨⟨hR1, hR2, hR3, hR4⟩, hRl, hRw, hRr, hRc, hRt, hRo, hRk, hsc, hsi, hch, hun, hfr⟩ := id hR
  have h33 := gI_33 hI 0 0
  have hm6 := gI_14 hI 0 0
  refine lv_lload_n hx hb dX5_run_0 rfl (lv_at hl 2 rfl) ?_
  refine lv_lstore (lv' := [(4, .long (lN vec)), (0, .ref (ad 21)), (1, .int (iI (a))), (2, .long (lN vec))]) hx hb dX5_run_1 hl (by decide) rfl (fun ls hl => ?_)
  refine lv_aload_n hx hb dX5_run_3 rfl (lv_at hl 1 rfl) ?_
  refine lv_iload_n hx hb dX5_run_4 rfl (lv_at hl 2 rfl) ?_
  refine gx_gor hG hA (vx_runV (As := [.int (iI (a))]) (rest := []) ⟨hx, hb, hml, hown, hts⟩ (mX5_layerAt l D cy ad n st _ fz wb hn hI (by omega) (a) hlf hnl (by omega)) (cwV 1 hts gX5_run_X5_layerAt rfl rfl rfl (by decide +kernel) ⟨Nat.le_of_ble_eq_true rfl, Nat.le_of_ble_eq_true rfl⟩) ⟨g_blind, va_recv hK hG.1 (q0 := 21 - 19) (ci := 5) rfl ((gw_at (k := 21) (by omega)).trans (by rw [gC_21 st ad cy])), g_pre hK hG hA hN hZ⟩ rfl rfl hl.1 rfl (lv_room (Nat.le_of_ble_eq_true rfl)) dX5_run_5 ⟨(by show _ ≤ 7; omega), (by show _ ≤ 42; omega)⟩) (fun E9 st9 H locs ce9 q9 hp hG hce hcv hcl => ?_) (fun s9 H locs hp hG => ?_)
  · skip
    obtain ⟨⟨rfl, hcx⟩, hs9⟩ := hp
    rw [hs9] at hG
    clear hs9
    exact g_out hnt hlocks hG hce hcv hcl (by
      refine ⟨?_, rfl⟩
      have hks := kRun_s st a
      first
        | exact ⟨0, rfl, by omega⟩
        | exact ⟨1, rfl, by omega⟩
        | exact ⟨2, rfl, by omega⟩) (Nat.le_of_ble_eq_true rfl) (Nat.le_of_ble_eq_true rfl)
  obtain ⟨hcr, hs9⟩ := hp
  rw [hs9] at hG
  clear hs9
  obtain ⟨q, hq⟩ : ∃ z9 : Nat, z9 = ((a)).toNat := ⟨_, rfl⟩
  rw [← hq]
  have huq : ((q : Nat) : Int) = (a) := by omega
  have hcq := hch a (by omega) (by omega)
  have hm6 := gI_14 hI 0 0
  refine lv_astore (lv' := [(6, .ref (ad (75 + 3 * q))), (4, .long (lN vec)), (0, .ref (ad 21)), (1, .int (iI (a))), (2, .long (lN vec))]) hx hb dX5_run_8 hl (by decide) rfl (fun ls hl => ?_)
  have hloop10 : ∀ (N : Nat)  (la : Int) (v : Nat) (f : Nat) (H : Heap) (locs : List Loc) (ls : Array Slot), f < N → (v < 2 ^ 64) → (la = -1 ∨ (0 ≤ la ∧ la < st 14 0 0 ∧ 6 ≤ la + (f : Int))) → (f ≤ 6) → (runC st 0 f la v = runC st 0 6 a vec) → (chP st f la = chP st 6 a) →  GH D cy ad n st (gA n ad s.heap.size) s.heap H locs → lv_has ls 7 [(4, .long (lN v)), (6, va_rf (gref ad 75 3 (la))), (0, .ref (ad 21)), (1, .int (iI (a))), (2, .long (lN vec))] → W p l e (headSpec wsX5_run { frames := 7, cells := 7, slots := 42, locals := 132 }).room s m (#[.ref (ad 21), .int (iI (a)), .long (lN vec)] : Array Value) below meth c H locs (7 - f) (6 * (7 - f)) (vx_MQ below (va_Ql (fun (r : Int64) (st' : St) => kRun st a = 0 ∧ (r = lN (runC st 0 6 a vec) ∧ st' = st) ∧ GI wb st') (gP D cy ad n) (gA n ad s.heap.size)) (gX D cy ad n (fun (E : String) (st' : St) => xE [xI, xS] E (kRun st a) ∧ st' = st) (gA n ad s.heap.size)) (#[.ref (ad 21), .int (iI (a)), .long (lN vec)] : Array Value) s 7 42 (gA n ad s.heap.size)) (F0 m 10 ls []) := by
    intro N
    induction N with
    | zero => intro  la v f H locs ls hm; exact absurd hm (Nat.not_lt_zero _)
    | succ N ih10 =>
      intro  la v f H locs ls hm hv hl9 hf hrn hcp hG hl
      by_cases hsp : la < 0
      · skip
        have hl : lv_has ls 7 [(4, .long (lN v)), (6, .null), (0, .ref (ad 21)), (1, .int (iI (a))), (2, .long (lN vec))] := by rw [rf_n hsp] at hl; exact hl
        refine lv_aloadN hx hb dX5_run_10 (lv_at hl 1 rfl) ?_
        refine lv_ifnullN (tgt := 40) hx hb dX5_run_12 (by decide) ?_
        refine lv_lload hx hb dX5_run_40 (lv_at hl 0 rfl) ?_
        refine W.widen (k := 7) (n := 42) (by omega) (by omega) ?_
        refine vx_ret ?_
        exact g_lret hx hb hr hlocks hG (by
          have hks := kRun_s st a
          have hlm : la = -1 := by omega
          rw [hlm, chP_e] at hcp
          refine ⟨by omega, ⟨?_, rfl⟩, hI⟩
          rw [← hrn, hlm, runC_e]) dX5_run_42
      · skip
        obtain ⟨y, hy⟩ : ∃ z9 : Nat, la = (z9 : Int) := ⟨(la).toNat, by omega⟩
        have hl : lv_has ls 7 [(4, .long (lN v)), (6, .ref (ad (75 + 3 * y))), (0, .ref (ad 21)), (1, .int (iI (a))), (2, .long (lN vec))] := by rw [rf_t hy] at hl; exact hl
        obtain ⟨f1, rfl⟩ : ∃ f1 : Nat, f = f1 + 1 := ⟨f - 1, by omega⟩
        rw [hy, runC_s, if_neg (by omega)] at hrn
        rw [hy, chP_s, if_neg (by omega)] at hcp
        have hly := hRl y (by omega)
        have hcy := hch ((y : Nat) : Int) (by omega) (by omega)
        have h61 := gI_61 hI y 0
        have h20 := gI_20 hI 0 ((y : Nat) : Int)
        refine lv_aload hx hb dX5_run_10 (lv_at hl 1 rfl) ?_
        refine lv_ifnull hx hb dX5_run_12 ?_
        refine lv_aload_n hx hb dX5_run_15 rfl (lv_at hl 2 rfl) ?_
        refine lv_aload hx hb dX5_run_16 (lv_at hl 1 rfl) ?_
        refine lv_aload hx hb dX5_run_18 (lv_at hl 1 rfl) ?_
        refine gx_gor hG hA (vx_runS (As := [.ref (ad (75 + 3 * y))]) (rest := [.ref (ad (75 + 3 * y)), .ref (ad 21)]) ⟨hx, hb, hml, hown, hts⟩ (mX5_groundOf l D cy ad n st _ fz wb hn hI (by omega) (y) hlf (by omega)) (va_cwS 1 hts gX5_run_X5_groundOf rfl rfl rfl (by decide +kernel) ⟨Nat.le_of_ble_eq_true rfl, Nat.le_of_ble_eq_true rfl⟩) ⟨g_blind, g_pre hK hG hA hN hZ⟩ rfl rfl hl.1 rfl (lv_room (Nat.le_of_ble_eq_true rfl)) dX5_run_20 ⟨(by show _ ≤ 7; omega), (by show _ ≤ 42; omega)⟩) (fun E9 st9 H locs ce9 q9 hp hG hce hcv hcl => ?_) (fun s9 H locs hp hG => ?_)
        · skip
          obtain ⟨⟨rfl, hcx⟩, hs9⟩ := hp
          rw [hs9] at hG
          clear hs9
          have hg66 := gI_66 (st := st) (by assumption) (y) 0
          exact g_out hnt hlocks hG hce hcv hcl (by
            refine ⟨?_, rfl⟩
            have hks := kRun_s st a
            rw [if_pos (by omega)] at hcp
            exact ⟨1, rfl, by omega⟩) (by omega) (by omega)
        obtain ⟨hcr, hs9⟩ := hp
        rw [hs9] at hG
        clear hs9
        obtain ⟨t, ht⟩ : ∃ z9 : Nat, z9 = (st 66 (y) 0).toNat := ⟨_, rfl⟩
        rw [← ht]
        have hut : ((t : Nat) : Int) = st 66 (y) 0 := by omega
        have hrt := gI_66 (st := st) (by assumption) (y) 0
        rw [if_neg (by omega)] at hcp
        have hbt : t < 6 := by omega
        refine lv_lload hx hb dX5_run_23 (lv_at hl 0 rfl) ?_
        refine g_gol hG hA (va_runV (As := [.ref (ad (75 + 3 * y)), .ref (ad (33 + 7 * t)), .long (lN v)]) (rest := []) ⟨hx, hb, hml, hown, hts⟩ (mX5_vectorFrom l D cy ad n st _ fz wb hn hI (by omega) (y) (t) v hR (by omega) (by omega) (by omega) (by omega) (by omega)) (cwV 3 hts gX5_run_X5_vectorFrom rfl rfl rfl (by decide +kernel) ⟨Nat.le_of_ble_eq_true rfl, Nat.le_of_ble_eq_true rfl⟩) ⟨g_blind, va_recv hK hG.1 (q0 := 21 - 19) (ci := 5) rfl ((gw_at (k := 21) (by omega)).trans (by rw [gC_21 st ad cy])), g_pre hK hG hA hN hZ⟩ rfl rfl hl.1 rfl (lv_room (Nat.le_of_ble_eq_true rfl)) dX5_run_25 ⟨(by show _ ≤ 7; omega), (by show _ ≤ 42; omega)⟩) (fun r9 s9 H locs hp hG => ?_)
        obtain ⟨rfl, hs9⟩ := hp
        rw [hs9] at hG
        clear hs9
        refine lv_lstore (lv' := [(4, .long (lN (vecU st (((y) : Nat) : Int) v 0 (st 16 0 (((y) : Nat) : Int)).toNat))), (6, .ref (ad (75 + 3 * y))), (0, .ref (ad 21)), (1, .int (iI (a))), (2, .long (lN vec))]) hx hb dX5_run_28 hl (by decide) rfl (fun ls hl => ?_)
        refine lv_aload hx hb dX5_run_30 (lv_at hl 1 rfl) ?_
        refine g_get hx hb hts hin0 hown hK hG (key := 75 + 3 * y) (by omega) (gC_l st ad cy y) rfl 6 (by decide) L_95 (fun _ h9 => h9) rfl dX5_run_32 ?_
        refine g_refs (fun hn1 => ?_) (fun t2 ht2 => ?_)
        · skip
          have hrhn1 := gI_65 hI y 0
          refine lv_astoreN (lv' := [(6, .null), (4, .long (lN (vecU st (((y) : Nat) : Int) v 0 (st 16 0 (((y) : Nat) : Int)).toNat))), (0, .ref (ad 21)), (1, .int (iI (a))), (2, .long (lN vec))]) hx hb dX5_run_35 hl (by decide) rfl (fun ls hl => ?_)
          refine lv_goto (tgt := 10) hx hb dX5_run_37 (by decide) ?_
          refine W.widen (k := 7 - f1) (n := 6 * (7 - f1)) (by omega) (by omega) ?_
          rw [show (lN (vecU st (((y) : Nat) : Int) v 0 (st 16 0 (((y) : Nat) : Int)).toNat) : Int64) = lN (vecU st ((y : Nat) : Int) v 0 (st 16 0 ((y : Nat) : Int)).toNat) from by rfl] at hl
          have hl : lv_has ls 7 [(6, va_rf (gref ad 75 3 (((-1))))), (4, .long (lN (vecU st (((y) : Nat) : Int) v 0 (st 16 0 (((y) : Nat) : Int)).toNat))), (0, .ref (ad 21)), (1, .int (iI (a))), (2, .long (lN vec))] := by rw [rf_n (by decide)]; exact hl
          exact ih10  ((-1)) (vecU st ((y : Nat) : Int) v 0 (st 16 0 ((y : Nat) : Int)).toNat) (f1) _ _ _ (by omega) (by exact Nat.lt_of_lt_of_le (vecU_b st _ v 0 _) (Nat.pow_le_pow_right (by decide) (by omega))) (by omega) (by omega) (by rw [show st 19 0 ((y : Nat) : Int) = (-1) by omega] at hrn; exact hrn) (by rw [show st 19 0 ((y : Nat) : Int) = (-1) by omega] at hcp; exact hcp) hG (lv_sub hl [1, 0, 2, 3, 4] rfl)
        · skip
          have hrt2 := gI_65 hI y 0
          have hbt2 : t2 < 6 := by omega
          refine lv_astore (lv' := [(6, .ref (ad (75 + 3 * t2))), (4, .long (lN (vecU st (((y) : Nat) : Int) v 0 (st 16 0 (((y) : Nat) : Int)).toNat))), (0, .ref (ad 21)), (1, .int (iI (a))), (2, .long (lN vec))]) hx hb dX5_run_35 hl (by decide) rfl (fun ls hl => ?_)
          refine lv_goto (tgt := 10) hx hb dX5_run_37 (by decide) ?_
          refine W.widen (k := 7 - f1) (n := 6 * (7 - f1)) (by omega) (by omega) ?_
          rw [show (lN (vecU st (((y) : Nat) : Int) v 0 (st 16 0 (((y) : Nat) : Int)).toNat) : Int64) = lN (vecU st ((y : Nat) : Int) v 0 (st 16 0 ((y : Nat) : Int)).toNat) from by rfl] at hl
          have hl : lv_has ls 7 [(6, va_rf (gref ad 75 3 ((((t2 : Nat) : Int))))), (4, .long (lN (vecU st (((y) : Nat) : Int) v 0 (st 16 0 (((y) : Nat) : Int)).toNat))), (0, .ref (ad 21)), (1, .int (iI (a))), (2, .long (lN vec))] := by rw [rf_t rfl]; exact hl
          exact ih10  (((t2 : Nat) : Int)) (vecU st ((y : Nat) : Int) v 0 (st 16 0 ((y : Nat) : Int)).toNat) (f1) _ _ _ (by omega) (by exact Nat.lt_of_lt_of_le (vecU_b st _ v 0 _) (Nat.pow_le_pow_right (by decide) (by omega))) (by omega) (by omega) (by rw [show st 19 0 ((y : Nat) : Int) = ((t2 : Nat) : Int) by omega] at hrn; exact hrn) (by rw [show st 19 0 ((y : Nat) : Int) = ((t2 : Nat) : Int) by omega] at hcp; exact hcp) hG (lv_sub hl [1, 0, 2, 3, 4] rfl)
  have hl : lv_has ls 7 [(6, va_rf (gref ad 75 3 ((((q : Nat) : Int))))), (4, .long (lN vec)), (0, .ref (ad 21)), (1, .int (iI (a))), (2, .long (lN vec))] := by rw [rf_t rfl]; exact hl
  exact hloop10 _  (((q : Nat) : Int)) (vec) (6) _ _ _ (Nat.lt_succ_self _) (by exact hvec) (by omega) (by omega) (by rw [huq]) (by rw [huq]) hG (lv_sub hl [1, 0, 2, 3, 4] rfl)
set_option maxHeartbeats 400000 in
set_option maxRecDepth 100000 in
theorem mX5_runIdeal (l : Launch) (D : va_G) (cy : Nat → ClassId) (ad : Nat → Nat) (n : Nat) (st : St) (sz fz : Nat) (wb : Int) (hn : 75 ≤ n) (hI : GI wb st) (hW : wb ≤ 2000000) (a : Int) (vec : Nat) (ha : -2147483648 ≤ a ∧ a < 2147483648) (hlf : l.stackTraces = false) (hnl : (n : Int) = 75 + 3 * st 33 0 0) (hR : RY st) (hvec : vec < 2 ^ 64) : vx_Met l yX5_runIdeal wsX5_runIdeal ({ frames := 7, cells := 1, slots := 6, locals := 132 }) (va_Pc [.ref (ad 21), .int (iI (a)), .long (lN vec)] (gB D cy ad n st sz fz)) (va_Ql (fun (r : Int64) (st' : St) => kLay st a = 0 ∧ (r = lN (runC st 1 6 a vec) ∧ st' = st) ∧ GI wb st') (gP D cy ad n) (gA n ad sz)) (gX D cy ad n (fun (E : String) (st' : St) => xE [xI] E (kLay st a) ∧ st' = st) (gA n ad sz)) 1 6 (gA n ad sz) := by
  refine vx_ofW (cc := cX5_runIdeal) (maxL := 7) (ret := (some .long)) (by decide) rfl ?_
  intro p e s m args below meth c s₁ B hml hnt hv
  obtain ⟨rfl, hsz, hP, hK, hD0, hN, hZ⟩ := hv
  have hx := B.exec
  have hb := B.bytes
  have hr := B.returns
  have hts := atoms_spec (ws := wsX5_runIdeal) B.pre
  have hown : s.vm.findClass RX5 = some m.cls := findClass_of_methodNamed B.named
  have hlocks := B.notSynchronized
  subst hsz
  have hA : ∀ q : Nat, s.heap.size ≤ q → gA n ad s.heap.size q := fun q h => Or.inr h
  have hG : GH D cy ad n st (gA n ad s.heap.size) s.heap s.heap [] := ⟨hP, gw_A hD0, va_S.rf⟩
  have hl := lv_entry ([.ref (ad 21), .int (iI (a)), .long (lN vec)]) (n := 7) (Nat.le_of_ble_eq_true rfl)
  rw [lg_entry_eq]
  generalize (lg_sl ([.ref (ad 21), .int (iI (a)), .long (lN vec)]) ++ List.replicate (7 - (lg_sl ([.ref (ad 21), .int (iI (a)), .long (lN vec)])).length) Slot.unset).toArray = ls at hl ⊢
  have hl : lv_has ls 7 [(0, .ref (ad 21)), (1, .int (iI (a))), (2, .long (lN vec))] := hl
  have hin5 : ∀ w ∈ u_ws RX5 TX5 6, w ∈ wsX5_runIdeal := by decide +kernel
  have hin0 : ∀ w ∈ u_ws RX0 TX0 8, w ∈ wsX5_runIdeal := by decide +kernel
  have L_95 := hts (.fieldLink RX5 95 "Crossbarry$Layer" "nextLayer" "LCrossbarry$Layer;") (by decide +kernel)
  obtain ⟨⟨hR1, hR2, hR3, hR4⟩, hRl, hRw, hRr, hRc, hRt, hRo, hRk, hsc, hsi, hch, hun, hfr⟩ := id hR
  have h33 := gI_33 hI 0 0
  have hm6 := gI_14 hI 0 0
  refine lv_lload_n hx hb dX5_runIdeal_0 rfl (lv_at hl 2 rfl) ?_
  refine lv_lstore (lv' := [(4, .long (lN vec)), (0, .ref (ad 21)), (1, .int (iI (a))), (2, .long (lN vec))]) hx hb dX5_runIdeal_1 hl (by decide) rfl (fun ls hl => ?_)
  refine lv_aload_n hx hb dX5_runIdeal_3 rfl (lv_at hl 1 rfl) ?_
  refine lv_iload_n hx hb dX5_runIdeal_4 rfl (lv_at hl 2 rfl) ?_
  refine gx_gor hG hA (vx_runV (As := [.int (iI (a))]) (rest := []) ⟨hx, hb, hml, hown, hts⟩ (mX5_layerAt l D cy ad n st _ fz wb hn hI (by omega) (a) hlf hnl (by omega)) (cwV 1 hts gX5_runIdeal_X5_layerAt rfl rfl rfl (by decide +kernel) ⟨Nat.le_of_ble_eq_true rfl, Nat.le_of_ble_eq_true rfl⟩) ⟨g_blind, va_recv hK hG.1 (q0 := 21 - 19) (ci := 5) rfl ((gw_at (k := 21) (by omega)).trans (by rw [gC_21 st ad cy])), g_pre hK hG hA hN hZ⟩ rfl rfl hl.1 rfl (lv_room (Nat.le_of_ble_eq_true rfl)) dX5_runIdeal_5 ⟨Nat.le_of_ble_eq_true rfl, Nat.le_of_ble_eq_true rfl⟩) (fun E9 st9 H locs ce9 q9 hp hG hce hcv hcl => ?_) (fun s9 H locs hp hG => ?_)
  · skip
    obtain ⟨⟨rfl, hcx⟩, hs9⟩ := hp
    rw [hs9] at hG
    clear hs9
    exact g_out hnt hlocks hG hce hcv hcl (by
      refine ⟨?_, rfl⟩
      have hks := kLay_s st a
      first
        | exact ⟨0, rfl, by omega⟩
        | exact ⟨1, rfl, by omega⟩
        | exact ⟨2, rfl, by omega⟩) (Nat.le_of_ble_eq_true rfl) (Nat.le_of_ble_eq_true rfl)
  obtain ⟨hcr, hs9⟩ := hp
  rw [hs9] at hG
  clear hs9
  obtain ⟨q, hq⟩ : ∃ z9 : Nat, z9 = ((a)).toNat := ⟨_, rfl⟩
  rw [← hq]
  have huq : ((q : Nat) : Int) = (a) := by omega
  have hcq := hch a (by omega) (by omega)
  have hm6 := gI_14 hI 0 0
  refine lv_astore (lv' := [(6, .ref (ad (75 + 3 * q))), (4, .long (lN vec)), (0, .ref (ad 21)), (1, .int (iI (a))), (2, .long (lN vec))]) hx hb dX5_runIdeal_8 hl (by decide) rfl (fun ls hl => ?_)
  have hloop10 : ∀ (N : Nat)  (la : Int) (v : Nat) (f : Nat) (H : Heap) (locs : List Loc) (ls : Array Slot), f < N → (v < 2 ^ 64) → (la = -1 ∨ (0 ≤ la ∧ la < st 14 0 0 ∧ 6 ≤ la + (f : Int))) → (f ≤ 6) → (runC st 1 f la v = runC st 1 6 a vec) →  GH D cy ad n st (gA n ad s.heap.size) s.heap H locs → lv_has ls 7 [(4, .long (lN v)), (6, va_rf (gref ad 75 3 (la))), (0, .ref (ad 21)), (1, .int (iI (a))), (2, .long (lN vec))] → W p l e (headSpec wsX5_runIdeal { frames := 7, cells := 1, slots := 6, locals := 132 }).room s m (#[.ref (ad 21), .int (iI (a)), .long (lN vec)] : Array Value) below meth c H locs 1 6 (vx_MQ below (va_Ql (fun (r : Int64) (st' : St) => kLay st a = 0 ∧ (r = lN (runC st 1 6 a vec) ∧ st' = st) ∧ GI wb st') (gP D cy ad n) (gA n ad s.heap.size)) (gX D cy ad n (fun (E : String) (st' : St) => xE [xI] E (kLay st a) ∧ st' = st) (gA n ad s.heap.size)) (#[.ref (ad 21), .int (iI (a)), .long (lN vec)] : Array Value) s 1 6 (gA n ad s.heap.size)) (F0 m 10 ls []) := by
    intro N
    induction N with
    | zero => intro  la v f H locs ls hm; exact absurd hm (Nat.not_lt_zero _)
    | succ N ih10 =>
      intro  la v f H locs ls hm hv hl9 hf hrn hG hl
      by_cases hsp : la < 0
      · skip
        have hl : lv_has ls 7 [(4, .long (lN v)), (6, .null), (0, .ref (ad 21)), (1, .int (iI (a))), (2, .long (lN vec))] := by rw [rf_n hsp] at hl; exact hl
        refine lv_aloadN hx hb dX5_runIdeal_10 (lv_at hl 1 rfl) ?_
        refine lv_ifnullN (tgt := 36) hx hb dX5_runIdeal_12 (by decide) ?_
        refine lv_lload hx hb dX5_runIdeal_36 (lv_at hl 0 rfl) ?_
        refine W.widen (k := 1) (n := 6) (by omega) (by omega) ?_
        refine vx_ret ?_
        exact g_lret hx hb hr hlocks hG (by
          have hks := kLay_s st a
          have hlm : la = -1 := by omega
          refine ⟨by omega, ⟨?_, rfl⟩, hI⟩
          rw [← hrn, hlm, runC_e]) dX5_runIdeal_38
      · skip
        obtain ⟨y, hy⟩ : ∃ z9 : Nat, la = (z9 : Int) := ⟨(la).toNat, by omega⟩
        have hl : lv_has ls 7 [(4, .long (lN v)), (6, .ref (ad (75 + 3 * y))), (0, .ref (ad 21)), (1, .int (iI (a))), (2, .long (lN vec))] := by rw [rf_t hy] at hl; exact hl
        obtain ⟨f1, rfl⟩ : ∃ f1 : Nat, f = f1 + 1 := ⟨f - 1, by omega⟩
        rw [hy, runC_s, if_neg (by omega)] at hrn
        have hly := hRl y (by omega)
        have hcy := hch ((y : Nat) : Int) (by omega) (by omega)
        have h61 := gI_61 hI y 0
        have h20 := gI_20 hI 0 ((y : Nat) : Int)
        refine lv_aload hx hb dX5_runIdeal_10 (lv_at hl 1 rfl) ?_
        refine lv_ifnull hx hb dX5_runIdeal_12 ?_
        refine lv_aload_n hx hb dX5_runIdeal_15 rfl (lv_at hl 2 rfl) ?_
        refine lv_aload hx hb dX5_runIdeal_16 (lv_at hl 1 rfl) ?_
        refine lv_null hx hb dX5_runIdeal_18 ?_
        refine lv_lload hx hb dX5_runIdeal_19 (lv_at hl 0 rfl) ?_
        refine g_gol hG hA (va_runV (As := [.ref (ad (75 + 3 * y)), .null, .long (lN v)]) (rest := []) ⟨hx, hb, hml, hown, hts⟩ (mX5_vectorFromN l D cy ad n st _ fz wb hn hI (by omega) (y) v hR (by omega) (by omega) (by omega)) (cwV 3 hts gX5_runIdeal_X5_vectorFrom rfl rfl rfl (by decide +kernel) ⟨Nat.le_of_ble_eq_true rfl, Nat.le_of_ble_eq_true rfl⟩) ⟨g_blind, va_recv hK hG.1 (q0 := 21 - 19) (ci := 5) rfl ((gw_at (k := 21) (by omega)).trans (by rw [gC_21 st ad cy])), g_pre hK hG hA hN hZ⟩ rfl rfl hl.1 rfl (lv_room (Nat.le_of_ble_eq_true rfl)) dX5_runIdeal_21 ⟨Nat.le_of_ble_eq_true rfl, Nat.le_of_ble_eq_true rfl⟩) (fun r9 s9 H locs hp hG => ?_)
        obtain ⟨rfl, hs9⟩ := hp
        rw [hs9] at hG
        clear hs9
        refine lv_lstore (lv' := [(4, .long (lN (vecU st (((y) : Nat) : Int) v 1 (st 16 0 (((y) : Nat) : Int)).toNat))), (6, .ref (ad (75 + 3 * y))), (0, .ref (ad 21)), (1, .int (iI (a))), (2, .long (lN vec))]) hx hb dX5_runIdeal_24 hl (by decide) rfl (fun ls hl => ?_)
        refine lv_aload hx hb dX5_runIdeal_26 (lv_at hl 1 rfl) ?_
        refine g_get hx hb hts hin0 hown hK hG (key := 75 + 3 * y) (by omega) (gC_l st ad cy y) rfl 6 (by decide) L_95 (fun _ h9 => h9) rfl dX5_runIdeal_28 ?_
        refine g_refs (fun hn1 => ?_) (fun t2 ht2 => ?_)
        · skip
          have hrhn1 := gI_65 hI y 0
          refine lv_astoreN (lv' := [(6, .null), (4, .long (lN (vecU st (((y) : Nat) : Int) v 1 (st 16 0 (((y) : Nat) : Int)).toNat))), (0, .ref (ad 21)), (1, .int (iI (a))), (2, .long (lN vec))]) hx hb dX5_runIdeal_31 hl (by decide) rfl (fun ls hl => ?_)
          refine lv_goto (tgt := 10) hx hb dX5_runIdeal_33 (by decide) ?_
          rw [show (lN (vecU st (((y) : Nat) : Int) v 1 (st 16 0 (((y) : Nat) : Int)).toNat) : Int64) = lN (vecU st ((y : Nat) : Int) v 1 (st 16 0 ((y : Nat) : Int)).toNat) from by rfl] at hl
          have hl : lv_has ls 7 [(6, va_rf (gref ad 75 3 (((-1))))), (4, .long (lN (vecU st (((y) : Nat) : Int) v 1 (st 16 0 (((y) : Nat) : Int)).toNat))), (0, .ref (ad 21)), (1, .int (iI (a))), (2, .long (lN vec))] := by rw [rf_n (by decide)]; exact hl
          exact ih10  ((-1)) (vecU st ((y : Nat) : Int) v 1 (st 16 0 ((y : Nat) : Int)).toNat) (f1) _ _ _ (by omega) (by exact Nat.lt_of_lt_of_le (vecU_b st _ v 1 _) (Nat.pow_le_pow_right (by decide) (by omega))) (by omega) (by omega) (by rw [show st 19 0 ((y : Nat) : Int) = (-1) by omega] at hrn; exact hrn) hG (lv_sub hl [1, 0, 2, 3, 4] rfl)
        · skip
          have hrt2 := gI_65 hI y 0
          have hbt2 : t2 < 6 := by omega
          refine lv_astore (lv' := [(6, .ref (ad (75 + 3 * t2))), (4, .long (lN (vecU st (((y) : Nat) : Int) v 1 (st 16 0 (((y) : Nat) : Int)).toNat))), (0, .ref (ad 21)), (1, .int (iI (a))), (2, .long (lN vec))]) hx hb dX5_runIdeal_31 hl (by decide) rfl (fun ls hl => ?_)
          refine lv_goto (tgt := 10) hx hb dX5_runIdeal_33 (by decide) ?_
          rw [show (lN (vecU st (((y) : Nat) : Int) v 1 (st 16 0 (((y) : Nat) : Int)).toNat) : Int64) = lN (vecU st ((y : Nat) : Int) v 1 (st 16 0 ((y : Nat) : Int)).toNat) from by rfl] at hl
          have hl : lv_has ls 7 [(6, va_rf (gref ad 75 3 ((((t2 : Nat) : Int))))), (4, .long (lN (vecU st (((y) : Nat) : Int) v 1 (st 16 0 (((y) : Nat) : Int)).toNat))), (0, .ref (ad 21)), (1, .int (iI (a))), (2, .long (lN vec))] := by rw [rf_t rfl]; exact hl
          exact ih10  (((t2 : Nat) : Int)) (vecU st ((y : Nat) : Int) v 1 (st 16 0 ((y : Nat) : Int)).toNat) (f1) _ _ _ (by omega) (by exact Nat.lt_of_lt_of_le (vecU_b st _ v 1 _) (Nat.pow_le_pow_right (by decide) (by omega))) (by omega) (by omega) (by rw [show st 19 0 ((y : Nat) : Int) = ((t2 : Nat) : Int) by omega] at hrn; exact hrn) hG (lv_sub hl [1, 0, 2, 3, 4] rfl)
  have hl : lv_has ls 7 [(6, va_rf (gref ad 75 3 ((((q : Nat) : Int))))), (4, .long (lN vec)), (0, .ref (ad 21)), (1, .int (iI (a))), (2, .long (lN vec))] := by rw [rf_t rfl]; exact hl
  exact hloop10 _  (((q : Nat) : Int)) (vec) (6) _ _ _ (Nat.lt_succ_self _) (by exact hvec) (by omega) (by omega) (by rw [huq]) hG (lv_sub hl [1, 0, 2, 3, 4] rfl)
