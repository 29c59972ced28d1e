set_option maxHeartbeats 400000 in
set_option maxRecDepth 100000 in
theorem mX2_fewestFrom (l : Launch) (D : va_G) (cy : Nat → ClassId) (ad : Nat → Nat) (n : Nat) (st : St) (sz fz : Nat) (wb : Int) (hn : 75 ≤ n) (hI : GI wb st) (hW : wb ≤ 2000000) (i : Int) (S : Nat) (hi : 0 ≤ i ∧ i < 8) (hS : S < 256) : Met l yX2_fewestFrom wsX2_fewestFrom ({ frames := 1, cells := 0, slots := 0, locals := 23 }) (va_Pc [.ref (ad 25), .int (iI (i)), .int (iI (((S : Nat) : Int)))] (gB D cy ad n st sz fz)) (va_Qi (fun (r : Int32) (st' : St) => r = iI (fromC st i S 8) ∧ st' = st) (gP D cy ad n) (gA n ad sz)) 0 0 (gA n ad sz) := by
  refine Met.ofW (cc := cX2_fewestFrom) (maxL := 5) (ret := (some .int)) (by decide) rfl ?_
  intro p e s m args below meth c s₁ B hml hv
  obtain ⟨rfl, hsz, hP, hK, hD0, hN, hZ⟩ := hv
  have hx := B.exec
  have hb := B.bytes
  have hr := B.returns
  have hts := atoms_spec (ws := wsX2_fewestFrom) B.pre
  have hown : s.vm.findClass RX2 = some m.cls := findClass_of_methodNamed B.named
  have hlocks := B.notSynchronized
  subst hsz
  have hA : ∀ q : Nat, s.heap.size ≤ q → gA n ad s.heap.size q := fun q h => Or.inr h
  have hG : GH D cy ad n st (gA n ad s.heap.size) s.heap s.heap [] := ⟨hP, gw_A hD0, va_S.rf⟩
  have hl := lv_entry ([.ref (ad 25), .int (iI (i)), .int (iI (((S : Nat) : Int)))]) (n := 5) (Nat.le_of_ble_eq_true rfl)
  rw [lg_entry_eq]
  generalize (lg_sl ([.ref (ad 25), .int (iI (i)), .int (iI (((S : Nat) : Int)))]) ++ List.replicate (5 - (lg_sl ([.ref (ad 25), .int (iI (i)), .int (iI (((S : Nat) : Int)))])).length) Slot.unset).toArray = ls at hl ⊢
  have hl : lv_has ls 5 [(0, .ref (ad 25)), (1, .int (iI (i))), (2, .int (iI (((S : Nat) : Int))))] := hl
  have hin2 : ∀ w ∈ u_ws RX2 TX2 2, w ∈ wsX2_fewestFrom := by decide +kernel
  have L_42 := hts (.methodLink RX2 42 Lib.Math.min.name) (by decide +kernel)
  have Lcmin := hts (.code Lib.Math.min.name Lib.Math.min.code 2 (some .int)) (by decide +kernel)
  have Li := hts (.initialized "java/lang/Math") (by decide +kernel)
  have Lsmin := hts (.static Lib.Math.min.name) (by decide +kernel)
  refine lv_sipush (v := iI (128)) hx hb dX2_fewestFrom_0 (by decide +kernel) ?_
  refine lv_istore_n (lv' := [(3, .int (iI (128))), (0, .ref (ad 25)), (1, .int (iI (i))), (2, .int (iI (((S : Nat) : Int))))]) hx hb dX2_fewestFrom_3 rfl hl (by decide) rfl (fun ls hl => ?_)
  refine lv_iconst (v := iI (0)) hx hb dX2_fewestFrom_4 rfl ?_
  refine lv_istore (lv' := [(4, .int (iI (0))), (3, .int (iI (128))), (0, .ref (ad 25)), (1, .int (iI (i))), (2, .int (iI (((S : Nat) : Int))))]) hx hb dX2_fewestFrom_5 hl (by decide) rfl (fun ls hl => ?_)
  have hloop7 : ∀ (N : Nat)  (k : Nat) (H : Heap) (locs : List Loc) (ls : Array Slot), 9 - k < N → (k ≤ 8) →  GH D cy ad n st (gA n ad s.heap.size) s.heap H locs → lv_has ls 5 [(3, .int (iI (fromC st i S k))), (4, .int (iI (((k : Nat) : Int)))), (0, .ref (ad 25)), (1, .int (iI (i))), (2, .int (iI (((S : Nat) : Int))))] → W p l e (headSpec wsX2_fewestFrom { frames := 1, cells := 0, slots := 0, locals := 23 }).room s m (#[.ref (ad 25), .int (iI (i)), .int (iI (((S : Nat) : Int)))] : Array Value) below meth c H locs 0 0 (MQ below (va_Qi (fun (r : Int32) (st' : St) => r = iI (fromC st i S 8) ∧ st' = st) (gP D cy ad n) (gA n ad s.heap.size)) (#[.ref (ad 25), .int (iI (i)), .int (iI (((S : Nat) : Int)))] : Array Value) s 0 0 (gA n ad s.heap.size)) (F0 m 7 ls []) := by
    intro N
    induction N with
    | zero => intro  k H locs ls hm; exact absurd hm (Nat.not_lt_zero _)
    | succ N ih7 =>
      intro  k H locs ls hm hk hG hl
      have hfr := fromC_r hI i S k
      refine lv_iload hx hb dX2_fewestFrom_7 (lv_at hl 1 rfl) ?_
      refine lv_bipush (v := iI (8)) hx hb dX2_fewestFrom_9 (by decide +kernel) ?_
      refine r_icmp_ge (tgt := 42) hx hb (by omega) dX2_fewestFrom_11 (by decide) (fun c1 => ?_) (fun c1 => ?_)
      · skip
        refine lv_iload_n hx hb dX2_fewestFrom_42 rfl (lv_at hl 0 rfl) ?_
        exact g_iret hx hb hr hlocks hG (by
          refine ⟨?_, rfl⟩
          congr 1
          rw [show k = 8 by omega]) dX2_fewestFrom_43
      · skip
        refine lv_iload_n hx hb dX2_fewestFrom_14 rfl (lv_at hl 4 rfl) ?_
        refine lv_iload hx hb dX2_fewestFrom_15 (lv_at hl 1 rfl) ?_
        refine r_as (y := ((k : Nat) : Int)) (by rfl) ?_
        refine r_ishr hx hb (by omega) (by constructor <;> omega) dX2_fewestFrom_17 ?_
        refine r_nm (fun v2 ev2 => ?_)
        have hbt0 : v2 = ((S : Nat) : Int) / 2 ^ k := ev2
        refine lv_iconst (v := iI (1)) hx hb dX2_fewestFrom_18 rfl ?_
        refine r_iand 1 hx hb (by decide) (by decide) dX2_fewestFrom_19 ?_
        refine r_nm (fun v3 ev3 => ?_)
        have hbt : v3 = ((S / 2 ^ k % 2 : Nat) : Int) := by rw [ev3, hbt0]; exact bitSI S k
        refine r_if_ne (tgt := 36) hx hb (by omega) dX2_fewestFrom_20 (by decide) (fun c4 => ?_) (fun c4 => ?_)
        · skip
          obtain ⟨v5, ev5⟩ : ∃ y9 : Int, y9 = ((k : Nat) : Int) + (1) := ⟨_, rfl⟩
          refine lv_iinc (v := iI v5) (lv' := [(4, .int (iI (v5))), (3, .int (iI (fromC st i S k))), (0, .ref (ad 25)), (1, .int (iI (i))), (2, .int (iI (((S : Nat) : Int))))]) hx hb dX2_fewestFrom_36 hl (k := 1) rfl (by rw [ev5]; exact iI_add _ _) (by decide) rfl (fun ls hl => ?_)
          refine lv_goto (tgt := 7) hx hb dX2_fewestFrom_39 (by decide) ?_
          rw [show (fromC st i S k : Int) = fromC st i S (k + 1) from by (rw [fromC_s st i S k]; first | (rw [if_pos (by omega)]; subst_vars; rfl) | (rw [if_neg (by omega)]; done))] at hl
          rw [show (v5 : Int) = (((k + 1) : Nat) : Int) from by omega] at hl
          exact ih7  (k + 1) _ _ _ (by omega) (by omega) hG (lv_sub hl [1, 0, 2, 3, 4] rfl)
        · skip
          refine lv_iload_n hx hb dX2_fewestFrom_23 rfl (lv_at hl 0 rfl) ?_
          refine lv_aload_n hx hb dX2_fewestFrom_24 rfl (lv_at hl 2 rfl) ?_
          refine lv_iload_n hx hb dX2_fewestFrom_25 rfl (lv_at hl 3 rfl) ?_
          refine lv_iload hx hb dX2_fewestFrom_26 (lv_at hl 1 rfl) ?_
          refine lv_iload_n hx hb dX2_fewestFrom_28 rfl (lv_at hl 4 rfl) ?_
          have h34 := gI_34 hI 0 (8 * i + ((k : Nat) : Int))
          have h35 := gI_35 hI 0 ((S ||| 2 ^ k : Nat) : Int)
          refine g_goi hG hA (va_runV (As := [.int (iI (i)), .int (iI (((k : Nat) : Int))), .int (iI (((S : Nat) : Int)))]) (rest := [.int (iI (fromC st i S k))]) ⟨hx, hb, hml, hown, hts⟩ (mX2_fewestWith l D cy ad n st _ fz wb hn hI (by omega) (i) (k) (S) (by omega) (by omega) (by omega)) (cwV 3 hts gX2_fewestFrom_X2_fewestWith rfl rfl rfl (by decide +kernel) ⟨Nat.le_of_ble_eq_true rfl, Nat.le_of_ble_eq_true rfl⟩) ⟨g_blind, va_recv hK hG.1 (q0 := 25 - 19) (ci := 2) rfl ((gw_at (k := 25) (by omega)).trans (by rw [gC_25 st ad cy])), g_pre hK hG hA hN hZ⟩ rfl rfl hl.1 rfl (lv_room (Nat.le_of_ble_eq_true rfl)) dX2_fewestFrom_29 ⟨Nat.zero_le _, Nat.zero_le _⟩) (fun r9 s9 H locs hp hG => ?_)
          obtain ⟨rfl, hs9⟩ := hp
          rw [hs9] at hG
          clear hs9
          refine r_nm (fun v6 ev6 => ?_)
          refine va_mmin hx hb (hml.trans hl.1.symm) hown L_42 Lsmin Li Lcmin (Nat.le_of_ble_eq_true rfl) (Nat.le_of_ble_eq_true rfl) (by omega) (by omega) dX2_fewestFrom_32 ?_
          refine r_asI (y := min (fromC st i S k) (v6)) (iI_min (by omega)) ?_
          refine r_nm (fun v7 ev7 => ?_)
          refine lv_istore_n (lv' := [(3, .int (iI (v7))), (4, .int (iI (((k : Nat) : Int)))), (0, .ref (ad 25)), (1, .int (iI (i))), (2, .int (iI (((S : Nat) : Int))))]) hx hb dX2_fewestFrom_35 rfl hl (by decide) rfl (fun ls hl => ?_)
          obtain ⟨v8, ev8⟩ : ∃ y9 : Int, y9 = ((k : Nat) : Int) + (1) := ⟨_, rfl⟩
          refine lv_iinc (v := iI v8) (lv' := [(4, .int (iI (v8))), (3, .int (iI (v7))), (0, .ref (ad 25)), (1, .int (iI (i))), (2, .int (iI (((S : Nat) : Int))))]) hx hb dX2_fewestFrom_36 hl (k := 1) rfl (by rw [ev8]; exact iI_add _ _) (by decide) rfl (fun ls hl => ?_)
          refine lv_goto (tgt := 7) hx hb dX2_fewestFrom_39 (by decide) ?_
          rw [show (v7 : Int) = fromC st i S (k + 1) from by (rw [fromC_s st i S k]; first | (rw [if_pos (by omega)]; subst_vars; rfl) | (rw [if_neg (by omega)]; done))] at hl
          rw [show (v8 : Int) = (((k + 1) : Nat) : Int) from by omega] at hl
          exact ih7  (k + 1) _ _ _ (by omega) (by omega) hG (lv_sub hl [1, 0, 2, 3, 4] rfl)
  exact hloop7 _  (0) _ _ _ (Nat.lt_succ_self _) (by omega) hG (lv_sub hl [1, 0, 2, 3, 4] rfl)
