set_option maxHeartbeats 400000 in
set_option maxRecDepth 100000 in
theorem mL_misfits (l : Launch) (D : va_G) (cy : Nat → ClassId) (ad : Nat → Nat) (n : Nat) (st : St) (sz fz : Nat) (wb : Int) (hn : 75 ≤ n) (hI : GI wb st) (hW : wb ≤ 2000000) (a : Int) (t0 : Int) (ni : Int) (no : Int) (hlf : l.stackTraces = false) (hnl : (n : Int) = 75 + 3 * st 33 0 0) (hR : RY st) (ha : 0 ≤ a ∧ a < 2) (ht0 : 0 ≤ t0 ∧ t0 ≤ 5) (hni : ni = st 60 (a).toNat 0) (hno : no = st 61 (a).toNat 0) (h332 : st 33 0 0 = 2) (h66 : 0 ≤ st 66 (a).toNat 0) (h83 : ∀ j : Int, 0 ≤ j ∧ j < 32 → st 83 0 (32 * a + j) = st 62 (a).toNat j) : Met l yL_misfits wsL_misfits ({ frames := 8, cells := 1280, slots := 7680, locals := 137 }) (va_Pc [.ref (ad 21), .ref (ad 32), .int (iI (a)), .int (iI (t0)), .int (iI (ni)), .int (iI (no))] (gB D cy ad n st sz fz)) (va_Qi (fun (r : Int32) (st' : St) => r = iI (lmF st (a).toNat (t0).toNat) ∧ st' = st) (gP D cy ad n) (gA n ad sz)) 1280 7680 (gA n ad sz) := by
  refine Met.ofW (cc := cL_misfits) (maxL := 11) (ret := (some .int)) (by decide) rfl ?_
  intro p e s m args below meth c s₁ B hml hv
  obtain ⟨rfl, hsz, hP, hK, hD0, hN, hZ⟩ := hv
  have hx := B.exec
  have hb := B.bytes
  have hr := B.returns
  have hts := atoms_spec (ws := wsL_misfits) B.pre
  have hown : s.vm.findClass RL = some m.cls := findClass_of_methodNamed B.named
  have hlocks := B.notSynchronized
  subst hsz
  have hA : ∀ q : Nat, s.heap.size ≤ q → gA n ad s.heap.size q := fun q h => Or.inr h
  have hG : GH D cy ad n st (gA n ad s.heap.size) s.heap s.heap [] := ⟨hP, gw_A hD0, va_S.rf⟩
  have hl := lv_entry ([.ref (ad 21), .ref (ad 32), .int (iI (a)), .int (iI (t0)), .int (iI (ni)), .int (iI (no))]) (n := 11) (Nat.le_of_ble_eq_true rfl)
  rw [lg_entry_eq]
  generalize (lg_sl ([.ref (ad 21), .ref (ad 32), .int (iI (a)), .int (iI (t0)), .int (iI (ni)), .int (iI (no))]) ++ List.replicate (11 - (lg_sl ([.ref (ad 21), .ref (ad 32), .int (iI (a)), .int (iI (t0)), .int (iI (ni)), .int (iI (no))])).length) Slot.unset).toArray = ls at hl ⊢
  have hl : lv_has ls 11 [(0, .ref (ad 21)), (1, .ref (ad 32)), (2, .int (iI (a))), (3, .int (iI (t0))), (4, .int (iI (ni))), (5, .int (iI (no)))] := hl
  have h60 := gI_60 hI (a).toNat 0
  have h61 := gI_61 hI (a).toNat 0
  have h14 : st 14 0 0 = 2 := by rw [← hR.1.1]; exact h332
  have h15 : st 15 0 a = st 60 (a).toNat 0 := by have h := (hR.2.1 (a).toNat (by omega)).1; rw [show (((a).toNat : Nat) : Int) = a by omega] at h; exact h.symm
  refine lv_iconst (v := iI (0)) hx hb dL_misfits_0 rfl ?_
  refine lv_istore (lv' := [(6, .int (iI (0))), (0, .ref (ad 21)), (1, .ref (ad 32)), (2, .int (iI (a))), (3, .int (iI (t0))), (4, .int (iI (ni))), (5, .int (iI (no)))]) hx hb dL_misfits_1 hl (by decide) rfl (fun ls hl => ?_)
  refine lv_iconst (v := iI (0)) hx hb dL_misfits_3 rfl ?_
  refine lv_istore (lv' := [(7, .int (iI (0))), (6, .int (iI (0))), (0, .ref (ad 21)), (1, .ref (ad 32)), (2, .int (iI (a))), (3, .int (iI (t0))), (4, .int (iI (ni))), (5, .int (iI (no)))]) hx hb dL_misfits_4 hl (by decide) rfl (fun ls hl => ?_)
  have hloop6 : ∀ (N : Nat)  (i : Nat) (H : Heap) (locs : List Loc) (ls : Array Slot), 9 - i < N → ((i : Int) ≤ st 60 (a).toNat 0) →  GH D cy ad n st (gA n ad s.heap.size) s.heap H locs → lv_has ls 11 [(6, .int (iI (sumN (fun i9 => sumN (mfC st (a).toNat (t0).toNat (i9 : Int) (st 63 (a).toNat (i9 : Int))) (4 * st 61 (a).toNat 0).toNat) i))), (7, .int (iI (((i : Nat) : Int)))), (0, .ref (ad 21)), (1, .ref (ad 32)), (2, .int (iI (a))), (3, .int (iI (t0))), (4, .int (iI (ni))), (5, .int (iI (no)))] → W p l e (headSpec wsL_misfits { frames := 8, cells := 1280, slots := 7680, locals := 137 }).room s m (#[.ref (ad 21), .ref (ad 32), .int (iI (a)), .int (iI (t0)), .int (iI (ni)), .int (iI (no))] : Array Value) below meth c H locs (160 * i) (960 * i) (MQ below (va_Qi (fun (r : Int32) (st' : St) => r = iI (lmF st (a).toNat (t0).toNat) ∧ st' = st) (gP D cy ad n) (gA n ad s.heap.size)) (#[.ref (ad 21), .ref (ad 32), .int (iI (a)), .int (iI (t0)), .int (iI (ni)), .int (iI (no))] : Array Value) s 1280 7680 (gA n ad s.heap.size)) (F0 m 6 ls []) := by
    intro N
    induction N with
    | zero => intro  i H locs ls hm; exact absurd hm (Nat.not_lt_zero _)
    | succ N ih6 =>
      intro  i H locs ls hm hi hG hl
      have hlo : 0 ≤ sumN (fun i9 => sumN (mfC st (a).toNat (t0).toNat (i9 : Int) (st 63 (a).toNat (i9 : Int))) (4 * st 61 (a).toNat 0).toNat) i ∧ sumN (fun i9 => sumN (mfC st (a).toNat (t0).toNat (i9 : Int) (st 63 (a).toNat (i9 : Int))) (4 * st 61 (a).toNat 0).toNat) i ≤ 16 * (i : Int) := sumN_r (fun i9 => mfC_r hI _ _ _ _) i
      refine lv_iload hx hb dL_misfits_6 (lv_at hl 1 rfl) ?_
      refine lv_iload hx hb dL_misfits_8 (lv_at hl 6 rfl) ?_
      refine r_icmp_ge (tgt := 110) hx hb (by omega) dL_misfits_10 (by decide) (fun c1 => ?_) (fun c1 => ?_)
      · skip
        refine lv_iload hx hb dL_misfits_110 (lv_at hl 0 rfl) ?_
        refine W.widen (k := 1280) (n := 7680) (by omega) (by omega) ?_
        exact g_iret hx hb hr hlocks hG (by
          refine ⟨?_, rfl⟩
          congr 1
          unfold lmF
          rw [show (st 60 (a).toNat 0).toNat = i by omega]) dL_misfits_112
      · skip
        refine lv_iconst (v := iI (0)) hx hb dL_misfits_13 rfl ?_
        refine lv_istore (lv' := [(8, .int (iI (0))), (6, .int (iI (sumN (fun i9 => sumN (mfC st (a).toNat (t0).toNat (i9 : Int) (st 63 (a).toNat (i9 : Int))) (4 * st 61 (a).toNat 0).toNat) i))), (7, .int (iI (((i : Nat) : Int)))), (0, .ref (ad 21)), (1, .ref (ad 32)), (2, .int (iI (a))), (3, .int (iI (t0))), (4, .int (iI (ni))), (5, .int (iI (no)))]) hx hb dL_misfits_14 hl (by decide) rfl (fun ls hl => ?_)
        have hloop16 : ∀ (N : Nat)  (k : Nat) (H : Heap) (locs : List Loc) (ls : Array Slot), 17 - k < N → ((k : Int) ≤ 4 * st 61 (a).toNat 0) →  GH D cy ad n st (gA n ad s.heap.size) s.heap H locs → lv_has ls 11 [(6, .int (iI (sumN (fun i9 => sumN (mfC st (a).toNat (t0).toNat (i9 : Int) (st 63 (a).toNat (i9 : Int))) (4 * st 61 (a).toNat 0).toNat) i + sumN (mfC st (a).toNat (t0).toNat (i : Int) (st 63 (a).toNat (i : Int))) k))), (8, .int (iI (((k : Nat) : Int)))), (7, .int (iI (((i : Nat) : Int)))), (0, .ref (ad 21)), (1, .ref (ad 32)), (2, .int (iI (a))), (3, .int (iI (t0))), (4, .int (iI (ni))), (5, .int (iI (no)))] → W p l e (headSpec wsL_misfits { frames := 8, cells := 1280, slots := 7680, locals := 137 }).room s m (#[.ref (ad 21), .ref (ad 32), .int (iI (a)), .int (iI (t0)), .int (iI (ni)), .int (iI (no))] : Array Value) below meth c H locs (160 * i + 10 * k) (960 * i + 60 * k) (MQ below (va_Qi (fun (r : Int32) (st' : St) => r = iI (lmF st (a).toNat (t0).toNat) ∧ st' = st) (gP D cy ad n) (gA n ad s.heap.size)) (#[.ref (ad 21), .ref (ad 32), .int (iI (a)), .int (iI (t0)), .int (iI (ni)), .int (iI (no))] : Array Value) s 1280 7680 (gA n ad s.heap.size)) (F0 m 16 ls []) := by
          intro N
          induction N with
          | zero => intro  k H locs ls hm; exact absurd hm (Nat.not_lt_zero _)
          | succ N ih16 =>
            intro  k H locs ls hm hk hG hl
            have hli : 0 ≤ sumN (mfC st (a).toNat (t0).toNat (i : Int) (st 63 (a).toNat (i : Int))) k ∧ sumN (mfC st (a).toNat (t0).toNat (i : Int) (st 63 (a).toNat (i : Int))) k ≤ 1 * (k : Int) := sumN_r (fun c9 => msC_r st _ _ _) k
            refine lv_iload hx hb dL_misfits_16 (lv_at hl 1 rfl) ?_
            refine lv_iconst (v := iI (4)) hx hb dL_misfits_18 rfl ?_
            refine lv_iload hx hb dL_misfits_19 (lv_at hl 8 rfl) ?_
            refine r_imul hx hb dL_misfits_21 ?_
            refine r_nm (fun v2 ev2 => ?_)
            refine r_icmp_ge (tgt := 104) hx hb (by omega) dL_misfits_22 (by decide) (fun c3 => ?_) (fun c3 => ?_)
            · skip
              obtain ⟨v4, ev4⟩ : ∃ y9 : Int, y9 = ((i : Nat) : Int) + (1) := ⟨_, rfl⟩
              refine lv_iinc (v := iI v4) (lv' := [(7, .int (iI (v4))), (6, .int (iI (sumN (fun i9 => sumN (mfC st (a).toNat (t0).toNat (i9 : Int) (st 63 (a).toNat (i9 : Int))) (4 * st 61 (a).toNat 0).toNat) i + sumN (mfC st (a).toNat (t0).toNat (i : Int) (st 63 (a).toNat (i : Int))) k))), (8, .int (iI (((k : Nat) : Int)))), (0, .ref (ad 21)), (1, .ref (ad 32)), (2, .int (iI (a))), (3, .int (iI (t0))), (4, .int (iI (ni))), (5, .int (iI (no)))]) hx hb dL_misfits_104 hl (k := 2) rfl (by rw [ev4]; exact iI_add _ _) (by decide) rfl (fun ls hl => ?_)
              refine lv_goto (tgt := 6) hx hb dL_misfits_107 (by decide) ?_
              refine W.widen (k := 160 * (i + 1)) (n := 960 * (i + 1)) (by omega) (by omega) ?_
              rw [show (sumN (fun i9 => sumN (mfC st (a).toNat (t0).toNat (i9 : Int) (st 63 (a).toNat (i9 : Int))) (4 * st 61 (a).toNat 0).toNat) i + sumN (mfC st (a).toNat (t0).toNat (i : Int) (st 63 (a).toNat (i : Int))) k : Int) = sumN (fun i9 => sumN (mfC st (a).toNat (t0).toNat (i9 : Int) (st 63 (a).toNat (i9 : Int))) (4 * st 61 (a).toNat 0).toNat) (i + 1) from by (rw [sumN_s, show (4 * st 61 (a).toNat 0).toNat = k by omega])] at hl
              rw [show (v4 : Int) = (((i + 1) : Nat) : Int) from by omega] at hl
              exact ih6  (i + 1) _ _ _ (by omega) (by omega) hG (lv_sub hl [1, 0, 3, 4, 5, 6, 7, 8] rfl)
            · skip
              refine lv_aload_n hx hb dL_misfits_25 rfl (lv_at hl 3 rfl) ?_
              refine lv_iload_n hx hb dL_misfits_26 rfl (lv_at hl 5 rfl) ?_
              refine lv_iload hx hb dL_misfits_27 (lv_at hl 2 rfl) ?_
              have hkr := kRow_s st a ((i : Nat) : Int)
              refine g_goi hG hA (va_runV (As := [.int (iI (a)), .int (iI (((i : Nat) : Int)))]) (rest := []) ⟨hx, hb, hml, hown, hts⟩ (pX5_rowOf l D cy ad n st _ fz wb hn hI (by omega) (a) (((i : Nat) : Int)) (by omega) (by omega) hlf hnl hR (by omega)) (cwV 2 hts gL_misfits_X5_rowOf rfl rfl rfl (by decide +kernel) ⟨Nat.le_of_ble_eq_true rfl, Nat.le_of_ble_eq_true rfl⟩) ⟨g_blind, va_recv hK hG.1 (q0 := 21 - 19) (ci := 5) rfl ((gw_at (k := 21) (by omega)).trans (by rw [gC_21 st ad cy])), g_pre hK hG hA hN hZ⟩ rfl rfl hl.1 rfl (lv_room (Nat.le_of_ble_eq_true rfl)) dL_misfits_29 ⟨(by show _ ≤ 1280; omega), (by show _ ≤ 7680; omega)⟩) (fun r9 s9 H locs hp hG => ?_)
              obtain ⟨rfl, hs9⟩ := hp
              rw [hs9] at hG
              clear hs9
              refine r_nm (fun v5 ev5 => ?_)
              have hrv : v5 = st 63 (a).toNat (i : Int) := by rw [ev5, if_neg (by omega)]
              have hrr := gI_63 hI (a).toNat (i : Int)
              refine lv_istore (lv' := [(9, .int (iI (v5))), (6, .int (iI (sumN (fun i9 => sumN (mfC st (a).toNat (t0).toNat (i9 : Int) (st 63 (a).toNat (i9 : Int))) (4 * st 61 (a).toNat 0).toNat) i + sumN (mfC st (a).toNat (t0).toNat (i : Int) (st 63 (a).toNat (i : Int))) k))), (8, .int (iI (((k : Nat) : Int)))), (7, .int (iI (((i : Nat) : Int)))), (0, .ref (ad 21)), (1, .ref (ad 32)), (2, .int (iI (a))), (3, .int (iI (t0))), (4, .int (iI (ni))), (5, .int (iI (no)))]) hx hb dL_misfits_32 hl (by decide) rfl (fun ls hl => ?_)
              refine lv_aload_n hx hb dL_misfits_34 rfl (lv_at hl 5 rfl) ?_
              refine lv_bipush (v := iI (32)) hx hb dL_misfits_35 (by decide +kernel) ?_
              refine lv_iload_n hx hb dL_misfits_37 rfl (lv_at hl 6 rfl) ?_
              refine r_imul hx hb dL_misfits_38 ?_
              refine r_nm (fun v6 ev6 => ?_)
              refine lv_iconst (v := iI (4)) hx hb dL_misfits_39 rfl ?_
              refine lv_iload hx hb dL_misfits_40 (lv_at hl 3 rfl) ?_
              refine r_imul hx hb dL_misfits_42 ?_
              refine r_nm (fun v7 ev7 => ?_)
              refine r_iadd hx hb dL_misfits_43 ?_
              refine r_nm (fun v8 ev8 => ?_)
              refine lv_iload hx hb dL_misfits_44 (lv_at hl 2 rfl) ?_
              refine lv_iconst (v := iI (4)) hx hb dL_misfits_46 rfl ?_
              refine r_idiv hx hb (by omega) dL_misfits_47 ?_
              refine r_nm (fun v9 ev9 => ?_)
              refine r_iadd hx hb dL_misfits_48 ?_
              refine r_nm (fun v10 ev10 => ?_)
              refine g_iald hx hb hK hG (32) (kd := 32) (o := 0) rfl rfl (by omega) (cp := 83) (ln := 64) rfl rfl (by omega) dL_misfits_49 ?_
              refine r_nm (fun v11 ev11 => ?_)
              have hwv : v11 = st 62 (a).toNat (4 * (i : Int) + (k : Int) / 4) := by rw [ev11, ← h83 (4 * (i : Int) + (k : Int) / 4) (by omega)]; congr 1; omega
              refine lv_iload hx hb dL_misfits_50 (lv_at hl 2 rfl) ?_
              refine lv_iconst (v := iI (4)) hx hb dL_misfits_52 rfl ?_
              refine r_irem hx hb (by omega) dL_misfits_53 ?_
              refine r_nm (fun v12 ev12 => ?_)
              have hwr := gI_62 hI (a).toNat (4 * (i : Int) + (k : Int) / 4)
              refine gp_goi hG (va_runS (As := [.int (iI (v11)), .int (iI (v12))]) (rest := []) ⟨hx, hb, hml, hown, hts⟩ (mL_needs l (v11) (v12) (by omega) (by omega)) (va_cwS 2 hts gL_misfits_L_needs rfl rfl rfl (by decide +kernel) ⟨Nat.le_of_ble_eq_true rfl, Nat.le_of_ble_eq_true rfl⟩) ⟨p0_blind, p0_pre⟩ rfl rfl hl.1 rfl (lv_room (Nat.le_of_ble_eq_true rfl)) dL_misfits_54 ⟨(by show _ ≤ 1280; omega), (by show _ ≤ 7680; omega)⟩) (fun r9 H locs hp hG => ?_)
              rw [hp]
              clear hp
              refine r_nm (fun v13 ev13 => ?_)
              have hnv : v13 = needC st (a).toNat (i : Int) (k : Int) := by rw [ev13, hwv]; unfold needC; congr 1 <;> omega
              have hnr := needC_r hI (a).toNat (i : Int) (k : Int)
              refine lv_istore (lv' := [(10, .int (iI (v13))), (9, .int (iI (v5))), (6, .int (iI (sumN (fun i9 => sumN (mfC st (a).toNat (t0).toNat (i9 : Int) (st 63 (a).toNat (i9 : Int))) (4 * st 61 (a).toNat 0).toNat) i + sumN (mfC st (a).toNat (t0).toNat (i : Int) (st 63 (a).toNat (i : Int))) k))), (8, .int (iI (((k : Nat) : Int)))), (7, .int (iI (((i : Nat) : Int)))), (0, .ref (ad 21)), (1, .ref (ad 32)), (2, .int (iI (a))), (3, .int (iI (t0))), (4, .int (iI (ni))), (5, .int (iI (no)))]) hx hb dL_misfits_57 hl (by decide) rfl (fun ls hl => ?_)
              refine lv_iload hx hb dL_misfits_59 (lv_at hl 2 rfl) ?_
              have hlab95 : ∀ (xv : Int) (H : Heap) (locs : List Loc) (ls : Array Slot), (xv = mfC st (a).toNat (t0).toNat (i : Int) (st 63 (a).toNat (i : Int)) k) →  GH D cy ad n st (gA n ad s.heap.size) s.heap H locs → lv_has ls 11 [(10, .int (iI (v13))), (9, .int (iI (v5))), (6, .int (iI (sumN (fun i9 => sumN (mfC st (a).toNat (t0).toNat (i9 : Int) (st 63 (a).toNat (i9 : Int))) (4 * st 61 (a).toNat 0).toNat) i + sumN (mfC st (a).toNat (t0).toNat (i : Int) (st 63 (a).toNat (i : Int))) k))), (8, .int (iI (((k : Nat) : Int)))), (7, .int (iI (((i : Nat) : Int)))), (0, .ref (ad 21)), (1, .ref (ad 32)), (2, .int (iI (a))), (3, .int (iI (t0))), (4, .int (iI (ni))), (5, .int (iI (no)))] → W p l e (headSpec wsL_misfits { frames := 8, cells := 1280, slots := 7680, locals := 137 }).room s m (#[.ref (ad 21), .ref (ad 32), .int (iI (a)), .int (iI (t0)), .int (iI (ni)), .int (iI (no))] : Array Value) below meth c H locs (160 * i + 10 * k + 10) (960 * i + 60 * k + 60) (MQ below (va_Qi (fun (r : Int32) (st' : St) => r = iI (lmF st (a).toNat (t0).toNat) ∧ st' = st) (gP D cy ad n) (gA n ad s.heap.size)) (#[.ref (ad 21), .ref (ad 32), .int (iI (a)), .int (iI (t0)), .int (iI (ni)), .int (iI (no))] : Array Value) s 1280 7680 (gA n ad s.heap.size)) (F0 m 95 ls [.int (iI (xv)), .int (iI (sumN (fun i9 => sumN (mfC st (a).toNat (t0).toNat (i9 : Int) (st 63 (a).toNat (i9 : Int))) (4 * st 61 (a).toNat 0).toNat) i + sumN (mfC st (a).toNat (t0).toNat (i : Int) (st 63 (a).toNat (i : Int))) k))]) := by
                intro xv H locs ls hxv hG hl
                have hxr : 0 ≤ xv ∧ xv ≤ 1 := by rw [hxv]; exact msC_r st _ _ _
                refine r_iadd hx hb dL_misfits_95 ?_
                refine r_nm (fun v14 ev14 => ?_)
                refine lv_istore (lv' := [(6, .int (iI (v14))), (10, .int (iI (v13))), (9, .int (iI (v5))), (8, .int (iI (((k : Nat) : Int)))), (7, .int (iI (((i : Nat) : Int)))), (0, .ref (ad 21)), (1, .ref (ad 32)), (2, .int (iI (a))), (3, .int (iI (t0))), (4, .int (iI (ni))), (5, .int (iI (no)))]) hx hb dL_misfits_96 hl (by decide) rfl (fun ls hl => ?_)
                obtain ⟨v15, ev15⟩ : ∃ y9 : Int, y9 = ((k : Nat) : Int) + (1) := ⟨_, rfl⟩
                refine lv_iinc (v := iI v15) (lv' := [(8, .int (iI (v15))), (6, .int (iI (v14))), (10, .int (iI (v13))), (9, .int (iI (v5))), (7, .int (iI (((i : Nat) : Int)))), (0, .ref (ad 21)), (1, .ref (ad 32)), (2, .int (iI (a))), (3, .int (iI (t0))), (4, .int (iI (ni))), (5, .int (iI (no)))]) hx hb dL_misfits_98 hl (k := 3) rfl (by rw [ev15]; exact iI_add _ _) (by decide) rfl (fun ls hl => ?_)
                refine lv_goto (tgt := 16) hx hb dL_misfits_101 (by decide) ?_
                refine W.widen (k := 160 * i + 10 * (k + 1)) (n := 960 * i + 60 * (k + 1)) (by omega) (by omega) ?_
                rw [show (v14 : Int) = sumN (fun i9 => sumN (mfC st (a).toNat (t0).toNat (i9 : Int) (st 63 (a).toNat (i9 : Int))) (4 * st 61 (a).toNat 0).toNat) i + sumN (mfC st (a).toNat (t0).toNat (i : Int) (st 63 (a).toNat (i : Int))) (k + 1) from by (rw [sumN_s]; omega)] at hl
                rw [show (v15 : Int) = (((k + 1) : Nat) : Int) from by omega] at hl
                exact ih16  (k + 1) _ _ _ (by omega) (by omega) hG (lv_sub hl [1, 0, 4, 5, 6, 7, 8, 9, 10] rfl)
              refine lv_aload_n hx hb dL_misfits_61 rfl (lv_at hl 5 rfl) ?_
              refine lv_iload_n hx hb dL_misfits_62 rfl (lv_at hl 8 rfl) ?_
              refine lv_iload hx hb dL_misfits_63 (lv_at hl 1 rfl) ?_
              refine lv_iload hx hb dL_misfits_65 (lv_at hl 3 rfl) ?_
              refine lv_iconst (v := iI (4)) hx hb dL_misfits_67 rfl ?_
              have hkc := kCell_s t0 (v5) (k : Int) 4
              refine g_goi hG hA (va_runV (As := [.int (iI (t0)), .int (iI (v5)), .int (iI (((k : Nat) : Int))), .int (iI (4))]) (rest := [.int (iI (sumN (fun i9 => sumN (mfC st (a).toNat (t0).toNat (i9 : Int) (st 63 (a).toNat (i9 : Int))) (4 * st 61 (a).toNat 0).toNat) i + sumN (mfC st (a).toNat (t0).toNat (i : Int) (st 63 (a).toNat (i : Int))) k))]) ⟨hx, hb, hml, hown, hts⟩ (pX5_cell l D cy ad n st _ fz wb hn hI (by omega) (t0) (v5) (((k : Nat) : Int)) (4) (by omega) (by omega) (by omega) (by omega) hlf hnl hR (by omega)) (cwV 4 hts gL_misfits_X5_cell rfl rfl rfl (by decide +kernel) ⟨Nat.le_of_ble_eq_true rfl, Nat.le_of_ble_eq_true rfl⟩) ⟨g_blind, va_recv hK hG.1 (q0 := 21 - 19) (ci := 5) rfl ((gw_at (k := 21) (by omega)).trans (by rw [gC_21 st ad cy])), g_pre hK hG hA hN hZ⟩ rfl rfl hl.1 rfl (lv_room (Nat.le_of_ble_eq_true rfl)) dL_misfits_68 ⟨(by show _ ≤ 1280; omega), (by show _ ≤ 7680; omega)⟩) (fun r9 s9 H locs hp hG => ?_)
              obtain ⟨rfl, hs9⟩ := hp
              rw [hs9] at hG
              clear hs9
              refine r_nm (fun v16 ev16 => ?_)
              have h4v : v16 = st 44 (t0).toNat (16 * st 63 (a).toNat (i : Int) + (k : Int)) := by rw [ev16, hrv]; rfl
              have h4r := gI_44 hI (t0).toNat (16 * st 63 (a).toNat (i : Int) + (k : Int))
              refine lv_iconst (v := iI (1)) hx hb dL_misfits_71 rfl ?_
              refine r_icmp_ne (tgt := 94) hx hb (by omega) dL_misfits_72 (by decide) (fun c17 => ?_) (fun c17 => ?_)
              · skip
                refine lv_iconst (v := iI (0)) hx hb dL_misfits_94 rfl ?_
                refine W.widen (k := 160 * i + 10 * k + 10) (n := 960 * i + 60 * k + 60) (by omega) (by omega) ?_
                exact hlab95 (0)  _ _ _ (by unfold mfC msC; first | (rw [if_pos (by omega)]; done) | (rw [if_neg (by omega)]; done)) hG (lv_sub hl [0, 1, 2, 3, 4, 5, 6, 7, 8, 9, 10] rfl)
              · skip
                refine lv_aload_n hx hb dL_misfits_75 rfl (lv_at hl 5 rfl) ?_
                refine lv_iload_n hx hb dL_misfits_76 rfl (lv_at hl 8 rfl) ?_
                refine lv_iload hx hb dL_misfits_77 (lv_at hl 1 rfl) ?_
                refine lv_iload hx hb dL_misfits_79 (lv_at hl 3 rfl) ?_
                refine lv_iconst (v := iI (0)) hx hb dL_misfits_81 rfl ?_
                have hkc0 := kCell_s t0 (v5) (k : Int) 0
                refine g_goi hG hA (va_runV (As := [.int (iI (t0)), .int (iI (v5)), .int (iI (((k : Nat) : Int))), .int (iI (0))]) (rest := [.int (iI (sumN (fun i9 => sumN (mfC st (a).toNat (t0).toNat (i9 : Int) (st 63 (a).toNat (i9 : Int))) (4 * st 61 (a).toNat 0).toNat) i + sumN (mfC st (a).toNat (t0).toNat (i : Int) (st 63 (a).toNat (i : Int))) k))]) ⟨hx, hb, hml, hown, hts⟩ (pX5_cell l D cy ad n st _ fz wb hn hI (by omega) (t0) (v5) (((k : Nat) : Int)) (0) (by omega) (by omega) (by omega) (by omega) hlf hnl hR (by omega)) (cwV 4 hts gL_misfits_X5_cell rfl rfl rfl (by decide +kernel) ⟨Nat.le_of_ble_eq_true rfl, Nat.le_of_ble_eq_true rfl⟩) ⟨g_blind, va_recv hK hG.1 (q0 := 21 - 19) (ci := 5) rfl ((gw_at (k := 21) (by omega)).trans (by rw [gC_21 st ad cy])), g_pre hK hG hA hN hZ⟩ rfl rfl hl.1 rfl (lv_room (Nat.le_of_ble_eq_true rfl)) dL_misfits_82 ⟨(by show _ ≤ 1280; omega), (by show _ ≤ 7680; omega)⟩) (fun r9 s9 H locs hp hG => ?_)
                obtain ⟨rfl, hs9⟩ := hp
                rw [hs9] at hG
                clear hs9
                refine r_nm (fun v18 ev18 => ?_)
                have h0v : v18 = st 40 (t0).toNat (16 * st 63 (a).toNat (i : Int) + (k : Int)) := by rw [ev18, hrv]; rfl
                have h0r := gI_40 hI (t0).toNat (16 * st 63 (a).toNat (i : Int) + (k : Int))
                refine lv_iload hx hb dL_misfits_85 (lv_at hl 0 rfl) ?_
                refine r_icmp_eq (tgt := 94) hx hb (by omega) dL_misfits_87 (by decide) (fun c19 => ?_) (fun c19 => ?_)
                · skip
                  refine lv_iconst (v := iI (0)) hx hb dL_misfits_94 rfl ?_
                  refine W.widen (k := 160 * i + 10 * k + 10) (n := 960 * i + 60 * k + 60) (by omega) (by omega) ?_
                  exact hlab95 (0)  _ _ _ (by unfold mfC msC; first | (rw [if_pos (by omega)]; done) | (rw [if_neg (by omega)]; done)) hG (lv_sub hl [0, 1, 2, 3, 4, 5, 6, 7, 8, 9, 10] rfl)
                · skip
                  refine lv_iconst (v := iI (1)) hx hb dL_misfits_90 rfl ?_
                  refine lv_goto (tgt := 95) hx hb dL_misfits_91 (by decide) ?_
                  refine W.widen (k := 160 * i + 10 * k + 10) (n := 960 * i + 60 * k + 60) (by omega) (by omega) ?_
                  exact hlab95 (1)  _ _ _ (by unfold mfC msC; first | (rw [if_pos (by omega)]; done) | (rw [if_neg (by omega)]; done)) hG (lv_sub hl [0, 1, 2, 3, 4, 5, 6, 7, 8, 9, 10] rfl)
        rw [show (sumN (fun i9 => sumN (mfC st (a).toNat (t0).toNat (i9 : Int) (st 63 (a).toNat (i9 : Int))) (4 * st 61 (a).toNat 0).toNat) i : Int) = sumN (fun i9 => sumN (mfC st (a).toNat (t0).toNat (i9 : Int) (st 63 (a).toNat (i9 : Int))) (4 * st 61 (a).toNat 0).toNat) i + sumN (mfC st (a).toNat (t0).toNat (i : Int) (st 63 (a).toNat (i : Int))) (0) from by (show _ = _ + 0; omega)] at hl
        exact hloop16 _  (0) _ _ _ (Nat.lt_succ_self _) (by omega) hG (lv_sub hl [1, 0, 2, 3, 4, 5, 6, 7, 8] rfl)
  exact hloop6 _  (0) _ _ _ (Nat.lt_succ_self _) (by omega) hG (lv_sub hl [1, 0, 2, 3, 4, 5, 6, 7] rfl)
