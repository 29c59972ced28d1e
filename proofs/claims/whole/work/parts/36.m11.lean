set_option maxHeartbeats 400000 in
set_option maxRecDepth 100000 in
theorem mX6_isChainPlaced (l : Launch) (D : va_G) (cy : Nat → ClassId) (ad : Nat → Nat) (n : Nat) (st : St) (sz fz : Nat) (wb : Int) (hn : 75 ≤ n) (hI : GI wb st) (hW : wb ≤ 2000000) (a : Int) (ha : 0 ≤ a ∧ a < st 14 0 0) (hch : ∀ q : Int, 0 ≤ q → q < st 14 0 0 → st 19 0 q = -1 ∨ (q < st 19 0 q ∧ st 19 0 q < st 14 0 0)) : Met l yX6_isChainPlaced wsX6_isChainPlaced ({ frames := 0, cells := 0, slots := 0, locals := 0 }) (va_Pc [.ref (ad 0), .int (iI (a))] (gB D cy ad n st sz fz)) (va_Qi (fun (r : Int32) (st' : St) => r = iI (chP st 6 a) ∧ st' = st) (gP D cy ad n) (gA n ad sz)) 0 0 (gA n ad sz) := by
  refine Met.ofW (cc := cX6_isChainPlaced) (maxL := 4) (ret := (some .boolean)) (by decide) rfl ?_
  intro p e s m args below meth c s₁ B hml hv
  obtain ⟨rfl, hsz, hP, hK, hD0, hN, hZ⟩ := hv
  have hx := B.exec
  have hb := B.bytes
  have hr := B.returns
  have hts := atoms_spec (ws := wsX6_isChainPlaced) B.pre
  have hown : s.vm.findClass RX6 = some m.cls := findClass_of_methodNamed B.named
  have hlocks := B.notSynchronized
  subst hsz
  have hA : ∀ q : Nat, s.heap.size ≤ q → gA n ad s.heap.size q := fun q h => Or.inr h
  have hG : GH D cy ad n st (gA n ad s.heap.size) s.heap s.heap [] := ⟨hP, gw_A hD0, va_S.rf⟩
  have hl := lv_entry ([.ref (ad 0), .int (iI (a))]) (n := 4) (Nat.le_of_ble_eq_true rfl)
  rw [lg_entry_eq]
  generalize (lg_sl ([.ref (ad 0), .int (iI (a))]) ++ List.replicate (4 - (lg_sl ([.ref (ad 0), .int (iI (a))])).length) Slot.unset).toArray = ls at hl ⊢
  have hl : lv_has ls 4 [(0, .ref (ad 0)), (1, .int (iI (a)))] := hl
  have hin6 : ∀ w ∈ u_ws RX6 TX6 25, w ∈ wsX6_isChainPlaced := by decide +kernel
  have L_57 := hts (.fieldLink RX6 57 "CrossbarryModel" "nexts" "[I") (by decide +kernel)
  have L_60 := hts (.fieldLink RX6 60 "CrossbarryModel" "tileAt" "[I") (by decide +kernel)
  have hmn := gI_14 hI 0 0
  refine lv_iconst (v := iI (1)) hx hb dX6_isChainPlaced_0 rfl ?_
  refine lv_istore_n (lv' := [(2, .int (iI (1))), (0, .ref (ad 0)), (1, .int (iI (a)))]) hx hb dX6_isChainPlaced_1 rfl hl (by decide) rfl (fun ls hl => ?_)
  refine lv_iload_n hx hb dX6_isChainPlaced_2 rfl (lv_at hl 2 rfl) ?_
  refine lv_istore_n (lv' := [(3, .int (iI (a))), (2, .int (iI (1))), (0, .ref (ad 0)), (1, .int (iI (a)))]) hx hb dX6_isChainPlaced_3 rfl hl (by decide) rfl (fun ls hl => ?_)
  have hloop4 : ∀ (N : Nat) (x2 : Int) (x3 : Int) (f : Nat) (H : Heap) (locs : List Loc) (ls : Array Slot), f < N → (x2 = 0 ∨ x2 = 1) → (x3 = -1 ∨ (0 ≤ x3 ∧ x3 < st 14 0 0 ∧ 6 ≤ x3 + (f : Int))) → ((x2 = 1 → chP st f x3 = chP st 6 a)) → ((x2 = 0 → chP st 6 a = 0)) →  GH D cy ad n st (gA n ad s.heap.size) s.heap H locs → lv_has ls 4 [(2, .int (iI (x2))), (3, .int (iI (x3))), (0, .ref (ad 0)), (1, .int (iI (a)))] → W p l e (headSpec wsX6_isChainPlaced { frames := 0, cells := 0, slots := 0, locals := 0 }).room s m (#[.ref (ad 0), .int (iI (a))] : Array Value) below meth c H locs 0 0 (MQ below (va_Qi (fun (r : Int32) (st' : St) => r = iI (chP st 6 a) ∧ st' = st) (gP D cy ad n) (gA n ad s.heap.size)) (#[.ref (ad 0), .int (iI (a))] : Array Value) s 0 0 (gA n ad s.heap.size)) (F0 m 4 ls []) := by
    intro N
    induction N with
    | zero => intro x2 x3 f H locs ls hm; exact absurd hm (Nat.not_lt_zero _)
    | succ N ih4 =>
      intro x2 x3 f H locs ls hm hx2 hx3 hc1 hc0 hG hl
      have hnx := hch x3
      refine lv_iload_n hx hb dX6_isChainPlaced_4 rfl (lv_at hl 1 rfl) ?_
      refine lv_iconst (v := iI (-1)) hx hb dX6_isChainPlaced_5 rfl ?_
      refine r_icmp_eq (tgt := 39) hx hb (by omega) dX6_isChainPlaced_6 (by decide) (fun c1 => ?_) (fun c1 => ?_)
      · skip
        refine lv_iload_n hx hb dX6_isChainPlaced_39 rfl (lv_at hl 0 rfl) ?_
        exact g_zret hx hb hr hlocks (narZ (by omega)) hG (by
          refine ⟨?_, rfl⟩
          congr 1
          rw [show x3 = -1 by omega, chP_e] at hc1
          omega) dX6_isChainPlaced_40
      · skip
        refine lv_iload_n hx hb dX6_isChainPlaced_9 rfl (lv_at hl 0 rfl) ?_
        refine r_if_eq (tgt := 27) hx hb (by omega) dX6_isChainPlaced_10 (by decide) (fun c2 => ?_) (fun c2 => ?_)
        · skip
          refine lv_iconst (v := iI (0)) hx hb dX6_isChainPlaced_27 rfl ?_
          refine lv_istore_n (lv' := [(2, .int (iI (0))), (3, .int (iI (x3))), (0, .ref (ad 0)), (1, .int (iI (a)))]) hx hb dX6_isChainPlaced_28 rfl hl (by decide) rfl (fun ls hl => ?_)
          refine lv_aload_n hx hb dX6_isChainPlaced_29 rfl (lv_at hl 2 rfl) ?_
          refine g_get hx hb hts hin6 hown hK hG (key := 0) (by omega) (gC_0 st ad cy) rfl 19 (by decide) L_57 (fun _ h9 => h9) rfl dX6_isChainPlaced_30 ?_
          refine lv_iload_n hx hb dX6_isChainPlaced_33 rfl (lv_at hl 1 rfl) ?_
          refine g_iald hx hb hK hG (15) (kd := 15) (o := 0) rfl rfl (by omega) (cp := 19) (ln := 6) rfl rfl (by omega) dX6_isChainPlaced_34 ?_
          have hr3 := gI_19 hI (0) (x3)
          refine r_nm (fun v4 ev4 => ?_)
          rw [← ev4] at hr3
          refine lv_istore_n (lv' := [(3, .int (iI (v4))), (2, .int (iI (0))), (0, .ref (ad 0)), (1, .int (iI (a)))]) hx hb dX6_isChainPlaced_35 rfl hl (by decide) rfl (fun ls hl => ?_)
          refine lv_goto (tgt := 4) hx hb dX6_isChainPlaced_36 (by decide) ?_
          obtain ⟨f1, rfl⟩ : ∃ f1 : Nat, f = f1 + 1 := ⟨f - 1, by omega⟩
          have hcs := chP_s st f1 x3
          rw [if_neg (by omega)] at hcs
          first
            | (rw [if_pos (by omega)] at hcs)
            | (rw [if_neg (by omega), show st 19 0 x3 = (v4) by omega] at hcs)
            | skip
          exact ih4 (0) (v4) (f1) _ _ _ (by omega) (by omega) (by omega) (by intro q; omega) (by intro q; omega) hG (lv_sub hl [1, 0, 2, 3] rfl)
        · skip
          refine lv_aload_n hx hb dX6_isChainPlaced_13 rfl (lv_at hl 2 rfl) ?_
          refine g_get hx hb hts hin6 hown hK hG (key := 0) (by omega) (gC_0 st ad cy) rfl 20 (by decide) L_60 (fun _ h9 => h9) rfl dX6_isChainPlaced_14 ?_
          refine lv_iload_n hx hb dX6_isChainPlaced_17 rfl (lv_at hl 1 rfl) ?_
          refine g_iald hx hb hK hG (16) (kd := 16) (o := 0) rfl rfl (by omega) (cp := 20) (ln := 6) rfl rfl (by omega) dX6_isChainPlaced_18 ?_
          have hr5 := gI_20 hI (0) (x3)
          refine r_nm (fun v6 ev6 => ?_)
          rw [← ev6] at hr5
          refine lv_iconst (v := iI (-1)) hx hb dX6_isChainPlaced_19 rfl ?_
          refine r_icmp_eq (tgt := 27) hx hb (by omega) dX6_isChainPlaced_20 (by decide) (fun c7 => ?_) (fun c7 => ?_)
          · skip
            refine lv_iconst (v := iI (0)) hx hb dX6_isChainPlaced_27 rfl ?_
            refine lv_istore_n (lv' := [(2, .int (iI (0))), (3, .int (iI (x3))), (0, .ref (ad 0)), (1, .int (iI (a)))]) hx hb dX6_isChainPlaced_28 rfl hl (by decide) rfl (fun ls hl => ?_)
            refine lv_aload_n hx hb dX6_isChainPlaced_29 rfl (lv_at hl 2 rfl) ?_
            refine g_get hx hb hts hin6 hown hK hG (key := 0) (by omega) (gC_0 st ad cy) rfl 19 (by decide) L_57 (fun _ h9 => h9) rfl dX6_isChainPlaced_30 ?_
            refine lv_iload_n hx hb dX6_isChainPlaced_33 rfl (lv_at hl 1 rfl) ?_
            refine g_iald hx hb hK hG (15) (kd := 15) (o := 0) rfl rfl (by omega) (cp := 19) (ln := 6) rfl rfl (by omega) dX6_isChainPlaced_34 ?_
            have hr8 := gI_19 hI (0) (x3)
            refine r_nm (fun v9 ev9 => ?_)
            rw [← ev9] at hr8
            refine lv_istore_n (lv' := [(3, .int (iI (v9))), (2, .int (iI (0))), (0, .ref (ad 0)), (1, .int (iI (a)))]) hx hb dX6_isChainPlaced_35 rfl hl (by decide) rfl (fun ls hl => ?_)
            refine lv_goto (tgt := 4) hx hb dX6_isChainPlaced_36 (by decide) ?_
            obtain ⟨f1, rfl⟩ : ∃ f1 : Nat, f = f1 + 1 := ⟨f - 1, by omega⟩
            have hcs := chP_s st f1 x3
            rw [if_neg (by omega)] at hcs
            first
              | (rw [if_pos (by omega)] at hcs)
              | (rw [if_neg (by omega), show st 19 0 x3 = (v9) by omega] at hcs)
              | skip
            exact ih4 (0) (v9) (f1) _ _ _ (by omega) (by omega) (by omega) (by intro q; omega) (by intro q; omega) hG (lv_sub hl [1, 0, 2, 3] rfl)
          · skip
            refine lv_iconst (v := iI (1)) hx hb dX6_isChainPlaced_23 rfl ?_
            refine lv_goto (tgt := 28) hx hb dX6_isChainPlaced_24 (by decide) ?_
            refine lv_istore_n (lv' := [(2, .int (iI (1))), (3, .int (iI (x3))), (0, .ref (ad 0)), (1, .int (iI (a)))]) hx hb dX6_isChainPlaced_28 rfl hl (by decide) rfl (fun ls hl => ?_)
            refine lv_aload_n hx hb dX6_isChainPlaced_29 rfl (lv_at hl 2 rfl) ?_
            refine g_get hx hb hts hin6 hown hK hG (key := 0) (by omega) (gC_0 st ad cy) rfl 19 (by decide) L_57 (fun _ h9 => h9) rfl dX6_isChainPlaced_30 ?_
            refine lv_iload_n hx hb dX6_isChainPlaced_33 rfl (lv_at hl 1 rfl) ?_
            refine g_iald hx hb hK hG (15) (kd := 15) (o := 0) rfl rfl (by omega) (cp := 19) (ln := 6) rfl rfl (by omega) dX6_isChainPlaced_34 ?_
            have hr10 := gI_19 hI (0) (x3)
            refine r_nm (fun v11 ev11 => ?_)
            rw [← ev11] at hr10
            refine lv_istore_n (lv' := [(3, .int (iI (v11))), (2, .int (iI (1))), (0, .ref (ad 0)), (1, .int (iI (a)))]) hx hb dX6_isChainPlaced_35 rfl hl (by decide) rfl (fun ls hl => ?_)
            refine lv_goto (tgt := 4) hx hb dX6_isChainPlaced_36 (by decide) ?_
            obtain ⟨f1, rfl⟩ : ∃ f1 : Nat, f = f1 + 1 := ⟨f - 1, by omega⟩
            have hcs := chP_s st f1 x3
            rw [if_neg (by omega)] at hcs
            first
              | (rw [if_pos (by omega)] at hcs)
              | (rw [if_neg (by omega), show st 19 0 x3 = (v11) by omega] at hcs)
              | skip
            exact ih4 (1) (v11) (f1) _ _ _ (by omega) (by omega) (by omega) (by intro q; omega) (by intro q; omega) hG (lv_sub hl [1, 0, 2, 3] rfl)
  exact hloop4 _ (1) (a) (6) _ _ _ (Nat.lt_succ_self _) (by omega) (by omega) (by intro _; rfl) (by intro q; exact absurd q (by decide)) hG (lv_sub hl [1, 0, 2, 3] rfl)
set_option maxHeartbeats 400000 in
set_option maxRecDepth 100000 in
theorem mX6_runs (l : Launch) (D : va_G) (cy : Nat → ClassId) (ad : Nat → Nat) (n : Nat) (st : St) (sz fz : Nat) (wb : Int) (hn : 75 ≤ n) (hI : GI wb st) (hW : wb ≤ 2000000) (a : Int) (vec : Nat) (g : Int) (ha : 0 ≤ a ∧ a < st 14 0 0) (hvec : vec < 2 ^ 64) (hg : g = 0 ∨ g = 1) (hch : ∀ q : Int, 0 ≤ q → q < st 14 0 0 → st 19 0 q = -1 ∨ (q < st 19 0 q ∧ st 19 0 q < st 14 0 0)) (hsi : ∀ j : Int, st 6 0 j ≤ st 1 0 0) (hpl : g = 0 → chP st 6 a = 1) : Met l yX6_runs wsX6_runs ({ frames := 2, cells := 0, slots := 0, locals := 57 }) (va_Pc [.ref (ad 0), .int (iI (a)), .long (lN vec), .int (iI (g))] (gB D cy ad n st sz fz)) (va_Ql (fun (r : Int64) (st' : St) => r = lN (runC st g 6 a vec) ∧ st' = st) (gP D cy ad n) (gA n ad sz)) 0 0 (gA n ad sz) := by
  refine Met.ofW (cc := cX6_runs) (maxL := 12) (ret := (some .long)) (by decide) rfl ?_
  intro p e s m args below meth c s₁ B hml hv
  obtain ⟨rfl, hsz, hP, hK, hD0, hN, hZ⟩ := hv
  have hx := B.exec
  have hb := B.bytes
  have hr := B.returns
  have hts := atoms_spec (ws := wsX6_runs) B.pre
  have hown : s.vm.findClass RX6 = some m.cls := findClass_of_methodNamed B.named
  have hlocks := B.notSynchronized
  subst hsz
  have hA : ∀ q : Nat, s.heap.size ≤ q → gA n ad s.heap.size q := fun q h => Or.inr h
  have hG : GH D cy ad n st (gA n ad s.heap.size) s.heap s.heap [] := ⟨hP, gw_A hD0, va_S.rf⟩
  have hl := lv_entry ([.ref (ad 0), .int (iI (a)), .long (lN vec), .int (iI (g))]) (n := 12) (Nat.le_of_ble_eq_true rfl)
  rw [lg_entry_eq]
  generalize (lg_sl ([.ref (ad 0), .int (iI (a)), .long (lN vec), .int (iI (g))]) ++ List.replicate (12 - (lg_sl ([.ref (ad 0), .int (iI (a)), .long (lN vec), .int (iI (g))])).length) Slot.unset).toArray = ls at hl ⊢
  have hl : lv_has ls 12 [(0, .ref (ad 0)), (1, .int (iI (a))), (2, .long (lN vec)), (4, .int (iI (g)))] := hl
  have hin6 : ∀ w ∈ u_ws RX6 TX6 25, w ∈ wsX6_runs := by decide +kernel
  have L_48 := hts (.fieldLink RX6 48 "CrossbarryModel" "outputs" "[I") (by decide +kernel)
  have L_54 := hts (.fieldLink RX6 54 "CrossbarryModel" "shifts" "[I") (by decide +kernel)
  have L_57 := hts (.fieldLink RX6 57 "CrossbarryModel" "nexts" "[I") (by decide +kernel)
  have hmn := gI_14 hI 0 0
  refine lv_lload_n hx hb dX6_runs_0 rfl (lv_at hl 2 rfl) ?_
  refine lv_lstore (lv' := [(5, .long (lN vec)), (0, .ref (ad 0)), (1, .int (iI (a))), (2, .long (lN vec)), (4, .int (iI (g)))]) hx hb dX6_runs_1 hl (by decide) rfl (fun ls hl => ?_)
  refine lv_iload_n hx hb dX6_runs_3 rfl (lv_at hl 2 rfl) ?_
  refine lv_istore (lv' := [(7, .int (iI (a))), (5, .long (lN vec)), (0, .ref (ad 0)), (1, .int (iI (a))), (2, .long (lN vec)), (4, .int (iI (g)))]) hx hb dX6_runs_4 hl (by decide) rfl (fun ls hl => ?_)
  have hloop6 : ∀ (N : Nat) (x7 : Int) (v : Nat) (f : Nat) (H : Heap) (locs : List Loc) (ls : Array Slot), f < N → (v < 2 ^ 64) → (x7 = -1 ∨ (0 ≤ x7 ∧ x7 < st 14 0 0 ∧ 6 ≤ x7 + (f : Int))) → (runC st g f x7 v = runC st g 6 a vec) → (g = 0 → chP st f x7 = 1) →  GH D cy ad n st (gA n ad s.heap.size) s.heap H locs → lv_has ls 12 [(5, .long (lN v)), (7, .int (iI (x7))), (0, .ref (ad 0)), (1, .int (iI (a))), (2, .long (lN vec)), (4, .int (iI (g)))] → W p l e (headSpec wsX6_runs { frames := 2, cells := 0, slots := 0, locals := 57 }).room s m (#[.ref (ad 0), .int (iI (a)), .long (lN vec), .int (iI (g))] : Array Value) below meth c H locs 0 0 (MQ below (va_Ql (fun (r : Int64) (st' : St) => r = lN (runC st g 6 a vec) ∧ st' = st) (gP D cy ad n) (gA n ad s.heap.size)) (#[.ref (ad 0), .int (iI (a)), .long (lN vec), .int (iI (g))] : Array Value) s 0 0 (gA n ad s.heap.size)) (F0 m 6 ls []) := by
    intro N
    induction N with
    | zero => intro x7 v f H locs ls hm; exact absurd hm (Nat.not_lt_zero _)
    | succ N ih6 =>
      intro x7 v f H locs ls hm hv hx7 hcr hcp hG hl
      have hnx := hch x7
      refine lv_iload hx hb dX6_runs_6 (lv_at hl 1 rfl) ?_
      refine lv_iconst (v := iI (-1)) hx hb dX6_runs_8 rfl ?_
      refine r_icmp_eq (tgt := 135) hx hb (by omega) dX6_runs_9 (by decide) (fun c1 => ?_) (fun c1 => ?_)
      · skip
        refine lv_lload hx hb dX6_runs_135 (lv_at hl 0 rfl) ?_
        exact g_lret hx hb hr hlocks hG (by
          refine ⟨?_, rfl⟩
          rw [← hcr, show x7 = -1 by omega, runC_e]) dX6_runs_137
      · skip
        refine lv_lconst (v := 0) hx hb dX6_runs_12 rfl ?_
        refine lv_lstore (lv' := [(8, .long (0)), (5, .long (lN v)), (7, .int (iI (x7))), (0, .ref (ad 0)), (1, .int (iI (a))), (2, .long (lN vec)), (4, .int (iI (g)))]) hx hb dX6_runs_13 hl (by decide) rfl (fun ls hl => ?_)
        refine lv_iconst (v := iI (0)) hx hb dX6_runs_15 rfl ?_
        refine lv_istore (lv' := [(10, .int (iI (0))), (8, .long (0)), (5, .long (lN v)), (7, .int (iI (x7))), (0, .ref (ad 0)), (1, .int (iI (a))), (2, .long (lN vec)), (4, .int (iI (g)))]) hx hb dX6_runs_16 hl (by decide) rfl (fun ls hl => ?_)
        have hin7 := gI_15 hI 0 x7
        have hou := gI_16 hI 0 x7
        have htl : g = 0 → 0 ≤ st 20 0 x7 := by
          intro q
          have h9 := hcp q
          obtain ⟨f1, rfl⟩ : ∃ f1 : Nat, f = f1 + 1 := ⟨f - 1, by omega⟩
          have h7 := gI_20 hI 0 x7
          rw [chP_s, if_neg (by omega)] at h9
          by_cases h8 : st 20 0 x7 = -1
          · rw [if_pos h8] at h9; omega
          · omega
        have hloop18 : ∀ (N : Nat)  (k : Nat) (H : Heap) (locs : List Loc) (ls : Array Slot), 4 - k < N → ((k : Int) ≤ st 16 0 x7) →  GH D cy ad n st (gA n ad s.heap.size) s.heap H locs → lv_has ls 12 [(8, .long (lN (vecU st x7 v g k))), (10, .int (iI (((k : Nat) : Int)))), (5, .long (lN v)), (7, .int (iI (x7))), (0, .ref (ad 0)), (1, .int (iI (a))), (2, .long (lN vec)), (4, .int (iI (g)))] → W p l e (headSpec wsX6_runs { frames := 2, cells := 0, slots := 0, locals := 57 }).room s m (#[.ref (ad 0), .int (iI (a)), .long (lN vec), .int (iI (g))] : Array Value) below meth c H locs 0 0 (MQ below (va_Ql (fun (r : Int64) (st' : St) => r = lN (runC st g 6 a vec) ∧ st' = st) (gP D cy ad n) (gA n ad s.heap.size)) (#[.ref (ad 0), .int (iI (a)), .long (lN vec), .int (iI (g))] : Array Value) s 0 0 (gA n ad s.heap.size)) (F0 m 18 ls []) := by
          intro N
          induction N with
          | zero => intro  k H locs ls hm; exact absurd hm (Nat.not_lt_zero _)
          | succ N ih18 =>
            intro  k H locs ls hm hk hG hl
            refine lv_iload hx hb dX6_runs_18 (lv_at hl 1 rfl) ?_
            refine lv_aload_n hx hb dX6_runs_20 rfl (lv_at hl 4 rfl) ?_
            refine g_get hx hb hts hin6 hown hK hG (key := 0) (by omega) (gC_0 st ad cy) rfl 16 (by decide) L_48 (fun _ h9 => h9) rfl dX6_runs_21 ?_
            refine lv_iload hx hb dX6_runs_24 (lv_at hl 3 rfl) ?_
            refine g_iald hx hb hK hG (12) (kd := 12) (o := 0) rfl rfl (by omega) (cp := 16) (ln := 6) rfl rfl (by omega) dX6_runs_26 ?_
            have hr2 := gI_16 hI (0) (x7)
            refine r_nm (fun v3 ev3 => ?_)
            rw [← ev3] at hr2
            refine r_icmp_ge (tgt := 119) hx hb (by omega) dX6_runs_27 (by decide) (fun c4 => ?_) (fun c4 => ?_)
            · skip
              refine lv_lload hx hb dX6_runs_119 (lv_at hl 0 rfl) ?_
              refine lv_lstore (lv' := [(5, .long (lN (vecU st x7 v g k))), (8, .long (lN (vecU st x7 v g k))), (10, .int (iI (((k : Nat) : Int)))), (7, .int (iI (x7))), (0, .ref (ad 0)), (1, .int (iI (a))), (2, .long (lN vec)), (4, .int (iI (g)))]) hx hb dX6_runs_121 hl (by decide) rfl (fun ls hl => ?_)
              refine lv_aload_n hx hb dX6_runs_123 rfl (lv_at hl 4 rfl) ?_
              refine g_get hx hb hts hin6 hown hK hG (key := 0) (by omega) (gC_0 st ad cy) rfl 19 (by decide) L_57 (fun _ h9 => h9) rfl dX6_runs_124 ?_
              refine lv_iload hx hb dX6_runs_127 (lv_at hl 3 rfl) ?_
              refine g_iald hx hb hK hG (15) (kd := 15) (o := 0) rfl rfl (by omega) (cp := 19) (ln := 6) rfl rfl (by omega) dX6_runs_129 ?_
              have hr5 := gI_19 hI (0) (x7)
              refine r_nm (fun v6 ev6 => ?_)
              rw [← ev6] at hr5
              refine lv_istore (lv' := [(7, .int (iI (v6))), (5, .long (lN (vecU st x7 v g k))), (8, .long (lN (vecU st x7 v g k))), (10, .int (iI (((k : Nat) : Int)))), (0, .ref (ad 0)), (1, .int (iI (a))), (2, .long (lN vec)), (4, .int (iI (g)))]) hx hb dX6_runs_130 hl (by decide) rfl (fun ls hl => ?_)
              refine lv_goto (tgt := 6) hx hb dX6_runs_132 (by decide) ?_
              obtain ⟨f1, rfl⟩ : ∃ f1 : Nat, f = f1 + 1 := ⟨f - 1, by omega⟩
              rw [runC_s, if_neg (by omega), show (st 16 0 x7).toNat = k by omega, show st 19 0 x7 = (v6) by omega] at hcr
              exact ih6 (v6) (vecU st x7 v g k) (f1) _ _ _ (by omega) (by exact Nat.lt_of_lt_of_le (vecU_b st x7 v g k) (Nat.pow_le_pow_right (by decide) (by omega))) (by omega) (by exact hcr) (by intro q; have h9 := hcp q; rw [chP_s, if_neg (by omega)] at h9; by_cases h8 : st 20 0 x7 = -1 <;> simp only [h8, if_true, if_false] at h9 <;> first | omega | (rw [show (v6) = st 19 0 x7 by omega]; exact h9)) hG (lv_sub hl [1, 0, 4, 5, 6, 7] rfl)
            · skip
              refine lv_iload hx hb dX6_runs_30 (lv_at hl 7 rfl) ?_
              refine r_if_eq (tgt := 48) hx hb (by omega) dX6_runs_32 (by decide) (fun c7 => ?_) (fun c7 => ?_)
              · skip
                refine lv_aload_n hx hb dX6_runs_48 rfl (lv_at hl 4 rfl) ?_
                refine lv_iload hx hb dX6_runs_49 (lv_at hl 3 rfl) ?_
                refine lv_lload hx hb dX6_runs_51 (lv_at hl 2 rfl) ?_
                refine lv_iload hx hb dX6_runs_53 (lv_at hl 1 rfl) ?_
                refine g_goi hG hA (va_runV (As := [.int (iI (x7)), .long (lN v), .int (iI (((k : Nat) : Int)))]) (rest := []) ⟨hx, hb, hml, hown, hts⟩ (mX6_answerOf l D cy ad n st _ fz wb hn hI (by omega) (x7) v (((k : Nat) : Int)) (by omega) (by omega) (by omega) (by omega) (by omega)) (cwV 3 hts gX6_runs_X6_answerOf rfl rfl rfl (by decide +kernel) ⟨Nat.le_of_ble_eq_true rfl, Nat.le_of_ble_eq_true rfl⟩) ⟨g_blind, va_recv hK hG.1 (q0 := 0) (ci := 6) rfl ((gw_at (by omega)).trans (by rw [gC_0 st ad cy])), g_pre hK hG hA hN hZ⟩ rfl rfl hl.1 rfl (lv_room (Nat.le_of_ble_eq_true rfl)) dX6_runs_55 ⟨Nat.zero_le _, Nat.zero_le _⟩) (fun r9 s9 H locs hp hG => ?_)
                obtain ⟨rfl, hs9⟩ := hp
                rw [hs9] at hG
                clear hs9
                refine r_nm (fun v8 ev8 => ?_)
                have hab := ansU_b hI x7 ((k : Nat) : Int) v
                rw [← ev8] at hab
                refine lv_istore (lv' := [(11, .int (iI (v8))), (8, .long (lN (vecU st x7 v g k))), (10, .int (iI (((k : Nat) : Int)))), (5, .long (lN v)), (7, .int (iI (x7))), (0, .ref (ad 0)), (1, .int (iI (a))), (2, .long (lN vec)), (4, .int (iI (g)))]) hx hb dX6_runs_58 hl (by decide) rfl (fun ls hl => ?_)
                refine lv_iload hx hb dX6_runs_60 (lv_at hl 0 rfl) ?_
                refine lv_aload_n hx hb dX6_runs_62 rfl (lv_at hl 5 rfl) ?_
                refine g_get hx hb hts hin6 hown hK hG (key := 0) (by omega) (gC_0 st ad cy) rfl 18 (by decide) L_54 (fun _ h9 => h9) rfl dX6_runs_63 ?_
                refine lv_iload hx hb dX6_runs_66 (lv_at hl 4 rfl) ?_
                refine g_iald hx hb hK hG (14) (kd := 14) (o := 0) rfl rfl (by omega) (cp := 18) (ln := 6) rfl rfl (by omega) dX6_runs_68 ?_
                have hr9 := gI_18 hI (0) (x7)
                refine r_nm (fun v10 ev10 => ?_)
                rw [← ev10] at hr9
                refine r_as (y := ((((v10) : Int).toNat : Nat) : Int)) (by omega) ?_
                refine r_ishr hx hb (by omega) (by omega) dX6_runs_69 ?_
                refine r_nm (fun v11 ev11 => ?_)
                have hsq : ansG st x7 v g k / 2 ^ (st 18 0 x7).toNat = v11 := by unfold ansG; first | (rw [if_pos (by omega)]; subst_vars; rfl) | (rw [if_neg (by omega)]; subst_vars; rfl)
                have hqb := shrB (k := (st 18 0 x7).toNat) (ansG_b hI x7 v g k)
                rw [hsq] at hqb
                refine lv_istore (lv' := [(11, .int (iI (v11))), (8, .long (lN (vecU st x7 v g k))), (10, .int (iI (((k : Nat) : Int)))), (5, .long (lN v)), (7, .int (iI (x7))), (0, .ref (ad 0)), (1, .int (iI (a))), (2, .long (lN vec)), (4, .int (iI (g)))]) hx hb dX6_runs_70 hl (by decide) rfl (fun ls hl => ?_)
                refine lv_iload hx hb dX6_runs_72 (lv_at hl 0 rfl) ?_
                refine r_if_ge (tgt := 81) hx hb (by omega) dX6_runs_74 (by decide) (fun c12 => ?_) (fun c12 => ?_)
                · skip
                  refine lv_iload hx hb dX6_runs_81 (lv_at hl 0 rfl) ?_
                  refine lv_sipush (v := iI (255)) hx hb dX6_runs_83 (by decide +kernel) ?_
                  refine r_icmp_le (tgt := 95) hx hb (by omega) dX6_runs_86 (by decide) (fun c13 => ?_) (fun c13 => ?_)
                  · skip
                    refine lv_iload hx hb dX6_runs_95 (lv_at hl 0 rfl) ?_
                    refine lv_istore (lv' := [(11, .int (iI (v11))), (8, .long (lN (vecU st x7 v g k))), (10, .int (iI (((k : Nat) : Int)))), (5, .long (lN v)), (7, .int (iI (x7))), (0, .ref (ad 0)), (1, .int (iI (a))), (2, .long (lN vec)), (4, .int (iI (g)))]) hx hb dX6_runs_97 hl (by decide) rfl (fun ls hl => ?_)
                    refine lv_lload hx hb dX6_runs_99 (lv_at hl 1 rfl) ?_
                    refine lv_iload hx hb dX6_runs_101 (lv_at hl 0 rfl) ?_
                    refine lv_i2l (v := lN ((v11) : Int).toNat) hx hb dX6_runs_103 (by exact vi2l (by omega) (by omega)) ?_
                    refine lv_bipush (v := iI (8)) hx hb dX6_runs_104 (by decide +kernel) ?_
                    refine lv_iload hx hb dX6_runs_106 (lv_at hl 2 rfl) ?_
                    refine r_imul hx hb dX6_runs_108 ?_
                    refine r_nm (fun v14 ev14 => ?_)
                    refine r_as (y := ((8 * k : Nat) : Int)) (by omega) ?_
                    refine lv_lshl (v := lN (((v11) : Int).toNat * 2 ^ (8 * k))) hx hb dX6_runs_109 (by exact vlshl _ (by omega)) ?_
                    refine lv_lor hx hb dX6_runs_110 ?_
                    refine r_asL (y := lN (vecU st (x7) v g k ||| ((v11) : Int).toNat * 2 ^ (8 * k))) (by exact vlor _ _) ?_
                    refine lv_lstore (lv' := [(8, .long (lN (vecU st (x7) v g k ||| ((v11) : Int).toNat * 2 ^ (8 * k)))), (11, .int (iI (v11))), (10, .int (iI (((k : Nat) : Int)))), (5, .long (lN v)), (7, .int (iI (x7))), (0, .ref (ad 0)), (1, .int (iI (a))), (2, .long (lN vec)), (4, .int (iI (g)))]) hx hb dX6_runs_111 hl (by decide) rfl (fun ls hl => ?_)
                    obtain ⟨v15, ev15⟩ : ∃ y9 : Int, y9 = ((k : Nat) : Int) + (1) := ⟨_, rfl⟩
                    refine lv_iinc (v := iI v15) (lv' := [(10, .int (iI (v15))), (8, .long (lN (vecU st (x7) v g k ||| ((v11) : Int).toNat * 2 ^ (8 * k)))), (11, .int (iI (v11))), (5, .long (lN v)), (7, .int (iI (x7))), (0, .ref (ad 0)), (1, .int (iI (a))), (2, .long (lN vec)), (4, .int (iI (g)))]) hx hb dX6_runs_113 hl (k := 2) rfl (by rw [ev15]; exact iI_add _ _) (by decide) rfl (fun ls hl => ?_)
                    refine lv_goto (tgt := 18) hx hb dX6_runs_116 (by decide) ?_
                    rw [show (lN (vecU st (x7) v g k ||| ((v11) : Int).toNat * 2 ^ (8 * k)) : Int64) = lN (vecU st x7 v g (k + 1)) from by (rw [vecU_s, show clipF (ansG st x7 v g k / 2 ^ (st 18 0 x7).toNat) = (v11) from by (rw [hsq]; unfold clipF; omega)])] at hl
                    rw [show (v15 : Int) = (((k + 1) : Nat) : Int) from by omega] at hl
                    exact ih18  (k + 1) _ _ _ (by omega) (by omega) hG (lv_sub hl [1, 0, 3, 4, 5, 6, 7, 8] rfl)
                  · skip
                    refine lv_sipush (v := iI (255)) hx hb dX6_runs_89 (by decide +kernel) ?_
                    refine lv_goto (tgt := 97) hx hb dX6_runs_92 (by decide) ?_
                    refine lv_istore (lv' := [(11, .int (iI (255))), (8, .long (lN (vecU st x7 v g k))), (10, .int (iI (((k : Nat) : Int)))), (5, .long (lN v)), (7, .int (iI (x7))), (0, .ref (ad 0)), (1, .int (iI (a))), (2, .long (lN vec)), (4, .int (iI (g)))]) hx hb dX6_runs_97 hl (by decide) rfl (fun ls hl => ?_)
                    refine lv_lload hx hb dX6_runs_99 (lv_at hl 1 rfl) ?_
                    refine lv_iload hx hb dX6_runs_101 (lv_at hl 0 rfl) ?_
                    refine lv_i2l (v := lN ((255) : Int).toNat) hx hb dX6_runs_103 (by exact vi2l (by omega) (by omega)) ?_
                    refine lv_bipush (v := iI (8)) hx hb dX6_runs_104 (by decide +kernel) ?_
                    refine lv_iload hx hb dX6_runs_106 (lv_at hl 2 rfl) ?_
                    refine r_imul hx hb dX6_runs_108 ?_
                    refine r_nm (fun v16 ev16 => ?_)
                    refine r_as (y := ((8 * k : Nat) : Int)) (by omega) ?_
                    refine lv_lshl (v := lN (((255) : Int).toNat * 2 ^ (8 * k))) hx hb dX6_runs_109 (by exact vlshl _ (by omega)) ?_
                    refine lv_lor hx hb dX6_runs_110 ?_
                    refine r_asL (y := lN (vecU st (x7) v g k ||| ((255) : Int).toNat * 2 ^ (8 * k))) (by exact vlor _ _) ?_
                    refine lv_lstore (lv' := [(8, .long (lN (vecU st (x7) v g k ||| ((255) : Int).toNat * 2 ^ (8 * k)))), (11, .int (iI (255))), (10, .int (iI (((k : Nat) : Int)))), (5, .long (lN v)), (7, .int (iI (x7))), (0, .ref (ad 0)), (1, .int (iI (a))), (2, .long (lN vec)), (4, .int (iI (g)))]) hx hb dX6_runs_111 hl (by decide) rfl (fun ls hl => ?_)
                    obtain ⟨v17, ev17⟩ : ∃ y9 : Int, y9 = ((k : Nat) : Int) + (1) := ⟨_, rfl⟩
                    refine lv_iinc (v := iI v17) (lv' := [(10, .int (iI (v17))), (8, .long (lN (vecU st (x7) v g k ||| ((255) : Int).toNat * 2 ^ (8 * k)))), (11, .int (iI (255))), (5, .long (lN v)), (7, .int (iI (x7))), (0, .ref (ad 0)), (1, .int (iI (a))), (2, .long (lN vec)), (4, .int (iI (g)))]) hx hb dX6_runs_113 hl (k := 2) rfl (by rw [ev17]; exact iI_add _ _) (by decide) rfl (fun ls hl => ?_)
                    refine lv_goto (tgt := 18) hx hb dX6_runs_116 (by decide) ?_
                    rw [show (lN (vecU st (x7) v g k ||| ((255) : Int).toNat * 2 ^ (8 * k)) : Int64) = lN (vecU st x7 v g (k + 1)) from by (rw [vecU_s, show clipF (ansG st x7 v g k / 2 ^ (st 18 0 x7).toNat) = (255) from by (rw [hsq]; unfold clipF; omega)])] at hl
                    rw [show (v17 : Int) = (((k + 1) : Nat) : Int) from by omega] at hl
                    exact ih18  (k + 1) _ _ _ (by omega) (by omega) hG (lv_sub hl [1, 0, 3, 4, 5, 6, 7, 8] rfl)
                · skip
                  refine lv_iconst (v := iI (0)) hx hb dX6_runs_77 rfl ?_
                  refine lv_goto (tgt := 97) hx hb dX6_runs_78 (by decide) ?_
                  refine lv_istore (lv' := [(11, .int (iI (0))), (8, .long (lN (vecU st x7 v g k))), (10, .int (iI (((k : Nat) : Int)))), (5, .long (lN v)), (7, .int (iI (x7))), (0, .ref (ad 0)), (1, .int (iI (a))), (2, .long (lN vec)), (4, .int (iI (g)))]) hx hb dX6_runs_97 hl (by decide) rfl (fun ls hl => ?_)
                  refine lv_lload hx hb dX6_runs_99 (lv_at hl 1 rfl) ?_
                  refine lv_iload hx hb dX6_runs_101 (lv_at hl 0 rfl) ?_
                  refine lv_i2l (v := lN ((0) : Int).toNat) hx hb dX6_runs_103 (by exact vi2l (by omega) (by omega)) ?_
                  refine lv_bipush (v := iI (8)) hx hb dX6_runs_104 (by decide +kernel) ?_
                  refine lv_iload hx hb dX6_runs_106 (lv_at hl 2 rfl) ?_
                  refine r_imul hx hb dX6_runs_108 ?_
                  refine r_nm (fun v18 ev18 => ?_)
                  refine r_as (y := ((8 * k : Nat) : Int)) (by omega) ?_
                  refine lv_lshl (v := lN (((0) : Int).toNat * 2 ^ (8 * k))) hx hb dX6_runs_109 (by exact vlshl _ (by omega)) ?_
                  refine lv_lor hx hb dX6_runs_110 ?_
                  refine r_asL (y := lN (vecU st (x7) v g k ||| ((0) : Int).toNat * 2 ^ (8 * k))) (by exact vlor _ _) ?_
                  refine lv_lstore (lv' := [(8, .long (lN (vecU st (x7) v g k ||| ((0) : Int).toNat * 2 ^ (8 * k)))), (11, .int (iI (0))), (10, .int (iI (((k : Nat) : Int)))), (5, .long (lN v)), (7, .int (iI (x7))), (0, .ref (ad 0)), (1, .int (iI (a))), (2, .long (lN vec)), (4, .int (iI (g)))]) hx hb dX6_runs_111 hl (by decide) rfl (fun ls hl => ?_)
                  obtain ⟨v19, ev19⟩ : ∃ y9 : Int, y9 = ((k : Nat) : Int) + (1) := ⟨_, rfl⟩
                  refine lv_iinc (v := iI v19) (lv' := [(10, .int (iI (v19))), (8, .long (lN (vecU st (x7) v g k ||| ((0) : Int).toNat * 2 ^ (8 * k)))), (11, .int (iI (0))), (5, .long (lN v)), (7, .int (iI (x7))), (0, .ref (ad 0)), (1, .int (iI (a))), (2, .long (lN vec)), (4, .int (iI (g)))]) hx hb dX6_runs_113 hl (k := 2) rfl (by rw [ev19]; exact iI_add _ _) (by decide) rfl (fun ls hl => ?_)
                  refine lv_goto (tgt := 18) hx hb dX6_runs_116 (by decide) ?_
                  rw [show (lN (vecU st (x7) v g k ||| ((0) : Int).toNat * 2 ^ (8 * k)) : Int64) = lN (vecU st x7 v g (k + 1)) from by (rw [vecU_s, show clipF (ansG st x7 v g k / 2 ^ (st 18 0 x7).toNat) = (0) from by (rw [hsq]; unfold clipF; omega)])] at hl
                  rw [show (v19 : Int) = (((k + 1) : Nat) : Int) from by omega] at hl
                  exact ih18  (k + 1) _ _ _ (by omega) (by omega) hG (lv_sub hl [1, 0, 3, 4, 5, 6, 7, 8] rfl)
              · skip
                refine lv_aload_n hx hb dX6_runs_35 rfl (lv_at hl 4 rfl) ?_
                refine lv_iload hx hb dX6_runs_36 (lv_at hl 3 rfl) ?_
                refine lv_lload hx hb dX6_runs_38 (lv_at hl 2 rfl) ?_
                refine lv_iload hx hb dX6_runs_40 (lv_at hl 1 rfl) ?_
                refine g_goi hG hA (va_runV (As := [.int (iI (x7)), .long (lN v), .int (iI (((k : Nat) : Int)))]) (rest := []) ⟨hx, hb, hml, hown, hts⟩ (mX6_idealOf l D cy ad n st _ fz wb hn hI (by omega) (x7) v (((k : Nat) : Int)) (by omega) (by omega) (by omega)) (cwV 3 hts gX6_runs_X6_idealOf rfl rfl rfl (by decide +kernel) ⟨Nat.le_of_ble_eq_true rfl, Nat.le_of_ble_eq_true rfl⟩) ⟨g_blind, va_recv hK hG.1 (q0 := 0) (ci := 6) rfl ((gw_at (by omega)).trans (by rw [gC_0 st ad cy])), g_pre hK hG hA hN hZ⟩ rfl rfl hl.1 rfl (lv_room (Nat.le_of_ble_eq_true rfl)) dX6_runs_42 ⟨Nat.zero_le _, Nat.zero_le _⟩) (fun r9 s9 H locs hp hG => ?_)
                obtain ⟨rfl, hs9⟩ := hp
                rw [hs9] at hG
                clear hs9
                refine r_nm (fun v20 ev20 => ?_)
                have hr21 := idU_b hI (x7) (((k : Nat) : Int)) v (st 15 0 (x7)).toNat
                rw [← ev20] at hr21
                refine lv_goto (tgt := 58) hx hb dX6_runs_45 (by decide) ?_
                refine lv_istore (lv' := [(11, .int (iI (v20))), (8, .long (lN (vecU st x7 v g k))), (10, .int (iI (((k : Nat) : Int)))), (5, .long (lN v)), (7, .int (iI (x7))), (0, .ref (ad 0)), (1, .int (iI (a))), (2, .long (lN vec)), (4, .int (iI (g)))]) hx hb dX6_runs_58 hl (by decide) rfl (fun ls hl => ?_)
                refine lv_iload hx hb dX6_runs_60 (lv_at hl 0 rfl) ?_
                refine lv_aload_n hx hb dX6_runs_62 rfl (lv_at hl 5 rfl) ?_
                refine g_get hx hb hts hin6 hown hK hG (key := 0) (by omega) (gC_0 st ad cy) rfl 18 (by decide) L_54 (fun _ h9 => h9) rfl dX6_runs_63 ?_
                refine lv_iload hx hb dX6_runs_66 (lv_at hl 4 rfl) ?_
                refine g_iald hx hb hK hG (14) (kd := 14) (o := 0) rfl rfl (by omega) (cp := 18) (ln := 6) rfl rfl (by omega) dX6_runs_68 ?_
                have hr22 := gI_18 hI (0) (x7)
                refine r_nm (fun v23 ev23 => ?_)
                rw [← ev23] at hr22
                refine r_as (y := ((((v23) : Int).toNat : Nat) : Int)) (by omega) ?_
                refine r_ishr hx hb (by omega) (by omega) dX6_runs_69 ?_
                refine r_nm (fun v24 ev24 => ?_)
                have hsq : ansG st x7 v g k / 2 ^ (st 18 0 x7).toNat = v24 := by unfold ansG; first | (rw [if_pos (by omega)]; subst_vars; rfl) | (rw [if_neg (by omega)]; subst_vars; rfl)
                have hqb := shrB (k := (st 18 0 x7).toNat) (ansG_b hI x7 v g k)
                rw [hsq] at hqb
                refine lv_istore (lv' := [(11, .int (iI (v24))), (8, .long (lN (vecU st x7 v g k))), (10, .int (iI (((k : Nat) : Int)))), (5, .long (lN v)), (7, .int (iI (x7))), (0, .ref (ad 0)), (1, .int (iI (a))), (2, .long (lN vec)), (4, .int (iI (g)))]) hx hb dX6_runs_70 hl (by decide) rfl (fun ls hl => ?_)
                refine lv_iload hx hb dX6_runs_72 (lv_at hl 0 rfl) ?_
                refine r_if_ge (tgt := 81) hx hb (by omega) dX6_runs_74 (by decide) (fun c25 => ?_) (fun c25 => ?_)
                · skip
                  refine lv_iload hx hb dX6_runs_81 (lv_at hl 0 rfl) ?_
                  refine lv_sipush (v := iI (255)) hx hb dX6_runs_83 (by decide +kernel) ?_
                  refine r_icmp_le (tgt := 95) hx hb (by omega) dX6_runs_86 (by decide) (fun c26 => ?_) (fun c26 => ?_)
                  · skip
                    refine lv_iload hx hb dX6_runs_95 (lv_at hl 0 rfl) ?_
                    refine lv_istore (lv' := [(11, .int (iI (v24))), (8, .long (lN (vecU st x7 v g k))), (10, .int (iI (((k : Nat) : Int)))), (5, .long (lN v)), (7, .int (iI (x7))), (0, .ref (ad 0)), (1, .int (iI (a))), (2, .long (lN vec)), (4, .int (iI (g)))]) hx hb dX6_runs_97 hl (by decide) rfl (fun ls hl => ?_)
                    refine lv_lload hx hb dX6_runs_99 (lv_at hl 1 rfl) ?_
                    refine lv_iload hx hb dX6_runs_101 (lv_at hl 0 rfl) ?_
                    refine lv_i2l (v := lN ((v24) : Int).toNat) hx hb dX6_runs_103 (by exact vi2l (by omega) (by omega)) ?_
                    refine lv_bipush (v := iI (8)) hx hb dX6_runs_104 (by decide +kernel) ?_
                    refine lv_iload hx hb dX6_runs_106 (lv_at hl 2 rfl) ?_
                    refine r_imul hx hb dX6_runs_108 ?_
                    refine r_nm (fun v27 ev27 => ?_)
                    refine r_as (y := ((8 * k : Nat) : Int)) (by omega) ?_
                    refine lv_lshl (v := lN (((v24) : Int).toNat * 2 ^ (8 * k))) hx hb dX6_runs_109 (by exact vlshl _ (by omega)) ?_
                    refine lv_lor hx hb dX6_runs_110 ?_
                    refine r_asL (y := lN (vecU st (x7) v g k ||| ((v24) : Int).toNat * 2 ^ (8 * k))) (by exact vlor _ _) ?_
                    refine lv_lstore (lv' := [(8, .long (lN (vecU st (x7) v g k ||| ((v24) : Int).toNat * 2 ^ (8 * k)))), (11, .int (iI (v24))), (10, .int (iI (((k : Nat) : Int)))), (5, .long (lN v)), (7, .int (iI (x7))), (0, .ref (ad 0)), (1, .int (iI (a))), (2, .long (lN vec)), (4, .int (iI (g)))]) hx hb dX6_runs_111 hl (by decide) rfl (fun ls hl => ?_)
                    obtain ⟨v28, ev28⟩ : ∃ y9 : Int, y9 = ((k : Nat) : Int) + (1) := ⟨_, rfl⟩
                    refine lv_iinc (v := iI v28) (lv' := [(10, .int (iI (v28))), (8, .long (lN (vecU st (x7) v g k ||| ((v24) : Int).toNat * 2 ^ (8 * k)))), (11, .int (iI (v24))), (5, .long (lN v)), (7, .int (iI (x7))), (0, .ref (ad 0)), (1, .int (iI (a))), (2, .long (lN vec)), (4, .int (iI (g)))]) hx hb dX6_runs_113 hl (k := 2) rfl (by rw [ev28]; exact iI_add _ _) (by decide) rfl (fun ls hl => ?_)
                    refine lv_goto (tgt := 18) hx hb dX6_runs_116 (by decide) ?_
                    rw [show (lN (vecU st (x7) v g k ||| ((v24) : Int).toNat * 2 ^ (8 * k)) : Int64) = lN (vecU st x7 v g (k + 1)) from by (rw [vecU_s, show clipF (ansG st x7 v g k / 2 ^ (st 18 0 x7).toNat) = (v24) from by (rw [hsq]; unfold clipF; omega)])] at hl
                    rw [show (v28 : Int) = (((k + 1) : Nat) : Int) from by omega] at hl
                    exact ih18  (k + 1) _ _ _ (by omega) (by omega) hG (lv_sub hl [1, 0, 3, 4, 5, 6, 7, 8] rfl)
                  · skip
                    refine lv_sipush (v := iI (255)) hx hb dX6_runs_89 (by decide +kernel) ?_
                    refine lv_goto (tgt := 97) hx hb dX6_runs_92 (by decide) ?_
                    refine lv_istore (lv' := [(11, .int (iI (255))), (8, .long (lN (vecU st x7 v g k))), (10, .int (iI (((k : Nat) : Int)))), (5, .long (lN v)), (7, .int (iI (x7))), (0, .ref (ad 0)), (1, .int (iI (a))), (2, .long (lN vec)), (4, .int (iI (g)))]) hx hb dX6_runs_97 hl (by decide) rfl (fun ls hl => ?_)
                    refine lv_lload hx hb dX6_runs_99 (lv_at hl 1 rfl) ?_
                    refine lv_iload hx hb dX6_runs_101 (lv_at hl 0 rfl) ?_
                    refine lv_i2l (v := lN ((255) : Int).toNat) hx hb dX6_runs_103 (by exact vi2l (by omega) (by omega)) ?_
                    refine lv_bipush (v := iI (8)) hx hb dX6_runs_104 (by decide +kernel) ?_
                    refine lv_iload hx hb dX6_runs_106 (lv_at hl 2 rfl) ?_
                    refine r_imul hx hb dX6_runs_108 ?_
                    refine r_nm (fun v29 ev29 => ?_)
                    refine r_as (y := ((8 * k : Nat) : Int)) (by omega) ?_
                    refine lv_lshl (v := lN (((255) : Int).toNat * 2 ^ (8 * k))) hx hb dX6_runs_109 (by exact vlshl _ (by omega)) ?_
                    refine lv_lor hx hb dX6_runs_110 ?_
                    refine r_asL (y := lN (vecU st (x7) v g k ||| ((255) : Int).toNat * 2 ^ (8 * k))) (by exact vlor _ _) ?_
                    refine lv_lstore (lv' := [(8, .long (lN (vecU st (x7) v g k ||| ((255) : Int).toNat * 2 ^ (8 * k)))), (11, .int (iI (255))), (10, .int (iI (((k : Nat) : Int)))), (5, .long (lN v)), (7, .int (iI (x7))), (0, .ref (ad 0)), (1, .int (iI (a))), (2, .long (lN vec)), (4, .int (iI (g)))]) hx hb dX6_runs_111 hl (by decide) rfl (fun ls hl => ?_)
                    obtain ⟨v30, ev30⟩ : ∃ y9 : Int, y9 = ((k : Nat) : Int) + (1) := ⟨_, rfl⟩
                    refine lv_iinc (v := iI v30) (lv' := [(10, .int (iI (v30))), (8, .long (lN (vecU st (x7) v g k ||| ((255) : Int).toNat * 2 ^ (8 * k)))), (11, .int (iI (255))), (5, .long (lN v)), (7, .int (iI (x7))), (0, .ref (ad 0)), (1, .int (iI (a))), (2, .long (lN vec)), (4, .int (iI (g)))]) hx hb dX6_runs_113 hl (k := 2) rfl (by rw [ev30]; exact iI_add _ _) (by decide) rfl (fun ls hl => ?_)
                    refine lv_goto (tgt := 18) hx hb dX6_runs_116 (by decide) ?_
                    rw [show (lN (vecU st (x7) v g k ||| ((255) : Int).toNat * 2 ^ (8 * k)) : Int64) = lN (vecU st x7 v g (k + 1)) from by (rw [vecU_s, show clipF (ansG st x7 v g k / 2 ^ (st 18 0 x7).toNat) = (255) from by (rw [hsq]; unfold clipF; omega)])] at hl
                    rw [show (v30 : Int) = (((k + 1) : Nat) : Int) from by omega] at hl
                    exact ih18  (k + 1) _ _ _ (by omega) (by omega) hG (lv_sub hl [1, 0, 3, 4, 5, 6, 7, 8] rfl)
                · skip
                  refine lv_iconst (v := iI (0)) hx hb dX6_runs_77 rfl ?_
                  refine lv_goto (tgt := 97) hx hb dX6_runs_78 (by decide) ?_
                  refine lv_istore (lv' := [(11, .int (iI (0))), (8, .long (lN (vecU st x7 v g k))), (10, .int (iI (((k : Nat) : Int)))), (5, .long (lN v)), (7, .int (iI (x7))), (0, .ref (ad 0)), (1, .int (iI (a))), (2, .long (lN vec)), (4, .int (iI (g)))]) hx hb dX6_runs_97 hl (by decide) rfl (fun ls hl => ?_)
                  refine lv_lload hx hb dX6_runs_99 (lv_at hl 1 rfl) ?_
                  refine lv_iload hx hb dX6_runs_101 (lv_at hl 0 rfl) ?_
                  refine lv_i2l (v := lN ((0) : Int).toNat) hx hb dX6_runs_103 (by exact vi2l (by omega) (by omega)) ?_
                  refine lv_bipush (v := iI (8)) hx hb dX6_runs_104 (by decide +kernel) ?_
                  refine lv_iload hx hb dX6_runs_106 (lv_at hl 2 rfl) ?_
                  refine r_imul hx hb dX6_runs_108 ?_
                  refine r_nm (fun v31 ev31 => ?_)
                  refine r_as (y := ((8 * k : Nat) : Int)) (by omega) ?_
                  refine lv_lshl (v := lN (((0) : Int).toNat * 2 ^ (8 * k))) hx hb dX6_runs_109 (by exact vlshl _ (by omega)) ?_
                  refine lv_lor hx hb dX6_runs_110 ?_
                  refine r_asL (y := lN (vecU st (x7) v g k ||| ((0) : Int).toNat * 2 ^ (8 * k))) (by exact vlor _ _) ?_
                  refine lv_lstore (lv' := [(8, .long (lN (vecU st (x7) v g k ||| ((0) : Int).toNat * 2 ^ (8 * k)))), (11, .int (iI (0))), (10, .int (iI (((k : Nat) : Int)))), (5, .long (lN v)), (7, .int (iI (x7))), (0, .ref (ad 0)), (1, .int (iI (a))), (2, .long (lN vec)), (4, .int (iI (g)))]) hx hb dX6_runs_111 hl (by decide) rfl (fun ls hl => ?_)
                  obtain ⟨v32, ev32⟩ : ∃ y9 : Int, y9 = ((k : Nat) : Int) + (1) := ⟨_, rfl⟩
                  refine lv_iinc (v := iI v32) (lv' := [(10, .int (iI (v32))), (8, .long (lN (vecU st (x7) v g k ||| ((0) : Int).toNat * 2 ^ (8 * k)))), (11, .int (iI (0))), (5, .long (lN v)), (7, .int (iI (x7))), (0, .ref (ad 0)), (1, .int (iI (a))), (2, .long (lN vec)), (4, .int (iI (g)))]) hx hb dX6_runs_113 hl (k := 2) rfl (by rw [ev32]; exact iI_add _ _) (by decide) rfl (fun ls hl => ?_)
                  refine lv_goto (tgt := 18) hx hb dX6_runs_116 (by decide) ?_
                  rw [show (lN (vecU st (x7) v g k ||| ((0) : Int).toNat * 2 ^ (8 * k)) : Int64) = lN (vecU st x7 v g (k + 1)) from by (rw [vecU_s, show clipF (ansG st x7 v g k / 2 ^ (st 18 0 x7).toNat) = (0) from by (rw [hsq]; unfold clipF; omega)])] at hl
                  rw [show (v32 : Int) = (((k + 1) : Nat) : Int) from by omega] at hl
                  exact ih18  (k + 1) _ _ _ (by omega) (by omega) hG (lv_sub hl [1, 0, 3, 4, 5, 6, 7, 8] rfl)
        exact hloop18 _  (0) _ _ _ (Nat.lt_succ_self _) (by omega) hG (lv_sub hl [1, 0, 2, 3, 4, 5, 6, 7] rfl)
  exact hloop6 _ (a) (vec) (6) _ _ _ (Nat.lt_succ_self _) (by exact hvec) (by omega) (by rfl) (by exact hpl) hG (lv_sub hl [1, 0, 2, 3, 4, 5] rfl)
set_option maxHeartbeats 400000 in
set_option maxRecDepth 100000 in
theorem mX6_runIdeal (l : Launch) (D : va_G) (cy : Nat → ClassId) (ad : Nat → Nat) (n : Nat) (st : St) (sz fz : Nat) (wb : Int) (hn : 75 ≤ n) (hI : GI wb st) (hW : wb ≤ 2000000) (a : Int) (vec : Nat) (ha : -2147483648 ≤ a ∧ a < 2147483648) (hvec : vec < 2 ^ 64) (hch : ∀ q : Int, 0 ≤ q → q < st 14 0 0 → st 19 0 q = -1 ∨ (q < st 19 0 q ∧ st 19 0 q < st 14 0 0)) (hsi : ∀ j : Int, st 6 0 j ≤ st 1 0 0) : Met l yX6_runIdeal wsX6_runIdeal ({ frames := 3, cells := 0, slots := 0, locals := 88 }) (va_Pc [.ref (ad 0), .int (iI (a)), .long (lN vec)] (gB D cy ad n st sz fz)) (va_Ql (fun (r : Int64) (st' : St) => r = lN (aRunI st a vec) ∧ st' = ust st 0 0 0 (kLay st a) ∧ GI wb st') (gP D cy ad n) (gA n ad sz)) 0 0 (gA n ad sz) := by
  refine Met.ofW (cc := cX6_runIdeal) (maxL := 4) (ret := (some .long)) (by decide) rfl ?_
  intro p e s m args below meth c s₁ B hml hv
  obtain ⟨rfl, hsz, hP, hK, hD0, hN, hZ⟩ := hv
  have hx := B.exec
  have hb := B.bytes
  have hr := B.returns
  have hts := atoms_spec (ws := wsX6_runIdeal) B.pre
  have hown : s.vm.findClass RX6 = some m.cls := findClass_of_methodNamed B.named
  have hlocks := B.notSynchronized
  subst hsz
  have hA : ∀ q : Nat, s.heap.size ≤ q → gA n ad s.heap.size q := fun q h => Or.inr h
  have hG : GH D cy ad n st (gA n ad s.heap.size) s.heap s.heap [] := ⟨hP, gw_A hD0, va_S.rf⟩
  have hl := lv_entry ([.ref (ad 0), .int (iI (a)), .long (lN vec)]) (n := 4) (Nat.le_of_ble_eq_true rfl)
  rw [lg_entry_eq]
  generalize (lg_sl ([.ref (ad 0), .int (iI (a)), .long (lN vec)]) ++ List.replicate (4 - (lg_sl ([.ref (ad 0), .int (iI (a)), .long (lN vec)])).length) Slot.unset).toArray = ls at hl ⊢
  have hl : lv_has ls 4 [(0, .ref (ad 0)), (1, .int (iI (a))), (2, .long (lN vec))] := hl
  have hin6 : ∀ w ∈ u_ws RX6 TX6 25, w ∈ wsX6_runIdeal := by decide +kernel
  have L_75 := hts (.fieldLink RX6 75 "CrossbarryModel" "thrown" "I") (by decide +kernel)
  have hmn := gI_14 hI 0 0
  refine lv_aload_n hx hb dX6_runIdeal_0 rfl (lv_at hl 0 rfl) ?_
  have hlab14 : ∀ (t : Int) (H : Heap) (locs : List Loc) (ls : Array Slot), (t = kLay st a) →  GH D cy ad n st (gA n ad s.heap.size) s.heap H locs → lv_has ls 4 [(0, .ref (ad 0)), (1, .int (iI (a))), (2, .long (lN vec))] → W p l e (headSpec wsX6_runIdeal { frames := 3, cells := 0, slots := 0, locals := 88 }).room s m (#[.ref (ad 0), .int (iI (a)), .long (lN vec)] : Array Value) below meth c H locs 0 0 (MQ below (va_Ql (fun (r : Int64) (st' : St) => r = lN (aRunI st a vec) ∧ st' = ust st 0 0 0 (kLay st a) ∧ GI wb st') (gP D cy ad n) (gA n ad s.heap.size)) (#[.ref (ad 0), .int (iI (a)), .long (lN vec)] : Array Value) s 0 0 (gA n ad s.heap.size)) (F0 m 14 ls [.int (iI (t)), .ref (ad 0)]) := by
    intro t H locs ls ht hG hl
    have hks := kLay_s st a
    refine g_put hx hb hts hin6 tyX6 tyX6_ok nmX6 hown hK hG (key := 0) (by omega) (gC_0 st ad cy) rfl 0 (by decide) L_75 (fun _ h9 => h9) rfl (ty := .int) (by decide +kernel) rfl rfl (Nat.le_of_ble_eq_true rfl) dX6_runIdeal_14 (ust st 0 0 0 (t)) (fun j _ => gU_0 st ad cy (t) j) (fun H locs hG => ?_)
    obtain ⟨st1, hst1⟩ : ∃ z : St, z = ust st 0 (0) (0) (t) := ⟨_, rfl⟩
    rw [← hst1] at hG
    replace hI := hst1 ▸ gIu_0 hI (0) (0) (v := t) (by omega)
    refine lv_aload_n hx hb dX6_runIdeal_17 rfl (lv_at hl 0 rfl) ?_
    refine g_get hx hb hts hin6 hown hK hG (key := 0) (by omega) (gC_0 st1 ad cy) rfl 0 (by decide) L_75 (fun _ h9 => h9) rfl dX6_runIdeal_18 ?_
    have hr2 := gI_0 hI (0) (0)
    have kq3 : st1 0 (0) (0) = t := by rw [hst1, ust_s]
    rw [kq3] at hr2
    refine r_as kq3 ?_
    clear kq3
    refine r_if_le (tgt := 28) hx hb (by omega) dX6_runIdeal_21 (by decide) (fun c4 => ?_) (fun c4 => ?_)
    · skip
      refine lv_aload_n hx hb dX6_runIdeal_28 rfl (lv_at hl 0 rfl) ?_
      refine lv_iload_n hx hb dX6_runIdeal_29 rfl (lv_at hl 1 rfl) ?_
      refine lv_lload_n hx hb dX6_runIdeal_30 rfl (lv_at hl 2 rfl) ?_
      refine lv_iconst (v := iI (1)) hx hb dX6_runIdeal_31 rfl ?_
      refine g_gol hG hA (va_runV (As := [.int (iI (a)), .long (lN vec), .int (iI (1))]) (rest := []) ⟨hx, hb, hml, hown, hts⟩ (mX6_runs l D cy ad n st1 _ fz wb hn hI (by omega) (a) vec (1) (by rw [hst1, ust_c (by decide)]; omega) (by omega) (by omega) (fun q h1 h2 => by rw [hst1, ust_c (by decide), ust_c (by decide)]; exact hch q h1 (by rw [hst1, ust_c (by decide)] at h2; exact h2)) (fun j => by rw [hst1, ust_c (by decide), ust_c (by decide)]; exact hsi j) (fun q => absurd q (by decide))) (cwV 3 hts gX6_runIdeal_X6_runs rfl rfl rfl (by decide +kernel) ⟨Nat.le_of_ble_eq_true rfl, Nat.le_of_ble_eq_true rfl⟩) ⟨g_blind, va_recv hK hG.1 (q0 := 0) (ci := 6) rfl ((gw_at (by omega)).trans (by rw [gC_0 st1 ad cy])), g_pre hK hG hA hN hZ⟩ rfl rfl hl.1 rfl (lv_room (Nat.le_of_ble_eq_true rfl)) dX6_runIdeal_32 ⟨Nat.zero_le _, Nat.zero_le _⟩) (fun r9 s9 H locs hp hG => ?_)
      obtain ⟨rfl, hs9⟩ := hp
      rw [hs9] at hG
      clear hs9
      exact g_lret hx hb hr hlocks hG (by
        refine ⟨?_, by rw [← ht]; assumption, hI⟩
        unfold aRunI
        first
          | (rw [if_neg (by omega)]; rfl)
          | (rw [if_pos (by omega)]; subst_vars; rw [runC_0])) dX6_runIdeal_35
    · skip
      refine lv_lconst (v := 0) hx hb dX6_runIdeal_24 rfl ?_
      refine lv_goto (tgt := 35) hx hb dX6_runIdeal_25 (by decide) ?_
      exact g_lret hx hb hr hlocks hG (by
        refine ⟨?_, by rw [← ht]; assumption, hI⟩
        unfold aRunI
        first
          | (rw [if_neg (by omega)]; rfl)
          | (rw [if_pos (by omega)]; subst_vars; rw [runC_0])) dX6_runIdeal_35
  refine lv_aload_n hx hb dX6_runIdeal_1 rfl (lv_at hl 0 rfl) ?_
  refine lv_iload_n hx hb dX6_runIdeal_2 rfl (lv_at hl 1 rfl) ?_
  refine g_goi hG hA (va_runV (As := [.int (iI (a))]) (rest := [.ref (ad 0)]) ⟨hx, hb, hml, hown, hts⟩ (mX6_isLayer l D cy ad n st _ fz wb hn hI (by omega) (a) (by omega)) (cwV 1 hts gX6_runIdeal_X6_isLayer rfl rfl rfl (by decide +kernel) ⟨Nat.le_of_ble_eq_true rfl, Nat.le_of_ble_eq_true rfl⟩) ⟨g_blind, va_recv hK hG.1 (q0 := 0) (ci := 6) rfl ((gw_at (by omega)).trans (by rw [gC_0 st ad cy])), g_pre hK hG hA hN hZ⟩ rfl rfl hl.1 rfl (lv_room (Nat.le_of_ble_eq_true rfl)) dX6_runIdeal_3 ⟨Nat.zero_le _, Nat.zero_le _⟩) (fun r9 s9 H locs hp hG => ?_)
  obtain ⟨rfl, hs9⟩ := hp
  rw [hs9] at hG
  clear hs9
  refine r_nm (fun v5 ev5 => ?_)
  have hr6 := inF_s (a) 0 (st 14 0 0 - 1)
  rw [← ev5] at hr6
  refine r_if_eq (tgt := 13) hx hb (by omega) dX6_runIdeal_6 (by decide) (fun c7 => ?_) (fun c7 => ?_)
  · skip
    refine lv_iconst (v := iI (1)) hx hb dX6_runIdeal_13 rfl ?_
    exact hlab14 (1)  _ _ _ (by have hks := kLay_s st a; omega) hG (lv_sub hl [0, 1, 2] rfl)
  · skip
    refine lv_iconst (v := iI (0)) hx hb dX6_runIdeal_9 rfl ?_
    refine lv_goto (tgt := 14) hx hb dX6_runIdeal_10 (by decide) ?_
    exact hlab14 (0)  _ _ _ (by have hks := kLay_s st a; omega) hG (lv_sub hl [0, 1, 2] rfl)
set_option maxHeartbeats 400000 in
set_option maxRecDepth 100000 in
theorem mX6_run (l : Launch) (D : va_G) (cy : Nat → ClassId) (ad : Nat → Nat) (n : Nat) (st : St) (sz fz : Nat) (wb : Int) (hn : 75 ≤ n) (hI : GI wb st) (hW : wb ≤ 2000000) (a : Int) (vec : Nat) (ha : -2147483648 ≤ a ∧ a < 2147483648) (hvec : vec < 2 ^ 64) (hch : ∀ q : Int, 0 ≤ q → q < st 14 0 0 → st 19 0 q = -1 ∨ (q < st 19 0 q ∧ st 19 0 q < st 14 0 0)) (hsi : ∀ j : Int, st 6 0 j ≤ st 1 0 0) : Met l yX6_run wsX6_run ({ frames := 3, cells := 0, slots := 0, locals := 88 }) (va_Pc [.ref (ad 0), .int (iI (a)), .long (lN vec)] (gB D cy ad n st sz fz)) (va_Ql (fun (r : Int64) (st' : St) => r = lN (aRun st a vec) ∧ st' = ust st 0 0 0 (kRun st a) ∧ GI wb st') (gP D cy ad n) (gA n ad sz)) 0 0 (gA n ad sz) := by
  refine Met.ofW (cc := cX6_run) (maxL := 4) (ret := (some .long)) (by decide) rfl ?_
  intro p e s m args below meth c s₁ B hml hv
  obtain ⟨rfl, hsz, hP, hK, hD0, hN, hZ⟩ := hv
  have hx := B.exec
  have hb := B.bytes
  have hr := B.returns
  have hts := atoms_spec (ws := wsX6_run) B.pre
  have hown : s.vm.findClass RX6 = some m.cls := findClass_of_methodNamed B.named
  have hlocks := B.notSynchronized
  subst hsz
  have hA : ∀ q : Nat, s.heap.size ≤ q → gA n ad s.heap.size q := fun q h => Or.inr h
  have hG : GH D cy ad n st (gA n ad s.heap.size) s.heap s.heap [] := ⟨hP, gw_A hD0, va_S.rf⟩
  have hl := lv_entry ([.ref (ad 0), .int (iI (a)), .long (lN vec)]) (n := 4) (Nat.le_of_ble_eq_true rfl)
  rw [lg_entry_eq]
  generalize (lg_sl ([.ref (ad 0), .int (iI (a)), .long (lN vec)]) ++ List.replicate (4 - (lg_sl ([.ref (ad 0), .int (iI (a)), .long (lN vec)])).length) Slot.unset).toArray = ls at hl ⊢
  have hl : lv_has ls 4 [(0, .ref (ad 0)), (1, .int (iI (a))), (2, .long (lN vec))] := hl
  have hin6 : ∀ w ∈ u_ws RX6 TX6 25, w ∈ wsX6_run := by decide +kernel
  have L_75 := hts (.fieldLink RX6 75 "CrossbarryModel" "thrown" "I") (by decide +kernel)
  have hmn := gI_14 hI 0 0
  have hcr9 := chP_r st 6 a
  refine lv_aload_n hx hb dX6_run_0 rfl (lv_at hl 0 rfl) ?_
  have hlab26 : ∀ (t : Int) (H : Heap) (locs : List Loc) (ls : Array Slot), (t = kRun st a) →  GH D cy ad n st (gA n ad s.heap.size) s.heap H locs → lv_has ls 4 [(0, .ref (ad 0)), (1, .int (iI (a))), (2, .long (lN vec))] → W p l e (headSpec wsX6_run { frames := 3, cells := 0, slots := 0, locals := 88 }).room s m (#[.ref (ad 0), .int (iI (a)), .long (lN vec)] : Array Value) below meth c H locs 0 0 (MQ below (va_Ql (fun (r : Int64) (st' : St) => r = lN (aRun st a vec) ∧ st' = ust st 0 0 0 (kRun st a) ∧ GI wb st') (gP D cy ad n) (gA n ad s.heap.size)) (#[.ref (ad 0), .int (iI (a)), .long (lN vec)] : Array Value) s 0 0 (gA n ad s.heap.size)) (F0 m 26 ls [.int (iI (t)), .ref (ad 0)]) := by
    intro t H locs ls ht hG hl
    have hks := kRun_s st a
    refine g_put hx hb hts hin6 tyX6 tyX6_ok nmX6 hown hK hG (key := 0) (by omega) (gC_0 st ad cy) rfl 0 (by decide) L_75 (fun _ h9 => h9) rfl (ty := .int) (by decide +kernel) rfl rfl (Nat.le_of_ble_eq_true rfl) dX6_run_26 (ust st 0 0 0 (t)) (fun j _ => gU_0 st ad cy (t) j) (fun H locs hG => ?_)
    obtain ⟨st1, hst1⟩ : ∃ z : St, z = ust st 0 (0) (0) (t) := ⟨_, rfl⟩
    rw [← hst1] at hG
    replace hI := hst1 ▸ gIu_0 hI (0) (0) (v := t) (by omega)
    refine lv_aload_n hx hb dX6_run_29 rfl (lv_at hl 0 rfl) ?_
    refine g_get hx hb hts hin6 hown hK hG (key := 0) (by omega) (gC_0 st1 ad cy) rfl 0 (by decide) L_75 (fun _ h9 => h9) rfl dX6_run_30 ?_
    have hr2 := gI_0 hI (0) (0)
    have kq3 : st1 0 (0) (0) = t := by rw [hst1, ust_s]
    rw [kq3] at hr2
    refine r_as kq3 ?_
    clear kq3
    refine r_if_le (tgt := 40) hx hb (by omega) dX6_run_33 (by decide) (fun c4 => ?_) (fun c4 => ?_)
    · skip
      refine lv_aload_n hx hb dX6_run_40 rfl (lv_at hl 0 rfl) ?_
      refine lv_iload_n hx hb dX6_run_41 rfl (lv_at hl 1 rfl) ?_
      refine lv_lload_n hx hb dX6_run_42 rfl (lv_at hl 2 rfl) ?_
      refine lv_iconst (v := iI (0)) hx hb dX6_run_43 rfl ?_
      refine g_gol hG hA (va_runV (As := [.int (iI (a)), .long (lN vec), .int (iI (0))]) (rest := []) ⟨hx, hb, hml, hown, hts⟩ (mX6_runs l D cy ad n st1 _ fz wb hn hI (by omega) (a) vec (0) (by rw [hst1, ust_c (by decide)]; omega) (by omega) (by omega) (fun q h1 h2 => by rw [hst1, ust_c (by decide), ust_c (by decide)]; exact hch q h1 (by rw [hst1, ust_c (by decide)] at h2; exact h2)) (fun j => by rw [hst1, ust_c (by decide), ust_c (by decide)]; exact hsi j) (fun _ => by rw [hst1, chP_0]; omega)) (cwV 3 hts gX6_run_X6_runs rfl rfl rfl (by decide +kernel) ⟨Nat.le_of_ble_eq_true rfl, Nat.le_of_ble_eq_true rfl⟩) ⟨g_blind, va_recv hK hG.1 (q0 := 0) (ci := 6) rfl ((gw_at (by omega)).trans (by rw [gC_0 st1 ad cy])), g_pre hK hG hA hN hZ⟩ rfl rfl hl.1 rfl (lv_room (Nat.le_of_ble_eq_true rfl)) dX6_run_44 ⟨Nat.zero_le _, Nat.zero_le _⟩) (fun r9 s9 H locs hp hG => ?_)
      obtain ⟨rfl, hs9⟩ := hp
      rw [hs9] at hG
      clear hs9
      exact g_lret hx hb hr hlocks hG (by
        refine ⟨?_, by rw [← ht]; assumption, hI⟩
        unfold aRun
        first
          | (rw [if_neg (by omega)]; rfl)
          | (rw [if_pos (by omega)]; subst_vars; rw [runC_0])) dX6_run_47
    · skip
      refine lv_lconst (v := 0) hx hb dX6_run_36 rfl ?_
      refine lv_goto (tgt := 47) hx hb dX6_run_37 (by decide) ?_
      exact g_lret hx hb hr hlocks hG (by
        refine ⟨?_, by rw [← ht]; assumption, hI⟩
        unfold aRun
        first
          | (rw [if_neg (by omega)]; rfl)
          | (rw [if_pos (by omega)]; subst_vars; rw [runC_0])) dX6_run_47
  refine lv_aload_n hx hb dX6_run_1 rfl (lv_at hl 0 rfl) ?_
  refine lv_iload_n hx hb dX6_run_2 rfl (lv_at hl 1 rfl) ?_
  refine g_goi hG hA (va_runV (As := [.int (iI (a))]) (rest := [.ref (ad 0)]) ⟨hx, hb, hml, hown, hts⟩ (mX6_isLayer l D cy ad n st _ fz wb hn hI (by omega) (a) (by omega)) (cwV 1 hts gX6_run_X6_isLayer rfl rfl rfl (by decide +kernel) ⟨Nat.le_of_ble_eq_true rfl, Nat.le_of_ble_eq_true rfl⟩) ⟨g_blind, va_recv hK hG.1 (q0 := 0) (ci := 6) rfl ((gw_at (by omega)).trans (by rw [gC_0 st ad cy])), g_pre hK hG hA hN hZ⟩ rfl rfl hl.1 rfl (lv_room (Nat.le_of_ble_eq_true rfl)) dX6_run_3 ⟨Nat.zero_le _, Nat.zero_le _⟩) (fun r9 s9 H locs hp hG => ?_)
  obtain ⟨rfl, hs9⟩ := hp
  rw [hs9] at hG
  clear hs9
  refine r_nm (fun v5 ev5 => ?_)
  have hr6 := inF_s (a) 0 (st 14 0 0 - 1)
  rw [← ev5] at hr6
  refine r_if_ne (tgt := 13) hx hb (by omega) dX6_run_6 (by decide) (fun c7 => ?_) (fun c7 => ?_)
  · skip
    refine lv_aload_n hx hb dX6_run_13 rfl (lv_at hl 0 rfl) ?_
    refine lv_iload_n hx hb dX6_run_14 rfl (lv_at hl 1 rfl) ?_
    refine g_goi hG hA (va_runV (As := [.int (iI (a))]) (rest := [.ref (ad 0)]) ⟨hx, hb, hml, hown, hts⟩ (mX6_isChainPlaced l D cy ad n st _ fz wb hn hI (by omega) (a) (by omega) (by omega)) (cwV 1 hts gX6_run_X6_isChainPlaced rfl rfl rfl (by decide +kernel) ⟨Nat.le_of_ble_eq_true rfl, Nat.le_of_ble_eq_true rfl⟩) ⟨g_blind, va_recv hK hG.1 (q0 := 0) (ci := 6) rfl ((gw_at (by omega)).trans (by rw [gC_0 st ad cy])), g_pre hK hG hA hN hZ⟩ rfl rfl hl.1 rfl (lv_room (Nat.le_of_ble_eq_true rfl)) dX6_run_15 ⟨Nat.zero_le _, Nat.zero_le _⟩) (fun r9 s9 H locs hp hG => ?_)
    obtain ⟨rfl, hs9⟩ := hp
    rw [hs9] at hG
    clear hs9
    refine r_nm (fun v8 ev8 => ?_)
    have hr9 := chP_r st 6 (a)
    rw [← ev8] at hr9
    refine r_if_eq (tgt := 25) hx hb (by omega) dX6_run_18 (by decide) (fun c10 => ?_) (fun c10 => ?_)
    · skip
      refine lv_iconst (v := iI (2)) hx hb dX6_run_25 rfl ?_
      exact hlab26 (2)  _ _ _ (by have hks := kRun_s st a; omega) hG (lv_sub hl [0, 1, 2] rfl)
    · skip
      refine lv_iconst (v := iI (0)) hx hb dX6_run_21 rfl ?_
      refine lv_goto (tgt := 26) hx hb dX6_run_22 (by decide) ?_
      exact hlab26 (0)  _ _ _ (by have hks := kRun_s st a; omega) hG (lv_sub hl [0, 1, 2] rfl)
  · skip
    refine lv_iconst (v := iI (1)) hx hb dX6_run_9 rfl ?_
    refine lv_goto (tgt := 26) hx hb dX6_run_10 (by decide) ?_
    exact hlab26 (1)  _ _ _ (by have hks := kRun_s st a; omega) hG (lv_sub hl [0, 1, 2] rfl)
