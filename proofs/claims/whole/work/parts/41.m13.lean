set_option maxHeartbeats 400000 in
set_option maxRecDepth 100000 in
theorem mX6_finds (l : Launch) (D : va_G) (cy : Nat → ClassId) (ad : Nat → Nat) (n : Nat) (st : St) (sz fz : Nat) (wb : Int) (hn : 75 ≤ n) (hI : GI wb st) (hW : wb ≤ 2000000) (a : Int) (t0 : Int) (ha : 0 ≤ a ∧ a < 6) (ht : 0 ≤ t0 ∧ t0 < 6) : Met l yX6_finds wsX6_finds ({ frames := 3, cells := 0, slots := 0, locals := 77 }) (va_Pc [.ref (ad 0), .int (iI (a)), .int (iI (t0))] (gB D cy ad n st sz fz)) (va_Qi (fun (r : Int32) (st' : St) => r = iI (dpV (cst st a t0) (st 15 0 a).toNat 0) ∧ st' = setF st (cfX st a t0 (8 * (st 15 0 a).toNat)) (ffX (cst st a t0) (st 15 0 a).toNat (st 23 0) 0) ∧ GI wb st') (gP D cy ad n) (gA n ad sz)) 0 0 (gA n ad sz) := by
  refine Met.ofW (cc := cX6_finds) (maxL := 7) (ret := (some .int)) (by decide) rfl ?_
  intro p e s m args below meth c s₁ B hml hv
  obtain ⟨rfl, hsz, hP, hK, hD0, hN, hZ⟩ := hv
  have hx := B.exec
  have hb := B.bytes
  have hr := B.returns
  have hts := atoms_spec (ws := wsX6_finds) B.pre
  have hown : s.vm.findClass RX6 = some m.cls := findClass_of_methodNamed B.named
  have hlocks := B.notSynchronized
  subst hsz
  have hA : ∀ q : Nat, s.heap.size ≤ q → gA n ad s.heap.size q := fun q h => Or.inr h
  have hG : GH D cy ad n st (gA n ad s.heap.size) s.heap s.heap [] := ⟨hP, gw_A hD0, va_S.rf⟩
  have hl := lv_entry ([.ref (ad 0), .int (iI (a)), .int (iI (t0))]) (n := 7) (Nat.le_of_ble_eq_true rfl)
  rw [lg_entry_eq]
  generalize (lg_sl ([.ref (ad 0), .int (iI (a)), .int (iI (t0))]) ++ List.replicate (7 - (lg_sl ([.ref (ad 0), .int (iI (a)), .int (iI (t0))])).length) Slot.unset).toArray = ls at hl ⊢
  have hl : lv_has ls 7 [(0, .ref (ad 0)), (1, .int (iI (a))), (2, .int (iI (t0)))] := hl
  have hin6 : ∀ w ∈ u_ws RX6 TX6 25, w ∈ wsX6_finds := by decide +kernel
  have L_45 := hts (.fieldLink RX6 45 "CrossbarryModel" "inputs" "[I") (by decide +kernel)
  have L_66 := hts (.fieldLink RX6 66 "CrossbarryModel" "costs" "[I") (by decide +kernel)
  have L_69 := hts (.fieldLink RX6 69 "CrossbarryModel" "fewest" "[I") (by decide +kernel)
  have hin := gI_15 hI 0 a
  have hcr0 : ∀ p q, 0 ≤ cst st a t0 p q ∧ cst st a t0 p q ≤ 16 := cst_r hI a t0
  refine lv_iconst (v := iI (0)) hx hb dX6_finds_0 rfl ?_
  refine lv_istore_n (lv' := [(3, .int (iI (0))), (0, .ref (ad 0)), (1, .int (iI (a))), (2, .int (iI (t0)))]) hx hb dX6_finds_1 rfl hl (by decide) rfl (fun ls hl => ?_)
  have hloop2 : ∀ (N : Nat)  (i : Nat) (sta : St) (H : Heap) (locs : List Loc) (ls : Array Slot), 9 - i < N → ((i : Int) ≤ st 15 0 a) → (sta = setF st (cfX st a t0 (8 * i)) (st 23 0)) → GI wb sta → GH D cy ad n sta (gA n ad s.heap.size) s.heap H locs → lv_has ls 7 [(3, .int (iI (((i : Nat) : Int)))), (0, .ref (ad 0)), (1, .int (iI (a))), (2, .int (iI (t0)))] → W p l e (headSpec wsX6_finds { frames := 3, cells := 0, slots := 0, locals := 77 }).room s m (#[.ref (ad 0), .int (iI (a)), .int (iI (t0))] : Array Value) below meth c H locs 0 0 (MQ below (va_Qi (fun (r : Int32) (st' : St) => r = iI (dpV (cst st a t0) (st 15 0 a).toNat 0) ∧ st' = setF st (cfX st a t0 (8 * (st 15 0 a).toNat)) (ffX (cst st a t0) (st 15 0 a).toNat (st 23 0) 0) ∧ GI wb st') (gP D cy ad n) (gA n ad s.heap.size)) (#[.ref (ad 0), .int (iI (a)), .int (iI (t0))] : Array Value) s 0 0 (gA n ad s.heap.size)) (F0 m 2 ls []) := by
    intro N
    induction N with
    | zero => intro  i sta H locs ls hm; exact absurd hm (Nat.not_lt_zero _)
    | succ N ih2 =>
      intro  i sta H locs ls hm hi hsta hI hG hl
      have hfa : ∀ c o i, (c < 22 ∨ 23 < c) → sta c o i = st c o i := fun c o i h => by rw [hsta]; exact setF_c _ _ _ h
      refine lv_iload_n hx hb dX6_finds_2 rfl (lv_at hl 0 rfl) ?_
      refine lv_aload_n hx hb dX6_finds_3 rfl (lv_at hl 1 rfl) ?_
      refine g_get hx hb hts hin6 hown hK hG (key := 0) (by omega) (gC_0 sta ad cy) rfl 15 (by decide) L_45 (fun _ h9 => h9) rfl dX6_finds_4 ?_
      refine lv_iload_n hx hb dX6_finds_7 rfl (lv_at hl 2 rfl) ?_
      refine g_iald hx hb hK hG (11) (kd := 11) (o := 0) rfl rfl (by omega) (cp := 15) (ln := 6) rfl rfl (by omega) dX6_finds_8 ?_
      have hr1 := gI_15 hI (0) (a)
      have kq2 : sta 15 (0) (a) = st 15 (0) (a) := by rw [hfa _ _ _ (by decide)]
      rw [kq2] at hr1
      refine r_as kq2 ?_
      clear kq2
      refine r_nm (fun v3 ev3 => ?_)
      rw [← ev3] at hr1
      refine r_icmp_ge (tgt := 55) hx hb (by omega) dX6_finds_9 (by decide) (fun c4 => ?_) (fun c4 => ?_)
      · skip
        refine lv_sipush (v := iI (255)) hx hb dX6_finds_55 (by decide +kernel) ?_
        refine lv_istore_n (lv' := [(3, .int (iI (255))), (0, .ref (ad 0)), (1, .int (iI (a))), (2, .int (iI (t0)))]) hx hb dX6_finds_58 rfl hl (by decide) rfl (fun ls hl => ?_)
        have hloop59 : ∀ (N : Nat) (x3 : Int) (mm : Nat) (stc : St) (H : Heap) (locs : List Loc) (ls : Array Slot), mm < N → (mm ≤ 256) → (x3 = (mm : Int) - 1) → (stc = setF st (cfX st a t0 (8 * i)) (ffX (cst st a t0) i (st 23 0) mm)) → GI wb stc → GH D cy ad n stc (gA n ad s.heap.size) s.heap H locs → lv_has ls 7 [(3, .int (iI (x3))), (0, .ref (ad 0)), (1, .int (iI (a))), (2, .int (iI (t0)))] → W p l e (headSpec wsX6_finds { frames := 3, cells := 0, slots := 0, locals := 77 }).room s m (#[.ref (ad 0), .int (iI (a)), .int (iI (t0))] : Array Value) below meth c H locs 0 0 (MQ below (va_Qi (fun (r : Int32) (st' : St) => r = iI (dpV (cst st a t0) (st 15 0 a).toNat 0) ∧ st' = setF st (cfX st a t0 (8 * (st 15 0 a).toNat)) (ffX (cst st a t0) (st 15 0 a).toNat (st 23 0) 0) ∧ GI wb st') (gP D cy ad n) (gA n ad s.heap.size)) (#[.ref (ad 0), .int (iI (a)), .int (iI (t0))] : Array Value) s 0 0 (gA n ad s.heap.size)) (F0 m 59 ls []) := by
          intro N
          induction N with
          | zero => intro x3 mm stc H locs ls hm; exact absurd hm (Nat.not_lt_zero _)
          | succ N ih59 =>
            intro x3 mm stc H locs ls hm hm9 hx3 hstc hI hG hl
            have hfc : ∀ c o i, (c < 22 ∨ 23 < c) → stc c o i = st c o i := fun c o i h => by rw [hstc]; exact setF_c _ _ _ h
            refine lv_iload_n hx hb dX6_finds_59 rfl (lv_at hl 0 rfl) ?_
            refine r_if_lt (tgt := 197) hx hb (by omega) dX6_finds_60 (by decide) (fun c5 => ?_) (fun c5 => ?_)
            · skip
              refine lv_aload_n hx hb dX6_finds_197 rfl (lv_at hl 1 rfl) ?_
              refine g_get hx hb hts hin6 hown hK hG (key := 0) (by omega) (gC_0 stc ad cy) rfl 23 (by decide) L_69 (fun _ h9 => h9) rfl dX6_finds_198 ?_
              refine lv_iconst (v := iI (0)) hx hb dX6_finds_201 rfl ?_
              refine g_iald hx hb hK hG (19) (kd := 19) (o := 0) rfl rfl (by omega) (cp := 23) (ln := 256) rfl rfl (by omega) dX6_finds_202 ?_
              have hr6 := gI_23 hI (0) (0)
              refine r_nm (fun v7 ev7 => ?_)
              rw [← ev7] at hr6
              have hz0 : v7 = dpV (cst st a t0) i 0 := by rw [ev7, hstc, setF_23, show mm = 0 by omega]; exact ffX_v (m := 0) (S := 0) (by omega) (by omega)
              exact g_iret hx hb hr hlocks hG (by
                have hni : (st 15 0 a).toNat = i := by omega
                have hm0 : mm = 0 := by omega
                subst hm0
                rw [hni]
                exact ⟨by rw [← hz0], hstc, hI⟩) dX6_finds_203
            · skip
              obtain ⟨S, rfl⟩ : ∃ S : Nat, mm = S + 1 := ⟨mm - 1, by omega⟩
              have hx3S : x3 = ((S : Nat) : Int) := by omega
              refine lv_iload_n hx hb dX6_finds_63 rfl (lv_at hl 0 rfl) ?_
              refine r_as (y := ((S : Nat) : Int)) (by omega) ?_
              refine g_goi hG hA (va_runS (As := [.int (iI (((S : Nat) : Int)))]) (rest := []) ⟨hx, hb, hml, hown, hts⟩ (mX6_ones l D cy ad n stc _ fz wb hn hI (by omega) (S) (by omega)) (va_cwS 1 hts gX6_finds_X6_ones rfl rfl rfl (by decide +kernel) ⟨Nat.le_of_ble_eq_true rfl, Nat.le_of_ble_eq_true rfl⟩) ⟨g_blind, g_pre hK hG hA hN hZ⟩ rfl rfl hl.1 rfl (lv_room (Nat.le_of_ble_eq_true rfl)) dX6_finds_64 ⟨Nat.zero_le _, Nat.zero_le _⟩) (fun r9 s9 H locs hp hG => ?_)
              obtain ⟨rfl, hs9⟩ := hp
              rw [hs9] at hG
              clear hs9
              refine r_nm (fun v8 ev8 => ?_)
              have hr9 := onesI (S)
              rw [← ev8] at hr9
              refine lv_istore (lv' := [(4, .int (iI (v8))), (3, .int (iI (x3))), (0, .ref (ad 0)), (1, .int (iI (a))), (2, .int (iI (t0)))]) hx hb dX6_finds_67 hl (by decide) rfl (fun ls hl => ?_)
              refine lv_aload_n hx hb dX6_finds_69 rfl (lv_at hl 2 rfl) ?_
              refine g_get hx hb hts hin6 hown hK hG (key := 0) (by omega) (gC_0 stc ad cy) rfl 23 (by decide) L_69 (fun _ h9 => h9) rfl dX6_finds_70 ?_
              refine lv_iload_n hx hb dX6_finds_73 rfl (lv_at hl 1 rfl) ?_
              refine lv_iload hx hb dX6_finds_74 (lv_at hl 0 rfl) ?_
              have hlab92 : ∀ (q : Int) (H : Heap) (locs : List Loc) (ls : Array Slot), ((((onesU S 8 : Nat) : Int) < st 15 0 a ∧ q = 1000) ∨ (¬ ((onesU S 8 : Nat) : Int) < st 15 0 a ∧ q = 0)) →  GH D cy ad n stc (gA n ad s.heap.size) s.heap H locs → lv_has ls 7 [(4, .int (iI (v8))), (3, .int (iI (x3))), (0, .ref (ad 0)), (1, .int (iI (a))), (2, .int (iI (t0)))] → W p l e (headSpec wsX6_finds { frames := 3, cells := 0, slots := 0, locals := 77 }).room s m (#[.ref (ad 0), .int (iI (a)), .int (iI (t0))] : Array Value) below meth c H locs 0 0 (MQ below (va_Qi (fun (r : Int32) (st' : St) => r = iI (dpV (cst st a t0) (st 15 0 a).toNat 0) ∧ st' = setF st (cfX st a t0 (8 * (st 15 0 a).toNat)) (ffX (cst st a t0) (st 15 0 a).toNat (st 23 0) 0) ∧ GI wb st') (gP D cy ad n) (gA n ad s.heap.size)) (#[.ref (ad 0), .int (iI (a)), .int (iI (t0))] : Array Value) s 0 0 (gA n ad s.heap.size)) (F0 m 92 ls [.int (iI (q)), .int (iI (x3)), .ref (ad 19)]) := by
                intro q H locs ls hq hG hl
                have hq0 : q = curX (cst st a t0) i S 0 := by
                  rw [curX_0]
                  by_cases h : i ≤ onesU S 8
                  · rw [if_pos h]; omega
                  · rw [if_neg h]; omega
                refine g_iast hx hb hK hG (19) (kd := 19) (o := 0) rfl rfl (by omega) (cp := 23) (ln := 256) rfl rfl (by omega) dX6_finds_92 (fun H locs hG => ?_)
                obtain ⟨st10, hst10⟩ : ∃ z : St, z = ust stc 23 (0) (x3) (q) := ⟨_, rfl⟩
                rw [← hst10] at hG
                replace hI := hst10 ▸ gIu_23 hI (0) (x3) (v := q) (by omega)
                refine lv_iconst (v := iI (0)) hx hb dX6_finds_93 rfl ?_
                refine lv_istore (lv' := [(5, .int (iI (0))), (4, .int (iI (v8))), (3, .int (iI (x3))), (0, .ref (ad 0)), (1, .int (iI (a))), (2, .int (iI (t0)))]) hx hb dX6_finds_94 hl (by decide) rfl (fun ls hl => ?_)
                have hloop96 : ∀ (N : Nat)  (r : Nat) (std : St) (H : Heap) (locs : List Loc) (ls : Array Slot), 9 - r < N → (r ≤ 8) → (std = setF st (cfX st a t0 (8 * i)) (updI (ffX (cst st a t0) i (st 23 0) (S + 1)) (S : Int) (curX (cst st a t0) i S r))) → GI wb std → GH D cy ad n std (gA n ad s.heap.size) s.heap H locs → lv_has ls 7 [(5, .int (iI (((r : Nat) : Int)))), (4, .int (iI (v8))), (3, .int (iI (x3))), (0, .ref (ad 0)), (1, .int (iI (a))), (2, .int (iI (t0)))] → W p l e (headSpec wsX6_finds { frames := 3, cells := 0, slots := 0, locals := 77 }).room s m (#[.ref (ad 0), .int (iI (a)), .int (iI (t0))] : Array Value) below meth c H locs 0 0 (MQ below (va_Qi (fun (r : Int32) (st' : St) => r = iI (dpV (cst st a t0) (st 15 0 a).toNat 0) ∧ st' = setF st (cfX st a t0 (8 * (st 15 0 a).toNat)) (ffX (cst st a t0) (st 15 0 a).toNat (st 23 0) 0) ∧ GI wb st') (gP D cy ad n) (gA n ad s.heap.size)) (#[.ref (ad 0), .int (iI (a)), .int (iI (t0))] : Array Value) s 0 0 (gA n ad s.heap.size)) (F0 m 96 ls []) := by
                  intro N
                  induction N with
                  | zero => intro  r std H locs ls hm; exact absurd hm (Nat.not_lt_zero _)
                  | succ N ih96 =>
                    intro  r std H locs ls hm hr hstd hI hG hl
                    have hfd : ∀ c o i, (c < 22 ∨ 23 < c) → std c o i = st c o i := fun c o i h => by rw [hstd]; exact setF_c _ _ _ h
                    refine lv_iload hx hb dX6_finds_96 (lv_at hl 0 rfl) ?_
                    refine lv_bipush (v := iI (8)) hx hb dX6_finds_98 (by decide +kernel) ?_
                    refine r_icmp_ge (tgt := 191) hx hb (by omega) dX6_finds_100 (by decide) (fun c11 => ?_) (fun c11 => ?_)
                    · skip
                      obtain ⟨v12, ev12⟩ : ∃ y9 : Int, y9 = x3 + (-1) := ⟨_, rfl⟩
                      refine lv_iinc (v := iI v12) (lv' := [(3, .int (iI (v12))), (5, .int (iI (((r : Nat) : Int)))), (4, .int (iI (v8))), (0, .ref (ad 0)), (1, .int (iI (a))), (2, .int (iI (t0)))]) hx hb dX6_finds_191 hl (k := 2) rfl (by rw [ev12]; exact iI_add _ _) (by decide) rfl (fun ls hl => ?_)
                      refine lv_goto (tgt := 59) hx hb dX6_finds_194 (by decide) ?_
                      exact ih59 (v12) (S) std _ _ _ (by omega) (by omega) (by omega) (by rw [hstd, curX_d (by omega), ffX_s _ _ _ (by omega)]) hI hG (lv_sub hl [0, 3, 4, 5] rfl)
                    · skip
                      refine lv_iload hx hb dX6_finds_103 (lv_at hl 1 rfl) ?_
                      refine lv_aload_n hx hb dX6_finds_105 rfl (lv_at hl 3 rfl) ?_
                      refine g_get hx hb hts hin6 hown hK hG (key := 0) (by omega) (gC_0 std ad cy) rfl 15 (by decide) L_45 (fun _ h9 => h9) rfl dX6_finds_106 ?_
                      refine lv_iload_n hx hb dX6_finds_109 rfl (lv_at hl 4 rfl) ?_
                      refine g_iald hx hb hK hG (11) (kd := 11) (o := 0) rfl rfl (by omega) (cp := 15) (ln := 6) rfl rfl (by omega) dX6_finds_110 ?_
                      have hr13 := gI_15 hI (0) (a)
                      have kq14 : std 15 (0) (a) = st 15 (0) (a) := by rw [hfd _ _ _ (by decide)]
                      rw [kq14] at hr13
                      refine r_as kq14 ?_
                      clear kq14
                      refine r_nm (fun v15 ev15 => ?_)
                      rw [← ev15] at hr13
                      refine r_icmp_ge (tgt := 191) hx hb (by omega) dX6_finds_111 (by decide) (fun c16 => ?_) (fun c16 => ?_)
                      · skip
                        obtain ⟨v17, ev17⟩ : ∃ y9 : Int, y9 = x3 + (-1) := ⟨_, rfl⟩
                        refine lv_iinc (v := iI v17) (lv' := [(3, .int (iI (v17))), (5, .int (iI (((r : Nat) : Int)))), (4, .int (iI (v8))), (0, .ref (ad 0)), (1, .int (iI (a))), (2, .int (iI (t0)))]) hx hb dX6_finds_191 hl (k := 2) rfl (by rw [ev17]; exact iI_add _ _) (by decide) rfl (fun ls hl => ?_)
                        refine lv_goto (tgt := 59) hx hb dX6_finds_194 (by decide) ?_
                        exact ih59 (v17) (S) std _ _ _ (by omega) (by omega) (by omega) (by rw [hstd, curX_d (by omega), ffX_s _ _ _ (by omega)]) hI hG (lv_sub hl [0, 3, 4, 5] rfl)
                      · skip
                        have hlab155 : ∀ (y : Int) (H : Heap) (locs : List Loc) (ls : Array Slot), ((S / 2 ^ r % 2 = 1 ∧ y = 1000) ∨ (S / 2 ^ r % 2 = 0 ∧ y = cst st a t0 (onesU S 8) r + dpV (cst st a t0) i (S ||| 2 ^ r))) →  GH D cy ad n std (gA n ad s.heap.size) s.heap H locs → lv_has ls 7 [(5, .int (iI (((r : Nat) : Int)))), (4, .int (iI (v8))), (3, .int (iI (x3))), (0, .ref (ad 0)), (1, .int (iI (a))), (2, .int (iI (t0)))] → W p l e (headSpec wsX6_finds { frames := 3, cells := 0, slots := 0, locals := 77 }).room s m (#[.ref (ad 0), .int (iI (a)), .int (iI (t0))] : Array Value) below meth c H locs 0 0 (MQ below (va_Qi (fun (r : Int32) (st' : St) => r = iI (dpV (cst st a t0) (st 15 0 a).toNat 0) ∧ st' = setF st (cfX st a t0 (8 * (st 15 0 a).toNat)) (ffX (cst st a t0) (st 15 0 a).toNat (st 23 0) 0) ∧ GI wb st') (gP D cy ad n) (gA n ad s.heap.size)) (#[.ref (ad 0), .int (iI (a)), .int (iI (t0))] : Array Value) s 0 0 (gA n ad s.heap.size)) (F0 m 155 ls [.int (iI (y))]) := by
                          intro y H locs ls hy hG hl
                          have hy1 := hcr0 (onesU S 8) r
                          have hy2 := dpK_r (fun p q => (hcr0 p q).1) (i - onesU (S ||| 2 ^ r) 8) (S ||| 2 ^ r)
                          have hy3 : 0 ≤ y ∧ y ≤ 1016 := by
                            unfold dpV at hy
                            omega
                          refine lv_istore (lv' := [(6, .int (iI (y))), (5, .int (iI (((r : Nat) : Int)))), (4, .int (iI (v8))), (3, .int (iI (x3))), (0, .ref (ad 0)), (1, .int (iI (a))), (2, .int (iI (t0)))]) hx hb dX6_finds_155 hl (by decide) rfl (fun ls hl => ?_)
                          refine lv_aload_n hx hb dX6_finds_157 rfl (lv_at hl 4 rfl) ?_
                          refine g_get hx hb hts hin6 hown hK hG (key := 0) (by omega) (gC_0 std ad cy) rfl 23 (by decide) L_69 (fun _ h9 => h9) rfl dX6_finds_158 ?_
                          refine lv_iload_n hx hb dX6_finds_161 rfl (lv_at hl 3 rfl) ?_
                          refine lv_iload hx hb dX6_finds_162 (lv_at hl 0 rfl) ?_
                          have hlab184 : ∀ (zz : Int) (H : Heap) (locs : List Loc) (ls : Array Slot), ((y < curX (cst st a t0) i S r ∧ zz = y) ∨ (¬ y < curX (cst st a t0) i S r ∧ zz = curX (cst st a t0) i S r)) →  GH D cy ad n std (gA n ad s.heap.size) s.heap H locs → lv_has ls 7 [(6, .int (iI (y))), (5, .int (iI (((r : Nat) : Int)))), (4, .int (iI (v8))), (3, .int (iI (x3))), (0, .ref (ad 0)), (1, .int (iI (a))), (2, .int (iI (t0)))] → W p l e (headSpec wsX6_finds { frames := 3, cells := 0, slots := 0, locals := 77 }).room s m (#[.ref (ad 0), .int (iI (a)), .int (iI (t0))] : Array Value) below meth c H locs 0 0 (MQ below (va_Qi (fun (r : Int32) (st' : St) => r = iI (dpV (cst st a t0) (st 15 0 a).toNat 0) ∧ st' = setF st (cfX st a t0 (8 * (st 15 0 a).toNat)) (ffX (cst st a t0) (st 15 0 a).toNat (st 23 0) 0) ∧ GI wb st') (gP D cy ad n) (gA n ad s.heap.size)) (#[.ref (ad 0), .int (iI (a)), .int (iI (t0))] : Array Value) s 0 0 (gA n ad s.heap.size)) (F0 m 184 ls [.int (iI (zz)), .int (iI (x3)), .ref (ad 19)]) := by
                            intro zz H locs ls hz hG hl
                            have hz1 := curX_r (fun p q => (hcr0 p q).1) i S r
                            refine g_iast hx hb hK hG (19) (kd := 19) (o := 0) rfl rfl (by omega) (cp := 23) (ln := 256) rfl rfl (by omega) dX6_finds_184 (fun H locs hG => ?_)
                            obtain ⟨st18, hst18⟩ : ∃ z : St, z = ust std 23 (0) (x3) (zz) := ⟨_, rfl⟩
                            rw [← hst18] at hG
                            replace hI := hst18 ▸ gIu_23 hI (0) (x3) (v := zz) (by omega)
                            obtain ⟨v19, ev19⟩ : ∃ y9 : Int, y9 = ((r : Nat) : Int) + (1) := ⟨_, rfl⟩
                            refine lv_iinc (v := iI v19) (lv' := [(5, .int (iI (v19))), (6, .int (iI (y))), (4, .int (iI (v8))), (3, .int (iI (x3))), (0, .ref (ad 0)), (1, .int (iI (a))), (2, .int (iI (t0)))]) hx hb dX6_finds_185 hl (k := 1) rfl (by rw [ev19]; exact iI_add _ _) (by decide) rfl (fun ls hl => ?_)
                            refine lv_goto (tgt := 96) hx hb dX6_finds_188 (by decide) ?_
                            rw [show (v19 : Int) = (((r + 1) : Nat) : Int) from by omega] at hl
                            exact ih96  (r + 1) st18 _ _ _ (by omega) (by omega) (by rw [hst18, hstd, hx3S, setF_u23, updI_updI, curX_n (x := y) (y := zz) (by omega) (by omega) (by omega) hy hz]) hI hG (lv_sub hl [0, 2, 3, 4, 5, 6] rfl)
                          refine lv_aload_n hx hb dX6_finds_164 rfl (lv_at hl 4 rfl) ?_
                          refine g_get hx hb hts hin6 hown hK hG (key := 0) (by omega) (gC_0 std ad cy) rfl 23 (by decide) L_69 (fun _ h9 => h9) rfl dX6_finds_165 ?_
                          refine lv_iload_n hx hb dX6_finds_168 rfl (lv_at hl 3 rfl) ?_
                          refine g_iald hx hb hK hG (19) (kd := 19) (o := 0) rfl rfl (by omega) (cp := 23) (ln := 256) rfl rfl (by omega) dX6_finds_169 ?_
                          have hr20 := gI_23 hI (0) (x3)
                          refine r_nm (fun v21 ev21 => ?_)
                          rw [← ev21] at hr20
                          have hcu : v21 = curX (cst st a t0) i S r := by rw [ev21, hx3S, hstd, setF_23]; exact updI_s _ _ _
                          refine r_icmp_ge (tgt := 178) hx hb (by omega) dX6_finds_170 (by decide) (fun c22 => ?_) (fun c22 => ?_)
                          · skip
                            refine lv_aload_n hx hb dX6_finds_178 rfl (lv_at hl 4 rfl) ?_
                            refine g_get hx hb hts hin6 hown hK hG (key := 0) (by omega) (gC_0 std ad cy) rfl 23 (by decide) L_69 (fun _ h9 => h9) rfl dX6_finds_179 ?_
                            refine lv_iload_n hx hb dX6_finds_182 rfl (lv_at hl 3 rfl) ?_
                            refine g_iald hx hb hK hG (19) (kd := 19) (o := 0) rfl rfl (by omega) (cp := 23) (ln := 256) rfl rfl (by omega) dX6_finds_183 ?_
                            have hr23 := gI_23 hI (0) (x3)
                            refine r_nm (fun v24 ev24 => ?_)
                            rw [← ev24] at hr23
                            have hcv : v24 = curX (cst st a t0) i S r := by rw [ev24, hx3S, hstd, setF_23]; exact updI_s _ _ _
                            exact hlab184 (v24)  _ _ _ (by omega) hG (lv_sub hl [0, 1, 2, 3, 4, 5, 6] rfl)
                          · skip
                            refine lv_iload hx hb dX6_finds_173 (lv_at hl 0 rfl) ?_
                            refine lv_goto (tgt := 184) hx hb dX6_finds_175 (by decide) ?_
                            exact hlab184 (y)  _ _ _ (by omega) hG (lv_sub hl [0, 1, 2, 3, 4, 5, 6] rfl)
                        refine lv_iload_n hx hb dX6_finds_114 rfl (lv_at hl 2 rfl) ?_
                        refine lv_iload hx hb dX6_finds_115 (lv_at hl 0 rfl) ?_
                        refine r_as (y := ((r : Nat) : Int)) (by rfl) ?_
                        refine r_ishr hx hb (by omega) (by constructor <;> omega) dX6_finds_117 ?_
                        refine r_nm (fun v25 ev25 => ?_)
                        have hbt0 : v25 = x3 / 2 ^ r := ev25
                        refine lv_iconst (v := iI (1)) hx hb dX6_finds_118 rfl ?_
                        refine r_iand 1 hx hb (by decide) (by decide) dX6_finds_119 ?_
                        refine r_nm (fun v26 ev26 => ?_)
                        have hbt : v26 = ((S / 2 ^ r % 2 : Nat) : Int) := by rw [ev26, hbt0, hx3S]; exact bitSI S r
                        refine lv_iconst (v := iI (1)) hx hb dX6_finds_120 rfl ?_
                        refine r_icmp_ne (tgt := 130) hx hb (by omega) dX6_finds_121 (by decide) (fun c27 => ?_) (fun c27 => ?_)
                        · skip
                          refine lv_aload_n hx hb dX6_finds_130 rfl (lv_at hl 3 rfl) ?_
                          refine g_get hx hb hts hin6 hown hK hG (key := 0) (by omega) (gC_0 std ad cy) rfl 22 (by decide) L_66 (fun _ h9 => h9) rfl dX6_finds_131 ?_
                          refine lv_bipush (v := iI (8)) hx hb dX6_finds_134 (by decide +kernel) ?_
                          refine lv_iload hx hb dX6_finds_136 (lv_at hl 1 rfl) ?_
                          refine r_imul hx hb dX6_finds_138 ?_
                          refine r_nm (fun v28 ev28 => ?_)
                          refine lv_iload hx hb dX6_finds_139 (lv_at hl 0 rfl) ?_
                          refine r_iadd hx hb dX6_finds_141 ?_
                          refine r_nm (fun v29 ev29 => ?_)
                          refine g_iald hx hb hK hG (18) (kd := 18) (o := 0) rfl rfl (by omega) (cp := 22) (ln := 64) rfl rfl (by omega) dX6_finds_142 ?_
                          have hr30 := gI_22 hI (0) (v29)
                          refine r_nm (fun v31 ev31 => ?_)
                          rw [← ev31] at hr30
                          have hcs : v31 = cst st a t0 (onesU S 8) r := by rw [ev31, hstd, setF_22]; exact cfX_v (by omega) (by omega) (by omega)
                          refine lv_aload_n hx hb dX6_finds_143 rfl (lv_at hl 3 rfl) ?_
                          refine g_get hx hb hts hin6 hown hK hG (key := 0) (by omega) (gC_0 std ad cy) rfl 23 (by decide) L_69 (fun _ h9 => h9) rfl dX6_finds_144 ?_
                          refine lv_iload_n hx hb dX6_finds_147 rfl (lv_at hl 2 rfl) ?_
                          refine lv_iconst (v := iI (1)) hx hb dX6_finds_148 rfl ?_
                          refine lv_iload hx hb dX6_finds_149 (lv_at hl 0 rfl) ?_
                          refine r_as (y := ((r : Nat) : Int)) (by rfl) ?_
                          refine r_ishl hx hb (by omega) dX6_finds_151 ?_
                          refine r_nm (fun v32 ev32 => ?_)
                          have hsl : v32 = ((2 ^ r : Nat) : Int) := by rw [ev32]; push_cast; omega
                          refine r_as (y := ((2 ^ r : Nat) : Int)) (by exact hsl) ?_
                          refine r_as2 (y := ((S : Nat) : Int)) (by exact hx3S) ?_
                          refine r_ior hx hb dX6_finds_152 ?_
                          refine r_nm (fun v33 ev33 => ?_)
                          have hvo : v33 = ((S ||| 2 ^ r : Nat) : Int) := ev33
                          have hor := ones_or S (by omega) r (by omega) (by omega)
                          refine g_iald hx hb hK hG (19) (kd := 19) (o := 0) rfl rfl (by omega) (cp := 23) (ln := 256) rfl rfl (by omega) dX6_finds_153 ?_
                          have hr34 := gI_23 hI (0) (v33)
                          refine r_nm (fun v35 ev35 => ?_)
                          rw [← ev35] at hr34
                          have hff : v35 = dpV (cst st a t0) i (S ||| 2 ^ r) := by rw [ev35, hvo, hstd, setF_23, updI_n (by omega)]; exact ffX_v (by omega) (by omega)
                          refine r_iadd hx hb dX6_finds_154 ?_
                          refine r_nm (fun v36 ev36 => ?_)
                          exact hlab155 (v36)  _ _ _ (by omega) hG (lv_sub hl [0, 1, 2, 3, 4, 5] rfl)
                        · skip
                          refine lv_sipush (v := iI (1000)) hx hb dX6_finds_124 (by decide +kernel) ?_
                          refine lv_goto (tgt := 155) hx hb dX6_finds_127 (by decide) ?_
                          exact hlab155 (1000)  _ _ _ (by omega) hG (lv_sub hl [0, 1, 2, 3, 4, 5] rfl)
                exact hloop96 _  (0) st10 _ _ _ (Nat.lt_succ_self _) (by omega) (by rw [hst10, hstc, setF_u23, hx3S, hq0]) hI hG (lv_sub hl [0, 1, 2, 3, 4, 5] rfl)
              refine lv_aload_n hx hb dX6_finds_76 rfl (lv_at hl 2 rfl) ?_
              refine g_get hx hb hts hin6 hown hK hG (key := 0) (by omega) (gC_0 stc ad cy) rfl 15 (by decide) L_45 (fun _ h9 => h9) rfl dX6_finds_77 ?_
              refine lv_iload_n hx hb dX6_finds_80 rfl (lv_at hl 3 rfl) ?_
              refine g_iald hx hb hK hG (11) (kd := 11) (o := 0) rfl rfl (by omega) (cp := 15) (ln := 6) rfl rfl (by omega) dX6_finds_81 ?_
              have hr37 := gI_15 hI (0) (a)
              have kq38 : stc 15 (0) (a) = st 15 (0) (a) := by rw [hfc _ _ _ (by decide)]
              rw [kq38] at hr37
              refine r_as kq38 ?_
              clear kq38
              refine r_nm (fun v39 ev39 => ?_)
              rw [← ev39] at hr37
              refine r_icmp_lt (tgt := 89) hx hb (by omega) dX6_finds_82 (by decide) (fun c40 => ?_) (fun c40 => ?_)
              · skip
                refine lv_sipush (v := iI (1000)) hx hb dX6_finds_89 (by decide +kernel) ?_
                exact hlab92 (1000)  _ _ _ (by omega) hG (lv_sub hl [0, 1, 2, 3, 4] rfl)
              · skip
                refine lv_iconst (v := iI (0)) hx hb dX6_finds_85 rfl ?_
                refine lv_goto (tgt := 92) hx hb dX6_finds_86 (by decide) ?_
                exact hlab92 (0)  _ _ _ (by omega) hG (lv_sub hl [0, 1, 2, 3, 4] rfl)
        exact hloop59 _ (255) (256) sta _ _ _ (Nat.lt_succ_self _) (by omega) (by omega) (by rw [ffX_256]; exact hsta) hI hG (lv_sub hl [0, 1, 2, 3] rfl)
      · skip
        refine lv_iconst (v := iI (0)) hx hb dX6_finds_12 rfl ?_
        refine lv_istore (lv' := [(4, .int (iI (0))), (3, .int (iI (((i : Nat) : Int)))), (0, .ref (ad 0)), (1, .int (iI (a))), (2, .int (iI (t0)))]) hx hb dX6_finds_13 hl (by decide) rfl (fun ls hl => ?_)
        have hloop15 : ∀ (N : Nat)  (r : Nat) (stb : St) (H : Heap) (locs : List Loc) (ls : Array Slot), 9 - r < N → (r ≤ 8) → (stb = setF st (cfX st a t0 (8 * i + r)) (st 23 0)) → GI wb stb → GH D cy ad n stb (gA n ad s.heap.size) s.heap H locs → lv_has ls 7 [(4, .int (iI (((r : Nat) : Int)))), (3, .int (iI (((i : Nat) : Int)))), (0, .ref (ad 0)), (1, .int (iI (a))), (2, .int (iI (t0)))] → W p l e (headSpec wsX6_finds { frames := 3, cells := 0, slots := 0, locals := 77 }).room s m (#[.ref (ad 0), .int (iI (a)), .int (iI (t0))] : Array Value) below meth c H locs 0 0 (MQ below (va_Qi (fun (r : Int32) (st' : St) => r = iI (dpV (cst st a t0) (st 15 0 a).toNat 0) ∧ st' = setF st (cfX st a t0 (8 * (st 15 0 a).toNat)) (ffX (cst st a t0) (st 15 0 a).toNat (st 23 0) 0) ∧ GI wb st') (gP D cy ad n) (gA n ad s.heap.size)) (#[.ref (ad 0), .int (iI (a)), .int (iI (t0))] : Array Value) s 0 0 (gA n ad s.heap.size)) (F0 m 15 ls []) := by
          intro N
          induction N with
          | zero => intro  r stb H locs ls hm; exact absurd hm (Nat.not_lt_zero _)
          | succ N ih15 =>
            intro  r stb H locs ls hm hr hstb hI hG hl
            have hfb : ∀ c o i, (c < 22 ∨ 23 < c) → stb c o i = st c o i := fun c o i h => by rw [hstb]; exact setF_c _ _ _ h
            refine lv_iload hx hb dX6_finds_15 (lv_at hl 0 rfl) ?_
            refine lv_bipush (v := iI (8)) hx hb dX6_finds_17 (by decide +kernel) ?_
            refine r_icmp_ge (tgt := 49) hx hb (by omega) dX6_finds_19 (by decide) (fun c41 => ?_) (fun c41 => ?_)
            · skip
              obtain ⟨v42, ev42⟩ : ∃ y9 : Int, y9 = ((i : Nat) : Int) + (1) := ⟨_, rfl⟩
              refine lv_iinc (v := iI v42) (lv' := [(3, .int (iI (v42))), (4, .int (iI (((r : Nat) : Int)))), (0, .ref (ad 0)), (1, .int (iI (a))), (2, .int (iI (t0)))]) hx hb dX6_finds_49 hl (k := 1) rfl (by rw [ev42]; exact iI_add _ _) (by decide) rfl (fun ls hl => ?_)
              refine lv_goto (tgt := 2) hx hb dX6_finds_52 (by decide) ?_
              rw [show (v42 : Int) = (((i + 1) : Nat) : Int) from by omega] at hl
              exact ih2  (i + 1) stb _ _ _ (by omega) (by omega) (by rw [hstb, show 8 * i + r = 8 * (i + 1) by omega]) hI hG (lv_sub hl [0, 2, 3, 4] rfl)
            · skip
              refine lv_aload_n hx hb dX6_finds_22 rfl (lv_at hl 2 rfl) ?_
              refine g_get hx hb hts hin6 hown hK hG (key := 0) (by omega) (gC_0 stb ad cy) rfl 22 (by decide) L_66 (fun _ h9 => h9) rfl dX6_finds_23 ?_
              refine lv_bipush (v := iI (8)) hx hb dX6_finds_26 (by decide +kernel) ?_
              refine lv_iload_n hx hb dX6_finds_28 rfl (lv_at hl 1 rfl) ?_
              refine r_imul hx hb dX6_finds_29 ?_
              refine r_nm (fun v43 ev43 => ?_)
              refine lv_iload hx hb dX6_finds_30 (lv_at hl 0 rfl) ?_
              refine r_iadd hx hb dX6_finds_32 ?_
              refine r_nm (fun v44 ev44 => ?_)
              have hix : v44 = ((8 * i + r : Nat) : Int) := by omega
              refine lv_aload_n hx hb dX6_finds_33 rfl (lv_at hl 2 rfl) ?_
              refine lv_iload_n hx hb dX6_finds_34 rfl (lv_at hl 3 rfl) ?_
              refine lv_iload_n hx hb dX6_finds_35 rfl (lv_at hl 4 rfl) ?_
              refine lv_iload_n hx hb dX6_finds_36 rfl (lv_at hl 1 rfl) ?_
              refine lv_iload hx hb dX6_finds_37 (lv_at hl 0 rfl) ?_
              refine g_goi hG hA (va_runV (As := [.int (iI (a)), .int (iI (t0)), .int (iI (((i : Nat) : Int))), .int (iI (((r : Nat) : Int)))]) (rest := [.int (iI (v44)), .ref (ad 18)]) ⟨hx, hb, hml, hown, hts⟩ (mX6_misfitsOf l D cy ad n stb _ fz wb hn hI (by omega) (a) (t0) (((i : Nat) : Int)) (((r : Nat) : Int)) (by omega) (by omega) (by omega) (by omega)) (cwV 4 hts gX6_finds_X6_misfitsOf rfl rfl rfl (by decide +kernel) ⟨Nat.le_of_ble_eq_true rfl, Nat.le_of_ble_eq_true rfl⟩) ⟨g_blind, va_recv hK hG.1 (q0 := 0) (ci := 6) rfl ((gw_at (by omega)).trans (by rw [gC_0 stb ad cy])), g_pre hK hG hA hN hZ⟩ rfl rfl hl.1 rfl (lv_room (Nat.le_of_ble_eq_true rfl)) dX6_finds_39 ⟨Nat.zero_le _, Nat.zero_le _⟩) (fun r9 s9 H locs hp hG => ?_)
              obtain ⟨rfl, hs9⟩ := hp
              rw [hs9] at hG
              clear hs9
              refine r_nm (fun v45 ev45 => ?_)
              have hr46 := mfM_r hI (a) (t0) (((i : Nat) : Int)) (((r : Nat) : Int))
              rw [← ev45] at hr46
              have hms : v45 = cst st a t0 i r := by rw [ev45, hstb]; rfl
              refine g_iast hx hb hK hG (18) (kd := 18) (o := 0) rfl rfl (by omega) (cp := 22) (ln := 64) rfl rfl (by omega) dX6_finds_42 (fun H locs hG => ?_)
              obtain ⟨st47, hst47⟩ : ∃ z : St, z = ust stb 22 (0) (v44) (v45) := ⟨_, rfl⟩
              rw [← hst47] at hG
              replace hI := hst47 ▸ gIu_22 hI (0) (v44) (v := v45) (by omega)
              obtain ⟨v48, ev48⟩ : ∃ y9 : Int, y9 = ((r : Nat) : Int) + (1) := ⟨_, rfl⟩
              refine lv_iinc (v := iI v48) (lv' := [(4, .int (iI (v48))), (3, .int (iI (((i : Nat) : Int)))), (0, .ref (ad 0)), (1, .int (iI (a))), (2, .int (iI (t0)))]) hx hb dX6_finds_43 hl (k := 0) rfl (by rw [ev48]; exact iI_add _ _) (by decide) rfl (fun ls hl => ?_)
              refine lv_goto (tgt := 15) hx hb dX6_finds_46 (by decide) ?_
              rw [show (v48 : Int) = (((r + 1) : Nat) : Int) from by omega] at hl
              exact ih15  (r + 1) st47 _ _ _ (by omega) (by omega) (by rw [hst47, hstb, setF_u22, hix, hms]; exact congrArg (fun q => setF st q (st 23 0)) (cfX_s st a t0 i r (by omega))) hI hG (lv_sub hl [0, 1, 2, 3, 4] rfl)
        exact hloop15 _  (0) sta _ _ _ (Nat.lt_succ_self _) (by omega) (by exact hsta) hI hG (lv_sub hl [0, 1, 2, 3, 4] rfl)
  exact hloop2 _  (0) st _ _ _ (Nat.lt_succ_self _) (by omega) (by rw [show 8 * 0 = 0 from rfl, cfX_0]; exact setF_self st) hI hG (lv_sub hl [0, 1, 2, 3] rfl)
