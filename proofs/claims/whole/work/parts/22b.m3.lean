set_option maxHeartbeats 400000 in
set_option maxRecDepth 100000 in
theorem mX6_writes (l : Launch) (D : va_G) (cy : Nat → ClassId) (ad : Nat → Nat) (n : Nat) (st : St) (sz fz : Nat) (wb : Int) (hn : 75 ≤ n) (hI : GI wb st) (hW : wb ≤ 1990000) (i : Int) (want : Int) (hi : 0 ≤ i ∧ i < 768) (hs : st 6 0 i ≤ st 1 0 0) (hwt : 0 ≤ want ∧ want ≤ 15) : Met l yX6_writes wsX6_writes ({ frames := 1, cells := 0, slots := 0, locals := 22 }) (va_Pc [.ref (ad 0), .int (iI (i)), .int (iI (want))] (gB D cy ad n st sz fz)) (va_Qi (fun (r : Int32) (st' : St) => r = iI (wrMf st i want) ∧ st' = wrM st i want ∧ GI (wb + 16) st') (gP D cy ad n) (gA n ad sz)) 0 0 (gA n ad sz) := by
  refine Met.ofW (cc := cX6_writes) (maxL := 5) (ret := (some .int)) (by decide) rfl ?_
  intro p e s m args below meth c s₁ B hml hv
  obtain ⟨rfl, hsz, hP, hK, hD0, hN, hZ⟩ := hv
  have hx := B.exec
  have hb := B.bytes
  have hr := B.returns
  have hts := atoms_spec (ws := wsX6_writes) B.pre
  have hown : s.vm.findClass RX6 = some m.cls := findClass_of_methodNamed B.named
  have hlocks := B.notSynchronized
  subst hsz
  have hA : ∀ q : Nat, s.heap.size ≤ q → gA n ad s.heap.size q := fun q h => Or.inr h
  have hG : GH D cy ad n st (gA n ad s.heap.size) s.heap s.heap [] := ⟨hP, gw_A hD0, va_S.rf⟩
  have hl := lv_entry ([.ref (ad 0), .int (iI (i)), .int (iI (want))]) (n := 5) (Nat.le_of_ble_eq_true rfl)
  rw [lg_entry_eq]
  generalize (lg_sl ([.ref (ad 0), .int (iI (i)), .int (iI (want))]) ++ List.replicate (5 - (lg_sl ([.ref (ad 0), .int (iI (i)), .int (iI (want))])).length) Slot.unset).toArray = ls at hl ⊢
  have hl : lv_has ls 5 [(0, .ref (ad 0)), (1, .int (iI (i))), (2, .int (iI (want)))] := hl
  have hin6 : ∀ w ∈ u_ws RX6 TX6 25, w ∈ wsX6_writes := by decide +kernel
  have L_13 := hts (.fieldLink RX6 13 "CrossbarryModel" "states" "[I") (by decide +kernel)
  have L_17 := hts (.fieldLink RX6 17 "CrossbarryModel" "wears" "[I") (by decide +kernel)
  have L_20 := hts (.fieldLink RX6 20 "CrossbarryModel" "since" "[I") (by decide +kernel)
  have L_23 := hts (.fieldLink RX6 23 "CrossbarryModel" "isStuck" "[Z") (by decide +kernel)
  have L_27 := hts (.fieldLink RX6 27 "CrossbarryModel" "isKnown" "[Z") (by decide +kernel)
  have L_7 := hts (.fieldLink RX6 7 "CrossbarryModel" "most" "I") (by decide +kernel)
  have L_92 := hts (.fieldLink RX6 92 "CrossbarryModel" "now" "I") (by decide +kernel)
  have qst : st = setG 4 0 st i (st 4 0 i) (st 5 0 i) (st 6 0 i) (st 7 0 i) (st 8 0 i) := setG_self 4 0 st i
  have hI0 := hI
  replace hI := GI_mono (W' := wb + 16) (by omega) hI
  have hw5 := gI_5 hI0 0 i
  have hlab30 : ∀  (sta : St) (H : Heap) (locs : List Loc) (ls : Array Slot), (sta = setG 4 0 st i (if st 7 0 i = 1 then st 4 0 i else conM st i) (st 5 0 i) (if st 7 0 i = 1 then st 6 0 i else st 1 0 0) (st 7 0 i) (st 8 0 i)) → GI (wb + 16) sta → GH D cy ad n sta (gA n ad s.heap.size) s.heap H locs → lv_has ls 5 [(0, .ref (ad 0)), (1, .int (iI (i))), (2, .int (iI (want)))] → W p l e (headSpec wsX6_writes { frames := 1, cells := 0, slots := 0, locals := 22 }).room s m (#[.ref (ad 0), .int (iI (i)), .int (iI (want))] : Array Value) below meth c H locs 0 0 (MQ below (va_Qi (fun (r : Int32) (st' : St) => r = iI (wrMf st i want) ∧ st' = wrM st i want ∧ GI (wb + 16) st') (gP D cy ad n) (gA n ad s.heap.size)) (#[.ref (ad 0), .int (iI (i)), .int (iI (want))] : Array Value) s 0 0 (gA n ad s.heap.size)) (F0 m 30 ls []) := by
    intro  sta H locs ls hsta hI hG hl
    have qsta := hsta
    refine lv_iconst (v := iI (0)) hx hb dX6_writes_30 rfl ?_
    refine lv_istore_n (lv' := [(3, .int (iI (0))), (0, .ref (ad 0)), (1, .int (iI (i))), (2, .int (iI (want)))]) hx hb dX6_writes_31 rfl hl (by decide) rfl (fun ls hl => ?_)
    have hloop32 : ∀ (N : Nat) (x3 : Int) (s1 : Int) (w1 : Int) (k1 : Int) (stb : St) (H : Heap) (locs : List Loc) (ls : Array Slot), (16 - x3).toNat < N → (0 ≤ x3 ∧ x3 ≤ 16) → (stb = setG 4 0 st i s1 w1 (if st 7 0 i = 1 then st 6 0 i else st 1 0 0) k1 (st 8 0 i)) → (wrL (st 3 0 0) want (16 - x3).toNat s1 w1 k1 = wrL (st 3 0 0) want 16 (if st 7 0 i = 1 then st 4 0 i else conM st i) (st 5 0 i) (st 7 0 i)) → (w1 ≤ st 5 0 i + x3) → GI (wb + 16) stb → GH D cy ad n stb (gA n ad s.heap.size) s.heap H locs → lv_has ls 5 [(3, .int (iI (x3))), (0, .ref (ad 0)), (1, .int (iI (i))), (2, .int (iI (want)))] → W p l e (headSpec wsX6_writes { frames := 1, cells := 0, slots := 0, locals := 22 }).room s m (#[.ref (ad 0), .int (iI (i)), .int (iI (want))] : Array Value) below meth c H locs 0 0 (MQ below (va_Qi (fun (r : Int32) (st' : St) => r = iI (wrMf st i want) ∧ st' = wrM st i want ∧ GI (wb + 16) st') (gP D cy ad n) (gA n ad s.heap.size)) (#[.ref (ad 0), .int (iI (i)), .int (iI (want))] : Array Value) s 0 0 (gA n ad s.heap.size)) (F0 m 32 ls []) := by
      intro N
      induction N with
      | zero => intro x3 s1 w1 k1 stb H locs ls hm; exact absurd hm (Nat.not_lt_zero _)
      | succ N ih32 =>
        intro x3 s1 w1 k1 stb H locs ls hm hx3 hstb hfin hw1 hI hG hl
        have qstb := hstb
        have hlab150 : ∀  (H : Heap) (locs : List Loc) (ls : Array Slot), (wrL (st 3 0 0) want 16 (if st 7 0 i = 1 then st 4 0 i else conM st i) (st 5 0 i) (st 7 0 i) = (s1, w1, k1)) →  GH D cy ad n stb (gA n ad s.heap.size) s.heap H locs → lv_has ls 5 [(3, .int (iI (x3))), (0, .ref (ad 0)), (1, .int (iI (i))), (2, .int (iI (want)))] → W p l e (headSpec wsX6_writes { frames := 1, cells := 0, slots := 0, locals := 22 }).room s m (#[.ref (ad 0), .int (iI (i)), .int (iI (want))] : Array Value) below meth c H locs 0 0 (MQ below (va_Qi (fun (r : Int32) (st' : St) => r = iI (wrMf st i want) ∧ st' = wrM st i want ∧ GI (wb + 16) st') (gP D cy ad n) (gA n ad s.heap.size)) (#[.ref (ad 0), .int (iI (i)), .int (iI (want))] : Array Value) s 0 0 (gA n ad s.heap.size)) (F0 m 150 ls []) := by
          intro  H locs ls hres hG hl
          refine lv_aload_n hx hb dX6_writes_150 rfl (lv_at hl 1 rfl) ?_
          refine g_get hx hb hts hin6 hown hK hG (key := 0) (by omega) (gC_0 stb ad cy) rfl 8 (by decide) L_27 (fun _ h9 => h9) rfl dX6_writes_151 ?_
          refine lv_iload_n hx hb dX6_writes_154 rfl (lv_at hl 2 rfl) ?_
          refine lv_aload_n hx hb dX6_writes_155 rfl (lv_at hl 1 rfl) ?_
          refine g_get hx hb hts hin6 hown hK hG (key := 0) (by omega) (gC_0 stb ad cy) rfl 8 (by decide) L_27 (fun _ h9 => h9) rfl dX6_writes_156 ?_
          refine lv_iload_n hx hb dX6_writes_159 rfl (lv_at hl 2 rfl) ?_
          refine g_zald hx hb hK hG (5) (kd := 5) (o := 0) rfl rfl (by omega) (cp := 8) (ln := 768) rfl rfl (by omega) dX6_writes_160 ?_
          have kq1 : stb 8 (0) (i) = st 8 0 i := by rw [qstb]; exact setG_r4 _ _ _ _ _ _ _ _ _
          have hr2 := gI_8 hI (0) (i)
          rw [kq1] at hr2
          refine r_as (y := st 8 0 i) kq1 ?_
          refine r_if_ne (tgt := 174) hx hb (by omega) dX6_writes_161 (by decide) (fun c3 => ?_) (fun c3 => ?_)
          · skip
            refine lv_iconst (v := iI (1)) hx hb dX6_writes_174 rfl ?_
            refine lv_goto (tgt := 179) hx hb dX6_writes_175 (by decide) ?_
            refine g_zast hx hb hK hG (5) (kd := 5) (o := 0) rfl rfl (by omega) (cp := 8) (ln := 768) rfl rfl (by omega) (by omega) dX6_writes_179 (fun H locs hG => ?_)
            obtain ⟨st4, hst4⟩ : ∃ z : St, z = ust stb 8 (0) (i) (1) := ⟨_, rfl⟩
            rw [← hst4] at hG
            replace hI := hst4 ▸ gIu_8 hI (0) (i) (v := 1) (by omega)
            have qst4 : st4 = setG 4 (0) st (i) (s1) (w1) ((if st 7 0 i = 1 then st 6 0 i else st 1 0 0)) (k1) (1) := by rw [hst4, qstb]; exact setG_4 _ _ _ _ _ _ _ _ _ _
            refine lv_aload_n hx hb dX6_writes_180 rfl (lv_at hl 1 rfl) ?_
            refine g_get hx hb hts hin6 hown hK hG (key := 0) (by omega) (gC_0 st4 ad cy) rfl 4 (by decide) L_13 (fun _ h9 => h9) rfl dX6_writes_181 ?_
            refine lv_iload_n hx hb dX6_writes_184 rfl (lv_at hl 2 rfl) ?_
            refine g_iald hx hb hK hG (1) (kd := 1) (o := 0) rfl rfl (by omega) (cp := 4) (ln := 768) rfl rfl (by omega) dX6_writes_185 ?_
            have kq5 : st4 4 (0) (i) = s1 := by rw [qst4]; exact setG_r0 _ _ _ _ _ _ _ _ _
            have hr6 := gI_4 hI (0) (i)
            rw [kq5] at hr6
            refine r_as (y := s1) kq5 ?_
            refine lv_iload_n hx hb dX6_writes_186 rfl (lv_at hl 3 rfl) ?_
            refine r_icmp_eq (tgt := 194) hx hb (by omega) dX6_writes_187 (by decide) (fun c7 => ?_) (fun c7 => ?_)
            · skip
              refine lv_iconst (v := iI (0)) hx hb dX6_writes_194 rfl ?_
              exact g_iret hx hb hr hlocks hG (by
                have e9 := wrM_eq hres (kn := 1) (by first | (rw [if_pos (by omega)]; done) | (rw [if_neg (by omega)]; done))
                refine ⟨?_, ?_, hI⟩
                · rw [wrMf_eq e9]; congr 1; first | (rw [if_pos (by omega)]; done) | (rw [if_neg (by omega)]; done)
                · rw [e9]; exact qst4) dX6_writes_195
            · skip
              refine lv_iconst (v := iI (1)) hx hb dX6_writes_190 rfl ?_
              refine lv_goto (tgt := 195) hx hb dX6_writes_191 (by decide) ?_
              exact g_iret hx hb hr hlocks hG (by
                have e9 := wrM_eq hres (kn := 1) (by first | (rw [if_pos (by omega)]; done) | (rw [if_neg (by omega)]; done))
                refine ⟨?_, ?_, hI⟩
                · rw [wrMf_eq e9]; congr 1; first | (rw [if_pos (by omega)]; done) | (rw [if_neg (by omega)]; done)
                · rw [e9]; exact qst4) dX6_writes_195
          · skip
            refine lv_aload_n hx hb dX6_writes_164 rfl (lv_at hl 1 rfl) ?_
            refine g_get hx hb hts hin6 hown hK hG (key := 0) (by omega) (gC_0 stb ad cy) rfl 4 (by decide) L_13 (fun _ h9 => h9) rfl dX6_writes_165 ?_
            refine lv_iload_n hx hb dX6_writes_168 rfl (lv_at hl 2 rfl) ?_
            refine g_iald hx hb hK hG (1) (kd := 1) (o := 0) rfl rfl (by omega) (cp := 4) (ln := 768) rfl rfl (by omega) dX6_writes_169 ?_
            have kq8 : stb 4 (0) (i) = s1 := by rw [qstb]; exact setG_r0 _ _ _ _ _ _ _ _ _
            have hr9 := gI_4 hI (0) (i)
            rw [kq8] at hr9
            refine r_as (y := s1) kq8 ?_
            refine lv_iload_n hx hb dX6_writes_170 rfl (lv_at hl 3 rfl) ?_
            refine r_icmp_eq (tgt := 178) hx hb (by omega) dX6_writes_171 (by decide) (fun c10 => ?_) (fun c10 => ?_)
            · skip
              refine lv_iconst (v := iI (0)) hx hb dX6_writes_178 rfl ?_
              refine g_zast hx hb hK hG (5) (kd := 5) (o := 0) rfl rfl (by omega) (cp := 8) (ln := 768) rfl rfl (by omega) (by omega) dX6_writes_179 (fun H locs hG => ?_)
              obtain ⟨st11, hst11⟩ : ∃ z : St, z = ust stb 8 (0) (i) (0) := ⟨_, rfl⟩
              rw [← hst11] at hG
              replace hI := hst11 ▸ gIu_8 hI (0) (i) (v := 0) (by omega)
              have qst11 : st11 = setG 4 (0) st (i) (s1) (w1) ((if st 7 0 i = 1 then st 6 0 i else st 1 0 0)) (k1) (0) := by rw [hst11, qstb]; exact setG_4 _ _ _ _ _ _ _ _ _ _
              refine lv_aload_n hx hb dX6_writes_180 rfl (lv_at hl 1 rfl) ?_
              refine g_get hx hb hts hin6 hown hK hG (key := 0) (by omega) (gC_0 st11 ad cy) rfl 4 (by decide) L_13 (fun _ h9 => h9) rfl dX6_writes_181 ?_
              refine lv_iload_n hx hb dX6_writes_184 rfl (lv_at hl 2 rfl) ?_
              refine g_iald hx hb hK hG (1) (kd := 1) (o := 0) rfl rfl (by omega) (cp := 4) (ln := 768) rfl rfl (by omega) dX6_writes_185 ?_
              have kq12 : st11 4 (0) (i) = s1 := by rw [qst11]; exact setG_r0 _ _ _ _ _ _ _ _ _
              have hr13 := gI_4 hI (0) (i)
              rw [kq12] at hr13
              refine r_as (y := s1) kq12 ?_
              refine lv_iload_n hx hb dX6_writes_186 rfl (lv_at hl 3 rfl) ?_
              refine r_icmp_eq (tgt := 194) hx hb (by omega) dX6_writes_187 (by decide) (fun c14 => ?_) (fun c14 => ?_)
              · skip
                refine lv_iconst (v := iI (0)) hx hb dX6_writes_194 rfl ?_
                exact g_iret hx hb hr hlocks hG (by
                  have e9 := wrM_eq hres (kn := 0) (by first | (rw [if_pos (by omega)]; done) | (rw [if_neg (by omega)]; done))
                  refine ⟨?_, ?_, hI⟩
                  · rw [wrMf_eq e9]; congr 1; first | (rw [if_pos (by omega)]; done) | (rw [if_neg (by omega)]; done)
                  · rw [e9]; exact qst11) dX6_writes_195
              · skip
                refine lv_iconst (v := iI (1)) hx hb dX6_writes_190 rfl ?_
                refine lv_goto (tgt := 195) hx hb dX6_writes_191 (by decide) ?_
                exact g_iret hx hb hr hlocks hG (by
                  have e9 := wrM_eq hres (kn := 0) (by first | (rw [if_pos (by omega)]; done) | (rw [if_neg (by omega)]; done))
                  refine ⟨?_, ?_, hI⟩
                  · rw [wrMf_eq e9]; congr 1; first | (rw [if_pos (by omega)]; done) | (rw [if_neg (by omega)]; done)
                  · rw [e9]; exact qst11) dX6_writes_195
            · skip
              refine lv_iconst (v := iI (1)) hx hb dX6_writes_174 rfl ?_
              refine lv_goto (tgt := 179) hx hb dX6_writes_175 (by decide) ?_
              refine g_zast hx hb hK hG (5) (kd := 5) (o := 0) rfl rfl (by omega) (cp := 8) (ln := 768) rfl rfl (by omega) (by omega) dX6_writes_179 (fun H locs hG => ?_)
              obtain ⟨st15, hst15⟩ : ∃ z : St, z = ust stb 8 (0) (i) (1) := ⟨_, rfl⟩
              rw [← hst15] at hG
              replace hI := hst15 ▸ gIu_8 hI (0) (i) (v := 1) (by omega)
              have qst15 : st15 = setG 4 (0) st (i) (s1) (w1) ((if st 7 0 i = 1 then st 6 0 i else st 1 0 0)) (k1) (1) := by rw [hst15, qstb]; exact setG_4 _ _ _ _ _ _ _ _ _ _
              refine lv_aload_n hx hb dX6_writes_180 rfl (lv_at hl 1 rfl) ?_
              refine g_get hx hb hts hin6 hown hK hG (key := 0) (by omega) (gC_0 st15 ad cy) rfl 4 (by decide) L_13 (fun _ h9 => h9) rfl dX6_writes_181 ?_
              refine lv_iload_n hx hb dX6_writes_184 rfl (lv_at hl 2 rfl) ?_
              refine g_iald hx hb hK hG (1) (kd := 1) (o := 0) rfl rfl (by omega) (cp := 4) (ln := 768) rfl rfl (by omega) dX6_writes_185 ?_
              have kq16 : st15 4 (0) (i) = s1 := by rw [qst15]; exact setG_r0 _ _ _ _ _ _ _ _ _
              have hr17 := gI_4 hI (0) (i)
              rw [kq16] at hr17
              refine r_as (y := s1) kq16 ?_
              refine lv_iload_n hx hb dX6_writes_186 rfl (lv_at hl 3 rfl) ?_
              refine r_icmp_eq (tgt := 194) hx hb (by omega) dX6_writes_187 (by decide) (fun c18 => ?_) (fun c18 => ?_)
              · skip
                refine lv_iconst (v := iI (0)) hx hb dX6_writes_194 rfl ?_
                exact g_iret hx hb hr hlocks hG (by
                  have e9 := wrM_eq hres (kn := 1) (by first | (rw [if_pos (by omega)]; done) | (rw [if_neg (by omega)]; done))
                  refine ⟨?_, ?_, hI⟩
                  · rw [wrMf_eq e9]; congr 1; first | (rw [if_pos (by omega)]; done) | (rw [if_neg (by omega)]; done)
                  · rw [e9]; exact qst15) dX6_writes_195
              · skip
                refine lv_iconst (v := iI (1)) hx hb dX6_writes_190 rfl ?_
                refine lv_goto (tgt := 195) hx hb dX6_writes_191 (by decide) ?_
                exact g_iret hx hb hr hlocks hG (by
                  have e9 := wrM_eq hres (kn := 1) (by first | (rw [if_pos (by omega)]; done) | (rw [if_neg (by omega)]; done))
                  refine ⟨?_, ?_, hI⟩
                  · rw [wrMf_eq e9]; congr 1; first | (rw [if_pos (by omega)]; done) | (rw [if_neg (by omega)]; done)
                  · rw [e9]; exact qst15) dX6_writes_195
        refine lv_iload_n hx hb dX6_writes_32 rfl (lv_at hl 0 rfl) ?_
        refine lv_bipush (v := iI (16)) hx hb dX6_writes_33 (by decide +kernel) ?_
        refine r_icmp_ge (tgt := 150) hx hb (by omega) dX6_writes_35 (by decide) (fun c19 => ?_) (fun c19 => ?_)
        · skip
          exact hlab150   _ _ _ (by exact (hfin.symm.trans (wrL_end (by omega)))) hG (lv_sub hl [0, 1, 2, 3] rfl)
        · skip
          refine lv_aload_n hx hb dX6_writes_38 rfl (lv_at hl 1 rfl) ?_
          refine g_get hx hb hts hin6 hown hK hG (key := 0) (by omega) (gC_0 stb ad cy) rfl 4 (by decide) L_13 (fun _ h9 => h9) rfl dX6_writes_39 ?_
          refine lv_iload_n hx hb dX6_writes_42 rfl (lv_at hl 2 rfl) ?_
          refine g_iald hx hb hK hG (1) (kd := 1) (o := 0) rfl rfl (by omega) (cp := 4) (ln := 768) rfl rfl (by omega) dX6_writes_43 ?_
          have kq20 : stb 4 (0) (i) = s1 := by rw [qstb]; exact setG_r0 _ _ _ _ _ _ _ _ _
          have hr21 := gI_4 hI (0) (i)
          rw [kq20] at hr21
          refine r_as (y := s1) kq20 ?_
          refine lv_iload_n hx hb dX6_writes_44 rfl (lv_at hl 3 rfl) ?_
          refine r_icmp_eq (tgt := 150) hx hb (by omega) dX6_writes_45 (by decide) (fun c22 => ?_) (fun c22 => ?_)
          · skip
            exact hlab150   _ _ _ (by exact (hfin.symm.trans (wrL_end (by omega)))) hG (lv_sub hl [0, 1, 2, 3] rfl)
          · skip
            refine lv_aload_n hx hb dX6_writes_48 rfl (lv_at hl 1 rfl) ?_
            refine g_get hx hb hts hin6 hown hK hG (key := 0) (by omega) (gC_0 stb ad cy) rfl 5 (by decide) L_17 (fun _ h9 => h9) rfl dX6_writes_49 ?_
            refine lv_iload_n hx hb dX6_writes_52 rfl (lv_at hl 2 rfl) ?_
            refine lv_dup2_11 hx hb dX6_writes_53 rfl rfl ?_
            refine g_iald hx hb hK hG (2) (kd := 2) (o := 0) rfl rfl (by omega) (cp := 5) (ln := 768) rfl rfl (by omega) dX6_writes_54 ?_
            have kq23 : stb 5 (0) (i) = w1 := by rw [qstb]; exact setG_r1 _ _ _ _ _ _ _ _ _
            have hr24 := gI_5 hI (0) (i)
            rw [kq23] at hr24
            refine r_as (y := w1) kq23 ?_
            refine lv_iconst (v := iI (1)) hx hb dX6_writes_55 rfl ?_
            refine r_iadd hx hb dX6_writes_56 ?_
            refine r_nm (fun v25 ev25 => ?_)
            refine g_iast hx hb hK hG (2) (kd := 2) (o := 0) rfl rfl (by omega) (cp := 5) (ln := 768) rfl rfl (by omega) dX6_writes_57 (fun H locs hG => ?_)
            obtain ⟨st26, hst26⟩ : ∃ z : St, z = ust stb 5 (0) (i) (v25) := ⟨_, rfl⟩
            rw [← hst26] at hG
            replace hI := hst26 ▸ gIu_5 hI (0) (i) (v := v25) (by omega)
            have qst26 : st26 = setG 4 (0) st (i) (s1) (v25) ((if st 7 0 i = 1 then st 6 0 i else st 1 0 0)) (k1) (st 8 0 i) := by rw [hst26, qstb]; exact setG_1 _ _ _ _ _ _ _ _ _ _
            refine lv_aload_n hx hb dX6_writes_58 rfl (lv_at hl 1 rfl) ?_
            refine g_get hx hb hts hin6 hown hK hG (key := 0) (by omega) (gC_0 st26 ad cy) rfl 7 (by decide) L_23 (fun _ h9 => h9) rfl dX6_writes_59 ?_
            refine lv_iload_n hx hb dX6_writes_62 rfl (lv_at hl 2 rfl) ?_
            refine g_zald hx hb hK hG (4) (kd := 4) (o := 0) rfl rfl (by omega) (cp := 7) (ln := 768) rfl rfl (by omega) dX6_writes_63 ?_
            have kq27 : st26 7 (0) (i) = k1 := by rw [qst26]; exact setG_r3 _ _ _ _ _ _ _ _ _
            have hr28 := gI_7 hI (0) (i)
            rw [kq27] at hr28
            refine r_as (y := k1) kq27 ?_
            refine r_if_ne (tgt := 144) hx hb (by omega) dX6_writes_64 (by decide) (fun c29 => ?_) (fun c29 => ?_)
            · skip
              obtain ⟨v30, ev30⟩ : ∃ y : Int, y = x3 + (1) := ⟨_, rfl⟩
              refine lv_iinc (v := iI v30) (lv' := [(3, .int (iI (v30))), (0, .ref (ad 0)), (1, .int (iI (i))), (2, .int (iI (want)))]) hx hb dX6_writes_144 hl (k := 0) rfl (by rw [ev30]; exact iI_add _ _) (by decide) rfl (fun ls hl => ?_)
              refine lv_goto (tgt := 32) hx hb dX6_writes_147 (by decide) ?_
              exact ih32 (v30) ((s1)) ((v25)) ((k1)) st26 _ _ _ (by omega) (by omega) (by exact qst26) (by exact (wrL_step (x := x3) (y := (v30)) (by omega) (by omega) (by omega) (by omega)).trans hfin) (by omega) hI hG (lv_sub hl [0, 1, 2, 3] rfl)
            · skip
              refine lv_aload_n hx hb dX6_writes_67 rfl (lv_at hl 1 rfl) ?_
              refine g_get hx hb hts hin6 hown hK hG (key := 0) (by omega) (gC_0 st26 ad cy) rfl 4 (by decide) L_13 (fun _ h9 => h9) rfl dX6_writes_68 ?_
              refine lv_iload_n hx hb dX6_writes_71 rfl (lv_at hl 2 rfl) ?_
              refine g_iald hx hb hK hG (1) (kd := 1) (o := 0) rfl rfl (by omega) (cp := 4) (ln := 768) rfl rfl (by omega) dX6_writes_72 ?_
              have kq31 : st26 4 (0) (i) = s1 := by rw [qst26]; exact setG_r0 _ _ _ _ _ _ _ _ _
              have hr32 := gI_4 hI (0) (i)
              rw [kq31] at hr32
              refine r_as (y := s1) kq31 ?_
              refine lv_iconst (v := iI (2)) hx hb dX6_writes_73 rfl ?_
              refine r_icmp_ge (tgt := 81) hx hb (by omega) dX6_writes_74 (by decide) (fun c33 => ?_) (fun c33 => ?_)
              · skip
                refine lv_aload_n hx hb dX6_writes_81 rfl (lv_at hl 1 rfl) ?_
                refine g_get hx hb hts hin6 hown hK hG (key := 0) (by omega) (gC_0 st26 ad cy) rfl 4 (by decide) L_13 (fun _ h9 => h9) rfl dX6_writes_82 ?_
                refine lv_iload_n hx hb dX6_writes_85 rfl (lv_at hl 2 rfl) ?_
                refine g_iald hx hb hK hG (1) (kd := 1) (o := 0) rfl rfl (by omega) (cp := 4) (ln := 768) rfl rfl (by omega) dX6_writes_86 ?_
                have kq34 : st26 4 (0) (i) = s1 := by rw [qst26]; exact setG_r0 _ _ _ _ _ _ _ _ _
                have hr35 := gI_4 hI (0) (i)
                rw [kq34] at hr35
                refine r_as (y := s1) kq34 ?_
                refine lv_iconst (v := iI (2)) hx hb dX6_writes_87 rfl ?_
                refine r_isub hx hb dX6_writes_88 ?_
                refine r_nm (fun v36 ev36 => ?_)
                refine lv_istore (lv' := [(4, .int (iI (v36))), (3, .int (iI (x3))), (0, .ref (ad 0)), (1, .int (iI (i))), (2, .int (iI (want)))]) hx hb dX6_writes_89 hl (by decide) rfl (fun ls hl => ?_)
                refine lv_aload_n hx hb dX6_writes_91 rfl (lv_at hl 2 rfl) ?_
                refine g_get hx hb hts hin6 hown hK hG (key := 0) (by omega) (gC_0 st26 ad cy) rfl 4 (by decide) L_13 (fun _ h9 => h9) rfl dX6_writes_92 ?_
                refine lv_iload_n hx hb dX6_writes_95 rfl (lv_at hl 3 rfl) ?_
                refine lv_aload_n hx hb dX6_writes_96 rfl (lv_at hl 2 rfl) ?_
                refine g_get hx hb hts hin6 hown hK hG (key := 0) (by omega) (gC_0 st26 ad cy) rfl 4 (by decide) L_13 (fun _ h9 => h9) rfl dX6_writes_97 ?_
                refine lv_iload_n hx hb dX6_writes_100 rfl (lv_at hl 3 rfl) ?_
                refine g_iald hx hb hK hG (1) (kd := 1) (o := 0) rfl rfl (by omega) (cp := 4) (ln := 768) rfl rfl (by omega) dX6_writes_101 ?_
                have kq37 : st26 4 (0) (i) = s1 := by rw [qst26]; exact setG_r0 _ _ _ _ _ _ _ _ _
                have hr38 := gI_4 hI (0) (i)
                rw [kq37] at hr38
                refine r_as (y := s1) kq37 ?_
                refine lv_iload_n hx hb dX6_writes_102 rfl (lv_at hl 4 rfl) ?_
                refine r_icmp_ge (tgt := 117) hx hb (by omega) dX6_writes_103 (by decide) (fun c39 => ?_) (fun c39 => ?_)
                · skip
                  refine lv_iload hx hb dX6_writes_117 (lv_at hl 0 rfl) ?_
                  refine g_iast hx hb hK hG (1) (kd := 1) (o := 0) rfl rfl (by omega) (cp := 4) (ln := 768) rfl rfl (by omega) dX6_writes_119 (fun H locs hG => ?_)
                  obtain ⟨st40, hst40⟩ : ∃ z : St, z = ust st26 4 (0) (i) (v36) := ⟨_, rfl⟩
                  rw [← hst40] at hG
                  replace hI := hst40 ▸ gIu_4 hI (0) (i) (v := v36) (by omega)
                  have qst40 : st40 = setG 4 (0) st (i) (v36) (v25) ((if st 7 0 i = 1 then st 6 0 i else st 1 0 0)) (k1) (st 8 0 i) := by rw [hst40, qst26]; exact setG_0 _ _ _ _ _ _ _ _ _ _
                  refine lv_aload_n hx hb dX6_writes_120 rfl (lv_at hl 2 rfl) ?_
                  refine g_get hx hb hts hin6 hown hK hG (key := 0) (by omega) (gC_0 st40 ad cy) rfl 7 (by decide) L_23 (fun _ h9 => h9) rfl dX6_writes_121 ?_
                  refine lv_iload_n hx hb dX6_writes_124 rfl (lv_at hl 3 rfl) ?_
                  refine lv_aload_n hx hb dX6_writes_125 rfl (lv_at hl 2 rfl) ?_
                  refine g_get hx hb hts hin6 hown hK hG (key := 0) (by omega) (gC_0 st40 ad cy) rfl 5 (by decide) L_17 (fun _ h9 => h9) rfl dX6_writes_126 ?_
                  refine lv_iload_n hx hb dX6_writes_129 rfl (lv_at hl 3 rfl) ?_
                  refine g_iald hx hb hK hG (2) (kd := 2) (o := 0) rfl rfl (by omega) (cp := 5) (ln := 768) rfl rfl (by omega) dX6_writes_130 ?_
                  have kq41 : st40 5 (0) (i) = v25 := by rw [qst40]; exact setG_r1 _ _ _ _ _ _ _ _ _
                  have hr42 := gI_5 hI (0) (i)
                  rw [kq41] at hr42
                  refine r_as (y := v25) kq41 ?_
                  refine lv_aload_n hx hb dX6_writes_131 rfl (lv_at hl 2 rfl) ?_
                  refine g_get hx hb hts hin6 hown hK hG (key := 0) (by omega) (gC_0 st40 ad cy) rfl 3 (by decide) L_7 (fun _ h9 => h9) rfl dX6_writes_132 ?_
                  have hr43 := gI_3 hI (0) (0)
                  have kq44 : st40 3 (0) (0) = st 3 (0) (0) := by rw [qst40, setG_c _ _ _ _ _ _ _ _ _ (by decide)]
                  rw [kq44] at hr43
                  refine r_as kq44 ?_
                  refine r_nm (fun v45 ev45 => ?_)
                  rw [← ev45] at hr43
                  refine r_icmp_lt (tgt := 142) hx hb (by omega) dX6_writes_135 (by decide) (fun c46 => ?_) (fun c46 => ?_)
                  · skip
                    refine lv_iconst (v := iI (0)) hx hb dX6_writes_142 rfl ?_
                    refine g_zast hx hb hK hG (4) (kd := 4) (o := 0) rfl rfl (by omega) (cp := 7) (ln := 768) rfl rfl (by omega) (by omega) dX6_writes_143 (fun H locs hG => ?_)
                    obtain ⟨st47, hst47⟩ : ∃ z : St, z = ust st40 7 (0) (i) (0) := ⟨_, rfl⟩
                    rw [← hst47] at hG
                    replace hI := hst47 ▸ gIu_7 hI (0) (i) (v := 0) (by omega)
                    have qst47 : st47 = setG 4 (0) st (i) (v36) (v25) ((if st 7 0 i = 1 then st 6 0 i else st 1 0 0)) (0) (st 8 0 i) := by rw [hst47, qst40]; exact setG_3 _ _ _ _ _ _ _ _ _ _
                    obtain ⟨v48, ev48⟩ : ∃ y : Int, y = x3 + (1) := ⟨_, rfl⟩
                    refine lv_iinc (v := iI v48) (lv' := [(3, .int (iI (v48))), (4, .int (iI (v36))), (0, .ref (ad 0)), (1, .int (iI (i))), (2, .int (iI (want)))]) hx hb dX6_writes_144 hl (k := 1) rfl (by rw [ev48]; exact iI_add _ _) (by decide) rfl (fun ls hl => ?_)
                    refine lv_goto (tgt := 32) hx hb dX6_writes_147 (by decide) ?_
                    exact ih32 (v48) ((v36)) ((v25)) ((0)) st47 _ _ _ (by omega) (by omega) (by exact qst47) (by exact (wrL_step (x := x3) (y := (v48)) (by omega) (by omega) (by omega) (by omega)).trans hfin) (by omega) hI hG (lv_sub hl [0, 2, 3, 4] rfl)
                  · skip
                    refine lv_iconst (v := iI (1)) hx hb dX6_writes_138 rfl ?_
                    refine lv_goto (tgt := 143) hx hb dX6_writes_139 (by decide) ?_
                    refine g_zast hx hb hK hG (4) (kd := 4) (o := 0) rfl rfl (by omega) (cp := 7) (ln := 768) rfl rfl (by omega) (by omega) dX6_writes_143 (fun H locs hG => ?_)
                    obtain ⟨st49, hst49⟩ : ∃ z : St, z = ust st40 7 (0) (i) (1) := ⟨_, rfl⟩
                    rw [← hst49] at hG
                    replace hI := hst49 ▸ gIu_7 hI (0) (i) (v := 1) (by omega)
                    have qst49 : st49 = setG 4 (0) st (i) (v36) (v25) ((if st 7 0 i = 1 then st 6 0 i else st 1 0 0)) (1) (st 8 0 i) := by rw [hst49, qst40]; exact setG_3 _ _ _ _ _ _ _ _ _ _
                    obtain ⟨v50, ev50⟩ : ∃ y : Int, y = x3 + (1) := ⟨_, rfl⟩
                    refine lv_iinc (v := iI v50) (lv' := [(3, .int (iI (v50))), (4, .int (iI (v36))), (0, .ref (ad 0)), (1, .int (iI (i))), (2, .int (iI (want)))]) hx hb dX6_writes_144 hl (k := 1) rfl (by rw [ev50]; exact iI_add _ _) (by decide) rfl (fun ls hl => ?_)
                    refine lv_goto (tgt := 32) hx hb dX6_writes_147 (by decide) ?_
                    exact ih32 (v50) ((v36)) ((v25)) ((1)) st49 _ _ _ (by omega) (by omega) (by exact qst49) (by exact (wrL_step (x := x3) (y := (v50)) (by omega) (by omega) (by omega) (by omega)).trans hfin) (by omega) hI hG (lv_sub hl [0, 2, 3, 4] rfl)
                · skip
                  refine lv_aload_n hx hb dX6_writes_106 rfl (lv_at hl 2 rfl) ?_
                  refine g_get hx hb hts hin6 hown hK hG (key := 0) (by omega) (gC_0 st26 ad cy) rfl 4 (by decide) L_13 (fun _ h9 => h9) rfl dX6_writes_107 ?_
                  refine lv_iload_n hx hb dX6_writes_110 rfl (lv_at hl 3 rfl) ?_
                  refine g_iald hx hb hK hG (1) (kd := 1) (o := 0) rfl rfl (by omega) (cp := 4) (ln := 768) rfl rfl (by omega) dX6_writes_111 ?_
                  have kq51 : st26 4 (0) (i) = s1 := by rw [qst26]; exact setG_r0 _ _ _ _ _ _ _ _ _
                  have hr52 := gI_4 hI (0) (i)
                  rw [kq51] at hr52
                  refine r_as (y := s1) kq51 ?_
                  refine lv_iconst (v := iI (1)) hx hb dX6_writes_112 rfl ?_
                  refine r_iadd hx hb dX6_writes_113 ?_
                  refine r_nm (fun v53 ev53 => ?_)
                  refine lv_goto (tgt := 119) hx hb dX6_writes_114 (by decide) ?_
                  refine g_iast hx hb hK hG (1) (kd := 1) (o := 0) rfl rfl (by omega) (cp := 4) (ln := 768) rfl rfl (by omega) dX6_writes_119 (fun H locs hG => ?_)
                  obtain ⟨st54, hst54⟩ : ∃ z : St, z = ust st26 4 (0) (i) (v53) := ⟨_, rfl⟩
                  rw [← hst54] at hG
                  replace hI := hst54 ▸ gIu_4 hI (0) (i) (v := v53) (by omega)
                  have qst54 : st54 = setG 4 (0) st (i) (v53) (v25) ((if st 7 0 i = 1 then st 6 0 i else st 1 0 0)) (k1) (st 8 0 i) := by rw [hst54, qst26]; exact setG_0 _ _ _ _ _ _ _ _ _ _
                  refine lv_aload_n hx hb dX6_writes_120 rfl (lv_at hl 2 rfl) ?_
                  refine g_get hx hb hts hin6 hown hK hG (key := 0) (by omega) (gC_0 st54 ad cy) rfl 7 (by decide) L_23 (fun _ h9 => h9) rfl dX6_writes_121 ?_
                  refine lv_iload_n hx hb dX6_writes_124 rfl (lv_at hl 3 rfl) ?_
                  refine lv_aload_n hx hb dX6_writes_125 rfl (lv_at hl 2 rfl) ?_
                  refine g_get hx hb hts hin6 hown hK hG (key := 0) (by omega) (gC_0 st54 ad cy) rfl 5 (by decide) L_17 (fun _ h9 => h9) rfl dX6_writes_126 ?_
                  refine lv_iload_n hx hb dX6_writes_129 rfl (lv_at hl 3 rfl) ?_
                  refine g_iald hx hb hK hG (2) (kd := 2) (o := 0) rfl rfl (by omega) (cp := 5) (ln := 768) rfl rfl (by omega) dX6_writes_130 ?_
                  have kq55 : st54 5 (0) (i) = v25 := by rw [qst54]; exact setG_r1 _ _ _ _ _ _ _ _ _
                  have hr56 := gI_5 hI (0) (i)
                  rw [kq55] at hr56
                  refine r_as (y := v25) kq55 ?_
                  refine lv_aload_n hx hb dX6_writes_131 rfl (lv_at hl 2 rfl) ?_
                  refine g_get hx hb hts hin6 hown hK hG (key := 0) (by omega) (gC_0 st54 ad cy) rfl 3 (by decide) L_7 (fun _ h9 => h9) rfl dX6_writes_132 ?_
                  have hr57 := gI_3 hI (0) (0)
                  have kq58 : st54 3 (0) (0) = st 3 (0) (0) := by rw [qst54, setG_c _ _ _ _ _ _ _ _ _ (by decide)]
                  rw [kq58] at hr57
                  refine r_as kq58 ?_
                  refine r_nm (fun v59 ev59 => ?_)
                  rw [← ev59] at hr57
                  refine r_icmp_lt (tgt := 142) hx hb (by omega) dX6_writes_135 (by decide) (fun c60 => ?_) (fun c60 => ?_)
                  · skip
                    refine lv_iconst (v := iI (0)) hx hb dX6_writes_142 rfl ?_
                    refine g_zast hx hb hK hG (4) (kd := 4) (o := 0) rfl rfl (by omega) (cp := 7) (ln := 768) rfl rfl (by omega) (by omega) dX6_writes_143 (fun H locs hG => ?_)
                    obtain ⟨st61, hst61⟩ : ∃ z : St, z = ust st54 7 (0) (i) (0) := ⟨_, rfl⟩
                    rw [← hst61] at hG
                    replace hI := hst61 ▸ gIu_7 hI (0) (i) (v := 0) (by omega)
                    have qst61 : st61 = setG 4 (0) st (i) (v53) (v25) ((if st 7 0 i = 1 then st 6 0 i else st 1 0 0)) (0) (st 8 0 i) := by rw [hst61, qst54]; exact setG_3 _ _ _ _ _ _ _ _ _ _
                    obtain ⟨v62, ev62⟩ : ∃ y : Int, y = x3 + (1) := ⟨_, rfl⟩
                    refine lv_iinc (v := iI v62) (lv' := [(3, .int (iI (v62))), (4, .int (iI (v36))), (0, .ref (ad 0)), (1, .int (iI (i))), (2, .int (iI (want)))]) hx hb dX6_writes_144 hl (k := 1) rfl (by rw [ev62]; exact iI_add _ _) (by decide) rfl (fun ls hl => ?_)
                    refine lv_goto (tgt := 32) hx hb dX6_writes_147 (by decide) ?_
                    exact ih32 (v62) ((v53)) ((v25)) ((0)) st61 _ _ _ (by omega) (by omega) (by exact qst61) (by exact (wrL_step (x := x3) (y := (v62)) (by omega) (by omega) (by omega) (by omega)).trans hfin) (by omega) hI hG (lv_sub hl [0, 2, 3, 4] rfl)
                  · skip
                    refine lv_iconst (v := iI (1)) hx hb dX6_writes_138 rfl ?_
                    refine lv_goto (tgt := 143) hx hb dX6_writes_139 (by decide) ?_
                    refine g_zast hx hb hK hG (4) (kd := 4) (o := 0) rfl rfl (by omega) (cp := 7) (ln := 768) rfl rfl (by omega) (by omega) dX6_writes_143 (fun H locs hG => ?_)
                    obtain ⟨st63, hst63⟩ : ∃ z : St, z = ust st54 7 (0) (i) (1) := ⟨_, rfl⟩
                    rw [← hst63] at hG
                    replace hI := hst63 ▸ gIu_7 hI (0) (i) (v := 1) (by omega)
                    have qst63 : st63 = setG 4 (0) st (i) (v53) (v25) ((if st 7 0 i = 1 then st 6 0 i else st 1 0 0)) (1) (st 8 0 i) := by rw [hst63, qst54]; exact setG_3 _ _ _ _ _ _ _ _ _ _
                    obtain ⟨v64, ev64⟩ : ∃ y : Int, y = x3 + (1) := ⟨_, rfl⟩
                    refine lv_iinc (v := iI v64) (lv' := [(3, .int (iI (v64))), (4, .int (iI (v36))), (0, .ref (ad 0)), (1, .int (iI (i))), (2, .int (iI (want)))]) hx hb dX6_writes_144 hl (k := 1) rfl (by rw [ev64]; exact iI_add _ _) (by decide) rfl (fun ls hl => ?_)
                    refine lv_goto (tgt := 32) hx hb dX6_writes_147 (by decide) ?_
                    exact ih32 (v64) ((v53)) ((v25)) ((1)) st63 _ _ _ (by omega) (by omega) (by exact qst63) (by exact (wrL_step (x := x3) (y := (v64)) (by omega) (by omega) (by omega) (by omega)).trans hfin) (by omega) hI hG (lv_sub hl [0, 2, 3, 4] rfl)
              · skip
                refine lv_iconst (v := iI (0)) hx hb dX6_writes_77 rfl ?_
                refine lv_goto (tgt := 89) hx hb dX6_writes_78 (by decide) ?_
                refine lv_istore (lv' := [(4, .int (iI (0))), (3, .int (iI (x3))), (0, .ref (ad 0)), (1, .int (iI (i))), (2, .int (iI (want)))]) hx hb dX6_writes_89 hl (by decide) rfl (fun ls hl => ?_)
                refine lv_aload_n hx hb dX6_writes_91 rfl (lv_at hl 2 rfl) ?_
                refine g_get hx hb hts hin6 hown hK hG (key := 0) (by omega) (gC_0 st26 ad cy) rfl 4 (by decide) L_13 (fun _ h9 => h9) rfl dX6_writes_92 ?_
                refine lv_iload_n hx hb dX6_writes_95 rfl (lv_at hl 3 rfl) ?_
                refine lv_aload_n hx hb dX6_writes_96 rfl (lv_at hl 2 rfl) ?_
                refine g_get hx hb hts hin6 hown hK hG (key := 0) (by omega) (gC_0 st26 ad cy) rfl 4 (by decide) L_13 (fun _ h9 => h9) rfl dX6_writes_97 ?_
                refine lv_iload_n hx hb dX6_writes_100 rfl (lv_at hl 3 rfl) ?_
                refine g_iald hx hb hK hG (1) (kd := 1) (o := 0) rfl rfl (by omega) (cp := 4) (ln := 768) rfl rfl (by omega) dX6_writes_101 ?_
                have kq65 : st26 4 (0) (i) = s1 := by rw [qst26]; exact setG_r0 _ _ _ _ _ _ _ _ _
                have hr66 := gI_4 hI (0) (i)
                rw [kq65] at hr66
                refine r_as (y := s1) kq65 ?_
                refine lv_iload_n hx hb dX6_writes_102 rfl (lv_at hl 4 rfl) ?_
                refine r_icmp_ge (tgt := 117) hx hb (by omega) dX6_writes_103 (by decide) (fun c67 => ?_) (fun c67 => ?_)
                · skip
                  refine lv_iload hx hb dX6_writes_117 (lv_at hl 0 rfl) ?_
                  refine g_iast hx hb hK hG (1) (kd := 1) (o := 0) rfl rfl (by omega) (cp := 4) (ln := 768) rfl rfl (by omega) dX6_writes_119 (fun H locs hG => ?_)
                  obtain ⟨st68, hst68⟩ : ∃ z : St, z = ust st26 4 (0) (i) (0) := ⟨_, rfl⟩
                  rw [← hst68] at hG
                  replace hI := hst68 ▸ gIu_4 hI (0) (i) (v := 0) (by omega)
                  have qst68 : st68 = setG 4 (0) st (i) (0) (v25) ((if st 7 0 i = 1 then st 6 0 i else st 1 0 0)) (k1) (st 8 0 i) := by rw [hst68, qst26]; exact setG_0 _ _ _ _ _ _ _ _ _ _
                  refine lv_aload_n hx hb dX6_writes_120 rfl (lv_at hl 2 rfl) ?_
                  refine g_get hx hb hts hin6 hown hK hG (key := 0) (by omega) (gC_0 st68 ad cy) rfl 7 (by decide) L_23 (fun _ h9 => h9) rfl dX6_writes_121 ?_
                  refine lv_iload_n hx hb dX6_writes_124 rfl (lv_at hl 3 rfl) ?_
                  refine lv_aload_n hx hb dX6_writes_125 rfl (lv_at hl 2 rfl) ?_
                  refine g_get hx hb hts hin6 hown hK hG (key := 0) (by omega) (gC_0 st68 ad cy) rfl 5 (by decide) L_17 (fun _ h9 => h9) rfl dX6_writes_126 ?_
                  refine lv_iload_n hx hb dX6_writes_129 rfl (lv_at hl 3 rfl) ?_
                  refine g_iald hx hb hK hG (2) (kd := 2) (o := 0) rfl rfl (by omega) (cp := 5) (ln := 768) rfl rfl (by omega) dX6_writes_130 ?_
                  have kq69 : st68 5 (0) (i) = v25 := by rw [qst68]; exact setG_r1 _ _ _ _ _ _ _ _ _
                  have hr70 := gI_5 hI (0) (i)
                  rw [kq69] at hr70
                  refine r_as (y := v25) kq69 ?_
                  refine lv_aload_n hx hb dX6_writes_131 rfl (lv_at hl 2 rfl) ?_
                  refine g_get hx hb hts hin6 hown hK hG (key := 0) (by omega) (gC_0 st68 ad cy) rfl 3 (by decide) L_7 (fun _ h9 => h9) rfl dX6_writes_132 ?_
                  have hr71 := gI_3 hI (0) (0)
                  have kq72 : st68 3 (0) (0) = st 3 (0) (0) := by rw [qst68, setG_c _ _ _ _ _ _ _ _ _ (by decide)]
                  rw [kq72] at hr71
                  refine r_as kq72 ?_
                  refine r_nm (fun v73 ev73 => ?_)
                  rw [← ev73] at hr71
                  refine r_icmp_lt (tgt := 142) hx hb (by omega) dX6_writes_135 (by decide) (fun c74 => ?_) (fun c74 => ?_)
                  · skip
                    refine lv_iconst (v := iI (0)) hx hb dX6_writes_142 rfl ?_
                    refine g_zast hx hb hK hG (4) (kd := 4) (o := 0) rfl rfl (by omega) (cp := 7) (ln := 768) rfl rfl (by omega) (by omega) dX6_writes_143 (fun H locs hG => ?_)
                    obtain ⟨st75, hst75⟩ : ∃ z : St, z = ust st68 7 (0) (i) (0) := ⟨_, rfl⟩
                    rw [← hst75] at hG
                    replace hI := hst75 ▸ gIu_7 hI (0) (i) (v := 0) (by omega)
                    have qst75 : st75 = setG 4 (0) st (i) (0) (v25) ((if st 7 0 i = 1 then st 6 0 i else st 1 0 0)) (0) (st 8 0 i) := by rw [hst75, qst68]; exact setG_3 _ _ _ _ _ _ _ _ _ _
                    obtain ⟨v76, ev76⟩ : ∃ y : Int, y = x3 + (1) := ⟨_, rfl⟩
                    refine lv_iinc (v := iI v76) (lv' := [(3, .int (iI (v76))), (4, .int (iI (0))), (0, .ref (ad 0)), (1, .int (iI (i))), (2, .int (iI (want)))]) hx hb dX6_writes_144 hl (k := 1) rfl (by rw [ev76]; exact iI_add _ _) (by decide) rfl (fun ls hl => ?_)
                    refine lv_goto (tgt := 32) hx hb dX6_writes_147 (by decide) ?_
                    exact ih32 (v76) ((0)) ((v25)) ((0)) st75 _ _ _ (by omega) (by omega) (by exact qst75) (by exact (wrL_step (x := x3) (y := (v76)) (by omega) (by omega) (by omega) (by omega)).trans hfin) (by omega) hI hG (lv_sub hl [0, 2, 3, 4] rfl)
                  · skip
                    refine lv_iconst (v := iI (1)) hx hb dX6_writes_138 rfl ?_
                    refine lv_goto (tgt := 143) hx hb dX6_writes_139 (by decide) ?_
                    refine g_zast hx hb hK hG (4) (kd := 4) (o := 0) rfl rfl (by omega) (cp := 7) (ln := 768) rfl rfl (by omega) (by omega) dX6_writes_143 (fun H locs hG => ?_)
                    obtain ⟨st77, hst77⟩ : ∃ z : St, z = ust st68 7 (0) (i) (1) := ⟨_, rfl⟩
                    rw [← hst77] at hG
                    replace hI := hst77 ▸ gIu_7 hI (0) (i) (v := 1) (by omega)
                    have qst77 : st77 = setG 4 (0) st (i) (0) (v25) ((if st 7 0 i = 1 then st 6 0 i else st 1 0 0)) (1) (st 8 0 i) := by rw [hst77, qst68]; exact setG_3 _ _ _ _ _ _ _ _ _ _
                    obtain ⟨v78, ev78⟩ : ∃ y : Int, y = x3 + (1) := ⟨_, rfl⟩
                    refine lv_iinc (v := iI v78) (lv' := [(3, .int (iI (v78))), (4, .int (iI (0))), (0, .ref (ad 0)), (1, .int (iI (i))), (2, .int (iI (want)))]) hx hb dX6_writes_144 hl (k := 1) rfl (by rw [ev78]; exact iI_add _ _) (by decide) rfl (fun ls hl => ?_)
                    refine lv_goto (tgt := 32) hx hb dX6_writes_147 (by decide) ?_
                    exact ih32 (v78) ((0)) ((v25)) ((1)) st77 _ _ _ (by omega) (by omega) (by exact qst77) (by exact (wrL_step (x := x3) (y := (v78)) (by omega) (by omega) (by omega) (by omega)).trans hfin) (by omega) hI hG (lv_sub hl [0, 2, 3, 4] rfl)
                · skip
                  refine lv_aload_n hx hb dX6_writes_106 rfl (lv_at hl 2 rfl) ?_
                  refine g_get hx hb hts hin6 hown hK hG (key := 0) (by omega) (gC_0 st26 ad cy) rfl 4 (by decide) L_13 (fun _ h9 => h9) rfl dX6_writes_107 ?_
                  refine lv_iload_n hx hb dX6_writes_110 rfl (lv_at hl 3 rfl) ?_
                  refine g_iald hx hb hK hG (1) (kd := 1) (o := 0) rfl rfl (by omega) (cp := 4) (ln := 768) rfl rfl (by omega) dX6_writes_111 ?_
                  have kq79 : st26 4 (0) (i) = s1 := by rw [qst26]; exact setG_r0 _ _ _ _ _ _ _ _ _
                  have hr80 := gI_4 hI (0) (i)
                  rw [kq79] at hr80
                  refine r_as (y := s1) kq79 ?_
                  refine lv_iconst (v := iI (1)) hx hb dX6_writes_112 rfl ?_
                  refine r_iadd hx hb dX6_writes_113 ?_
                  refine r_nm (fun v81 ev81 => ?_)
                  refine lv_goto (tgt := 119) hx hb dX6_writes_114 (by decide) ?_
                  refine g_iast hx hb hK hG (1) (kd := 1) (o := 0) rfl rfl (by omega) (cp := 4) (ln := 768) rfl rfl (by omega) dX6_writes_119 (fun H locs hG => ?_)
                  obtain ⟨st82, hst82⟩ : ∃ z : St, z = ust st26 4 (0) (i) (v81) := ⟨_, rfl⟩
                  rw [← hst82] at hG
                  replace hI := hst82 ▸ gIu_4 hI (0) (i) (v := v81) (by omega)
                  have qst82 : st82 = setG 4 (0) st (i) (v81) (v25) ((if st 7 0 i = 1 then st 6 0 i else st 1 0 0)) (k1) (st 8 0 i) := by rw [hst82, qst26]; exact setG_0 _ _ _ _ _ _ _ _ _ _
                  refine lv_aload_n hx hb dX6_writes_120 rfl (lv_at hl 2 rfl) ?_
                  refine g_get hx hb hts hin6 hown hK hG (key := 0) (by omega) (gC_0 st82 ad cy) rfl 7 (by decide) L_23 (fun _ h9 => h9) rfl dX6_writes_121 ?_
                  refine lv_iload_n hx hb dX6_writes_124 rfl (lv_at hl 3 rfl) ?_
                  refine lv_aload_n hx hb dX6_writes_125 rfl (lv_at hl 2 rfl) ?_
                  refine g_get hx hb hts hin6 hown hK hG (key := 0) (by omega) (gC_0 st82 ad cy) rfl 5 (by decide) L_17 (fun _ h9 => h9) rfl dX6_writes_126 ?_
                  refine lv_iload_n hx hb dX6_writes_129 rfl (lv_at hl 3 rfl) ?_
                  refine g_iald hx hb hK hG (2) (kd := 2) (o := 0) rfl rfl (by omega) (cp := 5) (ln := 768) rfl rfl (by omega) dX6_writes_130 ?_
                  have kq83 : st82 5 (0) (i) = v25 := by rw [qst82]; exact setG_r1 _ _ _ _ _ _ _ _ _
                  have hr84 := gI_5 hI (0) (i)
                  rw [kq83] at hr84
                  refine r_as (y := v25) kq83 ?_
                  refine lv_aload_n hx hb dX6_writes_131 rfl (lv_at hl 2 rfl) ?_
                  refine g_get hx hb hts hin6 hown hK hG (key := 0) (by omega) (gC_0 st82 ad cy) rfl 3 (by decide) L_7 (fun _ h9 => h9) rfl dX6_writes_132 ?_
                  have hr85 := gI_3 hI (0) (0)
                  have kq86 : st82 3 (0) (0) = st 3 (0) (0) := by rw [qst82, setG_c _ _ _ _ _ _ _ _ _ (by decide)]
                  rw [kq86] at hr85
                  refine r_as kq86 ?_
                  refine r_nm (fun v87 ev87 => ?_)
                  rw [← ev87] at hr85
                  refine r_icmp_lt (tgt := 142) hx hb (by omega) dX6_writes_135 (by decide) (fun c88 => ?_) (fun c88 => ?_)
                  · skip
                    refine lv_iconst (v := iI (0)) hx hb dX6_writes_142 rfl ?_
                    refine g_zast hx hb hK hG (4) (kd := 4) (o := 0) rfl rfl (by omega) (cp := 7) (ln := 768) rfl rfl (by omega) (by omega) dX6_writes_143 (fun H locs hG => ?_)
                    obtain ⟨st89, hst89⟩ : ∃ z : St, z = ust st82 7 (0) (i) (0) := ⟨_, rfl⟩
                    rw [← hst89] at hG
                    replace hI := hst89 ▸ gIu_7 hI (0) (i) (v := 0) (by omega)
                    have qst89 : st89 = setG 4 (0) st (i) (v81) (v25) ((if st 7 0 i = 1 then st 6 0 i else st 1 0 0)) (0) (st 8 0 i) := by rw [hst89, qst82]; exact setG_3 _ _ _ _ _ _ _ _ _ _
                    obtain ⟨v90, ev90⟩ : ∃ y : Int, y = x3 + (1) := ⟨_, rfl⟩
                    refine lv_iinc (v := iI v90) (lv' := [(3, .int (iI (v90))), (4, .int (iI (0))), (0, .ref (ad 0)), (1, .int (iI (i))), (2, .int (iI (want)))]) hx hb dX6_writes_144 hl (k := 1) rfl (by rw [ev90]; exact iI_add _ _) (by decide) rfl (fun ls hl => ?_)
                    refine lv_goto (tgt := 32) hx hb dX6_writes_147 (by decide) ?_
                    exact ih32 (v90) ((v81)) ((v25)) ((0)) st89 _ _ _ (by omega) (by omega) (by exact qst89) (by exact (wrL_step (x := x3) (y := (v90)) (by omega) (by omega) (by omega) (by omega)).trans hfin) (by omega) hI hG (lv_sub hl [0, 2, 3, 4] rfl)
                  · skip
                    refine lv_iconst (v := iI (1)) hx hb dX6_writes_138 rfl ?_
                    refine lv_goto (tgt := 143) hx hb dX6_writes_139 (by decide) ?_
                    refine g_zast hx hb hK hG (4) (kd := 4) (o := 0) rfl rfl (by omega) (cp := 7) (ln := 768) rfl rfl (by omega) (by omega) dX6_writes_143 (fun H locs hG => ?_)
                    obtain ⟨st91, hst91⟩ : ∃ z : St, z = ust st82 7 (0) (i) (1) := ⟨_, rfl⟩
                    rw [← hst91] at hG
                    replace hI := hst91 ▸ gIu_7 hI (0) (i) (v := 1) (by omega)
                    have qst91 : st91 = setG 4 (0) st (i) (v81) (v25) ((if st 7 0 i = 1 then st 6 0 i else st 1 0 0)) (1) (st 8 0 i) := by rw [hst91, qst82]; exact setG_3 _ _ _ _ _ _ _ _ _ _
                    obtain ⟨v92, ev92⟩ : ∃ y : Int, y = x3 + (1) := ⟨_, rfl⟩
                    refine lv_iinc (v := iI v92) (lv' := [(3, .int (iI (v92))), (4, .int (iI (0))), (0, .ref (ad 0)), (1, .int (iI (i))), (2, .int (iI (want)))]) hx hb dX6_writes_144 hl (k := 1) rfl (by rw [ev92]; exact iI_add _ _) (by decide) rfl (fun ls hl => ?_)
                    refine lv_goto (tgt := 32) hx hb dX6_writes_147 (by decide) ?_
                    exact ih32 (v92) ((v81)) ((v25)) ((1)) st91 _ _ _ (by omega) (by omega) (by exact qst91) (by exact (wrL_step (x := x3) (y := (v92)) (by omega) (by omega) (by omega) (by omega)).trans hfin) (by omega) hI hG (lv_sub hl [0, 2, 3, 4] rfl)
    exact hloop32 _ (0) ((if st 7 0 i = 1 then st 4 0 i else conM st i)) (st 5 0 i) (st 7 0 i) sta _ _ _ (Nat.lt_succ_self _) (by omega) (by exact hsta) (by rw [show ((16 : Int) - 0).toNat = 16 from rfl]) (by omega) hI hG (lv_sub hl [0, 1, 2, 3] rfl)
  refine lv_aload_n hx hb dX6_writes_0 rfl (lv_at hl 0 rfl) ?_
  refine g_get hx hb hts hin6 hown hK hG (key := 0) (by omega) (gC_0 st ad cy) rfl 7 (by decide) L_23 (fun _ h9 => h9) rfl dX6_writes_1 ?_
  refine lv_iload_n hx hb dX6_writes_4 rfl (lv_at hl 1 rfl) ?_
  refine g_zald hx hb hK hG (4) (kd := 4) (o := 0) rfl rfl (by omega) (cp := 7) (ln := 768) rfl rfl (by omega) dX6_writes_5 ?_
  have hr93 := gI_7 hI (0) (i)
  refine r_nm (fun v94 ev94 => ?_)
  rw [← ev94] at hr93
  refine r_if_ne (tgt := 30) hx hb (by omega) dX6_writes_6 (by decide) (fun c95 => ?_) (fun c95 => ?_)
  · skip
    exact hlab30   st _ _ _ (by first | (rw [if_pos (by omega), if_pos (by omega)]; exact qst) | (rw [if_neg (by omega), if_neg (by omega)]; exact qst.trans (by congr 1 <;> omega))) hI hG (lv_sub hl [0, 1, 2] rfl)
  · skip
    refine lv_aload_n hx hb dX6_writes_9 rfl (lv_at hl 0 rfl) ?_
    refine g_get hx hb hts hin6 hown hK hG (key := 0) (by omega) (gC_0 st ad cy) rfl 4 (by decide) L_13 (fun _ h9 => h9) rfl dX6_writes_10 ?_
    refine lv_iload_n hx hb dX6_writes_13 rfl (lv_at hl 1 rfl) ?_
    refine lv_aload_n hx hb dX6_writes_14 rfl (lv_at hl 0 rfl) ?_
    refine lv_iload_n hx hb dX6_writes_15 rfl (lv_at hl 1 rfl) ?_
    refine g_goi hG hA (va_runV (As := [.int (iI (i))]) (rest := [.int (iI (i)), .ref (ad 1)]) ⟨hx, hb, hml, hown, hts⟩ (mX6_conducts l D cy ad n st _ fz (wb + 16) hn hI (by omega) (i) (by omega) (by omega)) (cwV 1 hts gX6_writes_X6_conducts rfl rfl rfl (by decide +kernel) ⟨Nat.le_of_ble_eq_true rfl, Nat.le_of_ble_eq_true rfl⟩) ⟨g_blind, va_recv hK hG.1 (q0 := 0) (ci := 6) rfl ((gw_at (by omega)).trans (by rw [gC_0 st ad cy])), g_pre hK hG hA hN hZ⟩ rfl rfl hl.1 rfl (lv_room (Nat.le_of_ble_eq_true rfl)) dX6_writes_16 ⟨Nat.zero_le _, Nat.zero_le _⟩) (fun r9 s9 H locs hp hG => ?_)
    obtain ⟨rfl, hs9⟩ := hp
    rw [hs9] at hG
    clear hs9
    refine r_nm (fun v96 ev96 => ?_)
    have hr97 := conM_r hI (i) (by omega)
    rw [← ev96] at hr97
    refine g_iast hx hb hK hG (1) (kd := 1) (o := 0) rfl rfl (by omega) (cp := 4) (ln := 768) rfl rfl (by omega) dX6_writes_19 (fun H locs hG => ?_)
    obtain ⟨st98, hst98⟩ : ∃ z : St, z = ust st 4 (0) (i) (v96) := ⟨_, rfl⟩
    rw [← hst98] at hG
    replace hI := hst98 ▸ gIu_4 hI (0) (i) (v := v96) (by omega)
    have qst98 : st98 = setG 4 (0) st (i) (v96) (st 5 0 i) (st 6 0 i) (st 7 0 i) (st 8 0 i) := by rw [hst98]; exact setG_u0 _ _ _ _ _
    refine lv_aload_n hx hb dX6_writes_20 rfl (lv_at hl 0 rfl) ?_
    refine g_get hx hb hts hin6 hown hK hG (key := 0) (by omega) (gC_0 st98 ad cy) rfl 6 (by decide) L_20 (fun _ h9 => h9) rfl dX6_writes_21 ?_
    refine lv_iload_n hx hb dX6_writes_24 rfl (lv_at hl 1 rfl) ?_
    refine lv_aload_n hx hb dX6_writes_25 rfl (lv_at hl 0 rfl) ?_
    refine g_get hx hb hts hin6 hown hK hG (key := 0) (by omega) (gC_0 st98 ad cy) rfl 1 (by decide) L_92 (fun _ h9 => h9) rfl dX6_writes_26 ?_
    have hr99 := gI_1 hI (0) (0)
    have kq100 : st98 1 (0) (0) = st 1 (0) (0) := by rw [qst98, setG_c _ _ _ _ _ _ _ _ _ (by decide)]
    rw [kq100] at hr99
    refine r_as kq100 ?_
    refine r_nm (fun v101 ev101 => ?_)
    rw [← ev101] at hr99
    refine g_iast hx hb hK hG (3) (kd := 3) (o := 0) rfl rfl (by omega) (cp := 6) (ln := 768) rfl rfl (by omega) dX6_writes_29 (fun H locs hG => ?_)
    obtain ⟨st102, hst102⟩ : ∃ z : St, z = ust st98 6 (0) (i) (v101) := ⟨_, rfl⟩
    rw [← hst102] at hG
    replace hI := hst102 ▸ gIu_6 hI (0) (i) (v := v101) (by omega)
    have qst102 : st102 = setG 4 (0) st (i) (v96) (st 5 0 i) (v101) (st 7 0 i) (st 8 0 i) := by rw [hst102, qst98]; exact setG_2 _ _ _ _ _ _ _ _ _ _
    exact hlab30   st102 _ _ _ (by first | (rw [if_pos (by omega), if_pos (by omega)]; exact qst) | (rw [if_neg (by omega), if_neg (by omega)]; exact qst102.trans (by congr 1 <;> omega))) hI hG (lv_sub hl [0, 1, 2] rfl)
set_option maxHeartbeats 400000 in
set_option maxRecDepth 100000 in
theorem mX6_loads (l : Launch) (D : va_G) (cy : Nat → ClassId) (ad : Nat → Nat) (n : Nat) (st : St) (sz fz : Nat) (wb : Int) (hn : 75 ≤ n) (hI : GI wb st) (hW : wb ≤ 1900000) (a : Int) (ha : 0 ≤ a ∧ a < 6) (htl : 0 ≤ st 20 0 a) (hsi : ∀ j : Int, st 6 0 j ≤ st 1 0 0) : Met l yX6_loads wsX6_loads ({ frames := 2, cells := 0, slots := 0, locals := 49 }) (va_Pc [.ref (ad 0), .int (iI (a))] (gB D cy ad n st sz fz)) (va_Qi (fun (r : Int32) (st' : St) => r = iI (ldF st a) ∧ st' = ldS st a ∧ GI (wb + 2048) st') (gP D cy ad n) (gA n ad sz)) 0 0 (gA n ad sz) := by
  refine Met.ofW (cc := cX6_loads) (maxL := 6) (ret := (some .int)) (by decide) rfl ?_
  intro p e s m args below meth c s₁ B hml hv
  obtain ⟨rfl, hsz, hP, hK, hD0, hN, hZ⟩ := hv
  have hx := B.exec
  have hb := B.bytes
  have hr := B.returns
  have hts := atoms_spec (ws := wsX6_loads) B.pre
  have hown : s.vm.findClass RX6 = some m.cls := findClass_of_methodNamed B.named
  have hlocks := B.notSynchronized
  subst hsz
  have hA : ∀ q : Nat, s.heap.size ≤ q → gA n ad s.heap.size q := fun q h => Or.inr h
  have hG : GH D cy ad n st (gA n ad s.heap.size) s.heap s.heap [] := ⟨hP, gw_A hD0, va_S.rf⟩
  have hl := lv_entry ([.ref (ad 0), .int (iI (a))]) (n := 6) (Nat.le_of_ble_eq_true rfl)
  rw [lg_entry_eq]
  generalize (lg_sl ([.ref (ad 0), .int (iI (a))]) ++ List.replicate (6 - (lg_sl ([.ref (ad 0), .int (iI (a))])).length) Slot.unset).toArray = ls at hl ⊢
  have hl : lv_has ls 6 [(0, .ref (ad 0)), (1, .int (iI (a)))] := hl
  have hin6 : ∀ w ∈ u_ws RX6 TX6 25, w ∈ wsX6_loads := by decide +kernel
  have L_45 := hts (.fieldLink RX6 45 "CrossbarryModel" "inputs" "[I") (by decide +kernel)
  have L_48 := hts (.fieldLink RX6 48 "CrossbarryModel" "outputs" "[I") (by decide +kernel)
  have L_60 := hts (.fieldLink RX6 60 "CrossbarryModel" "tileAt" "[I") (by decide +kernel)
  have L_63 := hts (.fieldLink RX6 63 "CrossbarryModel" "rows" "[I") (by decide +kernel)
  have hou := gI_16 hI 0 a
  have hin := gI_15 hI 0 a
  have hta := gI_20 hI 0 a
  refine lv_iconst (v := iI (0)) hx hb dX6_loads_0 rfl ?_
  refine lv_istore_n (lv' := [(2, .int (iI (0))), (0, .ref (ad 0)), (1, .int (iI (a)))]) hx hb dX6_loads_1 rfl hl (by decide) rfl (fun ls hl => ?_)
  refine lv_iconst (v := iI (0)) hx hb dX6_loads_2 rfl ?_
  refine lv_istore_n (lv' := [(3, .int (iI (0))), (2, .int (iI (0))), (0, .ref (ad 0)), (1, .int (iI (a)))]) hx hb dX6_loads_3 rfl hl (by decide) rfl (fun ls hl => ?_)
  have hloop4 : ∀ (N : Nat)  (ki : Nat) (q : Nat) (stb : St) (H : Heap) (locs : List Loc) (ls : Array Slot), 8 - ki < N → ((ki : Int) ≤ st 15 0 a) → (q = 4 * (st 16 0 a).toNat * ki) → (q ≤ 16 * ki) → (stb = (runW (ldc st a) (ldw st a) q st).1) → GI (wb + 16 * (q : Int)) stb → GH D cy ad n stb (gA n ad s.heap.size) s.heap H locs → lv_has ls 6 [(2, .int (iI ((runW (ldc st a) (ldw st a) q st).2))), (3, .int (iI (((ki : Nat) : Int)))), (0, .ref (ad 0)), (1, .int (iI (a)))] → W p l e (headSpec wsX6_loads { frames := 2, cells := 0, slots := 0, locals := 49 }).room s m (#[.ref (ad 0), .int (iI (a))] : Array Value) below meth c H locs 0 0 (MQ below (va_Qi (fun (r : Int32) (st' : St) => r = iI (ldF st a) ∧ st' = ldS st a ∧ GI (wb + 2048) st') (gP D cy ad n) (gA n ad s.heap.size)) (#[.ref (ad 0), .int (iI (a))] : Array Value) s 0 0 (gA n ad s.heap.size)) (F0 m 4 ls []) := by
    intro N
    induction N with
    | zero => intro  ki q stb H locs ls hm; exact absurd hm (Nat.not_lt_zero _)
    | succ N ih4 =>
      intro  ki q stb H locs ls hm hki hq hqb hstb hI hG hl
      have hfb : ∀ c o i, (c < 4 ∨ 8 < c) → stb c o i = st c o i := fun c o i h => by rw [hstb]; exact runW_c _ _ _ _ h _
      refine lv_iload_n hx hb dX6_loads_4 rfl (lv_at hl 1 rfl) ?_
      refine lv_aload_n hx hb dX6_loads_5 rfl (lv_at hl 2 rfl) ?_
      refine g_get hx hb hts hin6 hown hK hG (key := 0) (by omega) (gC_0 stb ad cy) rfl 15 (by decide) L_45 (fun _ h9 => h9) rfl dX6_loads_6 ?_
      refine lv_iload_n hx hb dX6_loads_9 rfl (lv_at hl 3 rfl) ?_
      refine g_iald hx hb hK hG (11) (kd := 11) (o := 0) rfl rfl (by omega) (cp := 15) (ln := 6) rfl rfl (by omega) dX6_loads_10 ?_
      have hr1 := gI_15 hI (0) (a)
      have kq2 : stb 15 (0) (a) = st 15 (0) (a) := by rw [hfb _ _ _ (by decide)]
      rw [kq2] at hr1
      refine r_as kq2 ?_
      refine r_nm (fun v3 ev3 => ?_)
      rw [← ev3] at hr1
      refine r_icmp_ge (tgt := 89) hx hb (by omega) dX6_loads_11 (by decide) (fun c4 => ?_) (fun c4 => ?_)
      · skip
        refine lv_iload_n hx hb dX6_loads_89 rfl (lv_at hl 0 rfl) ?_
        exact g_iret hx hb hr hlocks hG (by
          refine ⟨?_, ?_, GI_mono (by omega) hI⟩
          · unfold ldF; rw [show (st 15 0 a).toNat = ki by omega, ← hq]
          · unfold ldS; rw [show (st 15 0 a).toNat = ki by omega, ← hq]; exact hstb) dX6_loads_90
      · skip
        refine lv_iconst (v := iI (0)) hx hb dX6_loads_14 rfl ?_
        refine lv_istore (lv' := [(4, .int (iI (0))), (2, .int (iI ((runW (ldc st a) (ldw st a) q st).2))), (3, .int (iI (((ki : Nat) : Int)))), (0, .ref (ad 0)), (1, .int (iI (a)))]) hx hb dX6_loads_15 hl (by decide) rfl (fun ls hl => ?_)
        have hloop17 : ∀ (N : Nat)  (kk : Nat) (stc : St) (H : Heap) (locs : List Loc) (ls : Array Slot), 16 - kk < N → (kk ≤ 4 * (st 16 0 a).toNat) → (stc = (runW (ldc st a) (ldw st a) (q + kk) st).1) → GI (wb + 16 * ((q + kk : Nat) : Int)) stc → GH D cy ad n stc (gA n ad s.heap.size) s.heap H locs → lv_has ls 6 [(2, .int (iI ((runW (ldc st a) (ldw st a) (q + kk) st).2))), (4, .int (iI (((kk : Nat) : Int)))), (3, .int (iI (((ki : Nat) : Int)))), (0, .ref (ad 0)), (1, .int (iI (a)))] → W p l e (headSpec wsX6_loads { frames := 2, cells := 0, slots := 0, locals := 49 }).room s m (#[.ref (ad 0), .int (iI (a))] : Array Value) below meth c H locs 0 0 (MQ below (va_Qi (fun (r : Int32) (st' : St) => r = iI (ldF st a) ∧ st' = ldS st a ∧ GI (wb + 2048) st') (gP D cy ad n) (gA n ad s.heap.size)) (#[.ref (ad 0), .int (iI (a))] : Array Value) s 0 0 (gA n ad s.heap.size)) (F0 m 17 ls []) := by
          intro N
          induction N with
          | zero => intro  kk stc H locs ls hm; exact absurd hm (Nat.not_lt_zero _)
          | succ N ih17 =>
            intro  kk stc H locs ls hm hkk hstc hI hG hl
            have hfc : ∀ c o i, (c < 4 ∨ 8 < c) → stc c o i = st c o i := fun c o i h => by rw [hstc]; exact runW_c _ _ _ _ h _
            refine lv_iload hx hb dX6_loads_17 (lv_at hl 1 rfl) ?_
            refine lv_iconst (v := iI (4)) hx hb dX6_loads_19 rfl ?_
            refine lv_aload_n hx hb dX6_loads_20 rfl (lv_at hl 3 rfl) ?_
            refine g_get hx hb hts hin6 hown hK hG (key := 0) (by omega) (gC_0 stc ad cy) rfl 16 (by decide) L_48 (fun _ h9 => h9) rfl dX6_loads_21 ?_
            refine lv_iload_n hx hb dX6_loads_24 rfl (lv_at hl 4 rfl) ?_
            refine g_iald hx hb hK hG (12) (kd := 12) (o := 0) rfl rfl (by omega) (cp := 16) (ln := 6) rfl rfl (by omega) dX6_loads_25 ?_
            have hr5 := gI_16 hI (0) (a)
            have kq6 : stc 16 (0) (a) = st 16 (0) (a) := by rw [hfc _ _ _ (by decide)]
            rw [kq6] at hr5
            refine r_as kq6 ?_
            refine r_nm (fun v7 ev7 => ?_)
            rw [← ev7] at hr5
            refine r_imul hx hb dX6_loads_26 ?_
            refine r_nm (fun v8 ev8 => ?_)
            refine r_icmp_ge (tgt := 83) hx hb (by omega) dX6_loads_27 (by decide) (fun c9 => ?_) (fun c9 => ?_)
            · skip
              obtain ⟨v10, ev10⟩ : ∃ y : Int, y = ((ki : Nat) : Int) + (1) := ⟨_, rfl⟩
              refine lv_iinc (v := iI v10) (lv' := [(3, .int (iI (v10))), (2, .int (iI ((runW (ldc st a) (ldw st a) (q + kk) st).2))), (4, .int (iI (((kk : Nat) : Int)))), (0, .ref (ad 0)), (1, .int (iI (a)))]) hx hb dX6_loads_83 hl (k := 2) rfl (by rw [ev10]; exact iI_add _ _) (by decide) rfl (fun ls hl => ?_)
              refine lv_goto (tgt := 4) hx hb dX6_loads_86 (by decide) ?_
              replace hI := GI_mono (W' := wb + 16 * ((q + 4 * (st 16 0 a).toNat : Nat) : Int)) (by omega) hI
              rw [show ((runW (ldc st a) (ldw st a) (q + kk) st).2 : Int) = (runW (ldc st a) (ldw st a) (q + 4 * (st 16 0 a).toNat) st).2 from by (rw [show kk = 4 * (st 16 0 a).toNat by omega])] at hl
              rw [show (v10 : Int) = (((ki + 1) : Nat) : Int) from by omega] at hl
              exact ih4  (ki + 1) (q + 4 * (st 16 0 a).toNat) stc _ _ _ (by omega) (by omega) (by rw [hq, Nat.mul_succ]) (by omega) (by rw [hstc, show kk = 4 * (st 16 0 a).toNat by omega]) hI hG (lv_sub hl [1, 0, 3, 4] rfl)
            · skip
              refine lv_aload_n hx hb dX6_loads_30 rfl (lv_at hl 3 rfl) ?_
              refine g_get hx hb hts hin6 hown hK hG (key := 0) (by omega) (gC_0 stc ad cy) rfl 20 (by decide) L_60 (fun _ h9 => h9) rfl dX6_loads_31 ?_
              refine lv_iload_n hx hb dX6_loads_34 rfl (lv_at hl 4 rfl) ?_
              refine g_iald hx hb hK hG (16) (kd := 16) (o := 0) rfl rfl (by omega) (cp := 20) (ln := 6) rfl rfl (by omega) dX6_loads_35 ?_
              have hr11 := gI_20 hI (0) (a)
              have kq12 : stc 20 (0) (a) = st 20 (0) (a) := by rw [hfc _ _ _ (by decide)]
              rw [kq12] at hr11
              refine r_as kq12 ?_
              refine r_nm (fun v13 ev13 => ?_)
              rw [← ev13] at hr11
              refine lv_aload_n hx hb dX6_loads_36 rfl (lv_at hl 3 rfl) ?_
              refine g_get hx hb hts hin6 hown hK hG (key := 0) (by omega) (gC_0 stc ad cy) rfl 21 (by decide) L_63 (fun _ h9 => h9) rfl dX6_loads_37 ?_
              refine lv_bipush (v := iI (8)) hx hb dX6_loads_40 (by decide +kernel) ?_
              refine lv_iload_n hx hb dX6_loads_42 rfl (lv_at hl 4 rfl) ?_
              refine r_imul hx hb dX6_loads_43 ?_
              refine r_nm (fun v14 ev14 => ?_)
              refine lv_iload_n hx hb dX6_loads_44 rfl (lv_at hl 2 rfl) ?_
              refine r_iadd hx hb dX6_loads_45 ?_
              refine r_nm (fun v15 ev15 => ?_)
              refine g_iald hx hb hK hG (17) (kd := 17) (o := 0) rfl rfl (by omega) (cp := 21) (ln := 48) rfl rfl (by omega) dX6_loads_46 ?_
              have hr16 := gI_21 hI (0) (v15)
              have kq17 : stc 21 (0) (v15) = st 21 (0) (v15) := by rw [hfc _ _ _ (by decide)]
              rw [kq17] at hr16
              refine r_as kq17 ?_
              refine r_nm (fun v18 ev18 => ?_)
              rw [← ev18] at hr16
              refine lv_iload hx hb dX6_loads_47 (lv_at hl 1 rfl) ?_
              refine g_goi hG hA (va_runS (As := [.int (iI (v13)), .int (iI (v18)), .int (iI (((kk : Nat) : Int)))]) (rest := []) ⟨hx, hb, hml, hown, hts⟩ (mX6_cellAt l D cy ad n stc _ fz (wb + 16 * ((q + kk : Nat) : Int)) hn hI (by omega) (v13) (v18) (((kk : Nat) : Int)) ) (va_cwS 3 hts gX6_loads_X6_cellAt rfl rfl rfl (by decide +kernel) ⟨Nat.le_of_ble_eq_true rfl, Nat.le_of_ble_eq_true rfl⟩) ⟨g_blind, g_pre hK hG hA hN hZ⟩ rfl rfl hl.1 rfl (lv_room (Nat.le_of_ble_eq_true rfl)) dX6_loads_49 ⟨Nat.zero_le _, Nat.zero_le _⟩) (fun r9 s9 H locs hp hG => ?_)
              obtain ⟨rfl, hs9⟩ := hp
              rw [hs9] at hG
              clear hs9
              refine r_nm (fun v19 ev19 => ?_)
              refine lv_istore (lv' := [(5, .int (iI (v19))), (2, .int (iI ((runW (ldc st a) (ldw st a) (q + kk) st).2))), (4, .int (iI (((kk : Nat) : Int)))), (3, .int (iI (((ki : Nat) : Int)))), (0, .ref (ad 0)), (1, .int (iI (a)))]) hx hb dX6_loads_52 hl (by decide) rfl (fun ls hl => ?_)
              refine lv_iload_n hx hb dX6_loads_54 rfl (lv_at hl 1 rfl) ?_
              refine lv_aload_n hx hb dX6_loads_55 rfl (lv_at hl 4 rfl) ?_
              refine lv_iload hx hb dX6_loads_56 (lv_at hl 0 rfl) ?_
              refine lv_aload_n hx hb dX6_loads_58 rfl (lv_at hl 4 rfl) ?_
              refine lv_iload_n hx hb dX6_loads_59 rfl (lv_at hl 5 rfl) ?_
              refine lv_iload_n hx hb dX6_loads_60 rfl (lv_at hl 3 rfl) ?_
              refine lv_iload hx hb dX6_loads_61 (lv_at hl 2 rfl) ?_
              refine lv_iconst (v := iI (4)) hx hb dX6_loads_63 rfl ?_
              refine r_idiv hx hb (by omega) dX6_loads_64 ?_
              refine r_nm (fun v20 ev20 => ?_)
              refine lv_iload hx hb dX6_loads_65 (lv_at hl 2 rfl) ?_
              refine lv_iconst (v := iI (4)) hx hb dX6_loads_67 rfl ?_
              refine r_irem hx hb (by omega) dX6_loads_68 ?_
              refine r_nm (fun v21 ev21 => ?_)
              refine g_goi hG hA (va_runV (As := [.int (iI (a)), .int (iI (((ki : Nat) : Int))), .int (iI (v20)), .int (iI (v21))]) (rest := [.int (iI (v19)), .ref (ad 0), .int (iI ((runW (ldc st a) (ldw st a) (q + kk) st).2))]) ⟨hx, hb, hml, hown, hts⟩ (mX6_needs l D cy ad n stc _ fz (wb + 16 * ((q + kk : Nat) : Int)) hn hI (by omega) (a) (((ki : Nat) : Int)) (v20) (v21) (by omega) (by omega) (by omega) (by omega)) (cwV 4 hts gX6_loads_X6_needs rfl rfl rfl (by decide +kernel) ⟨Nat.le_of_ble_eq_true rfl, Nat.le_of_ble_eq_true rfl⟩) ⟨g_blind, va_recv hK hG.1 (q0 := 0) (ci := 6) rfl ((gw_at (by omega)).trans (by rw [gC_0 stc ad cy])), g_pre hK hG hA hN hZ⟩ rfl rfl hl.1 rfl (lv_room (Nat.le_of_ble_eq_true rfl)) dX6_loads_69 ⟨Nat.zero_le _, Nat.zero_le _⟩) (fun r9 s9 H locs hp hG => ?_)
              obtain ⟨rfl, hs9⟩ := hp
              rw [hs9] at hG
              clear hs9
              refine r_nm (fun v22 ev22 => ?_)
              have hr23 := needV_r (gI_17 hI 0 (32 * (a) + 4 * (((ki : Nat) : Int)) + (v20))) (v21)
              rw [← ev22] at hr23
              refine g_goi hG hA (va_runV (As := [.int (iI (v19)), .int (iI (v22))]) (rest := [.int (iI ((runW (ldc st a) (ldw st a) (q + kk) st).2))]) ⟨hx, hb, hml, hown, hts⟩ (mX6_writes l D cy ad n stc _ fz (wb + 16 * ((q + kk : Nat) : Int)) hn hI (by omega) (v19) (v22) (by omega) (by rw [hfc 1 0 0 (by decide), hstc]; exact runW_since hsi _ _) (by omega)) (cwV 2 hts gX6_loads_X6_writes rfl rfl rfl (by decide +kernel) ⟨Nat.le_of_ble_eq_true rfl, Nat.le_of_ble_eq_true rfl⟩) ⟨g_blind, va_recv hK hG.1 (q0 := 0) (ci := 6) rfl ((gw_at (by omega)).trans (by rw [gC_0 stc ad cy])), g_pre hK hG hA hN hZ⟩ rfl rfl hl.1 rfl (lv_room (Nat.le_of_ble_eq_true rfl)) dX6_loads_72 ⟨Nat.zero_le _, Nat.zero_le _⟩) (fun r9 st24 H locs hp hG => ?_)
              obtain ⟨rfl, hs9, hI⟩ := hp
              have e1 : (v19) = ldc st a (q + kk) := by rw [ldc_e hq (by omega)]; subst_vars; rfl
              have e2 : (v22) = ldw st a (q + kk) := by rw [ldw_e hq (by omega), ← hfc 17 0 (32 * a + 4 * (ki : Int) + (kk : Int) / 4) (by decide)]; subst_vars; rfl
              rw [e1, e2] at hs9 ⊢
              refine r_nm (fun v25 ev25 => ?_)
              refine r_iadd hx hb dX6_loads_75 ?_
              refine r_nm (fun v26 ev26 => ?_)
              refine lv_istore_n (lv' := [(2, .int (iI (v26))), (5, .int (iI (v19))), (4, .int (iI (((kk : Nat) : Int)))), (3, .int (iI (((ki : Nat) : Int)))), (0, .ref (ad 0)), (1, .int (iI (a)))]) hx hb dX6_loads_76 rfl hl (by decide) rfl (fun ls hl => ?_)
              obtain ⟨v27, ev27⟩ : ∃ y : Int, y = ((kk : Nat) : Int) + (1) := ⟨_, rfl⟩
              refine lv_iinc (v := iI v27) (lv' := [(4, .int (iI (v27))), (2, .int (iI (v26))), (5, .int (iI (v19))), (3, .int (iI (((ki : Nat) : Int)))), (0, .ref (ad 0)), (1, .int (iI (a)))]) hx hb dX6_loads_77 hl (k := 2) rfl (by rw [ev27]; exact iI_add _ _) (by decide) rfl (fun ls hl => ?_)
              refine lv_goto (tgt := 17) hx hb dX6_loads_80 (by decide) ?_
              replace hI := GI_mono (W' := wb + 16 * ((q + (kk + 1) : Nat) : Int)) (by omega) hI
              rw [show (v26 : Int) = (runW (ldc st a) (ldw st a) (q + (kk + 1)) st).2 from by (rw [← Nat.add_assoc, runW_s2, ← hstc]; omega)] at hl
              rw [show (v27 : Int) = (((kk + 1) : Nat) : Int) from by omega] at hl
              exact ih17  (kk + 1) st24 _ _ _ (by omega) (by omega) (by rw [hs9, hstc]; rfl) hI hG (lv_sub hl [1, 0, 3, 4, 5] rfl)
        exact hloop17 _  (0) stb _ _ _ (Nat.lt_succ_self _) (by omega) (by exact hstb) hI hG (lv_sub hl [1, 0, 2, 3, 4] rfl)
  replace hI := GI_mono (W' := wb + 16 * ((0 : Nat) : Int)) (by omega) hI
  exact hloop4 _  (0) (0) st _ _ _ (Nat.lt_succ_self _) (by omega) (by rw [Nat.mul_zero]) (by omega) (by rfl) hI hG (lv_sub hl [1, 0, 2, 3] rfl)
