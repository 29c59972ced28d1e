set_option maxHeartbeats 1000000 in
theorem lc_hour {p : Program} {l : Launch} {e : Env} {s : State} {m : MethodId} {below : List Frame} {meth : Method} {c : Code} {b L : Nat} {xs : Nat → Int32} {D : va_G} {cy : Nat → ClassId} {fz : Nat} {A : Nat → Prop} {H : Heap} {locs : List Loc} {cells slots : Nat} {Q : State → Prop} {ls : Array Slot} {ad : Nat → Nat} {n : Nat} {st : St} (C : LC p l s m meth c b L xs D cy fz A) (k : Nat) (hk : 5 * k + 5 ≤ L) (hG : GH D cy ad n st A s.heap H locs) (hR : RY st) (hI : GI (2048 * (k : Int)) st) (hnl : (n : Int) = 75 + 3 * st 33 0 0) (hl : lv_has ls 9 (llv b ad k)) (hcs : cells + 8 ≤ room_1.cells ∧ slots + 60 ≤ room_1.slots) (KK : LKK p l e s m below meth c b D cy A Q k cells slots) : W p l e room_1 s m #[Value.ref b] below meth c H locs cells slots Q (F0 m 2505 ls []) := by
  have hn : 75 ≤ n := by have := gI_33 hI 0 0; omega
  have hkL := C.hL
  refine lv_aload_n C.hx C.hb dL_law_2505 rfl (lv_at hl 1 rfl) ?_
  refine g_goi hG C.hA (va_runV (As := []) (rest := []) ⟨C.hx, C.hb, C.hml, C.hown, C.hts⟩ (mX5_hour l D cy ad n st _ fz _ hn hI (by omega)) (cwV 0 C.hts gL_law_X5_hour rfl rfl rfl (by decide +kernel) ⟨Nat.le_of_ble_eq_true rfl, Nat.le_of_ble_eq_true rfl⟩) ⟨g_blind, va_recv C.hK hG.1 (q0 := 21) (ci := 5) rfl ((gw_at (by omega)).trans (by rw [gC_21 st ad cy])), g_pre C.hK hG C.hA C.hN C.hZ⟩ rfl rfl hl.1 rfl (lv_room (Nat.le_of_ble_eq_true rfl)) dL_law_2506 ⟨Nat.le_trans (by omega) hcs.1, Nat.le_trans (by omega) hcs.2⟩) (fun r9 st9 H locs hp hG => ?_)
  obtain ⟨hr9, hs9⟩ := hp
  rw [hs9] at hG
  refine r_asI hr9 ?_
  refine lv_aload_n C.hx C.hb dL_law_2509 rfl (lv_at hl 2 rfl) ?_
  refine g_goi hG C.hA (va_runV (As := []) (rest := [.int (iI (st 30 0 0))]) ⟨C.hx, C.hb, C.hml, C.hown, C.hts⟩ (mX6_hour l D cy ad n st _ fz _ hn hI (by omega)) (cwV 0 C.hts gL_law_X6_hour rfl rfl rfl (by decide +kernel) ⟨Nat.le_of_ble_eq_true rfl, Nat.le_of_ble_eq_true rfl⟩) ⟨g_blind, va_recv C.hK hG.1 (q0 := 0) (ci := 6) rfl ((gw_at (by omega)).trans (by rw [gC_0])), g_pre C.hK hG C.hA C.hN C.hZ⟩ rfl rfl hl.1 rfl (lv_room (Nat.le_of_ble_eq_true rfl)) dL_law_2510 ⟨Nat.le_trans (by omega) hcs.1, Nat.le_trans (by omega) hcs.2⟩) (fun r8 z H locs hq hG => ?_)
  obtain ⟨hr8, hz, hIz⟩ := hq
  refine r_asI hr8 ?_
  have h1 := hR.1.2.1
  have h2 := gI_1 hI 0 0
  refine r_icmp_eq (tgt := 2518) C.hx C.hb (by omega) dL_law_2513 (by decide) (fun _ => ?_) (fun c1 => absurd h1 c1)
  refine W.widen (k := cells + 8) (n := slots + 60) (by omega) (by omega) ?_
  exact KK z ad n H locs ls hG (RY_fr (x := st) (fun c o i hc => by rw [hz, ust_c (fun e => hc (by rw [e]; decide))]) hR) (GI_mono (by omega) hIz) (by rw [hz, ust_c (by decide)]; exact hnl) hl
set_option maxHeartbeats 4000000 in
set_option maxRecDepth 100000 in
theorem law_loop {p : Program} {l : Launch} {e : Env} {s : State} {m : MethodId} {below : List Frame} {meth : Method} {c : Code} {b L : Nat} {xs : Nat → Int32} {D : va_G} {cy : Nat → ClassId} {fz : Nat} {A : Nat → Prop} {Q : State → Prop} (C : LC p l s m meth c b L xs D cy fz A) (hA0 : ∀ q, A q → s.heap.size ≤ q) (hE : ∀ (H : Heap) (ls : Array Slot), W p l e room_1 s m #[Value.ref b] below meth c H [] 601024 7293034 Q (F0 m 2525 ls [.int (iI 1)])) : ∀ (f k : Nat) {H : Heap} {locs : List Loc} {cells slots : Nat} {ls : Array Slot} {ad : Nat → Nat} {n : Nat} {st : St}, L < 5 * k + 5 * f + 5 → k + f ≤ 512 → GH D cy ad n st A s.heap H locs → RY st → GI (2048 * (k : Int)) st → (n : Int) = 75 + 3 * st 33 0 0 → lv_has ls 9 (llv b ad k) → cells + 8 * f ≤ 601024 ∧ slots + 60 * f ≤ 7293034 → W p l e room_1 s m #[Value.ref b] below meth c H locs cells slots Q (F0 m 28 ls []) := by
  intro f
  induction f with
  | zero =>
    intro k H locs cells slots ls ad n st hf hkf hG hR hI hnl hl hcs
    have hL := C.hL
    · refine lv_iload C.hx C.hb dL_law_28 (lv_at hl 5 rfl) ?_
      refine lv_aload_n C.hx C.hb dL_law_30 rfl (lv_at hl 0 rfl) ?_
      refine va_slen C.hx C.hb C.hX C.hbl C.hbA hG.2.2 dL_law_31 ?_
      refine r_asI (y := (L : Int)) rfl ?_
      refine lv_iconst (v := iI (5)) C.hx C.hb dL_law_32 rfl ?_
      refine r_isub C.hx C.hb dL_law_33 ?_
      refine r_icmp_gt (tgt := 2524) C.hx C.hb (by omega) dL_law_34 (by decide) (fun c1 => ?_) (fun c1 => absurd c1 (by omega))
      refine lv_iconst (v := iI (1)) C.hx C.hb dL_law_2524 rfl ?_
      refine va_forget (fun q hq => hA0 _ (hG.2.2.2.2 q hq)) ?_
      exact W.widen (by omega) (by omega) (hE _ _)
  | succ f ih =>
    intro k H locs cells slots ls ad n st hf hkf hG hR hI hnl hl hcs
    have hL := C.hL
    by_cases hk : 5 * k + 5 ≤ L
    · refine lv_iload C.hx C.hb dL_law_28 (lv_at hl 5 rfl) ?_
      refine lv_aload_n C.hx C.hb dL_law_30 rfl (lv_at hl 0 rfl) ?_
      refine va_slen C.hx C.hb C.hX C.hbl C.hbA hG.2.2 dL_law_31 ?_
      refine r_asI (y := (L : Int)) rfl ?_
      refine lv_iconst (v := iI (5)) C.hx C.hb dL_law_32 rfl ?_
      refine r_isub C.hx C.hb dL_law_33 ?_
      refine r_icmp_gt (tgt := 2524) C.hx C.hb (by omega) dL_law_34 (by decide) (fun c1 => absurd c1 (by omega)) (fun c1 => ?_)
      refine lv_aload_n C.hx C.hb dL_law_37 rfl (lv_at hl 0 rfl) ?_
      refine lv_iload C.hx C.hb dL_law_38 (lv_at hl 5 rfl) ?_
      refine va_sld C.hx C.hb C.hX C.hbl C.hbA hG.2.2 (iI_in (by omega) (by omega) (by omega)) dL_law_40 ?_
      refine r_asI (y := sA xs (iI (5 * (k : Int))).toNatClampNeg) (iI_sA xs _) ?_
      refine lv_bipush (v := iI (31)) C.hx C.hb dL_law_41 (by decide +kernel) ?_
      refine r_iand 5 C.hx C.hb (by decide) (by decide) dL_law_43 ?_
      obtain ⟨v, hv⟩ : ∃ v : Int, v = sA xs (iI (5 * (k : Int))).toNatClampNeg % 2 ^ 5 := ⟨_, rfl⟩
      rw [← hv]
      have hv32 : 0 ≤ v ∧ v < 32 := by
        have e5 : (2 : Int) ^ 5 = 32 := by decide
        rw [hv, e5]
        omega
      have hcs2 : cells + 8 ≤ room_1.cells ∧ slots + 60 ≤ room_1.slots := by
        show cells + 8 ≤ 601024 ∧ slots + 60 ≤ 7293034
        omega
      have KK : LKK p l e s m below meth c b D cy A Q k cells slots := by
        intro st' ad' n' H locs ls hG hR hI hnl hl
        refine lv_iinc (v := iI (5 * ((k + 1 : Nat) : Int))) (lv' := [(5, .int (iI (5 * ((k + 1 : Nat) : Int)))), (0, .ref b), (1, .ref (ad' 21)), (2, .ref (ad' 0)), (3, .ref (ad' 31)), (4, .ref (ad' 32))]) C.hx C.hb dL_law_2518 hl (k := 5) rfl (by rw [show (5 : Int) * ((k + 1 : Nat) : Int) = 5 * (k : Int) + 5 by omega]; exact iI_add _ _) (by decide) rfl (fun ls hl => ?_)
        refine lv_goto (tgt := 28) C.hx C.hb dL_law_2521 (by decide) ?_
        exact ih (k + 1) (by omega) (by omega) hG hR hI hnl (lv_sub hl [1, 2, 3, 4, 5, 0] rfl) (by omega)
      rcases (by omega : v = 0 ∨ v = 1 ∨ v = 2 ∨ v = 3 ∨ v = 4 ∨ v = 5 ∨ v = 6 ∨ v = 7 ∨ v = 8 ∨ v = 9 ∨ v = 10 ∨ v = 11 ∨ v = 12 ∨ v = 13 ∨ v = 14 ∨ v = 15 ∨ v = 16 ∨ v = 17 ∨ v = 18 ∨ v = 19 ∨ v = 20 ∨ v = 21 ∨ v = 22 ∨ v = 23 ∨ v = 24 ∨ v = 25 ∨ v = 26 ∨ v = 27 ∨ v = 28 ∨ v = 29 ∨ v = 30 ∨ v = 31) with rfl | rfl | rfl | rfl | rfl | rfl | rfl | rfl | rfl | rfl | rfl | rfl | rfl | rfl | rfl | rfl | rfl | rfl | rfl | rfl | rfl | rfl | rfl | rfl | rfl | rfl | rfl | rfl | rfl | rfl | rfl | rfl
      · refine lv_tableIn (off := 144) (tgt := 188) C.hx C.hb dL_law_44 (by decide +kernel) (by decide +kernel) (by decide +kernel) (by decide) ?_
        exact lc_layer C k hk hG hR hI hnl hl hcs2 KK
      · refine lv_tableIn (off := 212) (tgt := 256) C.hx C.hb dL_law_44 (by decide +kernel) (by decide +kernel) (by decide +kernel) (by decide) ?_
        exact lc_weight C k hk hG hR hI hnl hl hcs2 KK
      · refine lv_tableIn (off := 304) (tgt := 348) C.hx C.hb dL_law_44 (by decide +kernel) (by decide +kernel) (by decide +kernel) (by decide) ?_
        exact lc_shift C k hk hG hR hI hnl hl hcs2 KK
      · refine lv_tableIn (off := 372) (tgt := 416) C.hx C.hb dL_law_44 (by decide +kernel) (by decide +kernel) (by decide +kernel) (by decide) ?_
        exact lc_next C k hk hG hR hI hnl hl hcs2 KK
      · refine lv_tableIn (off := 440) (tgt := 484) C.hx C.hb dL_law_44 (by decide +kernel) (by decide +kernel) (by decide +kernel) (by decide) ?_
        exact lc_place C k hk hG hR hI hnl hl hcs2 KK
      · refine lv_tableIn (off := 508) (tgt := 552) C.hx C.hb dL_law_44 (by decide +kernel) (by decide +kernel) (by decide +kernel) (by decide) ?_
        exact lc_load C k hk hG hR hI hnl hl hcs2 KK
      · refine lv_tableIn (off := 564) (tgt := 608) C.hx C.hb dL_law_44 (by decide +kernel) (by decide +kernel) (by decide +kernel) (by decide) ?_
        exact lc_lift C k hk hG hR hI hnl hl hcs2 KK
      · refine lv_tableIn (off := 620) (tgt := 664) C.hx C.hb dL_law_44 (by decide +kernel) (by decide +kernel) (by decide +kernel) (by decide) ?_
        exact lc_stick C k hk hG hR hI hnl hl hcs2 KK
      · refine lv_tableIn (off := 692) (tgt := 736) C.hx C.hb dL_law_44 (by decide +kernel) (by decide +kernel) (by decide +kernel) (by decide) ?_
        exact lc_spoil C k hk hG hR hI hnl hl hcs2 KK
      · refine lv_tableIn (off := 772) (tgt := 816) C.hx C.hb dL_law_44 (by decide +kernel) (by decide +kernel) (by decide +kernel) (by decide) ?_
        exact lc_drift C k hk hG hR hI hnl hl hcs2 KK
      · refine lv_tableIn (off := 828) (tgt := 872) C.hx C.hb dL_law_44 (by decide +kernel) (by decide +kernel) (by decide +kernel) (by decide) ?_
        exact lc_endurance C k hk hG hR hI hnl hl hcs2 KK
      · refine lv_tableIn (off := 884) (tgt := 928) C.hx C.hb dL_law_44 (by decide +kernel) (by decide +kernel) (by decide +kernel) (by decide) ?_
        exact lc_pass C k hk hG hR hI hnl hl hcs2 KK
      · refine lv_tableIn (off := 940) (tgt := 984) C.hx C.hb dL_law_44 (by decide +kernel) (by decide +kernel) (by decide +kernel) (by decide) ?_
        exact lc_converter C k hk hG hR hI hnl hl hcs2 KK
      · refine lv_tableIn (off := 1020) (tgt := 1064) C.hx C.hb dL_law_44 (by decide +kernel) (by decide +kernel) (by decide +kernel) (by decide) ?_
        exact lc_offset C k hk hG hR hI hnl hl hcs2 KK
      · refine lv_tableIn (off := 1100) (tgt := 1144) C.hx C.hb dL_law_44 (by decide +kernel) (by decide +kernel) (by decide +kernel) (by decide) ?_
        exact lc_calibrate C k hk hG hR hI hnl hl hcs2 KK
      · refine lv_tableIn (off := 1191) (tgt := 1235) C.hx C.hb dL_law_44 (by decide +kernel) (by decide +kernel) (by decide +kernel) (by decide) ?_
        exact lc_converters C k hk hG hR hI hnl hl hcs2 KK
      · refine lv_tableIn (off := 1259) (tgt := 1303) C.hx C.hb dL_law_44 (by decide +kernel) (by decide +kernel) (by decide +kernel) (by decide) ?_
        exact lc_cell C k hk hG hR hI hnl hl hcs2 KK
      · refine lv_tableIn (off := 1351) (tgt := 1395) C.hx C.hb dL_law_44 (by decide +kernel) (by decide +kernel) (by decide +kernel) (by decide) ?_
        exact lc_rowOf C k hk hG hR hI hnl hl hcs2 KK
      · refine lv_tableIn (off := 1419) (tgt := 1463) C.hx C.hb dL_law_44 (by decide +kernel) (by decide +kernel) (by decide +kernel) (by decide) ?_
        exact lc_tileOf C k hk hG hR hI hnl hl hcs2 KK
      · refine lv_tableIn (off := 1475) (tgt := 1519) C.hx C.hb dL_law_44 (by decide +kernel) (by decide +kernel) (by decide +kernel) (by decide) ?_
        exact lc_misfits C k hk hG hR hI hnl hl hcs2 KK
      · refine lv_tableIn (off := 1543) (tgt := 1587) C.hx C.hb dL_law_44 (by decide +kernel) (by decide +kernel) (by decide +kernel) (by decide) ?_
        exact lc_misfitsAnew C k hk hG hR hI hnl hl hcs2 KK
      · refine lv_tableIn (off := 1611) (tgt := 1655) C.hx C.hb dL_law_44 (by decide +kernel) (by decide +kernel) (by decide +kernel) (by decide) ?_
        exact lc_isTrue C k hk hG hR hI hnl hl hcs2 KK
      · refine lv_tableIn (off := 1674) (tgt := 1718) C.hx C.hb dL_law_44 (by decide +kernel) (by decide +kernel) (by decide +kernel) (by decide) ?_
        exact lc_answer C k hk hG hR hI hnl hl hcs2 KK
      · refine lv_tableIn (off := 1786) (tgt := 1830) C.hx C.hb dL_law_44 (by decide +kernel) (by decide +kernel) (by decide +kernel) (by decide) ?_
        exact lc_ideal C k hk hG hR hI hnl hl hcs2 KK
      · refine lv_tableIn (off := 1898) (tgt := 1942) C.hx C.hb dL_law_44 (by decide +kernel) (by decide +kernel) (by decide +kernel) (by decide) ?_
        exact lc_bound C k hk hG hR hI hnl hl hcs2 KK
      · refine lv_tableIn (off := 1994) (tgt := 2038) C.hx C.hb dL_law_44 (by decide +kernel) (by decide +kernel) (by decide +kernel) (by decide) ?_
        exact lc_run C k hk hG hR hI hnl hl hcs2 KK
      · refine lv_tableIn (off := 2093) (tgt := 2137) C.hx C.hb dL_law_44 (by decide +kernel) (by decide +kernel) (by decide +kernel) (by decide) ?_
        exact lc_runIdeal C k hk hG hR hI hnl hl hcs2 KK
      · refine lv_tableIn (off := 2192) (tgt := 2236) C.hx C.hb dL_law_44 (by decide +kernel) (by decide +kernel) (by decide +kernel) (by decide) ?_
        exact lc_cycles C k hk hG hR hI hnl hl hcs2 KK
      · refine lv_tableIn (off := 2260) (tgt := 2304) C.hx C.hb dL_law_44 (by decide +kernel) (by decide +kernel) (by decide +kernel) (by decide) ?_
        exact lc_cyclesAnew C k hk hG hR hI hnl hl hcs2 KK
      · refine lv_tableIn (off := 2328) (tgt := 2372) C.hx C.hb dL_law_44 (by decide +kernel) (by decide +kernel) (by decide +kernel) (by decide) ?_
        exact lc_wear C k hk hG hR hI hnl hl hcs2 KK
      · refine lv_tableIn (off := 2383) (tgt := 2427) C.hx C.hb dL_law_44 (by decide +kernel) (by decide +kernel) (by decide +kernel) (by decide) ?_
        exact lc_share C k hk hG hR hI hnl hl hcs2 KK
      · refine lv_tableIn (off := 2461) (tgt := 2505) C.hx C.hb dL_law_44 (by decide +kernel) (by decide +kernel) (by decide +kernel) (by decide) ?_
        exact lc_hour C k hk hG hR hI hnl hl hcs2 KK
    · refine lv_iload C.hx C.hb dL_law_28 (lv_at hl 5 rfl) ?_
      refine lv_aload_n C.hx C.hb dL_law_30 rfl (lv_at hl 0 rfl) ?_
      refine va_slen C.hx C.hb C.hX C.hbl C.hbA hG.2.2 dL_law_31 ?_
      refine r_asI (y := (L : Int)) rfl ?_
      refine lv_iconst (v := iI (5)) C.hx C.hb dL_law_32 rfl ?_
      refine r_isub C.hx C.hb dL_law_33 ?_
      refine r_icmp_gt (tgt := 2524) C.hx C.hb (by omega) dL_law_34 (by decide) (fun c1 => ?_) (fun c1 => absurd c1 (by omega))
      refine lv_iconst (v := iI (1)) C.hx C.hb dL_law_2524 rfl ?_
      refine va_forget (fun q hq => hA0 _ (hG.2.2.2.2 q hq)) ?_
      exact W.widen (by omega) (by omega) (hE _ _)
