section GOL
variable {p : Program} {l : Launch} {e : Env} {R : Room} {s : State} {m : MethodId} {args : Array Value} {below : List Frame} {meth : Method} {c : Code} {H : Heap} {locs : List Loc} {cells slots : Nat} {Q : State → Prop}
variable {pc : Nat} {ls : Array Slot} {rest st0 : List Value} {D : va_G} {cy : Nat → ClassId} {ad : Nat → Nat} {n n' mc ms : Nat} {st : St} {A : Nat → Prop} {H0 : Heap} {a : Array Value}
theorem g_goL {post : Int32 → St × (Nat → Nat) → Prop} (hG : GH D cy ad n st A H0 H locs) (hA : ∀ q, H0.size ≤ q → A q) (hr : va_Run p l e R s m args below meth c H locs cells slots mc ms (F0 m pc ls st0) rest (va_Qi post (gPL D cy (gA n ad H.size) n') (gA n ad H.size) a) (gA n ad H.size))
    (kk : ∀ (r : Int32) (st' : St) (ad' : Nat → Nat) (H1 : Heap) (locs1 : List Loc), post r (st', ad') → GH D cy ad' n' st' A H0 H1 locs1 → W p l e R s m args below meth c H1 locs1 (cells + mc) (slots + ms) Q (F0 m (pc + 3) ls (.int r :: rest))) : W p l e R s m args below meth c H locs cells slots Q (F0 m pc ls st0) :=
  va_calli hr hG.2.2 (fun q _ h => g_free hG hA q h) (g_free hG hA) (fun r u t H1 locs1 ht _ hw hB _ _ hS => kk r u.1 u.2 H1 locs1 hw ⟨by rw [← ht]; exact hB.1, hB.2.weaken (fun _ _ _ h => g_free hG hA _ h), hS⟩)
end GOL
set_option maxHeartbeats 1000000 in
set_option maxRecDepth 100000 in
theorem lb_s1 {p : Program} {l : Launch} {e : Env} {s : State} {m : MethodId} {below : List Frame} {meth : Method} {c : Code} {b L : Nat} {xs : Nat → Int32} {D : va_G} {cy : Nat → ClassId} {fz : Nat} {A : Nat → Prop} {H : Heap} {locs : List Loc} {cells slots : Nat} {Q : State → Prop} {ls : Array Slot} {ad : Nat → Nat} {n : Nat} {st : St} (C : LC p l s m c b L xs D cy fz A) (hn75 : n = 75) (v : Int) (hv : -2147483648 ≤ v ∧ v < 2147483648) (hG : GH D cy ad n st A s.heap H locs) (hI : GI 0 st) (hl : lv_has ls 22 [(0, .ref b), (1, .ref (ad 21)), (2, .int (iI v)), (3, .ref (ad 19)), (4, .ref (ad 20)), (5, .ref (ad 31)), (6, .ref (ad 32))]) (hcs : cells + 0 ≤ room_1.cells ∧ slots + 0 ≤ room_1.slots) (KK : ∀ (st' : St) (i0 o0 i1 o1 : Int) (H : Heap) (locs : List Loc) (ls : Array Slot), (1 ≤ i0 ∧ i0 ≤ 4) → (1 ≤ o0 ∧ o0 ≤ 4) → (1 ≤ i1 ∧ i1 ≤ 8 ∧ o0 ≤ i1) → (1 ≤ o1 ∧ o1 ≤ 4) → GH D cy ad n st' A s.heap H locs → GI 0 st' → (∀ (c o : Nat) (i : Int), c < 80 → st' c o i = st c o i) → (∀ j : Int, st' 83 0 j = st 83 0 j) → st' 80 0 0 = i0 → st' 81 0 0 = o0 → st' 80 0 1 = i1 → st' 81 0 1 = o1 → st' 82 0 0 = 0 → st' 82 0 1 = 1 → lv_has ls 22 [(0, .ref b), (1, .ref (ad 21)), (2, .int (iI v)), (3, .ref (ad 19)), (4, .ref (ad 20)), (5, .ref (ad 31)), (6, .ref (ad 32))] → W p l e room_1 s m #[Value.ref b] below meth c H locs cells slots Q (F0 m 97 ls [])) : W p l e room_1 s m #[Value.ref b] below meth c H locs cells slots Q (F0 m 34 ls []) := by
  obtain ⟨hx, hb, hml, hown, hts, hX, hbl, hbA, hA, hK, hN, hZ, hlf, hL⟩ := C
  refine lv_aload_n hx hb dL_law_34 rfl (lv_at hl 3 rfl) ?_
  refine lv_iconst (v := iI (0)) hx hb dL_law_35 rfl ?_
  refine lv_iconst (v := iI (1)) hx hb dL_law_36 rfl ?_
  refine lv_iload_n hx hb dL_law_37 rfl (lv_at hl 2 rfl) ?_
  refine lv_iconst (v := iI (4)) hx hb dL_law_38 rfl ?_
  refine gp_goi hG (va_runS (As := [.int (iI (v)), .int (iI (4))]) (rest := [.int (iI (1)), .int (iI (0)), .ref (ad 19)]) ⟨hx, hb, hml, hown, hts⟩ (mL_low l (v) (4) (by omega) (by omega)) (va_cwS 2 hts gL_law_L_low rfl rfl rfl (by decide +kernel) ⟨Nat.le_of_ble_eq_true rfl, Nat.le_of_ble_eq_true rfl⟩) ⟨p0_blind, p0_pre⟩ rfl rfl hl.1 rfl (lv_room (Nat.le_of_ble_eq_true rfl)) dL_law_39 ⟨Nat.le_trans (by omega) hcs.1, Nat.le_trans (by omega) hcs.2⟩) (fun r9 H locs hp hG => ?_)
  rw [hp]
  clear hp
  refine r_nm (fun v1 ev1 => ?_)
  have hr2 := @lowF_r ((v)) ((4)) (by omega)
  rw [← ev1] at hr2
  refine r_iadd hx hb dL_law_42 ?_
  refine r_nm (fun v3 ev3 => ?_)
  refine g_iast hx hb hK hG (19) (kd := 19) (o := 0) rfl rfl (by omega) (cp := 80) (ln := 2) rfl rfl (by omega) dL_law_43 (fun H locs hG => ?_)
  obtain ⟨st4, hst4⟩ : ∃ z : St, z = ust st 80 (0) (0) (v3) := ⟨_, rfl⟩
  rw [← hst4] at hG
  replace hI := hst4 ▸ GI_o hI (c := 80) (o := 0) (i := 0) (v := v3) (by decide)
  refine lv_aload hx hb dL_law_44 (lv_at hl 4 rfl) ?_
  refine lv_iconst (v := iI (0)) hx hb dL_law_46 rfl ?_
  refine lv_iconst (v := iI (1)) hx hb dL_law_47 rfl ?_
  refine lv_iload_n hx hb dL_law_48 rfl (lv_at hl 2 rfl) ?_
  refine lv_iconst (v := iI (3)) hx hb dL_law_49 rfl ?_
  refine r_as (y := ((3 : Nat) : Int)) (by omega) ?_
  refine r_ishr hx hb (by omega) (by omega) dL_law_50 ?_
  refine r_nm (fun v5 ev5 => ?_)
  refine lv_iconst (v := iI (4)) hx hb dL_law_51 rfl ?_
  refine gp_goi hG (va_runS (As := [.int (iI (v5)), .int (iI (4))]) (rest := [.int (iI (1)), .int (iI (0)), .ref (ad 20)]) ⟨hx, hb, hml, hown, hts⟩ (mL_low l (v5) (4) (by omega) (by omega)) (va_cwS 2 hts gL_law_L_low rfl rfl rfl (by decide +kernel) ⟨Nat.le_of_ble_eq_true rfl, Nat.le_of_ble_eq_true rfl⟩) ⟨p0_blind, p0_pre⟩ rfl rfl hl.1 rfl (lv_room (Nat.le_of_ble_eq_true rfl)) dL_law_52 ⟨Nat.le_trans (by omega) hcs.1, Nat.le_trans (by omega) hcs.2⟩) (fun r9 H locs hp hG => ?_)
  rw [hp]
  clear hp
  refine r_nm (fun v6 ev6 => ?_)
  have hr7 := @lowF_r ((v5)) ((4)) (by omega)
  rw [← ev6] at hr7
  refine r_iadd hx hb dL_law_55 ?_
  refine r_nm (fun v8 ev8 => ?_)
  refine g_iast hx hb hK hG (20) (kd := 20) (o := 0) rfl rfl (by omega) (cp := 81) (ln := 2) rfl rfl (by omega) dL_law_56 (fun H locs hG => ?_)
  obtain ⟨st9, hst9⟩ : ∃ z : St, z = ust st4 81 (0) (0) (v8) := ⟨_, rfl⟩
  rw [← hst9] at hG
  replace hI := hst9 ▸ GI_o hI (c := 81) (o := 0) (i := 0) (v := v8) (by decide)
  refine lv_aload_n hx hb dL_law_57 rfl (lv_at hl 3 rfl) ?_
  refine lv_iconst (v := iI (1)) hx hb dL_law_58 rfl ?_
  refine lv_aload hx hb dL_law_59 (lv_at hl 4 rfl) ?_
  refine lv_iconst (v := iI (0)) hx hb dL_law_61 rfl ?_
  refine g_iald hx hb hK hG (20) (kd := 20) (o := 0) rfl rfl (by omega) (cp := 81) (ln := 2) rfl rfl (by omega) dL_law_62 ?_
  have kq10 : st9 81 (0) (0) = v8 := by rw [hst9, ust_s]
  refine r_as kq10 ?_
  clear kq10
  refine lv_iload_n hx hb dL_law_63 rfl (lv_at hl 2 rfl) ?_
  refine lv_bipush (v := iI (6)) hx hb dL_law_64 (by decide +kernel) ?_
  refine r_as (y := ((6 : Nat) : Int)) (by omega) ?_
  refine r_ishr hx hb (by omega) (by omega) dL_law_66 ?_
  refine r_nm (fun v11 ev11 => ?_)
  refine lv_iconst (v := iI (5)) hx hb dL_law_67 rfl ?_
  refine gp_goi hG (va_runS (As := [.int (iI (v11)), .int (iI (5))]) (rest := [.int (iI (v8)), .int (iI (1)), .ref (ad 19)]) ⟨hx, hb, hml, hown, hts⟩ (mL_low l (v11) (5) (by omega) (by omega)) (va_cwS 2 hts gL_law_L_low rfl rfl rfl (by decide +kernel) ⟨Nat.le_of_ble_eq_true rfl, Nat.le_of_ble_eq_true rfl⟩) ⟨p0_blind, p0_pre⟩ rfl rfl hl.1 rfl (lv_room (Nat.le_of_ble_eq_true rfl)) dL_law_68 ⟨Nat.le_trans (by omega) hcs.1, Nat.le_trans (by omega) hcs.2⟩) (fun r9 H locs hp hG => ?_)
  rw [hp]
  clear hp
  refine r_nm (fun v12 ev12 => ?_)
  have hr13 := @lowF_r ((v11)) ((5)) (by omega)
  rw [← ev12] at hr13
  refine r_iadd hx hb dL_law_71 ?_
  refine r_nm (fun v14 ev14 => ?_)
  refine g_iast hx hb hK hG (19) (kd := 19) (o := 0) rfl rfl (by omega) (cp := 80) (ln := 2) rfl rfl (by omega) dL_law_72 (fun H locs hG => ?_)
  obtain ⟨st15, hst15⟩ : ∃ z : St, z = ust st9 80 (0) (1) (v14) := ⟨_, rfl⟩
  rw [← hst15] at hG
  replace hI := hst15 ▸ GI_o hI (c := 80) (o := 0) (i := 1) (v := v14) (by decide)
  refine lv_aload hx hb dL_law_73 (lv_at hl 4 rfl) ?_
  refine lv_iconst (v := iI (1)) hx hb dL_law_75 rfl ?_
  refine lv_iconst (v := iI (1)) hx hb dL_law_76 rfl ?_
  refine lv_iload_n hx hb dL_law_77 rfl (lv_at hl 2 rfl) ?_
  refine lv_bipush (v := iI (9)) hx hb dL_law_78 (by decide +kernel) ?_
  refine r_as (y := ((9 : Nat) : Int)) (by omega) ?_
  refine r_ishr hx hb (by omega) (by omega) dL_law_80 ?_
  refine r_nm (fun v16 ev16 => ?_)
  refine lv_iconst (v := iI (4)) hx hb dL_law_81 rfl ?_
  refine gp_goi hG (va_runS (As := [.int (iI (v16)), .int (iI (4))]) (rest := [.int (iI (1)), .int (iI (1)), .ref (ad 20)]) ⟨hx, hb, hml, hown, hts⟩ (mL_low l (v16) (4) (by omega) (by omega)) (va_cwS 2 hts gL_law_L_low rfl rfl rfl (by decide +kernel) ⟨Nat.le_of_ble_eq_true rfl, Nat.le_of_ble_eq_true rfl⟩) ⟨p0_blind, p0_pre⟩ rfl rfl hl.1 rfl (lv_room (Nat.le_of_ble_eq_true rfl)) dL_law_82 ⟨Nat.le_trans (by omega) hcs.1, Nat.le_trans (by omega) hcs.2⟩) (fun r9 H locs hp hG => ?_)
  rw [hp]
  clear hp
  refine r_nm (fun v17 ev17 => ?_)
  have hr18 := @lowF_r ((v16)) ((4)) (by omega)
  rw [← ev17] at hr18
  refine r_iadd hx hb dL_law_85 ?_
  refine r_nm (fun v19 ev19 => ?_)
  refine g_iast hx hb hK hG (20) (kd := 20) (o := 0) rfl rfl (by omega) (cp := 81) (ln := 2) rfl rfl (by omega) dL_law_86 (fun H locs hG => ?_)
  obtain ⟨st20, hst20⟩ : ∃ z : St, z = ust st15 81 (0) (1) (v19) := ⟨_, rfl⟩
  rw [← hst20] at hG
  replace hI := hst20 ▸ GI_o hI (c := 81) (o := 0) (i := 1) (v := v19) (by decide)
  refine lv_aload hx hb dL_law_87 (lv_at hl 5 rfl) ?_
  refine lv_iconst (v := iI (0)) hx hb dL_law_89 rfl ?_
  refine lv_iconst (v := iI (0)) hx hb dL_law_90 rfl ?_
  refine g_iast hx hb hK hG (31) (kd := 31) (o := 0) rfl rfl (by omega) (cp := 82) (ln := 2) rfl rfl (by omega) dL_law_91 (fun H locs hG => ?_)
  obtain ⟨st21, hst21⟩ : ∃ z : St, z = ust st20 82 (0) (0) (0) := ⟨_, rfl⟩
  rw [← hst21] at hG
  replace hI := hst21 ▸ GI_o hI (c := 82) (o := 0) (i := 0) (v := 0) (by decide)
  refine lv_aload hx hb dL_law_92 (lv_at hl 5 rfl) ?_
  refine lv_iconst (v := iI (1)) hx hb dL_law_94 rfl ?_
  refine lv_iconst (v := iI (1)) hx hb dL_law_95 rfl ?_
  refine g_iast hx hb hK hG (31) (kd := 31) (o := 0) rfl rfl (by omega) (cp := 82) (ln := 2) rfl rfl (by omega) dL_law_96 (fun H locs hG => ?_)
  obtain ⟨st22, hst22⟩ : ∃ z : St, z = ust st21 82 (0) (1) (1) := ⟨_, rfl⟩
  rw [← hst22] at hG
  replace hI := hst22 ▸ GI_o hI (c := 82) (o := 0) (i := 1) (v := 1) (by decide)
  exact KK st22 (v3) (v8) (v14) (v19) H locs ls (by omega) (by omega) (by omega) (by omega) hG hI (fun c9 o9 i9 h9 => by rw [hst22, ust_c (by omega), hst21, ust_c (by omega), hst20, ust_c (by omega), hst15, ust_c (by omega), hst9, ust_c (by omega), hst4, ust_c (by omega)]) (fun j9 => by rw [hst22, ust_c (by decide), hst21, ust_c (by decide), hst20, ust_c (by decide), hst15, ust_c (by decide), hst9, ust_c (by decide), hst4, ust_c (by decide)]) (by rw [hst22, ust_c (by decide), hst21, ust_c (by decide), hst20, ust_c (by decide), hst15, ust_if, if_neg (by decide), hst9, ust_c (by decide), hst4, ust_s]) (by rw [hst22, ust_c (by decide), hst21, ust_c (by decide), hst20, ust_if, if_neg (by decide), hst15, ust_c (by decide), hst9, ust_s]) (by rw [hst22, ust_c (by decide), hst21, ust_c (by decide), hst20, ust_c (by decide), hst15, ust_s]) (by rw [hst22, ust_c (by decide), hst21, ust_c (by decide), hst20, ust_s]) (by rw [hst22, ust_if, if_neg (by decide), hst21, ust_s]) (by rw [hst22, ust_s]) (lv_sub hl [0, 1, 2, 3, 4, 5, 6] rfl)
set_option maxHeartbeats 1000000 in
set_option maxRecDepth 100000 in
theorem lb_ly0 {p : Program} {l : Launch} {e : Env} {s : State} {m : MethodId} {below : List Frame} {meth : Method} {c : Code} {b L : Nat} {xs : Nat → Int32} {D : va_G} {cy : Nat → ClassId} {fz : Nat} {A : Nat → Prop} {H : Heap} {locs : List Loc} {cells slots : Nat} {Q : State → Prop} {ls : Array Slot} {ad : Nat → Nat} {n : Nat} {st : St} (C : LC p l s m c b L xs D cy fz A) (q : Nat) (hq : q = 0) (hnq : n = 75 + 3 * q) (v i0 o0 : Int) (hi0 : 1 ≤ i0 ∧ i0 ≤ 8) (ho0 : 1 ≤ o0 ∧ o0 ≤ 4) (hG : GH D cy ad n st A s.heap H locs) (hI : GI 0 st) (hR : RY st) (h33 : st 33 0 0 = (q : Int)) (h80 : st 80 0 0 = i0) (h81 : st 81 0 0 = o0) (hl : lv_has ls 22 [(0, .ref b), (1, .ref (ad 21)), (2, .int (iI v)), (3, .ref (ad 19)), (4, .ref (ad 20)), (5, .ref (ad 31)), (6, .ref (ad 32))]) (hcs : cells + 20 ≤ room_1.cells ∧ slots + 200 ≤ room_1.slots) (KK : ∀ (st' : St) (ad' : Nat → Nat) (H : Heap) (locs : List Loc) (ls : Array Slot), GH D cy ad' (n + 3) st' A s.heap H locs → GI 0 st' → st' = lyS st q i0 o0 → lv_has ls 22 [(0, .ref b), (1, .ref (ad' 21)), (2, .int (iI v)), (3, .ref (ad' 19)), (4, .ref (ad' 20)), (5, .ref (ad' 31)), (6, .ref (ad' 32))] → W p l e room_1 s m #[Value.ref b] below meth c H locs (cells + 5) (slots + 60) Q (F0 m 111 ls [])) : W p l e room_1 s m #[Value.ref b] below meth c H locs cells slots Q (F0 m 97 ls []) := by
  obtain ⟨hx, hb, hml, hown, hts, hX, hbl, hbA, hA, hK, hN, hZ, hlf, hL⟩ := C
  have hn : 75 ≤ n := by omega
  have h14 : st 33 0 0 = st 14 0 0 := hR.1.1
  have hnl : (n : Int) = 75 + 3 * st 33 0 0 := by omega
  refine lv_aload_n hx hb dL_law_97 rfl (lv_at hl 1 rfl) ?_
  refine lv_aload_n hx hb dL_law_98 rfl (lv_at hl 3 rfl) ?_
  refine lv_iconst (v := iI (0)) hx hb dL_law_99 rfl ?_
  refine g_iald hx hb hK hG (19) (kd := 19) (o := 0) rfl rfl (by omega) (cp := 80) (ln := 2) rfl rfl (by omega) dL_law_100 ?_
  refine r_nm (fun v1 ev1 => ?_)
  refine lv_aload hx hb dL_law_101 (lv_at hl 4 rfl) ?_
  refine lv_iconst (v := iI (0)) hx hb dL_law_103 rfl ?_
  refine g_iald hx hb hK hG (20) (kd := 20) (o := 0) rfl rfl (by omega) (cp := 81) (ln := 2) rfl rfl (by omega) dL_law_104 ?_
  refine r_nm (fun v2 ev2 => ?_)
  have hk : kLayer st (v1) (v2) = 0 := by have h9 := kLayer_s st (v1) (v2); omega
  refine g_goL hG hA (va_runV (As := [.int (iI (v1)), .int (iI (v2))]) (rest := []) ⟨hx, hb, hml, hown, hts⟩ (pX5_layer l D cy ad n st _ fz _ hn hI (by omega) (v1) (v2) (by omega) (by omega) hlf hnl hR hk) (cwV 2 hts gL_law_X5_layer rfl rfl rfl (by decide +kernel) ⟨Nat.le_of_ble_eq_true rfl, Nat.le_of_ble_eq_true rfl⟩) ⟨g_blind, va_recv hK hG.1 (q0 := 21 - 19) (ci := 5) rfl ((gw_at (k := 21) (by omega)).trans (by rw [gC_21 st ad cy])), g_pre hK hG hA hN hZ⟩ rfl rfl hl.1 rfl (lv_room (Nat.le_of_ble_eq_true rfl)) dL_law_105 ⟨Nat.le_trans (by omega) hcs.1, Nat.le_trans (by omega) hcs.2⟩) (fun r9 u9 ad9 H locs hp hG => ?_)
  obtain ⟨-, ⟨rfl, hu9, had⟩, hI9⟩ := hp
  refine r_nm (fun v3 ev3 => ?_)
  refine r_if_ne (tgt := 140) hx hb (by omega) dL_law_108 (by decide) (fun c4 => ?_) (fun c4 => ?_)
  · skip
    exact absurd c4 (by omega)
  · skip
    have hu : u9 = lyS st (st 33 0 0).toNat (v1) (v2) := hu9
    have had : ∀ j, j < n → ad9 j = ad j := had
    rw [show (st 33 0 0).toNat = q by omega, show v1 = i0 by omega, show v2 = o0 by omega] at hu
    have hl : lv_has ls 22 [(0, .ref b), (1, .ref (ad 21)), (2, .int (iI v)), (3, .ref (ad 19)), (4, .ref (ad 20)), (5, .ref (ad 31)), (6, .ref (ad 32))] := lv_sub hl [0, 1, 2, 3, 4, 5, 6] rfl
    rw [← had 21 (by omega), ← had 19 (by omega), ← had 20 (by omega), ← had 31 (by omega), ← had 32 (by omega)] at hl
    exact KK u9 ad9 H locs ls hG hI9 hu hl
set_option maxHeartbeats 1000000 in
set_option maxRecDepth 100000 in
theorem lb_ly1 {p : Program} {l : Launch} {e : Env} {s : State} {m : MethodId} {below : List Frame} {meth : Method} {c : Code} {b L : Nat} {xs : Nat → Int32} {D : va_G} {cy : Nat → ClassId} {fz : Nat} {A : Nat → Prop} {H : Heap} {locs : List Loc} {cells slots : Nat} {Q : State → Prop} {ls : Array Slot} {ad : Nat → Nat} {n : Nat} {st : St} (C : LC p l s m c b L xs D cy fz A) (q : Nat) (hq : q = 1) (hnq : n = 75 + 3 * q) (v i0 o0 : Int) (hi0 : 1 ≤ i0 ∧ i0 ≤ 8) (ho0 : 1 ≤ o0 ∧ o0 ≤ 4) (hG : GH D cy ad n st A s.heap H locs) (hI : GI 0 st) (hR : RY st) (h33 : st 33 0 0 = (q : Int)) (h80 : st 80 0 1 = i0) (h81 : st 81 0 1 = o0) (hl : lv_has ls 22 [(0, .ref b), (1, .ref (ad 21)), (2, .int (iI v)), (3, .ref (ad 19)), (4, .ref (ad 20)), (5, .ref (ad 31)), (6, .ref (ad 32))]) (hcs : cells + 20 ≤ room_1.cells ∧ slots + 200 ≤ room_1.slots) (KK : ∀ (st' : St) (ad' : Nat → Nat) (H : Heap) (locs : List Loc) (ls : Array Slot), GH D cy ad' (n + 3) st' A s.heap H locs → GI 0 st' → st' = lyS st q i0 o0 → lv_has ls 22 [(0, .ref b), (1, .ref (ad' 21)), (2, .int (iI v)), (3, .ref (ad' 19)), (4, .ref (ad' 20)), (5, .ref (ad' 31)), (6, .ref (ad' 32))] → W p l e room_1 s m #[Value.ref b] below meth c H locs (cells + 5) (slots + 60) Q (F0 m 126 ls [])) : W p l e room_1 s m #[Value.ref b] below meth c H locs cells slots Q (F0 m 111 ls []) := by
  obtain ⟨hx, hb, hml, hown, hts, hX, hbl, hbA, hA, hK, hN, hZ, hlf, hL⟩ := C
  have hn : 75 ≤ n := by omega
  have h14 : st 33 0 0 = st 14 0 0 := hR.1.1
  have hnl : (n : Int) = 75 + 3 * st 33 0 0 := by omega
  refine lv_aload_n hx hb dL_law_111 rfl (lv_at hl 1 rfl) ?_
  refine lv_aload_n hx hb dL_law_112 rfl (lv_at hl 3 rfl) ?_
  refine lv_iconst (v := iI (1)) hx hb dL_law_113 rfl ?_
  refine g_iald hx hb hK hG (19) (kd := 19) (o := 0) rfl rfl (by omega) (cp := 80) (ln := 2) rfl rfl (by omega) dL_law_114 ?_
  refine r_nm (fun v1 ev1 => ?_)
  refine lv_aload hx hb dL_law_115 (lv_at hl 4 rfl) ?_
  refine lv_iconst (v := iI (1)) hx hb dL_law_117 rfl ?_
  refine g_iald hx hb hK hG (20) (kd := 20) (o := 0) rfl rfl (by omega) (cp := 81) (ln := 2) rfl rfl (by omega) dL_law_118 ?_
  refine r_nm (fun v2 ev2 => ?_)
  have hk : kLayer st (v1) (v2) = 0 := by have h9 := kLayer_s st (v1) (v2); omega
  refine g_goL hG hA (va_runV (As := [.int (iI (v1)), .int (iI (v2))]) (rest := []) ⟨hx, hb, hml, hown, hts⟩ (pX5_layer l D cy ad n st _ fz _ hn hI (by omega) (v1) (v2) (by omega) (by omega) hlf hnl hR hk) (cwV 2 hts gL_law_X5_layer rfl rfl rfl (by decide +kernel) ⟨Nat.le_of_ble_eq_true rfl, Nat.le_of_ble_eq_true rfl⟩) ⟨g_blind, va_recv hK hG.1 (q0 := 21 - 19) (ci := 5) rfl ((gw_at (k := 21) (by omega)).trans (by rw [gC_21 st ad cy])), g_pre hK hG hA hN hZ⟩ rfl rfl hl.1 rfl (lv_room (Nat.le_of_ble_eq_true rfl)) dL_law_119 ⟨Nat.le_trans (by omega) hcs.1, Nat.le_trans (by omega) hcs.2⟩) (fun r9 u9 ad9 H locs hp hG => ?_)
  obtain ⟨-, ⟨rfl, hu9, had⟩, hI9⟩ := hp
  refine r_nm (fun v3 ev3 => ?_)
  refine lv_iconst (v := iI (1)) hx hb dL_law_122 rfl ?_
  refine r_icmp_ne (tgt := 140) hx hb (by omega) dL_law_123 (by decide) (fun c4 => ?_) (fun c4 => ?_)
  · skip
    exact absurd c4 (by omega)
  · skip
    have hu : u9 = lyS st (st 33 0 0).toNat (v1) (v2) := hu9
    have had : ∀ j, j < n → ad9 j = ad j := had
    rw [show (st 33 0 0).toNat = q by omega, show v1 = i0 by omega, show v2 = o0 by omega] at hu
    have hl : lv_has ls 22 [(0, .ref b), (1, .ref (ad 21)), (2, .int (iI v)), (3, .ref (ad 19)), (4, .ref (ad 20)), (5, .ref (ad 31)), (6, .ref (ad 32))] := lv_sub hl [0, 1, 2, 3, 4, 5, 6] rfl
    rw [← had 21 (by omega), ← had 19 (by omega), ← had 20 (by omega), ← had 31 (by omega), ← had 32 (by omega)] at hl
    exact KK u9 ad9 H locs ls hG hI9 hu hl
