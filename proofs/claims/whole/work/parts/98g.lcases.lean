set_option maxHeartbeats 1000000 in
set_option maxRecDepth 100000 in
theorem lc_layer {p : Program} {l : Launch} {e : Env} {s : State} {m : MethodId} {below : List Frame} {meth : Method} {c : Code} {b L : Nat} {xs : Nat → Int32} {D : va_G} {cy : Nat → ClassId} {fz : Nat} {A : Nat → Prop} {H : Heap} {locs : List Loc} {cells slots : Nat} {Q : State → Prop} {ls : Array Slot} {ad : Nat → Nat} {n : Nat} {st : St} (C : LC p l s m meth c b L xs D cy fz A) (k : Nat) (hk : 5 * k + 5 ≤ L) (hG : GH D cy ad n st A s.heap H locs) (hR : RY st) (hI : GI (2048 * (k : Int)) st) (hnl : (n : Int) = 75 + 3 * st 33 0 0) (hl : lv_has ls 9 (llv b ad k)) (hcs : cells + 8 ≤ room_1.cells ∧ slots + 60 ≤ room_1.slots) (KK : LKK p l e s m below meth c b D cy A Q k cells slots) : W p l e room_1 s m #[Value.ref b] below meth c H locs cells slots Q (F0 m 188 ls []) := by
  have hn : 75 ≤ n := by have := gI_33 hI 0 0; omega
  have hkL := C.hL
  refine lv_aload_n C.hx C.hb dL_law_188 rfl (lv_at hl 1 rfl) ?_
  refine law_ld C hk (q := 1) (by decide) hG.2.2 hl 0 5 rfl rfl dL_law_189 dL_law_190 dL_law_192 dL_law_193 dL_law_194 ?_
  refine law_ld C hk (q := 2) (by decide) hG.2.2 hl 0 5 rfl rfl dL_law_195 dL_law_196 dL_law_198 dL_law_199 dL_law_200 ?_
  refine lv_aload_n C.hx C.hb dL_law_201 rfl (lv_at hl 3 rfl) ?_
  refine gx_goM hG C.hA (vx_runSX (As := [.ref (ad 21), .int (iI (sA xs (5 * k + 1))), .int (iI (sA xs (5 * k + 2))), .ref (ad 31)]) (rest := []) ⟨C.hx, C.hb, C.hml, C.hown, C.hts⟩ (mL_layer l D cy ad n st _ fz (2048 * (k : Int)) hn hI (by omega) (sA xs (5 * k + 1)) (sA xs (5 * k + 2)) (sA_r xs _) (sA_r xs _) C.hlf hnl hR) (vx_cwSW 4 C.hts gL_law_L_layer rfl rfl rfl (by decide +kernel) ⟨Nat.le_of_ble_eq_true rfl, Nat.le_of_ble_eq_true rfl⟩) ⟨g_blind, g_pre C.hK hG C.hA C.hN C.hZ⟩ rfl rfl hl.1 rfl (lv_room (Nat.le_of_ble_eq_true rfl)) dL_law_202 ⟨Nat.le_trans (by omega) hcs.1, Nat.le_trans (by omega) hcs.2⟩) (fun E9 st9 H locs ce9 q9 hp hG hce hcv hcl => hp.elim) (fun r9 u9 ad9 n9 H locs hp hG => ?_)
  dsimp only at hp
  have hlr : (n9 : Int) = 75 + 3 * u9 33 0 0 ∧ n ≤ n9 ∧ ∀ j, j < n → ad9 j = ad j := by
    rcases hp.2.1 with ⟨-, e1, e2, e3⟩ | ⟨-, e1⟩
    · refine ⟨?_, by omega, e3⟩
      rw [e2, ust_c (by decide), lyS_33]
      omega
    · obtain ⟨rfl, rfl, rfl⟩ : u9 = st ∧ ad9 = ad ∧ n9 = n := ⟨congrArg Prod.fst e1, congrArg (fun z => z.2.1) e1, congrArg (fun z => z.2.2) e1⟩
      exact ⟨hnl, Nat.le_refl _, fun _ _ => rfl⟩
  obtain ⟨hnl9, hnn, hadj⟩ := hlr
  have hrc : r9 = iI (kLayer st (sA xs (5 * k + 1)) (sA xs (5 * k + 2))) ∧ ((kLayer st (sA xs (5 * k + 1)) (sA xs (5 * k + 2)) = 0 ∧ u9 = ust (lyS st (st 33 0 0).toNat (sA xs (5 * k + 1)) (sA xs (5 * k + 2))) 70 0 0 ((iI (st 33 0 0)).toInt64).toInt) ∨ (kLayer st (sA xs (5 * k + 1)) (sA xs (5 * k + 2)) ≠ 0 ∧ u9 = st)) ∧ GI (2048 * (k : Int)) u9 := ⟨hp.1, hp.2.1.imp (fun h => ⟨h.1, h.2.2.1⟩) (fun h => ⟨h.1, congrArg Prod.fst h.2⟩), hp.2.2⟩
  clear hp
  have hp := hrc
  have hl : lv_has ls 9 (llv b ad9 k) := by
    unfold llv
    rw [hadj 21 (by omega), hadj 0 (by omega), hadj 31 (by omega), hadj 32 (by omega)]
    exact hl
  have hn : 75 ≤ n9 := by omega
  refine lv_istore (lv' := [(6, .int r9), (0, .ref b), (1, .ref (ad9 21)), (2, .ref (ad9 0)), (3, .ref (ad9 31)), (4, .ref (ad9 32)), (5, .int (iI (5 * (k : Int))))]) C.hx C.hb dL_law_205 hl (by decide) rfl (fun ls hl => ?_)
  refine lv_aload_n C.hx C.hb dL_law_207 rfl (lv_at hl 3 rfl) ?_
  refine law_ld C hk (q := 1) (by decide) hG.2.2 hl 1 6 rfl rfl dL_law_208 dL_law_209 dL_law_211 dL_law_212 dL_law_213 ?_
  refine law_ld C hk (q := 2) (by decide) hG.2.2 hl 1 6 rfl rfl dL_law_214 dL_law_215 dL_law_217 dL_law_218 dL_law_219 ?_
  refine g_goi hG C.hA (va_runV (As := [.int (iI (sA xs (5 * k + 1))), .int (iI (sA xs (5 * k + 2)))]) (rest := []) ⟨C.hx, C.hb, C.hml, C.hown, C.hts⟩ (mX6_layer l D cy ad9 n9 u9 _ fz (2048 * (k : Int)) hn hp.2.2 (by omega) (sA xs (5 * k + 1)) (sA xs (5 * k + 2)) (sA_r xs _) (sA_r xs _)) (cwV 2 C.hts gL_law_X6_layer rfl rfl rfl (by decide +kernel) ⟨Nat.le_of_ble_eq_true rfl, Nat.le_of_ble_eq_true rfl⟩) ⟨g_blind, va_recv C.hK hG.1 (q0 := 0) (ci := 6) rfl ((gw_at (by omega)).trans (by rw [gC_0])), g_pre C.hK hG C.hA C.hN C.hZ⟩ rfl rfl hl.1 rfl (lv_room (Nat.le_of_ble_eq_true rfl)) dL_law_220 ⟨Nat.le_trans (by omega) hcs.1, Nat.le_trans (by omega) hcs.2⟩) (fun b9 z H locs hq hG => ?_)
  refine lv_istore (lv' := [(7, .int b9), (6, .int r9), (0, .ref b), (1, .ref (ad9 21)), (2, .ref (ad9 0)), (3, .ref (ad9 31)), (4, .ref (ad9 32)), (5, .int (iI (5 * (k : Int))))]) C.hx C.hb dL_law_223 hl (by decide) rfl (fun ls hl => ?_)
  obtain ⟨hr0, ho, hRz, hIz, h33⟩ := rc_layer (sA xs (5 * k + 1)) (sA xs (5 * k + 2)) hR hI hp hq
  have h00 := gI_0 hIz 0 0
  refine lv_aload_n C.hx C.hb dL_law_225 rfl (lv_at hl 4 rfl) ?_
  refine g_goi hG C.hA (va_runV (As := []) (rest := []) ⟨C.hx, C.hb, C.hml, C.hown, C.hts⟩ (mX6_thrown l D cy ad9 n9 z _ fz _ hn hIz (by omega)) (cwV 0 C.hts gL_law_X6_thrown rfl rfl rfl (by decide +kernel) ⟨Nat.le_of_ble_eq_true rfl, Nat.le_of_ble_eq_true rfl⟩) ⟨g_blind, va_recv C.hK hG.1 (q0 := 0) (ci := 6) rfl ((gw_at (by omega)).trans (by rw [gC_0])), g_pre C.hK hG C.hA C.hN C.hZ⟩ rfl rfl hl.1 rfl (lv_room (Nat.le_of_ble_eq_true rfl)) dL_law_226 ⟨Nat.le_trans (by omega) hcs.1, Nat.le_trans (by omega) hcs.2⟩) (fun r8 z8 H locs hq8 hG => ?_)
  obtain ⟨hr8, hz8⟩ := hq8
  rw [hz8] at hG
  refine r_asI hr8 ?_
  refine lv_iload C.hx C.hb dL_law_229 (lv_at hl 1 rfl) ?_
  refine r_asI hr0 ?_
  refine r_icmp_eq (tgt := 236) C.hx C.hb (by omega) dL_law_231 (by decide) (fun _ => ?_) (fun c1 => absurd rfl c1)
  refine lv_iload C.hx C.hb dL_law_236 (lv_at hl 1 rfl) ?_
  refine r_asI hr0 ?_
  refine r_if_ne (tgt := 253) C.hx C.hb (by omega) dL_law_238 (by decide) (fun c2 => ?_) (fun c2 => ?_)
  · skip
    refine lv_goto (tgt := 2518) C.hx C.hb dL_law_253 (by decide) ?_
    refine W.widen (k := cells + 8) (n := slots + 60) (by omega) (by omega) ?_
    exact KK z ad9 n9 H locs ls hG hRz (GI_mono (by omega) hIz) (by omega) (lv_sub hl [2, 3, 4, 5, 6, 7] rfl)
  refine lv_aload_n C.hx C.hb dL_law_241 rfl (lv_at hl 5 rfl) ?_
  refine lv_iconst (v := iI (0)) C.hx C.hb dL_law_242 rfl ?_
  refine g_lald C.hx C.hb hn C.hK hG dL_law_243 ?_
  refine lv_iload C.hx C.hb dL_law_244 (lv_at hl 0 rfl) ?_
  refine lv_i2l (v := b9.toInt64) C.hx C.hb dL_law_246 rfl ?_
  refine r_lcz (ho c2) C.hx C.hb dL_law_247 ?_
  refine r_if_eq (tgt := 253) C.hx C.hb (by omega) dL_law_248 (by decide) (fun _ => ?_) (fun c3 => absurd rfl c3)
  refine lv_goto (tgt := 2518) C.hx C.hb dL_law_253 (by decide) ?_
  refine W.widen (k := cells + 8) (n := slots + 60) (by omega) (by omega) ?_
  exact KK z ad9 n9 H locs ls hG hRz (GI_mono (by omega) hIz) (by omega) (lv_sub hl [2, 3, 4, 5, 6, 7] rfl)
set_option maxHeartbeats 1000000 in
set_option maxRecDepth 100000 in
theorem lc_weight {p : Program} {l : Launch} {e : Env} {s : State} {m : MethodId} {below : List Frame} {meth : Method} {c : Code} {b L : Nat} {xs : Nat → Int32} {D : va_G} {cy : Nat → ClassId} {fz : Nat} {A : Nat → Prop} {H : Heap} {locs : List Loc} {cells slots : Nat} {Q : State → Prop} {ls : Array Slot} {ad : Nat → Nat} {n : Nat} {st : St} (C : LC p l s m meth c b L xs D cy fz A) (k : Nat) (hk : 5 * k + 5 ≤ L) (hG : GH D cy ad n st A s.heap H locs) (hR : RY st) (hI : GI (2048 * (k : Int)) st) (hnl : (n : Int) = 75 + 3 * st 33 0 0) (hl : lv_has ls 9 (llv b ad k)) (hcs : cells + 8 ≤ room_1.cells ∧ slots + 60 ≤ room_1.slots) (KK : LKK p l e s m below meth c b D cy A Q k cells slots) : W p l e room_1 s m #[Value.ref b] below meth c H locs cells slots Q (F0 m 256 ls []) := by
  have hn : 75 ≤ n := by have := gI_33 hI 0 0; omega
  have hkL := C.hL
  refine lv_aload_n C.hx C.hb dL_law_256 rfl (lv_at hl 1 rfl) ?_
  refine law_ld C hk (q := 1) (by decide) hG.2.2 hl 0 5 rfl rfl dL_law_257 dL_law_258 dL_law_260 dL_law_261 dL_law_262 ?_
  refine law_ld C hk (q := 2) (by decide) hG.2.2 hl 0 5 rfl rfl dL_law_263 dL_law_264 dL_law_266 dL_law_267 dL_law_268 ?_
  refine law_ld C hk (q := 3) (by decide) hG.2.2 hl 0 5 rfl rfl dL_law_269 dL_law_270 dL_law_272 dL_law_273 dL_law_274 ?_
  refine law_ld C hk (q := 4) (by decide) hG.2.2 hl 0 5 rfl rfl dL_law_275 dL_law_276 dL_law_278 dL_law_279 dL_law_280 ?_
  refine lv_aload_n C.hx C.hb dL_law_281 rfl (lv_at hl 3 rfl) ?_
  refine gx_goi hG C.hA (vx_runSX (As := [.ref (ad 21), .int (iI (sA xs (5 * k + 1))), .int (iI (sA xs (5 * k + 2))), .int (iI (sA xs (5 * k + 3))), .int (iI (sA xs (5 * k + 4))), .ref (ad 31)]) (rest := []) ⟨C.hx, C.hb, C.hml, C.hown, C.hts⟩ (mL_weight l D cy ad n st _ fz (2048 * (k : Int)) hn hI (by omega) (sA xs (5 * k + 1)) (sA xs (5 * k + 2)) (sA xs (5 * k + 3)) (sA xs (5 * k + 4)) (sA_r xs _) (sA_r xs _) (sA_r xs _) (sA_r xs _) C.hlf hnl hR) (vx_cwSW 6 C.hts gL_law_L_weight rfl rfl rfl (by decide +kernel) ⟨Nat.le_of_ble_eq_true rfl, Nat.le_of_ble_eq_true rfl⟩) ⟨g_blind, g_pre C.hK hG C.hA C.hN C.hZ⟩ rfl rfl hl.1 rfl (lv_room (Nat.le_of_ble_eq_true rfl)) dL_law_282 ⟨Nat.le_trans (by omega) hcs.1, Nat.le_trans (by omega) hcs.2⟩) (fun E9 st9 H locs ce9 q9 hp hG hce hcv hcl => hp.elim) (fun r9 st1 H locs hp hG => ?_)
  refine lv_istore (lv' := [(6, .int r9), (0, .ref b), (1, .ref (ad 21)), (2, .ref (ad 0)), (3, .ref (ad 31)), (4, .ref (ad 32)), (5, .int (iI (5 * (k : Int))))]) C.hx C.hb dL_law_285 hl (by decide) rfl (fun ls hl => ?_)
  refine lv_aload_n C.hx C.hb dL_law_287 rfl (lv_at hl 3 rfl) ?_
  refine law_ld C hk (q := 1) (by decide) hG.2.2 hl 1 6 rfl rfl dL_law_288 dL_law_289 dL_law_291 dL_law_292 dL_law_293 ?_
  refine law_ld C hk (q := 2) (by decide) hG.2.2 hl 1 6 rfl rfl dL_law_294 dL_law_295 dL_law_297 dL_law_298 dL_law_299 ?_
  refine law_ld C hk (q := 3) (by decide) hG.2.2 hl 1 6 rfl rfl dL_law_300 dL_law_301 dL_law_303 dL_law_304 dL_law_305 ?_
  refine law_ld C hk (q := 4) (by decide) hG.2.2 hl 1 6 rfl rfl dL_law_306 dL_law_307 dL_law_309 dL_law_310 dL_law_311 ?_
  refine g_goi hG C.hA (va_runV (As := [.int (iI (sA xs (5 * k + 1))), .int (iI (sA xs (5 * k + 2))), .int (iI (sA xs (5 * k + 3))), .int (iI (sA xs (5 * k + 4)))]) (rest := []) ⟨C.hx, C.hb, C.hml, C.hown, C.hts⟩ (mX6_weight l D cy ad n st1 _ fz (2048 * (k : Int)) hn hp.2.2 (by omega) (sA xs (5 * k + 1)) (sA xs (5 * k + 2)) (sA xs (5 * k + 3)) (sA xs (5 * k + 4)) (sA_r xs _) (sA_r xs _) (sA_r xs _) (sA_r xs _)) (cwV 4 C.hts gL_law_X6_weight rfl rfl rfl (by decide +kernel) ⟨Nat.le_of_ble_eq_true rfl, Nat.le_of_ble_eq_true rfl⟩) ⟨g_blind, va_recv C.hK hG.1 (q0 := 0) (ci := 6) rfl ((gw_at (by omega)).trans (by rw [gC_0])), g_pre C.hK hG C.hA C.hN C.hZ⟩ rfl rfl hl.1 rfl (lv_room (Nat.le_of_ble_eq_true rfl)) dL_law_312 ⟨Nat.le_trans (by omega) hcs.1, Nat.le_trans (by omega) hcs.2⟩) (fun b9 z H locs hq hG => ?_)
  refine lv_istore (lv' := [(7, .int b9), (6, .int r9), (0, .ref b), (1, .ref (ad 21)), (2, .ref (ad 0)), (3, .ref (ad 31)), (4, .ref (ad 32)), (5, .int (iI (5 * (k : Int))))]) C.hx C.hb dL_law_315 hl (by decide) rfl (fun ls hl => ?_)
  obtain ⟨hr0, ho, hRz, hIz, h33⟩ := rc_weight (sA xs (5 * k + 1)) (sA xs (5 * k + 2)) (sA xs (5 * k + 3)) (sA xs (5 * k + 4)) hR hI hp hq
  have h00 := gI_0 hIz 0 0
  refine lv_aload_n C.hx C.hb dL_law_317 rfl (lv_at hl 4 rfl) ?_
  refine g_goi hG C.hA (va_runV (As := []) (rest := []) ⟨C.hx, C.hb, C.hml, C.hown, C.hts⟩ (mX6_thrown l D cy ad n z _ fz _ hn hIz (by omega)) (cwV 0 C.hts gL_law_X6_thrown rfl rfl rfl (by decide +kernel) ⟨Nat.le_of_ble_eq_true rfl, Nat.le_of_ble_eq_true rfl⟩) ⟨g_blind, va_recv C.hK hG.1 (q0 := 0) (ci := 6) rfl ((gw_at (by omega)).trans (by rw [gC_0])), g_pre C.hK hG C.hA C.hN C.hZ⟩ rfl rfl hl.1 rfl (lv_room (Nat.le_of_ble_eq_true rfl)) dL_law_318 ⟨Nat.le_trans (by omega) hcs.1, Nat.le_trans (by omega) hcs.2⟩) (fun r8 z8 H locs hq8 hG => ?_)
  obtain ⟨hr8, hz8⟩ := hq8
  rw [hz8] at hG
  refine r_asI hr8 ?_
  refine lv_iload C.hx C.hb dL_law_321 (lv_at hl 1 rfl) ?_
  refine r_asI hr0 ?_
  refine r_icmp_eq (tgt := 328) C.hx C.hb (by omega) dL_law_323 (by decide) (fun _ => ?_) (fun c1 => absurd rfl c1)
  refine lv_iload C.hx C.hb dL_law_328 (lv_at hl 1 rfl) ?_
  refine r_asI hr0 ?_
  refine r_if_ne (tgt := 345) C.hx C.hb (by omega) dL_law_330 (by decide) (fun c2 => ?_) (fun c2 => ?_)
  · skip
    refine lv_goto (tgt := 2518) C.hx C.hb dL_law_345 (by decide) ?_
    refine W.widen (k := cells + 8) (n := slots + 60) (by omega) (by omega) ?_
    exact KK z ad n H locs ls hG hRz (GI_mono (by omega) hIz) (by omega) (lv_sub hl [2, 3, 4, 5, 6, 7] rfl)
  refine lv_aload_n C.hx C.hb dL_law_333 rfl (lv_at hl 5 rfl) ?_
  refine lv_iconst (v := iI (0)) C.hx C.hb dL_law_334 rfl ?_
  refine g_lald C.hx C.hb hn C.hK hG dL_law_335 ?_
  refine lv_iload C.hx C.hb dL_law_336 (lv_at hl 0 rfl) ?_
  refine lv_i2l (v := b9.toInt64) C.hx C.hb dL_law_338 rfl ?_
  refine r_lcz (ho c2) C.hx C.hb dL_law_339 ?_
  refine r_if_eq (tgt := 345) C.hx C.hb (by omega) dL_law_340 (by decide) (fun _ => ?_) (fun c3 => absurd rfl c3)
  refine lv_goto (tgt := 2518) C.hx C.hb dL_law_345 (by decide) ?_
  refine W.widen (k := cells + 8) (n := slots + 60) (by omega) (by omega) ?_
  exact KK z ad n H locs ls hG hRz (GI_mono (by omega) hIz) (by omega) (lv_sub hl [2, 3, 4, 5, 6, 7] rfl)
set_option maxHeartbeats 1000000 in
set_option maxRecDepth 100000 in
theorem lc_shift {p : Program} {l : Launch} {e : Env} {s : State} {m : MethodId} {below : List Frame} {meth : Method} {c : Code} {b L : Nat} {xs : Nat → Int32} {D : va_G} {cy : Nat → ClassId} {fz : Nat} {A : Nat → Prop} {H : Heap} {locs : List Loc} {cells slots : Nat} {Q : State → Prop} {ls : Array Slot} {ad : Nat → Nat} {n : Nat} {st : St} (C : LC p l s m meth c b L xs D cy fz A) (k : Nat) (hk : 5 * k + 5 ≤ L) (hG : GH D cy ad n st A s.heap H locs) (hR : RY st) (hI : GI (2048 * (k : Int)) st) (hnl : (n : Int) = 75 + 3 * st 33 0 0) (hl : lv_has ls 9 (llv b ad k)) (hcs : cells + 8 ≤ room_1.cells ∧ slots + 60 ≤ room_1.slots) (KK : LKK p l e s m below meth c b D cy A Q k cells slots) : W p l e room_1 s m #[Value.ref b] below meth c H locs cells slots Q (F0 m 348 ls []) := by
  have hn : 75 ≤ n := by have := gI_33 hI 0 0; omega
  have hkL := C.hL
  refine lv_aload_n C.hx C.hb dL_law_348 rfl (lv_at hl 1 rfl) ?_
  refine law_ld C hk (q := 1) (by decide) hG.2.2 hl 0 5 rfl rfl dL_law_349 dL_law_350 dL_law_352 dL_law_353 dL_law_354 ?_
  refine law_ld C hk (q := 2) (by decide) hG.2.2 hl 0 5 rfl rfl dL_law_355 dL_law_356 dL_law_358 dL_law_359 dL_law_360 ?_
  refine lv_aload_n C.hx C.hb dL_law_361 rfl (lv_at hl 3 rfl) ?_
  refine gx_goi hG C.hA (vx_runSX (As := [.ref (ad 21), .int (iI (sA xs (5 * k + 1))), .int (iI (sA xs (5 * k + 2))), .ref (ad 31)]) (rest := []) ⟨C.hx, C.hb, C.hml, C.hown, C.hts⟩ (mL_shift l D cy ad n st _ fz (2048 * (k : Int)) hn hI (by omega) (sA xs (5 * k + 1)) (sA xs (5 * k + 2)) (sA_r xs _) (sA_r xs _) C.hlf hnl hR) (vx_cwSW 4 C.hts gL_law_L_shift rfl rfl rfl (by decide +kernel) ⟨Nat.le_of_ble_eq_true rfl, Nat.le_of_ble_eq_true rfl⟩) ⟨g_blind, g_pre C.hK hG C.hA C.hN C.hZ⟩ rfl rfl hl.1 rfl (lv_room (Nat.le_of_ble_eq_true rfl)) dL_law_362 ⟨Nat.le_trans (by omega) hcs.1, Nat.le_trans (by omega) hcs.2⟩) (fun E9 st9 H locs ce9 q9 hp hG hce hcv hcl => hp.elim) (fun r9 st1 H locs hp hG => ?_)
  refine lv_istore (lv' := [(6, .int r9), (0, .ref b), (1, .ref (ad 21)), (2, .ref (ad 0)), (3, .ref (ad 31)), (4, .ref (ad 32)), (5, .int (iI (5 * (k : Int))))]) C.hx C.hb dL_law_365 hl (by decide) rfl (fun ls hl => ?_)
  refine lv_aload_n C.hx C.hb dL_law_367 rfl (lv_at hl 3 rfl) ?_
  refine law_ld C hk (q := 1) (by decide) hG.2.2 hl 1 6 rfl rfl dL_law_368 dL_law_369 dL_law_371 dL_law_372 dL_law_373 ?_
  refine law_ld C hk (q := 2) (by decide) hG.2.2 hl 1 6 rfl rfl dL_law_374 dL_law_375 dL_law_377 dL_law_378 dL_law_379 ?_
  refine g_goi hG C.hA (va_runV (As := [.int (iI (sA xs (5 * k + 1))), .int (iI (sA xs (5 * k + 2)))]) (rest := []) ⟨C.hx, C.hb, C.hml, C.hown, C.hts⟩ (mX6_shift l D cy ad n st1 _ fz (2048 * (k : Int)) hn hp.2.2 (by omega) (sA xs (5 * k + 1)) (sA xs (5 * k + 2)) (sA_r xs _) (sA_r xs _)) (cwV 2 C.hts gL_law_X6_shift rfl rfl rfl (by decide +kernel) ⟨Nat.le_of_ble_eq_true rfl, Nat.le_of_ble_eq_true rfl⟩) ⟨g_blind, va_recv C.hK hG.1 (q0 := 0) (ci := 6) rfl ((gw_at (by omega)).trans (by rw [gC_0])), g_pre C.hK hG C.hA C.hN C.hZ⟩ rfl rfl hl.1 rfl (lv_room (Nat.le_of_ble_eq_true rfl)) dL_law_380 ⟨Nat.le_trans (by omega) hcs.1, Nat.le_trans (by omega) hcs.2⟩) (fun b9 z H locs hq hG => ?_)
  refine lv_istore (lv' := [(7, .int b9), (6, .int r9), (0, .ref b), (1, .ref (ad 21)), (2, .ref (ad 0)), (3, .ref (ad 31)), (4, .ref (ad 32)), (5, .int (iI (5 * (k : Int))))]) C.hx C.hb dL_law_383 hl (by decide) rfl (fun ls hl => ?_)
  obtain ⟨hr0, ho, hRz, hIz, h33⟩ := rc_shift (sA xs (5 * k + 1)) (sA xs (5 * k + 2)) hR hI hp hq
  have h00 := gI_0 hIz 0 0
  refine lv_aload_n C.hx C.hb dL_law_385 rfl (lv_at hl 4 rfl) ?_
  refine g_goi hG C.hA (va_runV (As := []) (rest := []) ⟨C.hx, C.hb, C.hml, C.hown, C.hts⟩ (mX6_thrown l D cy ad n z _ fz _ hn hIz (by omega)) (cwV 0 C.hts gL_law_X6_thrown rfl rfl rfl (by decide +kernel) ⟨Nat.le_of_ble_eq_true rfl, Nat.le_of_ble_eq_true rfl⟩) ⟨g_blind, va_recv C.hK hG.1 (q0 := 0) (ci := 6) rfl ((gw_at (by omega)).trans (by rw [gC_0])), g_pre C.hK hG C.hA C.hN C.hZ⟩ rfl rfl hl.1 rfl (lv_room (Nat.le_of_ble_eq_true rfl)) dL_law_386 ⟨Nat.le_trans (by omega) hcs.1, Nat.le_trans (by omega) hcs.2⟩) (fun r8 z8 H locs hq8 hG => ?_)
  obtain ⟨hr8, hz8⟩ := hq8
  rw [hz8] at hG
  refine r_asI hr8 ?_
  refine lv_iload C.hx C.hb dL_law_389 (lv_at hl 1 rfl) ?_
  refine r_asI hr0 ?_
  refine r_icmp_eq (tgt := 396) C.hx C.hb (by omega) dL_law_391 (by decide) (fun _ => ?_) (fun c1 => absurd rfl c1)
  refine lv_iload C.hx C.hb dL_law_396 (lv_at hl 1 rfl) ?_
  refine r_asI hr0 ?_
  refine r_if_ne (tgt := 413) C.hx C.hb (by omega) dL_law_398 (by decide) (fun c2 => ?_) (fun c2 => ?_)
  · skip
    refine lv_goto (tgt := 2518) C.hx C.hb dL_law_413 (by decide) ?_
    refine W.widen (k := cells + 8) (n := slots + 60) (by omega) (by omega) ?_
    exact KK z ad n H locs ls hG hRz (GI_mono (by omega) hIz) (by omega) (lv_sub hl [2, 3, 4, 5, 6, 7] rfl)
  refine lv_aload_n C.hx C.hb dL_law_401 rfl (lv_at hl 5 rfl) ?_
  refine lv_iconst (v := iI (0)) C.hx C.hb dL_law_402 rfl ?_
  refine g_lald C.hx C.hb hn C.hK hG dL_law_403 ?_
  refine lv_iload C.hx C.hb dL_law_404 (lv_at hl 0 rfl) ?_
  refine lv_i2l (v := b9.toInt64) C.hx C.hb dL_law_406 rfl ?_
  refine r_lcz (ho c2) C.hx C.hb dL_law_407 ?_
  refine r_if_eq (tgt := 413) C.hx C.hb (by omega) dL_law_408 (by decide) (fun _ => ?_) (fun c3 => absurd rfl c3)
  refine lv_goto (tgt := 2518) C.hx C.hb dL_law_413 (by decide) ?_
  refine W.widen (k := cells + 8) (n := slots + 60) (by omega) (by omega) ?_
  exact KK z ad n H locs ls hG hRz (GI_mono (by omega) hIz) (by omega) (lv_sub hl [2, 3, 4, 5, 6, 7] rfl)
set_option maxHeartbeats 1000000 in
set_option maxRecDepth 100000 in
theorem lc_next {p : Program} {l : Launch} {e : Env} {s : State} {m : MethodId} {below : List Frame} {meth : Method} {c : Code} {b L : Nat} {xs : Nat → Int32} {D : va_G} {cy : Nat → ClassId} {fz : Nat} {A : Nat → Prop} {H : Heap} {locs : List Loc} {cells slots : Nat} {Q : State → Prop} {ls : Array Slot} {ad : Nat → Nat} {n : Nat} {st : St} (C : LC p l s m meth c b L xs D cy fz A) (k : Nat) (hk : 5 * k + 5 ≤ L) (hG : GH D cy ad n st A s.heap H locs) (hR : RY st) (hI : GI (2048 * (k : Int)) st) (hnl : (n : Int) = 75 + 3 * st 33 0 0) (hl : lv_has ls 9 (llv b ad k)) (hcs : cells + 8 ≤ room_1.cells ∧ slots + 60 ≤ room_1.slots) (KK : LKK p l e s m below meth c b D cy A Q k cells slots) : W p l e room_1 s m #[Value.ref b] below meth c H locs cells slots Q (F0 m 416 ls []) := by
  have hn : 75 ≤ n := by have := gI_33 hI 0 0; omega
  have hkL := C.hL
  refine lv_aload_n C.hx C.hb dL_law_416 rfl (lv_at hl 1 rfl) ?_
  refine law_ld C hk (q := 1) (by decide) hG.2.2 hl 0 5 rfl rfl dL_law_417 dL_law_418 dL_law_420 dL_law_421 dL_law_422 ?_
  refine law_ld C hk (q := 2) (by decide) hG.2.2 hl 0 5 rfl rfl dL_law_423 dL_law_424 dL_law_426 dL_law_427 dL_law_428 ?_
  refine lv_aload_n C.hx C.hb dL_law_429 rfl (lv_at hl 3 rfl) ?_
  refine gx_goi hG C.hA (vx_runSX (As := [.ref (ad 21), .int (iI (sA xs (5 * k + 1))), .int (iI (sA xs (5 * k + 2))), .ref (ad 31)]) (rest := []) ⟨C.hx, C.hb, C.hml, C.hown, C.hts⟩ (mL_next l D cy ad n st _ fz (2048 * (k : Int)) hn hI (by omega) (sA xs (5 * k + 1)) (sA xs (5 * k + 2)) (sA_r xs _) (sA_r xs _) C.hlf hnl hR) (vx_cwSW 4 C.hts gL_law_L_next rfl rfl rfl (by decide +kernel) ⟨Nat.le_of_ble_eq_true rfl, Nat.le_of_ble_eq_true rfl⟩) ⟨g_blind, g_pre C.hK hG C.hA C.hN C.hZ⟩ rfl rfl hl.1 rfl (lv_room (Nat.le_of_ble_eq_true rfl)) dL_law_430 ⟨Nat.le_trans (by omega) hcs.1, Nat.le_trans (by omega) hcs.2⟩) (fun E9 st9 H locs ce9 q9 hp hG hce hcv hcl => hp.elim) (fun r9 st1 H locs hp hG => ?_)
  refine lv_istore (lv' := [(6, .int r9), (0, .ref b), (1, .ref (ad 21)), (2, .ref (ad 0)), (3, .ref (ad 31)), (4, .ref (ad 32)), (5, .int (iI (5 * (k : Int))))]) C.hx C.hb dL_law_433 hl (by decide) rfl (fun ls hl => ?_)
  refine lv_aload_n C.hx C.hb dL_law_435 rfl (lv_at hl 3 rfl) ?_
  refine law_ld C hk (q := 1) (by decide) hG.2.2 hl 1 6 rfl rfl dL_law_436 dL_law_437 dL_law_439 dL_law_440 dL_law_441 ?_
  refine law_ld C hk (q := 2) (by decide) hG.2.2 hl 1 6 rfl rfl dL_law_442 dL_law_443 dL_law_445 dL_law_446 dL_law_447 ?_
  refine g_goi hG C.hA (va_runV (As := [.int (iI (sA xs (5 * k + 1))), .int (iI (sA xs (5 * k + 2)))]) (rest := []) ⟨C.hx, C.hb, C.hml, C.hown, C.hts⟩ (mX6_next l D cy ad n st1 _ fz (2048 * (k : Int)) hn hp.2.2 (by omega) (sA xs (5 * k + 1)) (sA xs (5 * k + 2)) (sA_r xs _) (sA_r xs _)) (cwV 2 C.hts gL_law_X6_next rfl rfl rfl (by decide +kernel) ⟨Nat.le_of_ble_eq_true rfl, Nat.le_of_ble_eq_true rfl⟩) ⟨g_blind, va_recv C.hK hG.1 (q0 := 0) (ci := 6) rfl ((gw_at (by omega)).trans (by rw [gC_0])), g_pre C.hK hG C.hA C.hN C.hZ⟩ rfl rfl hl.1 rfl (lv_room (Nat.le_of_ble_eq_true rfl)) dL_law_448 ⟨Nat.le_trans (by omega) hcs.1, Nat.le_trans (by omega) hcs.2⟩) (fun b9 z H locs hq hG => ?_)
  refine lv_istore (lv' := [(7, .int b9), (6, .int r9), (0, .ref b), (1, .ref (ad 21)), (2, .ref (ad 0)), (3, .ref (ad 31)), (4, .ref (ad 32)), (5, .int (iI (5 * (k : Int))))]) C.hx C.hb dL_law_451 hl (by decide) rfl (fun ls hl => ?_)
  obtain ⟨hr0, ho, hRz, hIz, h33⟩ := rc_next (sA xs (5 * k + 1)) (sA xs (5 * k + 2)) hR hI hp hq
  have h00 := gI_0 hIz 0 0
  refine lv_aload_n C.hx C.hb dL_law_453 rfl (lv_at hl 4 rfl) ?_
  refine g_goi hG C.hA (va_runV (As := []) (rest := []) ⟨C.hx, C.hb, C.hml, C.hown, C.hts⟩ (mX6_thrown l D cy ad n z _ fz _ hn hIz (by omega)) (cwV 0 C.hts gL_law_X6_thrown rfl rfl rfl (by decide +kernel) ⟨Nat.le_of_ble_eq_true rfl, Nat.le_of_ble_eq_true rfl⟩) ⟨g_blind, va_recv C.hK hG.1 (q0 := 0) (ci := 6) rfl ((gw_at (by omega)).trans (by rw [gC_0])), g_pre C.hK hG C.hA C.hN C.hZ⟩ rfl rfl hl.1 rfl (lv_room (Nat.le_of_ble_eq_true rfl)) dL_law_454 ⟨Nat.le_trans (by omega) hcs.1, Nat.le_trans (by omega) hcs.2⟩) (fun r8 z8 H locs hq8 hG => ?_)
  obtain ⟨hr8, hz8⟩ := hq8
  rw [hz8] at hG
  refine r_asI hr8 ?_
  refine lv_iload C.hx C.hb dL_law_457 (lv_at hl 1 rfl) ?_
  refine r_asI hr0 ?_
  refine r_icmp_eq (tgt := 464) C.hx C.hb (by omega) dL_law_459 (by decide) (fun _ => ?_) (fun c1 => absurd rfl c1)
  refine lv_iload C.hx C.hb dL_law_464 (lv_at hl 1 rfl) ?_
  refine r_asI hr0 ?_
  refine r_if_ne (tgt := 481) C.hx C.hb (by omega) dL_law_466 (by decide) (fun c2 => ?_) (fun c2 => ?_)
  · skip
    refine lv_goto (tgt := 2518) C.hx C.hb dL_law_481 (by decide) ?_
    refine W.widen (k := cells + 8) (n := slots + 60) (by omega) (by omega) ?_
    exact KK z ad n H locs ls hG hRz (GI_mono (by omega) hIz) (by omega) (lv_sub hl [2, 3, 4, 5, 6, 7] rfl)
  refine lv_aload_n C.hx C.hb dL_law_469 rfl (lv_at hl 5 rfl) ?_
  refine lv_iconst (v := iI (0)) C.hx C.hb dL_law_470 rfl ?_
  refine g_lald C.hx C.hb hn C.hK hG dL_law_471 ?_
  refine lv_iload C.hx C.hb dL_law_472 (lv_at hl 0 rfl) ?_
  refine lv_i2l (v := b9.toInt64) C.hx C.hb dL_law_474 rfl ?_
  refine r_lcz (ho c2) C.hx C.hb dL_law_475 ?_
  refine r_if_eq (tgt := 481) C.hx C.hb (by omega) dL_law_476 (by decide) (fun _ => ?_) (fun c3 => absurd rfl c3)
  refine lv_goto (tgt := 2518) C.hx C.hb dL_law_481 (by decide) ?_
  refine W.widen (k := cells + 8) (n := slots + 60) (by omega) (by omega) ?_
  exact KK z ad n H locs ls hG hRz (GI_mono (by omega) hIz) (by omega) (lv_sub hl [2, 3, 4, 5, 6, 7] rfl)
set_option maxHeartbeats 1000000 in
set_option maxRecDepth 100000 in
theorem lc_place {p : Program} {l : Launch} {e : Env} {s : State} {m : MethodId} {below : List Frame} {meth : Method} {c : Code} {b L : Nat} {xs : Nat → Int32} {D : va_G} {cy : Nat → ClassId} {fz : Nat} {A : Nat → Prop} {H : Heap} {locs : List Loc} {cells slots : Nat} {Q : State → Prop} {ls : Array Slot} {ad : Nat → Nat} {n : Nat} {st : St} (C : LC p l s m meth c b L xs D cy fz A) (k : Nat) (hk : 5 * k + 5 ≤ L) (hG : GH D cy ad n st A s.heap H locs) (hR : RY st) (hI : GI (2048 * (k : Int)) st) (hnl : (n : Int) = 75 + 3 * st 33 0 0) (hl : lv_has ls 9 (llv b ad k)) (hcs : cells + 8 ≤ room_1.cells ∧ slots + 60 ≤ room_1.slots) (KK : LKK p l e s m below meth c b D cy A Q k cells slots) : W p l e room_1 s m #[Value.ref b] below meth c H locs cells slots Q (F0 m 484 ls []) := by
  have hn : 75 ≤ n := by have := gI_33 hI 0 0; omega
  have hkL := C.hL
  refine lv_aload_n C.hx C.hb dL_law_484 rfl (lv_at hl 1 rfl) ?_
  refine law_ld C hk (q := 1) (by decide) hG.2.2 hl 0 5 rfl rfl dL_law_485 dL_law_486 dL_law_488 dL_law_489 dL_law_490 ?_
  refine law_ld C hk (q := 2) (by decide) hG.2.2 hl 0 5 rfl rfl dL_law_491 dL_law_492 dL_law_494 dL_law_495 dL_law_496 ?_
  refine lv_aload_n C.hx C.hb dL_law_497 rfl (lv_at hl 3 rfl) ?_
  refine gx_goi hG C.hA (vx_runSX (As := [.ref (ad 21), .int (iI (sA xs (5 * k + 1))), .int (iI (sA xs (5 * k + 2))), .ref (ad 31)]) (rest := []) ⟨C.hx, C.hb, C.hml, C.hown, C.hts⟩ (mL_place l D cy ad n st _ fz (2048 * (k : Int)) hn hI (by omega) (sA xs (5 * k + 1)) (sA xs (5 * k + 2)) (sA_r xs _) (sA_r xs _) C.hlf hnl hR) (vx_cwSW 4 C.hts gL_law_L_place rfl rfl rfl (by decide +kernel) ⟨Nat.le_of_ble_eq_true rfl, Nat.le_of_ble_eq_true rfl⟩) ⟨g_blind, g_pre C.hK hG C.hA C.hN C.hZ⟩ rfl rfl hl.1 rfl (lv_room (Nat.le_of_ble_eq_true rfl)) dL_law_498 ⟨Nat.le_trans (by omega) hcs.1, Nat.le_trans (by omega) hcs.2⟩) (fun E9 st9 H locs ce9 q9 hp hG hce hcv hcl => hp.elim) (fun r9 st1 H locs hp hG => ?_)
  refine lv_istore (lv' := [(6, .int r9), (0, .ref b), (1, .ref (ad 21)), (2, .ref (ad 0)), (3, .ref (ad 31)), (4, .ref (ad 32)), (5, .int (iI (5 * (k : Int))))]) C.hx C.hb dL_law_501 hl (by decide) rfl (fun ls hl => ?_)
  have hml : ∀ (c o : Nat) (i : Int), c < 30 → st1 c o i = st c o i := by
    intro c o i hc
    rcases hp.2.1 with ⟨-, s1, hs1, h1⟩ | ⟨-, h1⟩
    · rw [h1, hs1, ust_c (by omega)]
      exact (rwC_c _ _ _ _ _ (by omega) i).trans (plC_c st _ _ o i (by omega))
    · rw [h1]
  have hsi : ∀ j : Int, st1 6 0 j ≤ st1 1 0 0 := fun j => by rw [hml 6 0 j (by decide), hml 1 0 0 (by decide)]; exact hR.2.2.2.2.2.2.2.2.2.1 j
  refine lv_aload_n C.hx C.hb dL_law_503 rfl (lv_at hl 3 rfl) ?_
  refine law_ld C hk (q := 1) (by decide) hG.2.2 hl 1 6 rfl rfl dL_law_504 dL_law_505 dL_law_507 dL_law_508 dL_law_509 ?_
  refine law_ld C hk (q := 2) (by decide) hG.2.2 hl 1 6 rfl rfl dL_law_510 dL_law_511 dL_law_513 dL_law_514 dL_law_515 ?_
  refine g_goi hG C.hA (va_runV (As := [.int (iI (sA xs (5 * k + 1))), .int (iI (sA xs (5 * k + 2)))]) (rest := []) ⟨C.hx, C.hb, C.hml, C.hown, C.hts⟩ (mX6_place l D cy ad n st1 _ fz (2048 * (k : Int) + 2048) hn hp.2.2 (by omega) (sA xs (5 * k + 1)) (sA xs (5 * k + 2)) (sA_r xs _) (sA_r xs _) hsi) (cwV 2 C.hts gL_law_X6_place rfl rfl rfl (by decide +kernel) ⟨Nat.le_of_ble_eq_true rfl, Nat.le_of_ble_eq_true rfl⟩) ⟨g_blind, va_recv C.hK hG.1 (q0 := 0) (ci := 6) rfl ((gw_at (by omega)).trans (by rw [gC_0])), g_pre C.hK hG C.hA C.hN C.hZ⟩ rfl rfl hl.1 rfl (lv_room (Nat.le_of_ble_eq_true rfl)) dL_law_516 ⟨Nat.le_trans (by omega) hcs.1, Nat.le_trans (by omega) hcs.2⟩) (fun b9 z H locs hq hG => ?_)
  refine lv_istore (lv' := [(7, .int b9), (6, .int r9), (0, .ref b), (1, .ref (ad 21)), (2, .ref (ad 0)), (3, .ref (ad 31)), (4, .ref (ad 32)), (5, .int (iI (5 * (k : Int))))]) C.hx C.hb dL_law_519 hl (by decide) rfl (fun ls hl => ?_)
  obtain ⟨hr0, ho, hRz, hIz, h33⟩ := rc_place (sA xs (5 * k + 1)) (sA xs (5 * k + 2)) hR hI hp hq
  have h00 := gI_0 hIz 0 0
  refine lv_aload_n C.hx C.hb dL_law_521 rfl (lv_at hl 4 rfl) ?_
  refine g_goi hG C.hA (va_runV (As := []) (rest := []) ⟨C.hx, C.hb, C.hml, C.hown, C.hts⟩ (mX6_thrown l D cy ad n z _ fz _ hn hIz (by omega)) (cwV 0 C.hts gL_law_X6_thrown rfl rfl rfl (by decide +kernel) ⟨Nat.le_of_ble_eq_true rfl, Nat.le_of_ble_eq_true rfl⟩) ⟨g_blind, va_recv C.hK hG.1 (q0 := 0) (ci := 6) rfl ((gw_at (by omega)).trans (by rw [gC_0])), g_pre C.hK hG C.hA C.hN C.hZ⟩ rfl rfl hl.1 rfl (lv_room (Nat.le_of_ble_eq_true rfl)) dL_law_522 ⟨Nat.le_trans (by omega) hcs.1, Nat.le_trans (by omega) hcs.2⟩) (fun r8 z8 H locs hq8 hG => ?_)
  obtain ⟨hr8, hz8⟩ := hq8
  rw [hz8] at hG
  refine r_asI hr8 ?_
  refine lv_iload C.hx C.hb dL_law_525 (lv_at hl 1 rfl) ?_
  refine r_asI hr0 ?_
  refine r_icmp_eq (tgt := 532) C.hx C.hb (by omega) dL_law_527 (by decide) (fun _ => ?_) (fun c1 => absurd rfl c1)
  refine lv_iload C.hx C.hb dL_law_532 (lv_at hl 1 rfl) ?_
  refine r_asI hr0 ?_
  refine r_if_ne (tgt := 549) C.hx C.hb (by omega) dL_law_534 (by decide) (fun c2 => ?_) (fun c2 => ?_)
  · skip
    refine lv_goto (tgt := 2518) C.hx C.hb dL_law_549 (by decide) ?_
    refine W.widen (k := cells + 8) (n := slots + 60) (by omega) (by omega) ?_
    exact KK z ad n H locs ls hG hRz (GI_mono (by omega) hIz) (by omega) (lv_sub hl [2, 3, 4, 5, 6, 7] rfl)
  refine lv_aload_n C.hx C.hb dL_law_537 rfl (lv_at hl 5 rfl) ?_
  refine lv_iconst (v := iI (0)) C.hx C.hb dL_law_538 rfl ?_
  refine g_lald C.hx C.hb hn C.hK hG dL_law_539 ?_
  refine lv_iload C.hx C.hb dL_law_540 (lv_at hl 0 rfl) ?_
  refine lv_i2l (v := b9.toInt64) C.hx C.hb dL_law_542 rfl ?_
  refine r_lcz (ho c2) C.hx C.hb dL_law_543 ?_
  refine r_if_eq (tgt := 549) C.hx C.hb (by omega) dL_law_544 (by decide) (fun _ => ?_) (fun c3 => absurd rfl c3)
  refine lv_goto (tgt := 2518) C.hx C.hb dL_law_549 (by decide) ?_
  refine W.widen (k := cells + 8) (n := slots + 60) (by omega) (by omega) ?_
  exact KK z ad n H locs ls hG hRz (GI_mono (by omega) hIz) (by omega) (lv_sub hl [2, 3, 4, 5, 6, 7] rfl)
set_option maxHeartbeats 1000000 in
set_option maxRecDepth 100000 in
theorem lc_load {p : Program} {l : Launch} {e : Env} {s : State} {m : MethodId} {below : List Frame} {meth : Method} {c : Code} {b L : Nat} {xs : Nat → Int32} {D : va_G} {cy : Nat → ClassId} {fz : Nat} {A : Nat → Prop} {H : Heap} {locs : List Loc} {cells slots : Nat} {Q : State → Prop} {ls : Array Slot} {ad : Nat → Nat} {n : Nat} {st : St} (C : LC p l s m meth c b L xs D cy fz A) (k : Nat) (hk : 5 * k + 5 ≤ L) (hG : GH D cy ad n st A s.heap H locs) (hR : RY st) (hI : GI (2048 * (k : Int)) st) (hnl : (n : Int) = 75 + 3 * st 33 0 0) (hl : lv_has ls 9 (llv b ad k)) (hcs : cells + 8 ≤ room_1.cells ∧ slots + 60 ≤ room_1.slots) (KK : LKK p l e s m below meth c b D cy A Q k cells slots) : W p l e room_1 s m #[Value.ref b] below meth c H locs cells slots Q (F0 m 552 ls []) := by
  have hn : 75 ≤ n := by have := gI_33 hI 0 0; omega
  have hkL := C.hL
  refine lv_aload_n C.hx C.hb dL_law_552 rfl (lv_at hl 1 rfl) ?_
  refine law_ld C hk (q := 1) (by decide) hG.2.2 hl 0 5 rfl rfl dL_law_553 dL_law_554 dL_law_556 dL_law_557 dL_law_558 ?_
  refine lv_aload_n C.hx C.hb dL_law_559 rfl (lv_at hl 3 rfl) ?_
  refine gx_goi hG C.hA (vx_runSX (As := [.ref (ad 21), .int (iI (sA xs (5 * k + 1))), .ref (ad 31)]) (rest := []) ⟨C.hx, C.hb, C.hml, C.hown, C.hts⟩ (mL_load l D cy ad n st _ fz (2048 * (k : Int)) hn hI (by omega) (sA xs (5 * k + 1)) (sA_r xs _) C.hlf hnl hR) (vx_cwSW 3 C.hts gL_law_L_load rfl rfl rfl (by decide +kernel) ⟨Nat.le_of_ble_eq_true rfl, Nat.le_of_ble_eq_true rfl⟩) ⟨g_blind, g_pre C.hK hG C.hA C.hN C.hZ⟩ rfl rfl hl.1 rfl (lv_room (Nat.le_of_ble_eq_true rfl)) dL_law_560 ⟨Nat.le_trans (by omega) hcs.1, Nat.le_trans (by omega) hcs.2⟩) (fun E9 st9 H locs ce9 q9 hp hG hce hcv hcl => hp.elim) (fun r9 st1 H locs hp hG => ?_)
  refine lv_istore (lv' := [(6, .int r9), (0, .ref b), (1, .ref (ad 21)), (2, .ref (ad 0)), (3, .ref (ad 31)), (4, .ref (ad 32)), (5, .int (iI (5 * (k : Int))))]) C.hx C.hb dL_law_563 hl (by decide) rfl (fun ls hl => ?_)
  have hml : ∀ (c o : Nat) (i : Int), c < 30 → st1 c o i = st c o i := by
    intro c o i hc
    rcases hp.2.1 with ⟨-, s1, hs1, h1⟩ | ⟨-, h1⟩
    · rw [h1, hs1, ust_c (by omega)]
      exact rwC_c _ _ _ _ _ (by omega) i
    · rw [h1]
  have hsi : ∀ j : Int, st1 6 0 j ≤ st1 1 0 0 := fun j => by rw [hml 6 0 j (by decide), hml 1 0 0 (by decide)]; exact hR.2.2.2.2.2.2.2.2.2.1 j
  refine lv_aload_n C.hx C.hb dL_law_565 rfl (lv_at hl 3 rfl) ?_
  refine law_ld C hk (q := 1) (by decide) hG.2.2 hl 1 6 rfl rfl dL_law_566 dL_law_567 dL_law_569 dL_law_570 dL_law_571 ?_
  refine g_goi hG C.hA (va_runV (As := [.int (iI (sA xs (5 * k + 1)))]) (rest := []) ⟨C.hx, C.hb, C.hml, C.hown, C.hts⟩ (mX6_load l D cy ad n st1 _ fz (2048 * (k : Int) + 2048) hn hp.2.2 (by omega) (sA xs (5 * k + 1)) (sA_r xs _) hsi) (cwV 1 C.hts gL_law_X6_load rfl rfl rfl (by decide +kernel) ⟨Nat.le_of_ble_eq_true rfl, Nat.le_of_ble_eq_true rfl⟩) ⟨g_blind, va_recv C.hK hG.1 (q0 := 0) (ci := 6) rfl ((gw_at (by omega)).trans (by rw [gC_0])), g_pre C.hK hG C.hA C.hN C.hZ⟩ rfl rfl hl.1 rfl (lv_room (Nat.le_of_ble_eq_true rfl)) dL_law_572 ⟨Nat.le_trans (by omega) hcs.1, Nat.le_trans (by omega) hcs.2⟩) (fun b9 z H locs hq hG => ?_)
  refine lv_istore (lv' := [(7, .int b9), (6, .int r9), (0, .ref b), (1, .ref (ad 21)), (2, .ref (ad 0)), (3, .ref (ad 31)), (4, .ref (ad 32)), (5, .int (iI (5 * (k : Int))))]) C.hx C.hb dL_law_575 hl (by decide) rfl (fun ls hl => ?_)
  obtain ⟨hr0, ho, hRz, hIz, h33⟩ := rc_load (sA xs (5 * k + 1)) hR hI hp hq
  have h00 := gI_0 hIz 0 0
  refine lv_aload_n C.hx C.hb dL_law_577 rfl (lv_at hl 4 rfl) ?_
  refine g_goi hG C.hA (va_runV (As := []) (rest := []) ⟨C.hx, C.hb, C.hml, C.hown, C.hts⟩ (mX6_thrown l D cy ad n z _ fz _ hn hIz (by omega)) (cwV 0 C.hts gL_law_X6_thrown rfl rfl rfl (by decide +kernel) ⟨Nat.le_of_ble_eq_true rfl, Nat.le_of_ble_eq_true rfl⟩) ⟨g_blind, va_recv C.hK hG.1 (q0 := 0) (ci := 6) rfl ((gw_at (by omega)).trans (by rw [gC_0])), g_pre C.hK hG C.hA C.hN C.hZ⟩ rfl rfl hl.1 rfl (lv_room (Nat.le_of_ble_eq_true rfl)) dL_law_578 ⟨Nat.le_trans (by omega) hcs.1, Nat.le_trans (by omega) hcs.2⟩) (fun r8 z8 H locs hq8 hG => ?_)
  obtain ⟨hr8, hz8⟩ := hq8
  rw [hz8] at hG
  refine r_asI hr8 ?_
  refine lv_iload C.hx C.hb dL_law_581 (lv_at hl 1 rfl) ?_
  refine r_asI hr0 ?_
  refine r_icmp_eq (tgt := 588) C.hx C.hb (by omega) dL_law_583 (by decide) (fun _ => ?_) (fun c1 => absurd rfl c1)
  refine lv_iload C.hx C.hb dL_law_588 (lv_at hl 1 rfl) ?_
  refine r_asI hr0 ?_
  refine r_if_ne (tgt := 605) C.hx C.hb (by omega) dL_law_590 (by decide) (fun c2 => ?_) (fun c2 => ?_)
  · skip
    refine lv_goto (tgt := 2518) C.hx C.hb dL_law_605 (by decide) ?_
    refine W.widen (k := cells + 8) (n := slots + 60) (by omega) (by omega) ?_
    exact KK z ad n H locs ls hG hRz (GI_mono (by omega) hIz) (by omega) (lv_sub hl [2, 3, 4, 5, 6, 7] rfl)
  refine lv_aload_n C.hx C.hb dL_law_593 rfl (lv_at hl 5 rfl) ?_
  refine lv_iconst (v := iI (0)) C.hx C.hb dL_law_594 rfl ?_
  refine g_lald C.hx C.hb hn C.hK hG dL_law_595 ?_
  refine lv_iload C.hx C.hb dL_law_596 (lv_at hl 0 rfl) ?_
  refine lv_i2l (v := b9.toInt64) C.hx C.hb dL_law_598 rfl ?_
  refine r_lcz (ho c2) C.hx C.hb dL_law_599 ?_
  refine r_if_eq (tgt := 605) C.hx C.hb (by omega) dL_law_600 (by decide) (fun _ => ?_) (fun c3 => absurd rfl c3)
  refine lv_goto (tgt := 2518) C.hx C.hb dL_law_605 (by decide) ?_
  refine W.widen (k := cells + 8) (n := slots + 60) (by omega) (by omega) ?_
  exact KK z ad n H locs ls hG hRz (GI_mono (by omega) hIz) (by omega) (lv_sub hl [2, 3, 4, 5, 6, 7] rfl)
set_option maxHeartbeats 1000000 in
set_option maxRecDepth 100000 in
theorem lc_lift {p : Program} {l : Launch} {e : Env} {s : State} {m : MethodId} {below : List Frame} {meth : Method} {c : Code} {b L : Nat} {xs : Nat → Int32} {D : va_G} {cy : Nat → ClassId} {fz : Nat} {A : Nat → Prop} {H : Heap} {locs : List Loc} {cells slots : Nat} {Q : State → Prop} {ls : Array Slot} {ad : Nat → Nat} {n : Nat} {st : St} (C : LC p l s m meth c b L xs D cy fz A) (k : Nat) (hk : 5 * k + 5 ≤ L) (hG : GH D cy ad n st A s.heap H locs) (hR : RY st) (hI : GI (2048 * (k : Int)) st) (hnl : (n : Int) = 75 + 3 * st 33 0 0) (hl : lv_has ls 9 (llv b ad k)) (hcs : cells + 8 ≤ room_1.cells ∧ slots + 60 ≤ room_1.slots) (KK : LKK p l e s m below meth c b D cy A Q k cells slots) : W p l e room_1 s m #[Value.ref b] below meth c H locs cells slots Q (F0 m 608 ls []) := by
  have hn : 75 ≤ n := by have := gI_33 hI 0 0; omega
  have hkL := C.hL
  refine lv_aload_n C.hx C.hb dL_law_608 rfl (lv_at hl 1 rfl) ?_
  refine law_ld C hk (q := 1) (by decide) hG.2.2 hl 0 5 rfl rfl dL_law_609 dL_law_610 dL_law_612 dL_law_613 dL_law_614 ?_
  refine lv_aload_n C.hx C.hb dL_law_615 rfl (lv_at hl 3 rfl) ?_
  refine gx_goi hG C.hA (vx_runSX (As := [.ref (ad 21), .int (iI (sA xs (5 * k + 1))), .ref (ad 31)]) (rest := []) ⟨C.hx, C.hb, C.hml, C.hown, C.hts⟩ (mL_lift l D cy ad n st _ fz (2048 * (k : Int)) hn hI (by omega) (sA xs (5 * k + 1)) (sA_r xs _) C.hlf hnl hR) (vx_cwSW 3 C.hts gL_law_L_lift rfl rfl rfl (by decide +kernel) ⟨Nat.le_of_ble_eq_true rfl, Nat.le_of_ble_eq_true rfl⟩) ⟨g_blind, g_pre C.hK hG C.hA C.hN C.hZ⟩ rfl rfl hl.1 rfl (lv_room (Nat.le_of_ble_eq_true rfl)) dL_law_616 ⟨Nat.le_trans (by omega) hcs.1, Nat.le_trans (by omega) hcs.2⟩) (fun E9 st9 H locs ce9 q9 hp hG hce hcv hcl => hp.elim) (fun r9 st1 H locs hp hG => ?_)
  refine lv_istore (lv' := [(6, .int r9), (0, .ref b), (1, .ref (ad 21)), (2, .ref (ad 0)), (3, .ref (ad 31)), (4, .ref (ad 32)), (5, .int (iI (5 * (k : Int))))]) C.hx C.hb dL_law_619 hl (by decide) rfl (fun ls hl => ?_)
  refine lv_aload_n C.hx C.hb dL_law_621 rfl (lv_at hl 3 rfl) ?_
  refine law_ld C hk (q := 1) (by decide) hG.2.2 hl 1 6 rfl rfl dL_law_622 dL_law_623 dL_law_625 dL_law_626 dL_law_627 ?_
  refine g_goi hG C.hA (va_runV (As := [.int (iI (sA xs (5 * k + 1)))]) (rest := []) ⟨C.hx, C.hb, C.hml, C.hown, C.hts⟩ (mX6_lift l D cy ad n st1 _ fz (2048 * (k : Int)) hn hp.2.2 (by omega) (sA xs (5 * k + 1)) (sA_r xs _)) (cwV 1 C.hts gL_law_X6_lift rfl rfl rfl (by decide +kernel) ⟨Nat.le_of_ble_eq_true rfl, Nat.le_of_ble_eq_true rfl⟩) ⟨g_blind, va_recv C.hK hG.1 (q0 := 0) (ci := 6) rfl ((gw_at (by omega)).trans (by rw [gC_0])), g_pre C.hK hG C.hA C.hN C.hZ⟩ rfl rfl hl.1 rfl (lv_room (Nat.le_of_ble_eq_true rfl)) dL_law_628 ⟨Nat.le_trans (by omega) hcs.1, Nat.le_trans (by omega) hcs.2⟩) (fun b9 z H locs hq hG => ?_)
  refine lv_istore (lv' := [(7, .int b9), (6, .int r9), (0, .ref b), (1, .ref (ad 21)), (2, .ref (ad 0)), (3, .ref (ad 31)), (4, .ref (ad 32)), (5, .int (iI (5 * (k : Int))))]) C.hx C.hb dL_law_631 hl (by decide) rfl (fun ls hl => ?_)
  obtain ⟨hr0, ho, hRz, hIz, h33⟩ := rc_lift (sA xs (5 * k + 1)) hR hI hp hq
  have h00 := gI_0 hIz 0 0
  refine lv_aload_n C.hx C.hb dL_law_633 rfl (lv_at hl 4 rfl) ?_
  refine g_goi hG C.hA (va_runV (As := []) (rest := []) ⟨C.hx, C.hb, C.hml, C.hown, C.hts⟩ (mX6_thrown l D cy ad n z _ fz _ hn hIz (by omega)) (cwV 0 C.hts gL_law_X6_thrown rfl rfl rfl (by decide +kernel) ⟨Nat.le_of_ble_eq_true rfl, Nat.le_of_ble_eq_true rfl⟩) ⟨g_blind, va_recv C.hK hG.1 (q0 := 0) (ci := 6) rfl ((gw_at (by omega)).trans (by rw [gC_0])), g_pre C.hK hG C.hA C.hN C.hZ⟩ rfl rfl hl.1 rfl (lv_room (Nat.le_of_ble_eq_true rfl)) dL_law_634 ⟨Nat.le_trans (by omega) hcs.1, Nat.le_trans (by omega) hcs.2⟩) (fun r8 z8 H locs hq8 hG => ?_)
  obtain ⟨hr8, hz8⟩ := hq8
  rw [hz8] at hG
  refine r_asI hr8 ?_
  refine lv_iload C.hx C.hb dL_law_637 (lv_at hl 1 rfl) ?_
  refine r_asI hr0 ?_
  refine r_icmp_eq (tgt := 644) C.hx C.hb (by omega) dL_law_639 (by decide) (fun _ => ?_) (fun c1 => absurd rfl c1)
  refine lv_iload C.hx C.hb dL_law_644 (lv_at hl 1 rfl) ?_
  refine r_asI hr0 ?_
  refine r_if_ne (tgt := 661) C.hx C.hb (by omega) dL_law_646 (by decide) (fun c2 => ?_) (fun c2 => ?_)
  · skip
    refine lv_goto (tgt := 2518) C.hx C.hb dL_law_661 (by decide) ?_
    refine W.widen (k := cells + 8) (n := slots + 60) (by omega) (by omega) ?_
    exact KK z ad n H locs ls hG hRz (GI_mono (by omega) hIz) (by omega) (lv_sub hl [2, 3, 4, 5, 6, 7] rfl)
  refine lv_aload_n C.hx C.hb dL_law_649 rfl (lv_at hl 5 rfl) ?_
  refine lv_iconst (v := iI (0)) C.hx C.hb dL_law_650 rfl ?_
  refine g_lald C.hx C.hb hn C.hK hG dL_law_651 ?_
  refine lv_iload C.hx C.hb dL_law_652 (lv_at hl 0 rfl) ?_
  refine lv_i2l (v := b9.toInt64) C.hx C.hb dL_law_654 rfl ?_
  refine r_lcz (ho c2) C.hx C.hb dL_law_655 ?_
  refine r_if_eq (tgt := 661) C.hx C.hb (by omega) dL_law_656 (by decide) (fun _ => ?_) (fun c3 => absurd rfl c3)
  refine lv_goto (tgt := 2518) C.hx C.hb dL_law_661 (by decide) ?_
  refine W.widen (k := cells + 8) (n := slots + 60) (by omega) (by omega) ?_
  exact KK z ad n H locs ls hG hRz (GI_mono (by omega) hIz) (by omega) (lv_sub hl [2, 3, 4, 5, 6, 7] rfl)
set_option maxHeartbeats 1000000 in
set_option maxRecDepth 100000 in
theorem lc_stick {p : Program} {l : Launch} {e : Env} {s : State} {m : MethodId} {below : List Frame} {meth : Method} {c : Code} {b L : Nat} {xs : Nat → Int32} {D : va_G} {cy : Nat → ClassId} {fz : Nat} {A : Nat → Prop} {H : Heap} {locs : List Loc} {cells slots : Nat} {Q : State → Prop} {ls : Array Slot} {ad : Nat → Nat} {n : Nat} {st : St} (C : LC p l s m meth c b L xs D cy fz A) (k : Nat) (hk : 5 * k + 5 ≤ L) (hG : GH D cy ad n st A s.heap H locs) (hR : RY st) (hI : GI (2048 * (k : Int)) st) (hnl : (n : Int) = 75 + 3 * st 33 0 0) (hl : lv_has ls 9 (llv b ad k)) (hcs : cells + 8 ≤ room_1.cells ∧ slots + 60 ≤ room_1.slots) (KK : LKK p l e s m below meth c b D cy A Q k cells slots) : W p l e room_1 s m #[Value.ref b] below meth c H locs cells slots Q (F0 m 664 ls []) := by
  have hn : 75 ≤ n := by have := gI_33 hI 0 0; omega
  have hkL := C.hL
  refine lv_aload_n C.hx C.hb dL_law_664 rfl (lv_at hl 1 rfl) ?_
  refine law_ld C hk (q := 1) (by decide) hG.2.2 hl 0 5 rfl rfl dL_law_665 dL_law_666 dL_law_668 dL_law_669 dL_law_670 ?_
  refine law_ld C hk (q := 2) (by decide) hG.2.2 hl 0 5 rfl rfl dL_law_671 dL_law_672 dL_law_674 dL_law_675 dL_law_676 ?_
  refine law_ld C hk (q := 3) (by decide) hG.2.2 hl 0 5 rfl rfl dL_law_677 dL_law_678 dL_law_680 dL_law_681 dL_law_682 ?_
  refine law_ld C hk (q := 4) (by decide) hG.2.2 hl 0 5 rfl rfl dL_law_683 dL_law_684 dL_law_686 dL_law_687 dL_law_688 ?_
  refine gx_goi hG C.hA (vx_runSX (As := [.ref (ad 21), .int (iI (sA xs (5 * k + 1))), .int (iI (sA xs (5 * k + 2))), .int (iI (sA xs (5 * k + 3))), .int (iI (sA xs (5 * k + 4)))]) (rest := []) ⟨C.hx, C.hb, C.hml, C.hown, C.hts⟩ (mL_stick l D cy ad n st _ fz (2048 * (k : Int)) hn hI (by omega) (sA xs (5 * k + 1)) (sA xs (5 * k + 2)) (sA xs (5 * k + 3)) (sA xs (5 * k + 4)) (sA_r xs _) (sA_r xs _) (sA_r xs _) (sA_r xs _) C.hlf hnl hR) (vx_cwSW 5 C.hts gL_law_L_stick rfl rfl rfl (by decide +kernel) ⟨Nat.le_of_ble_eq_true rfl, Nat.le_of_ble_eq_true rfl⟩) ⟨g_blind, g_pre C.hK hG C.hA C.hN C.hZ⟩ rfl rfl hl.1 rfl (lv_room (Nat.le_of_ble_eq_true rfl)) dL_law_689 ⟨Nat.le_trans (by omega) hcs.1, Nat.le_trans (by omega) hcs.2⟩) (fun E9 st9 H locs ce9 q9 hp hG hce hcv hcl => hp.elim) (fun r9 st1 H locs hp hG => ?_)
  refine lv_istore (lv' := [(6, .int r9), (0, .ref b), (1, .ref (ad 21)), (2, .ref (ad 0)), (3, .ref (ad 31)), (4, .ref (ad 32)), (5, .int (iI (5 * (k : Int))))]) C.hx C.hb dL_law_692 hl (by decide) rfl (fun ls hl => ?_)
  refine lv_aload_n C.hx C.hb dL_law_694 rfl (lv_at hl 3 rfl) ?_
  refine law_ld C hk (q := 1) (by decide) hG.2.2 hl 1 6 rfl rfl dL_law_695 dL_law_696 dL_law_698 dL_law_699 dL_law_700 ?_
  refine law_ld C hk (q := 2) (by decide) hG.2.2 hl 1 6 rfl rfl dL_law_701 dL_law_702 dL_law_704 dL_law_705 dL_law_706 ?_
  refine law_ld C hk (q := 3) (by decide) hG.2.2 hl 1 6 rfl rfl dL_law_707 dL_law_708 dL_law_710 dL_law_711 dL_law_712 ?_
  refine law_ld C hk (q := 4) (by decide) hG.2.2 hl 1 6 rfl rfl dL_law_713 dL_law_714 dL_law_716 dL_law_717 dL_law_718 ?_
  refine g_gov hG C.hA (va_runV (As := [.int (iI (sA xs (5 * k + 1))), .int (iI (sA xs (5 * k + 2))), .int (iI (sA xs (5 * k + 3))), .int (iI (sA xs (5 * k + 4)))]) (rest := []) ⟨C.hx, C.hb, C.hml, C.hown, C.hts⟩ (mX6_stick l D cy ad n st1 _ fz (2048 * (k : Int)) hn hp.2.2 (by omega) (sA xs (5 * k + 1)) (sA xs (5 * k + 2)) (sA xs (5 * k + 3)) (sA xs (5 * k + 4)) (sA_r xs _) (sA_r xs _) (sA_r xs _) (sA_r xs _)) (cwV 4 C.hts gL_law_X6_stick rfl rfl rfl (by decide +kernel) ⟨Nat.le_of_ble_eq_true rfl, Nat.le_of_ble_eq_true rfl⟩) ⟨g_blind, va_recv C.hK hG.1 (q0 := 0) (ci := 6) rfl ((gw_at (by omega)).trans (by rw [gC_0])), g_pre C.hK hG C.hA C.hN C.hZ⟩ rfl rfl hl.1 rfl (lv_room (Nat.le_of_ble_eq_true rfl)) dL_law_719 ⟨Nat.le_trans (by omega) hcs.1, Nat.le_trans (by omega) hcs.2⟩) (fun z H locs hq hG => ?_)
  obtain ⟨hr0, ho, hRz, hIz, h33⟩ := rc_stick (sA xs (5 * k + 1)) (sA xs (5 * k + 2)) (sA xs (5 * k + 3)) (sA xs (5 * k + 4)) hR hI hp hq
  have h00 := gI_0 hIz 0 0
  refine lv_aload_n C.hx C.hb dL_law_722 rfl (lv_at hl 3 rfl) ?_
  refine g_goi hG C.hA (va_runV (As := []) (rest := []) ⟨C.hx, C.hb, C.hml, C.hown, C.hts⟩ (mX6_thrown l D cy ad n z _ fz _ hn hIz (by omega)) (cwV 0 C.hts gL_law_X6_thrown rfl rfl rfl (by decide +kernel) ⟨Nat.le_of_ble_eq_true rfl, Nat.le_of_ble_eq_true rfl⟩) ⟨g_blind, va_recv C.hK hG.1 (q0 := 0) (ci := 6) rfl ((gw_at (by omega)).trans (by rw [gC_0])), g_pre C.hK hG C.hA C.hN C.hZ⟩ rfl rfl hl.1 rfl (lv_room (Nat.le_of_ble_eq_true rfl)) dL_law_723 ⟨Nat.le_trans (by omega) hcs.1, Nat.le_trans (by omega) hcs.2⟩) (fun r8 z8 H locs hq8 hG => ?_)
  obtain ⟨hr8, hz8⟩ := hq8
  rw [hz8] at hG
  refine r_asI hr8 ?_
  refine lv_iload C.hx C.hb dL_law_726 (lv_at hl 0 rfl) ?_
  refine r_asI hr0 ?_
  refine r_icmp_eq (tgt := 733) C.hx C.hb (by omega) dL_law_728 (by decide) (fun _ => ?_) (fun c1 => absurd rfl c1)
  refine lv_goto (tgt := 2518) C.hx C.hb dL_law_733 (by decide) ?_
  refine W.widen (k := cells + 8) (n := slots + 60) (by omega) (by omega) ?_
  exact KK z ad n H locs ls hG hRz (GI_mono (by omega) hIz) (by omega) (lv_sub hl [1, 2, 3, 4, 5, 6] rfl)
set_option maxHeartbeats 1000000 in
set_option maxRecDepth 100000 in
theorem lc_spoil {p : Program} {l : Launch} {e : Env} {s : State} {m : MethodId} {below : List Frame} {meth : Method} {c : Code} {b L : Nat} {xs : Nat → Int32} {D : va_G} {cy : Nat → ClassId} {fz : Nat} {A : Nat → Prop} {H : Heap} {locs : List Loc} {cells slots : Nat} {Q : State → Prop} {ls : Array Slot} {ad : Nat → Nat} {n : Nat} {st : St} (C : LC p l s m meth c b L xs D cy fz A) (k : Nat) (hk : 5 * k + 5 ≤ L) (hG : GH D cy ad n st A s.heap H locs) (hR : RY st) (hI : GI (2048 * (k : Int)) st) (hnl : (n : Int) = 75 + 3 * st 33 0 0) (hl : lv_has ls 9 (llv b ad k)) (hcs : cells + 8 ≤ room_1.cells ∧ slots + 60 ≤ room_1.slots) (KK : LKK p l e s m below meth c b D cy A Q k cells slots) : W p l e room_1 s m #[Value.ref b] below meth c H locs cells slots Q (F0 m 736 ls []) := by
  have hn : 75 ≤ n := by have := gI_33 hI 0 0; omega
  have hkL := C.hL
  refine lv_aload_n C.hx C.hb dL_law_736 rfl (lv_at hl 1 rfl) ?_
  refine law_ld C hk (q := 1) (by decide) hG.2.2 hl 0 5 rfl rfl dL_law_737 dL_law_738 dL_law_740 dL_law_741 dL_law_742 ?_
  refine law_ld C hk (q := 2) (by decide) hG.2.2 hl 0 5 rfl rfl dL_law_743 dL_law_744 dL_law_746 dL_law_747 dL_law_748 ?_
  refine law_ld C hk (q := 3) (by decide) hG.2.2 hl 0 5 rfl rfl dL_law_749 dL_law_750 dL_law_752 dL_law_753 dL_law_754 ?_
  refine lv_aload_n C.hx C.hb dL_law_755 rfl (lv_at hl 3 rfl) ?_
  refine gx_goi hG C.hA (vx_runSX (As := [.ref (ad 21), .int (iI (sA xs (5 * k + 1))), .int (iI (sA xs (5 * k + 2))), .int (iI (sA xs (5 * k + 3))), .ref (ad 31)]) (rest := []) ⟨C.hx, C.hb, C.hml, C.hown, C.hts⟩ (mL_spoil l D cy ad n st _ fz (2048 * (k : Int)) hn hI (by omega) (sA xs (5 * k + 1)) (sA xs (5 * k + 2)) (sA xs (5 * k + 3)) (sA_r xs _) (sA_r xs _) (sA_r xs _) C.hlf hnl hR) (vx_cwSW 5 C.hts gL_law_L_spoil rfl rfl rfl (by decide +kernel) ⟨Nat.le_of_ble_eq_true rfl, Nat.le_of_ble_eq_true rfl⟩) ⟨g_blind, g_pre C.hK hG C.hA C.hN C.hZ⟩ rfl rfl hl.1 rfl (lv_room (Nat.le_of_ble_eq_true rfl)) dL_law_756 ⟨Nat.le_trans (by omega) hcs.1, Nat.le_trans (by omega) hcs.2⟩) (fun E9 st9 H locs ce9 q9 hp hG hce hcv hcl => hp.elim) (fun r9 st1 H locs hp hG => ?_)
  refine lv_istore (lv' := [(6, .int r9), (0, .ref b), (1, .ref (ad 21)), (2, .ref (ad 0)), (3, .ref (ad 31)), (4, .ref (ad 32)), (5, .int (iI (5 * (k : Int))))]) C.hx C.hb dL_law_759 hl (by decide) rfl (fun ls hl => ?_)
  refine lv_aload_n C.hx C.hb dL_law_761 rfl (lv_at hl 3 rfl) ?_
  refine law_ld C hk (q := 1) (by decide) hG.2.2 hl 1 6 rfl rfl dL_law_762 dL_law_763 dL_law_765 dL_law_766 dL_law_767 ?_
  refine law_ld C hk (q := 2) (by decide) hG.2.2 hl 1 6 rfl rfl dL_law_768 dL_law_769 dL_law_771 dL_law_772 dL_law_773 ?_
  refine law_ld C hk (q := 3) (by decide) hG.2.2 hl 1 6 rfl rfl dL_law_774 dL_law_775 dL_law_777 dL_law_778 dL_law_779 ?_
  refine g_goi hG C.hA (va_runV (As := [.int (iI (sA xs (5 * k + 1))), .int (iI (sA xs (5 * k + 2))), .int (iI (sA xs (5 * k + 3)))]) (rest := []) ⟨C.hx, C.hb, C.hml, C.hown, C.hts⟩ (mX6_spoil l D cy ad n st1 _ fz (2048 * (k : Int)) hn hp.2.2 (by omega) (sA xs (5 * k + 1)) (sA xs (5 * k + 2)) (sA xs (5 * k + 3)) (sA_r xs _) (sA_r xs _) (sA_r xs _)) (cwV 3 C.hts gL_law_X6_spoil rfl rfl rfl (by decide +kernel) ⟨Nat.le_of_ble_eq_true rfl, Nat.le_of_ble_eq_true rfl⟩) ⟨g_blind, va_recv C.hK hG.1 (q0 := 0) (ci := 6) rfl ((gw_at (by omega)).trans (by rw [gC_0])), g_pre C.hK hG C.hA C.hN C.hZ⟩ rfl rfl hl.1 rfl (lv_room (Nat.le_of_ble_eq_true rfl)) dL_law_780 ⟨Nat.le_trans (by omega) hcs.1, Nat.le_trans (by omega) hcs.2⟩) (fun b9 z H locs hq hG => ?_)
  refine lv_istore (lv' := [(7, .int b9), (6, .int r9), (0, .ref b), (1, .ref (ad 21)), (2, .ref (ad 0)), (3, .ref (ad 31)), (4, .ref (ad 32)), (5, .int (iI (5 * (k : Int))))]) C.hx C.hb dL_law_783 hl (by decide) rfl (fun ls hl => ?_)
  obtain ⟨hr0, ho, hRz, hIz, h33⟩ := rc_spoil (sA xs (5 * k + 1)) (sA xs (5 * k + 2)) (sA xs (5 * k + 3)) hR hI hp hq
  have h00 := gI_0 hIz 0 0
  refine lv_aload_n C.hx C.hb dL_law_785 rfl (lv_at hl 4 rfl) ?_
  refine g_goi hG C.hA (va_runV (As := []) (rest := []) ⟨C.hx, C.hb, C.hml, C.hown, C.hts⟩ (mX6_thrown l D cy ad n z _ fz _ hn hIz (by omega)) (cwV 0 C.hts gL_law_X6_thrown rfl rfl rfl (by decide +kernel) ⟨Nat.le_of_ble_eq_true rfl, Nat.le_of_ble_eq_true rfl⟩) ⟨g_blind, va_recv C.hK hG.1 (q0 := 0) (ci := 6) rfl ((gw_at (by omega)).trans (by rw [gC_0])), g_pre C.hK hG C.hA C.hN C.hZ⟩ rfl rfl hl.1 rfl (lv_room (Nat.le_of_ble_eq_true rfl)) dL_law_786 ⟨Nat.le_trans (by omega) hcs.1, Nat.le_trans (by omega) hcs.2⟩) (fun r8 z8 H locs hq8 hG => ?_)
  obtain ⟨hr8, hz8⟩ := hq8
  rw [hz8] at hG
  refine r_asI hr8 ?_
  refine lv_iload C.hx C.hb dL_law_789 (lv_at hl 1 rfl) ?_
  refine r_asI hr0 ?_
  refine r_icmp_eq (tgt := 796) C.hx C.hb (by omega) dL_law_791 (by decide) (fun _ => ?_) (fun c1 => absurd rfl c1)
  refine lv_iload C.hx C.hb dL_law_796 (lv_at hl 1 rfl) ?_
  refine r_asI hr0 ?_
  refine r_if_ne (tgt := 813) C.hx C.hb (by omega) dL_law_798 (by decide) (fun c2 => ?_) (fun c2 => ?_)
  · skip
    refine lv_goto (tgt := 2518) C.hx C.hb dL_law_813 (by decide) ?_
    refine W.widen (k := cells + 8) (n := slots + 60) (by omega) (by omega) ?_
    exact KK z ad n H locs ls hG hRz (GI_mono (by omega) hIz) (by omega) (lv_sub hl [2, 3, 4, 5, 6, 7] rfl)
  refine lv_aload_n C.hx C.hb dL_law_801 rfl (lv_at hl 5 rfl) ?_
  refine lv_iconst (v := iI (0)) C.hx C.hb dL_law_802 rfl ?_
  refine g_lald C.hx C.hb hn C.hK hG dL_law_803 ?_
  refine lv_iload C.hx C.hb dL_law_804 (lv_at hl 0 rfl) ?_
  refine lv_i2l (v := b9.toInt64) C.hx C.hb dL_law_806 rfl ?_
  refine r_lcz (ho c2) C.hx C.hb dL_law_807 ?_
  refine r_if_eq (tgt := 813) C.hx C.hb (by omega) dL_law_808 (by decide) (fun _ => ?_) (fun c3 => absurd rfl c3)
  refine lv_goto (tgt := 2518) C.hx C.hb dL_law_813 (by decide) ?_
  refine W.widen (k := cells + 8) (n := slots + 60) (by omega) (by omega) ?_
  exact KK z ad n H locs ls hG hRz (GI_mono (by omega) hIz) (by omega) (lv_sub hl [2, 3, 4, 5, 6, 7] rfl)
set_option maxHeartbeats 1000000 in
set_option maxRecDepth 100000 in
theorem lc_drift {p : Program} {l : Launch} {e : Env} {s : State} {m : MethodId} {below : List Frame} {meth : Method} {c : Code} {b L : Nat} {xs : Nat → Int32} {D : va_G} {cy : Nat → ClassId} {fz : Nat} {A : Nat → Prop} {H : Heap} {locs : List Loc} {cells slots : Nat} {Q : State → Prop} {ls : Array Slot} {ad : Nat → Nat} {n : Nat} {st : St} (C : LC p l s m meth c b L xs D cy fz A) (k : Nat) (hk : 5 * k + 5 ≤ L) (hG : GH D cy ad n st A s.heap H locs) (hR : RY st) (hI : GI (2048 * (k : Int)) st) (hnl : (n : Int) = 75 + 3 * st 33 0 0) (hl : lv_has ls 9 (llv b ad k)) (hcs : cells + 8 ≤ room_1.cells ∧ slots + 60 ≤ room_1.slots) (KK : LKK p l e s m below meth c b D cy A Q k cells slots) : W p l e room_1 s m #[Value.ref b] below meth c H locs cells slots Q (F0 m 816 ls []) := by
  have hn : 75 ≤ n := by have := gI_33 hI 0 0; omega
  have hkL := C.hL
  refine lv_aload_n C.hx C.hb dL_law_816 rfl (lv_at hl 1 rfl) ?_
  refine law_ld C hk (q := 1) (by decide) hG.2.2 hl 0 5 rfl rfl dL_law_817 dL_law_818 dL_law_820 dL_law_821 dL_law_822 ?_
  refine lv_aload_n C.hx C.hb dL_law_823 rfl (lv_at hl 3 rfl) ?_
  refine gx_goi hG C.hA (vx_runSX (As := [.ref (ad 21), .int (iI (sA xs (5 * k + 1))), .ref (ad 31)]) (rest := []) ⟨C.hx, C.hb, C.hml, C.hown, C.hts⟩ (mL_drift l D cy ad n st _ fz (2048 * (k : Int)) hn hI (by omega) (sA xs (5 * k + 1)) (sA_r xs _) C.hlf hnl hR) (vx_cwSW 3 C.hts gL_law_L_drift rfl rfl rfl (by decide +kernel) ⟨Nat.le_of_ble_eq_true rfl, Nat.le_of_ble_eq_true rfl⟩) ⟨g_blind, g_pre C.hK hG C.hA C.hN C.hZ⟩ rfl rfl hl.1 rfl (lv_room (Nat.le_of_ble_eq_true rfl)) dL_law_824 ⟨Nat.le_trans (by omega) hcs.1, Nat.le_trans (by omega) hcs.2⟩) (fun E9 st9 H locs ce9 q9 hp hG hce hcv hcl => hp.elim) (fun r9 st1 H locs hp hG => ?_)
  refine lv_istore (lv' := [(6, .int r9), (0, .ref b), (1, .ref (ad 21)), (2, .ref (ad 0)), (3, .ref (ad 31)), (4, .ref (ad 32)), (5, .int (iI (5 * (k : Int))))]) C.hx C.hb dL_law_827 hl (by decide) rfl (fun ls hl => ?_)
  refine lv_aload_n C.hx C.hb dL_law_829 rfl (lv_at hl 3 rfl) ?_
  refine law_ld C hk (q := 1) (by decide) hG.2.2 hl 1 6 rfl rfl dL_law_830 dL_law_831 dL_law_833 dL_law_834 dL_law_835 ?_
  refine g_goi hG C.hA (va_runV (As := [.int (iI (sA xs (5 * k + 1)))]) (rest := []) ⟨C.hx, C.hb, C.hml, C.hown, C.hts⟩ (mX6_drift l D cy ad n st1 _ fz (2048 * (k : Int)) hn hp.2.2 (by omega) (sA xs (5 * k + 1)) (sA_r xs _)) (cwV 1 C.hts gL_law_X6_drift rfl rfl rfl (by decide +kernel) ⟨Nat.le_of_ble_eq_true rfl, Nat.le_of_ble_eq_true rfl⟩) ⟨g_blind, va_recv C.hK hG.1 (q0 := 0) (ci := 6) rfl ((gw_at (by omega)).trans (by rw [gC_0])), g_pre C.hK hG C.hA C.hN C.hZ⟩ rfl rfl hl.1 rfl (lv_room (Nat.le_of_ble_eq_true rfl)) dL_law_836 ⟨Nat.le_trans (by omega) hcs.1, Nat.le_trans (by omega) hcs.2⟩) (fun b9 z H locs hq hG => ?_)
  refine lv_istore (lv' := [(7, .int b9), (6, .int r9), (0, .ref b), (1, .ref (ad 21)), (2, .ref (ad 0)), (3, .ref (ad 31)), (4, .ref (ad 32)), (5, .int (iI (5 * (k : Int))))]) C.hx C.hb dL_law_839 hl (by decide) rfl (fun ls hl => ?_)
  obtain ⟨hr0, ho, hRz, hIz, h33⟩ := rc_drift (sA xs (5 * k + 1)) hR hI hp hq
  have h00 := gI_0 hIz 0 0
  refine lv_aload_n C.hx C.hb dL_law_841 rfl (lv_at hl 4 rfl) ?_
  refine g_goi hG C.hA (va_runV (As := []) (rest := []) ⟨C.hx, C.hb, C.hml, C.hown, C.hts⟩ (mX6_thrown l D cy ad n z _ fz _ hn hIz (by omega)) (cwV 0 C.hts gL_law_X6_thrown rfl rfl rfl (by decide +kernel) ⟨Nat.le_of_ble_eq_true rfl, Nat.le_of_ble_eq_true rfl⟩) ⟨g_blind, va_recv C.hK hG.1 (q0 := 0) (ci := 6) rfl ((gw_at (by omega)).trans (by rw [gC_0])), g_pre C.hK hG C.hA C.hN C.hZ⟩ rfl rfl hl.1 rfl (lv_room (Nat.le_of_ble_eq_true rfl)) dL_law_842 ⟨Nat.le_trans (by omega) hcs.1, Nat.le_trans (by omega) hcs.2⟩) (fun r8 z8 H locs hq8 hG => ?_)
  obtain ⟨hr8, hz8⟩ := hq8
  rw [hz8] at hG
  refine r_asI hr8 ?_
  refine lv_iload C.hx C.hb dL_law_845 (lv_at hl 1 rfl) ?_
  refine r_asI hr0 ?_
  refine r_icmp_eq (tgt := 852) C.hx C.hb (by omega) dL_law_847 (by decide) (fun _ => ?_) (fun c1 => absurd rfl c1)
  refine lv_iload C.hx C.hb dL_law_852 (lv_at hl 1 rfl) ?_
  refine r_asI hr0 ?_
  refine r_if_ne (tgt := 869) C.hx C.hb (by omega) dL_law_854 (by decide) (fun c2 => ?_) (fun c2 => ?_)
  · skip
    refine lv_goto (tgt := 2518) C.hx C.hb dL_law_869 (by decide) ?_
    refine W.widen (k := cells + 8) (n := slots + 60) (by omega) (by omega) ?_
    exact KK z ad n H locs ls hG hRz (GI_mono (by omega) hIz) (by omega) (lv_sub hl [2, 3, 4, 5, 6, 7] rfl)
  refine lv_aload_n C.hx C.hb dL_law_857 rfl (lv_at hl 5 rfl) ?_
  refine lv_iconst (v := iI (0)) C.hx C.hb dL_law_858 rfl ?_
  refine g_lald C.hx C.hb hn C.hK hG dL_law_859 ?_
  refine lv_iload C.hx C.hb dL_law_860 (lv_at hl 0 rfl) ?_
  refine lv_i2l (v := b9.toInt64) C.hx C.hb dL_law_862 rfl ?_
  refine r_lcz (ho c2) C.hx C.hb dL_law_863 ?_
  refine r_if_eq (tgt := 869) C.hx C.hb (by omega) dL_law_864 (by decide) (fun _ => ?_) (fun c3 => absurd rfl c3)
  refine lv_goto (tgt := 2518) C.hx C.hb dL_law_869 (by decide) ?_
  refine W.widen (k := cells + 8) (n := slots + 60) (by omega) (by omega) ?_
  exact KK z ad n H locs ls hG hRz (GI_mono (by omega) hIz) (by omega) (lv_sub hl [2, 3, 4, 5, 6, 7] rfl)
set_option maxHeartbeats 1000000 in
set_option maxRecDepth 100000 in
theorem lc_endurance {p : Program} {l : Launch} {e : Env} {s : State} {m : MethodId} {below : List Frame} {meth : Method} {c : Code} {b L : Nat} {xs : Nat → Int32} {D : va_G} {cy : Nat → ClassId} {fz : Nat} {A : Nat → Prop} {H : Heap} {locs : List Loc} {cells slots : Nat} {Q : State → Prop} {ls : Array Slot} {ad : Nat → Nat} {n : Nat} {st : St} (C : LC p l s m meth c b L xs D cy fz A) (k : Nat) (hk : 5 * k + 5 ≤ L) (hG : GH D cy ad n st A s.heap H locs) (hR : RY st) (hI : GI (2048 * (k : Int)) st) (hnl : (n : Int) = 75 + 3 * st 33 0 0) (hl : lv_has ls 9 (llv b ad k)) (hcs : cells + 8 ≤ room_1.cells ∧ slots + 60 ≤ room_1.slots) (KK : LKK p l e s m below meth c b D cy A Q k cells slots) : W p l e room_1 s m #[Value.ref b] below meth c H locs cells slots Q (F0 m 872 ls []) := by
  have hn : 75 ≤ n := by have := gI_33 hI 0 0; omega
  have hkL := C.hL
  refine lv_aload_n C.hx C.hb dL_law_872 rfl (lv_at hl 1 rfl) ?_
  refine law_ld C hk (q := 1) (by decide) hG.2.2 hl 0 5 rfl rfl dL_law_873 dL_law_874 dL_law_876 dL_law_877 dL_law_878 ?_
  refine lv_aload_n C.hx C.hb dL_law_879 rfl (lv_at hl 3 rfl) ?_
  refine gx_goi hG C.hA (vx_runSX (As := [.ref (ad 21), .int (iI (sA xs (5 * k + 1))), .ref (ad 31)]) (rest := []) ⟨C.hx, C.hb, C.hml, C.hown, C.hts⟩ (mL_endurance l D cy ad n st _ fz (2048 * (k : Int)) hn hI (by omega) (sA xs (5 * k + 1)) (sA_r xs _) C.hlf hnl hR) (vx_cwSW 3 C.hts gL_law_L_endurance rfl rfl rfl (by decide +kernel) ⟨Nat.le_of_ble_eq_true rfl, Nat.le_of_ble_eq_true rfl⟩) ⟨g_blind, g_pre C.hK hG C.hA C.hN C.hZ⟩ rfl rfl hl.1 rfl (lv_room (Nat.le_of_ble_eq_true rfl)) dL_law_880 ⟨Nat.le_trans (by omega) hcs.1, Nat.le_trans (by omega) hcs.2⟩) (fun E9 st9 H locs ce9 q9 hp hG hce hcv hcl => hp.elim) (fun r9 st1 H locs hp hG => ?_)
  refine lv_istore (lv' := [(6, .int r9), (0, .ref b), (1, .ref (ad 21)), (2, .ref (ad 0)), (3, .ref (ad 31)), (4, .ref (ad 32)), (5, .int (iI (5 * (k : Int))))]) C.hx C.hb dL_law_883 hl (by decide) rfl (fun ls hl => ?_)
  refine lv_aload_n C.hx C.hb dL_law_885 rfl (lv_at hl 3 rfl) ?_
  refine law_ld C hk (q := 1) (by decide) hG.2.2 hl 1 6 rfl rfl dL_law_886 dL_law_887 dL_law_889 dL_law_890 dL_law_891 ?_
  refine g_goi hG C.hA (va_runV (As := [.int (iI (sA xs (5 * k + 1)))]) (rest := []) ⟨C.hx, C.hb, C.hml, C.hown, C.hts⟩ (mX6_endurance l D cy ad n st1 _ fz (2048 * (k : Int)) hn hp.2.2 (by omega) (sA xs (5 * k + 1)) (sA_r xs _)) (cwV 1 C.hts gL_law_X6_endurance rfl rfl rfl (by decide +kernel) ⟨Nat.le_of_ble_eq_true rfl, Nat.le_of_ble_eq_true rfl⟩) ⟨g_blind, va_recv C.hK hG.1 (q0 := 0) (ci := 6) rfl ((gw_at (by omega)).trans (by rw [gC_0])), g_pre C.hK hG C.hA C.hN C.hZ⟩ rfl rfl hl.1 rfl (lv_room (Nat.le_of_ble_eq_true rfl)) dL_law_892 ⟨Nat.le_trans (by omega) hcs.1, Nat.le_trans (by omega) hcs.2⟩) (fun b9 z H locs hq hG => ?_)
  refine lv_istore (lv' := [(7, .int b9), (6, .int r9), (0, .ref b), (1, .ref (ad 21)), (2, .ref (ad 0)), (3, .ref (ad 31)), (4, .ref (ad 32)), (5, .int (iI (5 * (k : Int))))]) C.hx C.hb dL_law_895 hl (by decide) rfl (fun ls hl => ?_)
  obtain ⟨hr0, ho, hRz, hIz, h33⟩ := rc_endurance (sA xs (5 * k + 1)) hR hI hp hq
  have h00 := gI_0 hIz 0 0
  refine lv_aload_n C.hx C.hb dL_law_897 rfl (lv_at hl 4 rfl) ?_
  refine g_goi hG C.hA (va_runV (As := []) (rest := []) ⟨C.hx, C.hb, C.hml, C.hown, C.hts⟩ (mX6_thrown l D cy ad n z _ fz _ hn hIz (by omega)) (cwV 0 C.hts gL_law_X6_thrown rfl rfl rfl (by decide +kernel) ⟨Nat.le_of_ble_eq_true rfl, Nat.le_of_ble_eq_true rfl⟩) ⟨g_blind, va_recv C.hK hG.1 (q0 := 0) (ci := 6) rfl ((gw_at (by omega)).trans (by rw [gC_0])), g_pre C.hK hG C.hA C.hN C.hZ⟩ rfl rfl hl.1 rfl (lv_room (Nat.le_of_ble_eq_true rfl)) dL_law_898 ⟨Nat.le_trans (by omega) hcs.1, Nat.le_trans (by omega) hcs.2⟩) (fun r8 z8 H locs hq8 hG => ?_)
  obtain ⟨hr8, hz8⟩ := hq8
  rw [hz8] at hG
  refine r_asI hr8 ?_
  refine lv_iload C.hx C.hb dL_law_901 (lv_at hl 1 rfl) ?_
  refine r_asI hr0 ?_
  refine r_icmp_eq (tgt := 908) C.hx C.hb (by omega) dL_law_903 (by decide) (fun _ => ?_) (fun c1 => absurd rfl c1)
  refine lv_iload C.hx C.hb dL_law_908 (lv_at hl 1 rfl) ?_
  refine r_asI hr0 ?_
  refine r_if_ne (tgt := 925) C.hx C.hb (by omega) dL_law_910 (by decide) (fun c2 => ?_) (fun c2 => ?_)
  · skip
    refine lv_goto (tgt := 2518) C.hx C.hb dL_law_925 (by decide) ?_
    refine W.widen (k := cells + 8) (n := slots + 60) (by omega) (by omega) ?_
    exact KK z ad n H locs ls hG hRz (GI_mono (by omega) hIz) (by omega) (lv_sub hl [2, 3, 4, 5, 6, 7] rfl)
  refine lv_aload_n C.hx C.hb dL_law_913 rfl (lv_at hl 5 rfl) ?_
  refine lv_iconst (v := iI (0)) C.hx C.hb dL_law_914 rfl ?_
  refine g_lald C.hx C.hb hn C.hK hG dL_law_915 ?_
  refine lv_iload C.hx C.hb dL_law_916 (lv_at hl 0 rfl) ?_
  refine lv_i2l (v := b9.toInt64) C.hx C.hb dL_law_918 rfl ?_
  refine r_lcz (ho c2) C.hx C.hb dL_law_919 ?_
  refine r_if_eq (tgt := 925) C.hx C.hb (by omega) dL_law_920 (by decide) (fun _ => ?_) (fun c3 => absurd rfl c3)
  refine lv_goto (tgt := 2518) C.hx C.hb dL_law_925 (by decide) ?_
  refine W.widen (k := cells + 8) (n := slots + 60) (by omega) (by omega) ?_
  exact KK z ad n H locs ls hG hRz (GI_mono (by omega) hIz) (by omega) (lv_sub hl [2, 3, 4, 5, 6, 7] rfl)
set_option maxHeartbeats 1000000 in
set_option maxRecDepth 100000 in
theorem lc_pass {p : Program} {l : Launch} {e : Env} {s : State} {m : MethodId} {below : List Frame} {meth : Method} {c : Code} {b L : Nat} {xs : Nat → Int32} {D : va_G} {cy : Nat → ClassId} {fz : Nat} {A : Nat → Prop} {H : Heap} {locs : List Loc} {cells slots : Nat} {Q : State → Prop} {ls : Array Slot} {ad : Nat → Nat} {n : Nat} {st : St} (C : LC p l s m meth c b L xs D cy fz A) (k : Nat) (hk : 5 * k + 5 ≤ L) (hG : GH D cy ad n st A s.heap H locs) (hR : RY st) (hI : GI (2048 * (k : Int)) st) (hnl : (n : Int) = 75 + 3 * st 33 0 0) (hl : lv_has ls 9 (llv b ad k)) (hcs : cells + 8 ≤ room_1.cells ∧ slots + 60 ≤ room_1.slots) (KK : LKK p l e s m below meth c b D cy A Q k cells slots) : W p l e room_1 s m #[Value.ref b] below meth c H locs cells slots Q (F0 m 928 ls []) := by
  have hn : 75 ≤ n := by have := gI_33 hI 0 0; omega
  have hkL := C.hL
  refine lv_aload_n C.hx C.hb dL_law_928 rfl (lv_at hl 1 rfl) ?_
  refine law_ld C hk (q := 1) (by decide) hG.2.2 hl 0 5 rfl rfl dL_law_929 dL_law_930 dL_law_932 dL_law_933 dL_law_934 ?_
  refine lv_aload_n C.hx C.hb dL_law_935 rfl (lv_at hl 3 rfl) ?_
  refine gx_goi hG C.hA (vx_runSX (As := [.ref (ad 21), .int (iI (sA xs (5 * k + 1))), .ref (ad 31)]) (rest := []) ⟨C.hx, C.hb, C.hml, C.hown, C.hts⟩ (mL_pass l D cy ad n st _ fz (2048 * (k : Int)) hn hI (by omega) (sA xs (5 * k + 1)) (sA_r xs _) C.hlf hnl hR) (vx_cwSW 3 C.hts gL_law_L_pass rfl rfl rfl (by decide +kernel) ⟨Nat.le_of_ble_eq_true rfl, Nat.le_of_ble_eq_true rfl⟩) ⟨g_blind, g_pre C.hK hG C.hA C.hN C.hZ⟩ rfl rfl hl.1 rfl (lv_room (Nat.le_of_ble_eq_true rfl)) dL_law_936 ⟨Nat.le_trans (by omega) hcs.1, Nat.le_trans (by omega) hcs.2⟩) (fun E9 st9 H locs ce9 q9 hp hG hce hcv hcl => hp.elim) (fun r9 st1 H locs hp hG => ?_)
  refine lv_istore (lv' := [(6, .int r9), (0, .ref b), (1, .ref (ad 21)), (2, .ref (ad 0)), (3, .ref (ad 31)), (4, .ref (ad 32)), (5, .int (iI (5 * (k : Int))))]) C.hx C.hb dL_law_939 hl (by decide) rfl (fun ls hl => ?_)
  refine lv_aload_n C.hx C.hb dL_law_941 rfl (lv_at hl 3 rfl) ?_
  refine law_ld C hk (q := 1) (by decide) hG.2.2 hl 1 6 rfl rfl dL_law_942 dL_law_943 dL_law_945 dL_law_946 dL_law_947 ?_
  refine g_goi hG C.hA (va_runV (As := [.int (iI (sA xs (5 * k + 1)))]) (rest := []) ⟨C.hx, C.hb, C.hml, C.hown, C.hts⟩ (mX6_pass l D cy ad n st1 _ fz (2048 * (k : Int)) hn hp.2.2 (by omega) (sA xs (5 * k + 1)) (sA_r xs _)) (cwV 1 C.hts gL_law_X6_pass rfl rfl rfl (by decide +kernel) ⟨Nat.le_of_ble_eq_true rfl, Nat.le_of_ble_eq_true rfl⟩) ⟨g_blind, va_recv C.hK hG.1 (q0 := 0) (ci := 6) rfl ((gw_at (by omega)).trans (by rw [gC_0])), g_pre C.hK hG C.hA C.hN C.hZ⟩ rfl rfl hl.1 rfl (lv_room (Nat.le_of_ble_eq_true rfl)) dL_law_948 ⟨Nat.le_trans (by omega) hcs.1, Nat.le_trans (by omega) hcs.2⟩) (fun b9 z H locs hq hG => ?_)
  refine lv_istore (lv' := [(7, .int b9), (6, .int r9), (0, .ref b), (1, .ref (ad 21)), (2, .ref (ad 0)), (3, .ref (ad 31)), (4, .ref (ad 32)), (5, .int (iI (5 * (k : Int))))]) C.hx C.hb dL_law_951 hl (by decide) rfl (fun ls hl => ?_)
  obtain ⟨hr0, ho, hRz, hIz, h33⟩ := rc_pass (sA xs (5 * k + 1)) hR hI hp hq
  have h00 := gI_0 hIz 0 0
  refine lv_aload_n C.hx C.hb dL_law_953 rfl (lv_at hl 4 rfl) ?_
  refine g_goi hG C.hA (va_runV (As := []) (rest := []) ⟨C.hx, C.hb, C.hml, C.hown, C.hts⟩ (mX6_thrown l D cy ad n z _ fz _ hn hIz (by omega)) (cwV 0 C.hts gL_law_X6_thrown rfl rfl rfl (by decide +kernel) ⟨Nat.le_of_ble_eq_true rfl, Nat.le_of_ble_eq_true rfl⟩) ⟨g_blind, va_recv C.hK hG.1 (q0 := 0) (ci := 6) rfl ((gw_at (by omega)).trans (by rw [gC_0])), g_pre C.hK hG C.hA C.hN C.hZ⟩ rfl rfl hl.1 rfl (lv_room (Nat.le_of_ble_eq_true rfl)) dL_law_954 ⟨Nat.le_trans (by omega) hcs.1, Nat.le_trans (by omega) hcs.2⟩) (fun r8 z8 H locs hq8 hG => ?_)
  obtain ⟨hr8, hz8⟩ := hq8
  rw [hz8] at hG
  refine r_asI hr8 ?_
  refine lv_iload C.hx C.hb dL_law_957 (lv_at hl 1 rfl) ?_
  refine r_asI hr0 ?_
  refine r_icmp_eq (tgt := 964) C.hx C.hb (by omega) dL_law_959 (by decide) (fun _ => ?_) (fun c1 => absurd rfl c1)
  refine lv_iload C.hx C.hb dL_law_964 (lv_at hl 1 rfl) ?_
  refine r_asI hr0 ?_
  refine r_if_ne (tgt := 981) C.hx C.hb (by omega) dL_law_966 (by decide) (fun c2 => ?_) (fun c2 => ?_)
  · skip
    refine lv_goto (tgt := 2518) C.hx C.hb dL_law_981 (by decide) ?_
    refine W.widen (k := cells + 8) (n := slots + 60) (by omega) (by omega) ?_
    exact KK z ad n H locs ls hG hRz (GI_mono (by omega) hIz) (by omega) (lv_sub hl [2, 3, 4, 5, 6, 7] rfl)
  refine lv_aload_n C.hx C.hb dL_law_969 rfl (lv_at hl 5 rfl) ?_
  refine lv_iconst (v := iI (0)) C.hx C.hb dL_law_970 rfl ?_
  refine g_lald C.hx C.hb hn C.hK hG dL_law_971 ?_
  refine lv_iload C.hx C.hb dL_law_972 (lv_at hl 0 rfl) ?_
  refine lv_i2l (v := b9.toInt64) C.hx C.hb dL_law_974 rfl ?_
  refine r_lcz (ho c2) C.hx C.hb dL_law_975 ?_
  refine r_if_eq (tgt := 981) C.hx C.hb (by omega) dL_law_976 (by decide) (fun _ => ?_) (fun c3 => absurd rfl c3)
  refine lv_goto (tgt := 2518) C.hx C.hb dL_law_981 (by decide) ?_
  refine W.widen (k := cells + 8) (n := slots + 60) (by omega) (by omega) ?_
  exact KK z ad n H locs ls hG hRz (GI_mono (by omega) hIz) (by omega) (lv_sub hl [2, 3, 4, 5, 6, 7] rfl)
set_option maxHeartbeats 1000000 in
set_option maxRecDepth 100000 in
theorem lc_converter {p : Program} {l : Launch} {e : Env} {s : State} {m : MethodId} {below : List Frame} {meth : Method} {c : Code} {b L : Nat} {xs : Nat → Int32} {D : va_G} {cy : Nat → ClassId} {fz : Nat} {A : Nat → Prop} {H : Heap} {locs : List Loc} {cells slots : Nat} {Q : State → Prop} {ls : Array Slot} {ad : Nat → Nat} {n : Nat} {st : St} (C : LC p l s m meth c b L xs D cy fz A) (k : Nat) (hk : 5 * k + 5 ≤ L) (hG : GH D cy ad n st A s.heap H locs) (hR : RY st) (hI : GI (2048 * (k : Int)) st) (hnl : (n : Int) = 75 + 3 * st 33 0 0) (hl : lv_has ls 9 (llv b ad k)) (hcs : cells + 8 ≤ room_1.cells ∧ slots + 60 ≤ room_1.slots) (KK : LKK p l e s m below meth c b D cy A Q k cells slots) : W p l e room_1 s m #[Value.ref b] below meth c H locs cells slots Q (F0 m 984 ls []) := by
  have hn : 75 ≤ n := by have := gI_33 hI 0 0; omega
  have hkL := C.hL
  refine lv_aload_n C.hx C.hb dL_law_984 rfl (lv_at hl 1 rfl) ?_
  refine law_ld C hk (q := 1) (by decide) hG.2.2 hl 0 5 rfl rfl dL_law_985 dL_law_986 dL_law_988 dL_law_989 dL_law_990 ?_
  refine law_ld C hk (q := 2) (by decide) hG.2.2 hl 0 5 rfl rfl dL_law_991 dL_law_992 dL_law_994 dL_law_995 dL_law_996 ?_
  refine law_ld C hk (q := 3) (by decide) hG.2.2 hl 0 5 rfl rfl dL_law_997 dL_law_998 dL_law_1000 dL_law_1001 dL_law_1002 ?_
  refine lv_aload_n C.hx C.hb dL_law_1003 rfl (lv_at hl 3 rfl) ?_
  refine gx_goi hG C.hA (vx_runSX (As := [.ref (ad 21), .int (iI (sA xs (5 * k + 1))), .int (iI (sA xs (5 * k + 2))), .int (iI (sA xs (5 * k + 3))), .ref (ad 31)]) (rest := []) ⟨C.hx, C.hb, C.hml, C.hown, C.hts⟩ (mL_converter l D cy ad n st _ fz (2048 * (k : Int)) hn hI (by omega) (sA xs (5 * k + 1)) (sA xs (5 * k + 2)) (sA xs (5 * k + 3)) (sA_r xs _) (sA_r xs _) (sA_r xs _) C.hlf hnl hR) (vx_cwSW 5 C.hts gL_law_L_converter rfl rfl rfl (by decide +kernel) ⟨Nat.le_of_ble_eq_true rfl, Nat.le_of_ble_eq_true rfl⟩) ⟨g_blind, g_pre C.hK hG C.hA C.hN C.hZ⟩ rfl rfl hl.1 rfl (lv_room (Nat.le_of_ble_eq_true rfl)) dL_law_1004 ⟨Nat.le_trans (by omega) hcs.1, Nat.le_trans (by omega) hcs.2⟩) (fun E9 st9 H locs ce9 q9 hp hG hce hcv hcl => hp.elim) (fun r9 st1 H locs hp hG => ?_)
  refine lv_istore (lv' := [(6, .int r9), (0, .ref b), (1, .ref (ad 21)), (2, .ref (ad 0)), (3, .ref (ad 31)), (4, .ref (ad 32)), (5, .int (iI (5 * (k : Int))))]) C.hx C.hb dL_law_1007 hl (by decide) rfl (fun ls hl => ?_)
  refine lv_aload_n C.hx C.hb dL_law_1009 rfl (lv_at hl 3 rfl) ?_
  refine law_ld C hk (q := 1) (by decide) hG.2.2 hl 1 6 rfl rfl dL_law_1010 dL_law_1011 dL_law_1013 dL_law_1014 dL_law_1015 ?_
  refine law_ld C hk (q := 2) (by decide) hG.2.2 hl 1 6 rfl rfl dL_law_1016 dL_law_1017 dL_law_1019 dL_law_1020 dL_law_1021 ?_
  refine law_ld C hk (q := 3) (by decide) hG.2.2 hl 1 6 rfl rfl dL_law_1022 dL_law_1023 dL_law_1025 dL_law_1026 dL_law_1027 ?_
  refine g_goi hG C.hA (va_runV (As := [.int (iI (sA xs (5 * k + 1))), .int (iI (sA xs (5 * k + 2))), .int (iI (sA xs (5 * k + 3)))]) (rest := []) ⟨C.hx, C.hb, C.hml, C.hown, C.hts⟩ (mX6_converter l D cy ad n st1 _ fz (2048 * (k : Int)) hn hp.2.2 (by omega) (sA xs (5 * k + 1)) (sA xs (5 * k + 2)) (sA xs (5 * k + 3)) (sA_r xs _) (sA_r xs _) (sA_r xs _)) (cwV 3 C.hts gL_law_X6_converter rfl rfl rfl (by decide +kernel) ⟨Nat.le_of_ble_eq_true rfl, Nat.le_of_ble_eq_true rfl⟩) ⟨g_blind, va_recv C.hK hG.1 (q0 := 0) (ci := 6) rfl ((gw_at (by omega)).trans (by rw [gC_0])), g_pre C.hK hG C.hA C.hN C.hZ⟩ rfl rfl hl.1 rfl (lv_room (Nat.le_of_ble_eq_true rfl)) dL_law_1028 ⟨Nat.le_trans (by omega) hcs.1, Nat.le_trans (by omega) hcs.2⟩) (fun b9 z H locs hq hG => ?_)
  refine lv_istore (lv' := [(7, .int b9), (6, .int r9), (0, .ref b), (1, .ref (ad 21)), (2, .ref (ad 0)), (3, .ref (ad 31)), (4, .ref (ad 32)), (5, .int (iI (5 * (k : Int))))]) C.hx C.hb dL_law_1031 hl (by decide) rfl (fun ls hl => ?_)
  obtain ⟨hr0, ho, hRz, hIz, h33⟩ := rc_converter (sA xs (5 * k + 1)) (sA xs (5 * k + 2)) (sA xs (5 * k + 3)) hR hI hp hq
  have h00 := gI_0 hIz 0 0
  refine lv_aload_n C.hx C.hb dL_law_1033 rfl (lv_at hl 4 rfl) ?_
  refine g_goi hG C.hA (va_runV (As := []) (rest := []) ⟨C.hx, C.hb, C.hml, C.hown, C.hts⟩ (mX6_thrown l D cy ad n z _ fz _ hn hIz (by omega)) (cwV 0 C.hts gL_law_X6_thrown rfl rfl rfl (by decide +kernel) ⟨Nat.le_of_ble_eq_true rfl, Nat.le_of_ble_eq_true rfl⟩) ⟨g_blind, va_recv C.hK hG.1 (q0 := 0) (ci := 6) rfl ((gw_at (by omega)).trans (by rw [gC_0])), g_pre C.hK hG C.hA C.hN C.hZ⟩ rfl rfl hl.1 rfl (lv_room (Nat.le_of_ble_eq_true rfl)) dL_law_1034 ⟨Nat.le_trans (by omega) hcs.1, Nat.le_trans (by omega) hcs.2⟩) (fun r8 z8 H locs hq8 hG => ?_)
  obtain ⟨hr8, hz8⟩ := hq8
  rw [hz8] at hG
  refine r_asI hr8 ?_
  refine lv_iload C.hx C.hb dL_law_1037 (lv_at hl 1 rfl) ?_
  refine r_asI hr0 ?_
  refine r_icmp_eq (tgt := 1044) C.hx C.hb (by omega) dL_law_1039 (by decide) (fun _ => ?_) (fun c1 => absurd rfl c1)
  refine lv_iload C.hx C.hb dL_law_1044 (lv_at hl 1 rfl) ?_
  refine r_asI hr0 ?_
  refine r_if_ne (tgt := 1061) C.hx C.hb (by omega) dL_law_1046 (by decide) (fun c2 => ?_) (fun c2 => ?_)
  · skip
    refine lv_goto (tgt := 2518) C.hx C.hb dL_law_1061 (by decide) ?_
    refine W.widen (k := cells + 8) (n := slots + 60) (by omega) (by omega) ?_
    exact KK z ad n H locs ls hG hRz (GI_mono (by omega) hIz) (by omega) (lv_sub hl [2, 3, 4, 5, 6, 7] rfl)
  refine lv_aload_n C.hx C.hb dL_law_1049 rfl (lv_at hl 5 rfl) ?_
  refine lv_iconst (v := iI (0)) C.hx C.hb dL_law_1050 rfl ?_
  refine g_lald C.hx C.hb hn C.hK hG dL_law_1051 ?_
  refine lv_iload C.hx C.hb dL_law_1052 (lv_at hl 0 rfl) ?_
  refine lv_i2l (v := b9.toInt64) C.hx C.hb dL_law_1054 rfl ?_
  refine r_lcz (ho c2) C.hx C.hb dL_law_1055 ?_
  refine r_if_eq (tgt := 1061) C.hx C.hb (by omega) dL_law_1056 (by decide) (fun _ => ?_) (fun c3 => absurd rfl c3)
  refine lv_goto (tgt := 2518) C.hx C.hb dL_law_1061 (by decide) ?_
  refine W.widen (k := cells + 8) (n := slots + 60) (by omega) (by omega) ?_
  exact KK z ad n H locs ls hG hRz (GI_mono (by omega) hIz) (by omega) (lv_sub hl [2, 3, 4, 5, 6, 7] rfl)
set_option maxHeartbeats 1000000 in
set_option maxRecDepth 100000 in
theorem lc_offset {p : Program} {l : Launch} {e : Env} {s : State} {m : MethodId} {below : List Frame} {meth : Method} {c : Code} {b L : Nat} {xs : Nat → Int32} {D : va_G} {cy : Nat → ClassId} {fz : Nat} {A : Nat → Prop} {H : Heap} {locs : List Loc} {cells slots : Nat} {Q : State → Prop} {ls : Array Slot} {ad : Nat → Nat} {n : Nat} {st : St} (C : LC p l s m meth c b L xs D cy fz A) (k : Nat) (hk : 5 * k + 5 ≤ L) (hG : GH D cy ad n st A s.heap H locs) (hR : RY st) (hI : GI (2048 * (k : Int)) st) (hnl : (n : Int) = 75 + 3 * st 33 0 0) (hl : lv_has ls 9 (llv b ad k)) (hcs : cells + 8 ≤ room_1.cells ∧ slots + 60 ≤ room_1.slots) (KK : LKK p l e s m below meth c b D cy A Q k cells slots) : W p l e room_1 s m #[Value.ref b] below meth c H locs cells slots Q (F0 m 1064 ls []) := by
  have hn : 75 ≤ n := by have := gI_33 hI 0 0; omega
  have hkL := C.hL
  refine lv_aload_n C.hx C.hb dL_law_1064 rfl (lv_at hl 1 rfl) ?_
  refine law_ld C hk (q := 1) (by decide) hG.2.2 hl 0 5 rfl rfl dL_law_1065 dL_law_1066 dL_law_1068 dL_law_1069 dL_law_1070 ?_
  refine law_ld C hk (q := 2) (by decide) hG.2.2 hl 0 5 rfl rfl dL_law_1071 dL_law_1072 dL_law_1074 dL_law_1075 dL_law_1076 ?_
  refine law_ld C hk (q := 3) (by decide) hG.2.2 hl 0 5 rfl rfl dL_law_1077 dL_law_1078 dL_law_1080 dL_law_1081 dL_law_1082 ?_
  refine lv_aload_n C.hx C.hb dL_law_1083 rfl (lv_at hl 3 rfl) ?_
  refine gx_goi hG C.hA (vx_runSX (As := [.ref (ad 21), .int (iI (sA xs (5 * k + 1))), .int (iI (sA xs (5 * k + 2))), .int (iI (sA xs (5 * k + 3))), .ref (ad 31)]) (rest := []) ⟨C.hx, C.hb, C.hml, C.hown, C.hts⟩ (mL_offset l D cy ad n st _ fz (2048 * (k : Int)) hn hI (by omega) (sA xs (5 * k + 1)) (sA xs (5 * k + 2)) (sA xs (5 * k + 3)) (sA_r xs _) (sA_r xs _) (sA_r xs _) C.hlf hnl hR) (vx_cwSW 5 C.hts gL_law_L_offset rfl rfl rfl (by decide +kernel) ⟨Nat.le_of_ble_eq_true rfl, Nat.le_of_ble_eq_true rfl⟩) ⟨g_blind, g_pre C.hK hG C.hA C.hN C.hZ⟩ rfl rfl hl.1 rfl (lv_room (Nat.le_of_ble_eq_true rfl)) dL_law_1084 ⟨Nat.le_trans (by omega) hcs.1, Nat.le_trans (by omega) hcs.2⟩) (fun E9 st9 H locs ce9 q9 hp hG hce hcv hcl => hp.elim) (fun r9 st1 H locs hp hG => ?_)
  refine lv_istore (lv' := [(6, .int r9), (0, .ref b), (1, .ref (ad 21)), (2, .ref (ad 0)), (3, .ref (ad 31)), (4, .ref (ad 32)), (5, .int (iI (5 * (k : Int))))]) C.hx C.hb dL_law_1087 hl (by decide) rfl (fun ls hl => ?_)
  refine lv_aload_n C.hx C.hb dL_law_1089 rfl (lv_at hl 3 rfl) ?_
  refine law_ld C hk (q := 1) (by decide) hG.2.2 hl 1 6 rfl rfl dL_law_1090 dL_law_1091 dL_law_1093 dL_law_1094 dL_law_1095 ?_
  refine law_ld C hk (q := 2) (by decide) hG.2.2 hl 1 6 rfl rfl dL_law_1096 dL_law_1097 dL_law_1099 dL_law_1100 dL_law_1101 ?_
  refine law_ld C hk (q := 3) (by decide) hG.2.2 hl 1 6 rfl rfl dL_law_1102 dL_law_1103 dL_law_1105 dL_law_1106 dL_law_1107 ?_
  refine g_goi hG C.hA (va_runV (As := [.int (iI (sA xs (5 * k + 1))), .int (iI (sA xs (5 * k + 2))), .int (iI (sA xs (5 * k + 3)))]) (rest := []) ⟨C.hx, C.hb, C.hml, C.hown, C.hts⟩ (mX6_offset l D cy ad n st1 _ fz (2048 * (k : Int)) hn hp.2.2 (by omega) (sA xs (5 * k + 1)) (sA xs (5 * k + 2)) (sA xs (5 * k + 3)) (sA_r xs _) (sA_r xs _) (sA_r xs _)) (cwV 3 C.hts gL_law_X6_offset rfl rfl rfl (by decide +kernel) ⟨Nat.le_of_ble_eq_true rfl, Nat.le_of_ble_eq_true rfl⟩) ⟨g_blind, va_recv C.hK hG.1 (q0 := 0) (ci := 6) rfl ((gw_at (by omega)).trans (by rw [gC_0])), g_pre C.hK hG C.hA C.hN C.hZ⟩ rfl rfl hl.1 rfl (lv_room (Nat.le_of_ble_eq_true rfl)) dL_law_1108 ⟨Nat.le_trans (by omega) hcs.1, Nat.le_trans (by omega) hcs.2⟩) (fun b9 z H locs hq hG => ?_)
  refine lv_istore (lv' := [(7, .int b9), (6, .int r9), (0, .ref b), (1, .ref (ad 21)), (2, .ref (ad 0)), (3, .ref (ad 31)), (4, .ref (ad 32)), (5, .int (iI (5 * (k : Int))))]) C.hx C.hb dL_law_1111 hl (by decide) rfl (fun ls hl => ?_)
  obtain ⟨hr0, ho, hRz, hIz, h33⟩ := rc_offset (sA xs (5 * k + 1)) (sA xs (5 * k + 2)) (sA xs (5 * k + 3)) hR hI hp hq
  have h00 := gI_0 hIz 0 0
  refine lv_aload_n C.hx C.hb dL_law_1113 rfl (lv_at hl 4 rfl) ?_
  refine g_goi hG C.hA (va_runV (As := []) (rest := []) ⟨C.hx, C.hb, C.hml, C.hown, C.hts⟩ (mX6_thrown l D cy ad n z _ fz _ hn hIz (by omega)) (cwV 0 C.hts gL_law_X6_thrown rfl rfl rfl (by decide +kernel) ⟨Nat.le_of_ble_eq_true rfl, Nat.le_of_ble_eq_true rfl⟩) ⟨g_blind, va_recv C.hK hG.1 (q0 := 0) (ci := 6) rfl ((gw_at (by omega)).trans (by rw [gC_0])), g_pre C.hK hG C.hA C.hN C.hZ⟩ rfl rfl hl.1 rfl (lv_room (Nat.le_of_ble_eq_true rfl)) dL_law_1114 ⟨Nat.le_trans (by omega) hcs.1, Nat.le_trans (by omega) hcs.2⟩) (fun r8 z8 H locs hq8 hG => ?_)
  obtain ⟨hr8, hz8⟩ := hq8
  rw [hz8] at hG
  refine r_asI hr8 ?_
  refine lv_iload C.hx C.hb dL_law_1117 (lv_at hl 1 rfl) ?_
  refine r_asI hr0 ?_
  refine r_icmp_eq (tgt := 1124) C.hx C.hb (by omega) dL_law_1119 (by decide) (fun _ => ?_) (fun c1 => absurd rfl c1)
  refine lv_iload C.hx C.hb dL_law_1124 (lv_at hl 1 rfl) ?_
  refine r_asI hr0 ?_
  refine r_if_ne (tgt := 1141) C.hx C.hb (by omega) dL_law_1126 (by decide) (fun c2 => ?_) (fun c2 => ?_)
  · skip
    refine lv_goto (tgt := 2518) C.hx C.hb dL_law_1141 (by decide) ?_
    refine W.widen (k := cells + 8) (n := slots + 60) (by omega) (by omega) ?_
    exact KK z ad n H locs ls hG hRz (GI_mono (by omega) hIz) (by omega) (lv_sub hl [2, 3, 4, 5, 6, 7] rfl)
  refine lv_aload_n C.hx C.hb dL_law_1129 rfl (lv_at hl 5 rfl) ?_
  refine lv_iconst (v := iI (0)) C.hx C.hb dL_law_1130 rfl ?_
  refine g_lald C.hx C.hb hn C.hK hG dL_law_1131 ?_
  refine lv_iload C.hx C.hb dL_law_1132 (lv_at hl 0 rfl) ?_
  refine lv_i2l (v := b9.toInt64) C.hx C.hb dL_law_1134 rfl ?_
  refine r_lcz (ho c2) C.hx C.hb dL_law_1135 ?_
  refine r_if_eq (tgt := 1141) C.hx C.hb (by omega) dL_law_1136 (by decide) (fun _ => ?_) (fun c3 => absurd rfl c3)
  refine lv_goto (tgt := 2518) C.hx C.hb dL_law_1141 (by decide) ?_
  refine W.widen (k := cells + 8) (n := slots + 60) (by omega) (by omega) ?_
  exact KK z ad n H locs ls hG hRz (GI_mono (by omega) hIz) (by omega) (lv_sub hl [2, 3, 4, 5, 6, 7] rfl)
set_option maxHeartbeats 1000000 in
set_option maxRecDepth 100000 in
theorem lc_calibrate {p : Program} {l : Launch} {e : Env} {s : State} {m : MethodId} {below : List Frame} {meth : Method} {c : Code} {b L : Nat} {xs : Nat → Int32} {D : va_G} {cy : Nat → ClassId} {fz : Nat} {A : Nat → Prop} {H : Heap} {locs : List Loc} {cells slots : Nat} {Q : State → Prop} {ls : Array Slot} {ad : Nat → Nat} {n : Nat} {st : St} (C : LC p l s m meth c b L xs D cy fz A) (k : Nat) (hk : 5 * k + 5 ≤ L) (hG : GH D cy ad n st A s.heap H locs) (hR : RY st) (hI : GI (2048 * (k : Int)) st) (hnl : (n : Int) = 75 + 3 * st 33 0 0) (hl : lv_has ls 9 (llv b ad k)) (hcs : cells + 8 ≤ room_1.cells ∧ slots + 60 ≤ room_1.slots) (KK : LKK p l e s m below meth c b D cy A Q k cells slots) : W p l e room_1 s m #[Value.ref b] below meth c H locs cells slots Q (F0 m 1144 ls []) := by
  have hn : 75 ≤ n := by have := gI_33 hI 0 0; omega
  have hkL := C.hL
  refine lv_aload_n C.hx C.hb dL_law_1144 rfl (lv_at hl 1 rfl) ?_
  refine law_ld C hk (q := 1) (by decide) hG.2.2 hl 0 5 rfl rfl dL_law_1145 dL_law_1146 dL_law_1148 dL_law_1149 dL_law_1150 ?_
  refine law_ld C hk (q := 2) (by decide) hG.2.2 hl 0 5 rfl rfl dL_law_1151 dL_law_1152 dL_law_1154 dL_law_1155 dL_law_1156 ?_
  refine law_bool C.hx C.hb (sA_r xs _) dL_law_1157 dL_law_1160 dL_law_1161 dL_law_1164 ?_
  refine lv_aload_n C.hx C.hb dL_law_1165 rfl (lv_at hl 3 rfl) ?_
  refine gx_goi hG C.hA (vx_runSX (As := [.ref (ad 21), .int (iI (sA xs (5 * k + 1))), .int (iI (if sA xs (5 * k + 2) = 0 then 0 else 1)), .ref (ad 31)]) (rest := []) ⟨C.hx, C.hb, C.hml, C.hown, C.hts⟩ (mL_calibrate l D cy ad n st _ fz (2048 * (k : Int)) hn hI (by omega) (sA xs (5 * k + 1)) (if sA xs (5 * k + 2) = 0 then 0 else 1) (sA_r xs _) bR C.hlf hnl hR bZ) (vx_cwSW 4 C.hts gL_law_L_calibrate rfl rfl rfl (by decide +kernel) ⟨Nat.le_of_ble_eq_true rfl, Nat.le_of_ble_eq_true rfl⟩) ⟨g_blind, g_pre C.hK hG C.hA C.hN C.hZ⟩ rfl rfl hl.1 rfl (lv_room (Nat.le_of_ble_eq_true rfl)) dL_law_1166 ⟨Nat.le_trans (by omega) hcs.1, Nat.le_trans (by omega) hcs.2⟩) (fun E9 st9 H locs ce9 q9 hp hG hce hcv hcl => hp.elim) (fun r9 st1 H locs hp hG => ?_)
  refine lv_istore (lv' := [(6, .int r9), (0, .ref b), (1, .ref (ad 21)), (2, .ref (ad 0)), (3, .ref (ad 31)), (4, .ref (ad 32)), (5, .int (iI (5 * (k : Int))))]) C.hx C.hb dL_law_1169 hl (by decide) rfl (fun ls hl => ?_)
  refine lv_aload_n C.hx C.hb dL_law_1171 rfl (lv_at hl 3 rfl) ?_
  refine law_ld C hk (q := 1) (by decide) hG.2.2 hl 1 6 rfl rfl dL_law_1172 dL_law_1173 dL_law_1175 dL_law_1176 dL_law_1177 ?_
  refine law_ld C hk (q := 2) (by decide) hG.2.2 hl 1 6 rfl rfl dL_law_1178 dL_law_1179 dL_law_1181 dL_law_1182 dL_law_1183 ?_
  refine law_bool C.hx C.hb (sA_r xs _) dL_law_1184 dL_law_1187 dL_law_1188 dL_law_1191 ?_
  refine g_goi hG C.hA (va_runV (As := [.int (iI (sA xs (5 * k + 1))), .int (iI (if sA xs (5 * k + 2) = 0 then 0 else 1))]) (rest := []) ⟨C.hx, C.hb, C.hml, C.hown, C.hts⟩ (mX6_calibrate l D cy ad n st1 _ fz (2048 * (k : Int)) hn hp.2.2 (by omega) (sA xs (5 * k + 1)) (if sA xs (5 * k + 2) = 0 then 0 else 1) (sA_r xs _) bR bZ) (cwV 2 C.hts gL_law_X6_calibrate rfl rfl rfl (by decide +kernel) ⟨Nat.le_of_ble_eq_true rfl, Nat.le_of_ble_eq_true rfl⟩) ⟨g_blind, va_recv C.hK hG.1 (q0 := 0) (ci := 6) rfl ((gw_at (by omega)).trans (by rw [gC_0])), g_pre C.hK hG C.hA C.hN C.hZ⟩ rfl rfl hl.1 rfl (lv_room (Nat.le_of_ble_eq_true rfl)) dL_law_1192 ⟨Nat.le_trans (by omega) hcs.1, Nat.le_trans (by omega) hcs.2⟩) (fun b9 z H locs hq hG => ?_)
  refine lv_istore (lv' := [(7, .int b9), (6, .int r9), (0, .ref b), (1, .ref (ad 21)), (2, .ref (ad 0)), (3, .ref (ad 31)), (4, .ref (ad 32)), (5, .int (iI (5 * (k : Int))))]) C.hx C.hb dL_law_1195 hl (by decide) rfl (fun ls hl => ?_)
  obtain ⟨hr0, ho, hRz, hIz, h33⟩ := rc_calibrate (sA xs (5 * k + 1)) (if sA xs (5 * k + 2) = 0 then 0 else 1) hR hI hp hq
  have h00 := gI_0 hIz 0 0
  refine lv_aload_n C.hx C.hb dL_law_1197 rfl (lv_at hl 4 rfl) ?_
  refine g_goi hG C.hA (va_runV (As := []) (rest := []) ⟨C.hx, C.hb, C.hml, C.hown, C.hts⟩ (mX6_thrown l D cy ad n z _ fz _ hn hIz (by omega)) (cwV 0 C.hts gL_law_X6_thrown rfl rfl rfl (by decide +kernel) ⟨Nat.le_of_ble_eq_true rfl, Nat.le_of_ble_eq_true rfl⟩) ⟨g_blind, va_recv C.hK hG.1 (q0 := 0) (ci := 6) rfl ((gw_at (by omega)).trans (by rw [gC_0])), g_pre C.hK hG C.hA C.hN C.hZ⟩ rfl rfl hl.1 rfl (lv_room (Nat.le_of_ble_eq_true rfl)) dL_law_1198 ⟨Nat.le_trans (by omega) hcs.1, Nat.le_trans (by omega) hcs.2⟩) (fun r8 z8 H locs hq8 hG => ?_)
  obtain ⟨hr8, hz8⟩ := hq8
  rw [hz8] at hG
  refine r_asI hr8 ?_
  refine lv_iload C.hx C.hb dL_law_1201 (lv_at hl 1 rfl) ?_
  refine r_asI hr0 ?_
  refine r_icmp_eq (tgt := 1208) C.hx C.hb (by omega) dL_law_1203 (by decide) (fun _ => ?_) (fun c1 => absurd rfl c1)
  refine lv_iload C.hx C.hb dL_law_1208 (lv_at hl 1 rfl) ?_
  refine r_asI hr0 ?_
  refine r_if_ne (tgt := 1232) C.hx C.hb (by omega) dL_law_1210 (by decide) (fun c2 => ?_) (fun c2 => ?_)
  · skip
    refine lv_goto (tgt := 2518) C.hx C.hb dL_law_1232 (by decide) ?_
    refine W.widen (k := cells + 8) (n := slots + 60) (by omega) (by omega) ?_
    exact KK z ad n H locs ls hG hRz (GI_mono (by omega) hIz) (by omega) (lv_sub hl [2, 3, 4, 5, 6, 7] rfl)
  refine lv_aload_n C.hx C.hb dL_law_1213 rfl (lv_at hl 5 rfl) ?_
  refine lv_iconst (v := iI (0)) C.hx C.hb dL_law_1214 rfl ?_
  refine g_lald C.hx C.hb hn C.hK hG dL_law_1215 ?_
  refine lv_iload C.hx C.hb dL_law_1216 (lv_at hl 0 rfl) ?_
  refine law_b01 C.hx C.hb (x := b9) dL_law_1218 dL_law_1221 dL_law_1222 dL_law_1225 ?_
  refine r_lcz (ho c2) C.hx C.hb dL_law_1226 ?_
  refine r_if_eq (tgt := 1232) C.hx C.hb (by omega) dL_law_1227 (by decide) (fun _ => ?_) (fun c3 => absurd rfl c3)
  refine lv_goto (tgt := 2518) C.hx C.hb dL_law_1232 (by decide) ?_
  refine W.widen (k := cells + 8) (n := slots + 60) (by omega) (by omega) ?_
  exact KK z ad n H locs ls hG hRz (GI_mono (by omega) hIz) (by omega) (lv_sub hl [2, 3, 4, 5, 6, 7] rfl)
set_option maxHeartbeats 1000000 in
set_option maxRecDepth 100000 in
theorem lc_converters {p : Program} {l : Launch} {e : Env} {s : State} {m : MethodId} {below : List Frame} {meth : Method} {c : Code} {b L : Nat} {xs : Nat → Int32} {D : va_G} {cy : Nat → ClassId} {fz : Nat} {A : Nat → Prop} {H : Heap} {locs : List Loc} {cells slots : Nat} {Q : State → Prop} {ls : Array Slot} {ad : Nat → Nat} {n : Nat} {st : St} (C : LC p l s m meth c b L xs D cy fz A) (k : Nat) (hk : 5 * k + 5 ≤ L) (hG : GH D cy ad n st A s.heap H locs) (hR : RY st) (hI : GI (2048 * (k : Int)) st) (hnl : (n : Int) = 75 + 3 * st 33 0 0) (hl : lv_has ls 9 (llv b ad k)) (hcs : cells + 8 ≤ room_1.cells ∧ slots + 60 ≤ room_1.slots) (KK : LKK p l e s m below meth c b D cy A Q k cells slots) : W p l e room_1 s m #[Value.ref b] below meth c H locs cells slots Q (F0 m 1235 ls []) := by
  have hn : 75 ≤ n := by have := gI_33 hI 0 0; omega
  have hkL := C.hL
  refine lv_aload_n C.hx C.hb dL_law_1235 rfl (lv_at hl 1 rfl) ?_
  refine law_ld C hk (q := 1) (by decide) hG.2.2 hl 0 5 rfl rfl dL_law_1236 dL_law_1237 dL_law_1239 dL_law_1240 dL_law_1241 ?_
  refine law_ld C hk (q := 2) (by decide) hG.2.2 hl 0 5 rfl rfl dL_law_1242 dL_law_1243 dL_law_1245 dL_law_1246 dL_law_1247 ?_
  refine lv_aload_n C.hx C.hb dL_law_1248 rfl (lv_at hl 3 rfl) ?_
  refine gx_goi hG C.hA (vx_runSX (As := [.ref (ad 21), .int (iI (sA xs (5 * k + 1))), .int (iI (sA xs (5 * k + 2))), .ref (ad 31)]) (rest := []) ⟨C.hx, C.hb, C.hml, C.hown, C.hts⟩ (mL_converters l D cy ad n st _ fz (2048 * (k : Int)) hn hI (by omega) (sA xs (5 * k + 1)) (sA xs (5 * k + 2)) (sA_r xs _) (sA_r xs _) C.hlf hnl hR) (vx_cwSW 4 C.hts gL_law_L_converters rfl rfl rfl (by decide +kernel) ⟨Nat.le_of_ble_eq_true rfl, Nat.le_of_ble_eq_true rfl⟩) ⟨g_blind, g_pre C.hK hG C.hA C.hN C.hZ⟩ rfl rfl hl.1 rfl (lv_room (Nat.le_of_ble_eq_true rfl)) dL_law_1249 ⟨Nat.le_trans (by omega) hcs.1, Nat.le_trans (by omega) hcs.2⟩) (fun E9 st9 H locs ce9 q9 hp hG hce hcv hcl => hp.elim) (fun r9 st1 H locs hp hG => ?_)
  refine lv_istore (lv' := [(6, .int r9), (0, .ref b), (1, .ref (ad 21)), (2, .ref (ad 0)), (3, .ref (ad 31)), (4, .ref (ad 32)), (5, .int (iI (5 * (k : Int))))]) C.hx C.hb dL_law_1252 hl (by decide) rfl (fun ls hl => ?_)
  refine lv_aload_n C.hx C.hb dL_law_1254 rfl (lv_at hl 3 rfl) ?_
  refine law_ld C hk (q := 1) (by decide) hG.2.2 hl 1 6 rfl rfl dL_law_1255 dL_law_1256 dL_law_1258 dL_law_1259 dL_law_1260 ?_
  refine law_ld C hk (q := 2) (by decide) hG.2.2 hl 1 6 rfl rfl dL_law_1261 dL_law_1262 dL_law_1264 dL_law_1265 dL_law_1266 ?_
  refine g_goi hG C.hA (va_runV (As := [.int (iI (sA xs (5 * k + 1))), .int (iI (sA xs (5 * k + 2)))]) (rest := []) ⟨C.hx, C.hb, C.hml, C.hown, C.hts⟩ (mX6_converters l D cy ad n st1 _ fz (2048 * (k : Int)) hn hp.2.2 (by omega) (sA xs (5 * k + 1)) (sA xs (5 * k + 2)) (sA_r xs _) (sA_r xs _)) (cwV 2 C.hts gL_law_X6_converters rfl rfl rfl (by decide +kernel) ⟨Nat.le_of_ble_eq_true rfl, Nat.le_of_ble_eq_true rfl⟩) ⟨g_blind, va_recv C.hK hG.1 (q0 := 0) (ci := 6) rfl ((gw_at (by omega)).trans (by rw [gC_0])), g_pre C.hK hG C.hA C.hN C.hZ⟩ rfl rfl hl.1 rfl (lv_room (Nat.le_of_ble_eq_true rfl)) dL_law_1267 ⟨Nat.le_trans (by omega) hcs.1, Nat.le_trans (by omega) hcs.2⟩) (fun b9 z H locs hq hG => ?_)
  refine lv_istore (lv' := [(7, .int b9), (6, .int r9), (0, .ref b), (1, .ref (ad 21)), (2, .ref (ad 0)), (3, .ref (ad 31)), (4, .ref (ad 32)), (5, .int (iI (5 * (k : Int))))]) C.hx C.hb dL_law_1270 hl (by decide) rfl (fun ls hl => ?_)
  obtain ⟨hr0, ho, hRz, hIz, h33⟩ := rc_converters (sA xs (5 * k + 1)) (sA xs (5 * k + 2)) hR hI hp hq
  have h00 := gI_0 hIz 0 0
  refine lv_aload_n C.hx C.hb dL_law_1272 rfl (lv_at hl 4 rfl) ?_
  refine g_goi hG C.hA (va_runV (As := []) (rest := []) ⟨C.hx, C.hb, C.hml, C.hown, C.hts⟩ (mX6_thrown l D cy ad n z _ fz _ hn hIz (by omega)) (cwV 0 C.hts gL_law_X6_thrown rfl rfl rfl (by decide +kernel) ⟨Nat.le_of_ble_eq_true rfl, Nat.le_of_ble_eq_true rfl⟩) ⟨g_blind, va_recv C.hK hG.1 (q0 := 0) (ci := 6) rfl ((gw_at (by omega)).trans (by rw [gC_0])), g_pre C.hK hG C.hA C.hN C.hZ⟩ rfl rfl hl.1 rfl (lv_room (Nat.le_of_ble_eq_true rfl)) dL_law_1273 ⟨Nat.le_trans (by omega) hcs.1, Nat.le_trans (by omega) hcs.2⟩) (fun r8 z8 H locs hq8 hG => ?_)
  obtain ⟨hr8, hz8⟩ := hq8
  rw [hz8] at hG
  refine r_asI hr8 ?_
  refine lv_iload C.hx C.hb dL_law_1276 (lv_at hl 1 rfl) ?_
  refine r_asI hr0 ?_
  refine r_icmp_eq (tgt := 1283) C.hx C.hb (by omega) dL_law_1278 (by decide) (fun _ => ?_) (fun c1 => absurd rfl c1)
  refine lv_iload C.hx C.hb dL_law_1283 (lv_at hl 1 rfl) ?_
  refine r_asI hr0 ?_
  refine r_if_ne (tgt := 1300) C.hx C.hb (by omega) dL_law_1285 (by decide) (fun c2 => ?_) (fun c2 => ?_)
  · skip
    refine lv_goto (tgt := 2518) C.hx C.hb dL_law_1300 (by decide) ?_
    refine W.widen (k := cells + 8) (n := slots + 60) (by omega) (by omega) ?_
    exact KK z ad n H locs ls hG hRz (GI_mono (by omega) hIz) (by omega) (lv_sub hl [2, 3, 4, 5, 6, 7] rfl)
  refine lv_aload_n C.hx C.hb dL_law_1288 rfl (lv_at hl 5 rfl) ?_
  refine lv_iconst (v := iI (0)) C.hx C.hb dL_law_1289 rfl ?_
  refine g_lald C.hx C.hb hn C.hK hG dL_law_1290 ?_
  refine lv_iload C.hx C.hb dL_law_1291 (lv_at hl 0 rfl) ?_
  refine lv_i2l (v := b9.toInt64) C.hx C.hb dL_law_1293 rfl ?_
  refine r_lcz (ho c2) C.hx C.hb dL_law_1294 ?_
  refine r_if_eq (tgt := 1300) C.hx C.hb (by omega) dL_law_1295 (by decide) (fun _ => ?_) (fun c3 => absurd rfl c3)
  refine lv_goto (tgt := 2518) C.hx C.hb dL_law_1300 (by decide) ?_
  refine W.widen (k := cells + 8) (n := slots + 60) (by omega) (by omega) ?_
  exact KK z ad n H locs ls hG hRz (GI_mono (by omega) hIz) (by omega) (lv_sub hl [2, 3, 4, 5, 6, 7] rfl)
set_option maxHeartbeats 1000000 in
set_option maxRecDepth 100000 in
theorem lc_cell {p : Program} {l : Launch} {e : Env} {s : State} {m : MethodId} {below : List Frame} {meth : Method} {c : Code} {b L : Nat} {xs : Nat → Int32} {D : va_G} {cy : Nat → ClassId} {fz : Nat} {A : Nat → Prop} {H : Heap} {locs : List Loc} {cells slots : Nat} {Q : State → Prop} {ls : Array Slot} {ad : Nat → Nat} {n : Nat} {st : St} (C : LC p l s m meth c b L xs D cy fz A) (k : Nat) (hk : 5 * k + 5 ≤ L) (hG : GH D cy ad n st A s.heap H locs) (hR : RY st) (hI : GI (2048 * (k : Int)) st) (hnl : (n : Int) = 75 + 3 * st 33 0 0) (hl : lv_has ls 9 (llv b ad k)) (hcs : cells + 8 ≤ room_1.cells ∧ slots + 60 ≤ room_1.slots) (KK : LKK p l e s m below meth c b D cy A Q k cells slots) : W p l e room_1 s m #[Value.ref b] below meth c H locs cells slots Q (F0 m 1303 ls []) := by
  have hn : 75 ≤ n := by have := gI_33 hI 0 0; omega
  have hkL := C.hL
  refine lv_aload_n C.hx C.hb dL_law_1303 rfl (lv_at hl 1 rfl) ?_
  refine law_ld C hk (q := 1) (by decide) hG.2.2 hl 0 5 rfl rfl dL_law_1304 dL_law_1305 dL_law_1307 dL_law_1308 dL_law_1309 ?_
  refine law_ld C hk (q := 2) (by decide) hG.2.2 hl 0 5 rfl rfl dL_law_1310 dL_law_1311 dL_law_1313 dL_law_1314 dL_law_1315 ?_
  refine law_ld C hk (q := 3) (by decide) hG.2.2 hl 0 5 rfl rfl dL_law_1316 dL_law_1317 dL_law_1319 dL_law_1320 dL_law_1321 ?_
  refine law_ld C hk (q := 4) (by decide) hG.2.2 hl 0 5 rfl rfl dL_law_1322 dL_law_1323 dL_law_1325 dL_law_1326 dL_law_1327 ?_
  refine lv_aload_n C.hx C.hb dL_law_1328 rfl (lv_at hl 3 rfl) ?_
  refine gx_goi hG C.hA (vx_runSX (As := [.ref (ad 21), .int (iI (sA xs (5 * k + 1))), .int (iI (sA xs (5 * k + 2))), .int (iI (sA xs (5 * k + 3))), .int (iI (sA xs (5 * k + 4))), .ref (ad 31)]) (rest := []) ⟨C.hx, C.hb, C.hml, C.hown, C.hts⟩ (mL_cell l D cy ad n st _ fz (2048 * (k : Int)) hn hI (by omega) (sA xs (5 * k + 1)) (sA xs (5 * k + 2)) (sA xs (5 * k + 3)) (sA xs (5 * k + 4)) (sA_r xs _) (sA_r xs _) (sA_r xs _) (sA_r xs _) C.hlf hnl hR) (vx_cwSW 6 C.hts gL_law_L_cell rfl rfl rfl (by decide +kernel) ⟨Nat.le_of_ble_eq_true rfl, Nat.le_of_ble_eq_true rfl⟩) ⟨g_blind, g_pre C.hK hG C.hA C.hN C.hZ⟩ rfl rfl hl.1 rfl (lv_room (Nat.le_of_ble_eq_true rfl)) dL_law_1329 ⟨Nat.le_trans (by omega) hcs.1, Nat.le_trans (by omega) hcs.2⟩) (fun E9 st9 H locs ce9 q9 hp hG hce hcv hcl => hp.elim) (fun r9 st1 H locs hp hG => ?_)
  refine lv_istore (lv' := [(6, .int r9), (0, .ref b), (1, .ref (ad 21)), (2, .ref (ad 0)), (3, .ref (ad 31)), (4, .ref (ad 32)), (5, .int (iI (5 * (k : Int))))]) C.hx C.hb dL_law_1332 hl (by decide) rfl (fun ls hl => ?_)
  have hml : ∀ (c o : Nat) (i : Int), c < 30 → st1 c o i = st c o i := by
    intro c o i hc
    rcases hp.2.1 with ⟨-, s1, hs1, h1⟩ | ⟨-, h1⟩
    · rw [h1, hs1, ust_c (by omega)]
    · rw [h1]
  have hsi : ∀ j : Int, st1 6 0 j ≤ st1 1 0 0 := fun j => by rw [hml 6 0 j (by decide), hml 1 0 0 (by decide)]; exact hR.2.2.2.2.2.2.2.2.2.1 j
  refine lv_aload_n C.hx C.hb dL_law_1334 rfl (lv_at hl 3 rfl) ?_
  refine law_ld C hk (q := 1) (by decide) hG.2.2 hl 1 6 rfl rfl dL_law_1335 dL_law_1336 dL_law_1338 dL_law_1339 dL_law_1340 ?_
  refine law_ld C hk (q := 2) (by decide) hG.2.2 hl 1 6 rfl rfl dL_law_1341 dL_law_1342 dL_law_1344 dL_law_1345 dL_law_1346 ?_
  refine law_ld C hk (q := 3) (by decide) hG.2.2 hl 1 6 rfl rfl dL_law_1347 dL_law_1348 dL_law_1350 dL_law_1351 dL_law_1352 ?_
  refine law_ld C hk (q := 4) (by decide) hG.2.2 hl 1 6 rfl rfl dL_law_1353 dL_law_1354 dL_law_1356 dL_law_1357 dL_law_1358 ?_
  refine g_goi hG C.hA (va_runV (As := [.int (iI (sA xs (5 * k + 1))), .int (iI (sA xs (5 * k + 2))), .int (iI (sA xs (5 * k + 3))), .int (iI (sA xs (5 * k + 4)))]) (rest := []) ⟨C.hx, C.hb, C.hml, C.hown, C.hts⟩ (mX6_cell l D cy ad n st1 _ fz (2048 * (k : Int)) hn hp.2.2 (by omega) (sA xs (5 * k + 1)) (sA xs (5 * k + 2)) (sA xs (5 * k + 3)) (sA xs (5 * k + 4)) (sA_r xs _) (sA_r xs _) (sA_r xs _) (sA_r xs _) hsi) (cwV 4 C.hts gL_law_X6_cell rfl rfl rfl (by decide +kernel) ⟨Nat.le_of_ble_eq_true rfl, Nat.le_of_ble_eq_true rfl⟩) ⟨g_blind, va_recv C.hK hG.1 (q0 := 0) (ci := 6) rfl ((gw_at (by omega)).trans (by rw [gC_0])), g_pre C.hK hG C.hA C.hN C.hZ⟩ rfl rfl hl.1 rfl (lv_room (Nat.le_of_ble_eq_true rfl)) dL_law_1359 ⟨Nat.le_trans (by omega) hcs.1, Nat.le_trans (by omega) hcs.2⟩) (fun b9 z H locs hq hG => ?_)
  refine lv_istore (lv' := [(7, .int b9), (6, .int r9), (0, .ref b), (1, .ref (ad 21)), (2, .ref (ad 0)), (3, .ref (ad 31)), (4, .ref (ad 32)), (5, .int (iI (5 * (k : Int))))]) C.hx C.hb dL_law_1362 hl (by decide) rfl (fun ls hl => ?_)
  obtain ⟨hr0, ho, hRz, hIz, h33⟩ := rc_cell (sA xs (5 * k + 1)) (sA xs (5 * k + 2)) (sA xs (5 * k + 3)) (sA xs (5 * k + 4)) hR hI hp hq
  have h00 := gI_0 hIz 0 0
  refine lv_aload_n C.hx C.hb dL_law_1364 rfl (lv_at hl 4 rfl) ?_
  refine g_goi hG C.hA (va_runV (As := []) (rest := []) ⟨C.hx, C.hb, C.hml, C.hown, C.hts⟩ (mX6_thrown l D cy ad n z _ fz _ hn hIz (by omega)) (cwV 0 C.hts gL_law_X6_thrown rfl rfl rfl (by decide +kernel) ⟨Nat.le_of_ble_eq_true rfl, Nat.le_of_ble_eq_true rfl⟩) ⟨g_blind, va_recv C.hK hG.1 (q0 := 0) (ci := 6) rfl ((gw_at (by omega)).trans (by rw [gC_0])), g_pre C.hK hG C.hA C.hN C.hZ⟩ rfl rfl hl.1 rfl (lv_room (Nat.le_of_ble_eq_true rfl)) dL_law_1365 ⟨Nat.le_trans (by omega) hcs.1, Nat.le_trans (by omega) hcs.2⟩) (fun r8 z8 H locs hq8 hG => ?_)
  obtain ⟨hr8, hz8⟩ := hq8
  rw [hz8] at hG
  refine r_asI hr8 ?_
  refine lv_iload C.hx C.hb dL_law_1368 (lv_at hl 1 rfl) ?_
  refine r_asI hr0 ?_
  refine r_icmp_eq (tgt := 1375) C.hx C.hb (by omega) dL_law_1370 (by decide) (fun _ => ?_) (fun c1 => absurd rfl c1)
  refine lv_iload C.hx C.hb dL_law_1375 (lv_at hl 1 rfl) ?_
  refine r_asI hr0 ?_
  refine r_if_ne (tgt := 1392) C.hx C.hb (by omega) dL_law_1377 (by decide) (fun c2 => ?_) (fun c2 => ?_)
  · skip
    refine lv_goto (tgt := 2518) C.hx C.hb dL_law_1392 (by decide) ?_
    refine W.widen (k := cells + 8) (n := slots + 60) (by omega) (by omega) ?_
    exact KK z ad n H locs ls hG hRz (GI_mono (by omega) hIz) (by omega) (lv_sub hl [2, 3, 4, 5, 6, 7] rfl)
  refine lv_aload_n C.hx C.hb dL_law_1380 rfl (lv_at hl 5 rfl) ?_
  refine lv_iconst (v := iI (0)) C.hx C.hb dL_law_1381 rfl ?_
  refine g_lald C.hx C.hb hn C.hK hG dL_law_1382 ?_
  refine lv_iload C.hx C.hb dL_law_1383 (lv_at hl 0 rfl) ?_
  refine lv_i2l (v := b9.toInt64) C.hx C.hb dL_law_1385 rfl ?_
  refine r_lcz (ho c2) C.hx C.hb dL_law_1386 ?_
  refine r_if_eq (tgt := 1392) C.hx C.hb (by omega) dL_law_1387 (by decide) (fun _ => ?_) (fun c3 => absurd rfl c3)
  refine lv_goto (tgt := 2518) C.hx C.hb dL_law_1392 (by decide) ?_
  refine W.widen (k := cells + 8) (n := slots + 60) (by omega) (by omega) ?_
  exact KK z ad n H locs ls hG hRz (GI_mono (by omega) hIz) (by omega) (lv_sub hl [2, 3, 4, 5, 6, 7] rfl)
set_option maxHeartbeats 1000000 in
set_option maxRecDepth 100000 in
theorem lc_rowOf {p : Program} {l : Launch} {e : Env} {s : State} {m : MethodId} {below : List Frame} {meth : Method} {c : Code} {b L : Nat} {xs : Nat → Int32} {D : va_G} {cy : Nat → ClassId} {fz : Nat} {A : Nat → Prop} {H : Heap} {locs : List Loc} {cells slots : Nat} {Q : State → Prop} {ls : Array Slot} {ad : Nat → Nat} {n : Nat} {st : St} (C : LC p l s m meth c b L xs D cy fz A) (k : Nat) (hk : 5 * k + 5 ≤ L) (hG : GH D cy ad n st A s.heap H locs) (hR : RY st) (hI : GI (2048 * (k : Int)) st) (hnl : (n : Int) = 75 + 3 * st 33 0 0) (hl : lv_has ls 9 (llv b ad k)) (hcs : cells + 8 ≤ room_1.cells ∧ slots + 60 ≤ room_1.slots) (KK : LKK p l e s m below meth c b D cy A Q k cells slots) : W p l e room_1 s m #[Value.ref b] below meth c H locs cells slots Q (F0 m 1395 ls []) := by
  have hn : 75 ≤ n := by have := gI_33 hI 0 0; omega
  have hkL := C.hL
  refine lv_aload_n C.hx C.hb dL_law_1395 rfl (lv_at hl 1 rfl) ?_
  refine law_ld C hk (q := 1) (by decide) hG.2.2 hl 0 5 rfl rfl dL_law_1396 dL_law_1397 dL_law_1399 dL_law_1400 dL_law_1401 ?_
  refine law_ld C hk (q := 2) (by decide) hG.2.2 hl 0 5 rfl rfl dL_law_1402 dL_law_1403 dL_law_1405 dL_law_1406 dL_law_1407 ?_
  refine lv_aload_n C.hx C.hb dL_law_1408 rfl (lv_at hl 3 rfl) ?_
  refine gx_goi hG C.hA (vx_runSX (As := [.ref (ad 21), .int (iI (sA xs (5 * k + 1))), .int (iI (sA xs (5 * k + 2))), .ref (ad 31)]) (rest := []) ⟨C.hx, C.hb, C.hml, C.hown, C.hts⟩ (mL_rowOf l D cy ad n st _ fz (2048 * (k : Int)) hn hI (by omega) (sA xs (5 * k + 1)) (sA xs (5 * k + 2)) (sA_r xs _) (sA_r xs _) C.hlf hnl hR) (vx_cwSW 4 C.hts gL_law_L_rowOf rfl rfl rfl (by decide +kernel) ⟨Nat.le_of_ble_eq_true rfl, Nat.le_of_ble_eq_true rfl⟩) ⟨g_blind, g_pre C.hK hG C.hA C.hN C.hZ⟩ rfl rfl hl.1 rfl (lv_room (Nat.le_of_ble_eq_true rfl)) dL_law_1409 ⟨Nat.le_trans (by omega) hcs.1, Nat.le_trans (by omega) hcs.2⟩) (fun E9 st9 H locs ce9 q9 hp hG hce hcv hcl => hp.elim) (fun r9 st1 H locs hp hG => ?_)
  refine lv_istore (lv' := [(6, .int r9), (0, .ref b), (1, .ref (ad 21)), (2, .ref (ad 0)), (3, .ref (ad 31)), (4, .ref (ad 32)), (5, .int (iI (5 * (k : Int))))]) C.hx C.hb dL_law_1412 hl (by decide) rfl (fun ls hl => ?_)
  refine lv_aload_n C.hx C.hb dL_law_1414 rfl (lv_at hl 3 rfl) ?_
  refine law_ld C hk (q := 1) (by decide) hG.2.2 hl 1 6 rfl rfl dL_law_1415 dL_law_1416 dL_law_1418 dL_law_1419 dL_law_1420 ?_
  refine law_ld C hk (q := 2) (by decide) hG.2.2 hl 1 6 rfl rfl dL_law_1421 dL_law_1422 dL_law_1424 dL_law_1425 dL_law_1426 ?_
  refine g_goi hG C.hA (va_runV (As := [.int (iI (sA xs (5 * k + 1))), .int (iI (sA xs (5 * k + 2)))]) (rest := []) ⟨C.hx, C.hb, C.hml, C.hown, C.hts⟩ (mX6_rowOf l D cy ad n st1 _ fz (2048 * (k : Int)) hn hp.2.2 (by omega) (sA xs (5 * k + 1)) (sA xs (5 * k + 2)) (sA_r xs _) (sA_r xs _)) (cwV 2 C.hts gL_law_X6_rowOf rfl rfl rfl (by decide +kernel) ⟨Nat.le_of_ble_eq_true rfl, Nat.le_of_ble_eq_true rfl⟩) ⟨g_blind, va_recv C.hK hG.1 (q0 := 0) (ci := 6) rfl ((gw_at (by omega)).trans (by rw [gC_0])), g_pre C.hK hG C.hA C.hN C.hZ⟩ rfl rfl hl.1 rfl (lv_room (Nat.le_of_ble_eq_true rfl)) dL_law_1427 ⟨Nat.le_trans (by omega) hcs.1, Nat.le_trans (by omega) hcs.2⟩) (fun b9 z H locs hq hG => ?_)
  refine lv_istore (lv' := [(7, .int b9), (6, .int r9), (0, .ref b), (1, .ref (ad 21)), (2, .ref (ad 0)), (3, .ref (ad 31)), (4, .ref (ad 32)), (5, .int (iI (5 * (k : Int))))]) C.hx C.hb dL_law_1430 hl (by decide) rfl (fun ls hl => ?_)
  obtain ⟨hr0, ho, hRz, hIz, h33⟩ := rc_rowOf (sA xs (5 * k + 1)) (sA xs (5 * k + 2)) hR hI hp hq
  have h00 := gI_0 hIz 0 0
  refine lv_aload_n C.hx C.hb dL_law_1432 rfl (lv_at hl 4 rfl) ?_
  refine g_goi hG C.hA (va_runV (As := []) (rest := []) ⟨C.hx, C.hb, C.hml, C.hown, C.hts⟩ (mX6_thrown l D cy ad n z _ fz _ hn hIz (by omega)) (cwV 0 C.hts gL_law_X6_thrown rfl rfl rfl (by decide +kernel) ⟨Nat.le_of_ble_eq_true rfl, Nat.le_of_ble_eq_true rfl⟩) ⟨g_blind, va_recv C.hK hG.1 (q0 := 0) (ci := 6) rfl ((gw_at (by omega)).trans (by rw [gC_0])), g_pre C.hK hG C.hA C.hN C.hZ⟩ rfl rfl hl.1 rfl (lv_room (Nat.le_of_ble_eq_true rfl)) dL_law_1433 ⟨Nat.le_trans (by omega) hcs.1, Nat.le_trans (by omega) hcs.2⟩) (fun r8 z8 H locs hq8 hG => ?_)
  obtain ⟨hr8, hz8⟩ := hq8
  rw [hz8] at hG
  refine r_asI hr8 ?_
  refine lv_iload C.hx C.hb dL_law_1436 (lv_at hl 1 rfl) ?_
  refine r_asI hr0 ?_
  refine r_icmp_eq (tgt := 1443) C.hx C.hb (by omega) dL_law_1438 (by decide) (fun _ => ?_) (fun c1 => absurd rfl c1)
  refine lv_iload C.hx C.hb dL_law_1443 (lv_at hl 1 rfl) ?_
  refine r_asI hr0 ?_
  refine r_if_ne (tgt := 1460) C.hx C.hb (by omega) dL_law_1445 (by decide) (fun c2 => ?_) (fun c2 => ?_)
  · skip
    refine lv_goto (tgt := 2518) C.hx C.hb dL_law_1460 (by decide) ?_
    refine W.widen (k := cells + 8) (n := slots + 60) (by omega) (by omega) ?_
    exact KK z ad n H locs ls hG hRz (GI_mono (by omega) hIz) (by omega) (lv_sub hl [2, 3, 4, 5, 6, 7] rfl)
  refine lv_aload_n C.hx C.hb dL_law_1448 rfl (lv_at hl 5 rfl) ?_
  refine lv_iconst (v := iI (0)) C.hx C.hb dL_law_1449 rfl ?_
  refine g_lald C.hx C.hb hn C.hK hG dL_law_1450 ?_
  refine lv_iload C.hx C.hb dL_law_1451 (lv_at hl 0 rfl) ?_
  refine lv_i2l (v := b9.toInt64) C.hx C.hb dL_law_1453 rfl ?_
  refine r_lcz (ho c2) C.hx C.hb dL_law_1454 ?_
  refine r_if_eq (tgt := 1460) C.hx C.hb (by omega) dL_law_1455 (by decide) (fun _ => ?_) (fun c3 => absurd rfl c3)
  refine lv_goto (tgt := 2518) C.hx C.hb dL_law_1460 (by decide) ?_
  refine W.widen (k := cells + 8) (n := slots + 60) (by omega) (by omega) ?_
  exact KK z ad n H locs ls hG hRz (GI_mono (by omega) hIz) (by omega) (lv_sub hl [2, 3, 4, 5, 6, 7] rfl)
set_option maxHeartbeats 1000000 in
set_option maxRecDepth 100000 in
theorem lc_tileOf {p : Program} {l : Launch} {e : Env} {s : State} {m : MethodId} {below : List Frame} {meth : Method} {c : Code} {b L : Nat} {xs : Nat → Int32} {D : va_G} {cy : Nat → ClassId} {fz : Nat} {A : Nat → Prop} {H : Heap} {locs : List Loc} {cells slots : Nat} {Q : State → Prop} {ls : Array Slot} {ad : Nat → Nat} {n : Nat} {st : St} (C : LC p l s m meth c b L xs D cy fz A) (k : Nat) (hk : 5 * k + 5 ≤ L) (hG : GH D cy ad n st A s.heap H locs) (hR : RY st) (hI : GI (2048 * (k : Int)) st) (hnl : (n : Int) = 75 + 3 * st 33 0 0) (hl : lv_has ls 9 (llv b ad k)) (hcs : cells + 8 ≤ room_1.cells ∧ slots + 60 ≤ room_1.slots) (KK : LKK p l e s m below meth c b D cy A Q k cells slots) : W p l e room_1 s m #[Value.ref b] below meth c H locs cells slots Q (F0 m 1463 ls []) := by
  have hn : 75 ≤ n := by have := gI_33 hI 0 0; omega
  have hkL := C.hL
  refine lv_aload_n C.hx C.hb dL_law_1463 rfl (lv_at hl 1 rfl) ?_
  refine law_ld C hk (q := 1) (by decide) hG.2.2 hl 0 5 rfl rfl dL_law_1464 dL_law_1465 dL_law_1467 dL_law_1468 dL_law_1469 ?_
  refine lv_aload_n C.hx C.hb dL_law_1470 rfl (lv_at hl 3 rfl) ?_
  refine gx_goi hG C.hA (vx_runSX (As := [.ref (ad 21), .int (iI (sA xs (5 * k + 1))), .ref (ad 31)]) (rest := []) ⟨C.hx, C.hb, C.hml, C.hown, C.hts⟩ (mL_tileOf l D cy ad n st _ fz (2048 * (k : Int)) hn hI (by omega) (sA xs (5 * k + 1)) (sA_r xs _) C.hlf hnl hR) (vx_cwSW 3 C.hts gL_law_L_tileOf rfl rfl rfl (by decide +kernel) ⟨Nat.le_of_ble_eq_true rfl, Nat.le_of_ble_eq_true rfl⟩) ⟨g_blind, g_pre C.hK hG C.hA C.hN C.hZ⟩ rfl rfl hl.1 rfl (lv_room (Nat.le_of_ble_eq_true rfl)) dL_law_1471 ⟨Nat.le_trans (by omega) hcs.1, Nat.le_trans (by omega) hcs.2⟩) (fun E9 st9 H locs ce9 q9 hp hG hce hcv hcl => hp.elim) (fun r9 st1 H locs hp hG => ?_)
  refine lv_istore (lv' := [(6, .int r9), (0, .ref b), (1, .ref (ad 21)), (2, .ref (ad 0)), (3, .ref (ad 31)), (4, .ref (ad 32)), (5, .int (iI (5 * (k : Int))))]) C.hx C.hb dL_law_1474 hl (by decide) rfl (fun ls hl => ?_)
  refine lv_aload_n C.hx C.hb dL_law_1476 rfl (lv_at hl 3 rfl) ?_
  refine law_ld C hk (q := 1) (by decide) hG.2.2 hl 1 6 rfl rfl dL_law_1477 dL_law_1478 dL_law_1480 dL_law_1481 dL_law_1482 ?_
  refine g_goi hG C.hA (va_runV (As := [.int (iI (sA xs (5 * k + 1)))]) (rest := []) ⟨C.hx, C.hb, C.hml, C.hown, C.hts⟩ (mX6_tileOf l D cy ad n st1 _ fz (2048 * (k : Int)) hn hp.2.2 (by omega) (sA xs (5 * k + 1)) (sA_r xs _)) (cwV 1 C.hts gL_law_X6_tileOf rfl rfl rfl (by decide +kernel) ⟨Nat.le_of_ble_eq_true rfl, Nat.le_of_ble_eq_true rfl⟩) ⟨g_blind, va_recv C.hK hG.1 (q0 := 0) (ci := 6) rfl ((gw_at (by omega)).trans (by rw [gC_0])), g_pre C.hK hG C.hA C.hN C.hZ⟩ rfl rfl hl.1 rfl (lv_room (Nat.le_of_ble_eq_true rfl)) dL_law_1483 ⟨Nat.le_trans (by omega) hcs.1, Nat.le_trans (by omega) hcs.2⟩) (fun b9 z H locs hq hG => ?_)
  refine lv_istore (lv' := [(7, .int b9), (6, .int r9), (0, .ref b), (1, .ref (ad 21)), (2, .ref (ad 0)), (3, .ref (ad 31)), (4, .ref (ad 32)), (5, .int (iI (5 * (k : Int))))]) C.hx C.hb dL_law_1486 hl (by decide) rfl (fun ls hl => ?_)
  obtain ⟨hr0, ho, hRz, hIz, h33⟩ := rc_tileOf (sA xs (5 * k + 1)) hR hI hp hq
  have h00 := gI_0 hIz 0 0
  refine lv_aload_n C.hx C.hb dL_law_1488 rfl (lv_at hl 4 rfl) ?_
  refine g_goi hG C.hA (va_runV (As := []) (rest := []) ⟨C.hx, C.hb, C.hml, C.hown, C.hts⟩ (mX6_thrown l D cy ad n z _ fz _ hn hIz (by omega)) (cwV 0 C.hts gL_law_X6_thrown rfl rfl rfl (by decide +kernel) ⟨Nat.le_of_ble_eq_true rfl, Nat.le_of_ble_eq_true rfl⟩) ⟨g_blind, va_recv C.hK hG.1 (q0 := 0) (ci := 6) rfl ((gw_at (by omega)).trans (by rw [gC_0])), g_pre C.hK hG C.hA C.hN C.hZ⟩ rfl rfl hl.1 rfl (lv_room (Nat.le_of_ble_eq_true rfl)) dL_law_1489 ⟨Nat.le_trans (by omega) hcs.1, Nat.le_trans (by omega) hcs.2⟩) (fun r8 z8 H locs hq8 hG => ?_)
  obtain ⟨hr8, hz8⟩ := hq8
  rw [hz8] at hG
  refine r_asI hr8 ?_
  refine lv_iload C.hx C.hb dL_law_1492 (lv_at hl 1 rfl) ?_
  refine r_asI hr0 ?_
  refine r_icmp_eq (tgt := 1499) C.hx C.hb (by omega) dL_law_1494 (by decide) (fun _ => ?_) (fun c1 => absurd rfl c1)
  refine lv_iload C.hx C.hb dL_law_1499 (lv_at hl 1 rfl) ?_
  refine r_asI hr0 ?_
  refine r_if_ne (tgt := 1516) C.hx C.hb (by omega) dL_law_1501 (by decide) (fun c2 => ?_) (fun c2 => ?_)
  · skip
    refine lv_goto (tgt := 2518) C.hx C.hb dL_law_1516 (by decide) ?_
    refine W.widen (k := cells + 8) (n := slots + 60) (by omega) (by omega) ?_
    exact KK z ad n H locs ls hG hRz (GI_mono (by omega) hIz) (by omega) (lv_sub hl [2, 3, 4, 5, 6, 7] rfl)
  refine lv_aload_n C.hx C.hb dL_law_1504 rfl (lv_at hl 5 rfl) ?_
  refine lv_iconst (v := iI (0)) C.hx C.hb dL_law_1505 rfl ?_
  refine g_lald C.hx C.hb hn C.hK hG dL_law_1506 ?_
  refine lv_iload C.hx C.hb dL_law_1507 (lv_at hl 0 rfl) ?_
  refine lv_i2l (v := b9.toInt64) C.hx C.hb dL_law_1509 rfl ?_
  refine r_lcz (ho c2) C.hx C.hb dL_law_1510 ?_
  refine r_if_eq (tgt := 1516) C.hx C.hb (by omega) dL_law_1511 (by decide) (fun _ => ?_) (fun c3 => absurd rfl c3)
  refine lv_goto (tgt := 2518) C.hx C.hb dL_law_1516 (by decide) ?_
  refine W.widen (k := cells + 8) (n := slots + 60) (by omega) (by omega) ?_
  exact KK z ad n H locs ls hG hRz (GI_mono (by omega) hIz) (by omega) (lv_sub hl [2, 3, 4, 5, 6, 7] rfl)
set_option maxHeartbeats 1000000 in
set_option maxRecDepth 100000 in
theorem lc_misfits {p : Program} {l : Launch} {e : Env} {s : State} {m : MethodId} {below : List Frame} {meth : Method} {c : Code} {b L : Nat} {xs : Nat → Int32} {D : va_G} {cy : Nat → ClassId} {fz : Nat} {A : Nat → Prop} {H : Heap} {locs : List Loc} {cells slots : Nat} {Q : State → Prop} {ls : Array Slot} {ad : Nat → Nat} {n : Nat} {st : St} (C : LC p l s m meth c b L xs D cy fz A) (k : Nat) (hk : 5 * k + 5 ≤ L) (hG : GH D cy ad n st A s.heap H locs) (hR : RY st) (hI : GI (2048 * (k : Int)) st) (hnl : (n : Int) = 75 + 3 * st 33 0 0) (hl : lv_has ls 9 (llv b ad k)) (hcs : cells + 8 ≤ room_1.cells ∧ slots + 60 ≤ room_1.slots) (KK : LKK p l e s m below meth c b D cy A Q k cells slots) : W p l e room_1 s m #[Value.ref b] below meth c H locs cells slots Q (F0 m 1519 ls []) := by
  have hn : 75 ≤ n := by have := gI_33 hI 0 0; omega
  have hkL := C.hL
  refine lv_aload_n C.hx C.hb dL_law_1519 rfl (lv_at hl 1 rfl) ?_
  refine law_ld C hk (q := 1) (by decide) hG.2.2 hl 0 5 rfl rfl dL_law_1520 dL_law_1521 dL_law_1523 dL_law_1524 dL_law_1525 ?_
  refine law_ld C hk (q := 2) (by decide) hG.2.2 hl 0 5 rfl rfl dL_law_1526 dL_law_1527 dL_law_1529 dL_law_1530 dL_law_1531 ?_
  refine lv_aload_n C.hx C.hb dL_law_1532 rfl (lv_at hl 3 rfl) ?_
  refine gx_goi hG C.hA (vx_runSX (As := [.ref (ad 21), .int (iI (sA xs (5 * k + 1))), .int (iI (sA xs (5 * k + 2))), .ref (ad 31)]) (rest := []) ⟨C.hx, C.hb, C.hml, C.hown, C.hts⟩ (mL_misfits l D cy ad n st _ fz (2048 * (k : Int)) hn hI (by omega) (sA xs (5 * k + 1)) (sA xs (5 * k + 2)) (sA_r xs _) (sA_r xs _) C.hlf hnl hR) (vx_cwSW 4 C.hts gL_law_L_misfits rfl rfl rfl (by decide +kernel) ⟨Nat.le_of_ble_eq_true rfl, Nat.le_of_ble_eq_true rfl⟩) ⟨g_blind, g_pre C.hK hG C.hA C.hN C.hZ⟩ rfl rfl hl.1 rfl (lv_room (Nat.le_of_ble_eq_true rfl)) dL_law_1533 ⟨Nat.le_trans (by omega) hcs.1, Nat.le_trans (by omega) hcs.2⟩) (fun E9 st9 H locs ce9 q9 hp hG hce hcv hcl => hp.elim) (fun r9 st1 H locs hp hG => ?_)
  refine lv_istore (lv' := [(6, .int r9), (0, .ref b), (1, .ref (ad 21)), (2, .ref (ad 0)), (3, .ref (ad 31)), (4, .ref (ad 32)), (5, .int (iI (5 * (k : Int))))]) C.hx C.hb dL_law_1536 hl (by decide) rfl (fun ls hl => ?_)
  refine lv_aload_n C.hx C.hb dL_law_1538 rfl (lv_at hl 3 rfl) ?_
  refine law_ld C hk (q := 1) (by decide) hG.2.2 hl 1 6 rfl rfl dL_law_1539 dL_law_1540 dL_law_1542 dL_law_1543 dL_law_1544 ?_
  refine law_ld C hk (q := 2) (by decide) hG.2.2 hl 1 6 rfl rfl dL_law_1545 dL_law_1546 dL_law_1548 dL_law_1549 dL_law_1550 ?_
  refine g_goi hG C.hA (va_runV (As := [.int (iI (sA xs (5 * k + 1))), .int (iI (sA xs (5 * k + 2)))]) (rest := []) ⟨C.hx, C.hb, C.hml, C.hown, C.hts⟩ (mX6_misfits l D cy ad n st1 _ fz (2048 * (k : Int)) hn hp.2.2 (by omega) (sA xs (5 * k + 1)) (sA xs (5 * k + 2)) (sA_r xs _) (sA_r xs _)) (cwV 2 C.hts gL_law_X6_misfits rfl rfl rfl (by decide +kernel) ⟨Nat.le_of_ble_eq_true rfl, Nat.le_of_ble_eq_true rfl⟩) ⟨g_blind, va_recv C.hK hG.1 (q0 := 0) (ci := 6) rfl ((gw_at (by omega)).trans (by rw [gC_0])), g_pre C.hK hG C.hA C.hN C.hZ⟩ rfl rfl hl.1 rfl (lv_room (Nat.le_of_ble_eq_true rfl)) dL_law_1551 ⟨Nat.le_trans (by omega) hcs.1, Nat.le_trans (by omega) hcs.2⟩) (fun b9 z H locs hq hG => ?_)
  refine lv_istore (lv' := [(7, .int b9), (6, .int r9), (0, .ref b), (1, .ref (ad 21)), (2, .ref (ad 0)), (3, .ref (ad 31)), (4, .ref (ad 32)), (5, .int (iI (5 * (k : Int))))]) C.hx C.hb dL_law_1554 hl (by decide) rfl (fun ls hl => ?_)
  obtain ⟨hr0, ho, hRz, hIz, h33⟩ := rc_misfits (sA xs (5 * k + 1)) (sA xs (5 * k + 2)) hR hI hp hq
  have h00 := gI_0 hIz 0 0
  refine lv_aload_n C.hx C.hb dL_law_1556 rfl (lv_at hl 4 rfl) ?_
  refine g_goi hG C.hA (va_runV (As := []) (rest := []) ⟨C.hx, C.hb, C.hml, C.hown, C.hts⟩ (mX6_thrown l D cy ad n z _ fz _ hn hIz (by omega)) (cwV 0 C.hts gL_law_X6_thrown rfl rfl rfl (by decide +kernel) ⟨Nat.le_of_ble_eq_true rfl, Nat.le_of_ble_eq_true rfl⟩) ⟨g_blind, va_recv C.hK hG.1 (q0 := 0) (ci := 6) rfl ((gw_at (by omega)).trans (by rw [gC_0])), g_pre C.hK hG C.hA C.hN C.hZ⟩ rfl rfl hl.1 rfl (lv_room (Nat.le_of_ble_eq_true rfl)) dL_law_1557 ⟨Nat.le_trans (by omega) hcs.1, Nat.le_trans (by omega) hcs.2⟩) (fun r8 z8 H locs hq8 hG => ?_)
  obtain ⟨hr8, hz8⟩ := hq8
  rw [hz8] at hG
  refine r_asI hr8 ?_
  refine lv_iload C.hx C.hb dL_law_1560 (lv_at hl 1 rfl) ?_
  refine r_asI hr0 ?_
  refine r_icmp_eq (tgt := 1567) C.hx C.hb (by omega) dL_law_1562 (by decide) (fun _ => ?_) (fun c1 => absurd rfl c1)
  refine lv_iload C.hx C.hb dL_law_1567 (lv_at hl 1 rfl) ?_
  refine r_asI hr0 ?_
  refine r_if_ne (tgt := 1584) C.hx C.hb (by omega) dL_law_1569 (by decide) (fun c2 => ?_) (fun c2 => ?_)
  · skip
    refine lv_goto (tgt := 2518) C.hx C.hb dL_law_1584 (by decide) ?_
    refine W.widen (k := cells + 8) (n := slots + 60) (by omega) (by omega) ?_
    exact KK z ad n H locs ls hG hRz (GI_mono (by omega) hIz) (by omega) (lv_sub hl [2, 3, 4, 5, 6, 7] rfl)
  refine lv_aload_n C.hx C.hb dL_law_1572 rfl (lv_at hl 5 rfl) ?_
  refine lv_iconst (v := iI (0)) C.hx C.hb dL_law_1573 rfl ?_
  refine g_lald C.hx C.hb hn C.hK hG dL_law_1574 ?_
  refine lv_iload C.hx C.hb dL_law_1575 (lv_at hl 0 rfl) ?_
  refine lv_i2l (v := b9.toInt64) C.hx C.hb dL_law_1577 rfl ?_
  refine r_lcz (ho c2) C.hx C.hb dL_law_1578 ?_
  refine r_if_eq (tgt := 1584) C.hx C.hb (by omega) dL_law_1579 (by decide) (fun _ => ?_) (fun c3 => absurd rfl c3)
  refine lv_goto (tgt := 2518) C.hx C.hb dL_law_1584 (by decide) ?_
  refine W.widen (k := cells + 8) (n := slots + 60) (by omega) (by omega) ?_
  exact KK z ad n H locs ls hG hRz (GI_mono (by omega) hIz) (by omega) (lv_sub hl [2, 3, 4, 5, 6, 7] rfl)
set_option maxHeartbeats 1000000 in
set_option maxRecDepth 100000 in
theorem lc_misfitsAnew {p : Program} {l : Launch} {e : Env} {s : State} {m : MethodId} {below : List Frame} {meth : Method} {c : Code} {b L : Nat} {xs : Nat → Int32} {D : va_G} {cy : Nat → ClassId} {fz : Nat} {A : Nat → Prop} {H : Heap} {locs : List Loc} {cells slots : Nat} {Q : State → Prop} {ls : Array Slot} {ad : Nat → Nat} {n : Nat} {st : St} (C : LC p l s m meth c b L xs D cy fz A) (k : Nat) (hk : 5 * k + 5 ≤ L) (hG : GH D cy ad n st A s.heap H locs) (hR : RY st) (hI : GI (2048 * (k : Int)) st) (hnl : (n : Int) = 75 + 3 * st 33 0 0) (hl : lv_has ls 9 (llv b ad k)) (hcs : cells + 8 ≤ room_1.cells ∧ slots + 60 ≤ room_1.slots) (KK : LKK p l e s m below meth c b D cy A Q k cells slots) : W p l e room_1 s m #[Value.ref b] below meth c H locs cells slots Q (F0 m 1587 ls []) := by
  have hn : 75 ≤ n := by have := gI_33 hI 0 0; omega
  have hkL := C.hL
  refine lv_aload_n C.hx C.hb dL_law_1587 rfl (lv_at hl 1 rfl) ?_
  refine law_ld C hk (q := 1) (by decide) hG.2.2 hl 0 5 rfl rfl dL_law_1588 dL_law_1589 dL_law_1591 dL_law_1592 dL_law_1593 ?_
  refine law_ld C hk (q := 2) (by decide) hG.2.2 hl 0 5 rfl rfl dL_law_1594 dL_law_1595 dL_law_1597 dL_law_1598 dL_law_1599 ?_
  refine lv_aload_n C.hx C.hb dL_law_1600 rfl (lv_at hl 3 rfl) ?_
  refine gx_goi hG C.hA (vx_runSX (As := [.ref (ad 21), .int (iI (sA xs (5 * k + 1))), .int (iI (sA xs (5 * k + 2))), .ref (ad 31)]) (rest := []) ⟨C.hx, C.hb, C.hml, C.hown, C.hts⟩ (mL_misfitsAnew l D cy ad n st _ fz (2048 * (k : Int)) hn hI (by omega) (sA xs (5 * k + 1)) (sA xs (5 * k + 2)) (sA_r xs _) (sA_r xs _) C.hlf hnl hR) (vx_cwSW 4 C.hts gL_law_L_misfitsAnew rfl rfl rfl (by decide +kernel) ⟨Nat.le_of_ble_eq_true rfl, Nat.le_of_ble_eq_true rfl⟩) ⟨g_blind, g_pre C.hK hG C.hA C.hN C.hZ⟩ rfl rfl hl.1 rfl (lv_room (Nat.le_of_ble_eq_true rfl)) dL_law_1601 ⟨Nat.le_trans (by omega) hcs.1, Nat.le_trans (by omega) hcs.2⟩) (fun E9 st9 H locs ce9 q9 hp hG hce hcv hcl => hp.elim) (fun r9 st1 H locs hp hG => ?_)
  refine lv_istore (lv' := [(6, .int r9), (0, .ref b), (1, .ref (ad 21)), (2, .ref (ad 0)), (3, .ref (ad 31)), (4, .ref (ad 32)), (5, .int (iI (5 * (k : Int))))]) C.hx C.hb dL_law_1604 hl (by decide) rfl (fun ls hl => ?_)
  refine lv_aload_n C.hx C.hb dL_law_1606 rfl (lv_at hl 3 rfl) ?_
  refine law_ld C hk (q := 1) (by decide) hG.2.2 hl 1 6 rfl rfl dL_law_1607 dL_law_1608 dL_law_1610 dL_law_1611 dL_law_1612 ?_
  refine law_ld C hk (q := 2) (by decide) hG.2.2 hl 1 6 rfl rfl dL_law_1613 dL_law_1614 dL_law_1616 dL_law_1617 dL_law_1618 ?_
  refine g_goi hG C.hA (va_runV (As := [.int (iI (sA xs (5 * k + 1))), .int (iI (sA xs (5 * k + 2)))]) (rest := []) ⟨C.hx, C.hb, C.hml, C.hown, C.hts⟩ (mX6_misfitsAnew l D cy ad n st1 _ fz (2048 * (k : Int)) hn hp.2.2 (by omega) (sA xs (5 * k + 1)) (sA xs (5 * k + 2)) (sA_r xs _) (sA_r xs _)) (cwV 2 C.hts gL_law_X6_misfitsAnew rfl rfl rfl (by decide +kernel) ⟨Nat.le_of_ble_eq_true rfl, Nat.le_of_ble_eq_true rfl⟩) ⟨g_blind, va_recv C.hK hG.1 (q0 := 0) (ci := 6) rfl ((gw_at (by omega)).trans (by rw [gC_0])), g_pre C.hK hG C.hA C.hN C.hZ⟩ rfl rfl hl.1 rfl (lv_room (Nat.le_of_ble_eq_true rfl)) dL_law_1619 ⟨Nat.le_trans (by omega) hcs.1, Nat.le_trans (by omega) hcs.2⟩) (fun b9 z H locs hq hG => ?_)
  refine lv_istore (lv' := [(7, .int b9), (6, .int r9), (0, .ref b), (1, .ref (ad 21)), (2, .ref (ad 0)), (3, .ref (ad 31)), (4, .ref (ad 32)), (5, .int (iI (5 * (k : Int))))]) C.hx C.hb dL_law_1622 hl (by decide) rfl (fun ls hl => ?_)
  obtain ⟨hr0, ho, hRz, hIz, h33⟩ := rc_misfitsAnew (sA xs (5 * k + 1)) (sA xs (5 * k + 2)) hR hI hp hq
  have h00 := gI_0 hIz 0 0
  refine lv_aload_n C.hx C.hb dL_law_1624 rfl (lv_at hl 4 rfl) ?_
  refine g_goi hG C.hA (va_runV (As := []) (rest := []) ⟨C.hx, C.hb, C.hml, C.hown, C.hts⟩ (mX6_thrown l D cy ad n z _ fz _ hn hIz (by omega)) (cwV 0 C.hts gL_law_X6_thrown rfl rfl rfl (by decide +kernel) ⟨Nat.le_of_ble_eq_true rfl, Nat.le_of_ble_eq_true rfl⟩) ⟨g_blind, va_recv C.hK hG.1 (q0 := 0) (ci := 6) rfl ((gw_at (by omega)).trans (by rw [gC_0])), g_pre C.hK hG C.hA C.hN C.hZ⟩ rfl rfl hl.1 rfl (lv_room (Nat.le_of_ble_eq_true rfl)) dL_law_1625 ⟨Nat.le_trans (by omega) hcs.1, Nat.le_trans (by omega) hcs.2⟩) (fun r8 z8 H locs hq8 hG => ?_)
  obtain ⟨hr8, hz8⟩ := hq8
  rw [hz8] at hG
  refine r_asI hr8 ?_
  refine lv_iload C.hx C.hb dL_law_1628 (lv_at hl 1 rfl) ?_
  refine r_asI hr0 ?_
  refine r_icmp_eq (tgt := 1635) C.hx C.hb (by omega) dL_law_1630 (by decide) (fun _ => ?_) (fun c1 => absurd rfl c1)
  refine lv_iload C.hx C.hb dL_law_1635 (lv_at hl 1 rfl) ?_
  refine r_asI hr0 ?_
  refine r_if_ne (tgt := 1652) C.hx C.hb (by omega) dL_law_1637 (by decide) (fun c2 => ?_) (fun c2 => ?_)
  · skip
    refine lv_goto (tgt := 2518) C.hx C.hb dL_law_1652 (by decide) ?_
    refine W.widen (k := cells + 8) (n := slots + 60) (by omega) (by omega) ?_
    exact KK z ad n H locs ls hG hRz (GI_mono (by omega) hIz) (by omega) (lv_sub hl [2, 3, 4, 5, 6, 7] rfl)
  refine lv_aload_n C.hx C.hb dL_law_1640 rfl (lv_at hl 5 rfl) ?_
  refine lv_iconst (v := iI (0)) C.hx C.hb dL_law_1641 rfl ?_
  refine g_lald C.hx C.hb hn C.hK hG dL_law_1642 ?_
  refine lv_iload C.hx C.hb dL_law_1643 (lv_at hl 0 rfl) ?_
  refine lv_i2l (v := b9.toInt64) C.hx C.hb dL_law_1645 rfl ?_
  refine r_lcz (ho c2) C.hx C.hb dL_law_1646 ?_
  refine r_if_eq (tgt := 1652) C.hx C.hb (by omega) dL_law_1647 (by decide) (fun _ => ?_) (fun c3 => absurd rfl c3)
  refine lv_goto (tgt := 2518) C.hx C.hb dL_law_1652 (by decide) ?_
  refine W.widen (k := cells + 8) (n := slots + 60) (by omega) (by omega) ?_
  exact KK z ad n H locs ls hG hRz (GI_mono (by omega) hIz) (by omega) (lv_sub hl [2, 3, 4, 5, 6, 7] rfl)
set_option maxHeartbeats 1000000 in
set_option maxRecDepth 100000 in
theorem lc_isTrue {p : Program} {l : Launch} {e : Env} {s : State} {m : MethodId} {below : List Frame} {meth : Method} {c : Code} {b L : Nat} {xs : Nat → Int32} {D : va_G} {cy : Nat → ClassId} {fz : Nat} {A : Nat → Prop} {H : Heap} {locs : List Loc} {cells slots : Nat} {Q : State → Prop} {ls : Array Slot} {ad : Nat → Nat} {n : Nat} {st : St} (C : LC p l s m meth c b L xs D cy fz A) (k : Nat) (hk : 5 * k + 5 ≤ L) (hG : GH D cy ad n st A s.heap H locs) (hR : RY st) (hI : GI (2048 * (k : Int)) st) (hnl : (n : Int) = 75 + 3 * st 33 0 0) (hl : lv_has ls 9 (llv b ad k)) (hcs : cells + 8 ≤ room_1.cells ∧ slots + 60 ≤ room_1.slots) (KK : LKK p l e s m below meth c b D cy A Q k cells slots) : W p l e room_1 s m #[Value.ref b] below meth c H locs cells slots Q (F0 m 1655 ls []) := by
  have hn : 75 ≤ n := by have := gI_33 hI 0 0; omega
  have hkL := C.hL
  refine lv_aload_n C.hx C.hb dL_law_1655 rfl (lv_at hl 1 rfl) ?_
  refine law_ld C hk (q := 1) (by decide) hG.2.2 hl 0 5 rfl rfl dL_law_1656 dL_law_1657 dL_law_1659 dL_law_1660 dL_law_1661 ?_
  refine lv_aload_n C.hx C.hb dL_law_1662 rfl (lv_at hl 3 rfl) ?_
  refine gx_goi hG C.hA (vx_runSX (As := [.ref (ad 21), .int (iI (sA xs (5 * k + 1))), .ref (ad 31)]) (rest := []) ⟨C.hx, C.hb, C.hml, C.hown, C.hts⟩ (mL_isTrue l D cy ad n st _ fz (2048 * (k : Int)) hn hI (by omega) (sA xs (5 * k + 1)) (sA_r xs _) C.hlf hnl hR) (vx_cwSW 3 C.hts gL_law_L_isTrue rfl rfl rfl (by decide +kernel) ⟨Nat.le_of_ble_eq_true rfl, Nat.le_of_ble_eq_true rfl⟩) ⟨g_blind, g_pre C.hK hG C.hA C.hN C.hZ⟩ rfl rfl hl.1 rfl (lv_room (Nat.le_of_ble_eq_true rfl)) dL_law_1663 ⟨Nat.le_trans (by omega) hcs.1, Nat.le_trans (by omega) hcs.2⟩) (fun E9 st9 H locs ce9 q9 hp hG hce hcv hcl => hp.elim) (fun r9 st1 H locs hp hG => ?_)
  refine lv_istore (lv' := [(6, .int r9), (0, .ref b), (1, .ref (ad 21)), (2, .ref (ad 0)), (3, .ref (ad 31)), (4, .ref (ad 32)), (5, .int (iI (5 * (k : Int))))]) C.hx C.hb dL_law_1666 hl (by decide) rfl (fun ls hl => ?_)
  have hml : ∀ (c o : Nat) (i : Int), c < 30 → st1 c o i = st c o i := by
    intro c o i hc
    rcases hp.2.1 with ⟨-, s1, hs1, h1⟩ | ⟨-, h1⟩
    · rw [h1, hs1, ust_c (by omega)]
    · rw [h1]
  have hsi : ∀ j : Int, st1 6 0 j ≤ st1 1 0 0 := fun j => by rw [hml 6 0 j (by decide), hml 1 0 0 (by decide)]; exact hR.2.2.2.2.2.2.2.2.2.1 j
  refine lv_aload_n C.hx C.hb dL_law_1668 rfl (lv_at hl 3 rfl) ?_
  refine law_ld C hk (q := 1) (by decide) hG.2.2 hl 1 6 rfl rfl dL_law_1669 dL_law_1670 dL_law_1672 dL_law_1673 dL_law_1674 ?_
  refine g_goi hG C.hA (va_runV (As := [.int (iI (sA xs (5 * k + 1)))]) (rest := []) ⟨C.hx, C.hb, C.hml, C.hown, C.hts⟩ (mX6_isTrue l D cy ad n st1 _ fz (2048 * (k : Int)) hn hp.2.2 (by omega) (sA xs (5 * k + 1)) (sA_r xs _) hsi) (cwV 1 C.hts gL_law_X6_isTrue rfl rfl rfl (by decide +kernel) ⟨Nat.le_of_ble_eq_true rfl, Nat.le_of_ble_eq_true rfl⟩) ⟨g_blind, va_recv C.hK hG.1 (q0 := 0) (ci := 6) rfl ((gw_at (by omega)).trans (by rw [gC_0])), g_pre C.hK hG C.hA C.hN C.hZ⟩ rfl rfl hl.1 rfl (lv_room (Nat.le_of_ble_eq_true rfl)) dL_law_1675 ⟨Nat.le_trans (by omega) hcs.1, Nat.le_trans (by omega) hcs.2⟩) (fun b9 z H locs hq hG => ?_)
  refine lv_istore (lv' := [(7, .int b9), (6, .int r9), (0, .ref b), (1, .ref (ad 21)), (2, .ref (ad 0)), (3, .ref (ad 31)), (4, .ref (ad 32)), (5, .int (iI (5 * (k : Int))))]) C.hx C.hb dL_law_1678 hl (by decide) rfl (fun ls hl => ?_)
  obtain ⟨hr0, ho, hRz, hIz, h33⟩ := rc_isTrue (sA xs (5 * k + 1)) hR hI hp hq
  have h00 := gI_0 hIz 0 0
  refine lv_aload_n C.hx C.hb dL_law_1680 rfl (lv_at hl 4 rfl) ?_
  refine g_goi hG C.hA (va_runV (As := []) (rest := []) ⟨C.hx, C.hb, C.hml, C.hown, C.hts⟩ (mX6_thrown l D cy ad n z _ fz _ hn hIz (by omega)) (cwV 0 C.hts gL_law_X6_thrown rfl rfl rfl (by decide +kernel) ⟨Nat.le_of_ble_eq_true rfl, Nat.le_of_ble_eq_true rfl⟩) ⟨g_blind, va_recv C.hK hG.1 (q0 := 0) (ci := 6) rfl ((gw_at (by omega)).trans (by rw [gC_0])), g_pre C.hK hG C.hA C.hN C.hZ⟩ rfl rfl hl.1 rfl (lv_room (Nat.le_of_ble_eq_true rfl)) dL_law_1681 ⟨Nat.le_trans (by omega) hcs.1, Nat.le_trans (by omega) hcs.2⟩) (fun r8 z8 H locs hq8 hG => ?_)
  obtain ⟨hr8, hz8⟩ := hq8
  rw [hz8] at hG
  refine r_asI hr8 ?_
  refine lv_iload C.hx C.hb dL_law_1684 (lv_at hl 1 rfl) ?_
  refine r_asI hr0 ?_
  refine r_icmp_eq (tgt := 1691) C.hx C.hb (by omega) dL_law_1686 (by decide) (fun _ => ?_) (fun c1 => absurd rfl c1)
  refine lv_iload C.hx C.hb dL_law_1691 (lv_at hl 1 rfl) ?_
  refine r_asI hr0 ?_
  refine r_if_ne (tgt := 1715) C.hx C.hb (by omega) dL_law_1693 (by decide) (fun c2 => ?_) (fun c2 => ?_)
  · skip
    refine lv_goto (tgt := 2518) C.hx C.hb dL_law_1715 (by decide) ?_
    refine W.widen (k := cells + 8) (n := slots + 60) (by omega) (by omega) ?_
    exact KK z ad n H locs ls hG hRz (GI_mono (by omega) hIz) (by omega) (lv_sub hl [2, 3, 4, 5, 6, 7] rfl)
  refine lv_aload_n C.hx C.hb dL_law_1696 rfl (lv_at hl 5 rfl) ?_
  refine lv_iconst (v := iI (0)) C.hx C.hb dL_law_1697 rfl ?_
  refine g_lald C.hx C.hb hn C.hK hG dL_law_1698 ?_
  refine lv_iload C.hx C.hb dL_law_1699 (lv_at hl 0 rfl) ?_
  refine law_b01 C.hx C.hb (x := b9) dL_law_1701 dL_law_1704 dL_law_1705 dL_law_1708 ?_
  refine r_lcz (ho c2) C.hx C.hb dL_law_1709 ?_
  refine r_if_eq (tgt := 1715) C.hx C.hb (by omega) dL_law_1710 (by decide) (fun _ => ?_) (fun c3 => absurd rfl c3)
  refine lv_goto (tgt := 2518) C.hx C.hb dL_law_1715 (by decide) ?_
  refine W.widen (k := cells + 8) (n := slots + 60) (by omega) (by omega) ?_
  exact KK z ad n H locs ls hG hRz (GI_mono (by omega) hIz) (by omega) (lv_sub hl [2, 3, 4, 5, 6, 7] rfl)
set_option maxHeartbeats 1000000 in
set_option maxRecDepth 100000 in
theorem lc_answer {p : Program} {l : Launch} {e : Env} {s : State} {m : MethodId} {below : List Frame} {meth : Method} {c : Code} {b L : Nat} {xs : Nat → Int32} {D : va_G} {cy : Nat → ClassId} {fz : Nat} {A : Nat → Prop} {H : Heap} {locs : List Loc} {cells slots : Nat} {Q : State → Prop} {ls : Array Slot} {ad : Nat → Nat} {n : Nat} {st : St} (C : LC p l s m meth c b L xs D cy fz A) (k : Nat) (hk : 5 * k + 5 ≤ L) (hG : GH D cy ad n st A s.heap H locs) (hR : RY st) (hI : GI (2048 * (k : Int)) st) (hnl : (n : Int) = 75 + 3 * st 33 0 0) (hl : lv_has ls 9 (llv b ad k)) (hcs : cells + 8 ≤ room_1.cells ∧ slots + 60 ≤ room_1.slots) (KK : LKK p l e s m below meth c b D cy A Q k cells slots) : W p l e room_1 s m #[Value.ref b] below meth c H locs cells slots Q (F0 m 1718 ls []) := by
  have hn : 75 ≤ n := by have := gI_33 hI 0 0; omega
  have hkL := C.hL
  refine lv_aload_n C.hx C.hb dL_law_1718 rfl (lv_at hl 1 rfl) ?_
  refine law_ld C hk (q := 1) (by decide) hG.2.2 hl 0 5 rfl rfl dL_law_1719 dL_law_1720 dL_law_1722 dL_law_1723 dL_law_1724 ?_
  refine law_ld C hk (q := 2) (by decide) hG.2.2 hl 0 5 rfl rfl dL_law_1725 dL_law_1726 dL_law_1728 dL_law_1729 dL_law_1730 ?_
  refine lv_i2l (v := (iI (sA xs (5 * k + 2))).toInt64) C.hx C.hb dL_law_1731 rfl ?_
  refine lv_bipush (v := iI (32)) C.hx C.hb dL_law_1732 (by decide +kernel) ?_
  refine lv_lshl (v := (iI (sA xs (5 * k + 2))).toInt64 <<< ((iI (32)).toInt64 &&& 63)) C.hx C.hb dL_law_1734 rfl ?_
  refine law_ld C hk (q := 3) (by decide) hG.2.2 hl 0 5 rfl rfl dL_law_1735 dL_law_1736 dL_law_1738 dL_law_1739 dL_law_1740 ?_
  refine lv_i2l (v := (iI (sA xs (5 * k + 3))).toInt64) C.hx C.hb dL_law_1741 rfl ?_
  refine lv_ldc2 C.hx C.hb C.hown (C.hts (.constantLong RL 202 (4294967295)) (by decide +kernel)) dL_law_1742 ?_
  refine lv_land C.hx C.hb dL_law_1745 ?_
  refine lv_lor C.hx C.hb dL_law_1746 ?_
  obtain ⟨vec, hvec, hv9⟩ := lN_ex ((iI (sA xs (5 * k + 2))).toInt64 <<< ((iI (32)).toInt64 &&& 63) ||| (iI (sA xs (5 * k + 3))).toInt64 &&& 4294967295)
  refine r_asL (y := lN vec) hv9 ?_
  refine law_ld C hk (q := 4) (by decide) hG.2.2 hl 0 5 rfl rfl dL_law_1747 dL_law_1748 dL_law_1750 dL_law_1751 dL_law_1752 ?_
  refine lv_aload_n C.hx C.hb dL_law_1753 rfl (lv_at hl 3 rfl) ?_
  refine gx_goi hG C.hA (vx_runSX (As := [.ref (ad 21), .int (iI (sA xs (5 * k + 1))), .long (lN vec), .int (iI (sA xs (5 * k + 4))), .ref (ad 31)]) (rest := []) ⟨C.hx, C.hb, C.hml, C.hown, C.hts⟩ (mL_answer l D cy ad n st _ fz (2048 * (k : Int)) hn hI (by omega) (sA xs (5 * k + 1)) (vec) (sA xs (5 * k + 4)) (sA_r xs _) (sA_r xs _) C.hlf hnl hR hvec) (vx_cwSW 5 C.hts gL_law_L_answer rfl rfl rfl (by decide +kernel) ⟨Nat.le_of_ble_eq_true rfl, Nat.le_of_ble_eq_true rfl⟩) ⟨g_blind, g_pre C.hK hG C.hA C.hN C.hZ⟩ rfl rfl hl.1 rfl (lv_room (Nat.le_of_ble_eq_true rfl)) dL_law_1754 ⟨Nat.le_trans (by omega) hcs.1, Nat.le_trans (by omega) hcs.2⟩) (fun E9 st9 H locs ce9 q9 hp hG hce hcv hcl => hp.elim) (fun r9 st1 H locs hp hG => ?_)
  refine lv_istore (lv' := [(6, .int r9), (0, .ref b), (1, .ref (ad 21)), (2, .ref (ad 0)), (3, .ref (ad 31)), (4, .ref (ad 32)), (5, .int (iI (5 * (k : Int))))]) C.hx C.hb dL_law_1757 hl (by decide) rfl (fun ls hl => ?_)
  have hml : ∀ (c o : Nat) (i : Int), c < 30 → st1 c o i = st c o i := by
    intro c o i hc
    rcases hp.2.1 with ⟨-, s1, hs1, h1⟩ | ⟨-, h1⟩
    · rw [h1, hs1, ust_c (by omega)]
    · rw [h1]
  have hsi : ∀ j : Int, st1 6 0 j ≤ st1 1 0 0 := fun j => by rw [hml 6 0 j (by decide), hml 1 0 0 (by decide)]; exact hR.2.2.2.2.2.2.2.2.2.1 j
  refine lv_aload_n C.hx C.hb dL_law_1759 rfl (lv_at hl 3 rfl) ?_
  refine law_ld C hk (q := 1) (by decide) hG.2.2 hl 1 6 rfl rfl dL_law_1760 dL_law_1761 dL_law_1763 dL_law_1764 dL_law_1765 ?_
  refine law_ld C hk (q := 2) (by decide) hG.2.2 hl 1 6 rfl rfl dL_law_1766 dL_law_1767 dL_law_1769 dL_law_1770 dL_law_1771 ?_
  refine lv_i2l (v := (iI (sA xs (5 * k + 2))).toInt64) C.hx C.hb dL_law_1772 rfl ?_
  refine lv_bipush (v := iI (32)) C.hx C.hb dL_law_1773 (by decide +kernel) ?_
  refine lv_lshl (v := (iI (sA xs (5 * k + 2))).toInt64 <<< ((iI (32)).toInt64 &&& 63)) C.hx C.hb dL_law_1775 rfl ?_
  refine law_ld C hk (q := 3) (by decide) hG.2.2 hl 1 6 rfl rfl dL_law_1776 dL_law_1777 dL_law_1779 dL_law_1780 dL_law_1781 ?_
  refine lv_i2l (v := (iI (sA xs (5 * k + 3))).toInt64) C.hx C.hb dL_law_1782 rfl ?_
  refine lv_ldc2 C.hx C.hb C.hown (C.hts (.constantLong RL 202 (4294967295)) (by decide +kernel)) dL_law_1783 ?_
  refine lv_land C.hx C.hb dL_law_1786 ?_
  refine lv_lor C.hx C.hb dL_law_1787 ?_
  refine r_asL (y := lN vec) hv9 ?_
  refine law_ld C hk (q := 4) (by decide) hG.2.2 hl 1 6 rfl rfl dL_law_1788 dL_law_1789 dL_law_1791 dL_law_1792 dL_law_1793 ?_
  refine g_goi hG C.hA (va_runV (As := [.int (iI (sA xs (5 * k + 1))), .long (lN vec), .int (iI (sA xs (5 * k + 4)))]) (rest := []) ⟨C.hx, C.hb, C.hml, C.hown, C.hts⟩ (mX6_answer l D cy ad n st1 _ fz (2048 * (k : Int)) hn hp.2.2 (by omega) (sA xs (5 * k + 1)) (vec) (sA xs (5 * k + 4)) (sA_r xs _) (sA_r xs _) hvec hsi) (cwV 3 C.hts gL_law_X6_answer rfl rfl rfl (by decide +kernel) ⟨Nat.le_of_ble_eq_true rfl, Nat.le_of_ble_eq_true rfl⟩) ⟨g_blind, va_recv C.hK hG.1 (q0 := 0) (ci := 6) rfl ((gw_at (by omega)).trans (by rw [gC_0])), g_pre C.hK hG C.hA C.hN C.hZ⟩ rfl rfl hl.1 rfl (lv_room (Nat.le_of_ble_eq_true rfl)) dL_law_1794 ⟨Nat.le_trans (by omega) hcs.1, Nat.le_trans (by omega) hcs.2⟩) (fun b9 z H locs hq hG => ?_)
  refine lv_istore (lv' := [(7, .int b9), (6, .int r9), (0, .ref b), (1, .ref (ad 21)), (2, .ref (ad 0)), (3, .ref (ad 31)), (4, .ref (ad 32)), (5, .int (iI (5 * (k : Int))))]) C.hx C.hb dL_law_1797 hl (by decide) rfl (fun ls hl => ?_)
  obtain ⟨hr0, ho, hRz, hIz, h33⟩ := rc_answer (sA xs (5 * k + 1)) vec (sA xs (5 * k + 4)) hR hI hp hq
  have h00 := gI_0 hIz 0 0
  refine lv_aload_n C.hx C.hb dL_law_1799 rfl (lv_at hl 4 rfl) ?_
  refine g_goi hG C.hA (va_runV (As := []) (rest := []) ⟨C.hx, C.hb, C.hml, C.hown, C.hts⟩ (mX6_thrown l D cy ad n z _ fz _ hn hIz (by omega)) (cwV 0 C.hts gL_law_X6_thrown rfl rfl rfl (by decide +kernel) ⟨Nat.le_of_ble_eq_true rfl, Nat.le_of_ble_eq_true rfl⟩) ⟨g_blind, va_recv C.hK hG.1 (q0 := 0) (ci := 6) rfl ((gw_at (by omega)).trans (by rw [gC_0])), g_pre C.hK hG C.hA C.hN C.hZ⟩ rfl rfl hl.1 rfl (lv_room (Nat.le_of_ble_eq_true rfl)) dL_law_1800 ⟨Nat.le_trans (by omega) hcs.1, Nat.le_trans (by omega) hcs.2⟩) (fun r8 z8 H locs hq8 hG => ?_)
  obtain ⟨hr8, hz8⟩ := hq8
  rw [hz8] at hG
  refine r_asI hr8 ?_
  refine lv_iload C.hx C.hb dL_law_1803 (lv_at hl 1 rfl) ?_
  refine r_asI hr0 ?_
  refine r_icmp_eq (tgt := 1810) C.hx C.hb (by omega) dL_law_1805 (by decide) (fun _ => ?_) (fun c1 => absurd rfl c1)
  refine lv_iload C.hx C.hb dL_law_1810 (lv_at hl 1 rfl) ?_
  refine r_asI hr0 ?_
  refine r_if_ne (tgt := 1827) C.hx C.hb (by omega) dL_law_1812 (by decide) (fun c2 => ?_) (fun c2 => ?_)
  · skip
    refine lv_goto (tgt := 2518) C.hx C.hb dL_law_1827 (by decide) ?_
    refine W.widen (k := cells + 8) (n := slots + 60) (by omega) (by omega) ?_
    exact KK z ad n H locs ls hG hRz (GI_mono (by omega) hIz) (by omega) (lv_sub hl [2, 3, 4, 5, 6, 7] rfl)
  refine lv_aload_n C.hx C.hb dL_law_1815 rfl (lv_at hl 5 rfl) ?_
  refine lv_iconst (v := iI (0)) C.hx C.hb dL_law_1816 rfl ?_
  refine g_lald C.hx C.hb hn C.hK hG dL_law_1817 ?_
  refine lv_iload C.hx C.hb dL_law_1818 (lv_at hl 0 rfl) ?_
  refine lv_i2l (v := b9.toInt64) C.hx C.hb dL_law_1820 rfl ?_
  refine r_lcz (ho c2) C.hx C.hb dL_law_1821 ?_
  refine r_if_eq (tgt := 1827) C.hx C.hb (by omega) dL_law_1822 (by decide) (fun _ => ?_) (fun c3 => absurd rfl c3)
  refine lv_goto (tgt := 2518) C.hx C.hb dL_law_1827 (by decide) ?_
  refine W.widen (k := cells + 8) (n := slots + 60) (by omega) (by omega) ?_
  exact KK z ad n H locs ls hG hRz (GI_mono (by omega) hIz) (by omega) (lv_sub hl [2, 3, 4, 5, 6, 7] rfl)
set_option maxHeartbeats 1000000 in
set_option maxRecDepth 100000 in
theorem lc_ideal {p : Program} {l : Launch} {e : Env} {s : State} {m : MethodId} {below : List Frame} {meth : Method} {c : Code} {b L : Nat} {xs : Nat → Int32} {D : va_G} {cy : Nat → ClassId} {fz : Nat} {A : Nat → Prop} {H : Heap} {locs : List Loc} {cells slots : Nat} {Q : State → Prop} {ls : Array Slot} {ad : Nat → Nat} {n : Nat} {st : St} (C : LC p l s m meth c b L xs D cy fz A) (k : Nat) (hk : 5 * k + 5 ≤ L) (hG : GH D cy ad n st A s.heap H locs) (hR : RY st) (hI : GI (2048 * (k : Int)) st) (hnl : (n : Int) = 75 + 3 * st 33 0 0) (hl : lv_has ls 9 (llv b ad k)) (hcs : cells + 8 ≤ room_1.cells ∧ slots + 60 ≤ room_1.slots) (KK : LKK p l e s m below meth c b D cy A Q k cells slots) : W p l e room_1 s m #[Value.ref b] below meth c H locs cells slots Q (F0 m 1830 ls []) := by
  have hn : 75 ≤ n := by have := gI_33 hI 0 0; omega
  have hkL := C.hL
  refine lv_aload_n C.hx C.hb dL_law_1830 rfl (lv_at hl 1 rfl) ?_
  refine law_ld C hk (q := 1) (by decide) hG.2.2 hl 0 5 rfl rfl dL_law_1831 dL_law_1832 dL_law_1834 dL_law_1835 dL_law_1836 ?_
  refine law_ld C hk (q := 2) (by decide) hG.2.2 hl 0 5 rfl rfl dL_law_1837 dL_law_1838 dL_law_1840 dL_law_1841 dL_law_1842 ?_
  refine lv_i2l (v := (iI (sA xs (5 * k + 2))).toInt64) C.hx C.hb dL_law_1843 rfl ?_
  refine lv_bipush (v := iI (32)) C.hx C.hb dL_law_1844 (by decide +kernel) ?_
  refine lv_lshl (v := (iI (sA xs (5 * k + 2))).toInt64 <<< ((iI (32)).toInt64 &&& 63)) C.hx C.hb dL_law_1846 rfl ?_
  refine law_ld C hk (q := 3) (by decide) hG.2.2 hl 0 5 rfl rfl dL_law_1847 dL_law_1848 dL_law_1850 dL_law_1851 dL_law_1852 ?_
  refine lv_i2l (v := (iI (sA xs (5 * k + 3))).toInt64) C.hx C.hb dL_law_1853 rfl ?_
  refine lv_ldc2 C.hx C.hb C.hown (C.hts (.constantLong RL 202 (4294967295)) (by decide +kernel)) dL_law_1854 ?_
  refine lv_land C.hx C.hb dL_law_1857 ?_
  refine lv_lor C.hx C.hb dL_law_1858 ?_
  obtain ⟨vec, hvec, hv9⟩ := lN_ex ((iI (sA xs (5 * k + 2))).toInt64 <<< ((iI (32)).toInt64 &&& 63) ||| (iI (sA xs (5 * k + 3))).toInt64 &&& 4294967295)
  refine r_asL (y := lN vec) hv9 ?_
  refine law_ld C hk (q := 4) (by decide) hG.2.2 hl 0 5 rfl rfl dL_law_1859 dL_law_1860 dL_law_1862 dL_law_1863 dL_law_1864 ?_
  refine lv_aload_n C.hx C.hb dL_law_1865 rfl (lv_at hl 3 rfl) ?_
  refine gx_goi hG C.hA (vx_runSX (As := [.ref (ad 21), .int (iI (sA xs (5 * k + 1))), .long (lN vec), .int (iI (sA xs (5 * k + 4))), .ref (ad 31)]) (rest := []) ⟨C.hx, C.hb, C.hml, C.hown, C.hts⟩ (mL_ideal l D cy ad n st _ fz (2048 * (k : Int)) hn hI (by omega) (sA xs (5 * k + 1)) (vec) (sA xs (5 * k + 4)) (sA_r xs _) (sA_r xs _) C.hlf hnl hR hvec) (vx_cwSW 5 C.hts gL_law_L_ideal rfl rfl rfl (by decide +kernel) ⟨Nat.le_of_ble_eq_true rfl, Nat.le_of_ble_eq_true rfl⟩) ⟨g_blind, g_pre C.hK hG C.hA C.hN C.hZ⟩ rfl rfl hl.1 rfl (lv_room (Nat.le_of_ble_eq_true rfl)) dL_law_1866 ⟨Nat.le_trans (by omega) hcs.1, Nat.le_trans (by omega) hcs.2⟩) (fun E9 st9 H locs ce9 q9 hp hG hce hcv hcl => hp.elim) (fun r9 st1 H locs hp hG => ?_)
  refine lv_istore (lv' := [(6, .int r9), (0, .ref b), (1, .ref (ad 21)), (2, .ref (ad 0)), (3, .ref (ad 31)), (4, .ref (ad 32)), (5, .int (iI (5 * (k : Int))))]) C.hx C.hb dL_law_1869 hl (by decide) rfl (fun ls hl => ?_)
  refine lv_aload_n C.hx C.hb dL_law_1871 rfl (lv_at hl 3 rfl) ?_
  refine law_ld C hk (q := 1) (by decide) hG.2.2 hl 1 6 rfl rfl dL_law_1872 dL_law_1873 dL_law_1875 dL_law_1876 dL_law_1877 ?_
  refine law_ld C hk (q := 2) (by decide) hG.2.2 hl 1 6 rfl rfl dL_law_1878 dL_law_1879 dL_law_1881 dL_law_1882 dL_law_1883 ?_
  refine lv_i2l (v := (iI (sA xs (5 * k + 2))).toInt64) C.hx C.hb dL_law_1884 rfl ?_
  refine lv_bipush (v := iI (32)) C.hx C.hb dL_law_1885 (by decide +kernel) ?_
  refine lv_lshl (v := (iI (sA xs (5 * k + 2))).toInt64 <<< ((iI (32)).toInt64 &&& 63)) C.hx C.hb dL_law_1887 rfl ?_
  refine law_ld C hk (q := 3) (by decide) hG.2.2 hl 1 6 rfl rfl dL_law_1888 dL_law_1889 dL_law_1891 dL_law_1892 dL_law_1893 ?_
  refine lv_i2l (v := (iI (sA xs (5 * k + 3))).toInt64) C.hx C.hb dL_law_1894 rfl ?_
  refine lv_ldc2 C.hx C.hb C.hown (C.hts (.constantLong RL 202 (4294967295)) (by decide +kernel)) dL_law_1895 ?_
  refine lv_land C.hx C.hb dL_law_1898 ?_
  refine lv_lor C.hx C.hb dL_law_1899 ?_
  refine r_asL (y := lN vec) hv9 ?_
  refine law_ld C hk (q := 4) (by decide) hG.2.2 hl 1 6 rfl rfl dL_law_1900 dL_law_1901 dL_law_1903 dL_law_1904 dL_law_1905 ?_
  refine g_goi hG C.hA (va_runV (As := [.int (iI (sA xs (5 * k + 1))), .long (lN vec), .int (iI (sA xs (5 * k + 4)))]) (rest := []) ⟨C.hx, C.hb, C.hml, C.hown, C.hts⟩ (mX6_ideal l D cy ad n st1 _ fz (2048 * (k : Int)) hn hp.2.2 (by omega) (sA xs (5 * k + 1)) (vec) (sA xs (5 * k + 4)) (sA_r xs _) (sA_r xs _) hvec) (cwV 3 C.hts gL_law_X6_ideal rfl rfl rfl (by decide +kernel) ⟨Nat.le_of_ble_eq_true rfl, Nat.le_of_ble_eq_true rfl⟩) ⟨g_blind, va_recv C.hK hG.1 (q0 := 0) (ci := 6) rfl ((gw_at (by omega)).trans (by rw [gC_0])), g_pre C.hK hG C.hA C.hN C.hZ⟩ rfl rfl hl.1 rfl (lv_room (Nat.le_of_ble_eq_true rfl)) dL_law_1906 ⟨Nat.le_trans (by omega) hcs.1, Nat.le_trans (by omega) hcs.2⟩) (fun b9 z H locs hq hG => ?_)
  refine lv_istore (lv' := [(7, .int b9), (6, .int r9), (0, .ref b), (1, .ref (ad 21)), (2, .ref (ad 0)), (3, .ref (ad 31)), (4, .ref (ad 32)), (5, .int (iI (5 * (k : Int))))]) C.hx C.hb dL_law_1909 hl (by decide) rfl (fun ls hl => ?_)
  obtain ⟨hr0, ho, hRz, hIz, h33⟩ := rc_ideal (sA xs (5 * k + 1)) vec (sA xs (5 * k + 4)) hR hI hp hq
  have h00 := gI_0 hIz 0 0
  refine lv_aload_n C.hx C.hb dL_law_1911 rfl (lv_at hl 4 rfl) ?_
  refine g_goi hG C.hA (va_runV (As := []) (rest := []) ⟨C.hx, C.hb, C.hml, C.hown, C.hts⟩ (mX6_thrown l D cy ad n z _ fz _ hn hIz (by omega)) (cwV 0 C.hts gL_law_X6_thrown rfl rfl rfl (by decide +kernel) ⟨Nat.le_of_ble_eq_true rfl, Nat.le_of_ble_eq_true rfl⟩) ⟨g_blind, va_recv C.hK hG.1 (q0 := 0) (ci := 6) rfl ((gw_at (by omega)).trans (by rw [gC_0])), g_pre C.hK hG C.hA C.hN C.hZ⟩ rfl rfl hl.1 rfl (lv_room (Nat.le_of_ble_eq_true rfl)) dL_law_1912 ⟨Nat.le_trans (by omega) hcs.1, Nat.le_trans (by omega) hcs.2⟩) (fun r8 z8 H locs hq8 hG => ?_)
  obtain ⟨hr8, hz8⟩ := hq8
  rw [hz8] at hG
  refine r_asI hr8 ?_
  refine lv_iload C.hx C.hb dL_law_1915 (lv_at hl 1 rfl) ?_
  refine r_asI hr0 ?_
  refine r_icmp_eq (tgt := 1922) C.hx C.hb (by omega) dL_law_1917 (by decide) (fun _ => ?_) (fun c1 => absurd rfl c1)
  refine lv_iload C.hx C.hb dL_law_1922 (lv_at hl 1 rfl) ?_
  refine r_asI hr0 ?_
  refine r_if_ne (tgt := 1939) C.hx C.hb (by omega) dL_law_1924 (by decide) (fun c2 => ?_) (fun c2 => ?_)
  · skip
    refine lv_goto (tgt := 2518) C.hx C.hb dL_law_1939 (by decide) ?_
    refine W.widen (k := cells + 8) (n := slots + 60) (by omega) (by omega) ?_
    exact KK z ad n H locs ls hG hRz (GI_mono (by omega) hIz) (by omega) (lv_sub hl [2, 3, 4, 5, 6, 7] rfl)
  refine lv_aload_n C.hx C.hb dL_law_1927 rfl (lv_at hl 5 rfl) ?_
  refine lv_iconst (v := iI (0)) C.hx C.hb dL_law_1928 rfl ?_
  refine g_lald C.hx C.hb hn C.hK hG dL_law_1929 ?_
  refine lv_iload C.hx C.hb dL_law_1930 (lv_at hl 0 rfl) ?_
  refine lv_i2l (v := b9.toInt64) C.hx C.hb dL_law_1932 rfl ?_
  refine r_lcz (ho c2) C.hx C.hb dL_law_1933 ?_
  refine r_if_eq (tgt := 1939) C.hx C.hb (by omega) dL_law_1934 (by decide) (fun _ => ?_) (fun c3 => absurd rfl c3)
  refine lv_goto (tgt := 2518) C.hx C.hb dL_law_1939 (by decide) ?_
  refine W.widen (k := cells + 8) (n := slots + 60) (by omega) (by omega) ?_
  exact KK z ad n H locs ls hG hRz (GI_mono (by omega) hIz) (by omega) (lv_sub hl [2, 3, 4, 5, 6, 7] rfl)
set_option maxHeartbeats 1000000 in
set_option maxRecDepth 100000 in
theorem lc_bound {p : Program} {l : Launch} {e : Env} {s : State} {m : MethodId} {below : List Frame} {meth : Method} {c : Code} {b L : Nat} {xs : Nat → Int32} {D : va_G} {cy : Nat → ClassId} {fz : Nat} {A : Nat → Prop} {H : Heap} {locs : List Loc} {cells slots : Nat} {Q : State → Prop} {ls : Array Slot} {ad : Nat → Nat} {n : Nat} {st : St} (C : LC p l s m meth c b L xs D cy fz A) (k : Nat) (hk : 5 * k + 5 ≤ L) (hG : GH D cy ad n st A s.heap H locs) (hR : RY st) (hI : GI (2048 * (k : Int)) st) (hnl : (n : Int) = 75 + 3 * st 33 0 0) (hl : lv_has ls 9 (llv b ad k)) (hcs : cells + 8 ≤ room_1.cells ∧ slots + 60 ≤ room_1.slots) (KK : LKK p l e s m below meth c b D cy A Q k cells slots) : W p l e room_1 s m #[Value.ref b] below meth c H locs cells slots Q (F0 m 1942 ls []) := by
  have hn : 75 ≤ n := by have := gI_33 hI 0 0; omega
  have hkL := C.hL
  refine lv_aload_n C.hx C.hb dL_law_1942 rfl (lv_at hl 1 rfl) ?_
  refine law_ld C hk (q := 1) (by decide) hG.2.2 hl 0 5 rfl rfl dL_law_1943 dL_law_1944 dL_law_1946 dL_law_1947 dL_law_1948 ?_
  refine law_ld C hk (q := 2) (by decide) hG.2.2 hl 0 5 rfl rfl dL_law_1949 dL_law_1950 dL_law_1952 dL_law_1953 dL_law_1954 ?_
  refine law_ld C hk (q := 3) (by decide) hG.2.2 hl 0 5 rfl rfl dL_law_1955 dL_law_1956 dL_law_1958 dL_law_1959 dL_law_1960 ?_
  refine law_bool C.hx C.hb (sA_r xs _) dL_law_1961 dL_law_1964 dL_law_1965 dL_law_1968 ?_
  refine lv_aload_n C.hx C.hb dL_law_1969 rfl (lv_at hl 3 rfl) ?_
  refine gx_goi hG C.hA (vx_runSX (As := [.ref (ad 21), .int (iI (sA xs (5 * k + 1))), .int (iI (sA xs (5 * k + 2))), .int (iI (if sA xs (5 * k + 3) = 0 then 0 else 1)), .ref (ad 31)]) (rest := []) ⟨C.hx, C.hb, C.hml, C.hown, C.hts⟩ (mL_bound l D cy ad n st _ fz (2048 * (k : Int)) hn hI (by omega) (sA xs (5 * k + 1)) (sA xs (5 * k + 2)) (if sA xs (5 * k + 3) = 0 then 0 else 1) (sA_r xs _) (sA_r xs _) bR C.hlf hnl hR bZ) (vx_cwSW 5 C.hts gL_law_L_bound rfl rfl rfl (by decide +kernel) ⟨Nat.le_of_ble_eq_true rfl, Nat.le_of_ble_eq_true rfl⟩) ⟨g_blind, g_pre C.hK hG C.hA C.hN C.hZ⟩ rfl rfl hl.1 rfl (lv_room (Nat.le_of_ble_eq_true rfl)) dL_law_1970 ⟨Nat.le_trans (by omega) hcs.1, Nat.le_trans (by omega) hcs.2⟩) (fun E9 st9 H locs ce9 q9 hp hG hce hcv hcl => hp.elim) (fun r9 st1 H locs hp hG => ?_)
  refine lv_istore (lv' := [(6, .int r9), (0, .ref b), (1, .ref (ad 21)), (2, .ref (ad 0)), (3, .ref (ad 31)), (4, .ref (ad 32)), (5, .int (iI (5 * (k : Int))))]) C.hx C.hb dL_law_1973 hl (by decide) rfl (fun ls hl => ?_)
  refine lv_aload_n C.hx C.hb dL_law_1975 rfl (lv_at hl 3 rfl) ?_
  refine law_ld C hk (q := 1) (by decide) hG.2.2 hl 1 6 rfl rfl dL_law_1976 dL_law_1977 dL_law_1979 dL_law_1980 dL_law_1981 ?_
  refine law_ld C hk (q := 2) (by decide) hG.2.2 hl 1 6 rfl rfl dL_law_1982 dL_law_1983 dL_law_1985 dL_law_1986 dL_law_1987 ?_
  refine law_ld C hk (q := 3) (by decide) hG.2.2 hl 1 6 rfl rfl dL_law_1988 dL_law_1989 dL_law_1991 dL_law_1992 dL_law_1993 ?_
  refine law_bool C.hx C.hb (sA_r xs _) dL_law_1994 dL_law_1997 dL_law_1998 dL_law_2001 ?_
  refine g_goi hG C.hA (va_runV (As := [.int (iI (sA xs (5 * k + 1))), .int (iI (sA xs (5 * k + 2))), .int (iI (if sA xs (5 * k + 3) = 0 then 0 else 1))]) (rest := []) ⟨C.hx, C.hb, C.hml, C.hown, C.hts⟩ (mX6_bound l D cy ad n st1 _ fz (2048 * (k : Int)) hn hp.2.2 (by omega) (sA xs (5 * k + 1)) (sA xs (5 * k + 2)) (if sA xs (5 * k + 3) = 0 then 0 else 1) (sA_r xs _) (sA_r xs _) bR bZ) (cwV 3 C.hts gL_law_X6_bound rfl rfl rfl (by decide +kernel) ⟨Nat.le_of_ble_eq_true rfl, Nat.le_of_ble_eq_true rfl⟩) ⟨g_blind, va_recv C.hK hG.1 (q0 := 0) (ci := 6) rfl ((gw_at (by omega)).trans (by rw [gC_0])), g_pre C.hK hG C.hA C.hN C.hZ⟩ rfl rfl hl.1 rfl (lv_room (Nat.le_of_ble_eq_true rfl)) dL_law_2002 ⟨Nat.le_trans (by omega) hcs.1, Nat.le_trans (by omega) hcs.2⟩) (fun b9 z H locs hq hG => ?_)
  refine lv_istore (lv' := [(7, .int b9), (6, .int r9), (0, .ref b), (1, .ref (ad 21)), (2, .ref (ad 0)), (3, .ref (ad 31)), (4, .ref (ad 32)), (5, .int (iI (5 * (k : Int))))]) C.hx C.hb dL_law_2005 hl (by decide) rfl (fun ls hl => ?_)
  obtain ⟨hr0, ho, hRz, hIz, h33⟩ := rc_bound (sA xs (5 * k + 1)) (sA xs (5 * k + 2)) (if sA xs (5 * k + 3) = 0 then 0 else 1) hR hI hp hq
  have h00 := gI_0 hIz 0 0
  refine lv_aload_n C.hx C.hb dL_law_2007 rfl (lv_at hl 4 rfl) ?_
  refine g_goi hG C.hA (va_runV (As := []) (rest := []) ⟨C.hx, C.hb, C.hml, C.hown, C.hts⟩ (mX6_thrown l D cy ad n z _ fz _ hn hIz (by omega)) (cwV 0 C.hts gL_law_X6_thrown rfl rfl rfl (by decide +kernel) ⟨Nat.le_of_ble_eq_true rfl, Nat.le_of_ble_eq_true rfl⟩) ⟨g_blind, va_recv C.hK hG.1 (q0 := 0) (ci := 6) rfl ((gw_at (by omega)).trans (by rw [gC_0])), g_pre C.hK hG C.hA C.hN C.hZ⟩ rfl rfl hl.1 rfl (lv_room (Nat.le_of_ble_eq_true rfl)) dL_law_2008 ⟨Nat.le_trans (by omega) hcs.1, Nat.le_trans (by omega) hcs.2⟩) (fun r8 z8 H locs hq8 hG => ?_)
  obtain ⟨hr8, hz8⟩ := hq8
  rw [hz8] at hG
  refine r_asI hr8 ?_
  refine lv_iload C.hx C.hb dL_law_2011 (lv_at hl 1 rfl) ?_
  refine r_asI hr0 ?_
  refine r_icmp_eq (tgt := 2018) C.hx C.hb (by omega) dL_law_2013 (by decide) (fun _ => ?_) (fun c1 => absurd rfl c1)
  refine lv_iload C.hx C.hb dL_law_2018 (lv_at hl 1 rfl) ?_
  refine r_asI hr0 ?_
  refine r_if_ne (tgt := 2035) C.hx C.hb (by omega) dL_law_2020 (by decide) (fun c2 => ?_) (fun c2 => ?_)
  · skip
    refine lv_goto (tgt := 2518) C.hx C.hb dL_law_2035 (by decide) ?_
    refine W.widen (k := cells + 8) (n := slots + 60) (by omega) (by omega) ?_
    exact KK z ad n H locs ls hG hRz (GI_mono (by omega) hIz) (by omega) (lv_sub hl [2, 3, 4, 5, 6, 7] rfl)
  refine lv_aload_n C.hx C.hb dL_law_2023 rfl (lv_at hl 5 rfl) ?_
  refine lv_iconst (v := iI (0)) C.hx C.hb dL_law_2024 rfl ?_
  refine g_lald C.hx C.hb hn C.hK hG dL_law_2025 ?_
  refine lv_iload C.hx C.hb dL_law_2026 (lv_at hl 0 rfl) ?_
  refine lv_i2l (v := b9.toInt64) C.hx C.hb dL_law_2028 rfl ?_
  refine r_lcz (ho c2) C.hx C.hb dL_law_2029 ?_
  refine r_if_eq (tgt := 2035) C.hx C.hb (by omega) dL_law_2030 (by decide) (fun _ => ?_) (fun c3 => absurd rfl c3)
  refine lv_goto (tgt := 2518) C.hx C.hb dL_law_2035 (by decide) ?_
  refine W.widen (k := cells + 8) (n := slots + 60) (by omega) (by omega) ?_
  exact KK z ad n H locs ls hG hRz (GI_mono (by omega) hIz) (by omega) (lv_sub hl [2, 3, 4, 5, 6, 7] rfl)
set_option maxHeartbeats 1000000 in
set_option maxRecDepth 100000 in
theorem lc_run {p : Program} {l : Launch} {e : Env} {s : State} {m : MethodId} {below : List Frame} {meth : Method} {c : Code} {b L : Nat} {xs : Nat → Int32} {D : va_G} {cy : Nat → ClassId} {fz : Nat} {A : Nat → Prop} {H : Heap} {locs : List Loc} {cells slots : Nat} {Q : State → Prop} {ls : Array Slot} {ad : Nat → Nat} {n : Nat} {st : St} (C : LC p l s m meth c b L xs D cy fz A) (k : Nat) (hk : 5 * k + 5 ≤ L) (hG : GH D cy ad n st A s.heap H locs) (hR : RY st) (hI : GI (2048 * (k : Int)) st) (hnl : (n : Int) = 75 + 3 * st 33 0 0) (hl : lv_has ls 9 (llv b ad k)) (hcs : cells + 8 ≤ room_1.cells ∧ slots + 60 ≤ room_1.slots) (KK : LKK p l e s m below meth c b D cy A Q k cells slots) : W p l e room_1 s m #[Value.ref b] below meth c H locs cells slots Q (F0 m 2038 ls []) := by
  have hn : 75 ≤ n := by have := gI_33 hI 0 0; omega
  have hkL := C.hL
  refine lv_aload_n C.hx C.hb dL_law_2038 rfl (lv_at hl 1 rfl) ?_
  refine law_ld C hk (q := 1) (by decide) hG.2.2 hl 0 5 rfl rfl dL_law_2039 dL_law_2040 dL_law_2042 dL_law_2043 dL_law_2044 ?_
  refine law_ld C hk (q := 2) (by decide) hG.2.2 hl 0 5 rfl rfl dL_law_2045 dL_law_2046 dL_law_2048 dL_law_2049 dL_law_2050 ?_
  refine lv_i2l (v := (iI (sA xs (5 * k + 2))).toInt64) C.hx C.hb dL_law_2051 rfl ?_
  refine lv_bipush (v := iI (32)) C.hx C.hb dL_law_2052 (by decide +kernel) ?_
  refine lv_lshl (v := (iI (sA xs (5 * k + 2))).toInt64 <<< ((iI (32)).toInt64 &&& 63)) C.hx C.hb dL_law_2054 rfl ?_
  refine law_ld C hk (q := 3) (by decide) hG.2.2 hl 0 5 rfl rfl dL_law_2055 dL_law_2056 dL_law_2058 dL_law_2059 dL_law_2060 ?_
  refine lv_i2l (v := (iI (sA xs (5 * k + 3))).toInt64) C.hx C.hb dL_law_2061 rfl ?_
  refine lv_ldc2 C.hx C.hb C.hown (C.hts (.constantLong RL 202 (4294967295)) (by decide +kernel)) dL_law_2062 ?_
  refine lv_land C.hx C.hb dL_law_2065 ?_
  refine lv_lor C.hx C.hb dL_law_2066 ?_
  obtain ⟨vec, hvec, hv9⟩ := lN_ex ((iI (sA xs (5 * k + 2))).toInt64 <<< ((iI (32)).toInt64 &&& 63) ||| (iI (sA xs (5 * k + 3))).toInt64 &&& 4294967295)
  refine r_asL (y := lN vec) hv9 ?_
  refine lv_aload_n C.hx C.hb dL_law_2067 rfl (lv_at hl 3 rfl) ?_
  refine gx_goi hG C.hA (vx_runSX (As := [.ref (ad 21), .int (iI (sA xs (5 * k + 1))), .long (lN vec), .ref (ad 31)]) (rest := []) ⟨C.hx, C.hb, C.hml, C.hown, C.hts⟩ (mL_run l D cy ad n st _ fz (2048 * (k : Int)) hn hI (by omega) (sA xs (5 * k + 1)) (vec) (sA_r xs _) C.hlf hnl hR hvec) (vx_cwSW 4 C.hts gL_law_L_run rfl rfl rfl (by decide +kernel) ⟨Nat.le_of_ble_eq_true rfl, Nat.le_of_ble_eq_true rfl⟩) ⟨g_blind, g_pre C.hK hG C.hA C.hN C.hZ⟩ rfl rfl hl.1 rfl (lv_room (Nat.le_of_ble_eq_true rfl)) dL_law_2068 ⟨Nat.le_trans (by omega) hcs.1, Nat.le_trans (by omega) hcs.2⟩) (fun E9 st9 H locs ce9 q9 hp hG hce hcv hcl => hp.elim) (fun r9 st1 H locs hp hG => ?_)
  refine lv_istore (lv' := [(6, .int r9), (0, .ref b), (1, .ref (ad 21)), (2, .ref (ad 0)), (3, .ref (ad 31)), (4, .ref (ad 32)), (5, .int (iI (5 * (k : Int))))]) C.hx C.hb dL_law_2071 hl (by decide) rfl (fun ls hl => ?_)
  have hml : ∀ (c o : Nat) (i : Int), c < 30 → st1 c o i = st c o i := by
    intro c o i hc
    rcases hp.2.1 with ⟨-, s1, hs1, h1⟩ | ⟨-, h1⟩
    · rw [h1, hs1, ust_c (by omega)]
    · rw [h1]
  have hsi : ∀ j : Int, st1 6 0 j ≤ st1 1 0 0 := fun j => by rw [hml 6 0 j (by decide), hml 1 0 0 (by decide)]; exact hR.2.2.2.2.2.2.2.2.2.1 j
  have hch : ∀ q : Int, 0 ≤ q → q < st1 14 0 0 → st1 19 0 q = -1 ∨ (q < st1 19 0 q ∧ st1 19 0 q < st1 14 0 0) := fun q h0 h1 => by rw [hml 14 0 0 (by decide)] at h1 ⊢; rw [hml 19 0 q (by decide)]; exact hR.2.2.2.2.2.2.2.2.2.2.1 q h0 h1
  refine lv_aload_n C.hx C.hb dL_law_2073 rfl (lv_at hl 3 rfl) ?_
  refine law_ld C hk (q := 1) (by decide) hG.2.2 hl 1 6 rfl rfl dL_law_2074 dL_law_2075 dL_law_2077 dL_law_2078 dL_law_2079 ?_
  refine law_ld C hk (q := 2) (by decide) hG.2.2 hl 1 6 rfl rfl dL_law_2080 dL_law_2081 dL_law_2083 dL_law_2084 dL_law_2085 ?_
  refine lv_i2l (v := (iI (sA xs (5 * k + 2))).toInt64) C.hx C.hb dL_law_2086 rfl ?_
  refine lv_bipush (v := iI (32)) C.hx C.hb dL_law_2087 (by decide +kernel) ?_
  refine lv_lshl (v := (iI (sA xs (5 * k + 2))).toInt64 <<< ((iI (32)).toInt64 &&& 63)) C.hx C.hb dL_law_2089 rfl ?_
  refine law_ld C hk (q := 3) (by decide) hG.2.2 hl 1 6 rfl rfl dL_law_2090 dL_law_2091 dL_law_2093 dL_law_2094 dL_law_2095 ?_
  refine lv_i2l (v := (iI (sA xs (5 * k + 3))).toInt64) C.hx C.hb dL_law_2096 rfl ?_
  refine lv_ldc2 C.hx C.hb C.hown (C.hts (.constantLong RL 202 (4294967295)) (by decide +kernel)) dL_law_2097 ?_
  refine lv_land C.hx C.hb dL_law_2100 ?_
  refine lv_lor C.hx C.hb dL_law_2101 ?_
  refine r_asL (y := lN vec) hv9 ?_
  refine g_gol hG C.hA (va_runV (As := [.int (iI (sA xs (5 * k + 1))), .long (lN vec)]) (rest := []) ⟨C.hx, C.hb, C.hml, C.hown, C.hts⟩ (mX6_run l D cy ad n st1 _ fz (2048 * (k : Int)) hn hp.2.2 (by omega) (sA xs (5 * k + 1)) (vec) (sA_r xs _) hvec hch hsi) (cwV 2 C.hts gL_law_X6_run rfl rfl rfl (by decide +kernel) ⟨Nat.le_of_ble_eq_true rfl, Nat.le_of_ble_eq_true rfl⟩) ⟨g_blind, va_recv C.hK hG.1 (q0 := 0) (ci := 6) rfl ((gw_at (by omega)).trans (by rw [gC_0])), g_pre C.hK hG C.hA C.hN C.hZ⟩ rfl rfl hl.1 rfl (lv_room (Nat.le_of_ble_eq_true rfl)) dL_law_2102 ⟨Nat.le_trans (by omega) hcs.1, Nat.le_trans (by omega) hcs.2⟩) (fun b9 z H locs hq hG => ?_)
  refine lv_lstore (lv' := [(7, .long b9), (6, .int r9), (0, .ref b), (1, .ref (ad 21)), (2, .ref (ad 0)), (3, .ref (ad 31)), (4, .ref (ad 32)), (5, .int (iI (5 * (k : Int))))]) C.hx C.hb dL_law_2105 hl (by decide) rfl (fun ls hl => ?_)
  obtain ⟨hr0, ho, hRz, hIz, h33⟩ := rc_run (sA xs (5 * k + 1)) vec hR hI hp hq
  have h00 := gI_0 hIz 0 0
  refine lv_aload_n C.hx C.hb dL_law_2107 rfl (lv_at hl 4 rfl) ?_
  refine g_goi hG C.hA (va_runV (As := []) (rest := []) ⟨C.hx, C.hb, C.hml, C.hown, C.hts⟩ (mX6_thrown l D cy ad n z _ fz _ hn hIz (by omega)) (cwV 0 C.hts gL_law_X6_thrown rfl rfl rfl (by decide +kernel) ⟨Nat.le_of_ble_eq_true rfl, Nat.le_of_ble_eq_true rfl⟩) ⟨g_blind, va_recv C.hK hG.1 (q0 := 0) (ci := 6) rfl ((gw_at (by omega)).trans (by rw [gC_0])), g_pre C.hK hG C.hA C.hN C.hZ⟩ rfl rfl hl.1 rfl (lv_room (Nat.le_of_ble_eq_true rfl)) dL_law_2108 ⟨Nat.le_trans (by omega) hcs.1, Nat.le_trans (by omega) hcs.2⟩) (fun r8 z8 H locs hq8 hG => ?_)
  obtain ⟨hr8, hz8⟩ := hq8
  rw [hz8] at hG
  refine r_asI hr8 ?_
  refine lv_iload C.hx C.hb dL_law_2111 (lv_at hl 1 rfl) ?_
  refine r_asI hr0 ?_
  refine r_icmp_eq (tgt := 2118) C.hx C.hb (by omega) dL_law_2113 (by decide) (fun _ => ?_) (fun c1 => absurd rfl c1)
  refine lv_iload C.hx C.hb dL_law_2118 (lv_at hl 1 rfl) ?_
  refine r_asI hr0 ?_
  refine r_if_ne (tgt := 2134) C.hx C.hb (by omega) dL_law_2120 (by decide) (fun c2 => ?_) (fun c2 => ?_)
  · skip
    refine lv_goto (tgt := 2518) C.hx C.hb dL_law_2134 (by decide) ?_
    refine W.widen (k := cells + 8) (n := slots + 60) (by omega) (by omega) ?_
    exact KK z ad n H locs ls hG hRz (GI_mono (by omega) hIz) (by omega) (lv_sub hl [2, 3, 4, 5, 6, 7] rfl)
  refine lv_aload_n C.hx C.hb dL_law_2123 rfl (lv_at hl 5 rfl) ?_
  refine lv_iconst (v := iI (0)) C.hx C.hb dL_law_2124 rfl ?_
  refine g_lald C.hx C.hb hn C.hK hG dL_law_2125 ?_
  refine lv_lload C.hx C.hb dL_law_2126 (lv_at hl 0 rfl) ?_
  refine r_lcz (ho c2) C.hx C.hb dL_law_2128 ?_
  refine r_if_eq (tgt := 2134) C.hx C.hb (by omega) dL_law_2129 (by decide) (fun _ => ?_) (fun c3 => absurd rfl c3)
  refine lv_goto (tgt := 2518) C.hx C.hb dL_law_2134 (by decide) ?_
  refine W.widen (k := cells + 8) (n := slots + 60) (by omega) (by omega) ?_
  exact KK z ad n H locs ls hG hRz (GI_mono (by omega) hIz) (by omega) (lv_sub hl [2, 3, 4, 5, 6, 7] rfl)
set_option maxHeartbeats 1000000 in
set_option maxRecDepth 100000 in
theorem lc_runIdeal {p : Program} {l : Launch} {e : Env} {s : State} {m : MethodId} {below : List Frame} {meth : Method} {c : Code} {b L : Nat} {xs : Nat → Int32} {D : va_G} {cy : Nat → ClassId} {fz : Nat} {A : Nat → Prop} {H : Heap} {locs : List Loc} {cells slots : Nat} {Q : State → Prop} {ls : Array Slot} {ad : Nat → Nat} {n : Nat} {st : St} (C : LC p l s m meth c b L xs D cy fz A) (k : Nat) (hk : 5 * k + 5 ≤ L) (hG : GH D cy ad n st A s.heap H locs) (hR : RY st) (hI : GI (2048 * (k : Int)) st) (hnl : (n : Int) = 75 + 3 * st 33 0 0) (hl : lv_has ls 9 (llv b ad k)) (hcs : cells + 8 ≤ room_1.cells ∧ slots + 60 ≤ room_1.slots) (KK : LKK p l e s m below meth c b D cy A Q k cells slots) : W p l e room_1 s m #[Value.ref b] below meth c H locs cells slots Q (F0 m 2137 ls []) := by
  have hn : 75 ≤ n := by have := gI_33 hI 0 0; omega
  have hkL := C.hL
  refine lv_aload_n C.hx C.hb dL_law_2137 rfl (lv_at hl 1 rfl) ?_
  refine law_ld C hk (q := 1) (by decide) hG.2.2 hl 0 5 rfl rfl dL_law_2138 dL_law_2139 dL_law_2141 dL_law_2142 dL_law_2143 ?_
  refine law_ld C hk (q := 2) (by decide) hG.2.2 hl 0 5 rfl rfl dL_law_2144 dL_law_2145 dL_law_2147 dL_law_2148 dL_law_2149 ?_
  refine lv_i2l (v := (iI (sA xs (5 * k + 2))).toInt64) C.hx C.hb dL_law_2150 rfl ?_
  refine lv_bipush (v := iI (32)) C.hx C.hb dL_law_2151 (by decide +kernel) ?_
  refine lv_lshl (v := (iI (sA xs (5 * k + 2))).toInt64 <<< ((iI (32)).toInt64 &&& 63)) C.hx C.hb dL_law_2153 rfl ?_
  refine law_ld C hk (q := 3) (by decide) hG.2.2 hl 0 5 rfl rfl dL_law_2154 dL_law_2155 dL_law_2157 dL_law_2158 dL_law_2159 ?_
  refine lv_i2l (v := (iI (sA xs (5 * k + 3))).toInt64) C.hx C.hb dL_law_2160 rfl ?_
  refine lv_ldc2 C.hx C.hb C.hown (C.hts (.constantLong RL 202 (4294967295)) (by decide +kernel)) dL_law_2161 ?_
  refine lv_land C.hx C.hb dL_law_2164 ?_
  refine lv_lor C.hx C.hb dL_law_2165 ?_
  obtain ⟨vec, hvec, hv9⟩ := lN_ex ((iI (sA xs (5 * k + 2))).toInt64 <<< ((iI (32)).toInt64 &&& 63) ||| (iI (sA xs (5 * k + 3))).toInt64 &&& 4294967295)
  refine r_asL (y := lN vec) hv9 ?_
  refine lv_aload_n C.hx C.hb dL_law_2166 rfl (lv_at hl 3 rfl) ?_
  refine gx_goi hG C.hA (vx_runSX (As := [.ref (ad 21), .int (iI (sA xs (5 * k + 1))), .long (lN vec), .ref (ad 31)]) (rest := []) ⟨C.hx, C.hb, C.hml, C.hown, C.hts⟩ (mL_runIdeal l D cy ad n st _ fz (2048 * (k : Int)) hn hI (by omega) (sA xs (5 * k + 1)) (vec) (sA_r xs _) C.hlf hnl hR hvec) (vx_cwSW 4 C.hts gL_law_L_runIdeal rfl rfl rfl (by decide +kernel) ⟨Nat.le_of_ble_eq_true rfl, Nat.le_of_ble_eq_true rfl⟩) ⟨g_blind, g_pre C.hK hG C.hA C.hN C.hZ⟩ rfl rfl hl.1 rfl (lv_room (Nat.le_of_ble_eq_true rfl)) dL_law_2167 ⟨Nat.le_trans (by omega) hcs.1, Nat.le_trans (by omega) hcs.2⟩) (fun E9 st9 H locs ce9 q9 hp hG hce hcv hcl => hp.elim) (fun r9 st1 H locs hp hG => ?_)
  refine lv_istore (lv' := [(6, .int r9), (0, .ref b), (1, .ref (ad 21)), (2, .ref (ad 0)), (3, .ref (ad 31)), (4, .ref (ad 32)), (5, .int (iI (5 * (k : Int))))]) C.hx C.hb dL_law_2170 hl (by decide) rfl (fun ls hl => ?_)
  have hml : ∀ (c o : Nat) (i : Int), c < 30 → st1 c o i = st c o i := by
    intro c o i hc
    rcases hp.2.1 with ⟨-, s1, hs1, h1⟩ | ⟨-, h1⟩
    · rw [h1, hs1, ust_c (by omega)]
    · rw [h1]
  have hsi : ∀ j : Int, st1 6 0 j ≤ st1 1 0 0 := fun j => by rw [hml 6 0 j (by decide), hml 1 0 0 (by decide)]; exact hR.2.2.2.2.2.2.2.2.2.1 j
  have hch : ∀ q : Int, 0 ≤ q → q < st1 14 0 0 → st1 19 0 q = -1 ∨ (q < st1 19 0 q ∧ st1 19 0 q < st1 14 0 0) := fun q h0 h1 => by rw [hml 14 0 0 (by decide)] at h1 ⊢; rw [hml 19 0 q (by decide)]; exact hR.2.2.2.2.2.2.2.2.2.2.1 q h0 h1
  refine lv_aload_n C.hx C.hb dL_law_2172 rfl (lv_at hl 3 rfl) ?_
  refine law_ld C hk (q := 1) (by decide) hG.2.2 hl 1 6 rfl rfl dL_law_2173 dL_law_2174 dL_law_2176 dL_law_2177 dL_law_2178 ?_
  refine law_ld C hk (q := 2) (by decide) hG.2.2 hl 1 6 rfl rfl dL_law_2179 dL_law_2180 dL_law_2182 dL_law_2183 dL_law_2184 ?_
  refine lv_i2l (v := (iI (sA xs (5 * k + 2))).toInt64) C.hx C.hb dL_law_2185 rfl ?_
  refine lv_bipush (v := iI (32)) C.hx C.hb dL_law_2186 (by decide +kernel) ?_
  refine lv_lshl (v := (iI (sA xs (5 * k + 2))).toInt64 <<< ((iI (32)).toInt64 &&& 63)) C.hx C.hb dL_law_2188 rfl ?_
  refine law_ld C hk (q := 3) (by decide) hG.2.2 hl 1 6 rfl rfl dL_law_2189 dL_law_2190 dL_law_2192 dL_law_2193 dL_law_2194 ?_
  refine lv_i2l (v := (iI (sA xs (5 * k + 3))).toInt64) C.hx C.hb dL_law_2195 rfl ?_
  refine lv_ldc2 C.hx C.hb C.hown (C.hts (.constantLong RL 202 (4294967295)) (by decide +kernel)) dL_law_2196 ?_
  refine lv_land C.hx C.hb dL_law_2199 ?_
  refine lv_lor C.hx C.hb dL_law_2200 ?_
  refine r_asL (y := lN vec) hv9 ?_
  refine g_gol hG C.hA (va_runV (As := [.int (iI (sA xs (5 * k + 1))), .long (lN vec)]) (rest := []) ⟨C.hx, C.hb, C.hml, C.hown, C.hts⟩ (mX6_runIdeal l D cy ad n st1 _ fz (2048 * (k : Int)) hn hp.2.2 (by omega) (sA xs (5 * k + 1)) (vec) (sA_r xs _) hvec hch hsi) (cwV 2 C.hts gL_law_X6_runIdeal rfl rfl rfl (by decide +kernel) ⟨Nat.le_of_ble_eq_true rfl, Nat.le_of_ble_eq_true rfl⟩) ⟨g_blind, va_recv C.hK hG.1 (q0 := 0) (ci := 6) rfl ((gw_at (by omega)).trans (by rw [gC_0])), g_pre C.hK hG C.hA C.hN C.hZ⟩ rfl rfl hl.1 rfl (lv_room (Nat.le_of_ble_eq_true rfl)) dL_law_2201 ⟨Nat.le_trans (by omega) hcs.1, Nat.le_trans (by omega) hcs.2⟩) (fun b9 z H locs hq hG => ?_)
  refine lv_lstore (lv' := [(7, .long b9), (6, .int r9), (0, .ref b), (1, .ref (ad 21)), (2, .ref (ad 0)), (3, .ref (ad 31)), (4, .ref (ad 32)), (5, .int (iI (5 * (k : Int))))]) C.hx C.hb dL_law_2204 hl (by decide) rfl (fun ls hl => ?_)
  obtain ⟨hr0, ho, hRz, hIz, h33⟩ := rc_runIdeal (sA xs (5 * k + 1)) vec hR hI hp hq
  have h00 := gI_0 hIz 0 0
  refine lv_aload_n C.hx C.hb dL_law_2206 rfl (lv_at hl 4 rfl) ?_
  refine g_goi hG C.hA (va_runV (As := []) (rest := []) ⟨C.hx, C.hb, C.hml, C.hown, C.hts⟩ (mX6_thrown l D cy ad n z _ fz _ hn hIz (by omega)) (cwV 0 C.hts gL_law_X6_thrown rfl rfl rfl (by decide +kernel) ⟨Nat.le_of_ble_eq_true rfl, Nat.le_of_ble_eq_true rfl⟩) ⟨g_blind, va_recv C.hK hG.1 (q0 := 0) (ci := 6) rfl ((gw_at (by omega)).trans (by rw [gC_0])), g_pre C.hK hG C.hA C.hN C.hZ⟩ rfl rfl hl.1 rfl (lv_room (Nat.le_of_ble_eq_true rfl)) dL_law_2207 ⟨Nat.le_trans (by omega) hcs.1, Nat.le_trans (by omega) hcs.2⟩) (fun r8 z8 H locs hq8 hG => ?_)
  obtain ⟨hr8, hz8⟩ := hq8
  rw [hz8] at hG
  refine r_asI hr8 ?_
  refine lv_iload C.hx C.hb dL_law_2210 (lv_at hl 1 rfl) ?_
  refine r_asI hr0 ?_
  refine r_icmp_eq (tgt := 2217) C.hx C.hb (by omega) dL_law_2212 (by decide) (fun _ => ?_) (fun c1 => absurd rfl c1)
  refine lv_iload C.hx C.hb dL_law_2217 (lv_at hl 1 rfl) ?_
  refine r_asI hr0 ?_
  refine r_if_ne (tgt := 2233) C.hx C.hb (by omega) dL_law_2219 (by decide) (fun c2 => ?_) (fun c2 => ?_)
  · skip
    refine lv_goto (tgt := 2518) C.hx C.hb dL_law_2233 (by decide) ?_
    refine W.widen (k := cells + 8) (n := slots + 60) (by omega) (by omega) ?_
    exact KK z ad n H locs ls hG hRz (GI_mono (by omega) hIz) (by omega) (lv_sub hl [2, 3, 4, 5, 6, 7] rfl)
  refine lv_aload_n C.hx C.hb dL_law_2222 rfl (lv_at hl 5 rfl) ?_
  refine lv_iconst (v := iI (0)) C.hx C.hb dL_law_2223 rfl ?_
  refine g_lald C.hx C.hb hn C.hK hG dL_law_2224 ?_
  refine lv_lload C.hx C.hb dL_law_2225 (lv_at hl 0 rfl) ?_
  refine r_lcz (ho c2) C.hx C.hb dL_law_2227 ?_
  refine r_if_eq (tgt := 2233) C.hx C.hb (by omega) dL_law_2228 (by decide) (fun _ => ?_) (fun c3 => absurd rfl c3)
  refine lv_goto (tgt := 2518) C.hx C.hb dL_law_2233 (by decide) ?_
  refine W.widen (k := cells + 8) (n := slots + 60) (by omega) (by omega) ?_
  exact KK z ad n H locs ls hG hRz (GI_mono (by omega) hIz) (by omega) (lv_sub hl [2, 3, 4, 5, 6, 7] rfl)
set_option maxHeartbeats 1000000 in
set_option maxRecDepth 100000 in
theorem lc_cycles {p : Program} {l : Launch} {e : Env} {s : State} {m : MethodId} {below : List Frame} {meth : Method} {c : Code} {b L : Nat} {xs : Nat → Int32} {D : va_G} {cy : Nat → ClassId} {fz : Nat} {A : Nat → Prop} {H : Heap} {locs : List Loc} {cells slots : Nat} {Q : State → Prop} {ls : Array Slot} {ad : Nat → Nat} {n : Nat} {st : St} (C : LC p l s m meth c b L xs D cy fz A) (k : Nat) (hk : 5 * k + 5 ≤ L) (hG : GH D cy ad n st A s.heap H locs) (hR : RY st) (hI : GI (2048 * (k : Int)) st) (hnl : (n : Int) = 75 + 3 * st 33 0 0) (hl : lv_has ls 9 (llv b ad k)) (hcs : cells + 8 ≤ room_1.cells ∧ slots + 60 ≤ room_1.slots) (KK : LKK p l e s m below meth c b D cy A Q k cells slots) : W p l e room_1 s m #[Value.ref b] below meth c H locs cells slots Q (F0 m 2236 ls []) := by
  have hn : 75 ≤ n := by have := gI_33 hI 0 0; omega
  have hkL := C.hL
  refine lv_aload_n C.hx C.hb dL_law_2236 rfl (lv_at hl 1 rfl) ?_
  refine law_ld C hk (q := 1) (by decide) hG.2.2 hl 0 5 rfl rfl dL_law_2237 dL_law_2238 dL_law_2240 dL_law_2241 dL_law_2242 ?_
  refine law_ld C hk (q := 2) (by decide) hG.2.2 hl 0 5 rfl rfl dL_law_2243 dL_law_2244 dL_law_2246 dL_law_2247 dL_law_2248 ?_
  refine lv_aload_n C.hx C.hb dL_law_2249 rfl (lv_at hl 3 rfl) ?_
  refine gx_goi hG C.hA (vx_runSX (As := [.ref (ad 21), .int (iI (sA xs (5 * k + 1))), .int (iI (sA xs (5 * k + 2))), .ref (ad 31)]) (rest := []) ⟨C.hx, C.hb, C.hml, C.hown, C.hts⟩ (mL_cycles l D cy ad n st _ fz (2048 * (k : Int)) hn hI (by omega) (sA xs (5 * k + 1)) (sA xs (5 * k + 2)) (sA_r xs _) (sA_r xs _) C.hlf hnl hR) (vx_cwSW 4 C.hts gL_law_L_cycles rfl rfl rfl (by decide +kernel) ⟨Nat.le_of_ble_eq_true rfl, Nat.le_of_ble_eq_true rfl⟩) ⟨g_blind, g_pre C.hK hG C.hA C.hN C.hZ⟩ rfl rfl hl.1 rfl (lv_room (Nat.le_of_ble_eq_true rfl)) dL_law_2250 ⟨Nat.le_trans (by omega) hcs.1, Nat.le_trans (by omega) hcs.2⟩) (fun E9 st9 H locs ce9 q9 hp hG hce hcv hcl => hp.elim) (fun r9 st1 H locs hp hG => ?_)
  refine lv_istore (lv' := [(6, .int r9), (0, .ref b), (1, .ref (ad 21)), (2, .ref (ad 0)), (3, .ref (ad 31)), (4, .ref (ad 32)), (5, .int (iI (5 * (k : Int))))]) C.hx C.hb dL_law_2253 hl (by decide) rfl (fun ls hl => ?_)
  have hml : ∀ (c o : Nat) (i : Int), c < 30 → st1 c o i = st c o i := by
    intro c o i hc
    rcases hp.2.1 with ⟨-, s1, ⟨tf, sg, hs1⟩, h1⟩ | ⟨-, tf, sg, h1⟩
    · rw [h1, hs1, ust_c (by omega), setT_c _ _ _ (by omega)]
    · rw [h1, setT_c _ _ _ (by omega)]
  have hch : ∀ q : Int, 0 ≤ q → q < st1 14 0 0 → st1 19 0 q = -1 ∨ (q < st1 19 0 q ∧ st1 19 0 q < st1 14 0 0) := fun q h0 h1 => by rw [hml 14 0 0 (by decide)] at h1 ⊢; rw [hml 19 0 q (by decide)]; exact hR.2.2.2.2.2.2.2.2.2.2.1 q h0 h1
  refine lv_aload_n C.hx C.hb dL_law_2255 rfl (lv_at hl 3 rfl) ?_
  refine law_ld C hk (q := 1) (by decide) hG.2.2 hl 1 6 rfl rfl dL_law_2256 dL_law_2257 dL_law_2259 dL_law_2260 dL_law_2261 ?_
  refine law_ld C hk (q := 2) (by decide) hG.2.2 hl 1 6 rfl rfl dL_law_2262 dL_law_2263 dL_law_2265 dL_law_2266 dL_law_2267 ?_
  refine g_goi hG C.hA (va_runV (As := [.int (iI (sA xs (5 * k + 1))), .int (iI (sA xs (5 * k + 2)))]) (rest := []) ⟨C.hx, C.hb, C.hml, C.hown, C.hts⟩ (mX6_cycles l D cy ad n st1 _ fz (2048 * (k : Int)) hn hp.2.2 (by omega) (sA xs (5 * k + 1)) (sA xs (5 * k + 2)) (sA_r xs _) (sA_r xs _) hch) (cwV 2 C.hts gL_law_X6_cycles rfl rfl rfl (by decide +kernel) ⟨Nat.le_of_ble_eq_true rfl, Nat.le_of_ble_eq_true rfl⟩) ⟨g_blind, va_recv C.hK hG.1 (q0 := 0) (ci := 6) rfl ((gw_at (by omega)).trans (by rw [gC_0])), g_pre C.hK hG C.hA C.hN C.hZ⟩ rfl rfl hl.1 rfl (lv_room (Nat.le_of_ble_eq_true rfl)) dL_law_2268 ⟨Nat.le_trans (by omega) hcs.1, Nat.le_trans (by omega) hcs.2⟩) (fun b9 z H locs hq hG => ?_)
  refine lv_istore (lv' := [(7, .int b9), (6, .int r9), (0, .ref b), (1, .ref (ad 21)), (2, .ref (ad 0)), (3, .ref (ad 31)), (4, .ref (ad 32)), (5, .int (iI (5 * (k : Int))))]) C.hx C.hb dL_law_2271 hl (by decide) rfl (fun ls hl => ?_)
  obtain ⟨hr0, ho, hRz, hIz, h33⟩ := rc_cycles (sA xs (5 * k + 1)) (sA xs (5 * k + 2)) hR hI hp hq
  have h00 := gI_0 hIz 0 0
  refine lv_aload_n C.hx C.hb dL_law_2273 rfl (lv_at hl 4 rfl) ?_
  refine g_goi hG C.hA (va_runV (As := []) (rest := []) ⟨C.hx, C.hb, C.hml, C.hown, C.hts⟩ (mX6_thrown l D cy ad n z _ fz _ hn hIz (by omega)) (cwV 0 C.hts gL_law_X6_thrown rfl rfl rfl (by decide +kernel) ⟨Nat.le_of_ble_eq_true rfl, Nat.le_of_ble_eq_true rfl⟩) ⟨g_blind, va_recv C.hK hG.1 (q0 := 0) (ci := 6) rfl ((gw_at (by omega)).trans (by rw [gC_0])), g_pre C.hK hG C.hA C.hN C.hZ⟩ rfl rfl hl.1 rfl (lv_room (Nat.le_of_ble_eq_true rfl)) dL_law_2274 ⟨Nat.le_trans (by omega) hcs.1, Nat.le_trans (by omega) hcs.2⟩) (fun r8 z8 H locs hq8 hG => ?_)
  obtain ⟨hr8, hz8⟩ := hq8
  rw [hz8] at hG
  refine r_asI hr8 ?_
  refine lv_iload C.hx C.hb dL_law_2277 (lv_at hl 1 rfl) ?_
  refine r_asI hr0 ?_
  refine r_icmp_eq (tgt := 2284) C.hx C.hb (by omega) dL_law_2279 (by decide) (fun _ => ?_) (fun c1 => absurd rfl c1)
  refine lv_iload C.hx C.hb dL_law_2284 (lv_at hl 1 rfl) ?_
  refine r_asI hr0 ?_
  refine r_if_ne (tgt := 2301) C.hx C.hb (by omega) dL_law_2286 (by decide) (fun c2 => ?_) (fun c2 => ?_)
  · skip
    refine lv_goto (tgt := 2518) C.hx C.hb dL_law_2301 (by decide) ?_
    refine W.widen (k := cells + 8) (n := slots + 60) (by omega) (by omega) ?_
    exact KK z ad n H locs ls hG hRz (GI_mono (by omega) hIz) (by omega) (lv_sub hl [2, 3, 4, 5, 6, 7] rfl)
  refine lv_aload_n C.hx C.hb dL_law_2289 rfl (lv_at hl 5 rfl) ?_
  refine lv_iconst (v := iI (0)) C.hx C.hb dL_law_2290 rfl ?_
  refine g_lald C.hx C.hb hn C.hK hG dL_law_2291 ?_
  refine lv_iload C.hx C.hb dL_law_2292 (lv_at hl 0 rfl) ?_
  refine lv_i2l (v := b9.toInt64) C.hx C.hb dL_law_2294 rfl ?_
  refine r_lcz (ho c2) C.hx C.hb dL_law_2295 ?_
  refine r_if_eq (tgt := 2301) C.hx C.hb (by omega) dL_law_2296 (by decide) (fun _ => ?_) (fun c3 => absurd rfl c3)
  refine lv_goto (tgt := 2518) C.hx C.hb dL_law_2301 (by decide) ?_
  refine W.widen (k := cells + 8) (n := slots + 60) (by omega) (by omega) ?_
  exact KK z ad n H locs ls hG hRz (GI_mono (by omega) hIz) (by omega) (lv_sub hl [2, 3, 4, 5, 6, 7] rfl)
set_option maxHeartbeats 1000000 in
set_option maxRecDepth 100000 in
theorem lc_cyclesAnew {p : Program} {l : Launch} {e : Env} {s : State} {m : MethodId} {below : List Frame} {meth : Method} {c : Code} {b L : Nat} {xs : Nat → Int32} {D : va_G} {cy : Nat → ClassId} {fz : Nat} {A : Nat → Prop} {H : Heap} {locs : List Loc} {cells slots : Nat} {Q : State → Prop} {ls : Array Slot} {ad : Nat → Nat} {n : Nat} {st : St} (C : LC p l s m meth c b L xs D cy fz A) (k : Nat) (hk : 5 * k + 5 ≤ L) (hG : GH D cy ad n st A s.heap H locs) (hR : RY st) (hI : GI (2048 * (k : Int)) st) (hnl : (n : Int) = 75 + 3 * st 33 0 0) (hl : lv_has ls 9 (llv b ad k)) (hcs : cells + 8 ≤ room_1.cells ∧ slots + 60 ≤ room_1.slots) (KK : LKK p l e s m below meth c b D cy A Q k cells slots) : W p l e room_1 s m #[Value.ref b] below meth c H locs cells slots Q (F0 m 2304 ls []) := by
  have hn : 75 ≤ n := by have := gI_33 hI 0 0; omega
  have hkL := C.hL
  refine lv_aload_n C.hx C.hb dL_law_2304 rfl (lv_at hl 1 rfl) ?_
  refine law_ld C hk (q := 1) (by decide) hG.2.2 hl 0 5 rfl rfl dL_law_2305 dL_law_2306 dL_law_2308 dL_law_2309 dL_law_2310 ?_
  refine law_ld C hk (q := 2) (by decide) hG.2.2 hl 0 5 rfl rfl dL_law_2311 dL_law_2312 dL_law_2314 dL_law_2315 dL_law_2316 ?_
  refine lv_aload_n C.hx C.hb dL_law_2317 rfl (lv_at hl 3 rfl) ?_
  refine gx_goi hG C.hA (vx_runSX (As := [.ref (ad 21), .int (iI (sA xs (5 * k + 1))), .int (iI (sA xs (5 * k + 2))), .ref (ad 31)]) (rest := []) ⟨C.hx, C.hb, C.hml, C.hown, C.hts⟩ (mL_cyclesAnew l D cy ad n st _ fz (2048 * (k : Int)) hn hI (by omega) (sA xs (5 * k + 1)) (sA xs (5 * k + 2)) (sA_r xs _) (sA_r xs _) C.hlf hnl hR) (vx_cwSW 4 C.hts gL_law_L_cyclesAnew rfl rfl rfl (by decide +kernel) ⟨Nat.le_of_ble_eq_true rfl, Nat.le_of_ble_eq_true rfl⟩) ⟨g_blind, g_pre C.hK hG C.hA C.hN C.hZ⟩ rfl rfl hl.1 rfl (lv_room (Nat.le_of_ble_eq_true rfl)) dL_law_2318 ⟨Nat.le_trans (by omega) hcs.1, Nat.le_trans (by omega) hcs.2⟩) (fun E9 st9 H locs ce9 q9 hp hG hce hcv hcl => hp.elim) (fun r9 st1 H locs hp hG => ?_)
  refine lv_istore (lv' := [(6, .int r9), (0, .ref b), (1, .ref (ad 21)), (2, .ref (ad 0)), (3, .ref (ad 31)), (4, .ref (ad 32)), (5, .int (iI (5 * (k : Int))))]) C.hx C.hb dL_law_2321 hl (by decide) rfl (fun ls hl => ?_)
  have hml : ∀ (c o : Nat) (i : Int), c < 30 → st1 c o i = st c o i := by
    intro c o i hc
    rcases hp.2.1 with ⟨-, s1, ⟨tf, sg, lf, hs1⟩, h1⟩ | ⟨-, tf, sg, h1⟩
    · rw [h1, hs1, ust_c (by omega)]
      unfold setP
      rw [if_neg (by omega), setT_c _ _ _ (by omega)]
    · rw [h1, setT_c _ _ _ (by omega)]
  have hch : ∀ q : Int, 0 ≤ q → q < st1 14 0 0 → st1 19 0 q = -1 ∨ (q < st1 19 0 q ∧ st1 19 0 q < st1 14 0 0) := fun q h0 h1 => by rw [hml 14 0 0 (by decide)] at h1 ⊢; rw [hml 19 0 q (by decide)]; exact hR.2.2.2.2.2.2.2.2.2.2.1 q h0 h1
  refine lv_aload_n C.hx C.hb dL_law_2323 rfl (lv_at hl 3 rfl) ?_
  refine law_ld C hk (q := 1) (by decide) hG.2.2 hl 1 6 rfl rfl dL_law_2324 dL_law_2325 dL_law_2327 dL_law_2328 dL_law_2329 ?_
  refine law_ld C hk (q := 2) (by decide) hG.2.2 hl 1 6 rfl rfl dL_law_2330 dL_law_2331 dL_law_2333 dL_law_2334 dL_law_2335 ?_
  refine g_goi hG C.hA (va_runV (As := [.int (iI (sA xs (5 * k + 1))), .int (iI (sA xs (5 * k + 2)))]) (rest := []) ⟨C.hx, C.hb, C.hml, C.hown, C.hts⟩ (mX6_cyclesAnew l D cy ad n st1 _ fz (2048 * (k : Int)) hn hp.2.2 (by omega) (sA xs (5 * k + 1)) (sA xs (5 * k + 2)) (sA_r xs _) (sA_r xs _) hch) (cwV 2 C.hts gL_law_X6_cyclesAnew rfl rfl rfl (by decide +kernel) ⟨Nat.le_of_ble_eq_true rfl, Nat.le_of_ble_eq_true rfl⟩) ⟨g_blind, va_recv C.hK hG.1 (q0 := 0) (ci := 6) rfl ((gw_at (by omega)).trans (by rw [gC_0])), g_pre C.hK hG C.hA C.hN C.hZ⟩ rfl rfl hl.1 rfl (lv_room (Nat.le_of_ble_eq_true rfl)) dL_law_2336 ⟨Nat.le_trans (by omega) hcs.1, Nat.le_trans (by omega) hcs.2⟩) (fun b9 z H locs hq hG => ?_)
  refine lv_istore (lv' := [(7, .int b9), (6, .int r9), (0, .ref b), (1, .ref (ad 21)), (2, .ref (ad 0)), (3, .ref (ad 31)), (4, .ref (ad 32)), (5, .int (iI (5 * (k : Int))))]) C.hx C.hb dL_law_2339 hl (by decide) rfl (fun ls hl => ?_)
  obtain ⟨hr0, ho, hRz, hIz, h33⟩ := rc_cyclesAnew (sA xs (5 * k + 1)) (sA xs (5 * k + 2)) hR hI hp hq
  have h00 := gI_0 hIz 0 0
  refine lv_aload_n C.hx C.hb dL_law_2341 rfl (lv_at hl 4 rfl) ?_
  refine g_goi hG C.hA (va_runV (As := []) (rest := []) ⟨C.hx, C.hb, C.hml, C.hown, C.hts⟩ (mX6_thrown l D cy ad n z _ fz _ hn hIz (by omega)) (cwV 0 C.hts gL_law_X6_thrown rfl rfl rfl (by decide +kernel) ⟨Nat.le_of_ble_eq_true rfl, Nat.le_of_ble_eq_true rfl⟩) ⟨g_blind, va_recv C.hK hG.1 (q0 := 0) (ci := 6) rfl ((gw_at (by omega)).trans (by rw [gC_0])), g_pre C.hK hG C.hA C.hN C.hZ⟩ rfl rfl hl.1 rfl (lv_room (Nat.le_of_ble_eq_true rfl)) dL_law_2342 ⟨Nat.le_trans (by omega) hcs.1, Nat.le_trans (by omega) hcs.2⟩) (fun r8 z8 H locs hq8 hG => ?_)
  obtain ⟨hr8, hz8⟩ := hq8
  rw [hz8] at hG
  refine r_asI hr8 ?_
  refine lv_iload C.hx C.hb dL_law_2345 (lv_at hl 1 rfl) ?_
  refine r_asI hr0 ?_
  refine r_icmp_eq (tgt := 2352) C.hx C.hb (by omega) dL_law_2347 (by decide) (fun _ => ?_) (fun c1 => absurd rfl c1)
  refine lv_iload C.hx C.hb dL_law_2352 (lv_at hl 1 rfl) ?_
  refine r_asI hr0 ?_
  refine r_if_ne (tgt := 2369) C.hx C.hb (by omega) dL_law_2354 (by decide) (fun c2 => ?_) (fun c2 => ?_)
  · skip
    refine lv_goto (tgt := 2518) C.hx C.hb dL_law_2369 (by decide) ?_
    refine W.widen (k := cells + 8) (n := slots + 60) (by omega) (by omega) ?_
    exact KK z ad n H locs ls hG hRz (GI_mono (by omega) hIz) (by omega) (lv_sub hl [2, 3, 4, 5, 6, 7] rfl)
  refine lv_aload_n C.hx C.hb dL_law_2357 rfl (lv_at hl 5 rfl) ?_
  refine lv_iconst (v := iI (0)) C.hx C.hb dL_law_2358 rfl ?_
  refine g_lald C.hx C.hb hn C.hK hG dL_law_2359 ?_
  refine lv_iload C.hx C.hb dL_law_2360 (lv_at hl 0 rfl) ?_
  refine lv_i2l (v := b9.toInt64) C.hx C.hb dL_law_2362 rfl ?_
  refine r_lcz (ho c2) C.hx C.hb dL_law_2363 ?_
  refine r_if_eq (tgt := 2369) C.hx C.hb (by omega) dL_law_2364 (by decide) (fun _ => ?_) (fun c3 => absurd rfl c3)
  refine lv_goto (tgt := 2518) C.hx C.hb dL_law_2369 (by decide) ?_
  refine W.widen (k := cells + 8) (n := slots + 60) (by omega) (by omega) ?_
  exact KK z ad n H locs ls hG hRz (GI_mono (by omega) hIz) (by omega) (lv_sub hl [2, 3, 4, 5, 6, 7] rfl)
set_option maxHeartbeats 1000000 in
set_option maxRecDepth 100000 in
theorem lc_wear {p : Program} {l : Launch} {e : Env} {s : State} {m : MethodId} {below : List Frame} {meth : Method} {c : Code} {b L : Nat} {xs : Nat → Int32} {D : va_G} {cy : Nat → ClassId} {fz : Nat} {A : Nat → Prop} {H : Heap} {locs : List Loc} {cells slots : Nat} {Q : State → Prop} {ls : Array Slot} {ad : Nat → Nat} {n : Nat} {st : St} (C : LC p l s m meth c b L xs D cy fz A) (k : Nat) (hk : 5 * k + 5 ≤ L) (hG : GH D cy ad n st A s.heap H locs) (hR : RY st) (hI : GI (2048 * (k : Int)) st) (hnl : (n : Int) = 75 + 3 * st 33 0 0) (hl : lv_has ls 9 (llv b ad k)) (hcs : cells + 8 ≤ room_1.cells ∧ slots + 60 ≤ room_1.slots) (KK : LKK p l e s m below meth c b D cy A Q k cells slots) : W p l e room_1 s m #[Value.ref b] below meth c H locs cells slots Q (F0 m 2372 ls []) := by
  have hn : 75 ≤ n := by have := gI_33 hI 0 0; omega
  have hkL := C.hL
  refine lv_aload_n C.hx C.hb dL_law_2372 rfl (lv_at hl 1 rfl) ?_
  refine law_ld C hk (q := 1) (by decide) hG.2.2 hl 0 5 rfl rfl dL_law_2373 dL_law_2374 dL_law_2376 dL_law_2377 dL_law_2378 ?_
  refine lv_aload_n C.hx C.hb dL_law_2379 rfl (lv_at hl 3 rfl) ?_
  refine gx_goi hG C.hA (vx_runSX (As := [.ref (ad 21), .int (iI (sA xs (5 * k + 1))), .ref (ad 31)]) (rest := []) ⟨C.hx, C.hb, C.hml, C.hown, C.hts⟩ (mL_wear l D cy ad n st _ fz (2048 * (k : Int)) hn hI (by omega) (sA xs (5 * k + 1)) (sA_r xs _) C.hlf hnl hR) (vx_cwSW 3 C.hts gL_law_L_wear rfl rfl rfl (by decide +kernel) ⟨Nat.le_of_ble_eq_true rfl, Nat.le_of_ble_eq_true rfl⟩) ⟨g_blind, g_pre C.hK hG C.hA C.hN C.hZ⟩ rfl rfl hl.1 rfl (lv_room (Nat.le_of_ble_eq_true rfl)) dL_law_2380 ⟨Nat.le_trans (by omega) hcs.1, Nat.le_trans (by omega) hcs.2⟩) (fun E9 st9 H locs ce9 q9 hp hG hce hcv hcl => hp.elim) (fun r9 st1 H locs hp hG => ?_)
  refine lv_istore (lv' := [(6, .int r9), (0, .ref b), (1, .ref (ad 21)), (2, .ref (ad 0)), (3, .ref (ad 31)), (4, .ref (ad 32)), (5, .int (iI (5 * (k : Int))))]) C.hx C.hb dL_law_2383 hl (by decide) rfl (fun ls hl => ?_)
  refine lv_aload_n C.hx C.hb dL_law_2385 rfl (lv_at hl 3 rfl) ?_
  refine law_ld C hk (q := 1) (by decide) hG.2.2 hl 1 6 rfl rfl dL_law_2386 dL_law_2387 dL_law_2389 dL_law_2390 dL_law_2391 ?_
  refine g_gol hG C.hA (va_runV (As := [.int (iI (sA xs (5 * k + 1)))]) (rest := []) ⟨C.hx, C.hb, C.hml, C.hown, C.hts⟩ (mX6_wear l D cy ad n st1 _ fz (2048 * (k : Int)) hn hp.2.2 (by omega) (sA xs (5 * k + 1)) (sA_r xs _)) (cwV 1 C.hts gL_law_X6_wear rfl rfl rfl (by decide +kernel) ⟨Nat.le_of_ble_eq_true rfl, Nat.le_of_ble_eq_true rfl⟩) ⟨g_blind, va_recv C.hK hG.1 (q0 := 0) (ci := 6) rfl ((gw_at (by omega)).trans (by rw [gC_0])), g_pre C.hK hG C.hA C.hN C.hZ⟩ rfl rfl hl.1 rfl (lv_room (Nat.le_of_ble_eq_true rfl)) dL_law_2392 ⟨Nat.le_trans (by omega) hcs.1, Nat.le_trans (by omega) hcs.2⟩) (fun b9 z H locs hq hG => ?_)
  refine lv_lstore (lv' := [(7, .long b9), (6, .int r9), (0, .ref b), (1, .ref (ad 21)), (2, .ref (ad 0)), (3, .ref (ad 31)), (4, .ref (ad 32)), (5, .int (iI (5 * (k : Int))))]) C.hx C.hb dL_law_2395 hl (by decide) rfl (fun ls hl => ?_)
  obtain ⟨hr0, ho, hRz, hIz, h33⟩ := rc_wear (sA xs (5 * k + 1)) hR hI hp hq
  have h00 := gI_0 hIz 0 0
  refine lv_aload_n C.hx C.hb dL_law_2397 rfl (lv_at hl 4 rfl) ?_
  refine g_goi hG C.hA (va_runV (As := []) (rest := []) ⟨C.hx, C.hb, C.hml, C.hown, C.hts⟩ (mX6_thrown l D cy ad n z _ fz _ hn hIz (by omega)) (cwV 0 C.hts gL_law_X6_thrown rfl rfl rfl (by decide +kernel) ⟨Nat.le_of_ble_eq_true rfl, Nat.le_of_ble_eq_true rfl⟩) ⟨g_blind, va_recv C.hK hG.1 (q0 := 0) (ci := 6) rfl ((gw_at (by omega)).trans (by rw [gC_0])), g_pre C.hK hG C.hA C.hN C.hZ⟩ rfl rfl hl.1 rfl (lv_room (Nat.le_of_ble_eq_true rfl)) dL_law_2398 ⟨Nat.le_trans (by omega) hcs.1, Nat.le_trans (by omega) hcs.2⟩) (fun r8 z8 H locs hq8 hG => ?_)
  obtain ⟨hr8, hz8⟩ := hq8
  rw [hz8] at hG
  refine r_asI hr8 ?_
  refine lv_iload C.hx C.hb dL_law_2401 (lv_at hl 1 rfl) ?_
  refine r_asI hr0 ?_
  refine r_icmp_eq (tgt := 2408) C.hx C.hb (by omega) dL_law_2403 (by decide) (fun _ => ?_) (fun c1 => absurd rfl c1)
  refine lv_iload C.hx C.hb dL_law_2408 (lv_at hl 1 rfl) ?_
  refine r_asI hr0 ?_
  refine r_if_ne (tgt := 2424) C.hx C.hb (by omega) dL_law_2410 (by decide) (fun c2 => ?_) (fun c2 => ?_)
  · skip
    refine lv_goto (tgt := 2518) C.hx C.hb dL_law_2424 (by decide) ?_
    refine W.widen (k := cells + 8) (n := slots + 60) (by omega) (by omega) ?_
    exact KK z ad n H locs ls hG hRz (GI_mono (by omega) hIz) (by omega) (lv_sub hl [2, 3, 4, 5, 6, 7] rfl)
  refine lv_aload_n C.hx C.hb dL_law_2413 rfl (lv_at hl 5 rfl) ?_
  refine lv_iconst (v := iI (0)) C.hx C.hb dL_law_2414 rfl ?_
  refine g_lald C.hx C.hb hn C.hK hG dL_law_2415 ?_
  refine lv_lload C.hx C.hb dL_law_2416 (lv_at hl 0 rfl) ?_
  refine r_lcz (ho c2) C.hx C.hb dL_law_2418 ?_
  refine r_if_eq (tgt := 2424) C.hx C.hb (by omega) dL_law_2419 (by decide) (fun _ => ?_) (fun c3 => absurd rfl c3)
  refine lv_goto (tgt := 2518) C.hx C.hb dL_law_2424 (by decide) ?_
  refine W.widen (k := cells + 8) (n := slots + 60) (by omega) (by omega) ?_
  exact KK z ad n H locs ls hG hRz (GI_mono (by omega) hIz) (by omega) (lv_sub hl [2, 3, 4, 5, 6, 7] rfl)
set_option maxHeartbeats 1000000 in
set_option maxRecDepth 100000 in
theorem lc_share {p : Program} {l : Launch} {e : Env} {s : State} {m : MethodId} {below : List Frame} {meth : Method} {c : Code} {b L : Nat} {xs : Nat → Int32} {D : va_G} {cy : Nat → ClassId} {fz : Nat} {A : Nat → Prop} {H : Heap} {locs : List Loc} {cells slots : Nat} {Q : State → Prop} {ls : Array Slot} {ad : Nat → Nat} {n : Nat} {st : St} (C : LC p l s m meth c b L xs D cy fz A) (k : Nat) (hk : 5 * k + 5 ≤ L) (hG : GH D cy ad n st A s.heap H locs) (hR : RY st) (hI : GI (2048 * (k : Int)) st) (hnl : (n : Int) = 75 + 3 * st 33 0 0) (hl : lv_has ls 9 (llv b ad k)) (hcs : cells + 8 ≤ room_1.cells ∧ slots + 60 ≤ room_1.slots) (KK : LKK p l e s m below meth c b D cy A Q k cells slots) : W p l e room_1 s m #[Value.ref b] below meth c H locs cells slots Q (F0 m 2427 ls []) := by
  have hn : 75 ≤ n := by have := gI_33 hI 0 0; omega
  have hkL := C.hL
  refine lv_aload_n C.hx C.hb dL_law_2427 rfl (lv_at hl 1 rfl) ?_
  refine law_ld C hk (q := 1) (by decide) hG.2.2 hl 0 5 rfl rfl dL_law_2428 dL_law_2429 dL_law_2431 dL_law_2432 dL_law_2433 ?_
  refine lv_aload C.hx C.hb dL_law_2434 (lv_at hl 4 rfl) ?_
  refine gx_goi hG C.hA (vx_runSX (As := [.ref (ad 21), .int (iI (sA xs (5 * k + 1))), .ref (ad 32)]) (rest := []) ⟨C.hx, C.hb, C.hml, C.hown, C.hts⟩ (mL_share l D cy ad n st _ fz (2048 * (k : Int)) hn hI (by omega) (sA xs (5 * k + 1)) (sA_r xs _) C.hlf hnl hR) (vx_cwSW 3 C.hts gL_law_L_share rfl rfl rfl (by decide +kernel) ⟨Nat.le_of_ble_eq_true rfl, Nat.le_of_ble_eq_true rfl⟩) ⟨g_blind, g_pre C.hK hG C.hA C.hN C.hZ⟩ rfl rfl hl.1 rfl (lv_room (Nat.le_of_ble_eq_true rfl)) dL_law_2436 ⟨Nat.le_trans (by omega) hcs.1, Nat.le_trans (by omega) hcs.2⟩) (fun E9 st9 H locs ce9 q9 hp hG hce hcv hcl => hp.elim) (fun r9 st1 H locs hp hG => ?_)
  refine lv_istore (lv' := [(6, .int r9), (0, .ref b), (1, .ref (ad 21)), (2, .ref (ad 0)), (3, .ref (ad 31)), (4, .ref (ad 32)), (5, .int (iI (5 * (k : Int))))]) C.hx C.hb dL_law_2439 hl (by decide) rfl (fun ls hl => ?_)
  refine lv_aload_n C.hx C.hb dL_law_2441 rfl (lv_at hl 3 rfl) ?_
  refine law_ld C hk (q := 1) (by decide) hG.2.2 hl 1 6 rfl rfl dL_law_2442 dL_law_2443 dL_law_2445 dL_law_2446 dL_law_2447 ?_
  refine g_gof hG C.hA (va_runV (As := [.int (iI (sA xs (5 * k + 1)))]) (rest := []) ⟨C.hx, C.hb, C.hml, C.hown, C.hts⟩ (mX6_share l D cy ad n st1 _ fz (2048 * (k : Int)) hn hp.2.2 (by omega) (sA xs (5 * k + 1)) (sA_r xs _)) (cwV 1 C.hts gL_law_X6_share rfl rfl rfl (by decide +kernel) ⟨Nat.le_of_ble_eq_true rfl, Nat.le_of_ble_eq_true rfl⟩) ⟨g_blind, va_recv C.hK hG.1 (q0 := 0) (ci := 6) rfl ((gw_at (by omega)).trans (by rw [gC_0])), g_pre C.hK hG C.hA C.hN C.hZ⟩ rfl rfl hl.1 rfl (lv_room (Nat.le_of_ble_eq_true rfl)) dL_law_2448 ⟨Nat.le_trans (by omega) hcs.1, Nat.le_trans (by omega) hcs.2⟩) (fun b9 z H locs hq hG => ?_)
  refine lv_fstore (lv' := [(7, .float b9), (6, .int r9), (0, .ref b), (1, .ref (ad 21)), (2, .ref (ad 0)), (3, .ref (ad 31)), (4, .ref (ad 32)), (5, .int (iI (5 * (k : Int))))]) C.hx C.hb dL_law_2451 hl (by decide) rfl (fun ls hl => ?_)
  obtain ⟨hr0, ho, hRz, hIz, h33⟩ := rc_share (sA xs (5 * k + 1)) hR hI hp hq
  have h00 := gI_0 hIz 0 0
  refine lv_aload_n C.hx C.hb dL_law_2453 rfl (lv_at hl 4 rfl) ?_
  refine g_goi hG C.hA (va_runV (As := []) (rest := []) ⟨C.hx, C.hb, C.hml, C.hown, C.hts⟩ (mX6_thrown l D cy ad n z _ fz _ hn hIz (by omega)) (cwV 0 C.hts gL_law_X6_thrown rfl rfl rfl (by decide +kernel) ⟨Nat.le_of_ble_eq_true rfl, Nat.le_of_ble_eq_true rfl⟩) ⟨g_blind, va_recv C.hK hG.1 (q0 := 0) (ci := 6) rfl ((gw_at (by omega)).trans (by rw [gC_0])), g_pre C.hK hG C.hA C.hN C.hZ⟩ rfl rfl hl.1 rfl (lv_room (Nat.le_of_ble_eq_true rfl)) dL_law_2454 ⟨Nat.le_trans (by omega) hcs.1, Nat.le_trans (by omega) hcs.2⟩) (fun r8 z8 H locs hq8 hG => ?_)
  obtain ⟨hr8, hz8⟩ := hq8
  rw [hz8] at hG
  refine r_asI hr8 ?_
  refine lv_iload C.hx C.hb dL_law_2457 (lv_at hl 1 rfl) ?_
  refine r_asI hr0 ?_
  refine r_icmp_eq (tgt := 2464) C.hx C.hb (by omega) dL_law_2459 (by decide) (fun _ => ?_) (fun c1 => absurd rfl c1)
  refine lv_iload C.hx C.hb dL_law_2464 (lv_at hl 1 rfl) ?_
  refine r_asI hr0 ?_
  refine r_if_ne (tgt := 2502) C.hx C.hb (by omega) dL_law_2466 (by decide) (fun c2 => ?_) (fun c2 => ?_)
  · skip
    refine lv_goto (tgt := 2518) C.hx C.hb dL_law_2502 (by decide) ?_
    refine W.widen (k := cells + 8) (n := slots + 60) (by omega) (by omega) ?_
    exact KK z ad n H locs ls hG hRz (GI_mono (by omega) hIz) (by omega) (lv_sub hl [2, 3, 4, 5, 6, 7] rfl)
  have hz71 := ho c2
  obtain ⟨x9, hx9, hxr⟩ : ∃ x9 : Int, b9 = fShare x9 ∧ 0 ≤ x9 ∧ x9 ≤ 128 := ⟨_, hq.1, cSh_r hp.2.2 _⟩
  have hnn := fShD_n2 hxr
  rw [← hx9] at hnn
  refine lv_aload C.hx C.hb dL_law_2469 (lv_at hl 6 rfl) ?_
  refine lv_iconst (v := iI (0)) C.hx C.hb dL_law_2471 rfl ?_
  refine g_dald C.hx C.hb hn C.hK hG dL_law_2472 ?_
  refine lv_fload C.hx C.hb dL_law_2473 (lv_at hl 0 rfl) ?_
  refine lv_f2d C.hx C.hb dL_law_2475 hnn ?_
  refine lv_dcmp C.hx C.hb dL_law_2476 ?_
  refine r_asI (y := 0) (by rw [hz71]; exact dcmp_rf hxr hx9) ?_
  refine r_if_eq (tgt := 2502) C.hx C.hb (by omega) dL_law_2477 (by decide) (fun _ => ?_) (fun c3 => absurd rfl c3)
  refine lv_goto (tgt := 2518) C.hx C.hb dL_law_2502 (by decide) ?_
  refine W.widen (k := cells + 8) (n := slots + 60) (by omega) (by omega) ?_
  exact KK z ad n H locs ls hG hRz (GI_mono (by omega) hIz) (by omega) (lv_sub hl [2, 3, 4, 5, 6, 7] rfl)
