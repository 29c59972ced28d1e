section XLY
variable {p : Program} {l : Launch} {e : Env} {R : Room} {s : State} {m : MethodId} {args : Array Value} {below : List Frame} {meth : Method} {c : Code} {H : Heap} {locs : List Loc} {cells slots : Nat} {Q : State → Prop}
variable {cc : ByteArray} {pc : Nat} {ls : Array Slot} {rest st0 : List Value} {D : va_G} {cy : Nat → ClassId} {ad : Nat → Nat} {n n' fz mc ms m2 n2 : Nat} {st : St} {A : Nat → Prop} {H0 : Heap} {a : Array Value} {pX : String → St → Prop}
/-- the world behind a call that made a layer -/
def gPL (D : va_G) (cy : Nat → ClassId) (A : Nat → Prop) (n : Nat) (u : St × (Nat → Nat)) (t : State) : Prop := gP D cy u.2 n u.1 t ∧ va_D A (gw n u.2 (gC u.1 u.2 cy))
theorem gx_goL {post : Int32 → St × (Nat → Nat) → Prop} (hG : GH D cy ad n st A H0 H locs) (hA : ∀ q, H0.size ≤ q → A q) (hr : vx_Run p l e R s m args below meth c H locs cells slots mc ms (F0 m pc ls st0) rest (va_Qi post (gPL D cy (gA n ad H.size) n') (gA n ad H.size) a) (gX D cy ad n pX (gA n ad H.size)) (gA n ad H.size))
    (kx : ∀ (E : String) (st' : St) (H1 : Heap) (locs1 : List Loc) (ce : Cell) (q9 : Addr), pX E st' → GH D cy ad n st' A H0 H1 locs1 → H1[q9]? = some ce → ce.vm = .none → s.vm.findClass E = some ce.cls → vx_W p l e R s m args below meth c H1 locs1 (cells + mc) (slots + ms) Q (F0 m pc ls rest) q9)
    (kk : ∀ (r : Int32) (st' : St) (ad' : Nat → Nat) (H1 : Heap) (locs1 : List Loc), post r (st', ad') → GH D cy ad' n' st' A H0 H1 locs1 → W p l e R s m args below meth c H1 locs1 (cells + mc) (slots + ms) Q (F0 m (pc + 3) ls (.int r :: rest))) : W p l e R s m args below meth c H locs cells slots Q (F0 m pc ls st0) :=
  vx_calli hr hG.2.2 (fun q _ h => g_free hG hA q h) (g_free hG hA) (fun q _ h => g_free hG hA q h) (fun E ce q9 u t H1 locs1 ht _ _ hb _ _ hS hce hcv hcl => kx E u H1 locs1 ce q9 hb.1 (g_back hG hb.2 ht hS) hce hcv hcl) (fun r u t H1 locs1 ht _ hw hB _ _ hS => kk r u.1 u.2 H1 locs1 hw ⟨by rw [← ht]; exact hB.1, hB.2.weaken (fun _ _ _ h => g_free hG hA _ h), hS⟩)
theorem g_iretL {post : Int32 → St × (Nat → Nat) → Prop} {v : Int32} {ls : Array Slot} (hexec : p.tables.exec = Jvm.exec) (hb : c.code = cc) (hr : meth.sig.returnType = some .int) (hlocks : meth.locks = false) (hG : GH D cy ad n st A s.heap H locs) (hp : post v (st, ad)) (hdg : decode cc pc = .ok (.ireturn, 1)) : W p l e R s m args below meth c H locs cells slots (MQ below (va_Qi post (gPL D cy A n) A) args s cells slots A) (F0 m pc ls [.int v]) :=
  W.iret (v := v) hexec hb hr (fun t ht hW => ⟨⟨v, (st, ad), rfl, hp, ⟨by unfold gP; rw [ht]; exact hG.1, hG.2.1⟩⟩, hG.2.2.F ht⟩) hG.2.2.2.2 hdg hlocks
theorem r_rf {x y : Nat} (h : x = y) (k : W p l e R s m args below meth c H locs cells slots Q (F0 m pc ls (.ref y :: rest))) : W p l e R s m args below meth c H locs cells slots Q (F0 m pc ls (.ref x :: rest)) := by
  rw [h]; exact k
end XLY
def lyF0 : List Value := [.int (iI 0), .int (iI 0), .int (iI 0), .null, .null, .int (iI 0), .null, .null]
theorem ly_app {G : va_W} {h q : Nat} {a b : Int} {w0 w1 : Nat} {cy : Nat → ClassId} {n : Nat} (hn : G.length = n) : cwl (cwl (G ++ [(h, .inr (0, lyF0))]) n h 0 lyF0 []) n h 0 [.int (iI (q : Int)), .int (iI a), .int (iI b), .ref w0, .ref w1, .int (iI 0), .null, .null] [(w0, .inl (cy 0, 32, .inl (fun _ => iI 0))), (w1, .inl (cy 0, 8, .inl (fun _ => iI 0)))] = G ++ lyT cy q a b h w0 w1 := by
  subst hn
  unfold cwl
  simp [lyT]
theorem ly_e24 {st : St} {ad : Nat → Nat} {cy : Nat → ClassId} {n q h w0 w1 : Nat} {a b : Int} (hn : 75 ≤ n) (hq : st 33 0 0 = (q : Int)) : ((gw n ad (gC st ad cy) ++ lyT cy q a b h w0 w1).set (24 - 19) (ad 24, .inl (cy 2, 6, .inr (.inr (.inr (.inr (va_up (fun j => if (j : Int) < st 33 0 0 then some (ad (75 + 3 * j)) else none) q (some h))))))) ).set (21 - 19) (ad 21, .inr (5, (gOx st ad).set 5 (.int (iI (st 33 0 0 + 1))))) = gw n ad (lyE st ad cy q h) ++ lyT cy q a b h w0 w1 := by
  have e9 : iI (st 33 0 0 + 1) = iI ((q : Int) + 1) := by rw [hq]
  rw [e9, List.set_append_left _ _ (by rw [gw_len]; omega), List.set_append_left _ _ (by rw [List.length_set, gw_len]; omega)]
  rw [gw_set (k := 24) (ct' := fun k => if k = 24 then .inl (cy 2, 6, .inr (.inr (.inr (.inr (va_up (fun j => if (j : Int) < st 33 0 0 then some (ad (75 + 3 * j)) else none) q (some h)))))) else gC st ad cy k) (fun j _ => rfl) (by omega)]
  rw [gw_set (k := 21) (ct' := lyE st ad cy q h) (fun j _ => rfl) (by omega)]
set_option maxHeartbeats 1000000 in
set_option maxRecDepth 100000 in
theorem mX5_layer (l : Launch) (D : va_G) (cy : Nat → ClassId) (ad : Nat → Nat) (n : Nat) (st : St) (sz fz : Nat) (wb : Int) (hn : 75 ≤ n) (hI : GI wb st) (hW : wb ≤ 2000000) (a : Int) (b : Int) (ha : -2147483648 ≤ a ∧ a < 2147483648) (hb : -2147483648 ≤ b ∧ b < 2147483648) (hlf : l.stackTraces = false) (hnl : (n : Int) = 75 + 3 * st 33 0 0) (hR : RY st) : vx_Met l yX5_layer wsX5_layer ({ frames := 7, cells := 5, slots := 60, locals := 112 }) (va_Pc [.ref (ad 21), .int (iI (a)), .int (iI (b))] (gB D cy ad n st sz fz)) (va_Qi (fun (r : Int32) (u : St × (Nat → Nat)) => kLayer st a b = 0 ∧ (r = iI (st 33 0 0) ∧ u.1 = lyS st (st 33 0 0).toNat a b ∧ ∀ j, j < n → u.2 j = ad j) ∧ GI wb u.1) (gPL D cy (gA n ad sz) (n + 3)) (gA n ad sz)) (gX D cy ad n (fun (E : String) (st' : St) => xE [xA, xS] E (kLayer st a b) ∧ st' = st) (gA n ad sz)) 5 60 (gA n ad sz) := by
  refine vx_ofW (cc := cX5_layer) (maxL := 3) (ret := (some .int)) (by decide) rfl ?_
  intro p e s m args below meth c s₁ B hml hnt hv
  obtain ⟨rfl, hsz, hP, hK, hD0, hN, hZ⟩ := hv
  have hx := B.exec
  have hbb := B.bytes
  have hr := B.returns
  have hts := atoms_spec (ws := wsX5_layer) B.pre
  have hown : s.vm.findClass RX5 = some m.cls := findClass_of_methodNamed B.named
  have hlocks := B.notSynchronized
  subst hsz
  have hA : ∀ q : Nat, s.heap.size ≤ q → gA n ad s.heap.size q := fun q h => Or.inr h
  have hG : GH D cy ad n st (gA n ad s.heap.size) s.heap s.heap [] := ⟨hP, gw_A hD0, va_S.rf⟩
  have hl := lv_entry ([.ref (ad 21), .int (iI (a)), .int (iI (b))]) (n := 3) (Nat.le_of_ble_eq_true rfl)
  rw [lg_entry_eq]
  generalize (lg_sl ([.ref (ad 21), .int (iI (a)), .int (iI (b))]) ++ List.replicate (3 - (lg_sl ([.ref (ad 21), .int (iI (a)), .int (iI (b))])).length) Slot.unset).toArray = ls at hl ⊢
  have hl : lv_has ls 3 [(0, .ref (ad 21)), (1, .int (iI (a))), (2, .int (iI (b)))] := hl
  have hin5 : ∀ w ∈ u_ws RX5 TX5 6, w ∈ wsX5_layer := by decide +kernel
  have hin0 : ∀ w ∈ u_ws RX0 TX0 8, w ∈ wsX5_layer := by decide +kernel
  have L_24 := hts (.fieldLink RX5 24 "Crossbarry" "layers" "[LCrossbarry$Layer;") (by decide +kernel)
  have L_42 := hts (.fieldLink RX5 42 "Crossbarry" "layerCount" "I") (by decide +kernel)
  obtain ⟨⟨hR1, hR2, hR3, hR4⟩, hRl, hRw, hRr, hRc, hRt, hRo, hRk, hsc, hsi, hch, hun, hfr⟩ := id hR
  have h33 := gI_33 hI 0 0
  have hks := kLayer_s st a b
  refine lv_iload_n hx hbb dX5_layer_0 rfl (lv_at hl 1 rfl) ?_
  refine lv_iconst (v := iI (1)) hx hbb dX5_layer_1 rfl ?_
  refine lv_bipush (v := iI (8)) hx hbb dX5_layer_2 (by decide +kernel) ?_
  refine gx_gov hG hA (vx_runS (As := [.int (iI (a)), .int (iI (1)), .int (iI (8))]) (rest := []) ⟨hx, hbb, hml, hown, hts⟩ (mX5_checkArgument l D cy ad n st _ fz wb hn hI (by omega) (a) (1) (8) hlf (by omega) (by omega) (by omega)) (va_cwS 3 hts gX5_layer_X5_checkArgument rfl rfl rfl (by decide +kernel) ⟨Nat.le_of_ble_eq_true rfl, Nat.le_of_ble_eq_true rfl⟩) ⟨g_blind, g_pre hK hG hA hN hZ⟩ rfl rfl hl.1 rfl (lv_room (Nat.le_of_ble_eq_true rfl)) dX5_layer_4 ⟨Nat.le_of_ble_eq_true rfl, Nat.le_of_ble_eq_true rfl⟩) (fun E9 st9 H locs ce9 q9 hp hG hce hcv hcl => ?_) (fun s9 H locs hp hG => ?_)
  · skip
    obtain ⟨⟨rfl, hcx⟩, hs9⟩ := hp
    rw [hs9] at hG
    exact g_out hnt hlocks hG hce hcv hcl ⟨⟨0, rfl, by omega⟩, rfl⟩ (Nat.le_of_ble_eq_true rfl) (Nat.le_of_ble_eq_true rfl)
  obtain ⟨hc1, hs9⟩ := hp
  rw [hs9] at hG
  clear hs9
  refine lv_iload_n hx hbb dX5_layer_7 rfl (lv_at hl 2 rfl) ?_
  refine lv_iconst (v := iI (1)) hx hbb dX5_layer_8 rfl ?_
  refine lv_iconst (v := iI (4)) hx hbb dX5_layer_9 rfl ?_
  refine gx_gov hG hA (vx_runS (As := [.int (iI (b)), .int (iI (1)), .int (iI (4))]) (rest := []) ⟨hx, hbb, hml, hown, hts⟩ (mX5_checkArgument l D cy ad n st _ fz wb hn hI (by omega) (b) (1) (4) hlf (by omega) (by omega) (by omega)) (va_cwS 3 hts gX5_layer_X5_checkArgument rfl rfl rfl (by decide +kernel) ⟨Nat.le_of_ble_eq_true rfl, Nat.le_of_ble_eq_true rfl⟩) ⟨g_blind, g_pre hK hG hA hN hZ⟩ rfl rfl hl.1 rfl (lv_room (Nat.le_of_ble_eq_true rfl)) dX5_layer_10 ⟨Nat.le_of_ble_eq_true rfl, Nat.le_of_ble_eq_true rfl⟩) (fun E9 st9 H locs ce9 q9 hp hG hce hcv hcl => ?_) (fun s9 H locs hp hG => ?_)
  · skip
    obtain ⟨⟨rfl, hcx⟩, hs9⟩ := hp
    rw [hs9] at hG
    exact g_out hnt hlocks hG hce hcv hcl ⟨⟨0, rfl, by omega⟩, rfl⟩ (Nat.le_of_ble_eq_true rfl) (Nat.le_of_ble_eq_true rfl)
  obtain ⟨hc2, hs9⟩ := hp
  rw [hs9] at hG
  clear hs9
  refine lv_aload_n hx hbb dX5_layer_13 rfl (lv_at hl 0 rfl) ?_
  refine g_get hx hbb hts hin5 hown hK hG (key := 21) (by omega) (gC_21 st ad cy) rfl 5 (by decide) L_42 (fun _ h9 => h9) rfl dX5_layer_14 ?_
  refine lv_bipush (v := iI (6)) hx hbb dX5_layer_17 (by decide +kernel) ?_
  refine r_icmp_lt (tgt := 32) hx hbb (by omega) dX5_layer_19 (by decide) (fun c1 => ?_) (fun c1 => ?_)
  · obtain ⟨q, hq⟩ : ∃ q : Nat, (q : Int) = st 33 0 0 := ⟨(st 33 0 0).toNat, by omega⟩
    have hnq : n = 75 + 3 * q := by omega
    refine lv_aload_n hx hbb dX5_layer_32 rfl (lv_at hl 0 rfl) ?_
    refine g_get hx hbb hts hin5 hown hK hG (key := 21) (by omega) (gC_21 st ad cy) rfl 2 (by decide) L_24 (fun _ h9 => h9) rfl dX5_layer_33 ?_
    refine lv_aload_n hx hbb dX5_layer_36 rfl (lv_at hl 0 rfl) ?_
    refine g_get hx hbb hts hin5 hown hK hG (key := 21) (by omega) (gC_21 st ad cy) rfl 5 (by decide) L_42 (fun _ h9 => h9) rfl dX5_layer_37 ?_
    obtain ⟨hP, hD, hS⟩ := hG
    refine va_new hx hbb hts hin0 tyX0 tyX0_ok hown (hts (.classLink RX5 22 RX0) (by decide +kernel)) (hts (.instantiable RX0 8) (by decide +kernel)) (hts (.initialized RX0) (by decide +kernel)) hK hP hD hS hA (ci := 0) rfl (fs := lyF0) (by decide +kernel) (Nat.le_of_ble_eq_true rfl) (Nat.le_of_ble_eq_true rfl) dX5_layer_40 (fun h H hP hD hS => ?_)
    refine lv_dup hx hbb dX5_layer_43 rfl ?_
    refine lv_aload_n hx hbb dX5_layer_44 rfl (lv_at hl 0 rfl) ?_
    refine va_get hx hbb hts hin5 hown hK hP (21 - 19) (ci := 5) (fs := gOx st ad) ((List.getElem?_append_left (by rw [gw_len]; omega)).trans ((gw_at (k := 21) (by omega)).trans (by rw [gC_21]))) rfl 5 (by decide) L_42 (fun _ h9 => h9) rfl dX5_layer_45 ?_
    refine lv_iload_n hx hbb dX5_layer_48 rfl (lv_at hl 1 rfl) ?_
    refine lv_iload_n hx hbb dX5_layer_49 rfl (lv_at hl 2 rfl) ?_
    have hat : (gw n ad (gC st ad cy) ++ [(h, Sum.inr (0, lyF0))])[n - 19]? = some (h, Sum.inr (0, lyF0)) := by
      rw [List.getElem?_append_right (Nat.le_of_eq gw_len), gw_len, Nat.sub_self]
      rfl
    have hC : CG D (gA n ad s.heap.size) s.heap (gw n ad (gC st ad cy) ++ [(h, Sum.inr (0, lyF0))]) (n - 19) h 0 lyF0 [] H _ := ⟨(List.getElem?_eq_some_iff.mp hat).1, by rw [cwl_self hat]; exact hP, by rw [cwl_self hat]; exact hD, hS⟩
    refine c_gov hC hA (va_runI (As := [.int (iI (st 33 0 0)), .int (iI a), .int (iI b)]) (rest := [.ref h, .int (iI (st 33 0 0)), .ref (ad 24)]) ⟨hx, hbb, hml, hown, hts⟩ (mX0_init l D cy (cwl (gw n ad (gC st ad cy) ++ [(h, Sum.inr (0, lyF0))]) (n - 19) h 0 lyF0 []) (n - 19) h H.size (st 33 0 0) a b (cwl_at hC.1)) (cwI 3 hts gX5_layer_X0_init rfl rfl rfl (hts (.initialized RX0) (by decide +kernel)) (hts (.methodLink RX5 60 yX0_init) (by decide +kernel)) (hts (.instanceMethod yX0_init) (by decide +kernel)) rfl (by decide +kernel) ⟨Nat.le_of_ble_eq_true rfl, Nat.le_of_ble_eq_true rfl⟩) ⟨c_blind, c_pre hK hC⟩ rfl rfl hl.1 rfl (lv_room (Nat.le_of_ble_eq_true rfl)) dX5_layer_50 ⟨Nat.le_of_ble_eq_true rfl, Nat.le_of_ble_eq_true rfl⟩) (fun w H locs hP hD hS => ?_)
    rw [← hq, ly_app gw_len] at hP hD
    have eq9 : (iI (st 33 0 0)).toNatClampNeg = q := by rw [iI_cl (by omega) (by omega)]; omega
    refine va_astq hx hbb hK hP hD hS (24 - 19) 2 (n - 19) 0 (n := 6) (f := fun j => if (j : Int) < st 33 0 0 then some (ad (75 + 3 * j)) else none) (r := (RX0, TX0, 8)) ((List.getElem?_append_left (by rw [gw_len]; omega)).trans ((gw_at (k := 24) (by omega)).trans (by rw [gC_24]))) rfl (by rw [List.getElem?_append_right (Nat.le_of_eq gw_len), gw_len, Nat.sub_self]; rfl) rfl (iI_in (by omega) (by omega) (by decide)) dX5_layer_53 (fun H locs hP hD hS => ?_)
    rw [eq9] at hP hD
    refine lv_aload_n hx hbb dX5_layer_54 rfl (lv_at hl 0 rfl) ?_
    refine lv_dup hx hbb dX5_layer_55 rfl ?_
    have h21 : ((gw n ad (gC st ad cy) ++ lyT cy q a b h (w 0) (w 1)).set (24 - 19) (ad 24, .inl (cy 2, 6, .inr (.inr (.inr (.inr (va_up (fun j => if (j : Int) < st 33 0 0 then some (ad (75 + 3 * j)) else none) q (some h))))))))[21 - 19]? = some (ad 21, .inr (5, gOx st ad)) := by
      rw [List.getElem?_set_ne (by decide), List.getElem?_append_left (by rw [gw_len]; omega), gw_at (k := 21) (by omega), gC_21]
    refine va_get hx hbb hts hin5 hown hK hP (21 - 19) h21 rfl 5 (by decide) L_42 (fun _ h9 => h9) (v := .int (iI (st 33 0 0))) rfl dX5_layer_56 ?_
    refine lv_iconst (v := iI (1)) hx hbb dX5_layer_59 rfl ?_
    refine r_iadd hx hbb dX5_layer_60 ?_
    refine va_put hx hbb hts hin5 tyX5 tyX5_ok nmX5 hown hK hP hD hS (21 - 19) h21 rfl 5 (by decide) L_42 (fun _ h9 => h9) rfl (ty := .int) (by decide +kernel) rfl rfl (Nat.le_of_ble_eq_true rfl) dX5_layer_61 (fun H locs hP hD hS => ?_)
    rw [ly_e24 hn hq.symm] at hP hD
    have hG2 := ly_P hnq hq.symm (fun o ho => by
      have h1 := (hRl o (by omega)).2.2.2.1
      have h2 := hch (o : Int) (by omega) (by omega)
      omega) (fun o => (gI_66 hI o 0).2) hP hD
    have hG : GH D cy (lyA n ad h (w 0) (w 1)) (n + 3) (lyS st q a b) (gA n ad s.heap.size) s.heap H locs := ⟨hG2.1, hG2.2, hS⟩
    have e21 : ad 21 = lyA n ad h (w 0) (w 1) 21 := (lyA_lt (by omega)).symm
    refine lv_aload_n hx hbb dX5_layer_64 rfl (lv_at hl 0 rfl) ?_
    refine r_rf e21 ?_
    refine g_get hx hbb hts hin5 hown hK hG (key := 21) (by omega) (gC_21 _ _ cy) rfl 5 (by decide) L_42 (fun _ h9 => h9) rfl dX5_layer_65 ?_
    refine lv_iconst (v := iI (1)) hx hbb dX5_layer_68 rfl ?_
    refine r_isub hx hbb dX5_layer_69 ?_
    refine r_as (y := st 33 0 0) (by rw [lyS_33]; omega) ?_
    refine vx_ret ?_
    exact g_iretL hx hbb hr hlocks hG ⟨by omega, ⟨rfl, by show lyS st q a b = _; rw [show (st 33 0 0).toNat = q by omega], fun j hj => lyA_lt hj⟩, GI_ly hI (by omega) (by omega) c1⟩ dX5_layer_70
  · skip
    exact g_xthrow (ik := 53) (is := 55) (ic := 57) (cls := xS) (text := "there are 6 layers") hx hbb hlf hown hts xftS xnbS xgdS (by decide +kernel) (by decide +kernel) (by decide +kernel) (by decide +kernel) hN hZ hG (hl.1.trans hml.symm) dX5_layer_22 dX5_layer_25 dX5_layer_26 dX5_layer_28 dX5_layer_31 hnt (Nat.le_of_ble_eq_true rfl) (Nat.le_of_ble_eq_true rfl) (Nat.le_of_ble_eq_true rfl) (Nat.le_of_ble_eq_true rfl) hlocks ⟨⟨1, rfl, by omega⟩, rfl⟩ (Nat.le_of_ble_eq_true rfl) (Nat.le_of_ble_eq_true rfl)
