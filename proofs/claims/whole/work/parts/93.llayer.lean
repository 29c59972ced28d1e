section XLM
variable {p : Program} {l : Launch} {e : Env} {R : Room} {s : State} {m : MethodId} {args : Array Value} {below : List Frame} {meth : Method} {c : Code} {H : Heap} {locs : List Loc} {cells slots : Nat} {Q : State → Prop}
variable {cc : ByteArray} {pc : Nat} {ls : Array Slot} {rest st0 : List Value} {D : va_G} {cy : Nat → ClassId} {ad : Nat → Nat} {n fz mc ms m2 n2 : Nat} {st : St} {A : Nat → Prop} {H0 : Heap} {a : Array Value} {pX : String → St → Prop}
def gPM (D : va_G) (cy : Nat → ClassId) (A : Nat → Prop) (u : St × (Nat → Nat) × Nat) (t : State) : Prop := gP D cy u.2.1 u.2.2 u.1 t ∧ va_D A (gw u.2.2 u.2.1 (gC u.1 u.2.1 cy))
theorem gx_goM {post : Int32 → St × (Nat → Nat) × Nat → Prop} (hG : GH D cy ad n st A H0 H locs) (hA : ∀ q, H0.size ≤ q → A q) (hr : vx_Run p l e R s m args below meth c H locs cells slots mc ms (F0 m pc ls st0) rest (va_Qi post (gPM D cy (gA n ad H.size)) (gA n ad H.size) a) (gX D cy ad n pX (gA n ad H.size)) (gA n ad H.size))
    (kx : ∀ (E : String) (st' : St) (H1 : Heap) (locs1 : List Loc) (ce : Cell) (q9 : Addr), pX E st' → GH D cy ad n st' A H0 H1 locs1 → H1[q9]? = some ce → ce.vm = .none → s.vm.findClass E = some ce.cls → vx_W p l e R s m args below meth c H1 locs1 (cells + mc) (slots + ms) Q (F0 m pc ls rest) q9)
    (kk : ∀ (r : Int32) (st' : St) (ad' : Nat → Nat) (n' : Nat) (H1 : Heap) (locs1 : List Loc), post r (st', ad', n') → GH D cy ad' n' st' A H0 H1 locs1 → W p l e R s m args below meth c H1 locs1 (cells + mc) (slots + ms) Q (F0 m (pc + 3) ls (.int r :: rest))) : W p l e R s m args below meth c H locs cells slots Q (F0 m pc ls st0) :=
  vx_calli hr hG.2.2 (fun q _ h => g_free hG hA q h) (g_free hG hA) (fun q _ h => g_free hG hA q h) (fun E ce q9 u t H1 locs1 ht _ _ hb _ _ hS hce hcv hcl => kx E u H1 locs1 ce q9 hb.1 (g_back hG hb.2 ht hS) hce hcv hcl) (fun r u t H1 locs1 ht _ hw hB _ _ hS => kk r u.1 u.2.1 u.2.2 H1 locs1 hw ⟨by rw [← ht]; exact hB.1, hB.2.weaken (fun _ _ _ h => g_free hG hA _ h), hS⟩)
theorem g_iretM {post : Int32 → St × (Nat → Nat) × Nat → Prop} {v : Int32} {ls : Array Slot} (hexec : p.tables.exec = Jvm.exec) (hb : c.code = cc) (hr : meth.sig.returnType = some .int) (hlocks : meth.locks = false) (hG : GH D cy ad n st A s.heap H locs) (hp : post v (st, ad, n)) (hdg : decode cc pc = .ok (.ireturn, 1)) : W p l e R s m args below meth c H locs cells slots (MQ below (va_Qi post (gPM D cy A) A) args s cells slots A) (F0 m pc ls [.int v]) :=
  W.iret (v := v) hexec hb hr (fun t ht hW => ⟨⟨v, (st, ad, n), rfl, hp, ⟨by unfold gP; rw [ht]; exact hG.1, hG.2.1⟩⟩, hG.2.2.F ht⟩) hG.2.2.2.2 hdg hlocks
theorem r_r3 {x y : Nat} {v w : Value} (h : x = y) (k : W p l e R s m args below meth c H locs cells slots Q (F0 m pc ls (v :: w :: .ref y :: rest))) : W p l e R s m args below meth c H locs cells slots Q (F0 m pc ls (v :: w :: .ref x :: rest)) := by
  rw [h]; exact k
end XLM
set_option maxHeartbeats 400000 in
set_option maxRecDepth 100000 in
theorem mL_layer (l : Launch) (D : va_G) (cy : Nat → ClassId) (ad : Nat → Nat) (n : Nat) (st : St) (sz fz : Nat) (wb : Int) (hn : 75 ≤ n) (hI : GI wb st) (hW : wb ≤ 2000000) (a : Int) (b : Int) (ha : -2147483648 ≤ a ∧ a < 2147483648) (hb : -2147483648 ≤ b ∧ b < 2147483648) (hlf : l.stackTraces = false) (hnl : (n : Int) = 75 + 3 * st 33 0 0) (hR : RY st) : vx_Met l yL_layer wsL_layer ({ frames := 8, cells := 5, slots := 60, locals := 134 }) (va_Pc [.ref (ad 21), .int (iI (a)), .int (iI (b)), .ref (ad 31)] (gB D cy ad n st sz fz)) (va_Qi (fun (r : Int32) (u : St × (Nat → Nat) × Nat) => r = iI (kLayer st a b) ∧ ((kLayer st a b = 0 ∧ u.2.2 = n + 3 ∧ u.1 = ust (lyS st (st 33 0 0).toNat a b) 70 0 0 ((iI (st 33 0 0)).toInt64).toInt ∧ ∀ j, j < n → u.2.1 j = ad j) ∨ (kLayer st a b ≠ 0 ∧ u = (st, ad, n))) ∧ GI wb u.1) (gPM D cy (gA n ad sz)) (gA n ad sz)) (gX D cy ad n (fun (E : String) (st' : St) => False) (gA n ad sz)) 5 60 (gA n ad sz) := by
  refine vx_ofWH (cc := cL_layer) (maxL := 5) (ret := (some .int)) (hh := [(0, 10, 13, 13), (0, 10, 17, 15)]) (by decide) rfl ?_
  intro p e s m args below meth c s₁ B hml hv
  obtain ⟨rfl, hsz, hP, hK, hD0, hN, hZ⟩ := hv
  have hx := B.exec
  have hbb := B.bytes
  have hr := B.returns
  have hts := atoms_spec (ws := wsL_layer) B.pre
  have hown : s.vm.findClass RL = some m.cls := findClass_of_methodNamed B.named
  have hlocks := B.notSynchronized
  have htab : c.exceptionTable.toList = [⟨0, 10, 13, 13⟩, ⟨0, 10, 17, 15⟩] := vx_table (x := yL_layer) B (hts (.codeWith yL_layer cL_layer 5 (some .int) [(0, 10, 13, 13), (0, 10, 17, 15)]) (by decide +kernel))
  subst hsz
  have hA : ∀ q : Nat, s.heap.size ≤ q → gA n ad s.heap.size q := fun q h => Or.inr h
  have hG : GH D cy ad n st (gA n ad s.heap.size) s.heap s.heap [] := ⟨hP, gw_A hD0, va_S.rf⟩
  have hl := lv_entry ([.ref (ad 21), .int (iI (a)), .int (iI (b)), .ref (ad 31)]) (n := 5) (Nat.le_of_ble_eq_true rfl)
  rw [lg_entry_eq]
  generalize (lg_sl ([.ref (ad 21), .int (iI (a)), .int (iI (b)), .ref (ad 31)]) ++ List.replicate (5 - (lg_sl ([.ref (ad 21), .int (iI (a)), .int (iI (b)), .ref (ad 31)])).length) Slot.unset).toArray = ls at hl ⊢
  have hl : lv_has ls 5 [(0, .ref (ad 21)), (1, .int (iI (a))), (2, .int (iI (b))), (3, .ref (ad 31))] := hl
  have LnA := hts (.classLink RL 13 xA) (by decide +kernel)
  have LnS := hts (.classLink RL 15 xS) (by decide +kernel)
  have hI0 := hI
  refine lv_aload_n hx hbb dL_layer_0 rfl (lv_at hl 3 rfl) ?_
  refine lv_iconst (v := iI (0)) hx hbb dL_layer_1 rfl ?_
  refine lv_aload_n hx hbb dL_layer_2 rfl (lv_at hl 0 rfl) ?_
  refine lv_iload_n hx hbb dL_layer_3 rfl (lv_at hl 1 rfl) ?_
  refine lv_iload_n hx hbb dL_layer_4 rfl (lv_at hl 2 rfl) ?_
  refine gx_goL hG hA (vx_runV (As := [.int (iI (a)), .int (iI (b))]) (rest := [.int (iI (0)), .ref (ad 31)]) ⟨hx, hbb, hml, hown, hts⟩ (mX5_layer l D cy ad n st _ fz wb hn hI (by omega) (a) (b) (by omega) (by omega) hlf hnl hR) (cwV 2 hts gL_layer_X5_layer rfl rfl rfl (by decide +kernel) ⟨Nat.le_of_ble_eq_true rfl, Nat.le_of_ble_eq_true rfl⟩) ⟨g_blind, va_recv hK hG.1 (q0 := 21) (ci := 5) rfl ((gw_at (by omega)).trans (by rw [gC_21 st ad cy])), g_pre hK hG hA hN hZ⟩ rfl rfl hl.1 rfl (lv_room (Nat.le_of_ble_eq_true rfl)) dL_layer_5 ⟨Nat.le_of_ble_eq_true rfl, Nat.le_of_ble_eq_true rfl⟩) (fun E9 st9 H locs ce9 q9 hp hG hce hcv hcl => ?_) (fun r9 st9 ad9 H locs hp hG => ?_)
  · skip
    obtain ⟨hxe, hs9⟩ := hp
    rw [hs9] at hG
    clear hs9
    rcases xE2 hxe with ⟨rfl, hk9⟩ | ⟨rfl, hk9⟩
    · skip
      refine g_c0 hown htab (by decide) (by decide) LnA hN (xcIn _ (by simp)) hce hcv hcl ?_
      refine lv_astore (lv' := [(4, .ref (q9)), (0, .ref (ad 21)), (1, .int (iI (a))), (2, .int (iI (b))), (3, .ref (ad 31))]) hx hbb dL_layer_13 hl (by decide) rfl (fun ls hl => ?_)
      refine lv_iconst (v := iI (1)) hx hbb dL_layer_15 rfl ?_
      refine vx_ret ?_
      exact g_iretM hx hbb hr hlocks hG (by
        refine ⟨by rw [hk9], Or.inr ⟨by omega, rfl⟩, hI⟩) dL_layer_16
    · skip
      refine g_c1 hown htab (by decide) (by decide) LnS hN (xcIn _ (by simp)) hce hcv hcl (by decide) LnA xnSA ?_
      refine lv_astore (lv' := [(4, .ref (q9)), (0, .ref (ad 21)), (1, .int (iI (a))), (2, .int (iI (b))), (3, .ref (ad 31))]) hx hbb dL_layer_17 hl (by decide) rfl (fun ls hl => ?_)
      refine lv_iconst (v := iI (2)) hx hbb dL_layer_19 rfl ?_
      refine vx_ret ?_
      exact g_iretM hx hbb hr hlocks hG (by
        refine ⟨by rw [hk9], Or.inr ⟨by omega, rfl⟩, hI⟩) dL_layer_20
  · skip
    obtain ⟨hk0, ⟨hr9, hs9, ha9⟩, hI9⟩ := hp
    try dsimp only at hs9 ha9 hI9
    refine r_asI (y := st 33 0 0) hr9 ?_
    refine lv_i2l (v := (iI (st 33 0 0)).toInt64) hx hbb dL_layer_8 rfl ?_
    refine r_r3 (ha9 31 (by omega)).symm ?_
    refine g_last hx hbb (by omega) hK hG dL_layer_9 (fun H locs hG => ?_)
    refine lv_goto (tgt := 21) hx hbb dL_layer_10 (by decide) ?_
    refine lv_iconst (v := iI (0)) hx hbb dL_layer_21 rfl ?_
    refine vx_ret ?_
    exact g_iretM hx hbb hr hlocks hG (by
      refine ⟨by rw [hk0], Or.inl ⟨hk0, rfl, ?_, ha9⟩, ?_⟩
      · show ust st9 70 0 0 _ = _
        rw [hs9]
      · show GI wb (ust st9 70 0 0 _)
        exact GI_o hI9 (by decide)) dL_layer_22
