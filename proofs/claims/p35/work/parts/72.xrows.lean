/-! ===== methods that throw, over the one world ===== -/
/-- where a method has thrown: the class by its name, and the world -/
def gX (D : va_G) (cy : Nat → ClassId) (ad : Nat → Nat) (n : Nat) (pX : String → St → Prop) (A : Nat → Prop) : String → State → State → Prop := vx_X (fun _ : St => True) (fun E st' t => pX E st' ∧ gP D cy ad n st' t) A
abbrev xI : String := "java/lang/IndexOutOfBoundsException"
abbrev xA : String := "java/lang/IllegalArgumentException"
abbrev xS : String := "java/lang/IllegalStateException"
abbrev xN : List String := ["java/lang/RuntimeException", "java/lang/Exception"]
section GX
variable {p : Program} {l : Launch} {e : Env} {R : Room} {s : State} {m : MethodId} {args : Array Value} {below : List Frame} {meth : Method} {c : Code} {H : Heap} {locs : List Loc} {cells slots : Nat} {Q : State → Prop}
variable {cc : ByteArray} {pc : Nat} {ls : Array Slot} {rest st0 : List Value} {D : va_G} {cy : Nat → ClassId} {ad : Nat → Nat} {n fz mc ms m2 n2 : Nat} {st : St} {A : Nat → Prop} {H0 : Heap} {a : Array Value} {pX : String → St → Prop} {Qc : Array Value → State → Outcome → State → Prop}
theorem xr_callr {S SX : Type} {A0 A1 : Nat → Prop} {free : Addr → Prop} {post : S → Prop} {px : SX → Prop} {B : S → Nat → State → Prop} {BX : String → SX → State → Prop} {AX : Nat → Prop} (hr : vx_Run p l e R s m args below meth c H locs cells slots mc ms (F0 m pc ls st0) rest (va_Qr post B A1 a) (vx_X px BX AX) free) (hS : va_S A0 H0 H locs) (hA : ∀ q, q < H.size → A1 q → A0 q) (hf : ∀ q, free q → A0 q) (hAX : ∀ q, q < H.size → AX q → A0 q)
    (kx : ∀ (E : String) (ce : Cell) (q9 : Addr) (u : SX) (t : State) (H1 : Heap) (locs1 : List Loc), t.heap = H1 → s.vm.Alike t.vm → px u → BX E u t → H.size ≤ H1.size → (∀ q : Nat, q < H.size → ¬ AX q → H1[q]? = H[q]?) → va_S A0 H0 H1 locs1 → H1[q9]? = some ce → ce.vm = .none → s.vm.findClass E = some ce.cls → vx_W p l e R s m args below meth c H1 locs1 (cells + mc) (slots + ms) Q (F0 m pc ls rest) q9)
    (kk : ∀ (u : S) (ra : Nat) (t : State) (H1 : Heap) (locs1 : List Loc), t.heap = H1 → s.vm.Alike t.vm → post u → B u ra t → H.size ≤ H1.size → (∀ q : Nat, q < H.size → ¬ A1 q → H1[q]? = H[q]?) → va_S A0 H0 H1 locs1 → W p l e R s m args below meth c H1 locs1 (cells + mc) (slots + ms) Q (F0 m (pc + 3) ls (.ref ra :: rest))) : W p l e R s m args below meth c H locs cells slots Q (F0 m pc ls st0) := by
  intro T hT X
  rcases hr T hT X with ⟨v, st₀, t, T', L, h0, X', hL, e1, e2, ⟨⟨u, ra, hv, hp, hb⟩, hF⟩, st⟩ | ⟨q, st₀, t, T', L, E, ce, h0, X', hL, e1, e2, ⟨u, hp, hb, hF⟩, hce, hcv, hcl, st⟩
  · cases hv
    obtain ⟨k1, k2, k3⟩ := vx_keep h0 e1 hS hA hf hL hF
    obtain ⟨t2, a1, b1⟩ := kk u ra t T'.heap (locs ++ L) e1.symm (by rw [← e2]; exact X'.warmed.alike) hp hb k1 k2 k3 T' rfl X'
    exact ⟨t2, st t2 a1, b1⟩
  · obtain ⟨k1, k2, k3⟩ := vx_keep h0 e1 hS hAX hf hL hF
    obtain ⟨t2, a1, b1⟩ := kx E ce q u t T'.heap (locs ++ L) e1.symm (by rw [← e2]; exact X'.warmed.alike) hp hb k1 k2 k3 (by rw [e1]; exact hce) hcv hcl T' rfl X'
    exact ⟨t2, st.trans a1, b1⟩
/-- passing an exception on -/
theorem g_out {E : String} {ce : Cell} {q : Addr} (hnt : ∀ x ∈ c.exceptionTable.toList, False) (hlocks : meth.locks = false) (hG : GH D cy ad n st A s.heap H locs) (hcell : H[q]? = some ce) (hv : ce.vm = .none) (hcl : s.vm.findClass E = some ce.cls) (hp : pX E st) (hc : cells ≤ m2) (hs : slots ≤ n2) : vx_W p l e R s m args below meth c H locs cells slots (vx_MQ below Qc (gX D cy ad n pX A) args s m2 n2 A) (F0 m pc ls rest) q :=
  vx_out (fun x hx => (hnt x hx).elim) hlocks hcell hv hcl (fun t ht _ => ⟨st, trivial, ⟨hp, by unfold gP; rw [ht]; exact hG.1⟩, hG.2.2.F ht⟩) hG.2.2.2.2 hc hs
theorem gx_goi {post : Int32 → St → Prop} (hG : GH D cy ad n st A H0 H locs) (hA : ∀ q, H0.size ≤ q → A q) (hr : vx_Run p l e R s m args below meth c H locs cells slots mc ms (F0 m pc ls st0) rest (va_Qi post (gP D cy ad n) (gA n ad H.size) a) (gX D cy ad n pX (gA n ad H.size)) (gA n ad H.size))
    (kx : ∀ (E : String) (st' : St) (H1 : Heap) (locs1 : List Loc) (ce : Cell) (q9 : Addr), pX E st' → GH D cy ad n st' A H0 H1 locs1 → H1[q9]? = some ce → ce.vm = .none → s.vm.findClass E = some ce.cls → vx_W p l e R s m args below meth c H1 locs1 (cells + mc) (slots + ms) Q (F0 m pc ls rest) q9)
    (kk : ∀ (r : Int32) (st' : St) (H1 : Heap) (locs1 : List Loc), post r st' → GH D cy ad n st' A H0 H1 locs1 → W p l e R s m args below meth c H1 locs1 (cells + mc) (slots + ms) Q (F0 m (pc + 3) ls (.int r :: rest))) : W p l e R s m args below meth c H locs cells slots Q (F0 m pc ls st0) :=
  vx_calli hr hG.2.2 (fun q _ h => g_free hG hA q h) (g_free hG hA) (fun q _ h => g_free hG hA q h) (fun E ce q9 u t H1 locs1 ht _ _ hb _ _ hS hce hcv hcl => kx E u H1 locs1 ce q9 hb.1 (g_back hG hb.2 ht hS) hce hcv hcl) (fun r u t H1 locs1 ht _ hw hB _ _ hS => kk r u H1 locs1 hw (g_back hG hB ht hS))
theorem gx_gol {post : Int64 → St → Prop} (hG : GH D cy ad n st A H0 H locs) (hA : ∀ q, H0.size ≤ q → A q) (hr : vx_Run p l e R s m args below meth c H locs cells slots mc ms (F0 m pc ls st0) rest (va_Ql post (gP D cy ad n) (gA n ad H.size) a) (gX D cy ad n pX (gA n ad H.size)) (gA n ad H.size))
    (kx : ∀ (E : String) (st' : St) (H1 : Heap) (locs1 : List Loc) (ce : Cell) (q9 : Addr), pX E st' → GH D cy ad n st' A H0 H1 locs1 → H1[q9]? = some ce → ce.vm = .none → s.vm.findClass E = some ce.cls → vx_W p l e R s m args below meth c H1 locs1 (cells + mc) (slots + ms) Q (F0 m pc ls rest) q9)
    (kk : ∀ (r : Int64) (st' : St) (H1 : Heap) (locs1 : List Loc), post r st' → GH D cy ad n st' A H0 H1 locs1 → W p l e R s m args below meth c H1 locs1 (cells + mc) (slots + ms) Q (F0 m (pc + 3) ls (.long r :: rest))) : W p l e R s m args below meth c H locs cells slots Q (F0 m pc ls st0) :=
  vx_calll hr hG.2.2 (fun q _ h => g_free hG hA q h) (g_free hG hA) (fun q _ h => g_free hG hA q h) (fun E ce q9 u t H1 locs1 ht _ _ hb _ _ hS hce hcv hcl => kx E u H1 locs1 ce q9 hb.1 (g_back hG hb.2 ht hS) hce hcv hcl) (fun r u t H1 locs1 ht _ hw hB _ _ hS => kk r u H1 locs1 hw (g_back hG hB ht hS))
theorem gx_gof {post : UInt32 → St → Prop} (hG : GH D cy ad n st A H0 H locs) (hA : ∀ q, H0.size ≤ q → A q) (hr : vx_Run p l e R s m args below meth c H locs cells slots mc ms (F0 m pc ls st0) rest (va_Qf post (gP D cy ad n) (gA n ad H.size) a) (gX D cy ad n pX (gA n ad H.size)) (gA n ad H.size))
    (kx : ∀ (E : String) (st' : St) (H1 : Heap) (locs1 : List Loc) (ce : Cell) (q9 : Addr), pX E st' → GH D cy ad n st' A H0 H1 locs1 → H1[q9]? = some ce → ce.vm = .none → s.vm.findClass E = some ce.cls → vx_W p l e R s m args below meth c H1 locs1 (cells + mc) (slots + ms) Q (F0 m pc ls rest) q9)
    (kk : ∀ (r : UInt32) (st' : St) (H1 : Heap) (locs1 : List Loc), post r st' → GH D cy ad n st' A H0 H1 locs1 → W p l e R s m args below meth c H1 locs1 (cells + mc) (slots + ms) Q (F0 m (pc + 3) ls (.float r :: rest))) : W p l e R s m args below meth c H locs cells slots Q (F0 m pc ls st0) :=
  vx_callf hr hG.2.2 (fun q _ h => g_free hG hA q h) (g_free hG hA) (fun q _ h => g_free hG hA q h) (fun E ce q9 u t H1 locs1 ht _ _ hb _ _ hS hce hcv hcl => kx E u H1 locs1 ce q9 hb.1 (g_back hG hb.2 ht hS) hce hcv hcl) (fun r u t H1 locs1 ht _ hw hB _ _ hS => kk r u H1 locs1 hw (g_back hG hB ht hS))
theorem gx_gov {post : St → Prop} (hG : GH D cy ad n st A H0 H locs) (hA : ∀ q, H0.size ≤ q → A q) (hr : vx_Run p l e R s m args below meth c H locs cells slots mc ms (F0 m pc ls st0) rest (va_Qv post (gP D cy ad n) (gA n ad H.size) a) (gX D cy ad n pX (gA n ad H.size)) (gA n ad H.size))
    (kx : ∀ (E : String) (st' : St) (H1 : Heap) (locs1 : List Loc) (ce : Cell) (q9 : Addr), pX E st' → GH D cy ad n st' A H0 H1 locs1 → H1[q9]? = some ce → ce.vm = .none → s.vm.findClass E = some ce.cls → vx_W p l e R s m args below meth c H1 locs1 (cells + mc) (slots + ms) Q (F0 m pc ls rest) q9)
    (kk : ∀ (st' : St) (H1 : Heap) (locs1 : List Loc), post st' → GH D cy ad n st' A H0 H1 locs1 → W p l e R s m args below meth c H1 locs1 (cells + mc) (slots + ms) Q (F0 m (pc + 3) ls rest)) : W p l e R s m args below meth c H locs cells slots Q (F0 m pc ls st0) :=
  vx_callv hr hG.2.2 (fun q _ h => g_free hG hA q h) (g_free hG hA) (fun q _ h => g_free hG hA q h) (fun E ce q9 u t H1 locs1 ht _ _ hb _ _ hS hce hcv hcl => kx E u H1 locs1 ce q9 hb.1 (g_back hG hb.2 ht hS) hce hcv hcl) (fun u t H1 locs1 ht _ hw hB _ _ hS => kk u H1 locs1 hw (g_back hG hB ht hS))
theorem gx_gor {post : St → Prop} {X : Nat} (hG : GH D cy ad n st A H0 H locs) (hA : ∀ q, H0.size ≤ q → A q) (hr : vx_Run p l e R s m args below meth c H locs cells slots mc ms (F0 m pc ls st0) rest (va_Qr post (fun st' ra t => ra = X ∧ gP D cy ad n st' t) (gA n ad H.size) a) (gX D cy ad n pX (gA n ad H.size)) (gA n ad H.size))
    (kx : ∀ (E : String) (st' : St) (H1 : Heap) (locs1 : List Loc) (ce : Cell) (q9 : Addr), pX E st' → GH D cy ad n st' A H0 H1 locs1 → H1[q9]? = some ce → ce.vm = .none → s.vm.findClass E = some ce.cls → vx_W p l e R s m args below meth c H1 locs1 (cells + mc) (slots + ms) Q (F0 m pc ls rest) q9)
    (kk : ∀ (st' : St) (H1 : Heap) (locs1 : List Loc), post st' → GH D cy ad n st' A H0 H1 locs1 → W p l e R s m args below meth c H1 locs1 (cells + mc) (slots + ms) Q (F0 m (pc + 3) ls (.ref X :: rest))) : W p l e R s m args below meth c H locs cells slots Q (F0 m pc ls st0) :=
  xr_callr hr hG.2.2 (fun q _ h => g_free hG hA q h) (g_free hG hA) (fun q _ h => g_free hG hA q h) (fun E ce q9 u t H1 locs1 ht _ _ hb _ _ hS hce hcv hcl => kx E u H1 locs1 ce q9 hb.1 (g_back hG hb.2 ht hS) hce hcv hcl) (fun u ra t H1 locs1 ht _ hw hB _ _ hS => by
    obtain ⟨rfl, hB⟩ := hB
    exact kk u H1 locs1 hw (g_back hG hB ht hS))
theorem g_aret {post : St → Prop} {X : Nat} {rt : FieldType} (hexec : p.tables.exec = Jvm.exec) (hb : c.code = cc) (hr : meth.sig.returnType = some rt) (hrt : ∃ nm, rt = .object nm) (hlocks : meth.locks = false) (hG : GH D cy ad n st A s.heap H locs) (hp : post st) (hdg : decode cc pc = .ok (.areturn, 1)) : W p l e R s m args below meth c H locs cells slots (MQ below (va_Qr post (fun st' ra t => ra = X ∧ gP D cy ad n st' t) A) args s cells slots A) (F0 m pc ls [.ref X]) :=
  W.aret (v := .ref X) hexec hb hr (Or.inl hrt) (Or.inr ⟨X, rfl⟩) (fun t ht hW => ⟨⟨st, X, rfl, hp, rfl, by unfold gP; rw [ht]; exact hG.1⟩, hG.2.2.F ht⟩) hG.2.2.2.2 hdg hlocks
/-- 'throw new E("text")' in the class -/
theorem g_xthrow {cls text : String} {ik is ic : Nat} {ws : List Cond} (hexec : p.tables.exec = Jvm.exec) (hb : c.code = cc) (hl : l.stackTraces = false) (hown : s.vm.findClass RX5 = some m.cls) (hts : ∀ w ∈ ws, w.before args s = true)
    (hcls : Bundle.fit cls = true) (hnb : ∀ w ∈ (vx_atS RX5 ic cls xN).filter (fun w => !goodWord w), w ∈ gnw) (hgood : ∀ w ∈ Cond.classLink RX5 ik cls :: Cond.initialized cls :: vx_atS RX5 ic cls xN, vx_ot w = true)
    (hk : Cond.classLink RX5 ik cls ∈ ws) (hini : Cond.initialized cls ∈ ws) (hat : ∀ w ∈ (vx_atS RX5 ic cls xN).filter goodWord, w ∈ ws) (hsw : (is, text) ∈ gst)
    (hN : gN s) (hZ : gZ fz A s s.heap) (hG : GH D cy ad n st A s.heap H locs) (hsize : ls.size = c.maxLocals)
    (d0 : decode cc pc = .ok (.new ik, 3)) (d3 : decode cc (pc + 3) = .ok (.dup, 1)) (d4 : decode cc (pc + 4) = .ok (.ldc is, 2)) (d6 : decode cc (pc + 6) = .ok (.invokespecial ic, 3)) (d9 : decode cc (pc + 9) = .ok (.athrow, 1))
    (hnt : ∀ x ∈ c.exceptionTable.toList, False) (hRf : 6 ≤ R.frames) (hRl : (rest.map fun v => v.category).sum + 82 ≤ R.locals) (hRc : cells + 1 ≤ R.cells) (hRs : slots + 6 ≤ R.slots) (hlocks : meth.locks = false)
    (hp : pX cls st) (hc : cells + 1 ≤ m2) (hs : slots + 6 ≤ n2) : W p l e R s m args below meth c H locs cells slots (vx_MQ below Qc (gX D cy ad n pX A) args s m2 n2 A) (F0 m pc ls rest) := by
  obtain ⟨sa, hstr⟩ := hN.2.1 _ hsw
  exact vx_throwS (names := xN) (sa := sa) hexec hb hl hown hcls (by decide +kernel) (hts _ hk) (hts _ hini) hstr (vx_hat (B := gnw) (fun w h => hts w (hat w h)) hnb (fun w hw => va_Nw.use (gnw_t w hw) (hN.1 w hw))) hgood hZ.2.2.1 hZ.2.2.2 hG.2.2 hsize d0 d3 d4 d6 d9 (fun x hx => (hnt x hx).elim) hRf hRl hRc hRs hlocks
    (fun t _ hz hq => ⟨st, trivial, ⟨hp, hG.1.kept (fun k q hk => hq q.1 (vx_lt hG.1 hk))⟩, ⟨Nat.le_trans hG.2.2.1 hz, fun q h1 h2 => (hq q (Nat.lt_of_lt_of_le h1 hG.2.2.1)).trans (hG.2.2.2.1 q h1 h2)⟩⟩) hG.2.2.2.2 hc hs
/-- a tile out of the row of tiles -/
theorem g_tld (hexec : p.tables.exec = Jvm.exec) (hb : c.code = cc) (hn : 75 ≤ n) (hK : va_K D vwCl (gtys cy) s) (hG : GH D cy ad n st A H0 H locs) {i : Int} {t : Nat} (hi : i = (t : Int)) (ht : t < 6) (hdg : decode cc pc = .ok (.aaload, 1))
    (kk : W p l e R s m args below meth c H locs cells slots Q (F0 m (pc + 1) ls (.ref (ad (33 + 7 * t)) :: rest))) : W p l e R s m args below meth c H locs cells slots Q (F0 m pc ls (.int (iI i) :: .ref (ad 23) :: rest)) := by
  subst hi
  refine va_aldq hexec hb hK hG.1 (23 - 19) 3 (cA := cy 3) (C := RX4) (n := 6) (f := fun j => some (ad (33 + 7 * j))) ((gw_at (k := 23) (by omega)).trans (by rw [gC_23])) rfl (iI_in (by omega) (by omega) (by decide)) hdg ?_
  rw [iI_cl (by omega) (by omega), Int.toNat_natCast]
  exact kk
/-- a layer out of the row of layers -/
theorem g_lld (hexec : p.tables.exec = Jvm.exec) (hb : c.code = cc) (hn : 75 ≤ n) (hK : va_K D vwCl (gtys cy) s) (hG : GH D cy ad n st A H0 H locs) {i : Int} {q : Nat} (hi : i = (q : Int)) (hq : q < 6) (hdg : decode cc pc = .ok (.aaload, 1))
    (kk : (q : Int) < st 33 0 0 → W p l e R s m args below meth c H locs cells slots Q (F0 m (pc + 1) ls (.ref (ad (75 + 3 * q)) :: rest))) (kn : ¬ (q : Int) < st 33 0 0 → W p l e R s m args below meth c H locs cells slots Q (F0 m (pc + 1) ls (.null :: rest))) : W p l e R s m args below meth c H locs cells slots Q (F0 m pc ls (.int (iI i) :: .ref (ad 24) :: rest)) := by
  subst hi
  refine va_aldq hexec hb hK hG.1 (24 - 19) 2 (cA := cy 2) (C := RX0) (n := 6) (f := fun j => if (j : Int) < st 33 0 0 then some (ad (75 + 3 * j)) else none) ((gw_at (k := 24) (by omega)).trans (by rw [gC_24])) rfl (iI_in (by omega) (by omega) (by decide)) hdg ?_
  rw [iI_cl (by omega) (by omega), Int.toNat_natCast]
  by_cases h : (q : Int) < st 33 0 0
  · rw [if_pos h]; exact kk h
  · rw [if_neg h]; exact kn h
/-- a reference that is null below 0 -/
theorem g_refs {b w : Nat} {z : Int} (kn : z < 0 → W p l e R s m args below meth c H locs cells slots Q (F0 m pc ls (.null :: rest))) (kk : ∀ t : Nat, z = (t : Int) → W p l e R s m args below meth c H locs cells slots Q (F0 m pc ls (.ref (ad (b + w * t)) :: rest))) : W p l e R s m args below meth c H locs cells slots Q (F0 m pc ls (va_rf (gref ad b w z) :: rest)) := by
  unfold gref
  by_cases h : z < 0
  · rw [if_pos h]; exact kn h
  · rw [if_neg h]
    exact kk z.toNat (by omega)
end GX
theorem xnbI : ∀ w ∈ (vx_atS RX5 245 xI xN).filter (fun w => !goodWord w), w ∈ gnw := by decide +kernel
theorem xnbA : ∀ w ∈ (vx_atS RX5 94 xA xN).filter (fun w => !goodWord w), w ∈ gnw := by decide +kernel
theorem xnbS : ∀ w ∈ (vx_atS RX5 57 xS xN).filter (fun w => !goodWord w), w ∈ gnw := by decide +kernel
theorem xgdI : ∀ w ∈ Cond.classLink RX5 241 xI :: Cond.initialized xI :: vx_atS RX5 245 xI xN, vx_ot w = true := by decide +kernel
theorem xgdA : ∀ w ∈ Cond.classLink RX5 90 xA :: Cond.initialized xA :: vx_atS RX5 94 xA xN, vx_ot w = true := by decide +kernel
theorem xgdS : ∀ w ∈ Cond.classLink RX5 53 xS :: Cond.initialized xS :: vx_atS RX5 57 xS xN, vx_ot w = true := by decide +kernel
theorem xftI : Bundle.fit xI = true := by decide +kernel
theorem xftA : Bundle.fit xA = true := by decide +kernel
theorem xftS : Bundle.fit xS = true := by decide +kernel
