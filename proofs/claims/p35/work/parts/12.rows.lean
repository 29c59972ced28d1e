/-! ===== what no method changes: links of nest mates, texts, statics ===== -/
def gnw : List Cond := [.fieldLinkNest RX0 43 RX5 "FACTORS" "[I" RX5, .methodLinkNest RX0 74 yX5_inputOf RX5, .methodLinkNest RX0 91 yX5_quotient RX5, .methodLinkNest RX4 51 yX5_indexOf RX5, .methodLinkNest RX4 63 yX5_quotient RX5, .castable "java/lang/IndexOutOfBoundsException" "java/lang/IndexOutOfBoundsException", .castable "java/lang/IllegalArgumentException" "java/lang/IllegalArgumentException", .castable "java/lang/IllegalStateException" "java/lang/IllegalStateException", .declares ⟨"java/lang/RuntimeException", "<init>", "(Ljava/lang/String;)V"⟩, .declares ⟨"java/lang/Exception", "<init>", "(Ljava/lang/String;)V"⟩, .declares ⟨"java/lang/Throwable", "<init>", "(Ljava/lang/String;)V"⟩]
def gst : List (Nat × String) := [(114, "the layer is placed, or the tile has one"), (137, "the cell is stuck"), (155, "the hour would be above 1000000"), (175, "no such number of converters"), (206, "the layer has more than 4 inputs"), (243, "there is no such layer"), (246, "there is no such tile"), (248, "the layer is not placed"), (250, "there is no such one"), (252, "an argument is out of range"), (55, "there are 6 layers"), (92, "no chain can go on there")]
def gnc : List (String × String) := []
def gN (U : State) : Prop := (∀ w ∈ gnw, va_Nw w U) ∧ (∀ q ∈ gst, ∃ a : Nat, vk_R RX5 q.1 q.2 a U) ∧ ∀ q ∈ gnc, va_Nc q.1 q.2 U
theorem gnw_t : ∀ w ∈ gnw, w.onTables = true := by decide +kernel
theorem gN.same {u U : State} (hv : u.vm = U.vm) (h : gN u) : gN U := ⟨fun w hw => va_Nw.same (gnw_t w hw) hv (h.1 w hw), fun q hq => (h.2.1 q hq).imp fun a k => k.same hv.symm, fun q hq => (h.2.2 q hq).moved (by rw [hv]; exact Vm.Alike.refl _)⟩
theorem gN.warm {s U : State} (hW : s.WarmedH U.vm) (h : gN s) : gN U := by
  refine ⟨fun w hw => ?_, fun q hq => (h.2.1 q hq).imp fun a k => k.warm hW, fun q hq => (h.2.2 q hq).moved hW.alike⟩
  have h1 := h.1 w hw
  simp only [gnw, List.mem_cons, List.not_mem_nil, or_false] at hw
  rcases hw with rfl | rfl | rfl | rfl | rfl | rfl | rfl | rfl | rfl | rfl | rfl
  · exact va_Nw.warmF hW h1
  · exact va_Nw.warmM hW h1
  · exact va_Nw.warmM hW h1
  · exact va_Nw.warmM hW h1
  · exact va_Nw.warmM hW h1
  · exact va_Nw.warmC hW h1
  · exact va_Nw.warmC hW h1
  · exact va_Nw.warmC hW h1
  · exact va_Nw.warmD hW h1
  · exact va_Nw.warmD hW h1
  · exact va_Nw.warmD hW h1
def gfac (j : Nat) : Int := if j = 0 then 1 else if j = 1 then 16 else if j = 2 then -1 else -16
def gZ (fz : Nat) (A : Nat → Prop) (U : State) (H : Heap) : Prop := va_Z RX5 "FACTORS" "[I" (.ref fz) A U H ∧ va_T .int fz 4 (fun j => .int (iI (gfac j))) A U H ∧ vx_Zq Bundle.tN "UNASSIGNED_STACK" Bundle.steD A U H ∧ vx_Zq Bundle.tN "SUPPRESSED_SENTINEL" Bundle.listD A U H
theorem gZ.moved {fz : Nat} {A : Nat → Prop} {u U : State} {H : Heap} (hvm : u.vm.Alike U.vm) (h : gZ fz A u H) : gZ fz A U H := ⟨h.1.moved hvm, h.2.1.moved hvm, h.2.2.1.moved hvm, h.2.2.2.moved hvm⟩
theorem gZ.kept {fz : Nat} {A : Nat → Prop} {U : State} {H H1 : Heap} (h : gZ fz A U H) (hq : ∀ a : Nat, a < H.size → ¬ A a → H1[a]? = H[a]?) : gZ fz A U H1 := ⟨h.1.kept hq, h.2.1.kept hq, h.2.2.1.kept hq, h.2.2.2.kept hq⟩
theorem gZ.narrow {fz : Nat} {A B : Nat → Prop} {U : State} {H : Heap} (h : gZ fz A U H) (hAB : ∀ q, B q → A q) : gZ fz B U H := ⟨h.1.narrow hAB, h.2.1.narrow hAB, h.2.2.1.narrow hAB, h.2.2.2.narrow hAB⟩
/-! ===== a contract's start and end over the one world ===== -/
def gB (D : va_G) (cy : Nat → ClassId) (ad : Nat → Nat) (n : Nat) (st : St) (sz fz : Nat) (U : State) : Prop := U.heap.size = sz ∧ va_P D vwCl (gw n ad (gC st ad cy)) U.heap ∧ va_K D vwCl (gtys cy) U ∧ va_D (fun _ => True) (gw n ad (gC st ad cy)) ∧ gN U ∧ gZ fz (gA n ad sz) U U.heap
def gP (D : va_G) (cy : Nat → ClassId) (ad : Nat → Nat) (n : Nat) (st : St) (t : State) : Prop := va_P D vwCl (gw n ad (gC st ad cy)) t.heap
theorem g_blind {D : va_G} {cy : Nat → ClassId} {ad : Nat → Nat} {n sz fz : Nat} {st : St} {av : List Value} : FrameBlind (va_Pc av (gB D cy ad n st sz fz)) := fun a U g mk q => by
  obtain ⟨q0, q1, qP, qK, qD, qN, qZ⟩ := q
  exact ⟨q0, q1, qP, va_K.moved (u := U) (U := U.calling g mk a) (Vm.Alike.refl U.vm) qK, qD, gN.same (u := U) (U := U.calling g mk a) rfl qN, gZ.moved (u := U) (U := U.calling g mk a) (Vm.Alike.refl U.vm) qZ⟩
section GROW
variable {p : Program} {l : Launch} {e : Env} {R : Room} {s : State} {m : MethodId} {args : Array Value} {below : List Frame} {meth : Method} {c : Code} {H : Heap} {locs : List Loc} {cells slots : Nat} {Q : State → Prop}
variable {cc : ByteArray} {pc : Nat} {ls : Array Slot} {rest st0 : List Value} {D : va_G} {cy : Nat → ClassId} {ad : Nat → Nat} {n fz mc ms : Nat} {st : St} {A : Nat → Prop} {H0 : Heap} {a : Array Value}
theorem g_free (hG : GH D cy ad n st A H0 H locs) (hA : ∀ q, H0.size ≤ q → A q) : ∀ q, gA n ad H.size q → A q := by
  intro q h
  rcases h with ⟨k, hk, rfl⟩ | h
  · exact hG.2.1.2 _ _ (gw_at hk)
  · exact hA q (Nat.le_trans hG.2.2.1 h)
/-- a callee's start, out of the caller's world -/
theorem g_pre {av : List Value} (hK : va_K D vwCl (gtys cy) s) (hG : GH D cy ad n st A s.heap H locs) (hA : ∀ q, s.heap.size ≤ q → A q) (hN : gN s) (hZ : gZ fz A s s.heap) : ∀ U : State, U.heap = H → s.WarmedH U.vm → va_Pc av (gB D cy ad n st H.size fz) av.toArray U := by
  intro U hU hW
  refine ⟨rfl, by rw [hU], by rw [hU]; exact hG.1, va_K.moved hW.alike hK, ⟨hG.2.1.1, fun _ _ _ => trivial⟩, hN.warm hW, ?_⟩
  rw [hU]
  exact (gZ.narrow ((gZ.kept hZ (H1 := H) (fun a h1 h2 => hG.2.2.2.1 a h1 h2))) (g_free hG hA)).moved hW.alike
theorem g_back {st' : St} {t : State} {H1 : Heap} {locs1 : List Loc} (hG : GH D cy ad n st A H0 H locs) (hB : gP D cy ad n st' t) (ht : t.heap = H1) (hS : va_S A H0 H1 locs1) : GH D cy ad n st' A H0 H1 locs1 := ⟨by rw [← ht]; exact hB, gw_D hG.2.1, hS⟩
theorem g_goi {post : Int32 → St → Prop} (hG : GH D cy ad n st A H0 H locs) (hA : ∀ q, H0.size ≤ q → A q) (hr : va_Run p l e R s m args below meth c H locs cells slots mc ms (F0 m pc ls st0) rest (va_Qi post (gP D cy ad n) (gA n ad H.size) a) (gA n ad H.size))
    (kk : ∀ (r : Int32) (st' : St) (H1 : Heap) (locs1 : List Loc), post r st' → GH D cy ad n st' A H0 H1 locs1 → W p l e R s m args below meth c H1 locs1 (cells + mc) (slots + ms) Q (F0 m (pc + 3) ls (.int r :: rest))) : W p l e R s m args below meth c H locs cells slots Q (F0 m pc ls st0) :=
  va_calli hr hG.2.2 (fun q _ h => g_free hG hA q h) (g_free hG hA) (fun r u t H1 locs1 ht _ hw hB _ _ hS => kk r u H1 locs1 hw (g_back hG hB ht hS))
theorem g_gol {post : Int64 → St → Prop} (hG : GH D cy ad n st A H0 H locs) (hA : ∀ q, H0.size ≤ q → A q) (hr : va_Run p l e R s m args below meth c H locs cells slots mc ms (F0 m pc ls st0) rest (va_Ql post (gP D cy ad n) (gA n ad H.size) a) (gA n ad H.size))
    (kk : ∀ (r : Int64) (st' : St) (H1 : Heap) (locs1 : List Loc), post r st' → GH D cy ad n st' A H0 H1 locs1 → W p l e R s m args below meth c H1 locs1 (cells + mc) (slots + ms) Q (F0 m (pc + 3) ls (.long r :: rest))) : W p l e R s m args below meth c H locs cells slots Q (F0 m pc ls st0) :=
  va_calll hr hG.2.2 (fun q _ h => g_free hG hA q h) (g_free hG hA) (fun r u t H1 locs1 ht _ hw hB _ _ hS => kk r u H1 locs1 hw (g_back hG hB ht hS))
theorem g_gof {post : UInt32 → St → Prop} (hG : GH D cy ad n st A H0 H locs) (hA : ∀ q, H0.size ≤ q → A q) (hr : va_Run p l e R s m args below meth c H locs cells slots mc ms (F0 m pc ls st0) rest (va_Qf post (gP D cy ad n) (gA n ad H.size) a) (gA n ad H.size))
    (kk : ∀ (r : UInt32) (st' : St) (H1 : Heap) (locs1 : List Loc), post r st' → GH D cy ad n st' A H0 H1 locs1 → W p l e R s m args below meth c H1 locs1 (cells + mc) (slots + ms) Q (F0 m (pc + 3) ls (.float r :: rest))) : W p l e R s m args below meth c H locs cells slots Q (F0 m pc ls st0) :=
  va_callf hr hG.2.2 (fun q _ h => g_free hG hA q h) (g_free hG hA) (fun r u t H1 locs1 ht _ hw hB _ _ hS => kk r u H1 locs1 hw (g_back hG hB ht hS))
theorem g_gov {post : St → Prop} (hG : GH D cy ad n st A H0 H locs) (hA : ∀ q, H0.size ≤ q → A q) (hr : va_Run p l e R s m args below meth c H locs cells slots mc ms (F0 m pc ls st0) rest (va_Qv post (gP D cy ad n) (gA n ad H.size) a) (gA n ad H.size))
    (kk : ∀ (st' : St) (H1 : Heap) (locs1 : List Loc), post st' → GH D cy ad n st' A H0 H1 locs1 → W p l e R s m args below meth c H1 locs1 (cells + mc) (slots + ms) Q (F0 m (pc + 3) ls rest)) : W p l e R s m args below meth c H locs cells slots Q (F0 m pc ls st0) :=
  va_callv hr hG.2.2 (fun q _ h => g_free hG hA q h) (g_free hG hA) (fun u t H1 locs1 ht _ hw hB _ _ hS => kk u H1 locs1 hw (g_back hG hB ht hS))
/-! ===== ends ===== -/
theorem g_iret {post : Int32 → St → Prop} {v : Int32} {ls : Array Slot} (hexec : p.tables.exec = Jvm.exec) (hb : c.code = cc) (hr : meth.sig.returnType = some .int) (hlocks : meth.locks = false) (hG : GH D cy ad n st A s.heap H locs) (hp : post v st) (hdg : decode cc pc = .ok (.ireturn, 1)) : W p l e R s m args below meth c H locs cells slots (MQ below (va_Qi post (gP D cy ad n) A) args s cells slots A) (F0 m pc ls [.int v]) :=
  W.iret (v := v) hexec hb hr (fun t ht hW => ⟨⟨v, st, rfl, hp, by unfold gP; rw [ht]; exact hG.1⟩, hG.2.2.F ht⟩) hG.2.2.2.2 hdg hlocks
theorem g_zret {post : Int32 → St → Prop} {v : Int32} {ls : Array Slot} (hexec : p.tables.exec = Jvm.exec) (hb : c.code = cc) (hr : meth.sig.returnType = some .boolean) (hlocks : meth.locks = false) (hn : narrow .boolean (.int v) = .int v) (hG : GH D cy ad n st A s.heap H locs) (hp : post v st) (hdg : decode cc pc = .ok (.ireturn, 1)) : W p l e R s m args below meth c H locs cells slots (MQ below (va_Qi post (gP D cy ad n) A) args s cells slots A) (F0 m pc ls [.int v]) :=
  W.zret (v := v) hexec hb hr hn (fun t ht hW => ⟨⟨v, st, rfl, hp, by unfold gP; rw [ht]; exact hG.1⟩, hG.2.2.F ht⟩) hG.2.2.2.2 hdg hlocks
theorem g_lret {post : Int64 → St → Prop} {v : Int64} {ls : Array Slot} (hexec : p.tables.exec = Jvm.exec) (hb : c.code = cc) (hr : meth.sig.returnType = some .long) (hlocks : meth.locks = false) (hG : GH D cy ad n st A s.heap H locs) (hp : post v st) (hdg : decode cc pc = .ok (.lreturn, 1)) : W p l e R s m args below meth c H locs cells slots (MQ below (va_Ql post (gP D cy ad n) A) args s cells slots A) (F0 m pc ls [.long v]) :=
  W.lret (v := v) hexec hb hr (fun t ht hW => ⟨⟨v, st, rfl, hp, by unfold gP; rw [ht]; exact hG.1⟩, hG.2.2.F ht⟩) hG.2.2.2.2 hdg hlocks
theorem g_fret {post : UInt32 → St → Prop} {v : UInt32} {ls : Array Slot} (hexec : p.tables.exec = Jvm.exec) (hb : c.code = cc) (hr : meth.sig.returnType = some .float) (hlocks : meth.locks = false) (hG : GH D cy ad n st A s.heap H locs) (hp : post v st) (hdg : decode cc pc = .ok (.freturn, 1)) : W p l e R s m args below meth c H locs cells slots (MQ below (va_Qf post (gP D cy ad n) A) args s cells slots A) (F0 m pc ls [.float v]) :=
  W.fret (v := v) hexec hb hr (fun t ht hW => ⟨⟨v, st, rfl, hp, by unfold gP; rw [ht]; exact hG.1⟩, hG.2.2.F ht⟩) hG.2.2.2.2 hdg hlocks
theorem g_vret {post : St → Prop} {ls : Array Slot} (hexec : p.tables.exec = Jvm.exec) (hb : c.code = cc) (hr : meth.sig.returnType = none) (hlocks : meth.locks = false) (hG : GH D cy ad n st A s.heap H locs) (hp : post st) (hdg : decode cc pc = .ok (.return_, 1)) : W p l e R s m args below meth c H locs cells slots (MQ below (va_Qv post (gP D cy ad n) A) args s cells slots A) (F0 m pc ls []) :=
  W.vret hexec hb hr (fun t ht hW => ⟨⟨st, rfl, hp, by unfold gP; rw [ht]; exact hG.1⟩, hG.2.2.F ht⟩) hG.2.2.2.2 hdg hlocks
/-! ===== arithmetic by integers ===== -/
theorem r_iadd {x y : Int} (hexec : p.tables.exec = Jvm.exec) (hb : c.code = cc) (hdg : decode cc pc = .ok (.iadd, 1)) (k : W p l e R s m args below meth c H locs cells slots Q (F0 m (pc + 1) ls (.int (iI (x + y)) :: rest))) : W p l e R s m args below meth c H locs cells slots Q (F0 m pc ls (.int (iI y) :: .int (iI x) :: rest)) :=
  lv_iadd hexec hb hdg (by rw [iI_add]; exact k)
theorem r_isub {x y : Int} (hexec : p.tables.exec = Jvm.exec) (hb : c.code = cc) (hdg : decode cc pc = .ok (.isub, 1)) (k : W p l e R s m args below meth c H locs cells slots Q (F0 m (pc + 1) ls (.int (iI (x - y)) :: rest))) : W p l e R s m args below meth c H locs cells slots Q (F0 m pc ls (.int (iI y) :: .int (iI x) :: rest)) :=
  lv_isub hexec hb hdg (by rw [iI_sub]; exact k)
theorem r_imul {x y : Int} (hexec : p.tables.exec = Jvm.exec) (hb : c.code = cc) (hdg : decode cc pc = .ok (.imul, 1)) (k : W p l e R s m args below meth c H locs cells slots Q (F0 m (pc + 1) ls (.int (iI (x * y)) :: rest))) : W p l e R s m args below meth c H locs cells slots Q (F0 m pc ls (.int (iI y) :: .int (iI x) :: rest)) :=
  lv_imul hexec hb hdg (by rw [iI_mul]; exact k)
theorem r_ineg {x : Int} (hexec : p.tables.exec = Jvm.exec) (hb : c.code = cc) (hdg : decode cc pc = .ok (.ineg, 1)) (k : W p l e R s m args below meth c H locs cells slots Q (F0 m (pc + 1) ls (.int (iI (-x)) :: rest))) : W p l e R s m args below meth c H locs cells slots Q (F0 m pc ls (.int (iI x) :: rest)) :=
  lv_ineg hexec hb hdg (by rw [iI_neg]; exact k)
theorem r_idiv {x y : Int} (hexec : p.tables.exec = Jvm.exec) (hb : c.code = cc) (h : 0 ≤ x ∧ x < 2147483648 ∧ 0 < y ∧ y < 2147483648) (hdg : decode cc pc = .ok (.idiv, 1)) (k : W p l e R s m args below meth c H locs cells slots Q (F0 m (pc + 1) ls (.int (iI (x / y)) :: rest))) : W p l e R s m args below meth c H locs cells slots Q (F0 m pc ls (.int (iI y) :: .int (iI x) :: rest)) :=
  lv_idiv hexec hb hdg (by rw [iI_0, iI_eq (by omega) (by omega) (by omega) (by omega)]; omega) (by rw [iI_div h.1 h.2.1 h.2.2.1 h.2.2.2]; exact k)
theorem r_irem {x y : Int} (hexec : p.tables.exec = Jvm.exec) (hb : c.code = cc) (h : 0 ≤ x ∧ x < 2147483648 ∧ 0 < y ∧ y < 2147483648) (hdg : decode cc pc = .ok (.irem, 1)) (k : W p l e R s m args below meth c H locs cells slots Q (F0 m (pc + 1) ls (.int (iI (x % y)) :: rest))) : W p l e R s m args below meth c H locs cells slots Q (F0 m pc ls (.int (iI y) :: .int (iI x) :: rest)) :=
  lv_irem hexec hb hdg (by rw [iI_0, iI_eq (by omega) (by omega) (by omega) (by omega)]; omega) (by rw [iI_rem h.1 h.2.1 h.2.2.1 h.2.2.2]; exact k)
theorem r_iand {x m0 : Int} (k0 : Nat) (hexec : p.tables.exec = Jvm.exec) (hb : c.code = cc) (hk : k0 ≤ 30) (hm : m0 = 2 ^ k0 - 1) (hdg : decode cc pc = .ok (.iand, 1)) (k : W p l e R s m args below meth c H locs cells slots Q (F0 m (pc + 1) ls (.int (iI (x % 2 ^ k0)) :: rest))) : W p l e R s m args below meth c H locs cells slots Q (F0 m pc ls (.int (iI m0) :: .int (iI x) :: rest)) :=
  lv_iand hexec hb hdg (by rw [iI_and x hk hm]; exact k)
theorem r_ior {x y : Nat} (hexec : p.tables.exec = Jvm.exec) (hb : c.code = cc) (hdg : decode cc pc = .ok (.ior, 1)) (k : W p l e R s m args below meth c H locs cells slots Q (F0 m (pc + 1) ls (.int (iI ((x ||| y : Nat) : Int)) :: rest))) : W p l e R s m args below meth c H locs cells slots Q (F0 m pc ls (.int (iI (y : Int)) :: .int (iI (x : Int)) :: rest)) :=
  lv_ior hexec hb hdg (by rw [iI_orN]; exact k)
theorem r_ishl {x : Int} {k0 : Nat} (hexec : p.tables.exec = Jvm.exec) (hb : c.code = cc) (hk : k0 < 32) (hdg : decode cc pc = .ok (.ishl, 1)) (k : W p l e R s m args below meth c H locs cells slots Q (F0 m (pc + 1) ls (.int (iI (x * 2 ^ k0)) :: rest))) : W p l e R s m args below meth c H locs cells slots Q (F0 m pc ls (.int (iI (k0 : Int)) :: .int (iI x) :: rest)) :=
  lv_ishl hexec hb hdg (by rw [iI_shl x hk]; exact k)
theorem r_ishr {x : Int} {k0 : Nat} (hexec : p.tables.exec = Jvm.exec) (hb : c.code = cc) (hk : k0 < 32) (h : -2147483648 ≤ x ∧ x < 2147483648) (hdg : decode cc pc = .ok (.ishr, 1)) (k : W p l e R s m args below meth c H locs cells slots Q (F0 m (pc + 1) ls (.int (iI (x / 2 ^ k0)) :: rest))) : W p l e R s m args below meth c H locs cells slots Q (F0 m pc ls (.int (iI (k0 : Int)) :: .int (iI x) :: rest)) :=
  lv_ishr hexec hb hdg (by rw [iI_shr h.1 h.2 hk]; exact k)
/-- another writing of the number on the stack -/
theorem r_as {x y : Int} (h : x = y) (k : W p l e R s m args below meth c H locs cells slots Q (F0 m pc ls (.int (iI y) :: rest))) : W p l e R s m args below meth c H locs cells slots Q (F0 m pc ls (.int (iI x) :: rest)) := by
  rw [h]; exact k
theorem r_nm {x : Int} (k : ∀ y : Int, y = x → W p l e R s m args below meth c H locs cells slots Q (F0 m pc ls (.int (iI y) :: rest))) : W p l e R s m args below meth c H locs cells slots Q (F0 m pc ls (.int (iI x) :: rest)) := k x rfl
theorem r_asI {x : Int32} {y : Int} (h : x = iI y) (k : W p l e R s m args below meth c H locs cells slots Q (F0 m pc ls (.int (iI y) :: rest))) : W p l e R s m args below meth c H locs cells slots Q (F0 m pc ls (.int x :: rest)) := by
  rw [h]; exact k
end GROW
