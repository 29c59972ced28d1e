section
-- ===== PART A: goes FIRST, ahead of the names: the tables' words, and 'selects' of the private methods out of them =====
/-- a private method of a class that the tables say can be made, by its rows of tables_1 -/
def lw_okq (q : MethodName × Nat) : Prop := (q.1.cls ≠ "java/lang/invoke/MethodHandle" ∧ q.1.cls ≠ "java/lang/invoke/VarHandle") ∧ Cond.instantiable q.1.cls q.2 ∈ tables_1 ∧ Cond.privateMethod q.1 ∈ tables_1 ∧ Cond.instanceMethod q.1 ∈ tables_1
theorem lw_p0 : lw_okq (⟨"java/lang/Throwable", "fillInStackTrace", "(I)Ljava/lang/Throwable;"⟩, 6) := ⟨⟨by decide +kernel, by decide +kernel⟩, List.mem_of_getElem? (i := 199) (by decide +kernel), List.mem_of_getElem? (i := 197) (by decide +kernel), List.mem_of_getElem? (i := 198) (by decide +kernel)⟩
theorem lw_p1 : lw_okq (⟨"Crossbarry", "layerAt", "(I)LCrossbarry$Layer;"⟩, 6) := ⟨⟨by decide +kernel, by decide +kernel⟩, List.mem_of_getElem? (i := 16) (by decide +kernel), List.mem_of_getElem? (i := 288) (by decide +kernel), List.mem_of_getElem? (i := 289) (by decide +kernel)⟩
theorem lw_p2 : lw_okq (⟨"Crossbarry", "tileAt", "(I)LCrossbarry$Tile;"⟩, 6) := ⟨⟨by decide +kernel, by decide +kernel⟩, List.mem_of_getElem? (i := 16) (by decide +kernel), List.mem_of_getElem? (i := 337) (by decide +kernel), List.mem_of_getElem? (i := 338) (by decide +kernel)⟩
theorem lw_p3 : lw_okq (⟨"Crossbarry$Seating", "fewestFrom", "(II)I"⟩, 2) := ⟨⟨by decide +kernel, by decide +kernel⟩, List.mem_of_getElem? (i := 50) (by decide +kernel), List.mem_of_getElem? (i := 383) (by decide +kernel), List.mem_of_getElem? (i := 384) (by decide +kernel)⟩
theorem lw_p4 : lw_okq (⟨"Crossbarry$Seating", "fewestWith", "(III)I"⟩, 2) := ⟨⟨by decide +kernel, by decide +kernel⟩, List.mem_of_getElem? (i := 50) (by decide +kernel), List.mem_of_getElem? (i := 387) (by decide +kernel), List.mem_of_getElem? (i := 388) (by decide +kernel)⟩
theorem lw_p5 : lw_okq (⟨"Crossbarry$Seating", "lowestBestRow", "(II)I"⟩, 2) := ⟨⟨by decide +kernel, by decide +kernel⟩, List.mem_of_getElem? (i := 50) (by decide +kernel), List.mem_of_getElem? (i := 394) (by decide +kernel), List.mem_of_getElem? (i := 395) (by decide +kernel)⟩
theorem lw_p6 : lw_okq (⟨"Crossbarry$Tile", "givePulse", "(III)V"⟩, 12) := ⟨⟨by decide +kernel, by decide +kernel⟩, List.mem_of_getElem? (i := 79) (by decide +kernel), List.mem_of_getElem? (i := 416) (by decide +kernel), List.mem_of_getElem? (i := 417) (by decide +kernel)⟩
theorem lw_p7 : lw_okq (⟨"Crossbarry$Seating", "misfitsOfWay", "(II)I"⟩, 2) := ⟨⟨by decide +kernel, by decide +kernel⟩, List.mem_of_getElem? (i := 50) (by decide +kernel), List.mem_of_getElem? (i := 511) (by decide +kernel), List.mem_of_getElem? (i := 512) (by decide +kernel)⟩
theorem lw_p8 : lw_okq (⟨"Crossbarry$Layer", "currentOn", "(LCrossbarry$Tile;JILCrossbarry$Setting;)I"⟩, 8) := ⟨⟨by decide +kernel, by decide +kernel⟩, List.mem_of_getElem? (i := 244) (by decide +kernel), List.mem_of_getElem? (i := 532) (by decide +kernel), List.mem_of_getElem? (i := 533) (by decide +kernel)⟩
theorem lw_p9 : lw_okq (⟨"Crossbarry$Layer", "needOf", "(I)I"⟩, 8) := ⟨⟨by decide +kernel, by decide +kernel⟩, List.mem_of_getElem? (i := 244) (by decide +kernel), List.mem_of_getElem? (i := 560) (by decide +kernel), List.mem_of_getElem? (i := 561) (by decide +kernel)⟩
theorem lw_p10 : lw_okq (⟨"Crossbarry", "tellPipeline", "(LCrossbarry$Layer;)V"⟩, 6) := ⟨⟨by decide +kernel, by decide +kernel⟩, List.mem_of_getElem? (i := 16) (by decide +kernel), List.mem_of_getElem? (i := 577) (by decide +kernel), List.mem_of_getElem? (i := 578) (by decide +kernel)⟩
theorem lw_p11 : lw_okq (⟨"Crossbarry$Pipeline", "moveOn", "()I"⟩, 3) := ⟨⟨by decide +kernel, by decide +kernel⟩, List.mem_of_getElem? (i := 64) (by decide +kernel), List.mem_of_getElem? (i := 608) (by decide +kernel), List.mem_of_getElem? (i := 609) (by decide +kernel)⟩
theorem lw_p12 : lw_okq (⟨"Crossbarry$Pipeline", "work", "()V"⟩, 3) := ⟨⟨by decide +kernel, by decide +kernel⟩, List.mem_of_getElem? (i := 64) (by decide +kernel), List.mem_of_getElem? (i := 612) (by decide +kernel), List.mem_of_getElem? (i := 613) (by decide +kernel)⟩
def lw_privs_1 : List (MethodName × Nat) := [(⟨"java/lang/Throwable", "fillInStackTrace", "(I)Ljava/lang/Throwable;"⟩, 6), (⟨"Crossbarry", "layerAt", "(I)LCrossbarry$Layer;"⟩, 6), (⟨"Crossbarry", "tileAt", "(I)LCrossbarry$Tile;"⟩, 6), (⟨"Crossbarry$Seating", "fewestFrom", "(II)I"⟩, 2), (⟨"Crossbarry$Seating", "fewestWith", "(III)I"⟩, 2), (⟨"Crossbarry$Seating", "lowestBestRow", "(II)I"⟩, 2), (⟨"Crossbarry$Tile", "givePulse", "(III)V"⟩, 12), (⟨"Crossbarry$Seating", "misfitsOfWay", "(II)I"⟩, 2), (⟨"Crossbarry$Layer", "currentOn", "(LCrossbarry$Tile;JILCrossbarry$Setting;)I"⟩, 8), (⟨"Crossbarry$Layer", "needOf", "(I)I"⟩, 8), (⟨"Crossbarry", "tellPipeline", "(LCrossbarry$Layer;)V"⟩, 6), (⟨"Crossbarry$Pipeline", "moveOn", "()I"⟩, 3), (⟨"Crossbarry$Pipeline", "work", "()V"⟩, 3)]
theorem lw_r1 : ∀ q ∈ lw_privs_1, lw_okq q := List.forall_mem_cons.mpr ⟨lw_p0, List.forall_mem_cons.mpr ⟨lw_p1, List.forall_mem_cons.mpr ⟨lw_p2, List.forall_mem_cons.mpr ⟨lw_p3, List.forall_mem_cons.mpr ⟨lw_p4, List.forall_mem_cons.mpr ⟨lw_p5, List.forall_mem_cons.mpr ⟨lw_p6, List.forall_mem_cons.mpr ⟨lw_p7, List.forall_mem_cons.mpr ⟨lw_p8, List.forall_mem_cons.mpr ⟨lw_p9, List.forall_mem_cons.mpr ⟨lw_p10, List.forall_mem_cons.mpr ⟨lw_p11, List.forall_mem_cons.mpr ⟨lw_p12, fun _ h => absurd h List.not_mem_nil⟩⟩⟩⟩⟩⟩⟩⟩⟩⟩⟩⟩⟩
def lw_privs : List (MethodName × Nat) := lw_privs_1
def lw_tbl : List Cond := k2_sels lw_privs ++ tables_1
theorem lw_privs_ok : ∀ q ∈ lw_privs, lw_okq q := lw_r1
/-- the streams that the claim lets the run draw from -/
abbrev lw_cs : List Choice := [Jvm.Choice.named "NaN.bits"]
theorem lw_bits : nanBits ∈ lw_cs := by first | decide | exact List.mem_cons_self | simp [lw_cs, nanBits]
end
section
/-! ===== BEGIN words of one list among another's, by their places ===== -/
theorem goodIn_r {big : List Cond} (ws : List Cond) (ps : List Nat) (hp : ws = ps.filterMap (fun i => big[i]?)) (h : ws.all goodWord = true) : GoodIn big ws := by
  intro w hw
  have h1 := List.all_eq_true.mp h w hw
  rw [hp] at hw
  obtain ⟨i, -, hi⟩ := List.mem_filterMap.mp hw
  have hm : w ∈ big := by first | exact List.mem_of_getElem? hi | exact List.getElem?_mem hi
  exact ⟨hm, good_of_word h1⟩
theorem goodIn_app {big a b : List Cond} (ha : GoodIn big a) (hb : GoodIn big b) : GoodIn big (a ++ b) := fun w h => (List.mem_append.mp h).elim (ha w) (hb w)
theorem goodIn_ca {big a b : List Cond} {c : Cond} (ha : GoodIn big (c :: a)) (hb : GoodIn big b) : GoodIn big (c :: (a ++ b)) := fun w h => (List.mem_cons.mp h).elim (fun e => ha w (List.mem_cons.mpr (Or.inl e))) (fun h => (List.mem_append.mp h).elim (fun h => ha w (List.mem_cons.mpr (Or.inr h))) (hb w))
theorem goodIn_sub {big ws : List Cond} (hm : ∀ w ∈ ws, w ∈ big) (h : ws.all goodWord = true) : GoodIn big ws := fun w hw => ⟨hm w hw, good_of_word (List.all_eq_true.mp h w hw)⟩
/-! ===== END ===== -/

/-! ===== BEGIN exceptions that leave a method, and their catching by the caller (launches without stack traces) ===== -/
section VXA
/-! The laws vx_back, vx_callV, vx_callS, vx_callSW, vx_throw0, vx_throwS follow proofs of the library, with one case more: JvmDerived/Free/Laws.lean (Back.of_free), Shelf42/LK1.lean (callV, callS), Shelf/KitTraced.lean (throwNew0V, throwNewS). -/
/-- where a method has thrown q: the class by its name, the cell, what was written, the world -/
def vx_T (XC : String → State → State → Prop) (st : State) (q : Addr) (t : State) (mc ms : Nat) (free : Addr → Prop) : Prop :=
  ∃ (E : String) (ce : Cell) (L : List Loc), XC E st t ∧ t.heap[q]? = some ce ∧ ce.vm = .none ∧ st.vm.findClass E = some ce.cls ∧ st.WarmedH t.vm ∧ st.sameButNew ({ t with vm := st.vm } : State) L mc ms ∧ ∀ z ∈ L, free z.base
def vx_Q (Qc : Array Value → State → Outcome → State → Prop) (XC : String → State → State → Prop) (mc ms : Nat) (free : Addr → Prop) : Array Value → State → Outcome → State → Prop := fun a st o t =>
  (Qc a st o t ∧ ∃ L, FrameEnd st o t L mc ms ∧ ∀ q ∈ L, free q.base) ∨ ∃ q, o = .threw q ∧ vx_T XC st q t mc ms free
/-- a callee that returns or throws -/
def vx_Met (l : Launch) (y : MethodName) (ws : List Cond) (rm : Room) (Pc : Array Value → State → Prop) (Qc : Array Value → State → Outcome → State → Prop) (XC : String → State → State → Prop) (mc ms : Nat) (free : Addr → Prop) : Prop :=
  MetFree l y (headSpec ws rm) Pc (fun _ _ _ _ _ => True) (vx_Q Qc XC mc ms free)
def vx_Post (XC : String → State → State → Prop) (mc ms : Nat) (free : Addr → Prop) : Pt → Array Value → Addr → Pt → Prop := fun A a q B =>
  ∃ (g : JFrame) (mk : MethodId) (t : State) (L : List Loc) (E : String) (ce : Cell), B.U.heap = t.heap ∧ B.U.vm = t.vm ∧ XC E (A.U.calling g mk a) t ∧ t.heap[q]? = some ce ∧ ce.vm = .none ∧ A.U.vm.findClass E = some ce.cls ∧ B.locs = A.locs ++ L ∧ (∀ z ∈ L, free z.base) ∧ B.cells = A.cells + mc ∧ B.slots = A.slots + ms
def vx_Back (l : Launch) (R : Room) (p : Program) (e : Env) (below : List Frame) (s : State) (sargs : Array Value) (y : MethodName) (len W9 : Nat)
    (Pre : Pt → Array Value → Prop) (Post : Pt → Array Value → Option Value → Pt → Prop) (PostX : Pt → Array Value → Addr → Pt → Prop) : Prop :=
  ∀ (m : MethodId) (meth : Method) (c : Code) (A : Pt) (g : JFrame) (ig : Instr) (mk : MethodId) (a : Array Value),
    Stand p l e R s m sargs below meth c A.U A.locs A.cells A.slots → g.method = m → g.locals.size = c.maxLocals → decode c.code g.pc = .ok (ig, len) →
    2 * g.monitorRoom + (g.stack.map fun v => v.category).sum ≤ W9 → A.U.methodNamed? y = some mk → Pre A a →
    (∃ (v : Option Value) (B : Pt), Stand p l e R s m sargs below meth c B.U B.locs B.cells B.slots ∧ Post A a v B ∧
      Steps p.tables e below (doInvoke e (A.U.setTop g) [] mk a).1 (B.U.setTop { g with pc := g.pc + len, stack := v.toList ++ g.stack })) ∨
    (∃ (q : Addr) (B : Pt), Stand p l e R s m sargs below meth c B.U B.locs B.cells B.slots ∧ PostX A a q B ∧
      Steps p.tables e below (doInvoke e (A.U.setTop g) [] mk a).1 ((B.U.setTop g).pushFrame (.throwing q)))
section Payer
variable {l : Launch} {R : Room} {p : Program} {e : Env} {below : List Frame} {s : State} {sargs : Array Value} {y : MethodName} {len W9 : Nat}
theorem vx_back {ws : List Cond} {rm : Room} {Pc : Array Value → State → Prop} {Qc : Array Value → State → Outcome → State → Prop} {XC : String → State → State → Prop} {mc ms : Nat} {free : Addr → Prop} {bytes : ByteArray} {maxL : Nat} {ret : Option FieldType}
    (hM : vx_Met l y ws rm Pc Qc XC mc ms free) (hblind : FrameBlind Pc) (hrc : rm.cells = mc) (hrs : rm.slots = ms)
    (hframes : rm.frames + 1 ≤ R.frames) (hlocals : W9 + (maxL + 11) + rm.locals ≤ R.locals)
    (hws : ∀ w ∈ ws, ∀ a' U, s.WarmedH U.vm → w.before a' U = true) (hcode : Cond.code y bytes maxL ret ∈ ws) (hinit : ∀ a' U, s.WarmedH U.vm → (Cond.initialized y.cls).before a' U = true) :
    vx_Back l R p e below s sargs y len W9 (PreOf R mc ms Pc) (PostOf Qc mc ms free) (vx_Post XC mc ms free) := by
  intro m meth c A g ig mk a X hg hsize hdg hW hn hp
  have h1 : (headSpec ws rm).pre.before a A.U = true := atoms_intro fun w hw => hws w hw _ _ X.warmed
  have h2 : (Cond.code y bytes maxL ret).before a A.U = true := hws _ hcode _ _ X.warmed
  have h3 : (Cond.initialized y.cls).before a A.U = true := hinit _ _ X.warmed
  have h4 : A.cells + (headSpec ws rm).room.cells ≤ R.cells := by rw [show (headSpec ws rm).room.cells = mc from hrc]; exact hp.1
  have h5 : A.slots + (headSpec ws rm).room.slots ≤ R.slots := by rw [show (headSpec ws rm).room.slots = ms from hrs]; exact hp.2.1
  have hPc : Pc a (A.U.calling g mk a) := hblind _ _ _ _ hp.2.2
  obtain ⟨U, Ls, c0, s0⟩ := A
  dsimp only [Pt.U, Pt.locs, Pt.cells, Pt.slots] at h1 h2 h3 h4 h5 X hn hPc ⊢
  obtain ⟨methY, cY, hmY, hcY, -, hlY, -, -, -, -⟩ := Cond.code_spec hn h2
  obtain ⟨kY, hkY, -⟩ := className_of_methodNamed hn
  have hinitY : kY.init = .initialized := Cond.initialized_spec (findClass_of_methodNamed hn) hkY h3
  have h : At U g.method c below := by rw [hg]; exact X.here
  have hlocals9 : W9 + (maxL + 11) + (headSpec ws rm).room.locals ≤ R.locals := hlocals
  have happ : (headSpec ws rm).appliesLoose y e.platform (U.calling g mk a) = true :=
    Spec.appliesLoose_calling (g := g) h hdg hn hkY hinitY
      (X.room_calling (g := g) (R' := (headSpec ws rm).room) hsize hmY hcY hframes (by rw [hlY]; omega) h4 h5) h1
  obtain ⟨mid, hmid⟩ := h.above
  have hfr : (U.setTop g).frames = (.java g :: mid) ++ below := by rw [State.frames_setTop' g h.top, hmid]; rfl
  obtain ⟨o, s₂, hsteps, -, hend, hq⟩ := Steps.callFree hM p X.admits X.cas X.clock (acts := []) hfr happ hPc trivial
  have hq' : vx_Q Qc XC mc ms free a (U.calling g mk a) o s₂ := hq
  rw [State.frames_setTop' g h.top] at hend
  obtain ⟨g₀, hg0⟩ := Option.isSome_iff_exists.mp h.top
  obtain ⟨r, hr⟩ := State.topJava?_eq_some.mp hg0
  have hr' : (({ U with heap := s₂.heap, slotsUsed := s₂.slotsUsed } : State).setVm s₂.vm).frames = .java g₀ :: r := hr
  rcases hq' with ⟨hqc, L, hfe, hL⟩ | ⟨q, rfl, E, ce, L, hx, hce, hcv, hcl, hW₂, hsm, hL⟩
  · obtain ⟨⟨v, rfl⟩, hW₂, e2, q2, q3, q4, q5, q6⟩ := id hfe
    have e3 : s₂ = ({ (U.calling g mk a).setFrames s₂.frames with heap := s₂.heap, slotsUsed := s₂.slotsUsed } : State).setVm s₂.vm := by
      have : s₂ = ({ s₂ with vm := (U.calling g mk a).vm } : State).setVm s₂.vm := rfl
      rw [e2] at this
      exact this
    obtain ⟨c₂, i₂, len₂, hc₂, hd₂, hf₂⟩ := hend
    have hW' : U.WarmedH s₂.vm := hW₂
    have hcc : c₂ = c := by
      have h1 : s₂.code? g.method = U.code? g.method := by
        rw [State.code?_eq, State.code?_eq, hW'.alike.method?]
      exact Option.some.inj (hc₂.symm.trans (h1.trans h.code))
    subst hcc
    have hlen : len₂ = len := by rw [hdg] at hd₂; cases hd₂; rfl
    subst hlen
    have hs₂ : s₂ = (({ U with heap := s₂.heap, slotsUsed := s₂.slotsUsed } : State).setVm s₂.vm).setTop { g with pc := g.pc + len₂, stack := v.toList ++ g.stack } := by
      refine e3.trans ?_
      rw [hf₂, State.calling_eq h.top, State.setFrames_setFrames, State.setTop_of_frames _ hr', hr]
      rfl
    have hsame : U.sameButNew ({ U with heap := s₂.heap, slotsUsed := s₂.slotsUsed } : State) L mc ms := by
      refine ⟨?_, q2, q3, q4, q5, q6⟩
      obtain ⟨t, ht, -⟩ := State.frames_cons hr
      show ({ U with heap := s₂.heap, slotsUsed := s₂.slotsUsed } : State) = { U.setFrames U.frames with heap := s₂.heap, slotsUsed := s₂.slotsUsed }
      rw [State.setFrames_self ht]
    subst hg
    refine Or.inl ⟨v, ⟨(({ U with heap := s₂.heap, slotsUsed := s₂.slotsUsed } : State).setVm s₂.vm), Ls ++ L, c0 + mc, s0 + ms⟩,
      ⟨X.admits, X.cas, X.clock, X.frames, X.room, X.hears, X.method, X.code, (X.here.setHeapUsed s₂.heap s₂.slotsUsed).setVm hW'.alike, X.tail, State.WarmedH.trans X.warmed hW', X.limits, X.bytes, X.same.trans (hsame.setVm s.vm)⟩,
      ⟨g, mk, s₂, L, rfl, rfl, hqc, rfl, hL, rfl, rfl⟩, ?_⟩
    show Steps p.tables e below _ ((({ U with heap := s₂.heap, slotsUsed := s₂.slotsUsed } : State).setVm s₂.vm).setTop { g with pc := g.pc + len₂, stack := v.toList ++ g.stack })
    rw [← hs₂]
    exact hsteps
  · obtain ⟨e2, q2, q3, q4, q5, q6⟩ := id hsm
    have e3 : s₂ = ({ (U.calling g mk a).setFrames s₂.frames with heap := s₂.heap, slotsUsed := s₂.slotsUsed } : State).setVm s₂.vm := by
      have : s₂ = ({ s₂ with vm := (U.calling g mk a).vm } : State).setVm s₂.vm := rfl
      rw [e2] at this
      exact this
    have hf₂ : s₂.frames = .throwing q :: .java g :: U.frames.tail := hend
    have hW' : U.WarmedH s₂.vm := hW₂
    have hs₂ : s₂ = ((({ U with heap := s₂.heap, slotsUsed := s₂.slotsUsed } : State).setVm s₂.vm).setTop g).pushFrame (.throwing q) := by
      refine e3.trans ?_
      rw [hf₂, State.calling_eq h.top, State.setFrames_setFrames, State.pushFrame, State.frames_setTop _ hr', State.setTop_of_frames _ hr', State.setFrames_setFrames, hr]
      rfl
    have hsame : U.sameButNew ({ U with heap := s₂.heap, slotsUsed := s₂.slotsUsed } : State) L mc ms := by
      refine ⟨?_, q2, q3, q4, q5, q6⟩
      obtain ⟨t, ht, -⟩ := State.frames_cons hr
      show ({ U with heap := s₂.heap, slotsUsed := s₂.slotsUsed } : State) = { U.setFrames U.frames with heap := s₂.heap, slotsUsed := s₂.slotsUsed }
      rw [State.setFrames_self ht]
    subst hg
    refine Or.inr ⟨q, ⟨(({ U with heap := s₂.heap, slotsUsed := s₂.slotsUsed } : State).setVm s₂.vm), Ls ++ L, c0 + mc, s0 + ms⟩,
      ⟨X.admits, X.cas, X.clock, X.frames, X.room, X.hears, X.method, X.code, (X.here.setHeapUsed s₂.heap s₂.slotsUsed).setVm hW'.alike, X.tail, State.WarmedH.trans X.warmed hW', X.limits, X.bytes, X.same.trans (hsame.setVm s.vm)⟩,
      ⟨g, mk, s₂, L, E, ce, rfl, rfl, hx, hce, hcv, hcl, rfl, hL, rfl, rfl⟩, ?_⟩
    show Steps p.tables e below _ (((({ U with heap := s₂.heap, slotsUsed := s₂.slotsUsed } : State).setVm s₂.vm).setTop g).pushFrame (.throwing q))
    rw [← hs₂]
    exact hsteps
end Payer
section Calls
variable {p : Program} {l : Launch} {e : Env} {R : Room} {s : State} {m : MethodId} {args : Array Value} {below : List Frame} {meth : Method} {c : Code} {T : State} {locs : List Loc} {cells slots : Nat}
theorem vx_callV (X : Stand p l e R s m args below meth c T locs cells slots) (hexec : p.tables.exec = Jvm.exec) {own C : String} {index : Nat} {y : MethodName} {bytes : ByteArray} {maxL : Nat} {ret : Option FieldType}
    (hown : s.vm.findClass own = some m.cls) (hlink : (Cond.methodLink own index y).before args s = true) (hinst : (Cond.instanceMethod y).before args s = true) (hsel : (Cond.selects C y y).before args s = true)
    (hcode : (Cond.code y bytes maxL ret).before args s = true) (hy : y.cls ≠ "java/lang/invoke/MethodHandle" ∧ y.cls ≠ "java/lang/invoke/VarHandle")
    {W9 : Nat} {Pre : Pt → Array Value → Prop} {Post : Pt → Array Value → Option Value → Pt → Prop} {PostX : Pt → Array Value → Addr → Pt → Prop} (hK : vx_Back l R p e below s args y 3 W9 Pre Post PostX)
    {b : Addr} {cellB : Cell} (hcell : T.heap[b]? = some cellB) (hobj : cellB.vm.isStatics = false) (hcls : s.vm.findClass C = some cellB.cls)
    {g : JFrame} (hg : g.method = m) (hsize : g.locals.size = c.maxLocals) {argsL rest : List Value} (hlen : ∀ sig, parseMethodDescriptor y.desc = some sig → argsL.length = sig.parameters.length)
    (hstack : g.stack = argsL.reverse ++ .ref b :: rest) (hW : 2 * g.monitorRoom + (rest.map fun v => v.category).sum ≤ W9) (hdg : decode c.code g.pc = .ok (.invokevirtual index, 3))
    (hpre : ∀ vm₁, s.WarmedH vm₁ → Pre ⟨T.setVm vm₁, locs, cells, slots⟩ (Value.ref b :: argsL).toArray) :
    (∃ (v : Option Value) (vm₁ : Vm) (B : Pt), s.WarmedH vm₁ ∧ Stand p l e R s m args below meth c B.U B.locs B.cells B.slots ∧ Post ⟨T.setVm vm₁, locs, cells, slots⟩ (Value.ref b :: argsL).toArray v B ∧
      ∀ target, Steps p.tables e below (B.U.setTop { g with pc := g.pc + 3, stack := v.toList ++ rest }) target → Steps p.tables e below (T.setTop g) target) ∨
    (∃ (q : Addr) (vm₁ : Vm) (B : Pt), s.WarmedH vm₁ ∧ Stand p l e R s m args below meth c B.U B.locs B.cells B.slots ∧ PostX ⟨T.setVm vm₁, locs, cells, slots⟩ (Value.ref b :: argsL).toArray q B ∧
      Steps p.tables e below (T.setTop g) ((B.U.setTop { g with stack := rest }).pushFrame (.throwing q))) := by
  obtain ⟨mk, methM, hnamed, hmethM, hstM, habM⟩ := Cond.instanceMethod_spec hinst
  obtain ⟨methM', cM, hmethM', -, -, -, -, -, -, hsigM⟩ := Cond.code_spec hnamed hcode
  cases hmethM.symm.trans hmethM'
  obtain ⟨c2, r2, m2, q1, q2, q3, q4, kP, hkP, hkPi⟩ := Cond.selects_spec hsel
  cases hcls.symm.trans q1
  cases (State.methodFound?_of_named hnamed hy).symm.trans q2
  cases hnamed.symm.trans q3
  have hselP : selectMethod e.platform s.vm cellB.cls mk = .method mk := by rw [Launch.admits_selectMethod X.admits]; exact q4
  obtain ⟨vm₁, X₁, hstep₁⟩ := X.invokevirtual hexec hown hlink hnamed hmethM hstM hkP hkPi hy (a := b) (cell := cellB) hcell
    (fun z h => by rw [h] at hobj; cases hobj) hselP hmethM habM hkP hkPi (g := g) hg (argsL := argsL) (rest := rest) (hlen _ hsigM) hstack hdg
  rcases hK m meth c ⟨T.setVm vm₁, locs, cells, slots⟩ { g with stack := rest } (.invokevirtual index) mk (Value.ref b :: argsL).toArray X₁ hg hsize hdg hW (X₁.named hnamed) (hpre vm₁ X₁.warmed) with ⟨v, B, X', hpost, hsteps⟩ | ⟨q, B, X', hpost, hsteps⟩
  · exact Or.inl ⟨v, vm₁, B, X₁.warmed, X', hpost, fun target h => hstep₁ _ fun acts => by rw [doInvoke_state]; exact hsteps.trans h⟩
  · exact Or.inr ⟨q, vm₁, B, X₁.warmed, X', hpost, hstep₁ _ fun acts => by rw [doInvoke_state]; exact hsteps⟩
theorem vx_callS (X : Stand p l e R s m args below meth c T locs cells slots) (hexec : p.tables.exec = Jvm.exec) {own : String} {index : Nat} {y : MethodName} {bytes : ByteArray} {maxL : Nat} {ret : Option FieldType}
    (hown : s.vm.findClass own = some m.cls) (hlink : (Cond.methodLink own index y).before args s = true) (hstat : (Cond.static y).before args s = true) (hinit : (Cond.initialized y.cls).before args s = true)
    (hcode : (Cond.code y bytes maxL ret).before args s = true) (hy : y.cls ≠ "java/lang/invoke/MethodHandle" ∧ y.cls ≠ "java/lang/invoke/VarHandle")
    {W9 : Nat} {Pre : Pt → Array Value → Prop} {Post : Pt → Array Value → Option Value → Pt → Prop} {PostX : Pt → Array Value → Addr → Pt → Prop} (hK : vx_Back l R p e below s args y 3 W9 Pre Post PostX)
    {g : JFrame} (hg : g.method = m) (hsize : g.locals.size = c.maxLocals) {argsL rest : List Value} (hlen : ∀ sig, parseMethodDescriptor y.desc = some sig → argsL.length = sig.parameters.length)
    (hstack : g.stack = argsL.reverse ++ rest) (hW : 2 * g.monitorRoom + (rest.map fun v => v.category).sum ≤ W9) (hdg : decode c.code g.pc = .ok (.invokestatic index, 3))
    (hpre : ∀ vm₁, s.WarmedH vm₁ → Pre ⟨T.setVm vm₁, locs, cells, slots⟩ argsL.toArray) :
    (∃ (v : Option Value) (vm₁ : Vm) (B : Pt), s.WarmedH vm₁ ∧ Stand p l e R s m args below meth c B.U B.locs B.cells B.slots ∧ Post ⟨T.setVm vm₁, locs, cells, slots⟩ argsL.toArray v B ∧
      ∀ target, Steps p.tables e below (B.U.setTop { g with pc := g.pc + 3, stack := v.toList ++ rest }) target → Steps p.tables e below (T.setTop g) target) ∨
    (∃ (q : Addr) (vm₁ : Vm) (B : Pt), s.WarmedH vm₁ ∧ Stand p l e R s m args below meth c B.U B.locs B.cells B.slots ∧ PostX ⟨T.setVm vm₁, locs, cells, slots⟩ argsL.toArray q B ∧
      Steps p.tables e below (T.setTop g) ((B.U.setTop { g with stack := rest }).pushFrame (.throwing q))) := by
  obtain ⟨mk, hnamed⟩ := Cond.code_named hcode
  obtain ⟨methM, cM, hmethM, -, -, -, -, -, -, hsigM⟩ := Cond.code_spec hnamed hcode
  have hstatic : methM.isStatic = true := Cond.static_spec hnamed hmethM hstat
  obtain ⟨kP, hkP, -⟩ := className_of_methodNamed hnamed
  have hinitP : kP.init = .initialized := Cond.initialized_spec (findClass_of_methodNamed hnamed) hkP hinit
  obtain ⟨vm₁, X₁, hstep₁⟩ := X.invokestatic hexec hown hlink hnamed hmethM hstatic hkP hinitP hy (g := g) hg (argsL := argsL) (rest := rest) (hlen _ hsigM) hstack hdg
  rcases hK m meth c ⟨T.setVm vm₁, locs, cells, slots⟩ { g with stack := rest } (.invokestatic index) mk argsL.toArray X₁ hg hsize hdg hW (X₁.named hnamed) (hpre vm₁ X₁.warmed) with ⟨v, B, X', hpost, hsteps⟩ | ⟨q, B, X', hpost, hsteps⟩
  · exact Or.inl ⟨v, vm₁, B, X₁.warmed, X', hpost, fun target h => hstep₁ _ fun acts => by rw [doInvoke_state]; exact hsteps.trans h⟩
  · exact Or.inr ⟨q, vm₁, B, X₁.warmed, X', hpost, hstep₁ _ fun acts => by rw [doInvoke_state]; exact hsteps⟩
end Calls
theorem vx_cls {s : State} {T : State} {vm₁ : Vm} {E : String} {k : ClassId} (hW : s.WarmedH vm₁) (h : (T.setVm vm₁).vm.findClass E = some k) : s.vm.findClass E = some k := by
  have h1 : vm₁.findClass E = some k := h
  rw [hW.alike.findClass] at h1
  exact h1
/-- the method's frame g, with q thrown over it -/
def vx_W (p : Program) (l : Launch) (e : Env) (R : Room) (s : State) (m : MethodId) (args : Array Value) (below : List Frame) (meth : Method) (c : Code) (H : Heap) (locs : List Loc) (cells slots : Nat) (Q : State → Prop) (g : JFrame) (q : Addr) : Prop :=
  ∀ T : State, T.heap = H → Stand p l e R s m args below meth c T locs cells slots → ∃ t, Steps p.tables e below ((T.setTop g).pushFrame (.throwing q)) t ∧ Q t
def vx_Run (p : Program) (l : Launch) (e : Env) (R : Room) (s : State) (m : MethodId) (args : Array Value) (below : List Frame) (meth : Method) (c : Code) (H : Heap) (locs : List Loc) (cells slots mc ms : Nat) (g : JFrame) (rest : List Value) (Qa : State → Outcome → State → Prop) (XC : String → State → State → Prop) (free : Addr → Prop) : Prop :=
  ∀ T : State, T.heap = H → Stand p l e R s m args below meth c T locs cells slots →
    (∃ (v : Option Value) (st₀ t T' : State) (L : List Loc), st₀.heap = H ∧ Stand p l e R s m args below meth c T' (locs ++ L) (cells + mc) (slots + ms) ∧ (∀ q ∈ L, free q.base) ∧ T'.heap = t.heap ∧ T'.vm = t.vm ∧ Qa st₀ (.returned v) t ∧
      Goes p e below T g T' { g with pc := g.pc + 3, stack := v.toList ++ rest }) ∨
    (∃ (q : Addr) (st₀ t T' : State) (L : List Loc) (E : String) (ce : Cell), st₀.heap = H ∧ Stand p l e R s m args below meth c T' (locs ++ L) (cells + mc) (slots + ms) ∧ (∀ z ∈ L, free z.base) ∧ T'.heap = t.heap ∧ T'.vm = t.vm ∧ XC E st₀ t ∧ t.heap[q]? = some ce ∧ ce.vm = .none ∧ s.vm.findClass E = some ce.cls ∧
      Steps p.tables e below (T.setTop g) ((T'.setTop { g with stack := rest }).pushFrame (.throwing q)))
def vx_X {S : Type} (px : S → Prop) (B : String → S → State → Prop) (A : Nat → Prop) : String → State → State → Prop := fun E st t => ∃ u : S, px u ∧ B E u t ∧ va_F A st t
section Runs
variable {p : Program} {l : Launch} {e : Env} {R : Room} {s : State} {m : MethodId} {args : Array Value} {below : List Frame} {meth : Method} {c : Code} {H : Heap} {locs : List Loc} {cells slots : Nat}
variable {y : MethodName} {bytes cc : ByteArray} {maxL nL mc ms n index : Nat} {ret : Option FieldType} {ws : List Cond} {rm : Room} {Pc : Array Value → State → Prop} {Qc : Array Value → State → Outcome → State → Prop} {XC : String → State → State → Prop} {free : Addr → Prop} {Ts : List Cond} {own C : String} {b : Addr} {As rest : List Value} {g : JFrame}
theorem vx_callBack (cb : CallB R s args own index y bytes maxL ret ws rm mc ms n) (hM : vx_Met l y ws rm Pc Qc XC mc ms free) (hbl : FrameBlind Pc) : vx_Back l R p e below s args y 3 8 (PreOf R mc ms Pc) (PostOf Qc mc ms free) (vx_Post XC mc ms free) := by
  obtain ⟨hrc, hrs, hfr, hlo, hws, hcw, -, hini, -⟩ := cb
  exact vx_back (bytes := bytes) (maxL := maxL) (ret := ret) hM hbl hrc hrs hfr hlo hws hcw (fun a' U hW => word_at hW (Or.inl (by first | rfl | simp [Cond.onTables, Cond.keeps, Cond.steady])) hini)
theorem vx_runV (S : CallFix p m c cc nL s args Ts own) (hM : vx_Met l y ws rm Pc Qc XC mc ms free) (cw : CallW R s args own C index y bytes maxL ret ws rm mc ms n) (hp : PreV s H C b Pc As)
    (hg : g.method = m) (hn : As.length = n) (hsize : g.locals.size = nL) (hstack : g.stack = As.reverse ++ .ref b :: rest) (hW : 2 * g.monitorRoom + (rest.map fun v => v.category).sum ≤ 8) (hdg : decode cc g.pc = .ok (.invokevirtual index, 3)) (hf : cells + mc ≤ R.cells ∧ slots + ms ≤ R.slots) :
    vx_Run p l e R s m args below meth c H locs cells slots mc ms g rest (Qc (Value.ref b :: As).toArray) XC free := by
  have hK : vx_Back l R p e below s args y 3 8 (PreOf R mc ms Pc) (PostOf Qc mc ms free) (vx_Post XC mc ms free) := vx_callBack cw.1 hM hp.1
  obtain ⟨⟨-, -, -, -, -, -, hcode, -, hy, hlen, hl⟩, hin, hse⟩ := cw
  obtain ⟨hx, hb, hml, ho, -⟩ := S
  obtain ⟨-, ⟨cellB, hcB, hoB, hclB⟩, hPc⟩ := hp
  intro T hT X
  rcases vx_callV X hx (C := C) (bytes := bytes) (maxL := maxL) (ret := ret) ho hl hin hse hcode hy hK (by rw [hT]; exact hcB) hoB hclB hg (hsize.trans hml.symm) (argsL := As) (rest := rest) (fun sig h => hn.trans (hlen sig h)) hstack hW (by rw [hb]; exact hdg)
    (fun vm₁ hW₁ => ⟨hf.1, hf.2, hPc (T.setVm vm₁) hT hW₁⟩) with ⟨v, vm₁, ⟨U', l2, c2, s2⟩, hW₁, X', ⟨g', mk, t, L, e1, e2, hq, h1, hL, h2, h3⟩, st⟩ | ⟨q, vm₁, ⟨U', l2, c2, s2⟩, hW₁, X', ⟨g', mk, t, L, E, ce, e1, e2, hq, hce, hcv, hcl, h1, hL, h2, h3⟩, st⟩
  · dsimp only [Pt.U, Pt.locs, Pt.cells, Pt.slots] at X' e1 e2 h1 h2 h3 st
    subst h1; subst h2; subst h3
    exact Or.inl ⟨v, (T.setVm vm₁).calling g' mk (Value.ref b :: As).toArray, t, U', L, hT, X', hL, e1, e2, hq, st⟩
  · dsimp only [Pt.U, Pt.locs, Pt.cells, Pt.slots] at X' e1 e2 h1 h2 h3 st hcl
    subst h1; subst h2; subst h3
    exact Or.inr ⟨q, (T.setVm vm₁).calling g' mk (Value.ref b :: As).toArray, t, U', L, E, ce, hT, X', hL, e1, e2, hq, hce, hcv, vx_cls hW₁ hcl, st⟩
theorem vx_runS (S : CallFix p m c cc nL s args Ts own) (hM : vx_Met l y ws rm Pc Qc XC mc ms free) (cw : CallB R s args own index y bytes maxL ret ws rm mc ms n ∧ (Cond.static y).before args s = true) (hp : PreS s H Pc As)
    (hg : g.method = m) (hn : As.length = n) (hsize : g.locals.size = nL) (hstack : g.stack = As.reverse ++ rest) (hW : 2 * g.monitorRoom + (rest.map fun v => v.category).sum ≤ 8) (hdg : decode cc g.pc = .ok (.invokestatic index, 3)) (hf : cells + mc ≤ R.cells ∧ slots + ms ≤ R.slots) :
    vx_Run p l e R s m args below meth c H locs cells slots mc ms g rest (Qc As.toArray) XC free := by
  have hK : vx_Back l R p e below s args y 3 8 (PreOf R mc ms Pc) (PostOf Qc mc ms free) (vx_Post XC mc ms free) := vx_callBack cw.1 hM hp.1
  obtain ⟨⟨-, -, -, -, -, -, hcode, hini, hy, hlen, hl⟩, hstt⟩ := cw
  obtain ⟨hx, hb, hml, ho, -⟩ := S
  intro T hT X
  rcases vx_callS X hx (bytes := bytes) (maxL := maxL) (ret := ret) ho hl hstt hini hcode hy hK hg (hsize.trans hml.symm) (argsL := As) (rest := rest) (fun sig h => hn.trans (hlen sig h)) hstack hW (by rw [hb]; exact hdg)
    (fun vm₁ hW₁ => ⟨hf.1, hf.2, hp.2 (T.setVm vm₁) hT hW₁⟩) with ⟨v, vm₁, ⟨U', l2, c2, s2⟩, hW₁, X', ⟨g', mk, t, L, e1, e2, hq, h1, hL, h2, h3⟩, st⟩ | ⟨q, vm₁, ⟨U', l2, c2, s2⟩, hW₁, X', ⟨g', mk, t, L, E, ce, e1, e2, hq, hce, hcv, hcl, h1, hL, h2, h3⟩, st⟩
  · dsimp only [Pt.U, Pt.locs, Pt.cells, Pt.slots] at X' e1 e2 h1 h2 h3 st
    subst h1; subst h2; subst h3
    exact Or.inl ⟨v, (T.setVm vm₁).calling g' mk As.toArray, t, U', L, hT, X', hL, e1, e2, hq, st⟩
  · dsimp only [Pt.U, Pt.locs, Pt.cells, Pt.slots] at X' e1 e2 h1 h2 h3 st hcl
    subst h1; subst h2; subst h3
    exact Or.inr ⟨q, (T.setVm vm₁).calling g' mk As.toArray, t, U', L, E, ce, hT, X', hL, e1, e2, hq, hce, hcv, vx_cls hW₁ hcl, st⟩
end Runs
section Rows
variable {p : Program} {l : Launch} {e : Env} {R : Room} {s : State} {m : MethodId} {args : Array Value} {below : List Frame} {meth : Method} {c : Code} {H : Heap} {locs : List Loc} {cells slots : Nat} {Q : State → Prop}
variable {mc ms : Nat} {free : Addr → Prop} {A0 A1 : Nat → Prop} {H0 : Heap} {a : Array Value} {pc : Nat} {ls : Array Slot} {st0 rest : List Value}
theorem vx_keep {st₀ t T' : State} {L : List Loc} (h0 : st₀.heap = H) (e1 : T'.heap = t.heap) (hS : va_S A0 H0 H locs) (hA : ∀ q, q < H.size → A1 q → A0 q) (hf : ∀ q, free q → A0 q) (hL : ∀ q ∈ L, free q.base) (hF : va_F A1 st₀ t) :
    H.size ≤ T'.heap.size ∧ (∀ q : Nat, q < H.size → ¬ A1 q → T'.heap[q]? = H[q]?) ∧ va_S A0 H0 T'.heap (locs ++ L) := by
  obtain ⟨hz, hk⟩ := hF
  rw [h0] at hz hk
  exact ⟨by rw [e1]; exact hz, fun q h1 h2 => by rw [e1]; exact hk q h1 h2,
    ⟨Nat.le_trans hS.1 (by rw [e1]; exact hz), fun q h1 h2 => by rw [e1, hk q (Nat.lt_of_lt_of_le h1 hS.1) (fun z => h2 (hA q (Nat.lt_of_lt_of_le h1 hS.1) z))]; exact hS.2.1 q h1 h2, fun q hq => by
      rcases List.mem_append.mp hq with h | h
      · exact hS.2.2 q h
      · exact hf _ (hL q h)⟩⟩
theorem vx_calli {S SX : Type} {post : Int32 → S → Prop} {px : SX → Prop} {B : S → State → Prop} {BX : String → SX → State → Prop} {AX : Nat → Prop} (hr : vx_Run p l e R s m args below meth c H locs cells slots mc ms (F0 m pc ls st0) rest (va_Qi post B A1 a) (vx_X px BX AX) free) (hS : va_S A0 H0 H locs) (hA : ∀ q, q < H.size → A1 q → A0 q) (hf : ∀ q, free q → A0 q) (hAX : ∀ q, q < H.size → AX q → A0 q)
    (kx : ∀ (E : String) (ce : Cell) (q9 : Addr) (u : SX) (t : State) (H1 : Heap) (locs1 : List Loc), t.heap = H1 → s.vm.Alike t.vm → px u → BX E u t → H.size ≤ H1.size → (∀ q : Nat, q < H.size → ¬ AX q → H1[q]? = H[q]?) → va_S A0 H0 H1 locs1 → H1[q9]? = some ce → ce.vm = .none → s.vm.findClass E = some ce.cls → vx_W p l e R s m args below meth c H1 locs1 (cells + mc) (slots + ms) Q (F0 m pc ls rest) q9)
    (kk : ∀ (r : Int32) (u : S) (t : State) (H1 : Heap) (locs1 : List Loc), t.heap = H1 → s.vm.Alike t.vm → post r u → B u t → H.size ≤ H1.size → (∀ q : Nat, q < H.size → ¬ A1 q → H1[q]? = H[q]?) → va_S A0 H0 H1 locs1 → W p l e R s m args below meth c H1 locs1 (cells + mc) (slots + ms) Q (F0 m (pc + 3) ls (.int r :: rest))) : W p l e R s m args below meth c H locs cells slots Q (F0 m pc ls st0) := by
  intro T hT X
  rcases hr T hT X with ⟨v, st₀, t, T', L, h0, X', hL, e1, e2, ⟨⟨r, u, hv, hp, hb⟩, hF⟩, st⟩ | ⟨q, st₀, t, T', L, E, ce, h0, X', hL, e1, e2, ⟨u, hp, hb, hF⟩, hce, hcv, hcl, st⟩
  · cases hv
    obtain ⟨k1, k2, k3⟩ := vx_keep h0 e1 hS hA hf hL hF
    obtain ⟨t2, a1, b1⟩ := kk r u t T'.heap (locs ++ L) e1.symm (by rw [← e2]; exact X'.warmed.alike) hp hb k1 k2 k3 T' rfl X'
    exact ⟨t2, st t2 a1, b1⟩
  · obtain ⟨k1, k2, k3⟩ := vx_keep h0 e1 hS hAX hf hL hF
    obtain ⟨t2, a1, b1⟩ := kx E ce q u t T'.heap (locs ++ L) e1.symm (by rw [← e2]; exact X'.warmed.alike) hp hb k1 k2 k3 (by rw [e1]; exact hce) hcv hcl T' rfl X'
    exact ⟨t2, st.trans a1, b1⟩
theorem vx_calll {S SX : Type} {post : Int64 → S → Prop} {px : SX → Prop} {B : S → State → Prop} {BX : String → SX → State → Prop} {AX : Nat → Prop} (hr : vx_Run p l e R s m args below meth c H locs cells slots mc ms (F0 m pc ls st0) rest (va_Ql post B A1 a) (vx_X px BX AX) free) (hS : va_S A0 H0 H locs) (hA : ∀ q, q < H.size → A1 q → A0 q) (hf : ∀ q, free q → A0 q) (hAX : ∀ q, q < H.size → AX q → A0 q)
    (kx : ∀ (E : String) (ce : Cell) (q9 : Addr) (u : SX) (t : State) (H1 : Heap) (locs1 : List Loc), t.heap = H1 → s.vm.Alike t.vm → px u → BX E u t → H.size ≤ H1.size → (∀ q : Nat, q < H.size → ¬ AX q → H1[q]? = H[q]?) → va_S A0 H0 H1 locs1 → H1[q9]? = some ce → ce.vm = .none → s.vm.findClass E = some ce.cls → vx_W p l e R s m args below meth c H1 locs1 (cells + mc) (slots + ms) Q (F0 m pc ls rest) q9)
    (kk : ∀ (r : Int64) (u : S) (t : State) (H1 : Heap) (locs1 : List Loc), t.heap = H1 → s.vm.Alike t.vm → post r u → B u t → H.size ≤ H1.size → (∀ q : Nat, q < H.size → ¬ A1 q → H1[q]? = H[q]?) → va_S A0 H0 H1 locs1 → W p l e R s m args below meth c H1 locs1 (cells + mc) (slots + ms) Q (F0 m (pc + 3) ls (.long r :: rest))) : W p l e R s m args below meth c H locs cells slots Q (F0 m pc ls st0) := by
  intro T hT X
  rcases hr T hT X with ⟨v, st₀, t, T', L, h0, X', hL, e1, e2, ⟨⟨r, u, hv, hp, hb⟩, hF⟩, st⟩ | ⟨q, st₀, t, T', L, E, ce, h0, X', hL, e1, e2, ⟨u, hp, hb, hF⟩, hce, hcv, hcl, st⟩
  · cases hv
    obtain ⟨k1, k2, k3⟩ := vx_keep h0 e1 hS hA hf hL hF
    obtain ⟨t2, a1, b1⟩ := kk r u t T'.heap (locs ++ L) e1.symm (by rw [← e2]; exact X'.warmed.alike) hp hb k1 k2 k3 T' rfl X'
    exact ⟨t2, st t2 a1, b1⟩
  · obtain ⟨k1, k2, k3⟩ := vx_keep h0 e1 hS hAX hf hL hF
    obtain ⟨t2, a1, b1⟩ := kx E ce q u t T'.heap (locs ++ L) e1.symm (by rw [← e2]; exact X'.warmed.alike) hp hb k1 k2 k3 (by rw [e1]; exact hce) hcv hcl T' rfl X'
    exact ⟨t2, st.trans a1, b1⟩
theorem vx_callf {S SX : Type} {post : UInt32 → S → Prop} {px : SX → Prop} {B : S → State → Prop} {BX : String → SX → State → Prop} {AX : Nat → Prop} (hr : vx_Run p l e R s m args below meth c H locs cells slots mc ms (F0 m pc ls st0) rest (va_Qf post B A1 a) (vx_X px BX AX) free) (hS : va_S A0 H0 H locs) (hA : ∀ q, q < H.size → A1 q → A0 q) (hf : ∀ q, free q → A0 q) (hAX : ∀ q, q < H.size → AX q → A0 q)
    (kx : ∀ (E : String) (ce : Cell) (q9 : Addr) (u : SX) (t : State) (H1 : Heap) (locs1 : List Loc), t.heap = H1 → s.vm.Alike t.vm → px u → BX E u t → H.size ≤ H1.size → (∀ q : Nat, q < H.size → ¬ AX q → H1[q]? = H[q]?) → va_S A0 H0 H1 locs1 → H1[q9]? = some ce → ce.vm = .none → s.vm.findClass E = some ce.cls → vx_W p l e R s m args below meth c H1 locs1 (cells + mc) (slots + ms) Q (F0 m pc ls rest) q9)
    (kk : ∀ (r : UInt32) (u : S) (t : State) (H1 : Heap) (locs1 : List Loc), t.heap = H1 → s.vm.Alike t.vm → post r u → B u t → H.size ≤ H1.size → (∀ q : Nat, q < H.size → ¬ A1 q → H1[q]? = H[q]?) → va_S A0 H0 H1 locs1 → W p l e R s m args below meth c H1 locs1 (cells + mc) (slots + ms) Q (F0 m (pc + 3) ls (.float r :: rest))) : W p l e R s m args below meth c H locs cells slots Q (F0 m pc ls st0) := by
  intro T hT X
  rcases hr T hT X with ⟨v, st₀, t, T', L, h0, X', hL, e1, e2, ⟨⟨r, u, hv, hp, hb⟩, hF⟩, st⟩ | ⟨q, st₀, t, T', L, E, ce, h0, X', hL, e1, e2, ⟨u, hp, hb, hF⟩, hce, hcv, hcl, st⟩
  · cases hv
    obtain ⟨k1, k2, k3⟩ := vx_keep h0 e1 hS hA hf hL hF
    obtain ⟨t2, a1, b1⟩ := kk r u t T'.heap (locs ++ L) e1.symm (by rw [← e2]; exact X'.warmed.alike) hp hb k1 k2 k3 T' rfl X'
    exact ⟨t2, st t2 a1, b1⟩
  · obtain ⟨k1, k2, k3⟩ := vx_keep h0 e1 hS hAX hf hL hF
    obtain ⟨t2, a1, b1⟩ := kx E ce q u t T'.heap (locs ++ L) e1.symm (by rw [← e2]; exact X'.warmed.alike) hp hb k1 k2 k3 (by rw [e1]; exact hce) hcv hcl T' rfl X'
    exact ⟨t2, st.trans a1, b1⟩
theorem vx_calld {S SX : Type} {post : UInt64 → S → Prop} {px : SX → Prop} {B : S → State → Prop} {BX : String → SX → State → Prop} {AX : Nat → Prop} (hr : vx_Run p l e R s m args below meth c H locs cells slots mc ms (F0 m pc ls st0) rest (va_Qd post B A1 a) (vx_X px BX AX) free) (hS : va_S A0 H0 H locs) (hA : ∀ q, q < H.size → A1 q → A0 q) (hf : ∀ q, free q → A0 q) (hAX : ∀ q, q < H.size → AX q → A0 q)
    (kx : ∀ (E : String) (ce : Cell) (q9 : Addr) (u : SX) (t : State) (H1 : Heap) (locs1 : List Loc), t.heap = H1 → s.vm.Alike t.vm → px u → BX E u t → H.size ≤ H1.size → (∀ q : Nat, q < H.size → ¬ AX q → H1[q]? = H[q]?) → va_S A0 H0 H1 locs1 → H1[q9]? = some ce → ce.vm = .none → s.vm.findClass E = some ce.cls → vx_W p l e R s m args below meth c H1 locs1 (cells + mc) (slots + ms) Q (F0 m pc ls rest) q9)
    (kk : ∀ (r : UInt64) (u : S) (t : State) (H1 : Heap) (locs1 : List Loc), t.heap = H1 → s.vm.Alike t.vm → post r u → B u t → H.size ≤ H1.size → (∀ q : Nat, q < H.size → ¬ A1 q → H1[q]? = H[q]?) → va_S A0 H0 H1 locs1 → W p l e R s m args below meth c H1 locs1 (cells + mc) (slots + ms) Q (F0 m (pc + 3) ls (.double r :: rest))) : W p l e R s m args below meth c H locs cells slots Q (F0 m pc ls st0) := by
  intro T hT X
  rcases hr T hT X with ⟨v, st₀, t, T', L, h0, X', hL, e1, e2, ⟨⟨r, u, hv, hp, hb⟩, hF⟩, st⟩ | ⟨q, st₀, t, T', L, E, ce, h0, X', hL, e1, e2, ⟨u, hp, hb, hF⟩, hce, hcv, hcl, st⟩
  · cases hv
    obtain ⟨k1, k2, k3⟩ := vx_keep h0 e1 hS hA hf hL hF
    obtain ⟨t2, a1, b1⟩ := kk r u t T'.heap (locs ++ L) e1.symm (by rw [← e2]; exact X'.warmed.alike) hp hb k1 k2 k3 T' rfl X'
    exact ⟨t2, st t2 a1, b1⟩
  · obtain ⟨k1, k2, k3⟩ := vx_keep h0 e1 hS hAX hf hL hF
    obtain ⟨t2, a1, b1⟩ := kx E ce q u t T'.heap (locs ++ L) e1.symm (by rw [← e2]; exact X'.warmed.alike) hp hb k1 k2 k3 (by rw [e1]; exact hce) hcv hcl T' rfl X'
    exact ⟨t2, st.trans a1, b1⟩
theorem vx_callv {S SX : Type} {post : S → Prop} {px : SX → Prop} {B : S → State → Prop} {BX : String → SX → State → Prop} {AX : Nat → Prop} (hr : vx_Run p l e R s m args below meth c H locs cells slots mc ms (F0 m pc ls st0) rest (va_Qv post B A1 a) (vx_X px BX AX) free) (hS : va_S A0 H0 H locs) (hA : ∀ q, q < H.size → A1 q → A0 q) (hf : ∀ q, free q → A0 q) (hAX : ∀ q, q < H.size → AX q → A0 q)
    (kx : ∀ (E : String) (ce : Cell) (q9 : Addr) (u : SX) (t : State) (H1 : Heap) (locs1 : List Loc), t.heap = H1 → s.vm.Alike t.vm → px u → BX E u t → H.size ≤ H1.size → (∀ q : Nat, q < H.size → ¬ AX q → H1[q]? = H[q]?) → va_S A0 H0 H1 locs1 → H1[q9]? = some ce → ce.vm = .none → s.vm.findClass E = some ce.cls → vx_W p l e R s m args below meth c H1 locs1 (cells + mc) (slots + ms) Q (F0 m pc ls rest) q9)
    (kk : ∀ (u : S) (t : State) (H1 : Heap) (locs1 : List Loc), t.heap = H1 → s.vm.Alike t.vm → post u → B u t → H.size ≤ H1.size → (∀ q : Nat, q < H.size → ¬ A1 q → H1[q]? = H[q]?) → va_S A0 H0 H1 locs1 → W p l e R s m args below meth c H1 locs1 (cells + mc) (slots + ms) Q (F0 m (pc + 3) ls (rest))) : W p l e R s m args below meth c H locs cells slots Q (F0 m pc ls st0) := by
  intro T hT X
  rcases hr T hT X with ⟨v, st₀, t, T', L, h0, X', hL, e1, e2, ⟨⟨u, hv, hp, hb⟩, hF⟩, st⟩ | ⟨q, st₀, t, T', L, E, ce, h0, X', hL, e1, e2, ⟨u, hp, hb, hF⟩, hce, hcv, hcl, st⟩
  · cases hv
    obtain ⟨k1, k2, k3⟩ := vx_keep h0 e1 hS hA hf hL hF
    obtain ⟨t2, a1, b1⟩ := kk u t T'.heap (locs ++ L) e1.symm (by rw [← e2]; exact X'.warmed.alike) hp hb k1 k2 k3 T' rfl X'
    exact ⟨t2, st t2 a1, b1⟩
  · obtain ⟨k1, k2, k3⟩ := vx_keep h0 e1 hS hAX hf hL hF
    obtain ⟨t2, a1, b1⟩ := kx E ce q u t T'.heap (locs ++ L) e1.symm (by rw [← e2]; exact X'.warmed.alike) hp hb k1 k2 k3 (by rw [e1]; exact hce) hcv hcl T' rfl X'
    exact ⟨t2, st.trans a1, b1⟩
/-- caught by the row x of this method's table; the rows ahead don't take it -/
theorem vx_catch {own name : String} {E : String} {ce : Cell} {q : Addr} (hown : s.vm.findClass own = some m.cls) (pre : List ExceptionTableEntry) (x : ExceptionTableEntry) (suf : List ExceptionTableEntry) (hsplit : c.exceptionTable.toList = pre ++ x :: suf)
    (hpass : ∀ z ∈ pre, covers z pc = false ∨ (z.catchType ≠ 0 ∧ ∃ nm : String, (Cond.classLink own z.catchType nm).before args s = true ∧ va_Nc E nm s)) (hx : covers x pc = true) (h0 : x.catchType ≠ 0)
    (hlink : (Cond.classLink own x.catchType name).before args s = true) (hcast : (Cond.castable E name).before args s = true) (hcell : H[q]? = some ce) (hv : ce.vm = .none) (hcl : s.vm.findClass E = some ce.cls)
    (kk : W p l e R s m args below meth c H locs cells slots Q (F0 m x.handlerPc ls [.ref q])) : vx_W p l e R s m args below meth c H locs cells slots Q (F0 m pc ls rest) q := by
  intro T hT X
  have hpl : e.platform.magicAccessors = ({} : Platform).magicAccessors := by rw [X.admits.platform]
  obtain ⟨c3, c4, hc3, hc4, hasg⟩ := Cond.castable_spec hcast
  cases Option.some.inj (hc3.symm.trans hcl)
  obtain ⟨c5, hc5, hcl5⟩ := Cond.classLink_spec hown hlink e.platform hpl
  cases Option.some.inj (hc4.symm.trans hc5)
  obtain ⟨vm', X', st⟩ := X.thenCaughtThrough q (g := F0 m pc ls rest) rfl (Steps.refl _) (by rw [hT]; exact hcell) (by rw [hv]; rfl) (by obtain ⟨k9, h9, -⟩ := Vm.findClass_spec hcl; exact ⟨k9, h9⟩) pre x suf hsplit
    (fun z hz => by
      rcases hpass z hz with h | ⟨hz0, nm, hl1, hn1⟩
      · exact Or.inl h
      · obtain ⟨c6, hc6, hcl6⟩ := Cond.classLink_spec hown hl1 e.platform hpl
        obtain ⟨a8, b8, h1, h2, h3⟩ := hn1
        cases Option.some.inj (h1.symm.trans hcl)
        cases Option.some.inj (h2.symm.trans hc6)
        exact Or.inr ⟨hz0, _, hcl6, h3⟩) hx (Or.inr ⟨h0, c4, hcl5, hasg⟩)
  obtain ⟨t, a1, b1⟩ := kk (T.setVm vm') hT X'
  exact ⟨t, st.trans a1, b1⟩
end Rows
section Ends
variable {p : Program} {l : Launch} {e : Env} {R : Room} {s : State} {m : MethodId} {args : Array Value} {below : List Frame} {meth : Method} {c : Code} {H : Heap} {locs : List Loc} {cells slots : Nat} {Q : State → Prop}
variable {mc ms : Nat} {free : Addr → Prop} {A0 A1 : Nat → Prop} {H0 : Heap} {a : Array Value} {ls : Array Slot} {st0 rest : List Value}
variable {Qc : Array Value → State → Outcome → State → Prop} {XC : String → State → State → Prop}
/-- what a body that may throw owes at its end -/
def vx_MQ (below : List Frame) (Qc : Array Value → State → Outcome → State → Prop) (XC : String → State → State → Prop) (a : Array Value) (s : State) (mc ms : Nat) (free : Addr → Prop) : State → Prop := fun t =>
  ∃ o, t.status = .running ∧ Ended t below o ∧ vx_Q Qc XC mc ms free a s o t
theorem vx_ret {g : JFrame} {mc ms : Nat} (k : W p l e R s m args below meth c H locs cells slots (MQ below Qc args s mc ms free) g) : W p l e R s m args below meth c H locs cells slots (vx_MQ below Qc XC args s mc ms free) g := by
  intro T hT X
  obtain ⟨t, a1, o, b1, b2, b3, b4⟩ := k T hT X
  exact ⟨t, a1, o, b1, b2, Or.inl ⟨b3, b4⟩⟩
/-- not caught here: it goes on to the caller -/
theorem vx_widen {g : JFrame} {q : Addr} {k n : Nat} (h1 : cells ≤ k) (h2 : slots ≤ n) (kk : vx_W p l e R s m args below meth c H locs k n Q g q) : vx_W p l e R s m args below meth c H locs cells slots Q g q := fun T hT X => kk T hT (stand_widen X h1 h2)
theorem vx_out {pc : Nat} {E : String} {ce : Cell} {q : Addr} {mc ms : Nat} (hout : ∀ x ∈ c.exceptionTable.toList, covers x pc = false) (hlocks : meth.locks = false) (hcell : H[q]? = some ce) (hv : ce.vm = .none) (hcl : s.vm.findClass E = some ce.cls)
    (hx : ∀ t : State, t.heap = H → s.vm.Alike t.vm → XC E s t) (hf : ∀ z ∈ locs, free z.base) (hc : cells ≤ mc) (hs : slots ≤ ms) :
    vx_W p l e R s m args below meth c H locs cells slots (vx_MQ below Qc XC args s mc ms free) (F0 m pc ls rest) q := by
  intro T hT X
  obtain ⟨st1, hrun, hend, hW, hsm⟩ := X.leaveThrown q (g := F0 m pc ls rest) rfl rfl rfl hout hlocks
  have hcell9 : (T.setFrames (.throwing q :: below)).heap[q]? = some ce := by
    show T.heap[q]? = some ce
    rw [hT]; exact hcell
  exact ⟨_, st1, .threw q, hrun, hend, Or.inr ⟨q, rfl, E, ce, locs, hx _ hT hW.alike, hcell9, hv, hcl, hW, hsm.mono hc hs, hf⟩⟩
theorem vx_frame {U : State} {k n : Nat} (h : s.sameButNew ({ U with vm := s.vm } : State) locs k n) : s.heap.size ≤ U.heap.size ∧ ∀ q : Nat, q < s.heap.size → (∀ z ∈ locs, z.base ≠ q) → U.heap[q]? = s.heap[q]? := by
  obtain ⟨-, h2, -, -, -, h6⟩ := h
  refine ⟨h2, fun q hq hz => ?_⟩
  obtain ⟨c9, e1, e2, e3, e4⟩ := h6 q _ (Array.getElem?_eq_getElem hq)
  have hs : c9.slots = (s.heap[q]).slots := Array.ext_getElem? fun i => e4 i fun hm => hz _ hm rfl
  have h9 : c9 = s.heap[q] := by
    rw [hs] at e2
    exact e2
  have e5 : U.heap[q]? = some c9 := e1
  rw [e5, h9, Array.getElem?_eq_getElem hq]
/-- the words of a throw but the four that speak of the heap -/
def vx_no (w : Cond) : Bool := decide (w ≠ .isRef (.static Bundle.tN "UNASSIGNED_STACK" Bundle.steD)) && decide (w ≠ .isRef (.static Bundle.tN "SUPPRESSED_SENTINEL" Bundle.listD)) && decide (w ≠ .laysStatic Bundle.tN "UNASSIGNED_STACK" Bundle.steD) && decide (w ≠ .laysStatic Bundle.tN "SUPPRESSED_SENTINEL" Bundle.listD)
def vx_at0 (own : String) (ic : Nat) (X : String) (names : List String) : List Cond := (Bundle.ownAtoms0 own ic X names).filter vx_no
def vx_atS (own : String) (ic : Nat) (X : String) (names : List String) : List Cond := (Bundle.ownAtoms own ic X names).filter vx_no
/-- a word that the tables alone decide, or a good one -/
def vx_ot (w : Cond) : Bool := w.onTables || goodWord w
theorem vx_ot_at {args a' : Array Value} {s U : State} {w : Cond} (hW : s.WarmedH U.vm) (hvm : s.vm = U.vm) (hg : vx_ot w = true) (h : w.before args s = true) : w.before a' U = true := by
  simp only [vx_ot, Bool.or_eq_true] at hg
  rcases hg with hg | hg
  · exact va_tabs hg hvm h
  · exact word_at hW (good_of_word hg) h
/-- a list's words: the good ones out of the method's own list, the others by premises of their own -/
theorem vx_hat {args : Array Value} {s : State} {L B : List Cond} (h1 : ∀ w ∈ L.filter goodWord, w.before args s = true) (h2 : ∀ w ∈ L.filter (fun w => !goodWord w), w ∈ B) (h3 : ∀ w ∈ B, w.before args s = true) : ∀ w ∈ L, w.before args s = true := by
  intro w hw
  by_cases g : goodWord w = true
  · exact h1 w (List.mem_filter.mpr ⟨hw, g⟩)
  · refine h3 w (h2 w (List.mem_filter.mpr ⟨hw, ?_⟩))
    show (!goodWord w) = true
    cases hgw : goodWord w
    · rfl
    · exact absurd hgw g
theorem vx_c {args : Array Value} {s : State} {w : Cond} {B : List Cond} (h : w.before args s = true) (t : ∀ w ∈ B, w.before args s = true) : ∀ w' ∈ w :: B, w'.before args s = true := fun w' h' => (List.mem_cons.mp h').elim (fun e => by rw [e]; exact h) (t w')
theorem vx_n {args : Array Value} {s : State} : ∀ w ∈ ([] : List Cond), w.before args s = true := fun _ h => nomatch h
theorem vx_own {args : Array Value} {s : State} {L : List Cond} (h1 : ∀ w ∈ L.filter vx_no, w.before args s = true)
    (hU : (Cond.isRef (.static Bundle.tN "UNASSIGNED_STACK" Bundle.steD)).before args s = true) (hN : (Cond.isRef (.static Bundle.tN "SUPPRESSED_SENTINEL" Bundle.listD)).before args s = true)
    (lU : (Cond.laysStatic Bundle.tN "UNASSIGNED_STACK" Bundle.steD).before args s = true) (lN : (Cond.laysStatic Bundle.tN "SUPPRESSED_SENTINEL" Bundle.listD).before args s = true) : ∀ w ∈ L, w.before args s = true := by
  intro w hw
  by_cases e1 : w = .isRef (.static Bundle.tN "UNASSIGNED_STACK" Bundle.steD)
  · rw [e1]; exact hU
  · by_cases e2 : w = .isRef (.static Bundle.tN "SUPPRESSED_SENTINEL" Bundle.listD)
    · rw [e2]; exact hN
    · by_cases e3 : w = .laysStatic Bundle.tN "UNASSIGNED_STACK" Bundle.steD
      · rw [e3]; exact lU
      · by_cases e4 : w = .laysStatic Bundle.tN "SUPPRESSED_SENTINEL" Bundle.listD
        · rw [e4]; exact lN
        · exact h1 w (List.mem_filter.mpr ⟨hw, by unfold vx_no; rw [decide_eq_true e1, decide_eq_true e2, decide_eq_true e3, decide_eq_true e4]; rfl⟩)
/-- where a static field lies, its class's statics cell in H -/
def vx_L (C n d : String) (A : Nat → Prop) (U : State) (H : Heap) : Prop := ∃ (c : ClassId) (k : Class) (i : Nat) (f : Field) (a : Nat) (cell : Cell), U.vm.findClass C = some c ∧ U.fieldFound? C n d = some (c, k, i, f) ∧ f.isStatic = true ∧ k.statics = some a ∧ H[a]? = some cell ∧ cell.vm.isStatics = true ∧ cell.cls = c ∧ f.slot < cell.slots.size ∧ k.staticTypes[f.slot]? = some f.type ∧ ¬ A a
theorem vx_L.moved {C n d : String} {A : Nat → Prop} {u U : State} {H : Heap} (hvm : u.vm.Alike U.vm) (h : vx_L C n d A u H) : vx_L C n d A U H := by
  obtain ⟨c, k, i, f, a, cell, h1, h2, h3, h4, h5, h6, h7, h8, h9, h10⟩ := h
  obtain ⟨k', hi', he⟩ := State.fieldFound?_setVm hvm h2
  exact ⟨c, k', i, f, a, cell, by rw [hvm.findClass]; exact h1, hi', h3, by rw [he]; exact h4, h5, h6, h7, h8, by rw [he]; exact h9, h10⟩
theorem vx_L.kept {C n d : String} {A : Nat → Prop} {U : State} {H H1 : Heap} (h : vx_L C n d A U H) (hq : ∀ a : Nat, a < H.size → ¬ A a → H1[a]? = H[a]?) : vx_L C n d A U H1 := by
  obtain ⟨c, k, i, f, a, cell, h1, h2, h3, h4, h5, h6, h7, h8, h9, h10⟩ := h
  exact ⟨c, k, i, f, a, cell, h1, h2, h3, h4, by rw [hq a (Array.getElem?_eq_some_iff.mp h5).1 h10]; exact h5, h6, h7, h8, h9, h10⟩
theorem vx_L.narrow {C n d : String} {A B : Nat → Prop} {U : State} {H : Heap} (h : vx_L C n d A U H) (hAB : ∀ q, B q → A q) : vx_L C n d B U H := by
  obtain ⟨c, k, i, f, a, cell, h1, h2, h3, h4, h5, h6, h7, h8, h9, h10⟩ := h
  exact ⟨c, k, i, f, a, cell, h1, h2, h3, h4, h5, h6, h7, h8, h9, fun z => h10 (hAB _ z)⟩
theorem vx_L.word {C n d : String} {A : Nat → Prop} {s : State} {args : Array Value} (h : vx_L C n d A s s.heap) : (Cond.laysStatic C n d).before args s = true := by
  obtain ⟨c, k, i, f, a, cell, h1, h2, h3, h4, h5, h6, h7, h8, h9, -⟩ := h
  show (Cond.laysStatic C n d).holds args s none s [] = true
  exact Cond.laysStatic_of h1 h2 h3 h4 h5 h6 h7 h8 h9
/-- .. and what it holds: null or some reference -/
def vx_Zq (C n d : String) (A : Nat → Prop) (U : State) (H : Heap) : Prop := va_Zq C n d A U H ∧ vx_L C n d A U H
theorem vx_Zq.moved {C n d : String} {A : Nat → Prop} {u U : State} {H : Heap} (hvm : u.vm.Alike U.vm) (h : vx_Zq C n d A u H) : vx_Zq C n d A U H := ⟨va_Zq.moved hvm h.1, vx_L.moved hvm h.2⟩
theorem vx_Zq.kept {C n d : String} {A : Nat → Prop} {U : State} {H H1 : Heap} (h : vx_Zq C n d A U H) (hq : ∀ a : Nat, a < H.size → ¬ A a → H1[a]? = H[a]?) : vx_Zq C n d A U H1 := ⟨va_Zq.kept h.1 hq, vx_L.kept h.2 hq⟩
theorem vx_Zq.narrow {C n d : String} {A B : Nat → Prop} {U : State} {H : Heap} (h : vx_Zq C n d A U H) (hAB : ∀ q, B q → A q) : vx_Zq C n d B U H := ⟨va_Zq.narrow h.1 hAB, vx_L.narrow h.2 hAB⟩
theorem vx_Zqof {args : Array Value} {s : State} {C n d : String} {A : Nat → Prop} (hl : (Cond.laysStatic C n d).before args s = true) (hini : (Cond.initialized C).before args s = true) (h : (Cond.isRef (.static C n d)).before args s = true) (hA : ∀ a : Nat, a < s.heap.size → ¬ A a) : vx_Zq C n d A s s.heap := by
  refine ⟨va_Zqof hl hini h hA, ?_⟩
  obtain ⟨c, k, i, f, a, cell, h1, h2, h3, h4, h5, h6, h7, h8, h9⟩ := Cond.laysStatic_spec hl
  exact ⟨c, k, i, f, a, cell, h1, h2, h3, h4, h5, h6, h7, h8, h9, hA a (Array.getElem?_eq_some_iff.mp h5).1⟩
theorem vx_isRef {C n d : String} {v : Value} {A : Nat → Prop} {s : State} {args : Array Value} (h : va_Z C n d v A s s.heap) (hv : v.isRef = true) : (Cond.isRef (.static C n d)).before args s = true := by
  obtain ⟨cf, kf, fi, f, a, cell, h1, h2, h3, h4, h5, h6, h7, -⟩ := h
  have he : (Term.static C n d).eval args s none [] s = some v := by
    simp [Term.eval, State.fieldNamed?, h1, h2, h4, h5, h6, h7]
  simp only [Cond.before, Cond.holds, Cond.value, he]
  cases v <;> simp_all [Value.isRef]
theorem vx_isRefq {C n d : String} {A : Nat → Prop} {s : State} {args : Array Value} (h : va_Zq C n d A s s.heap) : (Cond.isRef (.static C n d)).before args s = true := by
  rcases h with h | ⟨t, h⟩
  · exact vx_isRef h rfl
  · exact vx_isRef h rfl
/-- the same frame, seen from here: as if the method were called anew in this heap -/
theorem vx_rebase {T : State} (X : Stand p l e R s m args below meth c T locs cells slots) {R' : Room} (hf : R'.frames ≤ R.frames) (hl : R'.locals ≤ R.locals) (hc : cells + R'.cells ≤ R.cells) (hs : slots + R'.slots ≤ R.slots) :
    Stand p l e R' ((T.setVm s.vm).setFrames (.invoking m args :: below)) m args below meth c T [] 0 0 := by
  have htop : (T.setVm s.vm).topJava?.isSome := X.here.top
  have hF : ((T.setVm s.vm).setFrames (.invoking m args :: below)).frames = .invoking m args :: below := State.frames_setFrames _ (State.cur_lt_of_top htop)
  obtain ⟨g₀, hg0⟩ := Option.isSome_iff_exists.mp htop
  obtain ⟨r, hr⟩ := State.topJava?_eq_some.mp hg0
  have hl9 : e.platform.stackLimits (T.setVm s.vm).me = e.platform.stackLimits s.me := X.limits
  have hb9 : (T.setVm s.vm).me.stackBytes = s.me.stackBytes := X.bytes
  refine ⟨X.admits, X.cas, X.clock, hF, ?_, X.hears, X.method, X.code, X.here, X.tail, X.warmed, ?_, ?_, ?_⟩
  · have h := X.room
    have hU : ((T.setVm s.vm).setFrames (.invoking m args :: below)).localsInUse = s.localsInUse := by
      rw [State.localsInUse_invoking hF (meth := meth) (c := c) X.method X.code, State.localsInUse_invoking X.frames X.method X.code]
    simp only [State.hasRoom, Bool.and_eq_true, decide_eq_true_eq] at h ⊢
    obtain ⟨⟨⟨⟨h1, h2, h3, h4, h5, h6⟩, h7⟩, h8⟩, h9⟩ := h
    rw [X.frames, List.length_cons] at h2 h3
    have q1 := X.heapSize
    have q2 := X.used
    simp only [hF, hU, List.length_cons, State.stackLimits_setFrames, State.stackBytes_setFrames, hl9, hb9]
    refine ⟨⟨⟨⟨by omega, by omega, by omega, by omega, by omega, h6⟩, ?_⟩, ?_⟩, X.book⟩
    · show T.heap.size + R'.cells ≤ e.platform.maxCells
      omega
    · show T.slotsUsed + R'.slots ≤ e.platform.maxSlots
      omega
  · rw [State.stackLimits_setFrames]; rfl
  · rw [State.stackBytes_setFrames]; rfl
  · refine ⟨?_, Nat.le_refl _, Nat.le_refl _, ?_, ?_, fun a c9 h9 => ⟨c9, h9, rfl, rfl, fun _ _ => rfl⟩⟩
    · obtain ⟨t, ht, -⟩ := State.frames_cons hr
      show T.setVm s.vm = { ((T.setVm s.vm).setFrames (.invoking m args :: below)).setFrames (T.setVm s.vm).frames with heap := T.heap, slotsUsed := T.slotsUsed }
      rw [State.setFrames_setFrames, State.setFrames_self ht]
      rfl
    · show T.slotsUsed = T.slotsUsed + ((T.heap.toList.drop T.heap.size).map (·.slots.size)).sum
      rw [List.drop_eq_nil_of_le (Nat.le_of_eq Array.length_toList)]
      rfl
    · show ((T.heap.toList.drop T.heap.size).map (·.slots.size)).sum ≤ 0
      rw [List.drop_eq_nil_of_le (Nat.le_of_eq Array.length_toList)]
      exact Nat.le_refl _
/-- 'throw new E()': new; dup; invokespecial; athrow -/
theorem vx_throw0 {cc : ByteArray} {pc : Nat} (hexec : p.tables.exec = Jvm.exec) (hb : c.code = cc) (hl : l.stackTraces = false) {own cls : String} {names : List String} {ik ic mc ms : Nat} {A : Nat → Prop}
    (hown : s.vm.findClass own = some m.cls) (hcls : Bundle.fit cls = true) (hnames : ∀ n ∈ names, Bundle.fit n = true)
    (hk : (Cond.classLink own ik cls).before args s = true) (hini : (Cond.initialized cls).before args s = true) (hat : ∀ w ∈ vx_at0 own ic cls names, w.before args s = true)
    (hgood : ∀ w ∈ Cond.classLink own ik cls :: Cond.initialized cls :: vx_at0 own ic cls names, vx_ot w = true)
    (hU : vx_Zq Bundle.tN "UNASSIGNED_STACK" Bundle.steD A s s.heap) (hN : vx_Zq Bundle.tN "SUPPRESSED_SENTINEL" Bundle.listD A s s.heap) (hS : va_S A s.heap H locs) (hsize : ls.size = c.maxLocals)
    (d0 : decode cc pc = .ok (.new ik, 3)) (d3 : decode cc (pc + 3) = .ok (.dup, 1)) (d4 : decode cc (pc + 4) = .ok (.invokespecial ic, 3)) (d7 : decode cc (pc + 7) = .ok (.athrow, 1))
    (hout : ∀ x ∈ c.exceptionTable.toList, covers x (pc + 7) = false)
    (hRframes : names.length + 3 < R.frames) (hRlocals : (rest.map fun v => v.category).sum + (13 * (names.length + 1) + 42) ≤ R.locals) (hRcells : cells + 1 ≤ R.cells) (hRslots : slots + 6 ≤ R.slots) (hlocks : meth.locks = false)
    (hx : ∀ t : State, s.vm.Alike t.vm → H.size ≤ t.heap.size → (∀ q : Nat, q < H.size → t.heap[q]? = H[q]?) → XC cls s t)
    (hf : ∀ z ∈ locs, free z.base) (hc : cells + 1 ≤ mc) (hs : slots + 6 ≤ ms) :
    W p l e R s m args below meth c H locs cells slots (vx_MQ below Qc XC args s mc ms free) (F0 m pc ls rest) := by
  intro T hT X
  have htr : e.platform.stackTraces = false := (show e.platform.stackTraces = l.stackTraces by rw [X.admits.platform]).trans hl
  have Y := vx_rebase X (R' := { frames := R.frames, locals := R.locals, cells := 1, slots := 6 }) (Nat.le_refl _) (Nat.le_refl _) hRcells hRslots
  obtain ⟨s', hA⟩ : ∃ z, z = (T.setVm s.vm).setFrames (.invoking m args :: below) := ⟨_, rfl⟩
  rw [← hA] at Y
  have hvm : s'.vm = s.vm := by rw [hA]; rfl
  have hhp : s'.heap = H := by rw [hA]; exact hT
  have hW0 : s.WarmedH s'.vm := by rw [hvm]; exact State.WarmedH.refl s
  have hat' : ∀ w ∈ vx_at0 own ic cls names, w.before args s' = true := fun w hw => vx_ot_at hW0 hvm.symm (hgood w (List.mem_cons_of_mem _ (List.mem_cons_of_mem _ hw))) (hat w hw)
  have hk' : (Cond.classLink own ik cls).before args s' = true := vx_ot_at hW0 hvm.symm (hgood _ List.mem_cons_self) hk
  have hini' : (Cond.initialized cls).before args s' = true := vx_ot_at hW0 hvm.symm (hgood _ (List.mem_cons_of_mem _ List.mem_cons_self)) hini
  have hU' : vx_Zq Bundle.tN "UNASSIGNED_STACK" Bundle.steD A s' s'.heap := by rw [hhp]; exact vx_Zq.moved hW0.alike (hU.kept hS.2.1)
  have hN' : vx_Zq Bundle.tN "SUPPRESSED_SENTINEL" Bundle.listD A s' s'.heap := by rw [hhp]; exact vx_Zq.moved hW0.alike (hN.kept hS.2.1)
  have h : ∀ w ∈ Bundle.ownAtoms0 own ic cls names, w.before args s' = true := vx_own hat' (vx_isRefq hU'.1) (vx_isRefq hN'.1) hU'.2.word hN'.2.word
  have hown' : s'.vm.findClass own = some m.cls := by rw [hvm]; exact hown
  have hins : (Cond.instantiable cls 6).before args s' = true := h _ (by simp [Bundle.ownAtoms0])
  obtain ⟨vm₁, cX, kX, hfX, hkX, -, -, X₁, st1⟩ := Y.newCold hexec (own := own) (C := cls) (index := ik) (n := 6) hown' hk' hins hini'
    (g := F0 m pc ls rest) rfl (by rw [hb]; exact d0) (Nat.le_refl _) (Nat.le_refl _)
  generalize hT1 : (T.setVm vm₁).pushCell { cls := cX, slots := kX.instanceTypes.map defaultValue, vm := .none } = T1 at X₁ st1
  have hcat : (Value.ref T.heap.size).category = 1 := rfl
  have hcellA : T1.heap[T.heap.size]? = some (freshCell cX kX) := by rw [← hT1]; exact State.heap_pushCell_size _ _
  have d3' : decode c.code (pc + 3) = .ok (.dup, 1) := by rw [hb]; exact d3
  obtain ⟨U, hsteps, hrun, hend, hW, hsame, ce, hce, hO⟩ := X₁.ctorThrow0 hexec htr (own := own) (cls := cls) (names := names) (ic := ic) hown' hcls hnames h (fun x hx => nomatch hx) hfX hkX hcellA (by rw [hhp, hT]; exact Nat.le_refl _)
    (g := { method := m, pc := pc + 4, locals := ls, stack := .ref T.heap.size :: .ref T.heap.size :: rest, locked := none }) rfl hsize rfl rfl (rest := rest) rfl
    (by rw [hb]; exact d4) (by rw [hb]; exact d7) hout hRframes (by simp only [List.map_cons, List.sum_cons, hcat]; omega) hlocks
  obtain ⟨f1, f2⟩ := vx_frame hsame
  rw [hhp] at f1 f2
  have hWs : s.WarmedH U.vm := State.WarmedH.trans hW0 hW
  have hcl : s.vm.findClass cls = some ce.cls := by
    have h9 := hO.cls
    rw [hvm] at h9
    exact h9
  have hall : s.sameButNew ({ U with vm := s.vm } : State) locs mc ms := by
    subst hA
    obtain ⟨e1, e2⟩ := hsame
    rw [State.setFrames_setFrames] at e1
    have h2 : (T.setVm s.vm).sameButNew ({ U with vm := s.vm } : State) [] (0 + 1) (0 + 6) := ⟨e1, e2⟩
    have h3 := X.same.trans h2
    rw [List.append_nil] at h3
    exact h3.mono hc hs
  refine ⟨U, ?_, .threw T.heap.size, hrun, hend, Or.inr ⟨T.heap.size, rfl, cls, ce, locs, hx U hWs.alike f1 (fun q hq => f2 q hq (fun z hz => nomatch hz)), hce, hO.vm, hcl, hWs, hall, hf⟩⟩
  refine st1 _ ?_
  show Steps p.tables e below (T1.setTop { method := m, pc := pc + 3, locals := ls, stack := .ref T.heap.size :: rest, locked := none }) _
  jvm_step X₁.here [X₁.here.top, hexec, d3', Value.category]
  exact hsteps
/-- 'throw new E("text")': new; dup; ldc; invokespecial; athrow -/
theorem vx_throwS {cc : ByteArray} {pc : Nat} (hexec : p.tables.exec = Jvm.exec) (hb : c.code = cc) (hl : l.stackTraces = false) {own cls text : String} {names : List String} {ik is ic mc ms sa : Nat} {A : Nat → Prop}
    (hown : s.vm.findClass own = some m.cls) (hcls : Bundle.fit cls = true) (hnames : ∀ n ∈ names, Bundle.fit n = true)
    (hk : (Cond.classLink own ik cls).before args s = true) (hini : (Cond.initialized cls).before args s = true) (hstr : vk_R own is text sa s) (hat : ∀ w ∈ vx_atS own ic cls names, w.before args s = true)
    (hgood : ∀ w ∈ Cond.classLink own ik cls :: Cond.initialized cls :: vx_atS own ic cls names, vx_ot w = true)
    (hU : vx_Zq Bundle.tN "UNASSIGNED_STACK" Bundle.steD A s s.heap) (hN : vx_Zq Bundle.tN "SUPPRESSED_SENTINEL" Bundle.listD A s s.heap) (hS : va_S A s.heap H locs) (hsize : ls.size = c.maxLocals)
    (d0 : decode cc pc = .ok (.new ik, 3)) (d3 : decode cc (pc + 3) = .ok (.dup, 1)) (d4 : decode cc (pc + 4) = .ok (.ldc is, 2)) (d6 : decode cc (pc + 6) = .ok (.invokespecial ic, 3)) (d9 : decode cc (pc + 9) = .ok (.athrow, 1))
    (hout : ∀ x ∈ c.exceptionTable.toList, covers x (pc + 9) = false)
    (hRframes : names.length + 3 < R.frames) (hRlocals : (rest.map fun v => v.category).sum + (13 * (names.length + 1) + 43) ≤ R.locals) (hRcells : cells + 1 ≤ R.cells) (hRslots : slots + 6 ≤ R.slots) (hlocks : meth.locks = false)
    (hx : ∀ t : State, s.vm.Alike t.vm → H.size ≤ t.heap.size → (∀ q : Nat, q < H.size → t.heap[q]? = H[q]?) → XC cls s t)
    (hf : ∀ z ∈ locs, free z.base) (hc : cells + 1 ≤ mc) (hs : slots + 6 ≤ ms) :
    W p l e R s m args below meth c H locs cells slots (vx_MQ below Qc XC args s mc ms free) (F0 m pc ls rest) := by
  intro T hT X
  have htr : e.platform.stackTraces = false := (show e.platform.stackTraces = l.stackTraces by rw [X.admits.platform]).trans hl
  have Y := vx_rebase X (R' := { frames := R.frames, locals := R.locals, cells := 1, slots := 6 }) (Nat.le_refl _) (Nat.le_refl _) hRcells hRslots
  obtain ⟨s', hA⟩ : ∃ z, z = (T.setVm s.vm).setFrames (.invoking m args :: below) := ⟨_, rfl⟩
  rw [← hA] at Y
  have hvm : s'.vm = s.vm := by rw [hA]; rfl
  have hhp : s'.heap = H := by rw [hA]; exact hT
  have hW0 : s.WarmedH s'.vm := by rw [hvm]; exact State.WarmedH.refl s
  have hat' : ∀ w ∈ vx_atS own ic cls names, w.before args s' = true := fun w hw => vx_ot_at hW0 hvm.symm (hgood w (List.mem_cons_of_mem _ (List.mem_cons_of_mem _ hw))) (hat w hw)
  have hk' : (Cond.classLink own ik cls).before args s' = true := vx_ot_at hW0 hvm.symm (hgood _ List.mem_cons_self) hk
  have hini' : (Cond.initialized cls).before args s' = true := vx_ot_at hW0 hvm.symm (hgood _ (List.mem_cons_of_mem _ List.mem_cons_self)) hini
  have hU' : vx_Zq Bundle.tN "UNASSIGNED_STACK" Bundle.steD A s' s'.heap := by rw [hhp]; exact vx_Zq.moved hW0.alike (hU.kept hS.2.1)
  have hN' : vx_Zq Bundle.tN "SUPPRESSED_SENTINEL" Bundle.listD A s' s'.heap := by rw [hhp]; exact vx_Zq.moved hW0.alike (hN.kept hS.2.1)
  have h : ∀ w ∈ Bundle.ownAtoms own ic cls names, w.before args s' = true := vx_own hat' (vx_isRefq hU'.1) (vx_isRefq hN'.1) hU'.2.word hN'.2.word
  have hown' : s'.vm.findClass own = some m.cls := by rw [hvm]; exact hown
  have hins : (Cond.instantiable cls 6).before args s' = true := h _ (by simp [Bundle.ownAtoms])
  obtain ⟨vm₁, cX, kX, hfX, hkX, -, -, X₁, st1⟩ := Y.newCold hexec (own := own) (C := cls) (index := ik) (n := 6) hown' hk' hins hini'
    (g := F0 m pc ls rest) rfl (by rw [hb]; exact d0) (Nat.le_refl _) (Nat.le_refl _)
  generalize hT1 : (T.setVm vm₁).pushCell { cls := cX, slots := kX.instanceTypes.map defaultValue, vm := .none } = T1 at X₁ st1
  have hcat : (Value.ref T.heap.size).category = 1 := rfl
  have hcellA : T1.heap[T.heap.size]? = some (freshCell cX kX) := by rw [← hT1]; exact State.heap_pushCell_size _ _
  have d3' : decode c.code (pc + 3) = .ok (.dup, 1) := by rw [hb]; exact d3
  have d4' : decode c.code (pc + 4) = .ok (.ldc is, 2) := by rw [hb]; exact d4
  have hstr' : vk_R own is text sa s' := vk_R.warm hW0 hstr
  obtain ⟨U, hsteps, hrun, hend, hW, hsame, ce, hce, hO⟩ := X₁.ctorThrowS hexec htr (own := own) (cls := cls) (names := names) (ic := ic) hown' hcls hnames h (fun x hx => nomatch hx) hfX hkX hcellA (by rw [hhp, hT]; exact Nat.le_refl _) (msg := .ref sa) rfl
    (g := { method := m, pc := pc + 6, locals := ls, stack := .ref sa :: .ref T.heap.size :: .ref T.heap.size :: rest, locked := none }) rfl hsize rfl rfl (rest := rest) rfl
    (by rw [hb]; exact d6) (by rw [hb]; exact d9) hout hRframes (by simp only [List.map_cons, List.sum_cons, hcat]; omega) hlocks
  obtain ⟨f1, f2⟩ := vx_frame hsame
  rw [hhp] at f1 f2
  have hWs : s.WarmedH U.vm := State.WarmedH.trans hW0 hW
  have hcl : s.vm.findClass cls = some ce.cls := by
    have h9 := hO.cls
    rw [hvm] at h9
    exact h9
  have hall : s.sameButNew ({ U with vm := s.vm } : State) locs mc ms := by
    subst hA
    obtain ⟨e1, e2⟩ := hsame
    rw [State.setFrames_setFrames] at e1
    have h2 : (T.setVm s.vm).sameButNew ({ U with vm := s.vm } : State) [] (0 + 1) (0 + 6) := ⟨e1, e2⟩
    have h3 := X.same.trans h2
    rw [List.append_nil] at h3
    exact h3.mono hc hs
  refine ⟨U, ?_, .threw T.heap.size, hrun, hend, Or.inr ⟨T.heap.size, rfl, cls, ce, locs, hx U hWs.alike f1 (fun q hq => f2 q hq (fun z hz => nomatch hz)), hce, hO.vm, hcl, hWs, hall, hf⟩⟩
  refine st1 _ ?_
  show Steps p.tables e below (T1.setTop { method := m, pc := pc + 3, locals := ls, stack := .ref T.heap.size :: rest, locked := none }) _
  jvm_step X₁.here [X₁.here.top, hexec, d3', Value.category]
  exact X₁.ldcString hexec (own := own) (text := text) (index := is) (a := sa) hown' hstr'.1 hstr'.2
    (g := { method := m, pc := pc + 4, locals := ls, stack := .ref T.heap.size :: .ref T.heap.size :: rest, locked := none }) rfl d4' _ hsteps
/-- 'throw new E("text")', the text by a wide index -/
theorem vx_throwSW {cc : ByteArray} {pc : Nat} (hexec : p.tables.exec = Jvm.exec) (hb : c.code = cc) (hl : l.stackTraces = false) {own cls text : String} {names : List String} {ik is ic mc ms sa : Nat} {A : Nat → Prop}
    (hown : s.vm.findClass own = some m.cls) (hcls : Bundle.fit cls = true) (hnames : ∀ n ∈ names, Bundle.fit n = true)
    (hk : (Cond.classLink own ik cls).before args s = true) (hini : (Cond.initialized cls).before args s = true) (hstr : vk_R own is text sa s) (hat : ∀ w ∈ vx_atS own ic cls names, w.before args s = true)
    (hgood : ∀ w ∈ Cond.classLink own ik cls :: Cond.initialized cls :: vx_atS own ic cls names, vx_ot w = true)
    (hU : vx_Zq Bundle.tN "UNASSIGNED_STACK" Bundle.steD A s s.heap) (hN : vx_Zq Bundle.tN "SUPPRESSED_SENTINEL" Bundle.listD A s s.heap) (hS : va_S A s.heap H locs) (hsize : ls.size = c.maxLocals)
    (d0 : decode cc pc = .ok (.new ik, 3)) (d3 : decode cc (pc + 3) = .ok (.dup, 1)) (d4 : decode cc (pc + 4) = .ok (.ldc_w is, 3)) (d7 : decode cc (pc + 7) = .ok (.invokespecial ic, 3)) (d10 : decode cc (pc + 10) = .ok (.athrow, 1))
    (hout : ∀ x ∈ c.exceptionTable.toList, covers x (pc + 10) = false)
    (hRframes : names.length + 3 < R.frames) (hRlocals : (rest.map fun v => v.category).sum + (13 * (names.length + 1) + 43) ≤ R.locals) (hRcells : cells + 1 ≤ R.cells) (hRslots : slots + 6 ≤ R.slots) (hlocks : meth.locks = false)
    (hx : ∀ t : State, s.vm.Alike t.vm → H.size ≤ t.heap.size → (∀ q : Nat, q < H.size → t.heap[q]? = H[q]?) → XC cls s t)
    (hf : ∀ z ∈ locs, free z.base) (hc : cells + 1 ≤ mc) (hs : slots + 6 ≤ ms) :
    W p l e R s m args below meth c H locs cells slots (vx_MQ below Qc XC args s mc ms free) (F0 m pc ls rest) := by
  intro T hT X
  have htr : e.platform.stackTraces = false := (show e.platform.stackTraces = l.stackTraces by rw [X.admits.platform]).trans hl
  have Y := vx_rebase X (R' := { frames := R.frames, locals := R.locals, cells := 1, slots := 6 }) (Nat.le_refl _) (Nat.le_refl _) hRcells hRslots
  obtain ⟨s', hA⟩ : ∃ z, z = (T.setVm s.vm).setFrames (.invoking m args :: below) := ⟨_, rfl⟩
  rw [← hA] at Y
  have hvm : s'.vm = s.vm := by rw [hA]; rfl
  have hhp : s'.heap = H := by rw [hA]; exact hT
  have hW0 : s.WarmedH s'.vm := by rw [hvm]; exact State.WarmedH.refl s
  have hat' : ∀ w ∈ vx_atS own ic cls names, w.before args s' = true := fun w hw => vx_ot_at hW0 hvm.symm (hgood w (List.mem_cons_of_mem _ (List.mem_cons_of_mem _ hw))) (hat w hw)
  have hk' : (Cond.classLink own ik cls).before args s' = true := vx_ot_at hW0 hvm.symm (hgood _ List.mem_cons_self) hk
  have hini' : (Cond.initialized cls).before args s' = true := vx_ot_at hW0 hvm.symm (hgood _ (List.mem_cons_of_mem _ List.mem_cons_self)) hini
  have hU' : vx_Zq Bundle.tN "UNASSIGNED_STACK" Bundle.steD A s' s'.heap := by rw [hhp]; exact vx_Zq.moved hW0.alike (hU.kept hS.2.1)
  have hN' : vx_Zq Bundle.tN "SUPPRESSED_SENTINEL" Bundle.listD A s' s'.heap := by rw [hhp]; exact vx_Zq.moved hW0.alike (hN.kept hS.2.1)
  have h : ∀ w ∈ Bundle.ownAtoms own ic cls names, w.before args s' = true := vx_own hat' (vx_isRefq hU'.1) (vx_isRefq hN'.1) hU'.2.word hN'.2.word
  have hown' : s'.vm.findClass own = some m.cls := by rw [hvm]; exact hown
  have hins : (Cond.instantiable cls 6).before args s' = true := h _ (by simp [Bundle.ownAtoms])
  obtain ⟨vm₁, cX, kX, hfX, hkX, -, -, X₁, st1⟩ := Y.newCold hexec (own := own) (C := cls) (index := ik) (n := 6) hown' hk' hins hini'
    (g := F0 m pc ls rest) rfl (by rw [hb]; exact d0) (Nat.le_refl _) (Nat.le_refl _)
  generalize hT1 : (T.setVm vm₁).pushCell { cls := cX, slots := kX.instanceTypes.map defaultValue, vm := .none } = T1 at X₁ st1
  have hcat : (Value.ref T.heap.size).category = 1 := rfl
  have hcellA : T1.heap[T.heap.size]? = some (freshCell cX kX) := by rw [← hT1]; exact State.heap_pushCell_size _ _
  have d3' : decode c.code (pc + 3) = .ok (.dup, 1) := by rw [hb]; exact d3
  have d4' : decode c.code (pc + 4) = .ok (.ldc_w is, 3) := by rw [hb]; exact d4
  have hstr' : vk_R own is text sa s' := vk_R.warm hW0 hstr
  obtain ⟨U, hsteps, hrun, hend, hW, hsame, ce, hce, hO⟩ := X₁.ctorThrowS hexec htr (own := own) (cls := cls) (names := names) (ic := ic) hown' hcls hnames h (fun x hx => nomatch hx) hfX hkX hcellA (by rw [hhp, hT]; exact Nat.le_refl _) (msg := .ref sa) rfl
    (g := { method := m, pc := pc + 7, locals := ls, stack := .ref sa :: .ref T.heap.size :: .ref T.heap.size :: rest, locked := none }) rfl hsize rfl rfl (rest := rest) rfl
    (by rw [hb]; exact d7) (by rw [hb]; exact d10) hout hRframes (by simp only [List.map_cons, List.sum_cons, hcat]; omega) hlocks
  obtain ⟨f1, f2⟩ := vx_frame hsame
  rw [hhp] at f1 f2
  have hWs : s.WarmedH U.vm := State.WarmedH.trans hW0 hW
  have hcl : s.vm.findClass cls = some ce.cls := by
    have h9 := hO.cls
    rw [hvm] at h9
    exact h9
  have hall : s.sameButNew ({ U with vm := s.vm } : State) locs mc ms := by
    subst hA
    obtain ⟨e1, e2⟩ := hsame
    rw [State.setFrames_setFrames] at e1
    have h2 : (T.setVm s.vm).sameButNew ({ U with vm := s.vm } : State) [] (0 + 1) (0 + 6) := ⟨e1, e2⟩
    have h3 := X.same.trans h2
    rw [List.append_nil] at h3
    exact h3.mono hc hs
  refine ⟨U, ?_, .threw T.heap.size, hrun, hend, Or.inr ⟨T.heap.size, rfl, cls, ce, locs, hx U hWs.alike f1 (fun q hq => f2 q hq (fun z hz => nomatch hz)), hce, hO.vm, hcl, hWs, hall, hf⟩⟩
  refine st1 _ ?_
  show Steps p.tables e below (T1.setTop { method := m, pc := pc + 3, locals := ls, stack := .ref T.heap.size :: rest, locked := none }) _
  jvm_step X₁.here [X₁.here.top, hexec, d3', Value.category]
  exact X₁.ldcStringW hexec (own := own) (text := text) (index := is) (a := sa) hown' hstr'.1 hstr'.2
    (g := { method := m, pc := pc + 4, locals := ls, stack := .ref T.heap.size :: .ref T.heap.size :: rest, locked := none }) rfl d4' _ hsteps
end Ends
section Bodies
variable {l : Launch}
theorem vx_ofW {y : MethodName} {ws ws' : List Cond} {rm : Room} {Pc : Array Value → State → Prop} {Qc : Array Value → State → Outcome → State → Prop} {XC : String → State → State → Prop} {mc ms : Nat} {free : Addr → Prop} {cc : ByteArray} {maxL : Nat} {ret : Option FieldType}
    (hy : plainName y.cls = true) (hw : ws = Cond.code y cc maxL ret :: ws')
    (body : ∀ p e s m args below meth c s₁, BodyLoose p l y (headSpec ws rm) cc maxL ret e s m args below meth c s₁ → c.maxLocals = maxL → (∀ x ∈ c.exceptionTable.toList, False) → Pc args s →
      W p l e (headSpec ws rm).room s m args below meth c s.heap [] 0 0 (vx_MQ below Qc XC args s mc ms free) (entryFrame m args maxL)) : vx_Met l y ws rm Pc Qc XC mc ms free := by
  refine MetFree.of_bodyS (code := cc) (maxLocals := maxL) (ret := ret) hy ?_ ?_
  · intro args s m h hn
    obtain ⟨meth, c, h1, h2, h3, h4, h5, h6, -, -⟩ := Cond.code_spec hn (atoms_spec (ws := ws) h _ (by rw [hw]; exact List.mem_cons_self))
    exact ⟨meth, c, h1, h2, h3, h4, h5, h6⟩
  · intro p e s m args below meth c s₁ B hml hP _
    have hh0 : s₁.heap = s.heap := by rw [B.state]; rfl
    have ht : ∀ x ∈ c.exceptionTable.toList, False := by
      obtain ⟨meth9, c9, h1, h2, -, -, -, -, h7, -⟩ := Cond.code_spec B.named (atoms_spec (ws := ws) B.pre _ (by rw [hw]; exact List.mem_cons_self))
      cases Option.some.inj (h1.symm.trans B.method)
      cases Option.some.inj (h2.symm.trans (Stand.of_body B).code)
      intro x hx
      rw [Array.isEmpty_iff.mp h7] at hx
      cases hx
    obtain ⟨t, a1, o, b1, b2, b3⟩ := body p e s m args below meth c s₁ B hml ht hP s₁ hh0 (Stand.of_body B)
    exact ⟨t, o, a1, b1, b2, b3⟩
/-- the table of a body with handlers -/
theorem vx_table {p : Program} {x y : MethodName} {S : Spec} {cc bytes : ByteArray} {maxL maxL' : Nat} {ret ret' : Option FieldType} {e : Env} {s s₁ : State} {m : MethodId} {args : Array Value} {below : List Frame} {meth : Method} {c : Code} {hh : List (Nat × Nat × Nat × Nat)}
    (B : BodyLoose p l y S cc maxL ret e s m args below meth c s₁) (h : (Cond.codeWith y bytes maxL' ret' hh).before args s = true) : c.exceptionTable.toList = tableOf hh := by
  obtain ⟨m9, meth9, c9, hn9, h1, h2, -, -, h6, -⟩ := Cond.codeWith_spec h
  cases Option.some.inj (hn9.symm.trans B.named)
  cases Option.some.inj (h1.symm.trans B.method)
  cases Option.some.inj (h2.symm.trans (Stand.of_body B).code)
  rw [← h6, table_eq]
end Bodies
end VXA
/-! ===== END ===== -/
/-! ===== BEGIN a static call of a method with an exception table ===== -/
section VXS
variable {p : Program} {l : Launch} {e : Env} {R : Room} {s : State} {m : MethodId} {args : Array Value} {below : List Frame} {meth : Method} {c : Code} {T : State} {H : Heap} {locs : List Loc} {cells slots : Nat}
abbrev vx_CSW (R : Room) (s : State) (args : Array Value) (own : String) (index : Nat) (y : MethodName) (bytes : ByteArray) (maxL : Nat) (ret : Option FieldType) (hh : List (Nat × Nat × Nat × Nat)) (ws : List Cond) (rm : Room) (mc ms n : Nat) : Prop :=
  (rm.cells = mc ∧ rm.slots = ms ∧ rm.frames + 1 ≤ R.frames ∧ 8 + (maxL + 11) + rm.locals ≤ R.locals ∧ (∀ w ∈ ws, ∀ (a' : Array Value) (U : State), s.WarmedH U.vm → w.before a' U = true) ∧ Cond.codeWith y bytes maxL ret hh ∈ ws) ∧
  (Cond.codeWith y bytes maxL ret hh).before args s = true ∧ (Cond.initialized y.cls).before args s = true ∧ (y.cls ≠ "java/lang/invoke/MethodHandle" ∧ y.cls ≠ "java/lang/invoke/VarHandle") ∧
  (∀ sig, parseMethodDescriptor y.desc = some sig → n = sig.parameters.length) ∧ (Cond.methodLink own index y).before args s = true ∧ (Cond.static y).before args s = true
theorem vx_cwSW {own : String} {index maxL mc ms : Nat} {y : MethodName} {bytes : ByteArray} {ret : Option FieldType} {hh : List (Nat × Nat × Nat × Nat)} {Ts ws ws' : List Cond} {rm : Room} (n : Nat) (ht : ∀ w ∈ Ts, w.before args s = true) (hT : GoodIn Ts (va_wsS own index y ws)) (hw : ws = Cond.codeWith y bytes maxL ret hh :: ws') (hrc : rm.cells = mc) (hrs : rm.slots = ms)
    (hd : y.cls ≠ "java/lang/invoke/MethodHandle" ∧ y.cls ≠ "java/lang/invoke/VarHandle" ∧ (parseMethodDescriptor y.desc).map (fun d => d.parameters.length) = some n) (hR : rm.frames + 1 ≤ R.frames ∧ 8 + (maxL + 11) + rm.locals ≤ R.locals) :
    vx_CSW R s args own index y bytes maxL ret hh ws rm mc ms n := by
  have ok : ∀ w ∈ va_wsS own index y ws, w.before args s = true := fun w h => ht w (hT w h).1
  have hG : GoodIn Ts ws := fun w h => hT w (by unfold va_wsS; exact List.mem_append_right _ h)
  have hc : Cond.codeWith y bytes maxL ret hh ∈ ws := by rw [hw]; exact List.mem_cons_self
  refine ⟨⟨hrc, hrs, hR.1, hR.2, pay_in ht hG, hc⟩, ht _ (hG _ hc).1, ok _ (by simp [va_wsS]), ⟨hd.1, hd.2.1⟩, fun sig h => ?_, ok _ (by simp [va_wsS]), ok _ (by simp [va_wsS])⟩
  have h2 := hd.2.2
  rw [h] at h2
  exact (Option.some.inj h2).symm
theorem vx_callSW (X : Stand p l e R s m args below meth c T locs cells slots) (hexec : p.tables.exec = Jvm.exec) {own : String} {index : Nat} {y : MethodName} {bytes : ByteArray} {maxL : Nat} {ret : Option FieldType} {hh : List (Nat × Nat × Nat × Nat)}
    (hown : s.vm.findClass own = some m.cls) (hlink : (Cond.methodLink own index y).before args s = true) (hstat : (Cond.static y).before args s = true) (hinit : (Cond.initialized y.cls).before args s = true)
    (hcode : (Cond.codeWith y bytes maxL ret hh).before args s = true) (hy : y.cls ≠ "java/lang/invoke/MethodHandle" ∧ y.cls ≠ "java/lang/invoke/VarHandle")
    {W9 : Nat} {Pre : Pt → Array Value → Prop} {Post : Pt → Array Value → Option Value → Pt → Prop} (hK : Back l R p e below s args y 3 W9 Pre Post)
    {g : JFrame} (hg : g.method = m) (hsize : g.locals.size = c.maxLocals) {argsL rest : List Value} (hlen : ∀ sig, parseMethodDescriptor y.desc = some sig → argsL.length = sig.parameters.length)
    (hstack : g.stack = argsL.reverse ++ rest) (hW : 2 * g.monitorRoom + (rest.map fun v => v.category).sum ≤ W9) (hdg : decode c.code g.pc = .ok (.invokestatic index, 3))
    (hpre : ∀ vm₁, s.WarmedH vm₁ → Pre ⟨T.setVm vm₁, locs, cells, slots⟩ argsL.toArray) :
    ∃ (v : Option Value) (vm₁ : Vm) (B : Pt), s.WarmedH vm₁ ∧ Stand p l e R s m args below meth c B.U B.locs B.cells B.slots ∧ Post ⟨T.setVm vm₁, locs, cells, slots⟩ argsL.toArray v B ∧
      ∀ target, Steps p.tables e below (B.U.setTop { g with pc := g.pc + 3, stack := v.toList ++ rest }) target → Steps p.tables e below (T.setTop g) target := by
  obtain ⟨mk, methM, cM, hnamed, hmethM, -, -, -, -, -, -, hsigM⟩ := Cond.codeWith_spec hcode
  have hstatic : methM.isStatic = true := Cond.static_spec hnamed hmethM hstat
  obtain ⟨kP, hkP, -⟩ := className_of_methodNamed hnamed
  have hinitP : kP.init = .initialized := Cond.initialized_spec (findClass_of_methodNamed hnamed) hkP hinit
  obtain ⟨vm₁, X₁, hstep₁⟩ := X.invokestatic hexec hown hlink hnamed hmethM hstatic hkP hinitP hy (g := g) hg (argsL := argsL) (rest := rest) (hlen _ hsigM) hstack hdg
  obtain ⟨v, B, X', hpost, hsteps⟩ := hK m meth c ⟨T.setVm vm₁, locs, cells, slots⟩ { g with stack := rest } (.invokestatic index) mk argsL.toArray X₁ hg hsize hdg hW (X₁.named hnamed) (hpre vm₁ X₁.warmed)
  exact ⟨v, vm₁, B, X₁.warmed, X', hpost, fun target h => hstep₁ _ fun acts => by rw [doInvoke_state]; exact hsteps.trans h⟩
theorem vx_runSW {y : MethodName} {bytes cc : ByteArray} {maxL nL mc ms n index : Nat} {ret : Option FieldType} {hh : List (Nat × Nat × Nat × Nat)} {ws : List Cond} {rm : Room} {Pc : Array Value → State → Prop} {Qc : Array Value → State → Outcome → State → Prop} {free : Addr → Prop} {Ts : List Cond} {own : String} {As rest : List Value} {g : JFrame}
    (S : CallFix p m c cc nL s args Ts own) (hM : Met l y ws rm Pc Qc mc ms free) (cw : vx_CSW R s args own index y bytes maxL ret hh ws rm mc ms n) (hp : PreS s H Pc As)
    (hg : g.method = m) (hn : As.length = n) (hsize : g.locals.size = nL) (hstack : g.stack = As.reverse ++ rest) (hW : 2 * g.monitorRoom + (rest.map fun v => v.category).sum ≤ 8) (hdg : decode cc g.pc = .ok (.invokestatic index, 3)) (hf : cells + mc ≤ R.cells ∧ slots + ms ≤ R.slots) :
    va_Run p l e R s m args below meth c H locs cells slots mc ms g rest (Qc As.toArray) (free) := by
  obtain ⟨⟨hrc, hrs, hfr, hlo, hws, hcw⟩, hcode, hini, hy, hlen, hl, hstt⟩ := cw
  have hK : Back l R p e below s args y 3 8 (PreOf R mc ms Pc) (PostOf Qc mc ms free) := va_backW (hh := hh) (bytes := bytes) (maxL := maxL) (ret := ret) hM hp.1 hrc hrs hfr hlo hws hcw (fun a' U hW => word_at hW (Or.inl (by first | rfl | simp [Cond.onTables, Cond.keeps, Cond.steady])) hini)
  obtain ⟨hx, hb, hml, ho, -⟩ := S
  intro T hT X
  obtain ⟨v, vm₁, ⟨U', l2, c2, s2⟩, hW₁, X', ⟨g', mk, t, L, e1, e2, hq, h1, hL, h2, h3⟩, st⟩ := vx_callSW X hx (hh := hh) (bytes := bytes) (maxL := maxL) (ret := ret) ho hl hstt hini hcode hy hK hg (hsize.trans hml.symm) (argsL := As) (rest := rest) (fun sig h => hn.trans (hlen sig h)) hstack hW (by rw [hb]; exact hdg)
    (fun vm₁ hW₁ => ⟨hf.1, hf.2, hp.2 (T.setVm vm₁) hT hW₁⟩)
  dsimp only [Pt.U, Pt.locs, Pt.cells, Pt.slots] at X' e1 e2 h1 h2 h3 st
  subst h1; subst h2; subst h3
  exact ⟨v, (T.setVm vm₁).calling g' mk As.toArray, t, U', L, hT, X', hL, e1, e2, hq, st⟩
/-- not caught here, past rows that name other classes: it goes on to the caller -/
theorem vx_outP {p : Program} {l : Launch} {e : Env} {R : Room} {s : State} {m : MethodId} {args : Array Value} {below : List Frame} {meth : Method} {c : Code} {H : Heap} {locs : List Loc} {cells slots : Nat} {free : Addr → Prop} {ls : Array Slot} {rest : List Value} {Qc : Array Value → State → Outcome → State → Prop} {XC : String → State → State → Prop}
    {pc : Nat} {own E : String} {ce : Cell} {q : Addr} {mc ms : Nat} (hown : s.vm.findClass own = some m.cls) (hlocks : meth.locks = false)
    (hpass : ∀ z ∈ c.exceptionTable.toList, covers z pc = false ∨ (z.catchType ≠ 0 ∧ ∃ nm : String, (Cond.classLink own z.catchType nm).before args s = true ∧ va_Nc E nm s)) (hcell : H[q]? = some ce) (hv : ce.vm = .none) (hcl : s.vm.findClass E = some ce.cls)
    (hx : ∀ t : State, t.heap = H → s.vm.Alike t.vm → XC E s t) (hf : ∀ z ∈ locs, free z.base) (hc : cells ≤ mc) (hs : slots ≤ ms) :
    vx_W p l e R s m args below meth c H locs cells slots (vx_MQ below Qc XC args s mc ms free) (F0 m pc ls rest) q := by
  intro T hT X
  have hpl : e.platform.magicAccessors = ({} : Platform).magicAccessors := by rw [X.admits.platform]
  obtain ⟨vm', hW', X', st⟩ := X.outThrough hlocks q (g := F0 m pc ls rest) rfl rfl rfl (cell := ce) (by rw [hT]; exact hcell) (by rw [hv]; rfl)
    (by obtain ⟨k9, h9, -⟩ := Vm.findClass_spec hcl; exact ⟨k9, h9⟩) (fun z hz => by
      rcases hpass z hz with h | ⟨hz0, nm, hl1, hn1⟩
      · exact Or.inl h
      · obtain ⟨c6, hc6, hcl6⟩ := Cond.classLink_spec hown hl1 e.platform hpl
        obtain ⟨a8, b8, h1, h2, h3⟩ := hn1
        cases Option.some.inj (h1.symm.trans hcl)
        cases Option.some.inj (h2.symm.trans hc6)
        exact Or.inr ⟨hz0, _, hcl6, h3⟩)
  obtain ⟨g₀, hfr⟩ := X'.frames_eq
  have hcell9 : ((T.setVm vm').setFrames (.throwing q :: below)).heap[q]? = some ce := by
    show T.heap[q]? = some ce
    rw [hT]; exact hcell
  have hend : Ended ((T.setVm vm').setFrames (.throwing q :: below)) below (.threw q) := State.frames_setFrames _ (State.cur_lt_of_frames hfr)
  refine ⟨(T.setVm vm').setFrames (.throwing q :: below), ?_, .threw q, X'.here.running, hend, Or.inr ⟨q, rfl, E, ce, locs, hx _ hT (X'.ends _).1.alike, hcell9, hv, hcl, (X'.ends _).1, (X'.ends _).2.mono hc hs, hf⟩⟩
  rw [X.pushThrowing_eq]
  exact st
/-- a thing of a world lies in the heap -/
theorem vx_lt {D : va_G} {cl : List vw_C} {ws : va_W} {H1 : Heap} (h : va_P D cl ws H1) {k : Nat} {q : Nat × va_E} (hk : ws[k]? = some q) : q.1 < H1.size := (h k q hk).lt
end VXS
/-! ===== END ===== -/
/-! ===== BEGIN methods with a table of their own: called by a name, returning or throwing ===== -/
section VXH
/-! vx_backW, vx_callVX, vx_callSX, vx_callVW, vx_runVW, vx_runVX, vx_runSX, vx_ofWH follow the same proofs as their sisters above (Free/Laws.lean, Shelf42/LK1.lean); vx_outP calls Shelf42/NT130.lean (outThrough). -/
section
variable {l : Launch} {R : Room} {p : Program} {e : Env} {below : List Frame} {s : State} {sargs : Array Value} {y : MethodName} {len W9 : Nat}
theorem vx_backW {ws : List Cond} {rm : Room} {Pc : Array Value → State → Prop} {Qc : Array Value → State → Outcome → State → Prop} {XC : String → State → State → Prop} {mc ms : Nat} {free : Addr → Prop} {bytes : ByteArray} {maxL : Nat} {ret : Option FieldType} {hh : List (Nat × Nat × Nat × Nat)}
    (hM : vx_Met l y ws rm Pc Qc XC mc ms free) (hblind : FrameBlind Pc) (hrc : rm.cells = mc) (hrs : rm.slots = ms)
    (hframes : rm.frames + 1 ≤ R.frames) (hlocals : W9 + (maxL + 11) + rm.locals ≤ R.locals)
    (hws : ∀ w ∈ ws, ∀ a' U, s.WarmedH U.vm → w.before a' U = true) (hcode : Cond.codeWith y bytes maxL ret hh ∈ ws) (hinit : ∀ a' U, s.WarmedH U.vm → (Cond.initialized y.cls).before a' U = true) :
    vx_Back l R p e below s sargs y len W9 (PreOf R mc ms Pc) (PostOf Qc mc ms free) (vx_Post XC mc ms free) := by
  intro m meth c A g ig mk a X hg hsize hdg hW hn hp
  have h1 : (headSpec ws rm).pre.before a A.U = true := atoms_intro fun w hw => hws w hw _ _ X.warmed
  have h2 : (Cond.codeWith y bytes maxL ret hh).before a A.U = true := hws _ hcode _ _ X.warmed
  have h3 : (Cond.initialized y.cls).before a A.U = true := hinit _ _ X.warmed
  have h4 : A.cells + (headSpec ws rm).room.cells ≤ R.cells := by rw [show (headSpec ws rm).room.cells = mc from hrc]; exact hp.1
  have h5 : A.slots + (headSpec ws rm).room.slots ≤ R.slots := by rw [show (headSpec ws rm).room.slots = ms from hrs]; exact hp.2.1
  have hPc : Pc a (A.U.calling g mk a) := hblind _ _ _ _ hp.2.2
  obtain ⟨U, Ls, c0, s0⟩ := A
  dsimp only [Pt.U, Pt.locs, Pt.cells, Pt.slots] at h1 h2 h3 h4 h5 X hn hPc ⊢
  obtain ⟨m9, methY, cY, hn9, hmY, hcY, -, hlY, -⟩ := Cond.codeWith_spec h2
  cases Option.some.inj (hn9.symm.trans hn)
  obtain ⟨kY, hkY, -⟩ := className_of_methodNamed hn
  have hinitY : kY.init = .initialized := Cond.initialized_spec (findClass_of_methodNamed hn) hkY h3
  have h : At U g.method c below := by rw [hg]; exact X.here
  have hlocals9 : W9 + (maxL + 11) + (headSpec ws rm).room.locals ≤ R.locals := hlocals
  have happ : (headSpec ws rm).appliesLoose y e.platform (U.calling g mk a) = true :=
    Spec.appliesLoose_calling (g := g) h hdg hn hkY hinitY
      (X.room_calling (g := g) (R' := (headSpec ws rm).room) hsize hmY hcY hframes (by rw [hlY]; omega) h4 h5) h1
  obtain ⟨mid, hmid⟩ := h.above
  have hfr : (U.setTop g).frames = (.java g :: mid) ++ below := by rw [State.frames_setTop' g h.top, hmid]; rfl
  obtain ⟨o, s₂, hsteps, -, hend, hq⟩ := Steps.callFree hM p X.admits X.cas X.clock (acts := []) hfr happ hPc trivial
  have hq' : vx_Q Qc XC mc ms free a (U.calling g mk a) o s₂ := hq
  rw [State.frames_setTop' g h.top] at hend
  obtain ⟨g₀, hg0⟩ := Option.isSome_iff_exists.mp h.top
  obtain ⟨r, hr⟩ := State.topJava?_eq_some.mp hg0
  have hr' : (({ U with heap := s₂.heap, slotsUsed := s₂.slotsUsed } : State).setVm s₂.vm).frames = .java g₀ :: r := hr
  rcases hq' with ⟨hqc, L, hfe, hL⟩ | ⟨q, rfl, E, ce, L, hx, hce, hcv, hcl, hW₂, hsm, hL⟩
  · obtain ⟨⟨v, rfl⟩, hW₂, e2, q2, q3, q4, q5, q6⟩ := id hfe
    have e3 : s₂ = ({ (U.calling g mk a).setFrames s₂.frames with heap := s₂.heap, slotsUsed := s₂.slotsUsed } : State).setVm s₂.vm := by
      have : s₂ = ({ s₂ with vm := (U.calling g mk a).vm } : State).setVm s₂.vm := rfl
      rw [e2] at this
      exact this
    obtain ⟨c₂, i₂, len₂, hc₂, hd₂, hf₂⟩ := hend
    have hW' : U.WarmedH s₂.vm := hW₂
    have hcc : c₂ = c := by
      have h1 : s₂.code? g.method = U.code? g.method := by
        rw [State.code?_eq, State.code?_eq, hW'.alike.method?]
      exact Option.some.inj (hc₂.symm.trans (h1.trans h.code))
    subst hcc
    have hlen : len₂ = len := by rw [hdg] at hd₂; cases hd₂; rfl
    subst hlen
    have hs₂ : s₂ = (({ U with heap := s₂.heap, slotsUsed := s₂.slotsUsed } : State).setVm s₂.vm).setTop { g with pc := g.pc + len₂, stack := v.toList ++ g.stack } := by
      refine e3.trans ?_
      rw [hf₂, State.calling_eq h.top, State.setFrames_setFrames, State.setTop_of_frames _ hr', hr]
      rfl
    have hsame : U.sameButNew ({ U with heap := s₂.heap, slotsUsed := s₂.slotsUsed } : State) L mc ms := by
      refine ⟨?_, q2, q3, q4, q5, q6⟩
      obtain ⟨t, ht, -⟩ := State.frames_cons hr
      show ({ U with heap := s₂.heap, slotsUsed := s₂.slotsUsed } : State) = { U.setFrames U.frames with heap := s₂.heap, slotsUsed := s₂.slotsUsed }
      rw [State.setFrames_self ht]
    subst hg
    refine Or.inl ⟨v, ⟨(({ U with heap := s₂.heap, slotsUsed := s₂.slotsUsed } : State).setVm s₂.vm), Ls ++ L, c0 + mc, s0 + ms⟩,
      ⟨X.admits, X.cas, X.clock, X.frames, X.room, X.hears, X.method, X.code, (X.here.setHeapUsed s₂.heap s₂.slotsUsed).setVm hW'.alike, X.tail, State.WarmedH.trans X.warmed hW', X.limits, X.bytes, X.same.trans (hsame.setVm s.vm)⟩,
      ⟨g, mk, s₂, L, rfl, rfl, hqc, rfl, hL, rfl, rfl⟩, ?_⟩
    show Steps p.tables e below _ ((({ U with heap := s₂.heap, slotsUsed := s₂.slotsUsed } : State).setVm s₂.vm).setTop { g with pc := g.pc + len₂, stack := v.toList ++ g.stack })
    rw [← hs₂]
    exact hsteps
  · obtain ⟨e2, q2, q3, q4, q5, q6⟩ := id hsm
    have e3 : s₂ = ({ (U.calling g mk a).setFrames s₂.frames with heap := s₂.heap, slotsUsed := s₂.slotsUsed } : State).setVm s₂.vm := by
      have : s₂ = ({ s₂ with vm := (U.calling g mk a).vm } : State).setVm s₂.vm := rfl
      rw [e2] at this
      exact this
    have hf₂ : s₂.frames = .throwing q :: .java g :: U.frames.tail := hend
    have hW' : U.WarmedH s₂.vm := hW₂
    have hs₂ : s₂ = ((({ U with heap := s₂.heap, slotsUsed := s₂.slotsUsed } : State).setVm s₂.vm).setTop g).pushFrame (.throwing q) := by
      refine e3.trans ?_
      rw [hf₂, State.calling_eq h.top, State.setFrames_setFrames, State.pushFrame, State.frames_setTop _ hr', State.setTop_of_frames _ hr', State.setFrames_setFrames, hr]
      rfl
    have hsame : U.sameButNew ({ U with heap := s₂.heap, slotsUsed := s₂.slotsUsed } : State) L mc ms := by
      refine ⟨?_, q2, q3, q4, q5, q6⟩
      obtain ⟨t, ht, -⟩ := State.frames_cons hr
      show ({ U with heap := s₂.heap, slotsUsed := s₂.slotsUsed } : State) = { U.setFrames U.frames with heap := s₂.heap, slotsUsed := s₂.slotsUsed }
      rw [State.setFrames_self ht]
    subst hg
    refine Or.inr ⟨q, ⟨(({ U with heap := s₂.heap, slotsUsed := s₂.slotsUsed } : State).setVm s₂.vm), Ls ++ L, c0 + mc, s0 + ms⟩,
      ⟨X.admits, X.cas, X.clock, X.frames, X.room, X.hears, X.method, X.code, (X.here.setHeapUsed s₂.heap s₂.slotsUsed).setVm hW'.alike, X.tail, State.WarmedH.trans X.warmed hW', X.limits, X.bytes, X.same.trans (hsame.setVm s.vm)⟩,
      ⟨g, mk, s₂, L, E, ce, rfl, rfl, hx, hce, hcv, hcl, rfl, hL, rfl, rfl⟩, ?_⟩
    show Steps p.tables e below _ (((({ U with heap := s₂.heap, slotsUsed := s₂.slotsUsed } : State).setVm s₂.vm).setTop g).pushFrame (.throwing q))
    rw [← hs₂]
    exact hsteps
end
variable {p : Program} {l : Launch} {e : Env} {R : Room} {s : State} {m : MethodId} {args : Array Value} {below : List Frame} {meth : Method} {c : Code} {T : State} {H : Heap} {locs : List Loc} {cells slots : Nat}
theorem vx_callVX (X : Stand p l e R s m args below meth c T locs cells slots) (hexec : p.tables.exec = Jvm.exec) {own C : String} {index : Nat} {y : MethodName} {bytes : ByteArray} {maxL : Nat} {ret : Option FieldType} {hh : List (Nat × Nat × Nat × Nat)}
    (hown : s.vm.findClass own = some m.cls) (hlink : (Cond.methodLink own index y).before args s = true) (hinst : (Cond.instanceMethod y).before args s = true) (hsel : (Cond.selects C y y).before args s = true)
    (hcode : (Cond.codeWith y bytes maxL ret hh).before args s = true) (hy : y.cls ≠ "java/lang/invoke/MethodHandle" ∧ y.cls ≠ "java/lang/invoke/VarHandle")
    {W9 : Nat} {Pre : Pt → Array Value → Prop} {Post : Pt → Array Value → Option Value → Pt → Prop} {PostX : Pt → Array Value → Addr → Pt → Prop} (hK : vx_Back l R p e below s args y 3 W9 Pre Post PostX)
    {b : Addr} {cellB : Cell} (hcell : T.heap[b]? = some cellB) (hobj : cellB.vm.isStatics = false) (hcls : s.vm.findClass C = some cellB.cls)
    {g : JFrame} (hg : g.method = m) (hsize : g.locals.size = c.maxLocals) {argsL rest : List Value} (hlen : ∀ sig, parseMethodDescriptor y.desc = some sig → argsL.length = sig.parameters.length)
    (hstack : g.stack = argsL.reverse ++ .ref b :: rest) (hW : 2 * g.monitorRoom + (rest.map fun v => v.category).sum ≤ W9) (hdg : decode c.code g.pc = .ok (.invokevirtual index, 3))
    (hpre : ∀ vm₁, s.WarmedH vm₁ → Pre ⟨T.setVm vm₁, locs, cells, slots⟩ (Value.ref b :: argsL).toArray) :
    (∃ (v : Option Value) (vm₁ : Vm) (B : Pt), s.WarmedH vm₁ ∧ Stand p l e R s m args below meth c B.U B.locs B.cells B.slots ∧ Post ⟨T.setVm vm₁, locs, cells, slots⟩ (Value.ref b :: argsL).toArray v B ∧
      ∀ target, Steps p.tables e below (B.U.setTop { g with pc := g.pc + 3, stack := v.toList ++ rest }) target → Steps p.tables e below (T.setTop g) target) ∨
    (∃ (q : Addr) (vm₁ : Vm) (B : Pt), s.WarmedH vm₁ ∧ Stand p l e R s m args below meth c B.U B.locs B.cells B.slots ∧ PostX ⟨T.setVm vm₁, locs, cells, slots⟩ (Value.ref b :: argsL).toArray q B ∧
      Steps p.tables e below (T.setTop g) ((B.U.setTop { g with stack := rest }).pushFrame (.throwing q))) := by
  obtain ⟨mk, methM, hnamed, hmethM, hstM, habM⟩ := Cond.instanceMethod_spec hinst
  obtain ⟨m8, methM', cM, hn8, hmethM', -, -, -, -, -, -, hsigM⟩ := Cond.codeWith_spec hcode
  cases Option.some.inj (hn8.symm.trans hnamed)
  cases hmethM.symm.trans hmethM'
  obtain ⟨c2, r2, m2, q1, q2, q3, q4, kP, hkP, hkPi⟩ := Cond.selects_spec hsel
  cases hcls.symm.trans q1
  cases (State.methodFound?_of_named hnamed hy).symm.trans q2
  cases hnamed.symm.trans q3
  have hselP : selectMethod e.platform s.vm cellB.cls mk = .method mk := by rw [Launch.admits_selectMethod X.admits]; exact q4
  obtain ⟨vm₁, X₁, hstep₁⟩ := X.invokevirtual hexec hown hlink hnamed hmethM hstM hkP hkPi hy (a := b) (cell := cellB) hcell
    (fun z h => by rw [h] at hobj; cases hobj) hselP hmethM habM hkP hkPi (g := g) hg (argsL := argsL) (rest := rest) (hlen _ hsigM) hstack hdg
  rcases hK m meth c ⟨T.setVm vm₁, locs, cells, slots⟩ { g with stack := rest } (.invokevirtual index) mk (Value.ref b :: argsL).toArray X₁ hg hsize hdg hW (X₁.named hnamed) (hpre vm₁ X₁.warmed) with ⟨v, B, X', hpost, hsteps⟩ | ⟨q, B, X', hpost, hsteps⟩
  · exact Or.inl ⟨v, vm₁, B, X₁.warmed, X', hpost, fun target h => hstep₁ _ fun acts => by rw [doInvoke_state]; exact hsteps.trans h⟩
  · exact Or.inr ⟨q, vm₁, B, X₁.warmed, X', hpost, hstep₁ _ fun acts => by rw [doInvoke_state]; exact hsteps⟩
theorem vx_callSX (X : Stand p l e R s m args below meth c T locs cells slots) (hexec : p.tables.exec = Jvm.exec) {own : String} {index : Nat} {y : MethodName} {bytes : ByteArray} {maxL : Nat} {ret : Option FieldType} {hh : List (Nat × Nat × Nat × Nat)}
    (hown : s.vm.findClass own = some m.cls) (hlink : (Cond.methodLink own index y).before args s = true) (hstat : (Cond.static y).before args s = true) (hinit : (Cond.initialized y.cls).before args s = true)
    (hcode : (Cond.codeWith y bytes maxL ret hh).before args s = true) (hy : y.cls ≠ "java/lang/invoke/MethodHandle" ∧ y.cls ≠ "java/lang/invoke/VarHandle")
    {W9 : Nat} {Pre : Pt → Array Value → Prop} {Post : Pt → Array Value → Option Value → Pt → Prop} {PostX : Pt → Array Value → Addr → Pt → Prop} (hK : vx_Back l R p e below s args y 3 W9 Pre Post PostX)
    {g : JFrame} (hg : g.method = m) (hsize : g.locals.size = c.maxLocals) {argsL rest : List Value} (hlen : ∀ sig, parseMethodDescriptor y.desc = some sig → argsL.length = sig.parameters.length)
    (hstack : g.stack = argsL.reverse ++ rest) (hW : 2 * g.monitorRoom + (rest.map fun v => v.category).sum ≤ W9) (hdg : decode c.code g.pc = .ok (.invokestatic index, 3))
    (hpre : ∀ vm₁, s.WarmedH vm₁ → Pre ⟨T.setVm vm₁, locs, cells, slots⟩ argsL.toArray) :
    (∃ (v : Option Value) (vm₁ : Vm) (B : Pt), s.WarmedH vm₁ ∧ Stand p l e R s m args below meth c B.U B.locs B.cells B.slots ∧ Post ⟨T.setVm vm₁, locs, cells, slots⟩ argsL.toArray v B ∧
      ∀ target, Steps p.tables e below (B.U.setTop { g with pc := g.pc + 3, stack := v.toList ++ rest }) target → Steps p.tables e below (T.setTop g) target) ∨
    (∃ (q : Addr) (vm₁ : Vm) (B : Pt), s.WarmedH vm₁ ∧ Stand p l e R s m args below meth c B.U B.locs B.cells B.slots ∧ PostX ⟨T.setVm vm₁, locs, cells, slots⟩ argsL.toArray q B ∧
      Steps p.tables e below (T.setTop g) ((B.U.setTop { g with stack := rest }).pushFrame (.throwing q))) := by
  obtain ⟨mk, methM, cM, hnamed, hmethM, -, -, -, -, -, -, hsigM⟩ := Cond.codeWith_spec hcode
  have hstatic : methM.isStatic = true := Cond.static_spec hnamed hmethM hstat
  obtain ⟨kP, hkP, -⟩ := className_of_methodNamed hnamed
  have hinitP : kP.init = .initialized := Cond.initialized_spec (findClass_of_methodNamed hnamed) hkP hinit
  obtain ⟨vm₁, X₁, hstep₁⟩ := X.invokestatic hexec hown hlink hnamed hmethM hstatic hkP hinitP hy (g := g) hg (argsL := argsL) (rest := rest) (hlen _ hsigM) hstack hdg
  rcases hK m meth c ⟨T.setVm vm₁, locs, cells, slots⟩ { g with stack := rest } (.invokestatic index) mk argsL.toArray X₁ hg hsize hdg hW (X₁.named hnamed) (hpre vm₁ X₁.warmed) with ⟨v, B, X', hpost, hsteps⟩ | ⟨q, B, X', hpost, hsteps⟩
  · exact Or.inl ⟨v, vm₁, B, X₁.warmed, X', hpost, fun target h => hstep₁ _ fun acts => by rw [doInvoke_state]; exact hsteps.trans h⟩
  · exact Or.inr ⟨q, vm₁, B, X₁.warmed, X', hpost, hstep₁ _ fun acts => by rw [doInvoke_state]; exact hsteps⟩
theorem vx_callVW (X : Stand p l e R s m args below meth c T locs cells slots) (hexec : p.tables.exec = Jvm.exec) {own C : String} {index : Nat} {y : MethodName} {bytes : ByteArray} {maxL : Nat} {ret : Option FieldType} {hh : List (Nat × Nat × Nat × Nat)}
    (hown : s.vm.findClass own = some m.cls) (hlink : (Cond.methodLink own index y).before args s = true) (hinst : (Cond.instanceMethod y).before args s = true) (hsel : (Cond.selects C y y).before args s = true)
    (hcode : (Cond.codeWith y bytes maxL ret hh).before args s = true) (hy : y.cls ≠ "java/lang/invoke/MethodHandle" ∧ y.cls ≠ "java/lang/invoke/VarHandle")
    {W9 : Nat} {Pre : Pt → Array Value → Prop} {Post : Pt → Array Value → Option Value → Pt → Prop} (hK : Back l R p e below s args y 3 W9 Pre Post)
    {b : Addr} {cellB : Cell} (hcell : T.heap[b]? = some cellB) (hobj : cellB.vm.isStatics = false) (hcls : s.vm.findClass C = some cellB.cls)
    {g : JFrame} (hg : g.method = m) (hsize : g.locals.size = c.maxLocals) {argsL rest : List Value} (hlen : ∀ sig, parseMethodDescriptor y.desc = some sig → argsL.length = sig.parameters.length)
    (hstack : g.stack = argsL.reverse ++ .ref b :: rest) (hW : 2 * g.monitorRoom + (rest.map fun v => v.category).sum ≤ W9) (hdg : decode c.code g.pc = .ok (.invokevirtual index, 3))
    (hpre : ∀ vm₁, s.WarmedH vm₁ → Pre ⟨T.setVm vm₁, locs, cells, slots⟩ (Value.ref b :: argsL).toArray) :
    ∃ (v : Option Value) (vm₁ : Vm) (B : Pt), s.WarmedH vm₁ ∧ Stand p l e R s m args below meth c B.U B.locs B.cells B.slots ∧ Post ⟨T.setVm vm₁, locs, cells, slots⟩ (Value.ref b :: argsL).toArray v B ∧
      ∀ target, Steps p.tables e below (B.U.setTop { g with pc := g.pc + 3, stack := v.toList ++ rest }) target → Steps p.tables e below (T.setTop g) target := by
  obtain ⟨mk, methM, hnamed, hmethM, hstM, habM⟩ := Cond.instanceMethod_spec hinst
  obtain ⟨m8, methM', cM, hn8, hmethM', -, -, -, -, -, -, hsigM⟩ := Cond.codeWith_spec hcode
  cases Option.some.inj (hn8.symm.trans hnamed)
  cases hmethM.symm.trans hmethM'
  obtain ⟨c2, r2, m2, q1, q2, q3, q4, kP, hkP, hkPi⟩ := Cond.selects_spec hsel
  cases hcls.symm.trans q1
  cases (State.methodFound?_of_named hnamed hy).symm.trans q2
  cases hnamed.symm.trans q3
  have hselP : selectMethod e.platform s.vm cellB.cls mk = .method mk := by rw [Launch.admits_selectMethod X.admits]; exact q4
  obtain ⟨vm₁, X₁, hstep₁⟩ := X.invokevirtual hexec hown hlink hnamed hmethM hstM hkP hkPi hy (a := b) (cell := cellB) hcell
    (fun z h => by rw [h] at hobj; cases hobj) hselP hmethM habM hkP hkPi (g := g) hg (argsL := argsL) (rest := rest) (hlen _ hsigM) hstack hdg
  obtain ⟨v, B, X', hpost, hsteps⟩ := hK m meth c ⟨T.setVm vm₁, locs, cells, slots⟩ { g with stack := rest } (.invokevirtual index) mk (Value.ref b :: argsL).toArray X₁ hg hsize hdg hW (X₁.named hnamed) (hpre vm₁ X₁.warmed)
  exact ⟨v, vm₁, B, X₁.warmed, X', hpost, fun target h => hstep₁ _ fun acts => by rw [doInvoke_state]; exact hsteps.trans h⟩
abbrev vx_CVW (R : Room) (s : State) (args : Array Value) (own C : String) (index : Nat) (y : MethodName) (bytes : ByteArray) (maxL : Nat) (ret : Option FieldType) (hh : List (Nat × Nat × Nat × Nat)) (ws : List Cond) (rm : Room) (mc ms n : Nat) : Prop :=
  (rm.cells = mc ∧ rm.slots = ms ∧ rm.frames + 1 ≤ R.frames ∧ 8 + (maxL + 11) + rm.locals ≤ R.locals ∧ (∀ w ∈ ws, ∀ (a' : Array Value) (U : State), s.WarmedH U.vm → w.before a' U = true) ∧ Cond.codeWith y bytes maxL ret hh ∈ ws) ∧
  (Cond.codeWith y bytes maxL ret hh).before args s = true ∧ (Cond.initialized y.cls).before args s = true ∧ (y.cls ≠ "java/lang/invoke/MethodHandle" ∧ y.cls ≠ "java/lang/invoke/VarHandle") ∧
  (∀ sig, parseMethodDescriptor y.desc = some sig → n = sig.parameters.length) ∧ (Cond.methodLink own index y).before args s = true ∧ (Cond.instanceMethod y).before args s = true ∧ (Cond.selects C y y).before args s = true
theorem vx_cwVW {own C : String} {index maxL mc ms : Nat} {y : MethodName} {bytes : ByteArray} {ret : Option FieldType} {hh : List (Nat × Nat × Nat × Nat)} {Ts ws ws' : List Cond} {rm : Room} (n : Nat) (ht : ∀ w ∈ Ts, w.before args s = true) (hT : GoodIn Ts (wsV own index C y ws)) (hw : ws = Cond.codeWith y bytes maxL ret hh :: ws') (hrc : rm.cells = mc) (hrs : rm.slots = ms)
    (hd : y.cls = C ∧ y.cls ≠ "java/lang/invoke/MethodHandle" ∧ y.cls ≠ "java/lang/invoke/VarHandle" ∧ (parseMethodDescriptor y.desc).map (fun d => d.parameters.length) = some n) (hR : rm.frames + 1 ≤ R.frames ∧ 8 + (maxL + 11) + rm.locals ≤ R.locals) :
    vx_CVW R s args own C index y bytes maxL ret hh ws rm mc ms n := by
  obtain ⟨hC, hd⟩ := hd
  subst hC
  have ok : ∀ w ∈ wsV own index y.cls y ws, w.before args s = true := fun w h => ht w (hT w h).1
  have hG : GoodIn Ts ws := fun w h => hT w (by unfold wsV; exact List.mem_append_right _ h)
  have hc : Cond.codeWith y bytes maxL ret hh ∈ ws := by rw [hw]; exact List.mem_cons_self
  refine ⟨⟨hrc, hrs, hR.1, hR.2, pay_in ht hG, hc⟩, ht _ (hG _ hc).1, ok _ (by simp [wsV]), ⟨hd.1, hd.2.1⟩, fun sig h => ?_, ok _ (by simp [wsV]), ok _ (by simp [wsV]), ok _ (by simp [wsV])⟩
  have h2 := hd.2.2
  rw [h] at h2
  exact (Option.some.inj h2).symm
theorem vx_runVW {y : MethodName} {bytes cc : ByteArray} {maxL nL mc ms n index : Nat} {ret : Option FieldType} {hh : List (Nat × Nat × Nat × Nat)} {ws : List Cond} {rm : Room} {Pc : Array Value → State → Prop} {Qc : Array Value → State → Outcome → State → Prop} {free : Addr → Prop} {Ts : List Cond} {own C : String} {b : Addr} {As rest : List Value} {g : JFrame}
    (S : CallFix p m c cc nL s args Ts own) (hM : Met l y ws rm Pc Qc mc ms free) (cw : vx_CVW R s args own C index y bytes maxL ret hh ws rm mc ms n) (hp : PreV s H C b Pc As)
    (hg : g.method = m) (hn : As.length = n) (hsize : g.locals.size = nL) (hstack : g.stack = As.reverse ++ .ref b :: rest) (hW : 2 * g.monitorRoom + (rest.map fun v => v.category).sum ≤ 8) (hdg : decode cc g.pc = .ok (.invokevirtual index, 3)) (hf : cells + mc ≤ R.cells ∧ slots + ms ≤ R.slots) :
    va_Run p l e R s m args below meth c H locs cells slots mc ms g rest (Qc (Value.ref b :: As).toArray) free := by
  obtain ⟨⟨hrc, hrs, hfr, hlo, hws, hcw⟩, hcode, hini, hy, hlen, hl, hin, hse⟩ := cw
  have hK : Back l R p e below s args y 3 8 (PreOf R mc ms Pc) (PostOf Qc mc ms free) := va_backW (hh := hh) (bytes := bytes) (maxL := maxL) (ret := ret) hM hp.1 hrc hrs hfr hlo hws hcw (fun a' U hW => word_at hW (Or.inl (by first | rfl | simp [Cond.onTables, Cond.keeps, Cond.steady])) hini)
  obtain ⟨hx, hb, hml, ho, -⟩ := S
  obtain ⟨-, ⟨cellB, hcB, hoB, hclB⟩, hPc⟩ := hp
  intro T hT X
  obtain ⟨v, vm₁, ⟨U', l2, c2, s2⟩, hW₁, X', ⟨g', mk, t, L, e1, e2, hq, h1, hL, h2, h3⟩, st⟩ := vx_callVW X hx (C := C) (hh := hh) (bytes := bytes) (maxL := maxL) (ret := ret) ho hl hin hse hcode hy hK (by rw [hT]; exact hcB) hoB hclB hg (hsize.trans hml.symm) (argsL := As) (rest := rest) (fun sig h => hn.trans (hlen sig h)) hstack hW (by rw [hb]; exact hdg)
    (fun vm₁ hW₁ => ⟨hf.1, hf.2, hPc (T.setVm vm₁) hT hW₁⟩)
  dsimp only [Pt.U, Pt.locs, Pt.cells, Pt.slots] at X' e1 e2 h1 h2 h3 st
  subst h1; subst h2; subst h3
  exact ⟨v, (T.setVm vm₁).calling g' mk (Value.ref b :: As).toArray, t, U', L, hT, X', hL, e1, e2, hq, st⟩
section
variable {y : MethodName} {bytes cc : ByteArray} {maxL nL mc ms n index : Nat} {ret : Option FieldType} {ws : List Cond} {rm : Room} {Pc : Array Value → State → Prop} {Qc : Array Value → State → Outcome → State → Prop} {XC : String → State → State → Prop} {free : Addr → Prop} {Ts : List Cond} {own C : String} {b : Addr} {As rest : List Value} {g : JFrame}
theorem vx_runVX {hh : List (Nat × Nat × Nat × Nat)} (S : CallFix p m c cc nL s args Ts own) (hM : vx_Met l y ws rm Pc Qc XC mc ms free) (cw : vx_CVW R s args own C index y bytes maxL ret hh ws rm mc ms n) (hp : PreV s H C b Pc As)
    (hg : g.method = m) (hn : As.length = n) (hsize : g.locals.size = nL) (hstack : g.stack = As.reverse ++ .ref b :: rest) (hW : 2 * g.monitorRoom + (rest.map fun v => v.category).sum ≤ 8) (hdg : decode cc g.pc = .ok (.invokevirtual index, 3)) (hf : cells + mc ≤ R.cells ∧ slots + ms ≤ R.slots) :
    vx_Run p l e R s m args below meth c H locs cells slots mc ms g rest (Qc (Value.ref b :: As).toArray) XC free := by
  obtain ⟨⟨hrc, hrs, hfr, hlo, hws, hcw⟩, hcode, hini, hy, hlen, hl, hin, hse⟩ := cw
  have hK : vx_Back l R p e below s args y 3 8 (PreOf R mc ms Pc) (PostOf Qc mc ms free) (vx_Post XC mc ms free) := vx_backW (hh := hh) (bytes := bytes) (maxL := maxL) (ret := ret) hM hp.1 hrc hrs hfr hlo hws hcw (fun a' U hW => word_at hW (Or.inl (by first | rfl | simp [Cond.onTables, Cond.keeps, Cond.steady])) hini)
  obtain ⟨hx, hb, hml, ho, -⟩ := S
  obtain ⟨-, ⟨cellB, hcB, hoB, hclB⟩, hPc⟩ := hp
  intro T hT X
  rcases vx_callVX X hx (C := C) (hh := hh) (bytes := bytes) (maxL := maxL) (ret := ret) ho hl hin hse hcode hy hK (by rw [hT]; exact hcB) hoB hclB hg (hsize.trans hml.symm) (argsL := As) (rest := rest) (fun sig h => hn.trans (hlen sig h)) hstack hW (by rw [hb]; exact hdg)
    (fun vm₁ hW₁ => ⟨hf.1, hf.2, hPc (T.setVm vm₁) hT hW₁⟩) with ⟨v, vm₁, ⟨U', l2, c2, s2⟩, hW₁, X', ⟨g', mk, t, L, e1, e2, hq, h1, hL, h2, h3⟩, st⟩ | ⟨q, vm₁, ⟨U', l2, c2, s2⟩, hW₁, X', ⟨g', mk, t, L, E, ce, e1, e2, hq, hce, hcv, hcl, h1, hL, h2, h3⟩, st⟩
  · dsimp only [Pt.U, Pt.locs, Pt.cells, Pt.slots] at X' e1 e2 h1 h2 h3 st
    subst h1; subst h2; subst h3
    exact Or.inl ⟨v, (T.setVm vm₁).calling g' mk (Value.ref b :: As).toArray, t, U', L, hT, X', hL, e1, e2, hq, st⟩
  · dsimp only [Pt.U, Pt.locs, Pt.cells, Pt.slots] at X' e1 e2 h1 h2 h3 st hcl
    subst h1; subst h2; subst h3
    exact Or.inr ⟨q, (T.setVm vm₁).calling g' mk (Value.ref b :: As).toArray, t, U', L, E, ce, hT, X', hL, e1, e2, hq, hce, hcv, vx_cls hW₁ hcl, st⟩
theorem vx_runSX {hh : List (Nat × Nat × Nat × Nat)} (S : CallFix p m c cc nL s args Ts own) (hM : vx_Met l y ws rm Pc Qc XC mc ms free) (cw : vx_CSW R s args own index y bytes maxL ret hh ws rm mc ms n) (hp : PreS s H Pc As)
    (hg : g.method = m) (hn : As.length = n) (hsize : g.locals.size = nL) (hstack : g.stack = As.reverse ++ rest) (hW : 2 * g.monitorRoom + (rest.map fun v => v.category).sum ≤ 8) (hdg : decode cc g.pc = .ok (.invokestatic index, 3)) (hf : cells + mc ≤ R.cells ∧ slots + ms ≤ R.slots) :
    vx_Run p l e R s m args below meth c H locs cells slots mc ms g rest (Qc As.toArray) XC free := by
  obtain ⟨⟨hrc, hrs, hfr, hlo, hws, hcw⟩, hcode, hini, hy, hlen, hl, hstt⟩ := cw
  have hK : vx_Back l R p e below s args y 3 8 (PreOf R mc ms Pc) (PostOf Qc mc ms free) (vx_Post XC mc ms free) := vx_backW (hh := hh) (bytes := bytes) (maxL := maxL) (ret := ret) hM hp.1 hrc hrs hfr hlo hws hcw (fun a' U hW => word_at hW (Or.inl (by first | rfl | simp [Cond.onTables, Cond.keeps, Cond.steady])) hini)
  obtain ⟨hx, hb, hml, ho, -⟩ := S
  intro T hT X
  rcases vx_callSX X hx (hh := hh) (bytes := bytes) (maxL := maxL) (ret := ret) ho hl hstt hini hcode hy hK hg (hsize.trans hml.symm) (argsL := As) (rest := rest) (fun sig h => hn.trans (hlen sig h)) hstack hW (by rw [hb]; exact hdg)
    (fun vm₁ hW₁ => ⟨hf.1, hf.2, hp.2 (T.setVm vm₁) hT hW₁⟩) with ⟨v, vm₁, ⟨U', l2, c2, s2⟩, hW₁, X', ⟨g', mk, t, L, e1, e2, hq, h1, hL, h2, h3⟩, st⟩ | ⟨q, vm₁, ⟨U', l2, c2, s2⟩, hW₁, X', ⟨g', mk, t, L, E, ce, e1, e2, hq, hce, hcv, hcl, h1, hL, h2, h3⟩, st⟩
  · dsimp only [Pt.U, Pt.locs, Pt.cells, Pt.slots] at X' e1 e2 h1 h2 h3 st
    subst h1; subst h2; subst h3
    exact Or.inl ⟨v, (T.setVm vm₁).calling g' mk As.toArray, t, U', L, hT, X', hL, e1, e2, hq, st⟩
  · dsimp only [Pt.U, Pt.locs, Pt.cells, Pt.slots] at X' e1 e2 h1 h2 h3 st hcl
    subst h1; subst h2; subst h3
    exact Or.inr ⟨q, (T.setVm vm₁).calling g' mk As.toArray, t, U', L, E, ce, hT, X', hL, e1, e2, hq, hce, hcv, vx_cls hW₁ hcl, st⟩
end
end VXH
theorem vx_ofWH {l : Launch} {y : MethodName} {ws ws' : List Cond} {rm : Room} {Pc : Array Value → State → Prop} {Qc : Array Value → State → Outcome → State → Prop} {XC : String → State → State → Prop} {mc ms : Nat} {free : Addr → Prop} {cc : ByteArray} {maxL : Nat} {ret : Option FieldType} {hh : List (Nat × Nat × Nat × Nat)}
    (hy : plainName y.cls = true) (hw : ws = Cond.codeWith y cc maxL ret hh :: ws')
    (body : ∀ p e s m args below meth c s₁, BodyLoose p l y (headSpec ws rm) cc maxL ret e s m args below meth c s₁ → c.maxLocals = maxL → Pc args s →
      W p l e (headSpec ws rm).room s m args below meth c s.heap [] 0 0 (vx_MQ below Qc XC args s mc ms free) (entryFrame m args maxL)) : vx_Met l y ws rm Pc Qc XC mc ms free := by
  refine MetFree.of_bodyS (code := cc) (maxLocals := maxL) (ret := ret) hy ?_ ?_
  · intro args s m h hn
    obtain ⟨m9, meth, c, hn9, h1, h2, h3, h4, -, h5, h6, -⟩ := Cond.codeWith_spec (atoms_spec (ws := ws) h _ (by rw [hw]; exact List.mem_cons_self))
    cases hn.symm.trans hn9
    exact ⟨meth, c, h1, h2, h3, h4, h5, h6⟩
  · intro p e s m args below meth c s₁ B hml hP _
    have hh0 : s₁.heap = s.heap := by rw [B.state]; rfl
    obtain ⟨t, a1, o, b1, b2, b3⟩ := body p e s m args below meth c s₁ B hml hP s₁ hh0 (Stand.of_body B)
    exact ⟨t, o, a1, b1, b2, b3⟩
/-! ===== END ===== -/
end
section
def RX0 : String := "Crossbarry$Layer"
def TX0 : u_T := fun k => match k with
  | 0 => ("Crossbarry$Layer", "number", "I", true)
  | 1 => ("Crossbarry$Layer", "inputs", "I", true)
  | 2 => ("Crossbarry$Layer", "outputs", "I", true)
  | 3 => ("Crossbarry$Layer", "weights", "[I", true)
  | 4 => ("Crossbarry$Layer", "rows", "[I", true)
  | 5 => ("Crossbarry$Layer", "shiftBy", "I", false)
  | 6 => ("Crossbarry$Layer", "nextLayer", "LCrossbarry$Layer;", false)
  | _ => ("Crossbarry$Layer", "ground", "LCrossbarry$Tile;", false)
def tyX0 : Nat → FieldType := fun k => match k with
  | 0 => .int
  | 1 => .int
  | 2 => .int
  | 3 => .array .int
  | 4 => .array .int
  | 5 => .int
  | 6 => .object "Crossbarry$Layer"
  | _ => .object "Crossbarry$Tile"
abbrev wsX00 : List Cond := u_ws RX0 TX0 8
theorem nmX0 : ∀ a, a < 8 → ∀ b, b < 8 → a ≠ b → (TX0 a).2.1 ≠ (TX0 b).2.1 := by decide +kernel
theorem tyX0_ok : ∀ k, k < 8 → parseFieldDescriptor (TX0 k).2.2.1 = some (tyX0 k) := by decide +kernel
abbrev cX0_init : ByteArray := prog_2_method_1_code
def yX0_init : MethodName := ⟨RX0, "<init>", "(III)V"⟩
abbrev cX0_weightOf : ByteArray := prog_2_method_2_code
def yX0_weightOf : MethodName := ⟨RX0, "weightOf", "(II)I"⟩
abbrev cX0_tellWeight : ByteArray := prog_2_method_3_code
def yX0_tellWeight : MethodName := ⟨RX0, "tellWeight", "(III)V"⟩
abbrev cX0_canGoOnTo : ByteArray := prog_2_method_4_code
def yX0_canGoOnTo : MethodName := ⟨RX0, "canGoOnTo", "(LCrossbarry$Layer;)Z"⟩
abbrev cX0_columns : ByteArray := prog_2_method_5_code
def yX0_columns : MethodName := ⟨RX0, "columns", "()I"⟩
abbrev cX0_needed : ByteArray := prog_2_method_6_code
def yX0_needed : MethodName := ⟨RX0, "needed", "(II)I"⟩
abbrev cX0_writeOn : ByteArray := prog_2_method_7_code
def yX0_writeOn : MethodName := ⟨RX0, "writeOn", "(LCrossbarry$Tile;LCrossbarry$Setting;)I"⟩
abbrev cX0_conductsAsNeeded : ByteArray := prog_2_method_8_code
def yX0_conductsAsNeeded : MethodName := ⟨RX0, "conductsAsNeeded", "(LCrossbarry$Tile;LCrossbarry$Setting;)Z"⟩
abbrev cX0_misfitsIn : ByteArray := prog_2_method_9_code
def yX0_misfitsIn : MethodName := ⟨RX0, "misfitsIn", "(LCrossbarry$Tile;II)I"⟩
abbrev cX0_answerOn : ByteArray := prog_2_method_10_code
def yX0_answerOn : MethodName := ⟨RX0, "answerOn", "(LCrossbarry$Tile;JILCrossbarry$Setting;)I"⟩
abbrev cX0_currentOn : ByteArray := prog_2_method_11_code
def yX0_currentOn : MethodName := ⟨RX0, "currentOn", "(LCrossbarry$Tile;JILCrossbarry$Setting;)I"⟩
abbrev cX0_idealAnswer : ByteArray := prog_2_method_12_code
def yX0_idealAnswer : MethodName := ⟨RX0, "idealAnswer", "(JI)I"⟩
abbrev cX0_boundOn : ByteArray := prog_2_method_13_code
def yX0_boundOn : MethodName := ⟨RX0, "boundOn", "(LCrossbarry$Tile;IZ)I"⟩
abbrev cX0_needOf : ByteArray := prog_2_method_14_code
def yX0_needOf : MethodName := ⟨RX0, "needOf", "(I)I"⟩
abbrev cX0_cyclesOn : ByteArray := prog_2_method_15_code
def yX0_cyclesOn : MethodName := ⟨RX0, "cyclesOn", "(LCrossbarry$Tile;)I"⟩
def RX1 : String := "Crossbarry$Pipeline"
def TX1 : u_T := fun k => match k with
  | 0 => ("Crossbarry$Pipeline", "takes", "[I", true)
  | 1 => ("Crossbarry$Pipeline", "left", "[I", true)
  | _ => ("Crossbarry$Pipeline", "stages", "I", false)
def tyX1 : Nat → FieldType := fun k => match k with
  | 0 => .array .int
  | 1 => .array .int
  | _ => .int
abbrev wsX10 : List Cond := u_ws RX1 TX1 3
theorem nmX1 : ∀ a, a < 3 → ∀ b, b < 3 → a ≠ b → (TX1 a).2.1 ≠ (TX1 b).2.1 := by decide +kernel
theorem tyX1_ok : ∀ k, k < 3 → parseFieldDescriptor (TX1 k).2.2.1 = some (tyX1 k) := by decide +kernel
abbrev cX1_init : ByteArray := prog_3_method_1_code
def yX1_init : MethodName := ⟨RX1, "<init>", "()V"⟩
abbrev cX1_clear : ByteArray := prog_3_method_2_code
def yX1_clear : MethodName := ⟨RX1, "clear", "()V"⟩
abbrev cX1_add : ByteArray := prog_3_method_3_code
def yX1_add : MethodName := ⟨RX1, "add", "(I)V"⟩
abbrev cX1_cyclesReckoned : ByteArray := prog_3_method_4_code
def yX1_cyclesReckoned : MethodName := ⟨RX1, "cyclesReckoned", "(I)I"⟩
abbrev cX1_cyclesCounted : ByteArray := prog_3_method_5_code
def yX1_cyclesCounted : MethodName := ⟨RX1, "cyclesCounted", "(I)I"⟩
abbrev cX1_moveOn : ByteArray := prog_3_method_6_code
def yX1_moveOn : MethodName := ⟨RX1, "moveOn", "()I"⟩
abbrev cX1_work : ByteArray := prog_3_method_7_code
def yX1_work : MethodName := ⟨RX1, "work", "()V"⟩
def RX2 : String := "Crossbarry$Seating"
def TX2 : u_T := fun k => match k with
  | 0 => ("Crossbarry$Seating", "misfitTable", "[I", true)
  | _ => ("Crossbarry$Seating", "fewest", "[I", true)
def tyX2 : Nat → FieldType := fun k => match k with
  | 0 => .array .int
  | _ => .array .int
abbrev wsX20 : List Cond := u_ws RX2 TX2 2
theorem nmX2 : ∀ a, a < 2 → ∀ b, b < 2 → a ≠ b → (TX2 a).2.1 ≠ (TX2 b).2.1 := by decide +kernel
theorem tyX2_ok : ∀ k, k < 2 → parseFieldDescriptor (TX2 k).2.2.1 = some (tyX2 k) := by decide +kernel
abbrev cX2_init : ByteArray := prog_4_method_1_code
def yX2_init : MethodName := ⟨RX2, "<init>", "()V"⟩
abbrev cX2_weigh : ByteArray := prog_4_method_2_code
def yX2_weigh : MethodName := ⟨RX2, "weigh", "(LCrossbarry$Layer;LCrossbarry$Tile;)V"⟩
abbrev cX2_fewestMisfits : ByteArray := prog_4_method_3_code
def yX2_fewestMisfits : MethodName := ⟨RX2, "fewestMisfits", "(I)I"⟩
abbrev cX2_fewestFrom : ByteArray := prog_4_method_4_code
def yX2_fewestFrom : MethodName := ⟨RX2, "fewestFrom", "(II)I"⟩
abbrev cX2_fewestWith : ByteArray := prog_4_method_5_code
def yX2_fewestWith : MethodName := ⟨RX2, "fewestWith", "(III)I"⟩
abbrev cX2_seat : ByteArray := prog_4_method_6_code
def yX2_seat : MethodName := ⟨RX2, "seat", "(LCrossbarry$Layer;)V"⟩
abbrev cX2_lowestBestRow : ByteArray := prog_4_method_7_code
def yX2_lowestBestRow : MethodName := ⟨RX2, "lowestBestRow", "(II)I"⟩
abbrev cX2_fewestOfAllWays : ByteArray := prog_4_method_8_code
def yX2_fewestOfAllWays : MethodName := ⟨RX2, "fewestOfAllWays", "(I)I"⟩
abbrev cX2_misfitsOfWay : ByteArray := prog_4_method_9_code
def yX2_misfitsOfWay : MethodName := ⟨RX2, "misfitsOfWay", "(II)I"⟩
def RX3 : String := "Crossbarry$Setting"
def TX3 : u_T := fun k => match k with
  | 0 => ("Crossbarry$Setting", "now", "I", false)
  | 1 => ("Crossbarry$Setting", "driftHours", "I", false)
  | _ => ("Crossbarry$Setting", "mostWear", "I", false)
def tyX3 : Nat → FieldType := fun k => match k with
  | 0 => .int
  | 1 => .int
  | _ => .int
abbrev wsX30 : List Cond := u_ws RX3 TX3 3
theorem nmX3 : ∀ a, a < 3 → ∀ b, b < 3 → a ≠ b → (TX3 a).2.1 ≠ (TX3 b).2.1 := by decide +kernel
theorem tyX3_ok : ∀ k, k < 3 → parseFieldDescriptor (TX3 k).2.2.1 = some (tyX3 k) := by decide +kernel
abbrev cX3_init : ByteArray := prog_5_method_1_code
def yX3_init : MethodName := ⟨RX3, "<init>", "()V"⟩
def RX4 : String := "Crossbarry$Tile"
def TX4 : u_T := fun k => match k with
  | 0 => ("Crossbarry$Tile", "number", "I", true)
  | 1 => ("Crossbarry$Tile", "states", "[I", true)
  | 2 => ("Crossbarry$Tile", "wears", "[I", true)
  | 3 => ("Crossbarry$Tile", "hours", "[I", true)
  | 4 => ("Crossbarry$Tile", "isStuck", "[Z", true)
  | 5 => ("Crossbarry$Tile", "isKnown", "[Z", true)
  | 6 => ("Crossbarry$Tile", "offsets", "[I", true)
  | 7 => ("Crossbarry$Tile", "readStep", "I", false)
  | 8 => ("Crossbarry$Tile", "readTop", "I", false)
  | 9 => ("Crossbarry$Tile", "isCalibrated", "Z", false)
  | 10 => ("Crossbarry$Tile", "converterCount", "I", false)
  | _ => ("Crossbarry$Tile", "isTaken", "Z", false)
def tyX4 : Nat → FieldType := fun k => match k with
  | 0 => .int
  | 1 => .array .int
  | 2 => .array .int
  | 3 => .array .int
  | 4 => .array .boolean
  | 5 => .array .boolean
  | 6 => .array .int
  | 7 => .int
  | 8 => .int
  | 9 => .boolean
  | 10 => .int
  | _ => .boolean
abbrev wsX40 : List Cond := u_ws RX4 TX4 12
theorem nmX4 : ∀ a, a < 12 → ∀ b, b < 12 → a ≠ b → (TX4 a).2.1 ≠ (TX4 b).2.1 := by decide +kernel
theorem tyX4_ok : ∀ k, k < 12 → parseFieldDescriptor (TX4 k).2.2.1 = some (tyX4 k) := by decide +kernel
abbrev cX4_init : ByteArray := prog_6_method_1_code
def yX4_init : MethodName := ⟨RX4, "<init>", "(I)V"⟩
abbrev cX4_conducted : ByteArray := prog_6_method_2_code
def yX4_conducted : MethodName := ⟨RX4, "conducted", "(IILCrossbarry$Setting;)I"⟩
abbrev cX4_becomesStuck : ByteArray := prog_6_method_3_code
def yX4_becomesStuck : MethodName := ⟨RX4, "becomesStuck", "(III)Z"⟩
abbrev cX4_failsToWrite : ByteArray := prog_6_method_4_code
def yX4_failsToWrite : MethodName := ⟨RX4, "failsToWrite", "(IIILCrossbarry$Setting;)Z"⟩
abbrev cX4_givePulse : ByteArray := prog_6_method_5_code
def yX4_givePulse : MethodName := ⟨RX4, "givePulse", "(III)V"⟩
abbrev cX4_isMisfit : ByteArray := prog_6_method_6_code
def yX4_isMisfit : MethodName := ⟨RX4, "isMisfit", "(III)Z"⟩
abbrev cX4_read : ByteArray := prog_6_method_7_code
def yX4_read : MethodName := ⟨RX4, "read", "(II)I"⟩
abbrev cX4_leastError : ByteArray := prog_6_method_8_code
def yX4_leastError : MethodName := ⟨RX4, "leastError", "(II)I"⟩
abbrev cX4_greatestError : ByteArray := prog_6_method_9_code
def yX4_greatestError : MethodName := ⟨RX4, "greatestError", "(II)I"⟩
def RX5 : String := "Crossbarry"
def TX5 : u_T := fun k => match k with
  | 0 => ("Crossbarry", "setting", "LCrossbarry$Setting;", true)
  | 1 => ("Crossbarry", "tiles", "[LCrossbarry$Tile;", true)
  | 2 => ("Crossbarry", "layers", "[LCrossbarry$Layer;", true)
  | 3 => ("Crossbarry", "seating", "LCrossbarry$Seating;", true)
  | 4 => ("Crossbarry", "pipeline", "LCrossbarry$Pipeline;", true)
  | _ => ("Crossbarry", "layerCount", "I", false)
def tyX5 : Nat → FieldType := fun k => match k with
  | 0 => .object "Crossbarry$Setting"
  | 1 => .array (.object "Crossbarry$Tile")
  | 2 => .array (.object "Crossbarry$Layer")
  | 3 => .object "Crossbarry$Seating"
  | 4 => .object "Crossbarry$Pipeline"
  | _ => .int
abbrev wsX50 : List Cond := u_ws RX5 TX5 6
theorem nmX5 : ∀ a, a < 6 → ∀ b, b < 6 → a ≠ b → (TX5 a).2.1 ≠ (TX5 b).2.1 := by decide +kernel
theorem tyX5_ok : ∀ k, k < 6 → parseFieldDescriptor (TX5 k).2.2.1 = some (tyX5 k) := by decide +kernel
abbrev cX5_init : ByteArray := prog_1_method_1_code
def yX5_init : MethodName := ⟨RX5, "<init>", "()V"⟩
abbrev cX5_layer : ByteArray := prog_1_method_2_code
def yX5_layer : MethodName := ⟨RX5, "layer", "(II)I"⟩
abbrev cX5_weight : ByteArray := prog_1_method_3_code
def yX5_weight : MethodName := ⟨RX5, "weight", "(IIII)I"⟩
abbrev cX5_shift : ByteArray := prog_1_method_4_code
def yX5_shift : MethodName := ⟨RX5, "shift", "(II)I"⟩
abbrev cX5_next : ByteArray := prog_1_method_5_code
def yX5_next : MethodName := ⟨RX5, "next", "(II)I"⟩
abbrev cX5_place : ByteArray := prog_1_method_6_code
def yX5_place : MethodName := ⟨RX5, "place", "(II)I"⟩
abbrev cX5_load : ByteArray := prog_1_method_7_code
def yX5_load : MethodName := ⟨RX5, "load", "(I)I"⟩
abbrev cX5_lift : ByteArray := prog_1_method_8_code
def yX5_lift : MethodName := ⟨RX5, "lift", "(I)I"⟩
abbrev cX5_stick : ByteArray := prog_1_method_9_code
def yX5_stick : MethodName := ⟨RX5, "stick", "(IIII)V"⟩
abbrev cX5_spoil : ByteArray := prog_1_method_10_code
def yX5_spoil : MethodName := ⟨RX5, "spoil", "(III)I"⟩
abbrev cX5_drift : ByteArray := prog_1_method_11_code
def yX5_drift : MethodName := ⟨RX5, "drift", "(I)I"⟩
abbrev cX5_endurance : ByteArray := prog_1_method_12_code
def yX5_endurance : MethodName := ⟨RX5, "endurance", "(I)I"⟩
abbrev cX5_pass : ByteArray := prog_1_method_13_code
def yX5_pass : MethodName := ⟨RX5, "pass", "(I)I"⟩
abbrev cX5_converter : ByteArray := prog_1_method_14_code
def yX5_converter : MethodName := ⟨RX5, "converter", "(III)I"⟩
abbrev cX5_offset : ByteArray := prog_1_method_15_code
def yX5_offset : MethodName := ⟨RX5, "offset", "(III)I"⟩
abbrev cX5_calibrate : ByteArray := prog_1_method_16_code
def yX5_calibrate : MethodName := ⟨RX5, "calibrate", "(IZ)Z"⟩
abbrev cX5_converters : ByteArray := prog_1_method_17_code
def yX5_converters : MethodName := ⟨RX5, "converters", "(II)I"⟩
abbrev cX5_cell : ByteArray := prog_1_method_18_code
def yX5_cell : MethodName := ⟨RX5, "cell", "(IIII)I"⟩
abbrev cX5_rowOf : ByteArray := prog_1_method_19_code
def yX5_rowOf : MethodName := ⟨RX5, "rowOf", "(II)I"⟩
abbrev cX5_tileOf : ByteArray := prog_1_method_20_code
def yX5_tileOf : MethodName := ⟨RX5, "tileOf", "(I)I"⟩
abbrev cX5_misfits : ByteArray := prog_1_method_21_code
def yX5_misfits : MethodName := ⟨RX5, "misfits", "(II)I"⟩
abbrev cX5_misfitsAnew : ByteArray := prog_1_method_22_code
def yX5_misfitsAnew : MethodName := ⟨RX5, "misfitsAnew", "(II)I"⟩
abbrev cX5_isTrue : ByteArray := prog_1_method_23_code
def yX5_isTrue : MethodName := ⟨RX5, "isTrue", "(I)Z"⟩
abbrev cX5_answer : ByteArray := prog_1_method_24_code
def yX5_answer : MethodName := ⟨RX5, "answer", "(IJI)I"⟩
abbrev cX5_ideal : ByteArray := prog_1_method_25_code
def yX5_ideal : MethodName := ⟨RX5, "ideal", "(IJI)I"⟩
abbrev cX5_bound : ByteArray := prog_1_method_26_code
def yX5_bound : MethodName := ⟨RX5, "bound", "(IIZ)I"⟩
abbrev cX5_cycles : ByteArray := prog_1_method_29_code
def yX5_cycles : MethodName := ⟨RX5, "cycles", "(II)I"⟩
abbrev cX5_cyclesAnew : ByteArray := prog_1_method_30_code
def yX5_cyclesAnew : MethodName := ⟨RX5, "cyclesAnew", "(II)I"⟩
abbrev cX5_wear : ByteArray := prog_1_method_31_code
def yX5_wear : MethodName := ⟨RX5, "wear", "(I)J"⟩
abbrev cX5_share : ByteArray := prog_1_method_32_code
def yX5_share : MethodName := ⟨RX5, "share", "(I)F"⟩
abbrev cX5_hour : ByteArray := prog_1_method_33_code
def yX5_hour : MethodName := ⟨RX5, "hour", "()I"⟩
abbrev cX5_layerAt : ByteArray := prog_1_method_34_code
def yX5_layerAt : MethodName := ⟨RX5, "layerAt", "(I)LCrossbarry$Layer;"⟩
abbrev cX5_tileAt : ByteArray := prog_1_method_35_code
def yX5_tileAt : MethodName := ⟨RX5, "tileAt", "(I)LCrossbarry$Tile;"⟩
abbrev cX5_groundOf : ByteArray := prog_1_method_36_code
def yX5_groundOf : MethodName := ⟨RX5, "groundOf", "(LCrossbarry$Layer;)LCrossbarry$Tile;"⟩
abbrev cX5_checkIndex : ByteArray := prog_1_method_37_code
def yX5_checkIndex : MethodName := ⟨RX5, "checkIndex", "(II)V"⟩
abbrev cX5_checkArgument : ByteArray := prog_1_method_38_code
def yX5_checkArgument : MethodName := ⟨RX5, "checkArgument", "(III)V"⟩
abbrev cX5_indexOf : ByteArray := prog_1_method_39_code
def yX5_indexOf : MethodName := ⟨RX5, "indexOf", "(II)I"⟩
abbrev cX5_inputOf : ByteArray := prog_1_method_40_code
def yX5_inputOf : MethodName := ⟨RX5, "inputOf", "(JI)I"⟩
abbrev cX5_quotient : ByteArray := prog_1_method_41_code
def yX5_quotient : MethodName := ⟨RX5, "quotient", "(II)I"⟩
abbrev cX5_drawBehind : ByteArray := prog_1_method_42_code
def yX5_drawBehind : MethodName := ⟨RX5, "drawBehind", "(I)I"⟩
abbrev cX5_tellPipeline : ByteArray := prog_1_method_44_code
def yX5_tellPipeline : MethodName := ⟨RX5, "tellPipeline", "(LCrossbarry$Layer;)V"⟩
def RX6 : String := "CrossbarryModel"
def TX6 : u_T := fun k => match k with
  | _ => ("", "", "", false)
def tyX6 : Nat → FieldType := fun k => match k with
  | _ => .int
abbrev wsX60 : List Cond := u_ws RX6 TX6 0
theorem nmX6 : ∀ a, a < 0 → ∀ b, b < 0 → a ≠ b → (TX6 a).2.1 ≠ (TX6 b).2.1 := by decide +kernel
theorem tyX6_ok : ∀ k, k < 0 → parseFieldDescriptor (TX6 k).2.2.1 = some (tyX6 k) := by decide +kernel
def RJ6 : String := "java/lang/Integer"
def TJ6 : u_T := fun k => match k with
  | _ => ("", "", "", false)
def tyJ6 : Nat → FieldType := fun k => match k with
  | _ => .int
abbrev wsJ60 : List Cond := u_ws RJ6 TJ6 0
theorem nmJ6 : ∀ a, a < 0 → ∀ b, b < 0 → a ≠ b → (TJ6 a).2.1 ≠ (TJ6 b).2.1 := by decide +kernel
theorem tyJ6_ok : ∀ k, k < 0 → parseFieldDescriptor (TJ6 k).2.2.1 = some (tyJ6 k) := by decide +kernel
abbrev cJ6_bitCount_0f7a4 : ByteArray := prog_13_method_49_code
def yJ6_bitCount_0f7a4 : MethodName := ⟨RJ6, "bitCount", "(I)I"⟩
def RJ9 : String := "java/lang/Math"
def TJ9 : u_T := fun k => match k with
  | _ => ("", "", "", false)
def tyJ9 : Nat → FieldType := fun k => match k with
  | _ => .int
abbrev wsJ90 : List Cond := u_ws RJ9 TJ9 0
theorem nmJ9 : ∀ a, a < 0 → ∀ b, b < 0 → a ≠ b → (TJ9 a).2.1 ≠ (TJ9 b).2.1 := by decide +kernel
theorem tyJ9_ok : ∀ k, k < 0 → parseFieldDescriptor (TJ9 k).2.2.1 = some (tyJ9 k) := by decide +kernel
abbrev cJ9_max_7cf53 : ByteArray := prog_14_method_65_code
def yJ9_max_7cf53 : MethodName := ⟨RJ9, "max", "(II)I"⟩
abbrev cJ9_min_7cf53 : ByteArray := prog_14_method_69_code
def yJ9_min_7cf53 : MethodName := ⟨RJ9, "min", "(II)I"⟩
def RJ0 : String := "java/lang/String"
def TJ0 : u_T := fun k => match k with
  | _ => ("", "", "", false)
def tyJ0 : Nat → FieldType := fun k => match k with
  | _ => .int
abbrev wsJ00 : List Cond := u_ws RJ0 TJ0 0
theorem nmJ0 : ∀ a, a < 0 → ∀ b, b < 0 → a ≠ b → (TJ0 a).2.1 ≠ (TJ0 b).2.1 := by decide +kernel
theorem tyJ0_ok : ∀ k, k < 0 → parseFieldDescriptor (TJ0 k).2.2.1 = some (tyJ0 k) := by decide +kernel
def RL : String := "CrossbarryLaw"
abbrev cL_cell : ByteArray := method_2_code
def yL_cell : MethodName := ⟨RL, "cell", "([II)I"⟩
abbrev cL_low : ByteArray := method_3_code
def yL_low : MethodName := ⟨RL, "low", "(II)I"⟩
abbrev cL_needs : ByteArray := method_4_code
def yL_needs : MethodName := ⟨RL, "needs", "(II)I"⟩
abbrev cL_misfits : ByteArray := method_5_code
def yL_misfits : MethodName := ⟨RL, "misfits", "(LCrossbarry;[IIIII)I"⟩
abbrev cL_law : ByteArray := code
def yL_law : MethodName := ⟨RL, "law", "([I)Z"⟩
def wsX0_init : List Cond := .code yX0_init cX0_init 4 none :: ([.methodLink RX0 3 objectInit, .instanceMethod objectInit, .code objectInit ⟨#[0xb1]⟩ 1 none, .arrayClass .int, .fieldLink RX0 9 "Crossbarry$Layer" "weights" "[I", .fieldLink RX0 15 "Crossbarry$Layer" "rows" "[I", .fieldLink RX0 18 "Crossbarry$Layer" "shiftBy" "I", .fieldLink RX0 22 "Crossbarry$Layer" "nextLayer" "LCrossbarry$Layer;", .fieldLink RX0 26 "Crossbarry$Layer" "ground" "LCrossbarry$Tile;", .fieldLink RX0 30 "Crossbarry$Layer" "number" "I", .fieldLink RX0 33 "Crossbarry$Layer" "inputs" "I", .fieldLink RX0 36 "Crossbarry$Layer" "outputs" "I"] ++ wsX00)
def wsX0_weightOf : List Cond := .code yX0_weightOf cX0_weightOf 3 (some .int) :: ([.fieldLink RX0 9 "Crossbarry$Layer" "weights" "[I"] ++ wsX00)
def wsX0_tellWeight : List Cond := .code yX0_tellWeight cX0_tellWeight 4 none :: ([.fieldLink RX0 9 "Crossbarry$Layer" "weights" "[I"] ++ wsX00)
def wsX0_canGoOnTo : List Cond := .code yX0_canGoOnTo cX0_canGoOnTo 2 (some .boolean) :: ([.fieldLink RX0 30 "Crossbarry$Layer" "number" "I", .fieldLink RX0 33 "Crossbarry$Layer" "inputs" "I", .fieldLink RX0 36 "Crossbarry$Layer" "outputs" "I"] ++ wsX00)
def wsX0_columns : List Cond := .code yX0_columns cX0_columns 1 (some .int) :: ([.fieldLink RX0 36 "Crossbarry$Layer" "outputs" "I"] ++ wsX00)
def wsX0_needed : List Cond := .code yX0_needed cX0_needed 4 (some .int) :: ([.methodLink RX0 39 yX0_weightOf, .instanceMethod yX0_weightOf, .selects RX0 yX0_weightOf yX0_weightOf, .initialized RX0, .code yX0_weightOf cX0_weightOf 3 (some .int), .fieldLink RX0 9 "Crossbarry$Layer" "weights" "[I"] ++ wsX00)
def wsX5_indexOf : List Cond := .code yX5_indexOf cX5_indexOf 2 (some .int) :: ([])
def wsX5_quotient : List Cond := .code yX5_quotient cX5_quotient 2 (some .int) :: ([])
def wsX4_conducted : List Cond := .code yX4_conducted cX4_conducted 6 (some .int) :: ([.fieldLink RX4 55 "Crossbarry$Setting" "driftHours" "I", .fieldLink RX4 21 "Crossbarry$Tile" "isStuck" "[Z", .fieldLink RX4 9 "Crossbarry$Tile" "states" "[I", .fieldLink RX4 60 "Crossbarry$Setting" "now" "I", .fieldLink RX4 18 "Crossbarry$Tile" "hours" "[I", .methodLink RX4 66 Lib.Math.max.name, .static Lib.Math.max.name, .initialized "java/lang/Math", .code Lib.Math.max.name Lib.Math.max.code 2 (some .int), .static yX5_indexOf, .initialized RX5, .code yX5_indexOf cX5_indexOf 2 (some .int), .static yX5_quotient, .code yX5_quotient cX5_quotient 2 (some .int)] ++ wsX30 ++ wsX40)
def wsX4_givePulse : List Cond := .code yX4_givePulse cX4_givePulse 4 none :: ([.fieldLink RX4 15 "Crossbarry$Tile" "wears" "[I", .fieldLink RX4 21 "Crossbarry$Tile" "isStuck" "[Z", .fieldLink RX4 9 "Crossbarry$Tile" "states" "[I", .methodLink RX4 66 Lib.Math.max.name, .static Lib.Math.max.name, .initialized "java/lang/Math", .code Lib.Math.max.name Lib.Math.max.code 2 (some .int)] ++ wsX40)
def wsX4_failsToWrite_r1 : List Cond := [Cond.fieldLink RX4 21 "Crossbarry$Tile" "isStuck" "[Z", Cond.fieldLink RX4 9 "Crossbarry$Tile" "states" "[I", Cond.fieldLink RX4 18 "Crossbarry$Tile" "hours" "[I", Cond.fieldLink RX4 60 "Crossbarry$Setting" "now" "I", Cond.fieldLink RX4 75 "Crossbarry$Setting" "mostWear" "I", Cond.fieldLink RX4 25 "Crossbarry$Tile" "isKnown" "[Z", Cond.static yX5_indexOf, Cond.initialized RX5, Cond.code yX5_indexOf cX5_indexOf 2 (some .int), Cond.methodLink RX4 71 yX4_conducted, Cond.instanceMethod yX4_conducted, Cond.selects RX4 yX4_conducted yX4_conducted, Cond.initialized RX4, Cond.code yX4_conducted cX4_conducted 6 (some .int), Cond.fieldLink RX4 55 "Crossbarry$Setting" "driftHours" "I", Cond.methodLink RX4 66 Lib.Math.max.name, Cond.static Lib.Math.max.name, Cond.initialized "java/lang/Math", Cond.code Lib.Math.max.name Lib.Math.max.code 2 (some .int), Cond.static yX5_quotient, Cond.code yX5_quotient cX5_quotient 2 (some .int), Cond.methodLink RX4 78 yX4_givePulse, Cond.instanceMethod yX4_givePulse, Cond.selects RX4 yX4_givePulse yX4_givePulse]
def wsX4_failsToWrite_r2 : List Cond := [Cond.code yX4_givePulse cX4_givePulse 4 none, Cond.fieldLink RX4 15 "Crossbarry$Tile" "wears" "[I"]
def wsX4_failsToWrite : List Cond := .code yX4_failsToWrite cX4_failsToWrite 7 (some .boolean) :: ((wsX4_failsToWrite_r1 ++ wsX4_failsToWrite_r2) ++ wsX40 ++ wsX30)
def wsX0_writeOn_r1 : List Cond := [Cond.fieldLink RX0 33 "Crossbarry$Layer" "inputs" "I", Cond.fieldLink RX0 15 "Crossbarry$Layer" "rows" "[I", Cond.methodLink RX0 46 yX0_columns, Cond.instanceMethod yX0_columns, Cond.selects RX0 yX0_columns yX0_columns, Cond.initialized RX0, Cond.code yX0_columns cX0_columns 1 (some .int), Cond.fieldLink RX0 36 "Crossbarry$Layer" "outputs" "I", Cond.methodLink RX0 50 yX0_needed, Cond.instanceMethod yX0_needed, Cond.selects RX0 yX0_needed yX0_needed, Cond.code yX0_needed cX0_needed 4 (some .int), Cond.methodLink RX0 39 yX0_weightOf, Cond.instanceMethod yX0_weightOf, Cond.selects RX0 yX0_weightOf yX0_weightOf, Cond.code yX0_weightOf cX0_weightOf 3 (some .int), Cond.fieldLink RX0 9 "Crossbarry$Layer" "weights" "[I", Cond.methodLink RX0 53 yX4_failsToWrite, Cond.instanceMethod yX4_failsToWrite, Cond.selects RX4 yX4_failsToWrite yX4_failsToWrite, Cond.initialized RX4, Cond.code yX4_failsToWrite cX4_failsToWrite 7 (some .boolean), Cond.fieldLink RX4 21 "Crossbarry$Tile" "isStuck" "[Z", Cond.fieldLink RX4 9 "Crossbarry$Tile" "states" "[I"]
def wsX0_writeOn_r2 : List Cond := [Cond.fieldLink RX4 18 "Crossbarry$Tile" "hours" "[I", Cond.fieldLink RX4 60 "Crossbarry$Setting" "now" "I", Cond.fieldLink RX4 75 "Crossbarry$Setting" "mostWear" "I", Cond.fieldLink RX4 25 "Crossbarry$Tile" "isKnown" "[Z", Cond.static yX5_indexOf, Cond.initialized RX5, Cond.code yX5_indexOf cX5_indexOf 2 (some .int), Cond.methodLink RX4 71 yX4_conducted, Cond.instanceMethod yX4_conducted, Cond.selects RX4 yX4_conducted yX4_conducted, Cond.code yX4_conducted cX4_conducted 6 (some .int), Cond.fieldLink RX4 55 "Crossbarry$Setting" "driftHours" "I", Cond.methodLink RX4 66 Lib.Math.max.name, Cond.static Lib.Math.max.name, Cond.initialized "java/lang/Math", Cond.code Lib.Math.max.name Lib.Math.max.code 2 (some .int), Cond.static yX5_quotient, Cond.code yX5_quotient cX5_quotient 2 (some .int), Cond.methodLink RX4 78 yX4_givePulse, Cond.instanceMethod yX4_givePulse, Cond.selects RX4 yX4_givePulse yX4_givePulse, Cond.code yX4_givePulse cX4_givePulse 4 none, Cond.fieldLink RX4 15 "Crossbarry$Tile" "wears" "[I"]
def wsX0_writeOn : List Cond := .code yX0_writeOn cX0_writeOn 6 (some .int) :: ((wsX0_writeOn_r1 ++ wsX0_writeOn_r2) ++ wsX00 ++ wsX40 ++ wsX30)
def wsX0_conductsAsNeeded_r1 : List Cond := [Cond.fieldLink RX0 33 "Crossbarry$Layer" "inputs" "I", Cond.fieldLink RX0 15 "Crossbarry$Layer" "rows" "[I", Cond.methodLink RX0 46 yX0_columns, Cond.instanceMethod yX0_columns, Cond.selects RX0 yX0_columns yX0_columns, Cond.initialized RX0, Cond.code yX0_columns cX0_columns 1 (some .int), Cond.fieldLink RX0 36 "Crossbarry$Layer" "outputs" "I", Cond.methodLink RX0 59 yX4_conducted, Cond.instanceMethod yX4_conducted, Cond.selects RX4 yX4_conducted yX4_conducted, Cond.initialized RX4, Cond.code yX4_conducted cX4_conducted 6 (some .int), Cond.fieldLink RX4 55 "Crossbarry$Setting" "driftHours" "I", Cond.fieldLink RX4 21 "Crossbarry$Tile" "isStuck" "[Z", Cond.fieldLink RX4 9 "Crossbarry$Tile" "states" "[I", Cond.fieldLink RX4 60 "Crossbarry$Setting" "now" "I", Cond.fieldLink RX4 18 "Crossbarry$Tile" "hours" "[I", Cond.methodLink RX4 66 Lib.Math.max.name, Cond.static Lib.Math.max.name, Cond.initialized "java/lang/Math", Cond.code Lib.Math.max.name Lib.Math.max.code 2 (some .int), Cond.static yX5_indexOf, Cond.initialized RX5]
def wsX0_conductsAsNeeded_r2 : List Cond := [Cond.code yX5_indexOf cX5_indexOf 2 (some .int), Cond.static yX5_quotient, Cond.code yX5_quotient cX5_quotient 2 (some .int), Cond.methodLink RX0 50 yX0_needed, Cond.instanceMethod yX0_needed, Cond.selects RX0 yX0_needed yX0_needed, Cond.code yX0_needed cX0_needed 4 (some .int), Cond.methodLink RX0 39 yX0_weightOf, Cond.instanceMethod yX0_weightOf, Cond.selects RX0 yX0_weightOf yX0_weightOf, Cond.code yX0_weightOf cX0_weightOf 3 (some .int), Cond.fieldLink RX0 9 "Crossbarry$Layer" "weights" "[I"]
def wsX0_conductsAsNeeded : List Cond := .code yX0_conductsAsNeeded cX0_conductsAsNeeded 5 (some .boolean) :: ((wsX0_conductsAsNeeded_r1 ++ wsX0_conductsAsNeeded_r2) ++ wsX00 ++ wsX30 ++ wsX40)
def wsX4_isMisfit : List Cond := .code yX4_isMisfit cX4_isMisfit 5 (some .boolean) :: ([.fieldLink RX4 25 "Crossbarry$Tile" "isKnown" "[Z", .fieldLink RX4 9 "Crossbarry$Tile" "states" "[I", .static yX5_indexOf, .initialized RX5, .code yX5_indexOf cX5_indexOf 2 (some .int)] ++ wsX40)
def wsX0_misfitsIn_r1 : List Cond := [Cond.methodLink RX0 46 yX0_columns, Cond.instanceMethod yX0_columns, Cond.selects RX0 yX0_columns yX0_columns, Cond.initialized RX0, Cond.code yX0_columns cX0_columns 1 (some .int), Cond.fieldLink RX0 36 "Crossbarry$Layer" "outputs" "I", Cond.methodLink RX0 50 yX0_needed, Cond.instanceMethod yX0_needed, Cond.selects RX0 yX0_needed yX0_needed, Cond.code yX0_needed cX0_needed 4 (some .int), Cond.methodLink RX0 39 yX0_weightOf, Cond.instanceMethod yX0_weightOf, Cond.selects RX0 yX0_weightOf yX0_weightOf, Cond.code yX0_weightOf cX0_weightOf 3 (some .int), Cond.fieldLink RX0 9 "Crossbarry$Layer" "weights" "[I", Cond.methodLink RX0 63 yX4_isMisfit, Cond.instanceMethod yX4_isMisfit, Cond.selects RX4 yX4_isMisfit yX4_isMisfit, Cond.initialized RX4, Cond.code yX4_isMisfit cX4_isMisfit 5 (some .boolean), Cond.fieldLink RX4 25 "Crossbarry$Tile" "isKnown" "[Z", Cond.fieldLink RX4 9 "Crossbarry$Tile" "states" "[I", Cond.static yX5_indexOf, Cond.initialized RX5]
def wsX0_misfitsIn_r2 : List Cond := [Cond.code yX5_indexOf cX5_indexOf 2 (some .int)]
def wsX0_misfitsIn : List Cond := .code yX0_misfitsIn cX0_misfitsIn 6 (some .int) :: ((wsX0_misfitsIn_r1 ++ wsX0_misfitsIn_r2) ++ wsX00 ++ wsX40)
def wsX5_inputOf : List Cond := .code yX5_inputOf cX5_inputOf 3 (some .int) :: ([])
def wsX0_currentOn : List Cond := .code yX0_currentOn cX0_currentOn 8 (some .int) :: ([.fieldLink RX0 33 "Crossbarry$Layer" "inputs" "I", .fieldLink RX0 15 "Crossbarry$Layer" "rows" "[I", .static yX5_inputOf, .initialized RX5, .code yX5_inputOf cX5_inputOf 3 (some .int), .methodLink RX0 59 yX4_conducted, .instanceMethod yX4_conducted, .selects RX4 yX4_conducted yX4_conducted, .initialized RX4, .code yX4_conducted cX4_conducted 6 (some .int), .fieldLink RX4 55 "Crossbarry$Setting" "driftHours" "I", .fieldLink RX4 21 "Crossbarry$Tile" "isStuck" "[Z", .fieldLink RX4 9 "Crossbarry$Tile" "states" "[I", .fieldLink RX4 60 "Crossbarry$Setting" "now" "I", .fieldLink RX4 18 "Crossbarry$Tile" "hours" "[I", .methodLink RX4 66 Lib.Math.max.name, .static Lib.Math.max.name, .initialized "java/lang/Math", .code Lib.Math.max.name Lib.Math.max.code 2 (some .int), .static yX5_indexOf, .code yX5_indexOf cX5_indexOf 2 (some .int), .static yX5_quotient, .code yX5_quotient cX5_quotient 2 (some .int)] ++ wsX00 ++ wsX30 ++ wsX40)
def wsX4_read : List Cond := .code yX4_read cX4_read 4 (some .int) :: ([.fieldLink RX4 38 "Crossbarry$Tile" "isCalibrated" "Z", .fieldLink RX4 28 "Crossbarry$Tile" "offsets" "[I", .methodLink RX4 66 Lib.Math.max.name, .static Lib.Math.max.name, .initialized "java/lang/Math", .code Lib.Math.max.name Lib.Math.max.code 2 (some .int), .fieldLink RX4 35 "Crossbarry$Tile" "readTop" "I", .fieldLink RX4 31 "Crossbarry$Tile" "readStep" "I", .methodLink RX4 82 Lib.Math.min.name, .static Lib.Math.min.name, .code Lib.Math.min.name Lib.Math.min.code 2 (some .int), .static yX5_quotient, .initialized RX5, .code yX5_quotient cX5_quotient 2 (some .int)] ++ wsX40)
def wsX0_answerOn_r1 : List Cond := [Cond.methodLink RX0 67 yX0_currentOn, Cond.instanceMethod yX0_currentOn, Cond.selects RX0 yX0_currentOn yX0_currentOn, Cond.initialized RX0, Cond.code yX0_currentOn cX0_currentOn 8 (some .int), Cond.fieldLink RX0 33 "Crossbarry$Layer" "inputs" "I", Cond.fieldLink RX0 15 "Crossbarry$Layer" "rows" "[I", Cond.static yX5_inputOf, Cond.initialized RX5, Cond.code yX5_inputOf cX5_inputOf 3 (some .int), Cond.methodLink RX0 59 yX4_conducted, Cond.instanceMethod yX4_conducted, Cond.selects RX4 yX4_conducted yX4_conducted, Cond.initialized RX4, Cond.code yX4_conducted cX4_conducted 6 (some .int), Cond.fieldLink RX4 55 "Crossbarry$Setting" "driftHours" "I", Cond.fieldLink RX4 21 "Crossbarry$Tile" "isStuck" "[Z", Cond.fieldLink RX4 9 "Crossbarry$Tile" "states" "[I", Cond.fieldLink RX4 60 "Crossbarry$Setting" "now" "I", Cond.fieldLink RX4 18 "Crossbarry$Tile" "hours" "[I", Cond.methodLink RX4 66 Lib.Math.max.name, Cond.static Lib.Math.max.name, Cond.initialized "java/lang/Math", Cond.code Lib.Math.max.name Lib.Math.max.code 2 (some .int)]
def wsX0_answerOn_r2 : List Cond := [Cond.static yX5_indexOf, Cond.code yX5_indexOf cX5_indexOf 2 (some .int), Cond.static yX5_quotient, Cond.code yX5_quotient cX5_quotient 2 (some .int), Cond.methodLink RX0 71 yX4_read, Cond.instanceMethod yX4_read, Cond.selects RX4 yX4_read yX4_read, Cond.code yX4_read cX4_read 4 (some .int), Cond.fieldLink RX4 38 "Crossbarry$Tile" "isCalibrated" "Z", Cond.fieldLink RX4 28 "Crossbarry$Tile" "offsets" "[I", Cond.fieldLink RX4 35 "Crossbarry$Tile" "readTop" "I", Cond.fieldLink RX4 31 "Crossbarry$Tile" "readStep" "I", Cond.methodLink RX4 82 Lib.Math.min.name, Cond.static Lib.Math.min.name, Cond.code Lib.Math.min.name Lib.Math.min.code 2 (some .int)]
def wsX0_answerOn : List Cond := .code yX0_answerOn cX0_answerOn 11 (some .int) :: ((wsX0_answerOn_r1 ++ wsX0_answerOn_r2) ++ wsX00 ++ wsX30 ++ wsX40)
def wsX0_idealAnswer : List Cond := .code yX0_idealAnswer cX0_idealAnswer 6 (some .int) :: ([.fieldLink RX0 33 "Crossbarry$Layer" "inputs" "I", .methodLink RX0 39 yX0_weightOf, .instanceMethod yX0_weightOf, .selects RX0 yX0_weightOf yX0_weightOf, .initialized RX0, .code yX0_weightOf cX0_weightOf 3 (some .int), .fieldLink RX0 9 "Crossbarry$Layer" "weights" "[I", .static yX5_inputOf, .initialized RX5, .code yX5_inputOf cX5_inputOf 3 (some .int)] ++ wsX00)
def wsX0_needOf : List Cond := .code yX0_needOf cX0_needOf 4 (some .int) :: ([.fieldLink RX0 33 "Crossbarry$Layer" "inputs" "I", .methodLink RX0 50 yX0_needed, .instanceMethod yX0_needed, .selects RX0 yX0_needed yX0_needed, .initialized RX0, .code yX0_needed cX0_needed 4 (some .int), .methodLink RX0 39 yX0_weightOf, .instanceMethod yX0_weightOf, .selects RX0 yX0_weightOf yX0_weightOf, .code yX0_weightOf cX0_weightOf 3 (some .int), .fieldLink RX0 9 "Crossbarry$Layer" "weights" "[I"] ++ wsX00)
def wsX4_greatestError : List Cond := .code yX4_greatestError cX4_greatestError 5 (some .int) :: ([.methodLink RX4 66 Lib.Math.max.name, .static Lib.Math.max.name, .initialized "java/lang/Math", .code Lib.Math.max.name Lib.Math.max.code 2 (some .int), .methodLink RX4 85 yX4_read, .instanceMethod yX4_read, .selects RX4 yX4_read yX4_read, .initialized RX4, .code yX4_read cX4_read 4 (some .int), .fieldLink RX4 38 "Crossbarry$Tile" "isCalibrated" "Z", .fieldLink RX4 28 "Crossbarry$Tile" "offsets" "[I", .fieldLink RX4 35 "Crossbarry$Tile" "readTop" "I", .fieldLink RX4 31 "Crossbarry$Tile" "readStep" "I", .methodLink RX4 82 Lib.Math.min.name, .static Lib.Math.min.name, .code Lib.Math.min.name Lib.Math.min.code 2 (some .int), .static yX5_quotient, .initialized RX5, .code yX5_quotient cX5_quotient 2 (some .int)] ++ wsX40)
def wsX4_leastError : List Cond := .code yX4_leastError cX4_leastError 5 (some .int) :: ([.methodLink RX4 82 Lib.Math.min.name, .static Lib.Math.min.name, .initialized "java/lang/Math", .code Lib.Math.min.name Lib.Math.min.code 2 (some .int), .methodLink RX4 85 yX4_read, .instanceMethod yX4_read, .selects RX4 yX4_read yX4_read, .initialized RX4, .code yX4_read cX4_read 4 (some .int), .fieldLink RX4 38 "Crossbarry$Tile" "isCalibrated" "Z", .fieldLink RX4 28 "Crossbarry$Tile" "offsets" "[I", .methodLink RX4 66 Lib.Math.max.name, .static Lib.Math.max.name, .code Lib.Math.max.name Lib.Math.max.code 2 (some .int), .fieldLink RX4 35 "Crossbarry$Tile" "readTop" "I", .fieldLink RX4 31 "Crossbarry$Tile" "readStep" "I", .static yX5_quotient, .initialized RX5, .code yX5_quotient cX5_quotient 2 (some .int)] ++ wsX40)
def wsX0_boundOn_r1 : List Cond := [Cond.methodLink RX0 78 yX0_needOf, Cond.instanceMethod yX0_needOf, Cond.selects RX0 yX0_needOf yX0_needOf, Cond.initialized RX0, Cond.code yX0_needOf cX0_needOf 4 (some .int), Cond.fieldLink RX0 33 "Crossbarry$Layer" "inputs" "I", Cond.methodLink RX0 50 yX0_needed, Cond.instanceMethod yX0_needed, Cond.selects RX0 yX0_needed yX0_needed, Cond.code yX0_needed cX0_needed 4 (some .int), Cond.methodLink RX0 39 yX0_weightOf, Cond.instanceMethod yX0_weightOf, Cond.selects RX0 yX0_weightOf yX0_weightOf, Cond.code yX0_weightOf cX0_weightOf 3 (some .int), Cond.fieldLink RX0 9 "Crossbarry$Layer" "weights" "[I", Cond.methodLink RX0 82 yX4_greatestError, Cond.instanceMethod yX4_greatestError, Cond.selects RX4 yX4_greatestError yX4_greatestError, Cond.initialized RX4, Cond.code yX4_greatestError cX4_greatestError 5 (some .int), Cond.methodLink RX4 66 Lib.Math.max.name, Cond.static Lib.Math.max.name, Cond.initialized "java/lang/Math", Cond.code Lib.Math.max.name Lib.Math.max.code 2 (some .int)]
def wsX0_boundOn_r2 : List Cond := [Cond.methodLink RX4 85 yX4_read, Cond.instanceMethod yX4_read, Cond.selects RX4 yX4_read yX4_read, Cond.code yX4_read cX4_read 4 (some .int), Cond.fieldLink RX4 38 "Crossbarry$Tile" "isCalibrated" "Z", Cond.fieldLink RX4 28 "Crossbarry$Tile" "offsets" "[I", Cond.fieldLink RX4 35 "Crossbarry$Tile" "readTop" "I", Cond.fieldLink RX4 31 "Crossbarry$Tile" "readStep" "I", Cond.methodLink RX4 82 Lib.Math.min.name, Cond.static Lib.Math.min.name, Cond.code Lib.Math.min.name Lib.Math.min.code 2 (some .int), Cond.static yX5_quotient, Cond.initialized RX5, Cond.code yX5_quotient cX5_quotient 2 (some .int), Cond.methodLink RX0 85 yX4_leastError, Cond.instanceMethod yX4_leastError, Cond.selects RX4 yX4_leastError yX4_leastError, Cond.code yX4_leastError cX4_leastError 5 (some .int)]
def wsX0_boundOn : List Cond := .code yX0_boundOn cX0_boundOn 9 (some .int) :: ((wsX0_boundOn_r1 ++ wsX0_boundOn_r2) ++ wsX00 ++ wsX40)
def wsX0_cyclesOn : List Cond := .code yX0_cyclesOn cX0_cyclesOn 2 (some .int) :: ([.fieldLink RX0 88 "Crossbarry$Tile" "converterCount" "I", .methodLink RX0 46 yX0_columns, .instanceMethod yX0_columns, .selects RX0 yX0_columns yX0_columns, .initialized RX0, .code yX0_columns cX0_columns 1 (some .int), .fieldLink RX0 36 "Crossbarry$Layer" "outputs" "I", .static yX5_quotient, .initialized RX5, .code yX5_quotient cX5_quotient 2 (some .int)] ++ wsX40 ++ wsX00)
def wsX1_init : List Cond := .code yX1_init cX1_init 1 none :: ([.methodLink RX1 3 objectInit, .instanceMethod objectInit, .code objectInit ⟨#[0xb1]⟩ 1 none, .arrayClass .int, .fieldLink RX1 9 "Crossbarry$Pipeline" "takes" "[I", .fieldLink RX1 15 "Crossbarry$Pipeline" "left" "[I", .fieldLink RX1 18 "Crossbarry$Pipeline" "stages" "I"] ++ wsX10)
def wsX1_clear : List Cond := .code yX1_clear cX1_clear 1 none :: ([.fieldLink RX1 18 "Crossbarry$Pipeline" "stages" "I"] ++ wsX10)
def wsX1_add : List Cond := .code yX1_add cX1_add 2 none :: ([.fieldLink RX1 18 "Crossbarry$Pipeline" "stages" "I", .fieldLink RX1 9 "Crossbarry$Pipeline" "takes" "[I"] ++ wsX10)
def wsX1_cyclesReckoned : List Cond := .code yX1_cyclesReckoned cX1_cyclesReckoned 5 (some .int) :: ([.fieldLink RX1 18 "Crossbarry$Pipeline" "stages" "I", .fieldLink RX1 9 "Crossbarry$Pipeline" "takes" "[I", .methodLink RX1 22 Lib.Math.max.name, .static Lib.Math.max.name, .initialized "java/lang/Math", .code Lib.Math.max.name Lib.Math.max.code 2 (some .int)] ++ wsX10)
def wsX1_moveOn : List Cond := .code yX1_moveOn cX1_moveOn 3 (some .int) :: ([.fieldLink RX1 18 "Crossbarry$Pipeline" "stages" "I", .fieldLink RX1 15 "Crossbarry$Pipeline" "left" "[I", .fieldLink RX1 9 "Crossbarry$Pipeline" "takes" "[I"] ++ wsX10)
def wsX1_work : List Cond := .code yX1_work cX1_work 2 none :: ([.fieldLink RX1 18 "Crossbarry$Pipeline" "stages" "I", .fieldLink RX1 15 "Crossbarry$Pipeline" "left" "[I"] ++ wsX10)
def wsX1_cyclesCounted : List Cond := .code yX1_cyclesCounted cX1_cyclesCounted 5 (some .int) :: ([.fieldLink RX1 18 "Crossbarry$Pipeline" "stages" "I", .fieldLink RX1 15 "Crossbarry$Pipeline" "left" "[I", .constant RX1 28 (1000000), .fieldLink RX1 9 "Crossbarry$Pipeline" "takes" "[I", .methodLink RX1 29 yX1_moveOn, .instanceMethod yX1_moveOn, .selects RX1 yX1_moveOn yX1_moveOn, .initialized RX1, .code yX1_moveOn cX1_moveOn 3 (some .int), .methodLink RX1 33 yX1_work, .instanceMethod yX1_work, .selects RX1 yX1_work yX1_work, .code yX1_work cX1_work 2 none] ++ wsX10)
def wsX2_init : List Cond := .code yX2_init cX2_init 1 none :: ([.methodLink RX2 3 objectInit, .instanceMethod objectInit, .code objectInit ⟨#[0xb1]⟩ 1 none, .arrayClass .int, .fieldLink RX2 9 "Crossbarry$Seating" "misfitTable" "[I", .fieldLink RX2 15 "Crossbarry$Seating" "fewest" "[I"] ++ wsX20)
def wsX2_weigh_r1 : List Cond := [Cond.fieldLink RX2 18 "Crossbarry$Layer" "inputs" "I", Cond.fieldLink RX2 9 "Crossbarry$Seating" "misfitTable" "[I", Cond.methodLink RX2 24 yX0_misfitsIn, Cond.instanceMethod yX0_misfitsIn, Cond.selects RX0 yX0_misfitsIn yX0_misfitsIn, Cond.initialized RX0, Cond.code yX0_misfitsIn cX0_misfitsIn 6 (some .int), Cond.methodLink RX0 46 yX0_columns, Cond.instanceMethod yX0_columns, Cond.selects RX0 yX0_columns yX0_columns, Cond.code yX0_columns cX0_columns 1 (some .int), Cond.fieldLink RX0 36 "Crossbarry$Layer" "outputs" "I", Cond.methodLink RX0 50 yX0_needed, Cond.instanceMethod yX0_needed, Cond.selects RX0 yX0_needed yX0_needed, Cond.code yX0_needed cX0_needed 4 (some .int), Cond.methodLink RX0 39 yX0_weightOf, Cond.instanceMethod yX0_weightOf, Cond.selects RX0 yX0_weightOf yX0_weightOf, Cond.code yX0_weightOf cX0_weightOf 3 (some .int), Cond.fieldLink RX0 9 "Crossbarry$Layer" "weights" "[I", Cond.methodLink RX0 63 yX4_isMisfit, Cond.instanceMethod yX4_isMisfit, Cond.selects RX4 yX4_isMisfit yX4_isMisfit]
def wsX2_weigh_r2 : List Cond := [Cond.initialized RX4, Cond.code yX4_isMisfit cX4_isMisfit 5 (some .boolean), Cond.fieldLink RX4 25 "Crossbarry$Tile" "isKnown" "[Z", Cond.fieldLink RX4 9 "Crossbarry$Tile" "states" "[I", Cond.static yX5_indexOf, Cond.initialized RX5, Cond.code yX5_indexOf cX5_indexOf 2 (some .int)]
def wsX2_weigh : List Cond := .code yX2_weigh cX2_weigh 5 none :: ((wsX2_weigh_r1 ++ wsX2_weigh_r2) ++ wsX00 ++ wsX20 ++ wsX40)
def wsJ6_bitCount_0f7a4 : List Cond := .code yJ6_bitCount_0f7a4 cJ6_bitCount_0f7a4 1 (some .int) :: ([.constant RJ6 265 (1431655765), .constant RJ6 266 (858993459), .constant RJ6 267 (252645135)])
def wsX2_fewestWith : List Cond := .code yX2_fewestWith cX2_fewestWith 4 (some .int) :: ([.fieldLink RX2 9 "Crossbarry$Seating" "misfitTable" "[I", .fieldLink RX2 15 "Crossbarry$Seating" "fewest" "[I"] ++ wsX20)
def wsX2_fewestFrom : List Cond := .code yX2_fewestFrom cX2_fewestFrom 5 (some .int) :: ([.methodLink RX2 42 Lib.Math.min.name, .static Lib.Math.min.name, .initialized "java/lang/Math", .code Lib.Math.min.name Lib.Math.min.code 2 (some .int), .methodLink RX2 38 yX2_fewestWith, .instanceMethod yX2_fewestWith, .selects RX2 yX2_fewestWith yX2_fewestWith, .initialized RX2, .code yX2_fewestWith cX2_fewestWith 4 (some .int), .fieldLink RX2 9 "Crossbarry$Seating" "misfitTable" "[I", .fieldLink RX2 15 "Crossbarry$Seating" "fewest" "[I"] ++ wsX20)
def wsX2_fewestMisfits : List Cond := .code yX2_fewestMisfits cX2_fewestMisfits 4 (some .int) :: ([.fieldLink RX2 15 "Crossbarry$Seating" "fewest" "[I", .methodLink RX2 28 yJ6_bitCount_0f7a4, .static yJ6_bitCount_0f7a4, .initialized RJ6, .code yJ6_bitCount_0f7a4 cJ6_bitCount_0f7a4 1 (some .int), .constant RJ6 265 (1431655765), .constant RJ6 266 (858993459), .constant RJ6 267 (252645135), .methodLink RX2 34 yX2_fewestFrom, .instanceMethod yX2_fewestFrom, .selects RX2 yX2_fewestFrom yX2_fewestFrom, .initialized RX2, .code yX2_fewestFrom cX2_fewestFrom 5 (some .int), .methodLink RX2 42 Lib.Math.min.name, .static Lib.Math.min.name, .initialized "java/lang/Math", .code Lib.Math.min.name Lib.Math.min.code 2 (some .int), .methodLink RX2 38 yX2_fewestWith, .instanceMethod yX2_fewestWith, .selects RX2 yX2_fewestWith yX2_fewestWith, .code yX2_fewestWith cX2_fewestWith 4 (some .int), .fieldLink RX2 9 "Crossbarry$Seating" "misfitTable" "[I"] ++ wsX20)
def wsX2_lowestBestRow : List Cond := .code yX2_lowestBestRow cX2_lowestBestRow 4 (some .int) :: ([.fieldLink RX2 15 "Crossbarry$Seating" "fewest" "[I", .methodLink RX2 38 yX2_fewestWith, .instanceMethod yX2_fewestWith, .selects RX2 yX2_fewestWith yX2_fewestWith, .initialized RX2, .code yX2_fewestWith cX2_fewestWith 4 (some .int), .fieldLink RX2 9 "Crossbarry$Seating" "misfitTable" "[I"] ++ wsX20)
def wsX2_seat_r1 : List Cond := [Cond.fieldLink RX2 18 "Crossbarry$Layer" "inputs" "I", Cond.fieldLink RX2 53 "Crossbarry$Layer" "rows" "[I", Cond.methodLink RX2 47 yX2_fewestMisfits, Cond.instanceMethod yX2_fewestMisfits, Cond.selects RX2 yX2_fewestMisfits yX2_fewestMisfits, Cond.initialized RX2, Cond.code yX2_fewestMisfits cX2_fewestMisfits 4 (some .int), Cond.fieldLink RX2 15 "Crossbarry$Seating" "fewest" "[I", Cond.methodLink RX2 28 yJ6_bitCount_0f7a4, Cond.static yJ6_bitCount_0f7a4, Cond.initialized RJ6, Cond.code yJ6_bitCount_0f7a4 cJ6_bitCount_0f7a4 1 (some .int), Cond.constant RJ6 265 (1431655765), Cond.constant RJ6 266 (858993459), Cond.constant RJ6 267 (252645135), Cond.methodLink RX2 34 yX2_fewestFrom, Cond.instanceMethod yX2_fewestFrom, Cond.selects RX2 yX2_fewestFrom yX2_fewestFrom, Cond.code yX2_fewestFrom cX2_fewestFrom 5 (some .int), Cond.methodLink RX2 42 Lib.Math.min.name, Cond.static Lib.Math.min.name, Cond.initialized "java/lang/Math", Cond.code Lib.Math.min.name Lib.Math.min.code 2 (some .int), Cond.methodLink RX2 38 yX2_fewestWith]
def wsX2_seat_r2 : List Cond := [Cond.instanceMethod yX2_fewestWith, Cond.selects RX2 yX2_fewestWith yX2_fewestWith, Cond.code yX2_fewestWith cX2_fewestWith 4 (some .int), Cond.fieldLink RX2 9 "Crossbarry$Seating" "misfitTable" "[I", Cond.methodLink RX2 50 yX2_lowestBestRow, Cond.instanceMethod yX2_lowestBestRow, Cond.selects RX2 yX2_lowestBestRow yX2_lowestBestRow, Cond.code yX2_lowestBestRow cX2_lowestBestRow 4 (some .int)]
def wsX2_seat : List Cond := .code yX2_seat cX2_seat 5 none :: ((wsX2_seat_r1 ++ wsX2_seat_r2) ++ wsX00 ++ wsX20)
def wsX2_misfitsOfWay : List Cond := .code yX2_misfitsOfWay cX2_misfitsOfWay 7 (some .int) :: ([.fieldLink RX2 9 "Crossbarry$Seating" "misfitTable" "[I"] ++ wsX20)
def wsX2_fewestOfAllWays : List Cond := .code yX2_fewestOfAllWays cX2_fewestOfAllWays 5 (some .int) :: ([.methodLink RX2 42 Lib.Math.min.name, .static Lib.Math.min.name, .initialized "java/lang/Math", .code Lib.Math.min.name Lib.Math.min.code 2 (some .int), .methodLink RX2 56 yX2_misfitsOfWay, .instanceMethod yX2_misfitsOfWay, .selects RX2 yX2_misfitsOfWay yX2_misfitsOfWay, .initialized RX2, .code yX2_misfitsOfWay cX2_misfitsOfWay 7 (some .int), .fieldLink RX2 9 "Crossbarry$Seating" "misfitTable" "[I"] ++ wsX20)
def wsX3_init : List Cond := .code yX3_init cX3_init 1 none :: ([.methodLink RX3 1 objectInit, .instanceMethod objectInit, .code objectInit ⟨#[0xb1]⟩ 1 none, .fieldLink RX3 7 "Crossbarry$Setting" "now" "I", .fieldLink RX3 13 "Crossbarry$Setting" "driftHours" "I", .fieldLink RX3 16 "Crossbarry$Setting" "mostWear" "I"] ++ wsX30)
def wsX4_init : List Cond := .code yX4_init cX4_init 2 none :: ([.methodLink RX4 3 objectInit, .instanceMethod objectInit, .code objectInit ⟨#[0xb1]⟩ 1 none, .arrayClass .int, .fieldLink RX4 9 "Crossbarry$Tile" "states" "[I", .fieldLink RX4 15 "Crossbarry$Tile" "wears" "[I", .fieldLink RX4 18 "Crossbarry$Tile" "hours" "[I", .arrayClass .boolean, .fieldLink RX4 21 "Crossbarry$Tile" "isStuck" "[Z", .fieldLink RX4 25 "Crossbarry$Tile" "isKnown" "[Z", .fieldLink RX4 28 "Crossbarry$Tile" "offsets" "[I", .fieldLink RX4 31 "Crossbarry$Tile" "readStep" "I", .fieldLink RX4 35 "Crossbarry$Tile" "readTop" "I", .fieldLink RX4 38 "Crossbarry$Tile" "isCalibrated" "Z", .fieldLink RX4 42 "Crossbarry$Tile" "converterCount" "I", .fieldLink RX4 45 "Crossbarry$Tile" "isTaken" "Z", .fieldLink RX4 48 "Crossbarry$Tile" "number" "I"] ++ wsX40)
def wsX4_becomesStuck : List Cond := .code yX4_becomesStuck cX4_becomesStuck 5 (some .boolean) :: ([.fieldLink RX4 21 "Crossbarry$Tile" "isStuck" "[Z", .fieldLink RX4 9 "Crossbarry$Tile" "states" "[I", .static yX5_indexOf, .initialized RX5, .code yX5_indexOf cX5_indexOf 2 (some .int)] ++ wsX40)
def wsX5_init_r1 : List Cond := [Cond.methodLink RX5 3 objectInit, Cond.instanceMethod objectInit, Cond.code objectInit ⟨#[0xb1]⟩ 1 none, Cond.classLink RX5 9 RX3, Cond.instantiable RX3 3, Cond.initialized RX3, Cond.fieldLink RX5 12 "Crossbarry" "setting" "LCrossbarry$Setting;", Cond.classLink RX5 16 RX4, Cond.fieldLink RX5 18 "Crossbarry" "tiles" "[LCrossbarry$Tile;", Cond.classLink RX5 22 RX0, Cond.fieldLink RX5 24 "Crossbarry" "layers" "[LCrossbarry$Layer;", Cond.classLink RX5 28 RX2, Cond.instantiable RX2 2, Cond.initialized RX2, Cond.fieldLink RX5 31 "Crossbarry" "seating" "LCrossbarry$Seating;", Cond.classLink RX5 35 RX1, Cond.instantiable RX1 3, Cond.initialized RX1, Cond.fieldLink RX5 38 "Crossbarry" "pipeline" "LCrossbarry$Pipeline;", Cond.fieldLink RX5 42 "Crossbarry" "layerCount" "I", Cond.instantiable RX4 12, Cond.initialized RX4, Cond.instanceMethod yX3_init, Cond.code yX3_init cX3_init 1 none]
def wsX5_init_r2 : List Cond := [Cond.methodLink RX3 1 objectInit, Cond.fieldLink RX3 7 "Crossbarry$Setting" "now" "I", Cond.fieldLink RX3 13 "Crossbarry$Setting" "driftHours" "I", Cond.fieldLink RX3 16 "Crossbarry$Setting" "mostWear" "I", Cond.instanceMethod yX2_init, Cond.code yX2_init cX2_init 1 none, Cond.methodLink RX2 3 objectInit, Cond.arrayClass .int, Cond.fieldLink RX2 9 "Crossbarry$Seating" "misfitTable" "[I", Cond.fieldLink RX2 15 "Crossbarry$Seating" "fewest" "[I", Cond.instanceMethod yX1_init, Cond.code yX1_init cX1_init 1 none, Cond.methodLink RX1 3 objectInit, Cond.fieldLink RX1 9 "Crossbarry$Pipeline" "takes" "[I", Cond.fieldLink RX1 15 "Crossbarry$Pipeline" "left" "[I", Cond.fieldLink RX1 18 "Crossbarry$Pipeline" "stages" "I", Cond.methodLink RX5 46 yX4_init, Cond.instanceMethod yX4_init, Cond.code yX4_init cX4_init 2 none, Cond.methodLink RX4 3 objectInit, Cond.fieldLink RX4 9 "Crossbarry$Tile" "states" "[I", Cond.fieldLink RX4 15 "Crossbarry$Tile" "wears" "[I", Cond.fieldLink RX4 18 "Crossbarry$Tile" "hours" "[I", Cond.arrayClass .boolean]
def wsX5_init_r3 : List Cond := [Cond.fieldLink RX4 21 "Crossbarry$Tile" "isStuck" "[Z", Cond.fieldLink RX4 25 "Crossbarry$Tile" "isKnown" "[Z", Cond.fieldLink RX4 28 "Crossbarry$Tile" "offsets" "[I", Cond.fieldLink RX4 31 "Crossbarry$Tile" "readStep" "I", Cond.fieldLink RX4 35 "Crossbarry$Tile" "readTop" "I", Cond.fieldLink RX4 38 "Crossbarry$Tile" "isCalibrated" "Z", Cond.fieldLink RX4 42 "Crossbarry$Tile" "converterCount" "I", Cond.fieldLink RX4 45 "Crossbarry$Tile" "isTaken" "Z", Cond.fieldLink RX4 48 "Crossbarry$Tile" "number" "I"]
def wsX5_init : List Cond := .code yX5_init cX5_init 2 none :: ((wsX5_init_r1 ++ (wsX5_init_r2 ++ wsX5_init_r3)) ++ wsX30 ++ wsX50 ++ wsX20 ++ wsX10 ++ wsX40)
def wsX5_checkArgument : List Cond := .code yX5_checkArgument cX5_checkArgument 3 none :: ([.classLink RX5 90 "java/lang/IllegalArgumentException", .initialized "java/lang/IllegalArgumentException"] ++ (vx_atS RX5 94 "java/lang/IllegalArgumentException" ["java/lang/RuntimeException", "java/lang/Exception"]).filter goodWord)
def wsX5_layer_r1 : List Cond := [Cond.classLink RX5 53 "java/lang/IllegalStateException", Cond.initialized "java/lang/IllegalStateException", Cond.fieldLink RX5 42 "Crossbarry" "layerCount" "I", Cond.fieldLink RX5 24 "Crossbarry" "layers" "[LCrossbarry$Layer;", Cond.classLink RX5 22 RX0, Cond.instantiable RX0 8, Cond.initialized RX0, Cond.methodLink RX5 49 yX5_checkArgument, Cond.static yX5_checkArgument, Cond.initialized RX5, Cond.code yX5_checkArgument cX5_checkArgument 3 none, Cond.classLink RX5 90 "java/lang/IllegalArgumentException", Cond.initialized "java/lang/IllegalArgumentException", Cond.methodLink RX5 60 yX0_init, Cond.instanceMethod yX0_init, Cond.code yX0_init cX0_init 4 none, Cond.methodLink RX0 3 objectInit, Cond.instanceMethod objectInit, Cond.code objectInit ⟨#[0xb1]⟩ 1 none, Cond.arrayClass .int, Cond.fieldLink RX0 9 "Crossbarry$Layer" "weights" "[I", Cond.fieldLink RX0 15 "Crossbarry$Layer" "rows" "[I", Cond.fieldLink RX0 18 "Crossbarry$Layer" "shiftBy" "I", Cond.fieldLink RX0 22 "Crossbarry$Layer" "nextLayer" "LCrossbarry$Layer;"]
def wsX5_layer_r2 : List Cond := [Cond.fieldLink RX0 26 "Crossbarry$Layer" "ground" "LCrossbarry$Tile;", Cond.fieldLink RX0 30 "Crossbarry$Layer" "number" "I", Cond.fieldLink RX0 33 "Crossbarry$Layer" "inputs" "I", Cond.fieldLink RX0 36 "Crossbarry$Layer" "outputs" "I"]
def wsX5_layer : List Cond := .code yX5_layer cX5_layer 3 (some .int) :: ((wsX5_layer_r1 ++ wsX5_layer_r2) ++ wsX50 ++ wsX00 ++ (vx_atS RX5 57 "java/lang/IllegalStateException" ["java/lang/RuntimeException", "java/lang/Exception"]).filter goodWord ++ (vx_atS RX5 94 "java/lang/IllegalArgumentException" ["java/lang/RuntimeException", "java/lang/Exception"]).filter goodWord)
def wsX5_layerAt : List Cond := .code yX5_layerAt cX5_layerAt 2 (some (.object "Crossbarry$Layer")) :: ([.classLink RX5 241 "java/lang/IndexOutOfBoundsException", .initialized "java/lang/IndexOutOfBoundsException", .fieldLink RX5 24 "Crossbarry" "layers" "[LCrossbarry$Layer;"] ++ wsX50 ++ (vx_atS RX5 245 "java/lang/IndexOutOfBoundsException" ["java/lang/RuntimeException", "java/lang/Exception"]).filter goodWord)
def wsX5_checkIndex : List Cond := .code yX5_checkIndex cX5_checkIndex 2 none :: ([.classLink RX5 241 "java/lang/IndexOutOfBoundsException", .initialized "java/lang/IndexOutOfBoundsException"] ++ (vx_atS RX5 245 "java/lang/IndexOutOfBoundsException" ["java/lang/RuntimeException", "java/lang/Exception"]).filter goodWord)
def wsX5_weight_r1 : List Cond := [Cond.fieldLink RX5 66 "Crossbarry$Layer" "inputs" "I", Cond.fieldLink RX5 73 "Crossbarry$Layer" "outputs" "I", Cond.methodLink RX5 62 yX5_layerAt, Cond.instanceMethod yX5_layerAt, Cond.selects RX5 yX5_layerAt yX5_layerAt, Cond.initialized RX5, Cond.code yX5_layerAt cX5_layerAt 2 (some (.object "Crossbarry$Layer")), Cond.classLink RX5 241 "java/lang/IndexOutOfBoundsException", Cond.initialized "java/lang/IndexOutOfBoundsException", Cond.fieldLink RX5 24 "Crossbarry" "layers" "[LCrossbarry$Layer;", Cond.methodLink RX5 69 yX5_checkIndex, Cond.static yX5_checkIndex, Cond.code yX5_checkIndex cX5_checkIndex 2 none, Cond.methodLink RX5 49 yX5_checkArgument, Cond.static yX5_checkArgument, Cond.code yX5_checkArgument cX5_checkArgument 3 none, Cond.classLink RX5 90 "java/lang/IllegalArgumentException", Cond.initialized "java/lang/IllegalArgumentException", Cond.methodLink RX5 76 yX0_weightOf, Cond.instanceMethod yX0_weightOf, Cond.selects RX0 yX0_weightOf yX0_weightOf, Cond.initialized RX0, Cond.code yX0_weightOf cX0_weightOf 3 (some .int), Cond.fieldLink RX0 9 "Crossbarry$Layer" "weights" "[I"]
def wsX5_weight_r2 : List Cond := [Cond.methodLink RX5 80 yX0_tellWeight, Cond.instanceMethod yX0_tellWeight, Cond.selects RX0 yX0_tellWeight yX0_tellWeight, Cond.code yX0_tellWeight cX0_tellWeight 4 none]
def wsX5_weight : List Cond := .code yX5_weight cX5_weight 7 (some .int) :: ((wsX5_weight_r1 ++ wsX5_weight_r2) ++ wsX00 ++ wsX50 ++ (vx_atS RX5 245 "java/lang/IndexOutOfBoundsException" ["java/lang/RuntimeException", "java/lang/Exception"]).filter goodWord ++ (vx_atS RX5 94 "java/lang/IllegalArgumentException" ["java/lang/RuntimeException", "java/lang/Exception"]).filter goodWord)
def wsX5_shift : List Cond := .code yX5_shift cX5_shift 5 (some .int) :: ([.fieldLink RX5 83 "Crossbarry$Layer" "shiftBy" "I", .methodLink RX5 62 yX5_layerAt, .instanceMethod yX5_layerAt, .selects RX5 yX5_layerAt yX5_layerAt, .initialized RX5, .code yX5_layerAt cX5_layerAt 2 (some (.object "Crossbarry$Layer")), .classLink RX5 241 "java/lang/IndexOutOfBoundsException", .initialized "java/lang/IndexOutOfBoundsException", .fieldLink RX5 24 "Crossbarry" "layers" "[LCrossbarry$Layer;", .methodLink RX5 49 yX5_checkArgument, .static yX5_checkArgument, .code yX5_checkArgument cX5_checkArgument 3 none, .classLink RX5 90 "java/lang/IllegalArgumentException", .initialized "java/lang/IllegalArgumentException"] ++ wsX00 ++ wsX50 ++ (vx_atS RX5 245 "java/lang/IndexOutOfBoundsException" ["java/lang/RuntimeException", "java/lang/Exception"]).filter goodWord ++ (vx_atS RX5 94 "java/lang/IllegalArgumentException" ["java/lang/RuntimeException", "java/lang/Exception"]).filter goodWord)
def wsX5_next : List Cond := .code yX5_next cX5_next 6 (some .int) :: ([.classLink RX5 90 "java/lang/IllegalArgumentException", .initialized "java/lang/IllegalArgumentException", .fieldLink RX5 95 "Crossbarry$Layer" "nextLayer" "LCrossbarry$Layer;", .fieldLink RX5 99 "Crossbarry$Layer" "number" "I", .methodLink RX5 62 yX5_layerAt, .instanceMethod yX5_layerAt, .selects RX5 yX5_layerAt yX5_layerAt, .initialized RX5, .code yX5_layerAt cX5_layerAt 2 (some (.object "Crossbarry$Layer")), .classLink RX5 241 "java/lang/IndexOutOfBoundsException", .initialized "java/lang/IndexOutOfBoundsException", .fieldLink RX5 24 "Crossbarry" "layers" "[LCrossbarry$Layer;", .methodLink RX5 86 yX0_canGoOnTo, .instanceMethod yX0_canGoOnTo, .selects RX0 yX0_canGoOnTo yX0_canGoOnTo, .initialized RX0, .code yX0_canGoOnTo cX0_canGoOnTo 2 (some .boolean), .fieldLink RX0 30 "Crossbarry$Layer" "number" "I", .fieldLink RX0 33 "Crossbarry$Layer" "inputs" "I", .fieldLink RX0 36 "Crossbarry$Layer" "outputs" "I"] ++ wsX00 ++ wsX50 ++ (vx_atS RX5 94 "java/lang/IllegalArgumentException" ["java/lang/RuntimeException", "java/lang/Exception"]).filter goodWord ++ (vx_atS RX5 245 "java/lang/IndexOutOfBoundsException" ["java/lang/RuntimeException", "java/lang/Exception"]).filter goodWord)
def wsX5_tileAt : List Cond := .code yX5_tileAt cX5_tileAt 2 (some (.object "Crossbarry$Tile")) :: ([.classLink RX5 241 "java/lang/IndexOutOfBoundsException", .initialized "java/lang/IndexOutOfBoundsException", .fieldLink RX5 18 "Crossbarry" "tiles" "[LCrossbarry$Tile;"] ++ wsX50 ++ (vx_atS RX5 245 "java/lang/IndexOutOfBoundsException" ["java/lang/RuntimeException", "java/lang/Exception"]).filter goodWord)
def wsX5_place_r1 : List Cond := [Cond.classLink RX5 53 "java/lang/IllegalStateException", Cond.initialized "java/lang/IllegalStateException", Cond.fieldLink RX5 106 "Crossbarry$Layer" "ground" "LCrossbarry$Tile;", Cond.fieldLink RX5 110 "Crossbarry$Tile" "isTaken" "Z", Cond.fieldLink RX5 31 "Crossbarry" "seating" "LCrossbarry$Seating;", Cond.fieldLink RX5 12 "Crossbarry" "setting" "LCrossbarry$Setting;", Cond.methodLink RX5 62 yX5_layerAt, Cond.instanceMethod yX5_layerAt, Cond.selects RX5 yX5_layerAt yX5_layerAt, Cond.initialized RX5, Cond.code yX5_layerAt cX5_layerAt 2 (some (.object "Crossbarry$Layer")), Cond.classLink RX5 241 "java/lang/IndexOutOfBoundsException", Cond.initialized "java/lang/IndexOutOfBoundsException", Cond.fieldLink RX5 24 "Crossbarry" "layers" "[LCrossbarry$Layer;", Cond.methodLink RX5 102 yX5_tileAt, Cond.instanceMethod yX5_tileAt, Cond.selects RX5 yX5_tileAt yX5_tileAt, Cond.code yX5_tileAt cX5_tileAt 2 (some (.object "Crossbarry$Tile")), Cond.fieldLink RX5 18 "Crossbarry" "tiles" "[LCrossbarry$Tile;", Cond.methodLink RX5 116 yX2_weigh, Cond.instanceMethod yX2_weigh, Cond.selects RX2 yX2_weigh yX2_weigh, Cond.initialized RX2, Cond.code yX2_weigh cX2_weigh 5 none]
def wsX5_place_r2 : List Cond := [Cond.fieldLink RX2 18 "Crossbarry$Layer" "inputs" "I", Cond.fieldLink RX2 9 "Crossbarry$Seating" "misfitTable" "[I", Cond.methodLink RX2 24 yX0_misfitsIn, Cond.instanceMethod yX0_misfitsIn, Cond.selects RX0 yX0_misfitsIn yX0_misfitsIn, Cond.initialized RX0, Cond.code yX0_misfitsIn cX0_misfitsIn 6 (some .int), Cond.methodLink RX0 46 yX0_columns, Cond.instanceMethod yX0_columns, Cond.selects RX0 yX0_columns yX0_columns, Cond.code yX0_columns cX0_columns 1 (some .int), Cond.fieldLink RX0 36 "Crossbarry$Layer" "outputs" "I", Cond.methodLink RX0 50 yX0_needed, Cond.instanceMethod yX0_needed, Cond.selects RX0 yX0_needed yX0_needed, Cond.code yX0_needed cX0_needed 4 (some .int), Cond.methodLink RX0 39 yX0_weightOf, Cond.instanceMethod yX0_weightOf, Cond.selects RX0 yX0_weightOf yX0_weightOf, Cond.code yX0_weightOf cX0_weightOf 3 (some .int), Cond.fieldLink RX0 9 "Crossbarry$Layer" "weights" "[I", Cond.methodLink RX0 63 yX4_isMisfit, Cond.instanceMethod yX4_isMisfit, Cond.selects RX4 yX4_isMisfit yX4_isMisfit]
def wsX5_place_r3 : List Cond := [Cond.initialized RX4, Cond.code yX4_isMisfit cX4_isMisfit 5 (some .boolean), Cond.fieldLink RX4 25 "Crossbarry$Tile" "isKnown" "[Z", Cond.fieldLink RX4 9 "Crossbarry$Tile" "states" "[I", Cond.static yX5_indexOf, Cond.code yX5_indexOf cX5_indexOf 2 (some .int), Cond.methodLink RX5 120 yX2_seat, Cond.instanceMethod yX2_seat, Cond.selects RX2 yX2_seat yX2_seat, Cond.code yX2_seat cX2_seat 5 none, Cond.fieldLink RX2 53 "Crossbarry$Layer" "rows" "[I", Cond.methodLink RX2 47 yX2_fewestMisfits, Cond.instanceMethod yX2_fewestMisfits, Cond.selects RX2 yX2_fewestMisfits yX2_fewestMisfits, Cond.code yX2_fewestMisfits cX2_fewestMisfits 4 (some .int), Cond.fieldLink RX2 15 "Crossbarry$Seating" "fewest" "[I", Cond.methodLink RX2 28 yJ6_bitCount_0f7a4, Cond.static yJ6_bitCount_0f7a4, Cond.initialized RJ6, Cond.code yJ6_bitCount_0f7a4 cJ6_bitCount_0f7a4 1 (some .int), Cond.constant RJ6 265 (1431655765), Cond.constant RJ6 266 (858993459), Cond.constant RJ6 267 (252645135), Cond.methodLink RX2 34 yX2_fewestFrom]
def wsX5_place_r4 : List Cond := [Cond.instanceMethod yX2_fewestFrom, Cond.selects RX2 yX2_fewestFrom yX2_fewestFrom, Cond.code yX2_fewestFrom cX2_fewestFrom 5 (some .int), Cond.methodLink RX2 42 Lib.Math.min.name, Cond.static Lib.Math.min.name, Cond.initialized "java/lang/Math", Cond.code Lib.Math.min.name Lib.Math.min.code 2 (some .int), Cond.methodLink RX2 38 yX2_fewestWith, Cond.instanceMethod yX2_fewestWith, Cond.selects RX2 yX2_fewestWith yX2_fewestWith, Cond.code yX2_fewestWith cX2_fewestWith 4 (some .int), Cond.methodLink RX2 50 yX2_lowestBestRow, Cond.instanceMethod yX2_lowestBestRow, Cond.selects RX2 yX2_lowestBestRow yX2_lowestBestRow, Cond.code yX2_lowestBestRow cX2_lowestBestRow 4 (some .int), Cond.methodLink RX5 124 yX0_writeOn, Cond.instanceMethod yX0_writeOn, Cond.selects RX0 yX0_writeOn yX0_writeOn, Cond.code yX0_writeOn cX0_writeOn 6 (some .int), Cond.fieldLink RX0 33 "Crossbarry$Layer" "inputs" "I", Cond.fieldLink RX0 15 "Crossbarry$Layer" "rows" "[I", Cond.methodLink RX0 53 yX4_failsToWrite, Cond.instanceMethod yX4_failsToWrite, Cond.selects RX4 yX4_failsToWrite yX4_failsToWrite]
def wsX5_place_r5 : List Cond := [Cond.code yX4_failsToWrite cX4_failsToWrite 7 (some .boolean), Cond.fieldLink RX4 21 "Crossbarry$Tile" "isStuck" "[Z", Cond.fieldLink RX4 18 "Crossbarry$Tile" "hours" "[I", Cond.fieldLink RX4 60 "Crossbarry$Setting" "now" "I", Cond.fieldLink RX4 75 "Crossbarry$Setting" "mostWear" "I", Cond.methodLink RX4 71 yX4_conducted, Cond.instanceMethod yX4_conducted, Cond.selects RX4 yX4_conducted yX4_conducted, Cond.code yX4_conducted cX4_conducted 6 (some .int), Cond.fieldLink RX4 55 "Crossbarry$Setting" "driftHours" "I", Cond.methodLink RX4 66 Lib.Math.max.name, Cond.static Lib.Math.max.name, Cond.code Lib.Math.max.name Lib.Math.max.code 2 (some .int), Cond.static yX5_quotient, Cond.code yX5_quotient cX5_quotient 2 (some .int), Cond.methodLink RX4 78 yX4_givePulse, Cond.instanceMethod yX4_givePulse, Cond.selects RX4 yX4_givePulse yX4_givePulse, Cond.code yX4_givePulse cX4_givePulse 4 none, Cond.fieldLink RX4 15 "Crossbarry$Tile" "wears" "[I"]
def wsX5_place : List Cond := .code yX5_place cX5_place 5 (some .int) :: ((wsX5_place_r1 ++ (wsX5_place_r2 ++ (wsX5_place_r3 ++ (wsX5_place_r4 ++ wsX5_place_r5)))) ++ wsX00 ++ wsX40 ++ wsX50 ++ wsX20 ++ wsX30 ++ (vx_atS RX5 57 "java/lang/IllegalStateException" ["java/lang/RuntimeException", "java/lang/Exception"]).filter goodWord ++ (vx_atS RX5 245 "java/lang/IndexOutOfBoundsException" ["java/lang/RuntimeException", "java/lang/Exception"]).filter goodWord)
def wsX5_groundOf : List Cond := .code yX5_groundOf cX5_groundOf 1 (some (.object "Crossbarry$Tile")) :: ([.classLink RX5 53 "java/lang/IllegalStateException", .initialized "java/lang/IllegalStateException", .fieldLink RX5 106 "Crossbarry$Layer" "ground" "LCrossbarry$Tile;"] ++ wsX00 ++ (vx_atS RX5 57 "java/lang/IllegalStateException" ["java/lang/RuntimeException", "java/lang/Exception"]).filter goodWord)
def wsX5_load_r1 : List Cond := [Cond.fieldLink RX5 12 "Crossbarry" "setting" "LCrossbarry$Setting;", Cond.methodLink RX5 62 yX5_layerAt, Cond.instanceMethod yX5_layerAt, Cond.selects RX5 yX5_layerAt yX5_layerAt, Cond.initialized RX5, Cond.code yX5_layerAt cX5_layerAt 2 (some (.object "Crossbarry$Layer")), Cond.classLink RX5 241 "java/lang/IndexOutOfBoundsException", Cond.initialized "java/lang/IndexOutOfBoundsException", Cond.fieldLink RX5 24 "Crossbarry" "layers" "[LCrossbarry$Layer;", Cond.methodLink RX5 128 yX5_groundOf, Cond.static yX5_groundOf, Cond.code yX5_groundOf cX5_groundOf 1 (some (.object "Crossbarry$Tile")), Cond.classLink RX5 53 "java/lang/IllegalStateException", Cond.initialized "java/lang/IllegalStateException", Cond.fieldLink RX5 106 "Crossbarry$Layer" "ground" "LCrossbarry$Tile;", Cond.methodLink RX5 124 yX0_writeOn, Cond.instanceMethod yX0_writeOn, Cond.selects RX0 yX0_writeOn yX0_writeOn, Cond.initialized RX0, Cond.code yX0_writeOn cX0_writeOn 6 (some .int), Cond.fieldLink RX0 33 "Crossbarry$Layer" "inputs" "I", Cond.fieldLink RX0 15 "Crossbarry$Layer" "rows" "[I", Cond.methodLink RX0 46 yX0_columns, Cond.instanceMethod yX0_columns]
def wsX5_load_r2 : List Cond := [Cond.selects RX0 yX0_columns yX0_columns, Cond.code yX0_columns cX0_columns 1 (some .int), Cond.fieldLink RX0 36 "Crossbarry$Layer" "outputs" "I", Cond.methodLink RX0 50 yX0_needed, Cond.instanceMethod yX0_needed, Cond.selects RX0 yX0_needed yX0_needed, Cond.code yX0_needed cX0_needed 4 (some .int), Cond.methodLink RX0 39 yX0_weightOf, Cond.instanceMethod yX0_weightOf, Cond.selects RX0 yX0_weightOf yX0_weightOf, Cond.code yX0_weightOf cX0_weightOf 3 (some .int), Cond.fieldLink RX0 9 "Crossbarry$Layer" "weights" "[I", Cond.methodLink RX0 53 yX4_failsToWrite, Cond.instanceMethod yX4_failsToWrite, Cond.selects RX4 yX4_failsToWrite yX4_failsToWrite, Cond.initialized RX4, Cond.code yX4_failsToWrite cX4_failsToWrite 7 (some .boolean), Cond.fieldLink RX4 21 "Crossbarry$Tile" "isStuck" "[Z", Cond.fieldLink RX4 9 "Crossbarry$Tile" "states" "[I", Cond.fieldLink RX4 18 "Crossbarry$Tile" "hours" "[I", Cond.fieldLink RX4 60 "Crossbarry$Setting" "now" "I", Cond.fieldLink RX4 75 "Crossbarry$Setting" "mostWear" "I", Cond.fieldLink RX4 25 "Crossbarry$Tile" "isKnown" "[Z", Cond.static yX5_indexOf]
def wsX5_load_r3 : List Cond := [Cond.code yX5_indexOf cX5_indexOf 2 (some .int), Cond.methodLink RX4 71 yX4_conducted, Cond.instanceMethod yX4_conducted, Cond.selects RX4 yX4_conducted yX4_conducted, Cond.code yX4_conducted cX4_conducted 6 (some .int), Cond.fieldLink RX4 55 "Crossbarry$Setting" "driftHours" "I", Cond.methodLink RX4 66 Lib.Math.max.name, Cond.static Lib.Math.max.name, Cond.initialized "java/lang/Math", Cond.code Lib.Math.max.name Lib.Math.max.code 2 (some .int), Cond.static yX5_quotient, Cond.code yX5_quotient cX5_quotient 2 (some .int), Cond.methodLink RX4 78 yX4_givePulse, Cond.instanceMethod yX4_givePulse, Cond.selects RX4 yX4_givePulse yX4_givePulse, Cond.code yX4_givePulse cX4_givePulse 4 none, Cond.fieldLink RX4 15 "Crossbarry$Tile" "wears" "[I"]
def wsX5_load : List Cond := .code yX5_load cX5_load 3 (some .int) :: ((wsX5_load_r1 ++ (wsX5_load_r2 ++ wsX5_load_r3)) ++ wsX50 ++ wsX00 ++ wsX40 ++ wsX30 ++ (vx_atS RX5 245 "java/lang/IndexOutOfBoundsException" ["java/lang/RuntimeException", "java/lang/Exception"]).filter goodWord ++ (vx_atS RX5 57 "java/lang/IllegalStateException" ["java/lang/RuntimeException", "java/lang/Exception"]).filter goodWord)
def wsX5_lift : List Cond := .code yX5_lift cX5_lift 4 (some .int) :: ([.fieldLink RX5 106 "Crossbarry$Layer" "ground" "LCrossbarry$Tile;", .fieldLink RX5 110 "Crossbarry$Tile" "isTaken" "Z", .fieldLink RX5 132 "Crossbarry$Tile" "number" "I", .methodLink RX5 62 yX5_layerAt, .instanceMethod yX5_layerAt, .selects RX5 yX5_layerAt yX5_layerAt, .initialized RX5, .code yX5_layerAt cX5_layerAt 2 (some (.object "Crossbarry$Layer")), .classLink RX5 241 "java/lang/IndexOutOfBoundsException", .initialized "java/lang/IndexOutOfBoundsException", .fieldLink RX5 24 "Crossbarry" "layers" "[LCrossbarry$Layer;", .methodLink RX5 128 yX5_groundOf, .static yX5_groundOf, .code yX5_groundOf cX5_groundOf 1 (some (.object "Crossbarry$Tile")), .classLink RX5 53 "java/lang/IllegalStateException", .initialized "java/lang/IllegalStateException"] ++ wsX00 ++ wsX40 ++ wsX50 ++ (vx_atS RX5 245 "java/lang/IndexOutOfBoundsException" ["java/lang/RuntimeException", "java/lang/Exception"]).filter goodWord ++ (vx_atS RX5 57 "java/lang/IllegalStateException" ["java/lang/RuntimeException", "java/lang/Exception"]).filter goodWord)
def wsX5_stick_r1 : List Cond := [Cond.classLink RX5 53 "java/lang/IllegalStateException", Cond.initialized "java/lang/IllegalStateException", Cond.methodLink RX5 102 yX5_tileAt, Cond.instanceMethod yX5_tileAt, Cond.selects RX5 yX5_tileAt yX5_tileAt, Cond.initialized RX5, Cond.code yX5_tileAt cX5_tileAt 2 (some (.object "Crossbarry$Tile")), Cond.classLink RX5 241 "java/lang/IndexOutOfBoundsException", Cond.initialized "java/lang/IndexOutOfBoundsException", Cond.fieldLink RX5 18 "Crossbarry" "tiles" "[LCrossbarry$Tile;", Cond.methodLink RX5 69 yX5_checkIndex, Cond.static yX5_checkIndex, Cond.code yX5_checkIndex cX5_checkIndex 2 none, Cond.methodLink RX5 49 yX5_checkArgument, Cond.static yX5_checkArgument, Cond.code yX5_checkArgument cX5_checkArgument 3 none, Cond.classLink RX5 90 "java/lang/IllegalArgumentException", Cond.initialized "java/lang/IllegalArgumentException", Cond.methodLink RX5 133 yX4_becomesStuck, Cond.instanceMethod yX4_becomesStuck, Cond.selects RX4 yX4_becomesStuck yX4_becomesStuck, Cond.initialized RX4, Cond.code yX4_becomesStuck cX4_becomesStuck 5 (some .boolean), Cond.fieldLink RX4 21 "Crossbarry$Tile" "isStuck" "[Z"]
def wsX5_stick_r2 : List Cond := [Cond.fieldLink RX4 9 "Crossbarry$Tile" "states" "[I", Cond.static yX5_indexOf, Cond.code yX5_indexOf cX5_indexOf 2 (some .int)]
def wsX5_stick : List Cond := .code yX5_stick cX5_stick 6 none :: ((wsX5_stick_r1 ++ wsX5_stick_r2) ++ wsX50 ++ wsX40 ++ (vx_atS RX5 57 "java/lang/IllegalStateException" ["java/lang/RuntimeException", "java/lang/Exception"]).filter goodWord ++ (vx_atS RX5 245 "java/lang/IndexOutOfBoundsException" ["java/lang/RuntimeException", "java/lang/Exception"]).filter goodWord ++ (vx_atS RX5 94 "java/lang/IllegalArgumentException" ["java/lang/RuntimeException", "java/lang/Exception"]).filter goodWord)
def wsX5_drawBehind : List Cond := .code yX5_drawBehind cX5_drawBehind 1 (some .int) :: ([.constant RX5 254 (65536)])
def wsX5_spoil_r1 : List Cond := [Cond.constant RX5 139 (65535), Cond.methodLink RX5 102 yX5_tileAt, Cond.instanceMethod yX5_tileAt, Cond.selects RX5 yX5_tileAt yX5_tileAt, Cond.initialized RX5, Cond.code yX5_tileAt cX5_tileAt 2 (some (.object "Crossbarry$Tile")), Cond.classLink RX5 241 "java/lang/IndexOutOfBoundsException", Cond.initialized "java/lang/IndexOutOfBoundsException", Cond.fieldLink RX5 18 "Crossbarry" "tiles" "[LCrossbarry$Tile;", Cond.methodLink RX5 49 yX5_checkArgument, Cond.static yX5_checkArgument, Cond.code yX5_checkArgument cX5_checkArgument 3 none, Cond.classLink RX5 90 "java/lang/IllegalArgumentException", Cond.initialized "java/lang/IllegalArgumentException", Cond.methodLink RX5 140 yX5_drawBehind, Cond.static yX5_drawBehind, Cond.code yX5_drawBehind cX5_drawBehind 1 (some .int), Cond.constant RX5 254 (65536), Cond.methodLink RX5 133 yX4_becomesStuck, Cond.instanceMethod yX4_becomesStuck, Cond.selects RX4 yX4_becomesStuck yX4_becomesStuck, Cond.initialized RX4, Cond.code yX4_becomesStuck cX4_becomesStuck 5 (some .boolean), Cond.fieldLink RX4 21 "Crossbarry$Tile" "isStuck" "[Z"]
def wsX5_spoil_r2 : List Cond := [Cond.fieldLink RX4 9 "Crossbarry$Tile" "states" "[I", Cond.static yX5_indexOf, Cond.code yX5_indexOf cX5_indexOf 2 (some .int)]
def wsX5_spoil : List Cond := .code yX5_spoil cX5_spoil 9 (some .int) :: ((wsX5_spoil_r1 ++ wsX5_spoil_r2) ++ wsX50 ++ wsX40 ++ (vx_atS RX5 245 "java/lang/IndexOutOfBoundsException" ["java/lang/RuntimeException", "java/lang/Exception"]).filter goodWord ++ (vx_atS RX5 94 "java/lang/IllegalArgumentException" ["java/lang/RuntimeException", "java/lang/Exception"]).filter goodWord)
def wsX5_drift : List Cond := .code yX5_drift cX5_drift 3 (some .int) :: ([.fieldLink RX5 12 "Crossbarry" "setting" "LCrossbarry$Setting;", .fieldLink RX5 144 "Crossbarry$Setting" "driftHours" "I", .methodLink RX5 49 yX5_checkArgument, .static yX5_checkArgument, .initialized RX5, .code yX5_checkArgument cX5_checkArgument 3 none, .classLink RX5 90 "java/lang/IllegalArgumentException", .initialized "java/lang/IllegalArgumentException"] ++ wsX50 ++ wsX30 ++ (vx_atS RX5 94 "java/lang/IllegalArgumentException" ["java/lang/RuntimeException", "java/lang/Exception"]).filter goodWord)
def wsX5_endurance : List Cond := .code yX5_endurance cX5_endurance 3 (some .int) :: ([.constant RX5 147 (100000), .fieldLink RX5 12 "Crossbarry" "setting" "LCrossbarry$Setting;", .fieldLink RX5 148 "Crossbarry$Setting" "mostWear" "I", .methodLink RX5 49 yX5_checkArgument, .static yX5_checkArgument, .initialized RX5, .code yX5_checkArgument cX5_checkArgument 3 none, .classLink RX5 90 "java/lang/IllegalArgumentException", .initialized "java/lang/IllegalArgumentException"] ++ wsX50 ++ wsX30 ++ (vx_atS RX5 94 "java/lang/IllegalArgumentException" ["java/lang/RuntimeException", "java/lang/Exception"]).filter goodWord)
def wsX5_pass : List Cond := .code yX5_pass cX5_pass 2 (some .int) :: ([.classLink RX5 53 "java/lang/IllegalStateException", .initialized "java/lang/IllegalStateException", .fieldLink RX5 12 "Crossbarry" "setting" "LCrossbarry$Setting;", .fieldLink RX5 151 "Crossbarry$Setting" "now" "I", .constant RX5 154 (1000000), .methodLink RX5 49 yX5_checkArgument, .static yX5_checkArgument, .initialized RX5, .code yX5_checkArgument cX5_checkArgument 3 none, .classLink RX5 90 "java/lang/IllegalArgumentException", .initialized "java/lang/IllegalArgumentException"] ++ wsX50 ++ wsX30 ++ (vx_atS RX5 57 "java/lang/IllegalStateException" ["java/lang/RuntimeException", "java/lang/Exception"]).filter goodWord ++ (vx_atS RX5 94 "java/lang/IllegalArgumentException" ["java/lang/RuntimeException", "java/lang/Exception"]).filter goodWord)
def wsX5_converter : List Cond := .code yX5_converter cX5_converter 6 (some .int) :: ([.fieldLink RX5 157 "Crossbarry$Tile" "readStep" "I", .fieldLink RX5 160 "Crossbarry$Tile" "readTop" "I", .methodLink RX5 102 yX5_tileAt, .instanceMethod yX5_tileAt, .selects RX5 yX5_tileAt yX5_tileAt, .initialized RX5, .code yX5_tileAt cX5_tileAt 2 (some (.object "Crossbarry$Tile")), .classLink RX5 241 "java/lang/IndexOutOfBoundsException", .initialized "java/lang/IndexOutOfBoundsException", .fieldLink RX5 18 "Crossbarry" "tiles" "[LCrossbarry$Tile;", .methodLink RX5 49 yX5_checkArgument, .static yX5_checkArgument, .code yX5_checkArgument cX5_checkArgument 3 none, .classLink RX5 90 "java/lang/IllegalArgumentException", .initialized "java/lang/IllegalArgumentException"] ++ wsX40 ++ wsX50 ++ (vx_atS RX5 245 "java/lang/IndexOutOfBoundsException" ["java/lang/RuntimeException", "java/lang/Exception"]).filter goodWord ++ (vx_atS RX5 94 "java/lang/IllegalArgumentException" ["java/lang/RuntimeException", "java/lang/Exception"]).filter goodWord)
def wsX5_offset : List Cond := .code yX5_offset cX5_offset 6 (some .int) :: ([.fieldLink RX5 163 "Crossbarry$Tile" "offsets" "[I", .methodLink RX5 102 yX5_tileAt, .instanceMethod yX5_tileAt, .selects RX5 yX5_tileAt yX5_tileAt, .initialized RX5, .code yX5_tileAt cX5_tileAt 2 (some (.object "Crossbarry$Tile")), .classLink RX5 241 "java/lang/IndexOutOfBoundsException", .initialized "java/lang/IndexOutOfBoundsException", .fieldLink RX5 18 "Crossbarry" "tiles" "[LCrossbarry$Tile;", .methodLink RX5 69 yX5_checkIndex, .static yX5_checkIndex, .code yX5_checkIndex cX5_checkIndex 2 none, .methodLink RX5 49 yX5_checkArgument, .static yX5_checkArgument, .code yX5_checkArgument cX5_checkArgument 3 none, .classLink RX5 90 "java/lang/IllegalArgumentException", .initialized "java/lang/IllegalArgumentException"] ++ wsX40 ++ wsX50 ++ (vx_atS RX5 245 "java/lang/IndexOutOfBoundsException" ["java/lang/RuntimeException", "java/lang/Exception"]).filter goodWord ++ (vx_atS RX5 94 "java/lang/IllegalArgumentException" ["java/lang/RuntimeException", "java/lang/Exception"]).filter goodWord)
def wsX5_calibrate : List Cond := .code yX5_calibrate cX5_calibrate 5 (some .boolean) :: ([.fieldLink RX5 167 "Crossbarry$Tile" "isCalibrated" "Z", .methodLink RX5 102 yX5_tileAt, .instanceMethod yX5_tileAt, .selects RX5 yX5_tileAt yX5_tileAt, .initialized RX5, .code yX5_tileAt cX5_tileAt 2 (some (.object "Crossbarry$Tile")), .classLink RX5 241 "java/lang/IndexOutOfBoundsException", .initialized "java/lang/IndexOutOfBoundsException", .fieldLink RX5 18 "Crossbarry" "tiles" "[LCrossbarry$Tile;"] ++ wsX40 ++ wsX50 ++ (vx_atS RX5 245 "java/lang/IndexOutOfBoundsException" ["java/lang/RuntimeException", "java/lang/Exception"]).filter goodWord)
def wsX5_converters : List Cond := .code yX5_converters cX5_converters 5 (some .int) :: ([.classLink RX5 90 "java/lang/IllegalArgumentException", .initialized "java/lang/IllegalArgumentException", .fieldLink RX5 177 "Crossbarry$Tile" "converterCount" "I", .methodLink RX5 102 yX5_tileAt, .instanceMethod yX5_tileAt, .selects RX5 yX5_tileAt yX5_tileAt, .initialized RX5, .code yX5_tileAt cX5_tileAt 2 (some (.object "Crossbarry$Tile")), .classLink RX5 241 "java/lang/IndexOutOfBoundsException", .initialized "java/lang/IndexOutOfBoundsException", .fieldLink RX5 18 "Crossbarry" "tiles" "[LCrossbarry$Tile;", .methodLink RX5 49 yX5_checkArgument, .static yX5_checkArgument, .code yX5_checkArgument cX5_checkArgument 3 none, .methodLink RX5 170 yJ6_bitCount_0f7a4, .static yJ6_bitCount_0f7a4, .initialized RJ6, .code yJ6_bitCount_0f7a4 cJ6_bitCount_0f7a4 1 (some .int), .constant RJ6 265 (1431655765), .constant RJ6 266 (858993459), .constant RJ6 267 (252645135)] ++ wsX40 ++ wsX50 ++ (vx_atS RX5 94 "java/lang/IllegalArgumentException" ["java/lang/RuntimeException", "java/lang/Exception"]).filter goodWord ++ (vx_atS RX5 245 "java/lang/IndexOutOfBoundsException" ["java/lang/RuntimeException", "java/lang/Exception"]).filter goodWord)
def wsX5_cell_r1 : List Cond := [Cond.fieldLink RX5 183 "Crossbarry$Tile" "states" "[I", Cond.fieldLink RX5 12 "Crossbarry" "setting" "LCrossbarry$Setting;", Cond.fieldLink RX5 190 "Crossbarry$Tile" "wears" "[I", Cond.fieldLink RX5 193 "Crossbarry$Tile" "isStuck" "[Z", Cond.fieldLink RX5 197 "Crossbarry$Tile" "isKnown" "[Z", Cond.methodLink RX5 102 yX5_tileAt, Cond.instanceMethod yX5_tileAt, Cond.selects RX5 yX5_tileAt yX5_tileAt, Cond.initialized RX5, Cond.code yX5_tileAt cX5_tileAt 2 (some (.object "Crossbarry$Tile")), Cond.classLink RX5 241 "java/lang/IndexOutOfBoundsException", Cond.initialized "java/lang/IndexOutOfBoundsException", Cond.fieldLink RX5 18 "Crossbarry" "tiles" "[LCrossbarry$Tile;", Cond.methodLink RX5 69 yX5_checkIndex, Cond.static yX5_checkIndex, Cond.code yX5_checkIndex cX5_checkIndex 2 none, Cond.methodLink RX5 180 yX5_indexOf, Cond.static yX5_indexOf, Cond.code yX5_indexOf cX5_indexOf 2 (some .int), Cond.methodLink RX5 186 yX4_conducted, Cond.instanceMethod yX4_conducted, Cond.selects RX4 yX4_conducted yX4_conducted, Cond.initialized RX4, Cond.code yX4_conducted cX4_conducted 6 (some .int)]
def wsX5_cell_r2 : List Cond := [Cond.fieldLink RX4 55 "Crossbarry$Setting" "driftHours" "I", Cond.fieldLink RX4 21 "Crossbarry$Tile" "isStuck" "[Z", Cond.fieldLink RX4 9 "Crossbarry$Tile" "states" "[I", Cond.fieldLink RX4 60 "Crossbarry$Setting" "now" "I", Cond.fieldLink RX4 18 "Crossbarry$Tile" "hours" "[I", Cond.methodLink RX4 66 Lib.Math.max.name, Cond.static Lib.Math.max.name, Cond.initialized "java/lang/Math", Cond.code Lib.Math.max.name Lib.Math.max.code 2 (some .int), Cond.static yX5_quotient, Cond.code yX5_quotient cX5_quotient 2 (some .int)]
def wsX5_cell : List Cond := .code yX5_cell cX5_cell 7 (some .int) :: ((wsX5_cell_r1 ++ wsX5_cell_r2) ++ wsX40 ++ wsX50 ++ wsX30 ++ (vx_atS RX5 245 "java/lang/IndexOutOfBoundsException" ["java/lang/RuntimeException", "java/lang/Exception"]).filter goodWord)
def wsX5_rowOf : List Cond := .code yX5_rowOf cX5_rowOf 4 (some .int) :: ([.fieldLink RX5 66 "Crossbarry$Layer" "inputs" "I", .fieldLink RX5 106 "Crossbarry$Layer" "ground" "LCrossbarry$Tile;", .fieldLink RX5 200 "Crossbarry$Layer" "rows" "[I", .methodLink RX5 62 yX5_layerAt, .instanceMethod yX5_layerAt, .selects RX5 yX5_layerAt yX5_layerAt, .initialized RX5, .code yX5_layerAt cX5_layerAt 2 (some (.object "Crossbarry$Layer")), .classLink RX5 241 "java/lang/IndexOutOfBoundsException", .initialized "java/lang/IndexOutOfBoundsException", .fieldLink RX5 24 "Crossbarry" "layers" "[LCrossbarry$Layer;", .methodLink RX5 69 yX5_checkIndex, .static yX5_checkIndex, .code yX5_checkIndex cX5_checkIndex 2 none] ++ wsX00 ++ wsX50 ++ (vx_atS RX5 245 "java/lang/IndexOutOfBoundsException" ["java/lang/RuntimeException", "java/lang/Exception"]).filter goodWord)
def wsX5_tileOf : List Cond := .code yX5_tileOf cX5_tileOf 3 (some .int) :: ([.fieldLink RX5 106 "Crossbarry$Layer" "ground" "LCrossbarry$Tile;", .fieldLink RX5 132 "Crossbarry$Tile" "number" "I", .methodLink RX5 62 yX5_layerAt, .instanceMethod yX5_layerAt, .selects RX5 yX5_layerAt yX5_layerAt, .initialized RX5, .code yX5_layerAt cX5_layerAt 2 (some (.object "Crossbarry$Layer")), .classLink RX5 241 "java/lang/IndexOutOfBoundsException", .initialized "java/lang/IndexOutOfBoundsException", .fieldLink RX5 24 "Crossbarry" "layers" "[LCrossbarry$Layer;"] ++ wsX00 ++ wsX40 ++ wsX50 ++ (vx_atS RX5 245 "java/lang/IndexOutOfBoundsException" ["java/lang/RuntimeException", "java/lang/Exception"]).filter goodWord)
def wsX5_misfits_r1 : List Cond := [Cond.fieldLink RX5 31 "Crossbarry" "seating" "LCrossbarry$Seating;", Cond.fieldLink RX5 66 "Crossbarry$Layer" "inputs" "I", Cond.methodLink RX5 62 yX5_layerAt, Cond.instanceMethod yX5_layerAt, Cond.selects RX5 yX5_layerAt yX5_layerAt, Cond.initialized RX5, Cond.code yX5_layerAt cX5_layerAt 2 (some (.object "Crossbarry$Layer")), Cond.classLink RX5 241 "java/lang/IndexOutOfBoundsException", Cond.initialized "java/lang/IndexOutOfBoundsException", Cond.fieldLink RX5 24 "Crossbarry" "layers" "[LCrossbarry$Layer;", Cond.methodLink RX5 102 yX5_tileAt, Cond.instanceMethod yX5_tileAt, Cond.selects RX5 yX5_tileAt yX5_tileAt, Cond.code yX5_tileAt cX5_tileAt 2 (some (.object "Crossbarry$Tile")), Cond.fieldLink RX5 18 "Crossbarry" "tiles" "[LCrossbarry$Tile;", Cond.methodLink RX5 116 yX2_weigh, Cond.instanceMethod yX2_weigh, Cond.selects RX2 yX2_weigh yX2_weigh, Cond.initialized RX2, Cond.code yX2_weigh cX2_weigh 5 none, Cond.fieldLink RX2 18 "Crossbarry$Layer" "inputs" "I", Cond.fieldLink RX2 9 "Crossbarry$Seating" "misfitTable" "[I", Cond.methodLink RX2 24 yX0_misfitsIn, Cond.instanceMethod yX0_misfitsIn]
def wsX5_misfits_r2 : List Cond := [Cond.selects RX0 yX0_misfitsIn yX0_misfitsIn, Cond.initialized RX0, Cond.code yX0_misfitsIn cX0_misfitsIn 6 (some .int), Cond.methodLink RX0 46 yX0_columns, Cond.instanceMethod yX0_columns, Cond.selects RX0 yX0_columns yX0_columns, Cond.code yX0_columns cX0_columns 1 (some .int), Cond.fieldLink RX0 36 "Crossbarry$Layer" "outputs" "I", Cond.methodLink RX0 50 yX0_needed, Cond.instanceMethod yX0_needed, Cond.selects RX0 yX0_needed yX0_needed, Cond.code yX0_needed cX0_needed 4 (some .int), Cond.methodLink RX0 39 yX0_weightOf, Cond.instanceMethod yX0_weightOf, Cond.selects RX0 yX0_weightOf yX0_weightOf, Cond.code yX0_weightOf cX0_weightOf 3 (some .int), Cond.fieldLink RX0 9 "Crossbarry$Layer" "weights" "[I", Cond.methodLink RX0 63 yX4_isMisfit, Cond.instanceMethod yX4_isMisfit, Cond.selects RX4 yX4_isMisfit yX4_isMisfit, Cond.initialized RX4, Cond.code yX4_isMisfit cX4_isMisfit 5 (some .boolean), Cond.fieldLink RX4 25 "Crossbarry$Tile" "isKnown" "[Z", Cond.fieldLink RX4 9 "Crossbarry$Tile" "states" "[I"]
def wsX5_misfits_r3 : List Cond := [Cond.static yX5_indexOf, Cond.code yX5_indexOf cX5_indexOf 2 (some .int), Cond.methodLink RX5 203 yX2_fewestMisfits, Cond.instanceMethod yX2_fewestMisfits, Cond.selects RX2 yX2_fewestMisfits yX2_fewestMisfits, Cond.code yX2_fewestMisfits cX2_fewestMisfits 4 (some .int), Cond.fieldLink RX2 15 "Crossbarry$Seating" "fewest" "[I", Cond.methodLink RX2 28 yJ6_bitCount_0f7a4, Cond.static yJ6_bitCount_0f7a4, Cond.initialized RJ6, Cond.code yJ6_bitCount_0f7a4 cJ6_bitCount_0f7a4 1 (some .int), Cond.constant RJ6 265 (1431655765), Cond.constant RJ6 266 (858993459), Cond.constant RJ6 267 (252645135), Cond.methodLink RX2 34 yX2_fewestFrom, Cond.instanceMethod yX2_fewestFrom, Cond.selects RX2 yX2_fewestFrom yX2_fewestFrom, Cond.code yX2_fewestFrom cX2_fewestFrom 5 (some .int), Cond.methodLink RX2 42 Lib.Math.min.name, Cond.static Lib.Math.min.name, Cond.initialized "java/lang/Math", Cond.code Lib.Math.min.name Lib.Math.min.code 2 (some .int), Cond.methodLink RX2 38 yX2_fewestWith, Cond.instanceMethod yX2_fewestWith]
def wsX5_misfits_r4 : List Cond := [Cond.selects RX2 yX2_fewestWith yX2_fewestWith, Cond.code yX2_fewestWith cX2_fewestWith 4 (some .int)]
def wsX5_misfits : List Cond := .code yX5_misfits cX5_misfits 4 (some .int) :: ((wsX5_misfits_r1 ++ (wsX5_misfits_r2 ++ (wsX5_misfits_r3 ++ wsX5_misfits_r4))) ++ wsX50 ++ wsX00 ++ wsX20 ++ wsX40 ++ (vx_atS RX5 245 "java/lang/IndexOutOfBoundsException" ["java/lang/RuntimeException", "java/lang/Exception"]).filter goodWord)
def wsX5_misfitsAnew_r1 : List Cond := [Cond.classLink RX5 53 "java/lang/IllegalStateException", Cond.initialized "java/lang/IllegalStateException", Cond.fieldLink RX5 66 "Crossbarry$Layer" "inputs" "I", Cond.fieldLink RX5 31 "Crossbarry" "seating" "LCrossbarry$Seating;", Cond.methodLink RX5 62 yX5_layerAt, Cond.instanceMethod yX5_layerAt, Cond.selects RX5 yX5_layerAt yX5_layerAt, Cond.initialized RX5, Cond.code yX5_layerAt cX5_layerAt 2 (some (.object "Crossbarry$Layer")), Cond.classLink RX5 241 "java/lang/IndexOutOfBoundsException", Cond.initialized "java/lang/IndexOutOfBoundsException", Cond.fieldLink RX5 24 "Crossbarry" "layers" "[LCrossbarry$Layer;", Cond.methodLink RX5 102 yX5_tileAt, Cond.instanceMethod yX5_tileAt, Cond.selects RX5 yX5_tileAt yX5_tileAt, Cond.code yX5_tileAt cX5_tileAt 2 (some (.object "Crossbarry$Tile")), Cond.fieldLink RX5 18 "Crossbarry" "tiles" "[LCrossbarry$Tile;", Cond.methodLink RX5 116 yX2_weigh, Cond.instanceMethod yX2_weigh, Cond.selects RX2 yX2_weigh yX2_weigh, Cond.initialized RX2, Cond.code yX2_weigh cX2_weigh 5 none, Cond.fieldLink RX2 18 "Crossbarry$Layer" "inputs" "I", Cond.fieldLink RX2 9 "Crossbarry$Seating" "misfitTable" "[I"]
def wsX5_misfitsAnew_r2 : List Cond := [Cond.methodLink RX2 24 yX0_misfitsIn, Cond.instanceMethod yX0_misfitsIn, Cond.selects RX0 yX0_misfitsIn yX0_misfitsIn, Cond.initialized RX0, Cond.code yX0_misfitsIn cX0_misfitsIn 6 (some .int), Cond.methodLink RX0 46 yX0_columns, Cond.instanceMethod yX0_columns, Cond.selects RX0 yX0_columns yX0_columns, Cond.code yX0_columns cX0_columns 1 (some .int), Cond.fieldLink RX0 36 "Crossbarry$Layer" "outputs" "I", Cond.methodLink RX0 50 yX0_needed, Cond.instanceMethod yX0_needed, Cond.selects RX0 yX0_needed yX0_needed, Cond.code yX0_needed cX0_needed 4 (some .int), Cond.methodLink RX0 39 yX0_weightOf, Cond.instanceMethod yX0_weightOf, Cond.selects RX0 yX0_weightOf yX0_weightOf, Cond.code yX0_weightOf cX0_weightOf 3 (some .int), Cond.fieldLink RX0 9 "Crossbarry$Layer" "weights" "[I", Cond.methodLink RX0 63 yX4_isMisfit, Cond.instanceMethod yX4_isMisfit, Cond.selects RX4 yX4_isMisfit yX4_isMisfit, Cond.initialized RX4, Cond.code yX4_isMisfit cX4_isMisfit 5 (some .boolean)]
def wsX5_misfitsAnew_r3 : List Cond := [Cond.fieldLink RX4 25 "Crossbarry$Tile" "isKnown" "[Z", Cond.fieldLink RX4 9 "Crossbarry$Tile" "states" "[I", Cond.static yX5_indexOf, Cond.code yX5_indexOf cX5_indexOf 2 (some .int), Cond.methodLink RX5 208 yX2_fewestOfAllWays, Cond.instanceMethod yX2_fewestOfAllWays, Cond.selects RX2 yX2_fewestOfAllWays yX2_fewestOfAllWays, Cond.code yX2_fewestOfAllWays cX2_fewestOfAllWays 5 (some .int), Cond.methodLink RX2 42 Lib.Math.min.name, Cond.static Lib.Math.min.name, Cond.initialized "java/lang/Math", Cond.code Lib.Math.min.name Lib.Math.min.code 2 (some .int), Cond.methodLink RX2 56 yX2_misfitsOfWay, Cond.instanceMethod yX2_misfitsOfWay, Cond.selects RX2 yX2_misfitsOfWay yX2_misfitsOfWay, Cond.code yX2_misfitsOfWay cX2_misfitsOfWay 7 (some .int)]
def wsX5_misfitsAnew : List Cond := .code yX5_misfitsAnew cX5_misfitsAnew 5 (some .int) :: ((wsX5_misfitsAnew_r1 ++ (wsX5_misfitsAnew_r2 ++ wsX5_misfitsAnew_r3)) ++ wsX00 ++ wsX50 ++ wsX20 ++ wsX40 ++ (vx_atS RX5 57 "java/lang/IllegalStateException" ["java/lang/RuntimeException", "java/lang/Exception"]).filter goodWord ++ (vx_atS RX5 245 "java/lang/IndexOutOfBoundsException" ["java/lang/RuntimeException", "java/lang/Exception"]).filter goodWord)
def wsX5_isTrue_r1 : List Cond := [Cond.fieldLink RX5 106 "Crossbarry$Layer" "ground" "LCrossbarry$Tile;", Cond.fieldLink RX5 12 "Crossbarry" "setting" "LCrossbarry$Setting;", Cond.methodLink RX5 62 yX5_layerAt, Cond.instanceMethod yX5_layerAt, Cond.selects RX5 yX5_layerAt yX5_layerAt, Cond.initialized RX5, Cond.code yX5_layerAt cX5_layerAt 2 (some (.object "Crossbarry$Layer")), Cond.classLink RX5 241 "java/lang/IndexOutOfBoundsException", Cond.initialized "java/lang/IndexOutOfBoundsException", Cond.fieldLink RX5 24 "Crossbarry" "layers" "[LCrossbarry$Layer;", Cond.methodLink RX5 211 yX0_conductsAsNeeded, Cond.instanceMethod yX0_conductsAsNeeded, Cond.selects RX0 yX0_conductsAsNeeded yX0_conductsAsNeeded, Cond.initialized RX0, Cond.code yX0_conductsAsNeeded cX0_conductsAsNeeded 5 (some .boolean), Cond.fieldLink RX0 33 "Crossbarry$Layer" "inputs" "I", Cond.fieldLink RX0 15 "Crossbarry$Layer" "rows" "[I", Cond.methodLink RX0 46 yX0_columns, Cond.instanceMethod yX0_columns, Cond.selects RX0 yX0_columns yX0_columns, Cond.code yX0_columns cX0_columns 1 (some .int), Cond.fieldLink RX0 36 "Crossbarry$Layer" "outputs" "I", Cond.methodLink RX0 59 yX4_conducted, Cond.instanceMethod yX4_conducted]
def wsX5_isTrue_r2 : List Cond := [Cond.selects RX4 yX4_conducted yX4_conducted, Cond.initialized RX4, Cond.code yX4_conducted cX4_conducted 6 (some .int), Cond.fieldLink RX4 55 "Crossbarry$Setting" "driftHours" "I", Cond.fieldLink RX4 21 "Crossbarry$Tile" "isStuck" "[Z", Cond.fieldLink RX4 9 "Crossbarry$Tile" "states" "[I", Cond.fieldLink RX4 60 "Crossbarry$Setting" "now" "I", Cond.fieldLink RX4 18 "Crossbarry$Tile" "hours" "[I", Cond.methodLink RX4 66 Lib.Math.max.name, Cond.static Lib.Math.max.name, Cond.initialized "java/lang/Math", Cond.code Lib.Math.max.name Lib.Math.max.code 2 (some .int), Cond.static yX5_indexOf, Cond.code yX5_indexOf cX5_indexOf 2 (some .int), Cond.static yX5_quotient, Cond.code yX5_quotient cX5_quotient 2 (some .int), Cond.methodLink RX0 50 yX0_needed, Cond.instanceMethod yX0_needed, Cond.selects RX0 yX0_needed yX0_needed, Cond.code yX0_needed cX0_needed 4 (some .int), Cond.methodLink RX0 39 yX0_weightOf, Cond.instanceMethod yX0_weightOf, Cond.selects RX0 yX0_weightOf yX0_weightOf, Cond.code yX0_weightOf cX0_weightOf 3 (some .int)]
def wsX5_isTrue_r3 : List Cond := [Cond.fieldLink RX0 9 "Crossbarry$Layer" "weights" "[I"]
def wsX5_isTrue : List Cond := .code yX5_isTrue cX5_isTrue 3 (some .boolean) :: ((wsX5_isTrue_r1 ++ (wsX5_isTrue_r2 ++ wsX5_isTrue_r3)) ++ wsX00 ++ wsX50 ++ wsX30 ++ wsX40 ++ (vx_atS RX5 245 "java/lang/IndexOutOfBoundsException" ["java/lang/RuntimeException", "java/lang/Exception"]).filter goodWord)
def wsX5_answer_r1 : List Cond := [Cond.fieldLink RX5 73 "Crossbarry$Layer" "outputs" "I", Cond.fieldLink RX5 12 "Crossbarry" "setting" "LCrossbarry$Setting;", Cond.methodLink RX5 62 yX5_layerAt, Cond.instanceMethod yX5_layerAt, Cond.selects RX5 yX5_layerAt yX5_layerAt, Cond.initialized RX5, Cond.code yX5_layerAt cX5_layerAt 2 (some (.object "Crossbarry$Layer")), Cond.classLink RX5 241 "java/lang/IndexOutOfBoundsException", Cond.initialized "java/lang/IndexOutOfBoundsException", Cond.fieldLink RX5 24 "Crossbarry" "layers" "[LCrossbarry$Layer;", Cond.methodLink RX5 69 yX5_checkIndex, Cond.static yX5_checkIndex, Cond.code yX5_checkIndex cX5_checkIndex 2 none, Cond.methodLink RX5 128 yX5_groundOf, Cond.static yX5_groundOf, Cond.code yX5_groundOf cX5_groundOf 1 (some (.object "Crossbarry$Tile")), Cond.classLink RX5 53 "java/lang/IllegalStateException", Cond.initialized "java/lang/IllegalStateException", Cond.fieldLink RX5 106 "Crossbarry$Layer" "ground" "LCrossbarry$Tile;", Cond.methodLink RX5 215 yX0_answerOn, Cond.instanceMethod yX0_answerOn, Cond.selects RX0 yX0_answerOn yX0_answerOn, Cond.initialized RX0, Cond.code yX0_answerOn cX0_answerOn 11 (some .int)]
def wsX5_answer_r2 : List Cond := [Cond.methodLink RX0 67 yX0_currentOn, Cond.instanceMethod yX0_currentOn, Cond.selects RX0 yX0_currentOn yX0_currentOn, Cond.code yX0_currentOn cX0_currentOn 8 (some .int), Cond.fieldLink RX0 33 "Crossbarry$Layer" "inputs" "I", Cond.fieldLink RX0 15 "Crossbarry$Layer" "rows" "[I", Cond.static yX5_inputOf, Cond.code yX5_inputOf cX5_inputOf 3 (some .int), Cond.methodLink RX0 59 yX4_conducted, Cond.instanceMethod yX4_conducted, Cond.selects RX4 yX4_conducted yX4_conducted, Cond.initialized RX4, Cond.code yX4_conducted cX4_conducted 6 (some .int), Cond.fieldLink RX4 55 "Crossbarry$Setting" "driftHours" "I", Cond.fieldLink RX4 21 "Crossbarry$Tile" "isStuck" "[Z", Cond.fieldLink RX4 9 "Crossbarry$Tile" "states" "[I", Cond.fieldLink RX4 60 "Crossbarry$Setting" "now" "I", Cond.fieldLink RX4 18 "Crossbarry$Tile" "hours" "[I", Cond.methodLink RX4 66 Lib.Math.max.name, Cond.static Lib.Math.max.name, Cond.initialized "java/lang/Math", Cond.code Lib.Math.max.name Lib.Math.max.code 2 (some .int), Cond.static yX5_indexOf, Cond.code yX5_indexOf cX5_indexOf 2 (some .int)]
def wsX5_answer_r3 : List Cond := [Cond.static yX5_quotient, Cond.code yX5_quotient cX5_quotient 2 (some .int), Cond.methodLink RX0 71 yX4_read, Cond.instanceMethod yX4_read, Cond.selects RX4 yX4_read yX4_read, Cond.code yX4_read cX4_read 4 (some .int), Cond.fieldLink RX4 38 "Crossbarry$Tile" "isCalibrated" "Z", Cond.fieldLink RX4 28 "Crossbarry$Tile" "offsets" "[I", Cond.fieldLink RX4 35 "Crossbarry$Tile" "readTop" "I", Cond.fieldLink RX4 31 "Crossbarry$Tile" "readStep" "I", Cond.methodLink RX4 82 Lib.Math.min.name, Cond.static Lib.Math.min.name, Cond.code Lib.Math.min.name Lib.Math.min.code 2 (some .int)]
def wsX5_answer : List Cond := .code yX5_answer cX5_answer 6 (some .int) :: ((wsX5_answer_r1 ++ (wsX5_answer_r2 ++ wsX5_answer_r3)) ++ wsX00 ++ wsX50 ++ wsX30 ++ wsX40 ++ (vx_atS RX5 245 "java/lang/IndexOutOfBoundsException" ["java/lang/RuntimeException", "java/lang/Exception"]).filter goodWord ++ (vx_atS RX5 57 "java/lang/IllegalStateException" ["java/lang/RuntimeException", "java/lang/Exception"]).filter goodWord)
def wsX5_ideal_r1 : List Cond := [Cond.fieldLink RX5 73 "Crossbarry$Layer" "outputs" "I", Cond.methodLink RX5 62 yX5_layerAt, Cond.instanceMethod yX5_layerAt, Cond.selects RX5 yX5_layerAt yX5_layerAt, Cond.initialized RX5, Cond.code yX5_layerAt cX5_layerAt 2 (some (.object "Crossbarry$Layer")), Cond.classLink RX5 241 "java/lang/IndexOutOfBoundsException", Cond.initialized "java/lang/IndexOutOfBoundsException", Cond.fieldLink RX5 24 "Crossbarry" "layers" "[LCrossbarry$Layer;", Cond.methodLink RX5 69 yX5_checkIndex, Cond.static yX5_checkIndex, Cond.code yX5_checkIndex cX5_checkIndex 2 none, Cond.methodLink RX5 219 yX0_idealAnswer, Cond.instanceMethod yX0_idealAnswer, Cond.selects RX0 yX0_idealAnswer yX0_idealAnswer, Cond.initialized RX0, Cond.code yX0_idealAnswer cX0_idealAnswer 6 (some .int), Cond.fieldLink RX0 33 "Crossbarry$Layer" "inputs" "I", Cond.methodLink RX0 39 yX0_weightOf, Cond.instanceMethod yX0_weightOf, Cond.selects RX0 yX0_weightOf yX0_weightOf, Cond.code yX0_weightOf cX0_weightOf 3 (some .int), Cond.fieldLink RX0 9 "Crossbarry$Layer" "weights" "[I", Cond.static yX5_inputOf]
def wsX5_ideal_r2 : List Cond := [Cond.code yX5_inputOf cX5_inputOf 3 (some .int)]
def wsX5_ideal : List Cond := .code yX5_ideal cX5_ideal 6 (some .int) :: ((wsX5_ideal_r1 ++ wsX5_ideal_r2) ++ wsX00 ++ wsX50 ++ (vx_atS RX5 245 "java/lang/IndexOutOfBoundsException" ["java/lang/RuntimeException", "java/lang/Exception"]).filter goodWord)
def wsX5_bound_r1 : List Cond := [Cond.fieldLink RX5 73 "Crossbarry$Layer" "outputs" "I", Cond.methodLink RX5 62 yX5_layerAt, Cond.instanceMethod yX5_layerAt, Cond.selects RX5 yX5_layerAt yX5_layerAt, Cond.initialized RX5, Cond.code yX5_layerAt cX5_layerAt 2 (some (.object "Crossbarry$Layer")), Cond.classLink RX5 241 "java/lang/IndexOutOfBoundsException", Cond.initialized "java/lang/IndexOutOfBoundsException", Cond.fieldLink RX5 24 "Crossbarry" "layers" "[LCrossbarry$Layer;", Cond.methodLink RX5 69 yX5_checkIndex, Cond.static yX5_checkIndex, Cond.code yX5_checkIndex cX5_checkIndex 2 none, Cond.methodLink RX5 128 yX5_groundOf, Cond.static yX5_groundOf, Cond.code yX5_groundOf cX5_groundOf 1 (some (.object "Crossbarry$Tile")), Cond.classLink RX5 53 "java/lang/IllegalStateException", Cond.initialized "java/lang/IllegalStateException", Cond.fieldLink RX5 106 "Crossbarry$Layer" "ground" "LCrossbarry$Tile;", Cond.methodLink RX5 223 yX0_boundOn, Cond.instanceMethod yX0_boundOn, Cond.selects RX0 yX0_boundOn yX0_boundOn, Cond.initialized RX0, Cond.code yX0_boundOn cX0_boundOn 9 (some .int), Cond.methodLink RX0 78 yX0_needOf]
def wsX5_bound_r2 : List Cond := [Cond.instanceMethod yX0_needOf, Cond.selects RX0 yX0_needOf yX0_needOf, Cond.code yX0_needOf cX0_needOf 4 (some .int), Cond.fieldLink RX0 33 "Crossbarry$Layer" "inputs" "I", Cond.methodLink RX0 50 yX0_needed, Cond.instanceMethod yX0_needed, Cond.selects RX0 yX0_needed yX0_needed, Cond.code yX0_needed cX0_needed 4 (some .int), Cond.methodLink RX0 39 yX0_weightOf, Cond.instanceMethod yX0_weightOf, Cond.selects RX0 yX0_weightOf yX0_weightOf, Cond.code yX0_weightOf cX0_weightOf 3 (some .int), Cond.fieldLink RX0 9 "Crossbarry$Layer" "weights" "[I", Cond.methodLink RX0 82 yX4_greatestError, Cond.instanceMethod yX4_greatestError, Cond.selects RX4 yX4_greatestError yX4_greatestError, Cond.initialized RX4, Cond.code yX4_greatestError cX4_greatestError 5 (some .int), Cond.methodLink RX4 66 Lib.Math.max.name, Cond.static Lib.Math.max.name, Cond.initialized "java/lang/Math", Cond.code Lib.Math.max.name Lib.Math.max.code 2 (some .int), Cond.methodLink RX4 85 yX4_read, Cond.instanceMethod yX4_read]
def wsX5_bound_r3 : List Cond := [Cond.selects RX4 yX4_read yX4_read, Cond.code yX4_read cX4_read 4 (some .int), Cond.fieldLink RX4 38 "Crossbarry$Tile" "isCalibrated" "Z", Cond.fieldLink RX4 28 "Crossbarry$Tile" "offsets" "[I", Cond.fieldLink RX4 35 "Crossbarry$Tile" "readTop" "I", Cond.fieldLink RX4 31 "Crossbarry$Tile" "readStep" "I", Cond.methodLink RX4 82 Lib.Math.min.name, Cond.static Lib.Math.min.name, Cond.code Lib.Math.min.name Lib.Math.min.code 2 (some .int), Cond.static yX5_quotient, Cond.code yX5_quotient cX5_quotient 2 (some .int), Cond.methodLink RX0 85 yX4_leastError, Cond.instanceMethod yX4_leastError, Cond.selects RX4 yX4_leastError yX4_leastError, Cond.code yX4_leastError cX4_leastError 5 (some .int)]
def wsX5_bound : List Cond := .code yX5_bound cX5_bound 5 (some .int) :: ((wsX5_bound_r1 ++ (wsX5_bound_r2 ++ wsX5_bound_r3)) ++ wsX00 ++ wsX50 ++ wsX40 ++ (vx_atS RX5 245 "java/lang/IndexOutOfBoundsException" ["java/lang/RuntimeException", "java/lang/Exception"]).filter goodWord ++ (vx_atS RX5 57 "java/lang/IllegalStateException" ["java/lang/RuntimeException", "java/lang/Exception"]).filter goodWord)
def wsX5_tellPipeline_r1 : List Cond := [Cond.fieldLink RX5 38 "Crossbarry" "pipeline" "LCrossbarry$Pipeline;", Cond.fieldLink RX5 95 "Crossbarry$Layer" "nextLayer" "LCrossbarry$Layer;", Cond.methodLink RX5 263 yX1_clear, Cond.instanceMethod yX1_clear, Cond.selects RX1 yX1_clear yX1_clear, Cond.initialized RX1, Cond.code yX1_clear cX1_clear 1 none, Cond.fieldLink RX1 18 "Crossbarry$Pipeline" "stages" "I", Cond.methodLink RX5 128 yX5_groundOf, Cond.static yX5_groundOf, Cond.initialized RX5, Cond.code yX5_groundOf cX5_groundOf 1 (some (.object "Crossbarry$Tile")), Cond.classLink RX5 53 "java/lang/IllegalStateException", Cond.initialized "java/lang/IllegalStateException", Cond.fieldLink RX5 106 "Crossbarry$Layer" "ground" "LCrossbarry$Tile;", Cond.methodLink RX5 266 yX0_cyclesOn, Cond.instanceMethod yX0_cyclesOn, Cond.selects RX0 yX0_cyclesOn yX0_cyclesOn, Cond.initialized RX0, Cond.code yX0_cyclesOn cX0_cyclesOn 2 (some .int), Cond.fieldLink RX0 88 "Crossbarry$Tile" "converterCount" "I", Cond.methodLink RX0 46 yX0_columns, Cond.instanceMethod yX0_columns, Cond.selects RX0 yX0_columns yX0_columns]
def wsX5_tellPipeline_r2 : List Cond := [Cond.code yX0_columns cX0_columns 1 (some .int), Cond.fieldLink RX0 36 "Crossbarry$Layer" "outputs" "I", Cond.static yX5_quotient, Cond.code yX5_quotient cX5_quotient 2 (some .int), Cond.methodLink RX5 270 yX1_add, Cond.instanceMethod yX1_add, Cond.selects RX1 yX1_add yX1_add, Cond.code yX1_add cX1_add 2 none, Cond.fieldLink RX1 9 "Crossbarry$Pipeline" "takes" "[I"]
def wsX5_tellPipeline : List Cond := .code yX5_tellPipeline cX5_tellPipeline 3 none :: ((wsX5_tellPipeline_r1 ++ wsX5_tellPipeline_r2) ++ wsX50 ++ wsX00 ++ wsX10 ++ wsX40 ++ (vx_atS RX5 57 "java/lang/IllegalStateException" ["java/lang/RuntimeException", "java/lang/Exception"]).filter goodWord)
def wsX5_cycles_r1 : List Cond := [Cond.fieldLink RX5 38 "Crossbarry" "pipeline" "LCrossbarry$Pipeline;", Cond.methodLink RX5 62 yX5_layerAt, Cond.instanceMethod yX5_layerAt, Cond.selects RX5 yX5_layerAt yX5_layerAt, Cond.initialized RX5, Cond.code yX5_layerAt cX5_layerAt 2 (some (.object "Crossbarry$Layer")), Cond.classLink RX5 241 "java/lang/IndexOutOfBoundsException", Cond.initialized "java/lang/IndexOutOfBoundsException", Cond.fieldLink RX5 24 "Crossbarry" "layers" "[LCrossbarry$Layer;", Cond.methodLink RX5 49 yX5_checkArgument, Cond.static yX5_checkArgument, Cond.code yX5_checkArgument cX5_checkArgument 3 none, Cond.classLink RX5 90 "java/lang/IllegalArgumentException", Cond.initialized "java/lang/IllegalArgumentException", Cond.methodLink RX5 231 yX5_tellPipeline, Cond.instanceMethod yX5_tellPipeline, Cond.selects RX5 yX5_tellPipeline yX5_tellPipeline, Cond.code yX5_tellPipeline cX5_tellPipeline 3 none, Cond.fieldLink RX5 95 "Crossbarry$Layer" "nextLayer" "LCrossbarry$Layer;", Cond.methodLink RX5 263 yX1_clear, Cond.instanceMethod yX1_clear, Cond.selects RX1 yX1_clear yX1_clear, Cond.initialized RX1, Cond.code yX1_clear cX1_clear 1 none]
def wsX5_cycles_r2 : List Cond := [Cond.fieldLink RX1 18 "Crossbarry$Pipeline" "stages" "I", Cond.methodLink RX5 128 yX5_groundOf, Cond.static yX5_groundOf, Cond.code yX5_groundOf cX5_groundOf 1 (some (.object "Crossbarry$Tile")), Cond.classLink RX5 53 "java/lang/IllegalStateException", Cond.initialized "java/lang/IllegalStateException", Cond.fieldLink RX5 106 "Crossbarry$Layer" "ground" "LCrossbarry$Tile;", Cond.methodLink RX5 266 yX0_cyclesOn, Cond.instanceMethod yX0_cyclesOn, Cond.selects RX0 yX0_cyclesOn yX0_cyclesOn, Cond.initialized RX0, Cond.code yX0_cyclesOn cX0_cyclesOn 2 (some .int), Cond.fieldLink RX0 88 "Crossbarry$Tile" "converterCount" "I", Cond.methodLink RX0 46 yX0_columns, Cond.instanceMethod yX0_columns, Cond.selects RX0 yX0_columns yX0_columns, Cond.code yX0_columns cX0_columns 1 (some .int), Cond.fieldLink RX0 36 "Crossbarry$Layer" "outputs" "I", Cond.static yX5_quotient, Cond.code yX5_quotient cX5_quotient 2 (some .int), Cond.methodLink RX5 270 yX1_add, Cond.instanceMethod yX1_add, Cond.selects RX1 yX1_add yX1_add, Cond.code yX1_add cX1_add 2 none]
def wsX5_cycles_r3 : List Cond := [Cond.fieldLink RX1 9 "Crossbarry$Pipeline" "takes" "[I", Cond.methodLink RX5 234 yX1_cyclesReckoned, Cond.instanceMethod yX1_cyclesReckoned, Cond.selects RX1 yX1_cyclesReckoned yX1_cyclesReckoned, Cond.code yX1_cyclesReckoned cX1_cyclesReckoned 5 (some .int), Cond.methodLink RX1 22 Lib.Math.max.name, Cond.static Lib.Math.max.name, Cond.initialized "java/lang/Math", Cond.code Lib.Math.max.name Lib.Math.max.code 2 (some .int)]
def wsX5_cycles : List Cond := .code yX5_cycles cX5_cycles 4 (some .int) :: ((wsX5_cycles_r1 ++ (wsX5_cycles_r2 ++ wsX5_cycles_r3)) ++ wsX50 ++ wsX00 ++ wsX10 ++ wsX40 ++ (vx_atS RX5 245 "java/lang/IndexOutOfBoundsException" ["java/lang/RuntimeException", "java/lang/Exception"]).filter goodWord ++ (vx_atS RX5 94 "java/lang/IllegalArgumentException" ["java/lang/RuntimeException", "java/lang/Exception"]).filter goodWord ++ (vx_atS RX5 57 "java/lang/IllegalStateException" ["java/lang/RuntimeException", "java/lang/Exception"]).filter goodWord)
def wsX5_cyclesAnew_r1 : List Cond := [Cond.fieldLink RX5 38 "Crossbarry" "pipeline" "LCrossbarry$Pipeline;", Cond.methodLink RX5 62 yX5_layerAt, Cond.instanceMethod yX5_layerAt, Cond.selects RX5 yX5_layerAt yX5_layerAt, Cond.initialized RX5, Cond.code yX5_layerAt cX5_layerAt 2 (some (.object "Crossbarry$Layer")), Cond.classLink RX5 241 "java/lang/IndexOutOfBoundsException", Cond.initialized "java/lang/IndexOutOfBoundsException", Cond.fieldLink RX5 24 "Crossbarry" "layers" "[LCrossbarry$Layer;", Cond.methodLink RX5 49 yX5_checkArgument, Cond.static yX5_checkArgument, Cond.code yX5_checkArgument cX5_checkArgument 3 none, Cond.classLink RX5 90 "java/lang/IllegalArgumentException", Cond.initialized "java/lang/IllegalArgumentException", Cond.methodLink RX5 231 yX5_tellPipeline, Cond.instanceMethod yX5_tellPipeline, Cond.selects RX5 yX5_tellPipeline yX5_tellPipeline, Cond.code yX5_tellPipeline cX5_tellPipeline 3 none, Cond.fieldLink RX5 95 "Crossbarry$Layer" "nextLayer" "LCrossbarry$Layer;", Cond.methodLink RX5 263 yX1_clear, Cond.instanceMethod yX1_clear, Cond.selects RX1 yX1_clear yX1_clear, Cond.initialized RX1, Cond.code yX1_clear cX1_clear 1 none]
def wsX5_cyclesAnew_r2 : List Cond := [Cond.fieldLink RX1 18 "Crossbarry$Pipeline" "stages" "I", Cond.methodLink RX5 128 yX5_groundOf, Cond.static yX5_groundOf, Cond.code yX5_groundOf cX5_groundOf 1 (some (.object "Crossbarry$Tile")), Cond.classLink RX5 53 "java/lang/IllegalStateException", Cond.initialized "java/lang/IllegalStateException", Cond.fieldLink RX5 106 "Crossbarry$Layer" "ground" "LCrossbarry$Tile;", Cond.methodLink RX5 266 yX0_cyclesOn, Cond.instanceMethod yX0_cyclesOn, Cond.selects RX0 yX0_cyclesOn yX0_cyclesOn, Cond.initialized RX0, Cond.code yX0_cyclesOn cX0_cyclesOn 2 (some .int), Cond.fieldLink RX0 88 "Crossbarry$Tile" "converterCount" "I", Cond.methodLink RX0 46 yX0_columns, Cond.instanceMethod yX0_columns, Cond.selects RX0 yX0_columns yX0_columns, Cond.code yX0_columns cX0_columns 1 (some .int), Cond.fieldLink RX0 36 "Crossbarry$Layer" "outputs" "I", Cond.static yX5_quotient, Cond.code yX5_quotient cX5_quotient 2 (some .int), Cond.methodLink RX5 270 yX1_add, Cond.instanceMethod yX1_add, Cond.selects RX1 yX1_add yX1_add, Cond.code yX1_add cX1_add 2 none]
def wsX5_cyclesAnew_r3 : List Cond := [Cond.fieldLink RX1 9 "Crossbarry$Pipeline" "takes" "[I", Cond.methodLink RX5 237 yX1_cyclesCounted, Cond.instanceMethod yX1_cyclesCounted, Cond.selects RX1 yX1_cyclesCounted yX1_cyclesCounted, Cond.code yX1_cyclesCounted cX1_cyclesCounted 5 (some .int), Cond.fieldLink RX1 15 "Crossbarry$Pipeline" "left" "[I", Cond.constant RX1 28 (1000000), Cond.methodLink RX1 29 yX1_moveOn, Cond.instanceMethod yX1_moveOn, Cond.selects RX1 yX1_moveOn yX1_moveOn, Cond.code yX1_moveOn cX1_moveOn 3 (some .int), Cond.methodLink RX1 33 yX1_work, Cond.instanceMethod yX1_work, Cond.selects RX1 yX1_work yX1_work, Cond.code yX1_work cX1_work 2 none]
def wsX5_cyclesAnew : List Cond := .code yX5_cyclesAnew cX5_cyclesAnew 4 (some .int) :: ((wsX5_cyclesAnew_r1 ++ (wsX5_cyclesAnew_r2 ++ wsX5_cyclesAnew_r3)) ++ wsX50 ++ wsX00 ++ wsX10 ++ wsX40 ++ (vx_atS RX5 245 "java/lang/IndexOutOfBoundsException" ["java/lang/RuntimeException", "java/lang/Exception"]).filter goodWord ++ (vx_atS RX5 94 "java/lang/IllegalArgumentException" ["java/lang/RuntimeException", "java/lang/Exception"]).filter goodWord ++ (vx_atS RX5 57 "java/lang/IllegalStateException" ["java/lang/RuntimeException", "java/lang/Exception"]).filter goodWord)
def wsX5_wear : List Cond := .code yX5_wear cX5_wear 6 (some .long) :: ([.fieldLink RX5 190 "Crossbarry$Tile" "wears" "[I", .methodLink RX5 102 yX5_tileAt, .instanceMethod yX5_tileAt, .selects RX5 yX5_tileAt yX5_tileAt, .initialized RX5, .code yX5_tileAt cX5_tileAt 2 (some (.object "Crossbarry$Tile")), .classLink RX5 241 "java/lang/IndexOutOfBoundsException", .initialized "java/lang/IndexOutOfBoundsException", .fieldLink RX5 18 "Crossbarry" "tiles" "[LCrossbarry$Tile;"] ++ wsX40 ++ wsX50 ++ (vx_atS RX5 245 "java/lang/IndexOutOfBoundsException" ["java/lang/RuntimeException", "java/lang/Exception"]).filter goodWord)
def wsX5_share : List Cond := .code yX5_share cX5_share 5 (some .float) :: ([.fieldLink RX5 193 "Crossbarry$Tile" "isStuck" "[Z", .constantFloat RX5 240 (1124073472), .methodLink RX5 102 yX5_tileAt, .instanceMethod yX5_tileAt, .selects RX5 yX5_tileAt yX5_tileAt, .initialized RX5, .code yX5_tileAt cX5_tileAt 2 (some (.object "Crossbarry$Tile")), .classLink RX5 241 "java/lang/IndexOutOfBoundsException", .initialized "java/lang/IndexOutOfBoundsException", .fieldLink RX5 18 "Crossbarry" "tiles" "[LCrossbarry$Tile;"] ++ wsX40 ++ wsX50 ++ (vx_atS RX5 245 "java/lang/IndexOutOfBoundsException" ["java/lang/RuntimeException", "java/lang/Exception"]).filter goodWord)
def wsX5_hour : List Cond := .code yX5_hour cX5_hour 1 (some .int) :: ([.fieldLink RX5 12 "Crossbarry" "setting" "LCrossbarry$Setting;", .fieldLink RX5 151 "Crossbarry$Setting" "now" "I"] ++ wsX50 ++ wsX30)
def wsJ9_max_7cf53 : List Cond := .code yJ9_max_7cf53 cJ9_max_7cf53 2 (some .int) :: ([])
def wsJ9_min_7cf53 : List Cond := .code yJ9_min_7cf53 cJ9_min_7cf53 2 (some .int) :: ([])
def wsL_cell : List Cond := .code yL_cell cL_cell 2 (some .int) :: ([])
def wsL_low : List Cond := .code yL_low cL_low 2 (some .int) :: ([.constant RL 7 (2147483647)])
def wsL_needs : List Cond := .code yL_needs cL_needs 3 (some .int) :: ([])
def wsL_misfits_r1 : List Cond := [Cond.methodLink RL 8 yX5_rowOf, Cond.instanceMethod yX5_rowOf, Cond.selects RX5 yX5_rowOf yX5_rowOf, Cond.initialized RX5, Cond.code yX5_rowOf cX5_rowOf 4 (some .int), Cond.fieldLink RX5 66 "Crossbarry$Layer" "inputs" "I", Cond.fieldLink RX5 106 "Crossbarry$Layer" "ground" "LCrossbarry$Tile;", Cond.fieldLink RX5 200 "Crossbarry$Layer" "rows" "[I", Cond.methodLink RX5 62 yX5_layerAt, Cond.instanceMethod yX5_layerAt, Cond.selects RX5 yX5_layerAt yX5_layerAt, Cond.code yX5_layerAt cX5_layerAt 2 (some (.object "Crossbarry$Layer")), Cond.classLink RX5 241 "java/lang/IndexOutOfBoundsException", Cond.initialized "java/lang/IndexOutOfBoundsException", Cond.fieldLink RX5 24 "Crossbarry" "layers" "[LCrossbarry$Layer;", Cond.methodLink RX5 69 yX5_checkIndex, Cond.static yX5_checkIndex, Cond.code yX5_checkIndex cX5_checkIndex 2 none, Cond.methodLink RL 14 yL_needs, Cond.static yL_needs, Cond.initialized RL, Cond.code yL_needs cL_needs 3 (some .int), Cond.methodLink RL 19 yX5_cell, Cond.instanceMethod yX5_cell]
def wsL_misfits_r2 : List Cond := [Cond.selects RX5 yX5_cell yX5_cell, Cond.code yX5_cell cX5_cell 7 (some .int), Cond.fieldLink RX5 183 "Crossbarry$Tile" "states" "[I", Cond.fieldLink RX5 12 "Crossbarry" "setting" "LCrossbarry$Setting;", Cond.fieldLink RX5 190 "Crossbarry$Tile" "wears" "[I", Cond.fieldLink RX5 193 "Crossbarry$Tile" "isStuck" "[Z", Cond.fieldLink RX5 197 "Crossbarry$Tile" "isKnown" "[Z", Cond.methodLink RX5 102 yX5_tileAt, Cond.instanceMethod yX5_tileAt, Cond.selects RX5 yX5_tileAt yX5_tileAt, Cond.code yX5_tileAt cX5_tileAt 2 (some (.object "Crossbarry$Tile")), Cond.fieldLink RX5 18 "Crossbarry" "tiles" "[LCrossbarry$Tile;", Cond.methodLink RX5 180 yX5_indexOf, Cond.static yX5_indexOf, Cond.code yX5_indexOf cX5_indexOf 2 (some .int), Cond.methodLink RX5 186 yX4_conducted, Cond.instanceMethod yX4_conducted, Cond.selects RX4 yX4_conducted yX4_conducted, Cond.initialized RX4, Cond.code yX4_conducted cX4_conducted 6 (some .int), Cond.fieldLink RX4 55 "Crossbarry$Setting" "driftHours" "I", Cond.fieldLink RX4 21 "Crossbarry$Tile" "isStuck" "[Z", Cond.fieldLink RX4 9 "Crossbarry$Tile" "states" "[I", Cond.fieldLink RX4 60 "Crossbarry$Setting" "now" "I"]
def wsL_misfits_r3 : List Cond := [Cond.fieldLink RX4 18 "Crossbarry$Tile" "hours" "[I", Cond.methodLink RX4 66 Lib.Math.max.name, Cond.static Lib.Math.max.name, Cond.initialized "java/lang/Math", Cond.code Lib.Math.max.name Lib.Math.max.code 2 (some .int), Cond.static yX5_quotient, Cond.code yX5_quotient cX5_quotient 2 (some .int)]
def wsL_misfits : List Cond := .code yL_misfits cL_misfits 11 (some .int) :: ((wsL_misfits_r1 ++ (wsL_misfits_r2 ++ wsL_misfits_r3)) ++ wsX00 ++ wsX50 ++ wsX40 ++ wsX30 ++ (vx_atS RX5 245 "java/lang/IndexOutOfBoundsException" ["java/lang/RuntimeException", "java/lang/Exception"]).filter goodWord)
def wsL_law0_r1 : List Cond := [Cond.classLink RL 9 RX5, Cond.instantiable RX5 6, Cond.initialized RX5, Cond.arrayClass .int, Cond.constant RL 61 (65536), Cond.constantFloat RL 66 (1124073472), Cond.constantLong RL 105 (2654435761), Cond.methodLink RL 23 yX5_init, Cond.instanceMethod yX5_init, Cond.code yX5_init cX5_init 2 none, Cond.methodLink RX5 3 objectInit, Cond.instanceMethod objectInit, Cond.code objectInit ⟨#[0xb1]⟩ 1 none, Cond.classLink RX5 9 RX3, Cond.instantiable RX3 3, Cond.initialized RX3, Cond.fieldLink RX5 12 "Crossbarry" "setting" "LCrossbarry$Setting;", Cond.classLink RX5 16 RX4, Cond.fieldLink RX5 18 "Crossbarry" "tiles" "[LCrossbarry$Tile;", Cond.classLink RX5 22 RX0, Cond.fieldLink RX5 24 "Crossbarry" "layers" "[LCrossbarry$Layer;", Cond.classLink RX5 28 RX2, Cond.instantiable RX2 2, Cond.initialized RX2]
def wsL_law0_r2 : List Cond := [Cond.fieldLink RX5 31 "Crossbarry" "seating" "LCrossbarry$Seating;", Cond.classLink RX5 35 RX1, Cond.instantiable RX1 3, Cond.initialized RX1, Cond.fieldLink RX5 38 "Crossbarry" "pipeline" "LCrossbarry$Pipeline;", Cond.fieldLink RX5 42 "Crossbarry" "layerCount" "I", Cond.instantiable RX4 12, Cond.initialized RX4, Cond.instanceMethod yX3_init, Cond.code yX3_init cX3_init 1 none, Cond.methodLink RX3 1 objectInit, Cond.fieldLink RX3 7 "Crossbarry$Setting" "now" "I", Cond.fieldLink RX3 13 "Crossbarry$Setting" "driftHours" "I", Cond.fieldLink RX3 16 "Crossbarry$Setting" "mostWear" "I", Cond.instanceMethod yX2_init, Cond.code yX2_init cX2_init 1 none, Cond.methodLink RX2 3 objectInit, Cond.fieldLink RX2 9 "Crossbarry$Seating" "misfitTable" "[I", Cond.fieldLink RX2 15 "Crossbarry$Seating" "fewest" "[I", Cond.instanceMethod yX1_init, Cond.code yX1_init cX1_init 1 none, Cond.methodLink RX1 3 objectInit, Cond.fieldLink RX1 9 "Crossbarry$Pipeline" "takes" "[I", Cond.fieldLink RX1 15 "Crossbarry$Pipeline" "left" "[I"]
def wsL_law0_r3 : List Cond := [Cond.fieldLink RX1 18 "Crossbarry$Pipeline" "stages" "I", Cond.methodLink RX5 46 yX4_init, Cond.instanceMethod yX4_init, Cond.code yX4_init cX4_init 2 none, Cond.methodLink RX4 3 objectInit, Cond.fieldLink RX4 9 "Crossbarry$Tile" "states" "[I", Cond.fieldLink RX4 15 "Crossbarry$Tile" "wears" "[I", Cond.fieldLink RX4 18 "Crossbarry$Tile" "hours" "[I", Cond.arrayClass .boolean, Cond.fieldLink RX4 21 "Crossbarry$Tile" "isStuck" "[Z", Cond.fieldLink RX4 25 "Crossbarry$Tile" "isKnown" "[Z", Cond.fieldLink RX4 28 "Crossbarry$Tile" "offsets" "[I", Cond.fieldLink RX4 31 "Crossbarry$Tile" "readStep" "I", Cond.fieldLink RX4 35 "Crossbarry$Tile" "readTop" "I", Cond.fieldLink RX4 38 "Crossbarry$Tile" "isCalibrated" "Z", Cond.fieldLink RX4 42 "Crossbarry$Tile" "converterCount" "I", Cond.fieldLink RX4 45 "Crossbarry$Tile" "isTaken" "Z", Cond.fieldLink RX4 48 "Crossbarry$Tile" "number" "I", Cond.methodLink RL 24 yL_cell, Cond.static yL_cell, Cond.initialized RL, Cond.code yL_cell cL_cell 2 (some .int), Cond.methodLink RL 27 yL_low, Cond.static yL_low]
def wsL_law0_r4 : List Cond := [Cond.code yL_low cL_low 2 (some .int), Cond.constant RL 7 (2147483647), Cond.methodLink RL 30 yX5_layer, Cond.instanceMethod yX5_layer, Cond.selects RX5 yX5_layer yX5_layer, Cond.code yX5_layer cX5_layer 3 (some .int), Cond.classLink RX5 53 "java/lang/IllegalStateException", Cond.initialized "java/lang/IllegalStateException", Cond.instantiable RX0 8, Cond.initialized RX0, Cond.methodLink RX5 49 yX5_checkArgument, Cond.static yX5_checkArgument, Cond.code yX5_checkArgument cX5_checkArgument 3 none, Cond.classLink RX5 90 "java/lang/IllegalArgumentException", Cond.initialized "java/lang/IllegalArgumentException", Cond.methodLink RX5 60 yX0_init, Cond.instanceMethod yX0_init, Cond.code yX0_init cX0_init 4 none, Cond.methodLink RX0 3 objectInit, Cond.fieldLink RX0 9 "Crossbarry$Layer" "weights" "[I", Cond.fieldLink RX0 15 "Crossbarry$Layer" "rows" "[I", Cond.fieldLink RX0 18 "Crossbarry$Layer" "shiftBy" "I", Cond.fieldLink RX0 22 "Crossbarry$Layer" "nextLayer" "LCrossbarry$Layer;", Cond.fieldLink RX0 26 "Crossbarry$Layer" "ground" "LCrossbarry$Tile;"]
def wsL_law0_r5 : List Cond := [Cond.fieldLink RX0 30 "Crossbarry$Layer" "number" "I", Cond.fieldLink RX0 33 "Crossbarry$Layer" "inputs" "I", Cond.fieldLink RX0 36 "Crossbarry$Layer" "outputs" "I", Cond.methodLink RL 33 yX5_next, Cond.instanceMethod yX5_next, Cond.selects RX5 yX5_next yX5_next, Cond.code yX5_next cX5_next 6 (some .int), Cond.fieldLink RX5 95 "Crossbarry$Layer" "nextLayer" "LCrossbarry$Layer;", Cond.fieldLink RX5 99 "Crossbarry$Layer" "number" "I", Cond.methodLink RX5 62 yX5_layerAt, Cond.instanceMethod yX5_layerAt, Cond.selects RX5 yX5_layerAt yX5_layerAt, Cond.code yX5_layerAt cX5_layerAt 2 (some (.object "Crossbarry$Layer")), Cond.classLink RX5 241 "java/lang/IndexOutOfBoundsException", Cond.initialized "java/lang/IndexOutOfBoundsException", Cond.methodLink RX5 86 yX0_canGoOnTo, Cond.instanceMethod yX0_canGoOnTo, Cond.selects RX0 yX0_canGoOnTo yX0_canGoOnTo, Cond.code yX0_canGoOnTo cX0_canGoOnTo 2 (some .boolean), Cond.methodLink RL 36 yX5_place, Cond.instanceMethod yX5_place, Cond.selects RX5 yX5_place yX5_place, Cond.code yX5_place cX5_place 5 (some .int), Cond.fieldLink RX5 106 "Crossbarry$Layer" "ground" "LCrossbarry$Tile;"]
def wsL_law0_r6 : List Cond := [Cond.fieldLink RX5 110 "Crossbarry$Tile" "isTaken" "Z", Cond.methodLink RX5 102 yX5_tileAt, Cond.instanceMethod yX5_tileAt, Cond.selects RX5 yX5_tileAt yX5_tileAt, Cond.code yX5_tileAt cX5_tileAt 2 (some (.object "Crossbarry$Tile")), Cond.methodLink RX5 116 yX2_weigh, Cond.instanceMethod yX2_weigh, Cond.selects RX2 yX2_weigh yX2_weigh, Cond.code yX2_weigh cX2_weigh 5 none, Cond.fieldLink RX2 18 "Crossbarry$Layer" "inputs" "I", Cond.methodLink RX2 24 yX0_misfitsIn, Cond.instanceMethod yX0_misfitsIn, Cond.selects RX0 yX0_misfitsIn yX0_misfitsIn, Cond.code yX0_misfitsIn cX0_misfitsIn 6 (some .int), Cond.methodLink RX0 46 yX0_columns, Cond.instanceMethod yX0_columns, Cond.selects RX0 yX0_columns yX0_columns, Cond.code yX0_columns cX0_columns 1 (some .int), Cond.methodLink RX0 50 yX0_needed, Cond.instanceMethod yX0_needed, Cond.selects RX0 yX0_needed yX0_needed, Cond.code yX0_needed cX0_needed 4 (some .int), Cond.methodLink RX0 39 yX0_weightOf, Cond.instanceMethod yX0_weightOf]
def wsL_law0_r7 : List Cond := [Cond.selects RX0 yX0_weightOf yX0_weightOf, Cond.code yX0_weightOf cX0_weightOf 3 (some .int), Cond.methodLink RX0 63 yX4_isMisfit, Cond.instanceMethod yX4_isMisfit, Cond.selects RX4 yX4_isMisfit yX4_isMisfit, Cond.code yX4_isMisfit cX4_isMisfit 5 (some .boolean), Cond.static yX5_indexOf, Cond.code yX5_indexOf cX5_indexOf 2 (some .int), Cond.methodLink RX5 120 yX2_seat, Cond.instanceMethod yX2_seat, Cond.selects RX2 yX2_seat yX2_seat, Cond.code yX2_seat cX2_seat 5 none, Cond.fieldLink RX2 53 "Crossbarry$Layer" "rows" "[I", Cond.methodLink RX2 47 yX2_fewestMisfits, Cond.instanceMethod yX2_fewestMisfits, Cond.selects RX2 yX2_fewestMisfits yX2_fewestMisfits, Cond.code yX2_fewestMisfits cX2_fewestMisfits 4 (some .int), Cond.methodLink RX2 28 yJ6_bitCount_0f7a4, Cond.static yJ6_bitCount_0f7a4, Cond.initialized RJ6, Cond.code yJ6_bitCount_0f7a4 cJ6_bitCount_0f7a4 1 (some .int), Cond.constant RJ6 265 (1431655765), Cond.constant RJ6 266 (858993459), Cond.constant RJ6 267 (252645135)]
def wsL_law0_r8 : List Cond := [Cond.methodLink RX2 34 yX2_fewestFrom, Cond.instanceMethod yX2_fewestFrom, Cond.selects RX2 yX2_fewestFrom yX2_fewestFrom, Cond.code yX2_fewestFrom cX2_fewestFrom 5 (some .int), Cond.methodLink RX2 42 Lib.Math.min.name, Cond.static Lib.Math.min.name, Cond.initialized "java/lang/Math", Cond.code Lib.Math.min.name Lib.Math.min.code 2 (some .int), Cond.methodLink RX2 38 yX2_fewestWith, Cond.instanceMethod yX2_fewestWith, Cond.selects RX2 yX2_fewestWith yX2_fewestWith, Cond.code yX2_fewestWith cX2_fewestWith 4 (some .int), Cond.methodLink RX2 50 yX2_lowestBestRow, Cond.instanceMethod yX2_lowestBestRow, Cond.selects RX2 yX2_lowestBestRow yX2_lowestBestRow, Cond.code yX2_lowestBestRow cX2_lowestBestRow 4 (some .int), Cond.methodLink RX5 124 yX0_writeOn, Cond.instanceMethod yX0_writeOn, Cond.selects RX0 yX0_writeOn yX0_writeOn, Cond.code yX0_writeOn cX0_writeOn 6 (some .int), Cond.methodLink RX0 53 yX4_failsToWrite, Cond.instanceMethod yX4_failsToWrite, Cond.selects RX4 yX4_failsToWrite yX4_failsToWrite, Cond.code yX4_failsToWrite cX4_failsToWrite 7 (some .boolean)]
def wsL_law0_r9 : List Cond := [Cond.fieldLink RX4 60 "Crossbarry$Setting" "now" "I", Cond.fieldLink RX4 75 "Crossbarry$Setting" "mostWear" "I", Cond.methodLink RX4 71 yX4_conducted, Cond.instanceMethod yX4_conducted, Cond.selects RX4 yX4_conducted yX4_conducted, Cond.code yX4_conducted cX4_conducted 6 (some .int), Cond.fieldLink RX4 55 "Crossbarry$Setting" "driftHours" "I", Cond.methodLink RX4 66 Lib.Math.max.name, Cond.static Lib.Math.max.name, Cond.code Lib.Math.max.name Lib.Math.max.code 2 (some .int), Cond.static yX5_quotient, Cond.code yX5_quotient cX5_quotient 2 (some .int), Cond.methodLink RX4 78 yX4_givePulse, Cond.instanceMethod yX4_givePulse, Cond.selects RX4 yX4_givePulse yX4_givePulse, Cond.code yX4_givePulse cX4_givePulse 4 none, Cond.methodLink RL 39 yX5_isTrue, Cond.instanceMethod yX5_isTrue, Cond.selects RX5 yX5_isTrue yX5_isTrue, Cond.code yX5_isTrue cX5_isTrue 3 (some .boolean), Cond.methodLink RX5 211 yX0_conductsAsNeeded, Cond.instanceMethod yX0_conductsAsNeeded, Cond.selects RX0 yX0_conductsAsNeeded yX0_conductsAsNeeded, Cond.code yX0_conductsAsNeeded cX0_conductsAsNeeded 5 (some .boolean)]
def wsL_law0_r10 : List Cond := [Cond.methodLink RX0 59 yX4_conducted, Cond.methodLink RL 43 yX5_shift, Cond.instanceMethod yX5_shift, Cond.selects RX5 yX5_shift yX5_shift, Cond.code yX5_shift cX5_shift 5 (some .int), Cond.fieldLink RX5 83 "Crossbarry$Layer" "shiftBy" "I", Cond.methodLink RL 46 yX5_weight, Cond.instanceMethod yX5_weight, Cond.selects RX5 yX5_weight yX5_weight, Cond.code yX5_weight cX5_weight 7 (some .int), Cond.fieldLink RX5 66 "Crossbarry$Layer" "inputs" "I", Cond.fieldLink RX5 73 "Crossbarry$Layer" "outputs" "I", Cond.methodLink RX5 69 yX5_checkIndex, Cond.static yX5_checkIndex, Cond.code yX5_checkIndex cX5_checkIndex 2 none, Cond.methodLink RX5 76 yX0_weightOf, Cond.methodLink RX5 80 yX0_tellWeight, Cond.instanceMethod yX0_tellWeight, Cond.selects RX0 yX0_tellWeight yX0_tellWeight, Cond.code yX0_tellWeight cX0_tellWeight 4 none, Cond.methodLink RL 49 yX5_load, Cond.instanceMethod yX5_load, Cond.selects RX5 yX5_load yX5_load, Cond.code yX5_load cX5_load 3 (some .int)]
def wsL_law0_r11 : List Cond := [Cond.methodLink RX5 128 yX5_groundOf, Cond.static yX5_groundOf, Cond.code yX5_groundOf cX5_groundOf 1 (some (.object "Crossbarry$Tile")), Cond.methodLink RL 19 yX5_cell, Cond.instanceMethod yX5_cell, Cond.selects RX5 yX5_cell yX5_cell, Cond.code yX5_cell cX5_cell 7 (some .int), Cond.fieldLink RX5 183 "Crossbarry$Tile" "states" "[I", Cond.fieldLink RX5 190 "Crossbarry$Tile" "wears" "[I", Cond.fieldLink RX5 193 "Crossbarry$Tile" "isStuck" "[Z", Cond.fieldLink RX5 197 "Crossbarry$Tile" "isKnown" "[Z", Cond.methodLink RX5 180 yX5_indexOf, Cond.methodLink RX5 186 yX4_conducted, Cond.methodLink RL 53 yX5_stick, Cond.instanceMethod yX5_stick, Cond.selects RX5 yX5_stick yX5_stick, Cond.code yX5_stick cX5_stick 6 none, Cond.methodLink RX5 133 yX4_becomesStuck, Cond.instanceMethod yX4_becomesStuck, Cond.selects RX4 yX4_becomesStuck yX4_becomesStuck, Cond.code yX4_becomesStuck cX4_becomesStuck 5 (some .boolean), Cond.methodLink RL 57 yX5_share, Cond.instanceMethod yX5_share, Cond.selects RX5 yX5_share yX5_share]
def wsL_law0_r12 : List Cond := [Cond.code yX5_share cX5_share 5 (some .float), Cond.constantFloat RX5 240 (1124073472), Cond.methodLink RL 62 yX5_spoil, Cond.instanceMethod yX5_spoil, Cond.selects RX5 yX5_spoil yX5_spoil, Cond.code yX5_spoil cX5_spoil 9 (some .int), Cond.constant RX5 139 (65535), Cond.methodLink RX5 140 yX5_drawBehind, Cond.static yX5_drawBehind, Cond.code yX5_drawBehind cX5_drawBehind 1 (some .int), Cond.constant RX5 254 (65536), Cond.methodLink RL 67 yX5_hour, Cond.instanceMethod yX5_hour, Cond.selects RX5 yX5_hour yX5_hour, Cond.code yX5_hour cX5_hour 1 (some .int), Cond.fieldLink RX5 151 "Crossbarry$Setting" "now" "I", Cond.methodLink RL 71 yX5_pass, Cond.instanceMethod yX5_pass, Cond.selects RX5 yX5_pass yX5_pass, Cond.code yX5_pass cX5_pass 2 (some .int), Cond.constant RX5 154 (1000000), Cond.methodLink RL 74 yX5_drift, Cond.instanceMethod yX5_drift, Cond.selects RX5 yX5_drift yX5_drift]
def wsL_law0_r13 : List Cond := [Cond.code yX5_drift cX5_drift 3 (some .int), Cond.fieldLink RX5 144 "Crossbarry$Setting" "driftHours" "I", Cond.methodLink RL 77 yX5_converter, Cond.instanceMethod yX5_converter, Cond.selects RX5 yX5_converter yX5_converter, Cond.code yX5_converter cX5_converter 6 (some .int), Cond.fieldLink RX5 157 "Crossbarry$Tile" "readStep" "I", Cond.fieldLink RX5 160 "Crossbarry$Tile" "readTop" "I", Cond.methodLink RL 80 yX5_converters, Cond.instanceMethod yX5_converters, Cond.selects RX5 yX5_converters yX5_converters, Cond.code yX5_converters cX5_converters 5 (some .int), Cond.fieldLink RX5 177 "Crossbarry$Tile" "converterCount" "I", Cond.methodLink RX5 170 yJ6_bitCount_0f7a4, Cond.methodLink RL 83 yX5_offset, Cond.instanceMethod yX5_offset, Cond.selects RX5 yX5_offset yX5_offset, Cond.code yX5_offset cX5_offset 6 (some .int), Cond.fieldLink RX5 163 "Crossbarry$Tile" "offsets" "[I", Cond.methodLink RL 86 yX5_calibrate, Cond.instanceMethod yX5_calibrate, Cond.selects RX5 yX5_calibrate yX5_calibrate, Cond.code yX5_calibrate cX5_calibrate 5 (some .boolean), Cond.fieldLink RX5 167 "Crossbarry$Tile" "isCalibrated" "Z"]
def wsL_law0_r14 : List Cond := [Cond.methodLink RL 90 yX5_misfits, Cond.instanceMethod yX5_misfits, Cond.selects RX5 yX5_misfits yX5_misfits, Cond.code yX5_misfits cX5_misfits 4 (some .int), Cond.methodLink RX5 203 yX2_fewestMisfits, Cond.methodLink RL 93 yX5_lift, Cond.instanceMethod yX5_lift, Cond.selects RX5 yX5_lift yX5_lift, Cond.code yX5_lift cX5_lift 4 (some .int), Cond.fieldLink RX5 132 "Crossbarry$Tile" "number" "I", Cond.methodLink RL 8 yX5_rowOf, Cond.instanceMethod yX5_rowOf, Cond.selects RX5 yX5_rowOf yX5_rowOf, Cond.code yX5_rowOf cX5_rowOf 4 (some .int), Cond.fieldLink RX5 200 "Crossbarry$Layer" "rows" "[I", Cond.methodLink RL 96 yX5_tileOf, Cond.instanceMethod yX5_tileOf, Cond.selects RX5 yX5_tileOf yX5_tileOf, Cond.code yX5_tileOf cX5_tileOf 3 (some .int), Cond.methodLink RL 99 yL_misfits, Cond.static yL_misfits, Cond.code yL_misfits cL_misfits 11 (some .int), Cond.methodLink RL 14 yL_needs, Cond.static yL_needs]
def wsL_law0_r15 : List Cond := [Cond.code yL_needs cL_needs 3 (some .int), Cond.methodLink RL 102 yX5_endurance, Cond.instanceMethod yX5_endurance, Cond.selects RX5 yX5_endurance yX5_endurance, Cond.code yX5_endurance cX5_endurance 3 (some .int), Cond.constant RX5 147 (100000), Cond.fieldLink RX5 148 "Crossbarry$Setting" "mostWear" "I", Cond.methodLink RL 107 yX5_answer, Cond.instanceMethod yX5_answer, Cond.selects RX5 yX5_answer yX5_answer, Cond.code yX5_answer cX5_answer 6 (some .int), Cond.methodLink RX5 215 yX0_answerOn, Cond.instanceMethod yX0_answerOn, Cond.selects RX0 yX0_answerOn yX0_answerOn, Cond.code yX0_answerOn cX0_answerOn 11 (some .int), Cond.methodLink RX0 67 yX0_currentOn, Cond.instanceMethod yX0_currentOn, Cond.selects RX0 yX0_currentOn yX0_currentOn, Cond.code yX0_currentOn cX0_currentOn 8 (some .int), Cond.static yX5_inputOf, Cond.code yX5_inputOf cX5_inputOf 3 (some .int), Cond.methodLink RX0 71 yX4_read, Cond.instanceMethod yX4_read, Cond.selects RX4 yX4_read yX4_read]
def wsL_law0_r16 : List Cond := [Cond.code yX4_read cX4_read 4 (some .int), Cond.methodLink RX4 82 Lib.Math.min.name, Cond.methodLink RL 111 yX5_ideal, Cond.instanceMethod yX5_ideal, Cond.selects RX5 yX5_ideal yX5_ideal, Cond.code yX5_ideal cX5_ideal 6 (some .int), Cond.methodLink RX5 219 yX0_idealAnswer, Cond.instanceMethod yX0_idealAnswer, Cond.selects RX0 yX0_idealAnswer yX0_idealAnswer, Cond.code yX0_idealAnswer cX0_idealAnswer 6 (some .int), Cond.methodLink RL 114 yX5_bound, Cond.instanceMethod yX5_bound, Cond.selects RX5 yX5_bound yX5_bound, Cond.code yX5_bound cX5_bound 5 (some .int), Cond.methodLink RX5 223 yX0_boundOn, Cond.instanceMethod yX0_boundOn, Cond.selects RX0 yX0_boundOn yX0_boundOn, Cond.code yX0_boundOn cX0_boundOn 9 (some .int), Cond.methodLink RX0 78 yX0_needOf, Cond.instanceMethod yX0_needOf, Cond.selects RX0 yX0_needOf yX0_needOf, Cond.code yX0_needOf cX0_needOf 4 (some .int), Cond.methodLink RX0 82 yX4_greatestError, Cond.instanceMethod yX4_greatestError]
def wsL_law0_r17 : List Cond := [Cond.selects RX4 yX4_greatestError yX4_greatestError, Cond.code yX4_greatestError cX4_greatestError 5 (some .int), Cond.methodLink RX4 85 yX4_read, Cond.methodLink RX0 85 yX4_leastError, Cond.instanceMethod yX4_leastError, Cond.selects RX4 yX4_leastError yX4_leastError, Cond.code yX4_leastError cX4_leastError 5 (some .int), Cond.methodLink RL 118 yX5_misfitsAnew, Cond.instanceMethod yX5_misfitsAnew, Cond.selects RX5 yX5_misfitsAnew yX5_misfitsAnew, Cond.code yX5_misfitsAnew cX5_misfitsAnew 5 (some .int), Cond.methodLink RX5 208 yX2_fewestOfAllWays, Cond.instanceMethod yX2_fewestOfAllWays, Cond.selects RX2 yX2_fewestOfAllWays yX2_fewestOfAllWays, Cond.code yX2_fewestOfAllWays cX2_fewestOfAllWays 5 (some .int), Cond.methodLink RX2 56 yX2_misfitsOfWay, Cond.instanceMethod yX2_misfitsOfWay, Cond.selects RX2 yX2_misfitsOfWay yX2_misfitsOfWay, Cond.code yX2_misfitsOfWay cX2_misfitsOfWay 7 (some .int), Cond.methodLink RL 121 yX5_cycles, Cond.instanceMethod yX5_cycles, Cond.selects RX5 yX5_cycles yX5_cycles, Cond.code yX5_cycles cX5_cycles 4 (some .int), Cond.methodLink RX5 231 yX5_tellPipeline]
def wsL_law0_r18 : List Cond := [Cond.instanceMethod yX5_tellPipeline, Cond.selects RX5 yX5_tellPipeline yX5_tellPipeline, Cond.code yX5_tellPipeline cX5_tellPipeline 3 none, Cond.methodLink RX5 263 yX1_clear, Cond.instanceMethod yX1_clear, Cond.selects RX1 yX1_clear yX1_clear, Cond.code yX1_clear cX1_clear 1 none, Cond.methodLink RX5 266 yX0_cyclesOn, Cond.instanceMethod yX0_cyclesOn, Cond.selects RX0 yX0_cyclesOn yX0_cyclesOn, Cond.code yX0_cyclesOn cX0_cyclesOn 2 (some .int), Cond.fieldLink RX0 88 "Crossbarry$Tile" "converterCount" "I", Cond.methodLink RX5 270 yX1_add, Cond.instanceMethod yX1_add, Cond.selects RX1 yX1_add yX1_add, Cond.code yX1_add cX1_add 2 none, Cond.methodLink RX5 234 yX1_cyclesReckoned, Cond.instanceMethod yX1_cyclesReckoned, Cond.selects RX1 yX1_cyclesReckoned yX1_cyclesReckoned, Cond.code yX1_cyclesReckoned cX1_cyclesReckoned 5 (some .int), Cond.methodLink RX1 22 Lib.Math.max.name, Cond.methodLink RL 124 yX5_cyclesAnew, Cond.instanceMethod yX5_cyclesAnew, Cond.selects RX5 yX5_cyclesAnew yX5_cyclesAnew]
def wsL_law0_r19 : List Cond := [Cond.code yX5_cyclesAnew cX5_cyclesAnew 4 (some .int), Cond.methodLink RX5 237 yX1_cyclesCounted, Cond.instanceMethod yX1_cyclesCounted, Cond.selects RX1 yX1_cyclesCounted yX1_cyclesCounted, Cond.code yX1_cyclesCounted cX1_cyclesCounted 5 (some .int), Cond.constant RX1 28 (1000000), Cond.methodLink RX1 29 yX1_moveOn, Cond.instanceMethod yX1_moveOn, Cond.selects RX1 yX1_moveOn yX1_moveOn, Cond.code yX1_moveOn cX1_moveOn 3 (some .int), Cond.methodLink RX1 33 yX1_work, Cond.instanceMethod yX1_work, Cond.selects RX1 yX1_work yX1_work, Cond.code yX1_work cX1_work 2 none, Cond.methodLink RL 127 yX5_wear, Cond.instanceMethod yX5_wear, Cond.selects RX5 yX5_wear yX5_wear, Cond.code yX5_wear cX5_wear 6 (some .long)]
def wsL_law0 : List Cond := (wsL_law0_r1 ++ (wsL_law0_r2 ++ (wsL_law0_r3 ++ (wsL_law0_r4 ++ (wsL_law0_r5 ++ (wsL_law0_r6 ++ (wsL_law0_r7 ++ (wsL_law0_r8 ++ (wsL_law0_r9 ++ (wsL_law0_r10 ++ (wsL_law0_r11 ++ (wsL_law0_r12 ++ (wsL_law0_r13 ++ (wsL_law0_r14 ++ (wsL_law0_r15 ++ (wsL_law0_r16 ++ (wsL_law0_r17 ++ (wsL_law0_r18 ++ wsL_law0_r19)))))))))))))))))) ++ wsX50 ++ wsX30 ++ wsX20 ++ wsX10 ++ wsX40 ++ wsX00 ++ ([] : List Cond)
def wsL_law : List Cond := wsL_law0 ++ (vx_atS RX5 57 "java/lang/IllegalStateException" ["java/lang/RuntimeException", "java/lang/Exception"]).filter goodWord ++ (vx_atS RX5 94 "java/lang/IllegalArgumentException" ["java/lang/RuntimeException", "java/lang/Exception"]).filter goodWord ++ (vx_atS RX5 245 "java/lang/IndexOutOfBoundsException" ["java/lang/RuntimeException", "java/lang/Exception"]).filter goodWord
end
section
set_option maxRecDepth 20000 in
theorem wsL_law_in0 : ∀ w ∈ wsL_law0, w ∈ lw_tbl := fun w h => (goodIn_p wsL_law0 [32, 35, 40, 66, 80, 95, 643, 646, 169, 172, 260, 339, 303, 343, 348, 352, 358, 362, 366, 370, 327, 377, 380, 384, 388, 391, 398, 405, 402, 409, 413, 417, 421, 427, 424, 431, 530, 534, 335, 299, 322, 331, 435, 438, 498, 447, 451, 635, 456, 460, 640, 474, 465, 480, 492, 484, 488, 512, 443, 504, 508, 650, 653, 469, 539, 543, 547, 550, 554, 559, 563, 567, 571, 575, 579, 584, 517, 522, 526, 588, 592, 596, 600, 605, 609, 614, 618, 623, 627, 631] (by decide +kernel) (by decide +kernel) w h).1
theorem wsL_law_x0 : ∀ w ∈ (vx_atS RX5 57 "java/lang/IllegalStateException" ["java/lang/RuntimeException", "java/lang/Exception"]).filter goodWord, w ∈ lw_tbl := by decide +kernel
theorem wsL_law_x1 : ∀ w ∈ (vx_atS RX5 94 "java/lang/IllegalArgumentException" ["java/lang/RuntimeException", "java/lang/Exception"]).filter goodWord, w ∈ lw_tbl := by decide +kernel
theorem wsL_law_x2 : ∀ w ∈ (vx_atS RX5 245 "java/lang/IndexOutOfBoundsException" ["java/lang/RuntimeException", "java/lang/Exception"]).filter goodWord, w ∈ lw_tbl := by decide +kernel
theorem wsL_law_in : ∀ w ∈ wsL_law, w ∈ lw_tbl := fun w h => (List.mem_append.mp h).elim (fun h => (List.mem_append.mp h).elim (fun h => (List.mem_append.mp h).elim (fun h => wsL_law_in0 w h) (fun h => wsL_law_x0 w h)) (fun h => wsL_law_x1 w h)) (fun h => wsL_law_x2 w h)
theorem inlX0 : ∀ w ∈ wsX00, w ∈ wsL_law := fun _ h => List.mem_append_left _ (List.mem_append_left _ (List.mem_append_left _ (List.mem_append_left _ (List.mem_append_right _ h))))
theorem inX0 : ∀ w ∈ wsX00, w ∈ lw_tbl := fun w h => wsL_law_in w (inlX0 w h)
theorem inlX1 : ∀ w ∈ wsX10, w ∈ wsL_law := fun _ h => List.mem_append_left _ (List.mem_append_left _ (List.mem_append_left _ (List.mem_append_left _ (List.mem_append_left _ (List.mem_append_left _ (List.mem_append_right _ h))))))
theorem inX1 : ∀ w ∈ wsX10, w ∈ lw_tbl := fun w h => wsL_law_in w (inlX1 w h)
theorem inlX2 : ∀ w ∈ wsX20, w ∈ wsL_law := fun _ h => List.mem_append_left _ (List.mem_append_left _ (List.mem_append_left _ (List.mem_append_left _ (List.mem_append_left _ (List.mem_append_left _ (List.mem_append_left _ (List.mem_append_right _ h)))))))
theorem inX2 : ∀ w ∈ wsX20, w ∈ lw_tbl := fun w h => wsL_law_in w (inlX2 w h)
theorem inlX3 : ∀ w ∈ wsX30, w ∈ wsL_law := fun _ h => List.mem_append_left _ (List.mem_append_left _ (List.mem_append_left _ (List.mem_append_left _ (List.mem_append_left _ (List.mem_append_left _ (List.mem_append_left _ (List.mem_append_left _ (List.mem_append_right _ h))))))))
theorem inX3 : ∀ w ∈ wsX30, w ∈ lw_tbl := fun w h => wsL_law_in w (inlX3 w h)
theorem inlX4 : ∀ w ∈ wsX40, w ∈ wsL_law := fun _ h => List.mem_append_left _ (List.mem_append_left _ (List.mem_append_left _ (List.mem_append_left _ (List.mem_append_left _ (List.mem_append_right _ h)))))
theorem inX4 : ∀ w ∈ wsX40, w ∈ lw_tbl := fun w h => wsL_law_in w (inlX4 w h)
theorem inlX5 : ∀ w ∈ wsX50, w ∈ wsL_law := fun _ h => List.mem_append_left _ (List.mem_append_left _ (List.mem_append_left _ (List.mem_append_left _ (List.mem_append_left _ (List.mem_append_left _ (List.mem_append_left _ (List.mem_append_left _ (List.mem_append_left _ (List.mem_append_right _ h)))))))))
theorem inX5 : ∀ w ∈ wsX50, w ∈ lw_tbl := fun w h => wsL_law_in w (inlX5 w h)
theorem inX6 : ∀ w ∈ wsX60, w ∈ lw_tbl := by decide +kernel
theorem inJ6 : ∀ w ∈ wsJ60, w ∈ lw_tbl := by decide +kernel
theorem inJ9 : ∀ w ∈ wsJ90, w ∈ lw_tbl := by decide +kernel
theorem inJ0 : ∀ w ∈ wsJ00, w ∈ lw_tbl := by decide +kernel
abbrev vwCl : List vw_C := [(RX0, TX0, 8), (RX1, TX1, 3), (RX2, TX2, 2), (RX3, TX3, 3), (RX4, TX4, 12), (RX5, TX5, 6)]
end
section
theorem dX0_init_0 : decode cX0_init 0 = .ok (.aload_n 0, 1) := by decide +kernel
theorem dX0_init_1 : decode cX0_init 1 = .ok (.invokespecial 3, 3) := by decide +kernel
theorem dX0_init_4 : decode cX0_init 4 = .ok (.aload_n 0, 1) := by decide +kernel
theorem dX0_init_5 : decode cX0_init 5 = .ok (.bipush 32, 2) := by decide +kernel
theorem dX0_init_7 : decode cX0_init 7 = .ok (.newarray .int, 2) := by decide +kernel
theorem dX0_init_9 : decode cX0_init 9 = .ok (.putfield 9, 3) := by decide +kernel
theorem dX0_init_12 : decode cX0_init 12 = .ok (.aload_n 0, 1) := by decide +kernel
theorem dX0_init_13 : decode cX0_init 13 = .ok (.bipush 8, 2) := by decide +kernel
theorem dX0_init_15 : decode cX0_init 15 = .ok (.newarray .int, 2) := by decide +kernel
theorem dX0_init_17 : decode cX0_init 17 = .ok (.putfield 15, 3) := by decide +kernel
theorem dX0_init_20 : decode cX0_init 20 = .ok (.aload_n 0, 1) := by decide +kernel
theorem dX0_init_21 : decode cX0_init 21 = .ok (.iconst 0, 1) := by decide +kernel
theorem dX0_init_22 : decode cX0_init 22 = .ok (.putfield 18, 3) := by decide +kernel
theorem dX0_init_25 : decode cX0_init 25 = .ok (.aload_n 0, 1) := by decide +kernel
theorem dX0_init_26 : decode cX0_init 26 = .ok (.aconst_null, 1) := by decide +kernel
theorem dX0_init_27 : decode cX0_init 27 = .ok (.putfield 22, 3) := by decide +kernel
theorem dX0_init_30 : decode cX0_init 30 = .ok (.aload_n 0, 1) := by decide +kernel
theorem dX0_init_31 : decode cX0_init 31 = .ok (.aconst_null, 1) := by decide +kernel
theorem dX0_init_32 : decode cX0_init 32 = .ok (.putfield 26, 3) := by decide +kernel
theorem dX0_init_35 : decode cX0_init 35 = .ok (.aload_n 0, 1) := by decide +kernel
theorem dX0_init_36 : decode cX0_init 36 = .ok (.iload_n 1, 1) := by decide +kernel
theorem dX0_init_37 : decode cX0_init 37 = .ok (.putfield 30, 3) := by decide +kernel
theorem dX0_init_40 : decode cX0_init 40 = .ok (.aload_n 0, 1) := by decide +kernel
theorem dX0_init_41 : decode cX0_init 41 = .ok (.iload_n 2, 1) := by decide +kernel
theorem dX0_init_42 : decode cX0_init 42 = .ok (.putfield 33, 3) := by decide +kernel
theorem dX0_init_45 : decode cX0_init 45 = .ok (.aload_n 0, 1) := by decide +kernel
theorem dX0_init_46 : decode cX0_init 46 = .ok (.iload_n 3, 1) := by decide +kernel
theorem dX0_init_47 : decode cX0_init 47 = .ok (.putfield 36, 3) := by decide +kernel
theorem dX0_init_50 : decode cX0_init 50 = .ok (.return_, 1) := by decide +kernel
theorem dX0_weightOf_0 : decode cX0_weightOf 0 = .ok (.aload_n 0, 1) := by decide +kernel
theorem dX0_weightOf_1 : decode cX0_weightOf 1 = .ok (.getfield 9, 3) := by decide +kernel
theorem dX0_weightOf_4 : decode cX0_weightOf 4 = .ok (.iload_n 1, 1) := by decide +kernel
theorem dX0_weightOf_5 : decode cX0_weightOf 5 = .ok (.iconst 4, 1) := by decide +kernel
theorem dX0_weightOf_6 : decode cX0_weightOf 6 = .ok (.imul, 1) := by decide +kernel
theorem dX0_weightOf_7 : decode cX0_weightOf 7 = .ok (.iload_n 2, 1) := by decide +kernel
theorem dX0_weightOf_8 : decode cX0_weightOf 8 = .ok (.iadd, 1) := by decide +kernel
theorem dX0_weightOf_9 : decode cX0_weightOf 9 = .ok (.iaload, 1) := by decide +kernel
theorem dX0_weightOf_10 : decode cX0_weightOf 10 = .ok (.ireturn, 1) := by decide +kernel
theorem dX0_tellWeight_0 : decode cX0_tellWeight 0 = .ok (.aload_n 0, 1) := by decide +kernel
theorem dX0_tellWeight_1 : decode cX0_tellWeight 1 = .ok (.getfield 9, 3) := by decide +kernel
theorem dX0_tellWeight_4 : decode cX0_tellWeight 4 = .ok (.iload_n 1, 1) := by decide +kernel
theorem dX0_tellWeight_5 : decode cX0_tellWeight 5 = .ok (.iconst 4, 1) := by decide +kernel
theorem dX0_tellWeight_6 : decode cX0_tellWeight 6 = .ok (.imul, 1) := by decide +kernel
theorem dX0_tellWeight_7 : decode cX0_tellWeight 7 = .ok (.iload_n 2, 1) := by decide +kernel
theorem dX0_tellWeight_8 : decode cX0_tellWeight 8 = .ok (.iadd, 1) := by decide +kernel
theorem dX0_tellWeight_9 : decode cX0_tellWeight 9 = .ok (.iload_n 3, 1) := by decide +kernel
theorem dX0_tellWeight_10 : decode cX0_tellWeight 10 = .ok (.iastore, 1) := by decide +kernel
theorem dX0_tellWeight_11 : decode cX0_tellWeight 11 = .ok (.return_, 1) := by decide +kernel
theorem dX0_canGoOnTo_0 : decode cX0_canGoOnTo 0 = .ok (.aload_n 1, 1) := by decide +kernel
theorem dX0_canGoOnTo_1 : decode cX0_canGoOnTo 1 = .ok (.getfield 30, 3) := by decide +kernel
theorem dX0_canGoOnTo_4 : decode cX0_canGoOnTo 4 = .ok (.aload_n 0, 1) := by decide +kernel
theorem dX0_canGoOnTo_5 : decode cX0_canGoOnTo 5 = .ok (.getfield 30, 3) := by decide +kernel
theorem dX0_canGoOnTo_8 : decode cX0_canGoOnTo 8 = .ok (.if_icmp .le 18, 3) := by decide +kernel
theorem dX0_canGoOnTo_11 : decode cX0_canGoOnTo 11 = .ok (.aload_n 1, 1) := by decide +kernel
theorem dX0_canGoOnTo_12 : decode cX0_canGoOnTo 12 = .ok (.getfield 33, 3) := by decide +kernel
theorem dX0_canGoOnTo_15 : decode cX0_canGoOnTo 15 = .ok (.aload_n 0, 1) := by decide +kernel
theorem dX0_canGoOnTo_16 : decode cX0_canGoOnTo 16 = .ok (.getfield 36, 3) := by decide +kernel
theorem dX0_canGoOnTo_19 : decode cX0_canGoOnTo 19 = .ok (.if_icmp .lt 7, 3) := by decide +kernel
theorem dX0_canGoOnTo_22 : decode cX0_canGoOnTo 22 = .ok (.iconst 1, 1) := by decide +kernel
theorem dX0_canGoOnTo_23 : decode cX0_canGoOnTo 23 = .ok (.goto 4, 3) := by decide +kernel
theorem dX0_canGoOnTo_26 : decode cX0_canGoOnTo 26 = .ok (.iconst 0, 1) := by decide +kernel
theorem dX0_canGoOnTo_27 : decode cX0_canGoOnTo 27 = .ok (.ireturn, 1) := by decide +kernel
theorem dX0_columns_0 : decode cX0_columns 0 = .ok (.iconst 4, 1) := by decide +kernel
theorem dX0_columns_1 : decode cX0_columns 1 = .ok (.aload_n 0, 1) := by decide +kernel
theorem dX0_columns_2 : decode cX0_columns 2 = .ok (.getfield 36, 3) := by decide +kernel
theorem dX0_columns_5 : decode cX0_columns 5 = .ok (.imul, 1) := by decide +kernel
theorem dX0_columns_6 : decode cX0_columns 6 = .ok (.ireturn, 1) := by decide +kernel
set_option maxRecDepth 20000 in
theorem ggX0_needed_X0_weightOf : GoodIn wsX0_needed wsX0_weightOf := goodIn_r _ [5, 6, 7, 8, 9, 10, 11, 12, 13, 14] (by decide +kernel) (by decide +kernel)
set_option maxRecDepth 20000 in
theorem gX0_needed_X0_weightOf : GoodIn wsX0_needed (wsV RX0 39 RX0 yX0_weightOf wsX0_weightOf) := goodIn_app (goodIn_of _ (by decide +kernel)) ggX0_needed_X0_weightOf
theorem dX0_needed_0 : decode cX0_needed 0 = .ok (.aload_n 0, 1) := by decide +kernel
theorem dX0_needed_1 : decode cX0_needed 1 = .ok (.iload_n 1, 1) := by decide +kernel
theorem dX0_needed_2 : decode cX0_needed 2 = .ok (.iload_n 2, 1) := by decide +kernel
theorem dX0_needed_3 : decode cX0_needed 3 = .ok (.iconst 4, 1) := by decide +kernel
theorem dX0_needed_4 : decode cX0_needed 4 = .ok (.idiv, 1) := by decide +kernel
theorem dX0_needed_5 : decode cX0_needed 5 = .ok (.invokevirtual 39, 3) := by decide +kernel
theorem dX0_needed_8 : decode cX0_needed 8 = .ok (.getstatic 43, 3) := by decide +kernel
theorem dX0_needed_11 : decode cX0_needed 11 = .ok (.iload_n 2, 1) := by decide +kernel
theorem dX0_needed_12 : decode cX0_needed 12 = .ok (.iconst 4, 1) := by decide +kernel
theorem dX0_needed_13 : decode cX0_needed 13 = .ok (.irem, 1) := by decide +kernel
theorem dX0_needed_14 : decode cX0_needed 14 = .ok (.iaload, 1) := by decide +kernel
theorem dX0_needed_15 : decode cX0_needed 15 = .ok (.ifCond .ge 7, 3) := by decide +kernel
theorem dX0_needed_18 : decode cX0_needed 18 = .ok (.iconst (-1), 1) := by decide +kernel
theorem dX0_needed_19 : decode cX0_needed 19 = .ok (.goto 4, 3) := by decide +kernel
theorem dX0_needed_22 : decode cX0_needed 22 = .ok (.iconst 1, 1) := by decide +kernel
theorem dX0_needed_23 : decode cX0_needed 23 = .ok (.imul, 1) := by decide +kernel
theorem dX0_needed_24 : decode cX0_needed 24 = .ok (.istore_n 3, 1) := by decide +kernel
theorem dX0_needed_25 : decode cX0_needed 25 = .ok (.iload_n 3, 1) := by decide +kernel
theorem dX0_needed_26 : decode cX0_needed 26 = .ok (.ifCond .ge 5, 3) := by decide +kernel
theorem dX0_needed_29 : decode cX0_needed 29 = .ok (.iconst 0, 1) := by decide +kernel
theorem dX0_needed_30 : decode cX0_needed 30 = .ok (.ireturn, 1) := by decide +kernel
theorem dX0_needed_31 : decode cX0_needed 31 = .ok (.iload_n 2, 1) := by decide +kernel
theorem dX0_needed_32 : decode cX0_needed 32 = .ok (.iconst 2, 1) := by decide +kernel
theorem dX0_needed_33 : decode cX0_needed 33 = .ok (.irem, 1) := by decide +kernel
theorem dX0_needed_34 : decode cX0_needed 34 = .ok (.ifCond .ne 10, 3) := by decide +kernel
theorem dX0_needed_37 : decode cX0_needed 37 = .ok (.iload_n 3, 1) := by decide +kernel
theorem dX0_needed_38 : decode cX0_needed 38 = .ok (.bipush 16, 2) := by decide +kernel
theorem dX0_needed_40 : decode cX0_needed 40 = .ok (.irem, 1) := by decide +kernel
theorem dX0_needed_41 : decode cX0_needed 41 = .ok (.goto 7, 3) := by decide +kernel
theorem dX0_needed_44 : decode cX0_needed 44 = .ok (.iload_n 3, 1) := by decide +kernel
theorem dX0_needed_45 : decode cX0_needed 45 = .ok (.bipush 16, 2) := by decide +kernel
theorem dX0_needed_47 : decode cX0_needed 47 = .ok (.idiv, 1) := by decide +kernel
theorem dX0_needed_48 : decode cX0_needed 48 = .ok (.ireturn, 1) := by decide +kernel
set_option maxRecDepth 20000 in
theorem ggX0_writeOn_X0_columns : GoodIn wsX0_writeOn wsX0_columns := goodIn_r _ [7, 8, 48, 49, 50, 51, 52, 53, 54, 55] (by decide +kernel) (by decide +kernel)
set_option maxRecDepth 20000 in
theorem gX0_writeOn_X0_columns : GoodIn wsX0_writeOn (wsV RX0 46 RX0 yX0_columns wsX0_columns) := goodIn_app (goodIn_of _ (by decide +kernel)) ggX0_writeOn_X0_columns
set_option maxRecDepth 20000 in
theorem ggX0_writeOn_X0_needed : GoodIn wsX0_writeOn wsX0_needed := goodIn_r _ [12, 13, 14, 15, 6, 16, 17, 48, 49, 50, 51, 52, 53, 54, 55] (by decide +kernel) (by decide +kernel)
set_option maxRecDepth 20000 in
theorem gX0_writeOn_X0_needed : GoodIn wsX0_writeOn (wsV RX0 50 RX0 yX0_needed wsX0_needed) := goodIn_app (goodIn_of _ (by decide +kernel)) ggX0_writeOn_X0_needed
set_option maxRecDepth 20000 in
theorem ggX0_writeOn_X4_failsToWrite : GoodIn wsX0_writeOn wsX4_failsToWrite := goodIn_r _ [22, 23, 24, 25, 26, 27, 28, 29, 30, 31, 32, 33, 34, 21, 35, 36, 37, 38, 39, 40, 41, 42, 43, 44, 45, 46, 47, 56, 57, 58, 59, 60, 61, 62, 63, 64, 65, 66, 67, 68, 69, 70] (by decide +kernel) (by decide +kernel)
set_option maxRecDepth 20000 in
theorem gX0_writeOn_X4_failsToWrite : GoodIn wsX0_writeOn (wsV RX0 53 RX4 yX4_failsToWrite wsX4_failsToWrite) := goodIn_app (goodIn_of _ (by decide +kernel)) ggX0_writeOn_X4_failsToWrite
theorem dX0_writeOn_0 : decode cX0_writeOn 0 = .ok (.iconst 0, 1) := by decide +kernel
theorem dX0_writeOn_1 : decode cX0_writeOn 1 = .ok (.istore_n 3, 1) := by decide +kernel
theorem dX0_writeOn_2 : decode cX0_writeOn 2 = .ok (.iconst 0, 1) := by decide +kernel
theorem dX0_writeOn_3 : decode cX0_writeOn 3 = .ok (.istore 4, 2) := by decide +kernel
theorem dX0_writeOn_5 : decode cX0_writeOn 5 = .ok (.iload 4, 2) := by decide +kernel
theorem dX0_writeOn_7 : decode cX0_writeOn 7 = .ok (.aload_n 0, 1) := by decide +kernel
theorem dX0_writeOn_8 : decode cX0_writeOn 8 = .ok (.getfield 33, 3) := by decide +kernel
theorem dX0_writeOn_11 : decode cX0_writeOn 11 = .ok (.if_icmp .ge 55, 3) := by decide +kernel
theorem dX0_writeOn_14 : decode cX0_writeOn 14 = .ok (.iconst 0, 1) := by decide +kernel
theorem dX0_writeOn_15 : decode cX0_writeOn 15 = .ok (.istore 5, 2) := by decide +kernel
theorem dX0_writeOn_17 : decode cX0_writeOn 17 = .ok (.iload 5, 2) := by decide +kernel
theorem dX0_writeOn_19 : decode cX0_writeOn 19 = .ok (.aload_n 0, 1) := by decide +kernel
theorem dX0_writeOn_20 : decode cX0_writeOn 20 = .ok (.invokevirtual 46, 3) := by decide +kernel
theorem dX0_writeOn_23 : decode cX0_writeOn 23 = .ok (.if_icmp .ge 37, 3) := by decide +kernel
theorem dX0_writeOn_26 : decode cX0_writeOn 26 = .ok (.aload_n 1, 1) := by decide +kernel
theorem dX0_writeOn_27 : decode cX0_writeOn 27 = .ok (.aload_n 0, 1) := by decide +kernel
theorem dX0_writeOn_28 : decode cX0_writeOn 28 = .ok (.getfield 15, 3) := by decide +kernel
theorem dX0_writeOn_31 : decode cX0_writeOn 31 = .ok (.iload 4, 2) := by decide +kernel
theorem dX0_writeOn_33 : decode cX0_writeOn 33 = .ok (.iaload, 1) := by decide +kernel
theorem dX0_writeOn_34 : decode cX0_writeOn 34 = .ok (.iload 5, 2) := by decide +kernel
theorem dX0_writeOn_36 : decode cX0_writeOn 36 = .ok (.aload_n 0, 1) := by decide +kernel
theorem dX0_writeOn_37 : decode cX0_writeOn 37 = .ok (.iload 4, 2) := by decide +kernel
theorem dX0_writeOn_39 : decode cX0_writeOn 39 = .ok (.iload 5, 2) := by decide +kernel
theorem dX0_writeOn_41 : decode cX0_writeOn 41 = .ok (.invokevirtual 50, 3) := by decide +kernel
theorem dX0_writeOn_44 : decode cX0_writeOn 44 = .ok (.aload_n 2, 1) := by decide +kernel
theorem dX0_writeOn_45 : decode cX0_writeOn 45 = .ok (.invokevirtual 53, 3) := by decide +kernel
theorem dX0_writeOn_48 : decode cX0_writeOn 48 = .ok (.ifCond .eq 6, 3) := by decide +kernel
theorem dX0_writeOn_51 : decode cX0_writeOn 51 = .ok (.iinc 3 1, 3) := by decide +kernel
theorem dX0_writeOn_54 : decode cX0_writeOn 54 = .ok (.iinc 5 1, 3) := by decide +kernel
theorem dX0_writeOn_57 : decode cX0_writeOn 57 = .ok (.goto (-40), 3) := by decide +kernel
theorem dX0_writeOn_60 : decode cX0_writeOn 60 = .ok (.iinc 4 1, 3) := by decide +kernel
theorem dX0_writeOn_63 : decode cX0_writeOn 63 = .ok (.goto (-58), 3) := by decide +kernel
theorem dX0_writeOn_66 : decode cX0_writeOn 66 = .ok (.iload_n 3, 1) := by decide +kernel
theorem dX0_writeOn_67 : decode cX0_writeOn 67 = .ok (.ireturn, 1) := by decide +kernel
set_option maxRecDepth 20000 in
theorem ggX0_conductsAsNeeded_X0_columns : GoodIn wsX0_conductsAsNeeded wsX0_columns := goodIn_r _ [7, 8, 37, 38, 39, 40, 41, 42, 43, 44] (by decide +kernel) (by decide +kernel)
set_option maxRecDepth 20000 in
theorem gX0_conductsAsNeeded_X0_columns : GoodIn wsX0_conductsAsNeeded (wsV RX0 46 RX0 yX0_columns wsX0_columns) := goodIn_app (goodIn_of _ (by decide +kernel)) ggX0_conductsAsNeeded_X0_columns
set_option maxRecDepth 20000 in
theorem ggX0_conductsAsNeeded_X4_conducted : GoodIn wsX0_conductsAsNeeded wsX4_conducted := goodIn_r _ [13, 14, 15, 16, 17, 18, 19, 20, 21, 22, 23, 24, 25, 26, 27, 45, 46, 47, 48, 49, 50, 51, 52, 53, 54, 55, 56, 57, 58, 59] (by decide +kernel) (by decide +kernel)
set_option maxRecDepth 20000 in
theorem gX0_conductsAsNeeded_X4_conducted : GoodIn wsX0_conductsAsNeeded (wsV RX0 59 RX4 yX4_conducted wsX4_conducted) := goodIn_app (goodIn_of _ (by decide +kernel)) ggX0_conductsAsNeeded_X4_conducted
set_option maxRecDepth 20000 in
theorem ggX0_conductsAsNeeded_X0_needed : GoodIn wsX0_conductsAsNeeded wsX0_needed := goodIn_r _ [31, 32, 33, 34, 6, 35, 36, 37, 38, 39, 40, 41, 42, 43, 44] (by decide +kernel) (by decide +kernel)
set_option maxRecDepth 20000 in
theorem gX0_conductsAsNeeded_X0_needed : GoodIn wsX0_conductsAsNeeded (wsV RX0 50 RX0 yX0_needed wsX0_needed) := goodIn_app (goodIn_of _ (by decide +kernel)) ggX0_conductsAsNeeded_X0_needed
theorem dX0_conductsAsNeeded_0 : decode cX0_conductsAsNeeded 0 = .ok (.iconst 0, 1) := by decide +kernel
theorem dX0_conductsAsNeeded_1 : decode cX0_conductsAsNeeded 1 = .ok (.istore_n 3, 1) := by decide +kernel
theorem dX0_conductsAsNeeded_2 : decode cX0_conductsAsNeeded 2 = .ok (.iload_n 3, 1) := by decide +kernel
theorem dX0_conductsAsNeeded_3 : decode cX0_conductsAsNeeded 3 = .ok (.aload_n 0, 1) := by decide +kernel
theorem dX0_conductsAsNeeded_4 : decode cX0_conductsAsNeeded 4 = .ok (.getfield 33, 3) := by decide +kernel
theorem dX0_conductsAsNeeded_7 : decode cX0_conductsAsNeeded 7 = .ok (.if_icmp .ge 52, 3) := by decide +kernel
theorem dX0_conductsAsNeeded_10 : decode cX0_conductsAsNeeded 10 = .ok (.iconst 0, 1) := by decide +kernel
theorem dX0_conductsAsNeeded_11 : decode cX0_conductsAsNeeded 11 = .ok (.istore 4, 2) := by decide +kernel
theorem dX0_conductsAsNeeded_13 : decode cX0_conductsAsNeeded 13 = .ok (.iload 4, 2) := by decide +kernel
theorem dX0_conductsAsNeeded_15 : decode cX0_conductsAsNeeded 15 = .ok (.aload_n 0, 1) := by decide +kernel
theorem dX0_conductsAsNeeded_16 : decode cX0_conductsAsNeeded 16 = .ok (.invokevirtual 46, 3) := by decide +kernel
theorem dX0_conductsAsNeeded_19 : decode cX0_conductsAsNeeded 19 = .ok (.if_icmp .ge 34, 3) := by decide +kernel
theorem dX0_conductsAsNeeded_22 : decode cX0_conductsAsNeeded 22 = .ok (.aload_n 1, 1) := by decide +kernel
theorem dX0_conductsAsNeeded_23 : decode cX0_conductsAsNeeded 23 = .ok (.aload_n 0, 1) := by decide +kernel
theorem dX0_conductsAsNeeded_24 : decode cX0_conductsAsNeeded 24 = .ok (.getfield 15, 3) := by decide +kernel
theorem dX0_conductsAsNeeded_27 : decode cX0_conductsAsNeeded 27 = .ok (.iload_n 3, 1) := by decide +kernel
theorem dX0_conductsAsNeeded_28 : decode cX0_conductsAsNeeded 28 = .ok (.iaload, 1) := by decide +kernel
theorem dX0_conductsAsNeeded_29 : decode cX0_conductsAsNeeded 29 = .ok (.iload 4, 2) := by decide +kernel
theorem dX0_conductsAsNeeded_31 : decode cX0_conductsAsNeeded 31 = .ok (.aload_n 2, 1) := by decide +kernel
theorem dX0_conductsAsNeeded_32 : decode cX0_conductsAsNeeded 32 = .ok (.invokevirtual 59, 3) := by decide +kernel
theorem dX0_conductsAsNeeded_35 : decode cX0_conductsAsNeeded 35 = .ok (.aload_n 0, 1) := by decide +kernel
theorem dX0_conductsAsNeeded_36 : decode cX0_conductsAsNeeded 36 = .ok (.iload_n 3, 1) := by decide +kernel
theorem dX0_conductsAsNeeded_37 : decode cX0_conductsAsNeeded 37 = .ok (.iload 4, 2) := by decide +kernel
theorem dX0_conductsAsNeeded_39 : decode cX0_conductsAsNeeded 39 = .ok (.invokevirtual 50, 3) := by decide +kernel
theorem dX0_conductsAsNeeded_42 : decode cX0_conductsAsNeeded 42 = .ok (.if_icmp .eq 5, 3) := by decide +kernel
theorem dX0_conductsAsNeeded_45 : decode cX0_conductsAsNeeded 45 = .ok (.iconst 0, 1) := by decide +kernel
theorem dX0_conductsAsNeeded_46 : decode cX0_conductsAsNeeded 46 = .ok (.ireturn, 1) := by decide +kernel
theorem dX0_conductsAsNeeded_47 : decode cX0_conductsAsNeeded 47 = .ok (.iinc 4 1, 3) := by decide +kernel
theorem dX0_conductsAsNeeded_50 : decode cX0_conductsAsNeeded 50 = .ok (.goto (-37), 3) := by decide +kernel
theorem dX0_conductsAsNeeded_53 : decode cX0_conductsAsNeeded 53 = .ok (.iinc 3 1, 3) := by decide +kernel
theorem dX0_conductsAsNeeded_56 : decode cX0_conductsAsNeeded 56 = .ok (.goto (-54), 3) := by decide +kernel
theorem dX0_conductsAsNeeded_59 : decode cX0_conductsAsNeeded 59 = .ok (.iconst 1, 1) := by decide +kernel
theorem dX0_conductsAsNeeded_60 : decode cX0_conductsAsNeeded 60 = .ok (.ireturn, 1) := by decide +kernel
set_option maxRecDepth 20000 in
theorem ggX0_misfitsIn_X0_columns : GoodIn wsX0_misfitsIn wsX0_columns := goodIn_r _ [5, 6, 26, 27, 28, 29, 30, 31, 32, 33] (by decide +kernel) (by decide +kernel)
set_option maxRecDepth 20000 in
theorem gX0_misfitsIn_X0_columns : GoodIn wsX0_misfitsIn (wsV RX0 46 RX0 yX0_columns wsX0_columns) := goodIn_app (goodIn_of _ (by decide +kernel)) ggX0_misfitsIn_X0_columns
set_option maxRecDepth 20000 in
theorem ggX0_misfitsIn_X0_needed : GoodIn wsX0_misfitsIn wsX0_needed := goodIn_r _ [10, 11, 12, 13, 4, 14, 15, 26, 27, 28, 29, 30, 31, 32, 33] (by decide +kernel) (by decide +kernel)
set_option maxRecDepth 20000 in
theorem gX0_misfitsIn_X0_needed : GoodIn wsX0_misfitsIn (wsV RX0 50 RX0 yX0_needed wsX0_needed) := goodIn_app (goodIn_of _ (by decide +kernel)) ggX0_misfitsIn_X0_needed
set_option maxRecDepth 20000 in
theorem ggX0_misfitsIn_X4_isMisfit : GoodIn wsX0_misfitsIn wsX4_isMisfit := goodIn_r _ [20, 21, 22, 23, 24, 25, 34, 35, 36, 37, 38, 39, 40, 41, 42, 43, 44, 45] (by decide +kernel) (by decide +kernel)
set_option maxRecDepth 20000 in
theorem gX0_misfitsIn_X4_isMisfit : GoodIn wsX0_misfitsIn (wsV RX0 63 RX4 yX4_isMisfit wsX4_isMisfit) := goodIn_app (goodIn_of _ (by decide +kernel)) ggX0_misfitsIn_X4_isMisfit
theorem dX0_misfitsIn_0 : decode cX0_misfitsIn 0 = .ok (.iconst 0, 1) := by decide +kernel
theorem dX0_misfitsIn_1 : decode cX0_misfitsIn 1 = .ok (.istore 4, 2) := by decide +kernel
theorem dX0_misfitsIn_3 : decode cX0_misfitsIn 3 = .ok (.iconst 0, 1) := by decide +kernel
theorem dX0_misfitsIn_4 : decode cX0_misfitsIn 4 = .ok (.istore 5, 2) := by decide +kernel
theorem dX0_misfitsIn_6 : decode cX0_misfitsIn 6 = .ok (.iload 5, 2) := by decide +kernel
theorem dX0_misfitsIn_8 : decode cX0_misfitsIn 8 = .ok (.aload_n 0, 1) := by decide +kernel
theorem dX0_misfitsIn_9 : decode cX0_misfitsIn 9 = .ok (.invokevirtual 46, 3) := by decide +kernel
theorem dX0_misfitsIn_12 : decode cX0_misfitsIn 12 = .ok (.if_icmp .ge 29, 3) := by decide +kernel
theorem dX0_misfitsIn_15 : decode cX0_misfitsIn 15 = .ok (.aload_n 1, 1) := by decide +kernel
theorem dX0_misfitsIn_16 : decode cX0_misfitsIn 16 = .ok (.iload_n 3, 1) := by decide +kernel
theorem dX0_misfitsIn_17 : decode cX0_misfitsIn 17 = .ok (.iload 5, 2) := by decide +kernel
theorem dX0_misfitsIn_19 : decode cX0_misfitsIn 19 = .ok (.aload_n 0, 1) := by decide +kernel
theorem dX0_misfitsIn_20 : decode cX0_misfitsIn 20 = .ok (.iload_n 2, 1) := by decide +kernel
theorem dX0_misfitsIn_21 : decode cX0_misfitsIn 21 = .ok (.iload 5, 2) := by decide +kernel
theorem dX0_misfitsIn_23 : decode cX0_misfitsIn 23 = .ok (.invokevirtual 50, 3) := by decide +kernel
theorem dX0_misfitsIn_26 : decode cX0_misfitsIn 26 = .ok (.invokevirtual 63, 3) := by decide +kernel
theorem dX0_misfitsIn_29 : decode cX0_misfitsIn 29 = .ok (.ifCond .eq 6, 3) := by decide +kernel
theorem dX0_misfitsIn_32 : decode cX0_misfitsIn 32 = .ok (.iinc 4 1, 3) := by decide +kernel
theorem dX0_misfitsIn_35 : decode cX0_misfitsIn 35 = .ok (.iinc 5 1, 3) := by decide +kernel
theorem dX0_misfitsIn_38 : decode cX0_misfitsIn 38 = .ok (.goto (-32), 3) := by decide +kernel
theorem dX0_misfitsIn_41 : decode cX0_misfitsIn 41 = .ok (.iload 4, 2) := by decide +kernel
theorem dX0_misfitsIn_43 : decode cX0_misfitsIn 43 = .ok (.ireturn, 1) := by decide +kernel
set_option maxRecDepth 20000 in
theorem ggX0_answerOn_X0_currentOn : GoodIn wsX0_answerOn wsX0_currentOn := goodIn_r _ [5, 6, 7, 8, 9, 10, 11, 12, 13, 14, 15, 16, 17, 18, 19, 20, 21, 22, 23, 24, 25, 26, 27, 28, 40, 41, 42, 43, 44, 45, 46, 47, 48, 49, 50, 51, 52, 53, 54, 55, 56, 57, 58, 59, 60, 61, 62] (by decide +kernel) (by decide +kernel)
set_option maxRecDepth 20000 in
theorem gX0_answerOn_X0_currentOn : GoodIn wsX0_answerOn (wsV RX0 67 RX0 yX0_currentOn wsX0_currentOn) := goodIn_app (goodIn_of _ (by decide +kernel)) ggX0_answerOn_X0_currentOn
set_option maxRecDepth 20000 in
theorem ggX0_answerOn_X4_read : GoodIn wsX0_answerOn wsX4_read := goodIn_r _ [32, 33, 34, 21, 22, 23, 24, 35, 36, 37, 38, 39, 27, 9, 28, 51, 52, 53, 54, 55, 56, 57, 58, 59, 60, 61, 62] (by decide +kernel) (by decide +kernel)
set_option maxRecDepth 20000 in
theorem gX0_answerOn_X4_read : GoodIn wsX0_answerOn (wsV RX0 71 RX4 yX4_read wsX4_read) := goodIn_app (goodIn_of _ (by decide +kernel)) ggX0_answerOn_X4_read
theorem dX0_answerOn_0 : decode cX0_answerOn 0 = .ok (.iconst 0, 1) := by decide +kernel
theorem dX0_answerOn_1 : decode cX0_answerOn 1 = .ok (.istore 6, 2) := by decide +kernel
theorem dX0_answerOn_3 : decode cX0_answerOn 3 = .ok (.iconst 0, 1) := by decide +kernel
theorem dX0_answerOn_4 : decode cX0_answerOn 4 = .ok (.istore 7, 2) := by decide +kernel
theorem dX0_answerOn_6 : decode cX0_answerOn 6 = .ok (.iload 7, 2) := by decide +kernel
theorem dX0_answerOn_8 : decode cX0_answerOn 8 = .ok (.bipush 8, 2) := by decide +kernel
theorem dX0_answerOn_10 : decode cX0_answerOn 10 = .ok (.if_icmp .ge 71, 3) := by decide +kernel
theorem dX0_answerOn_13 : decode cX0_answerOn 13 = .ok (.iconst 0, 1) := by decide +kernel
theorem dX0_answerOn_14 : decode cX0_answerOn 14 = .ok (.istore 8, 2) := by decide +kernel
theorem dX0_answerOn_16 : decode cX0_answerOn 16 = .ok (.iload 8, 2) := by decide +kernel
theorem dX0_answerOn_18 : decode cX0_answerOn 18 = .ok (.iconst 4, 1) := by decide +kernel
theorem dX0_answerOn_19 : decode cX0_answerOn 19 = .ok (.if_icmp .ge 56, 3) := by decide +kernel
theorem dX0_answerOn_22 : decode cX0_answerOn 22 = .ok (.iload 4, 2) := by decide +kernel
theorem dX0_answerOn_24 : decode cX0_answerOn 24 = .ok (.iconst 4, 1) := by decide +kernel
theorem dX0_answerOn_25 : decode cX0_answerOn 25 = .ok (.imul, 1) := by decide +kernel
theorem dX0_answerOn_26 : decode cX0_answerOn 26 = .ok (.iload 8, 2) := by decide +kernel
theorem dX0_answerOn_28 : decode cX0_answerOn 28 = .ok (.iadd, 1) := by decide +kernel
theorem dX0_answerOn_29 : decode cX0_answerOn 29 = .ok (.istore 9, 2) := by decide +kernel
theorem dX0_answerOn_31 : decode cX0_answerOn 31 = .ok (.aload_n 0, 1) := by decide +kernel
theorem dX0_answerOn_32 : decode cX0_answerOn 32 = .ok (.aload_n 1, 1) := by decide +kernel
theorem dX0_answerOn_33 : decode cX0_answerOn 33 = .ok (.lload_n 2, 1) := by decide +kernel
theorem dX0_answerOn_34 : decode cX0_answerOn 34 = .ok (.iload 7, 2) := by decide +kernel
theorem dX0_answerOn_36 : decode cX0_answerOn 36 = .ok (.lshr, 1) := by decide +kernel
theorem dX0_answerOn_37 : decode cX0_answerOn 37 = .ok (.iload 9, 2) := by decide +kernel
theorem dX0_answerOn_39 : decode cX0_answerOn 39 = .ok (.aload 5, 2) := by decide +kernel
theorem dX0_answerOn_41 : decode cX0_answerOn 41 = .ok (.invokevirtual 67, 3) := by decide +kernel
theorem dX0_answerOn_44 : decode cX0_answerOn 44 = .ok (.istore 10, 2) := by decide +kernel
theorem dX0_answerOn_46 : decode cX0_answerOn 46 = .ok (.iload 6, 2) := by decide +kernel
theorem dX0_answerOn_48 : decode cX0_answerOn 48 = .ok (.getstatic 43, 3) := by decide +kernel
theorem dX0_answerOn_51 : decode cX0_answerOn 51 = .ok (.iload 8, 2) := by decide +kernel
theorem dX0_answerOn_53 : decode cX0_answerOn 53 = .ok (.iaload, 1) := by decide +kernel
theorem dX0_answerOn_54 : decode cX0_answerOn 54 = .ok (.aload_n 1, 1) := by decide +kernel
theorem dX0_answerOn_55 : decode cX0_answerOn 55 = .ok (.iload 9, 2) := by decide +kernel
theorem dX0_answerOn_57 : decode cX0_answerOn 57 = .ok (.iload 10, 2) := by decide +kernel
theorem dX0_answerOn_59 : decode cX0_answerOn 59 = .ok (.invokevirtual 71, 3) := by decide +kernel
theorem dX0_answerOn_62 : decode cX0_answerOn 62 = .ok (.imul, 1) := by decide +kernel
theorem dX0_answerOn_63 : decode cX0_answerOn 63 = .ok (.iload 7, 2) := by decide +kernel
theorem dX0_answerOn_65 : decode cX0_answerOn 65 = .ok (.ishl, 1) := by decide +kernel
theorem dX0_answerOn_66 : decode cX0_answerOn 66 = .ok (.iadd, 1) := by decide +kernel
theorem dX0_answerOn_67 : decode cX0_answerOn 67 = .ok (.istore 6, 2) := by decide +kernel
theorem dX0_answerOn_69 : decode cX0_answerOn 69 = .ok (.iinc 8 1, 3) := by decide +kernel
theorem dX0_answerOn_72 : decode cX0_answerOn 72 = .ok (.goto (-56), 3) := by decide +kernel
theorem dX0_answerOn_75 : decode cX0_answerOn 75 = .ok (.iinc 7 1, 3) := by decide +kernel
theorem dX0_answerOn_78 : decode cX0_answerOn 78 = .ok (.goto (-72), 3) := by decide +kernel
theorem dX0_answerOn_81 : decode cX0_answerOn 81 = .ok (.iload 6, 2) := by decide +kernel
theorem dX0_answerOn_83 : decode cX0_answerOn 83 = .ok (.ireturn, 1) := by decide +kernel
set_option maxRecDepth 20000 in
theorem ggX0_currentOn_X5_inputOf : GoodIn wsX0_currentOn wsX5_inputOf := goodIn_r _ [5] (by decide +kernel) (by decide +kernel)
set_option maxRecDepth 20000 in
theorem gX0_currentOn_X5_inputOf_n74 : GoodIn wsX0_currentOn (wsX5_inputOf) := ggX0_currentOn_X5_inputOf
set_option maxRecDepth 20000 in
theorem ggX0_currentOn_X4_conducted : GoodIn wsX0_currentOn wsX4_conducted := goodIn_r _ [10, 11, 12, 13, 14, 15, 16, 17, 18, 19, 20, 4, 21, 22, 23, 32, 33, 34, 35, 36, 37, 38, 39, 40, 41, 42, 43, 44, 45, 46] (by decide +kernel) (by decide +kernel)
set_option maxRecDepth 20000 in
theorem gX0_currentOn_X4_conducted : GoodIn wsX0_currentOn (wsV RX0 59 RX4 yX4_conducted wsX4_conducted) := goodIn_app (goodIn_of _ (by decide +kernel)) ggX0_currentOn_X4_conducted
theorem dX0_currentOn_0 : decode cX0_currentOn 0 = .ok (.iconst 0, 1) := by decide +kernel
theorem dX0_currentOn_1 : decode cX0_currentOn 1 = .ok (.istore 6, 2) := by decide +kernel
theorem dX0_currentOn_3 : decode cX0_currentOn 3 = .ok (.iconst 0, 1) := by decide +kernel
theorem dX0_currentOn_4 : decode cX0_currentOn 4 = .ok (.istore 7, 2) := by decide +kernel
theorem dX0_currentOn_6 : decode cX0_currentOn 6 = .ok (.iload 7, 2) := by decide +kernel
theorem dX0_currentOn_8 : decode cX0_currentOn 8 = .ok (.aload_n 0, 1) := by decide +kernel
theorem dX0_currentOn_9 : decode cX0_currentOn 9 = .ok (.getfield 33, 3) := by decide +kernel
theorem dX0_currentOn_12 : decode cX0_currentOn 12 = .ok (.if_icmp .ge 41, 3) := by decide +kernel
theorem dX0_currentOn_15 : decode cX0_currentOn 15 = .ok (.lload_n 2, 1) := by decide +kernel
theorem dX0_currentOn_16 : decode cX0_currentOn 16 = .ok (.iload 7, 2) := by decide +kernel
theorem dX0_currentOn_18 : decode cX0_currentOn 18 = .ok (.invokestatic 74, 3) := by decide +kernel
theorem dX0_currentOn_21 : decode cX0_currentOn 21 = .ok (.iconst 1, 1) := by decide +kernel
theorem dX0_currentOn_22 : decode cX0_currentOn 22 = .ok (.iand, 1) := by decide +kernel
theorem dX0_currentOn_23 : decode cX0_currentOn 23 = .ok (.iconst 1, 1) := by decide +kernel
theorem dX0_currentOn_24 : decode cX0_currentOn 24 = .ok (.if_icmp .ne 23, 3) := by decide +kernel
theorem dX0_currentOn_27 : decode cX0_currentOn 27 = .ok (.iload 6, 2) := by decide +kernel
theorem dX0_currentOn_29 : decode cX0_currentOn 29 = .ok (.aload_n 1, 1) := by decide +kernel
theorem dX0_currentOn_30 : decode cX0_currentOn 30 = .ok (.aload_n 0, 1) := by decide +kernel
theorem dX0_currentOn_31 : decode cX0_currentOn 31 = .ok (.getfield 15, 3) := by decide +kernel
theorem dX0_currentOn_34 : decode cX0_currentOn 34 = .ok (.iload 7, 2) := by decide +kernel
theorem dX0_currentOn_36 : decode cX0_currentOn 36 = .ok (.iaload, 1) := by decide +kernel
theorem dX0_currentOn_37 : decode cX0_currentOn 37 = .ok (.iload 4, 2) := by decide +kernel
theorem dX0_currentOn_39 : decode cX0_currentOn 39 = .ok (.aload 5, 2) := by decide +kernel
theorem dX0_currentOn_41 : decode cX0_currentOn 41 = .ok (.invokevirtual 59, 3) := by decide +kernel
theorem dX0_currentOn_44 : decode cX0_currentOn 44 = .ok (.iadd, 1) := by decide +kernel
theorem dX0_currentOn_45 : decode cX0_currentOn 45 = .ok (.istore 6, 2) := by decide +kernel
theorem dX0_currentOn_47 : decode cX0_currentOn 47 = .ok (.iinc 7 1, 3) := by decide +kernel
theorem dX0_currentOn_50 : decode cX0_currentOn 50 = .ok (.goto (-44), 3) := by decide +kernel
theorem dX0_currentOn_53 : decode cX0_currentOn 53 = .ok (.iload 6, 2) := by decide +kernel
theorem dX0_currentOn_55 : decode cX0_currentOn 55 = .ok (.ireturn, 1) := by decide +kernel
set_option maxRecDepth 20000 in
theorem ggX0_idealAnswer_X0_weightOf : GoodIn wsX0_idealAnswer wsX0_weightOf := goodIn_r _ [6, 7, 11, 12, 13, 14, 15, 16, 17, 18] (by decide +kernel) (by decide +kernel)
set_option maxRecDepth 20000 in
theorem gX0_idealAnswer_X0_weightOf : GoodIn wsX0_idealAnswer (wsV RX0 39 RX0 yX0_weightOf wsX0_weightOf) := goodIn_app (goodIn_of _ (by decide +kernel)) ggX0_idealAnswer_X0_weightOf
set_option maxRecDepth 20000 in
theorem ggX0_idealAnswer_X5_inputOf : GoodIn wsX0_idealAnswer wsX5_inputOf := goodIn_r _ [10] (by decide +kernel) (by decide +kernel)
set_option maxRecDepth 20000 in
theorem gX0_idealAnswer_X5_inputOf_n74 : GoodIn wsX0_idealAnswer (wsX5_inputOf) := ggX0_idealAnswer_X5_inputOf
theorem dX0_idealAnswer_0 : decode cX0_idealAnswer 0 = .ok (.iconst 0, 1) := by decide +kernel
theorem dX0_idealAnswer_1 : decode cX0_idealAnswer 1 = .ok (.istore 4, 2) := by decide +kernel
theorem dX0_idealAnswer_3 : decode cX0_idealAnswer 3 = .ok (.iconst 0, 1) := by decide +kernel
theorem dX0_idealAnswer_4 : decode cX0_idealAnswer 4 = .ok (.istore 5, 2) := by decide +kernel
theorem dX0_idealAnswer_6 : decode cX0_idealAnswer 6 = .ok (.iload 5, 2) := by decide +kernel
theorem dX0_idealAnswer_8 : decode cX0_idealAnswer 8 = .ok (.aload_n 0, 1) := by decide +kernel
theorem dX0_idealAnswer_9 : decode cX0_idealAnswer 9 = .ok (.getfield 33, 3) := by decide +kernel
theorem dX0_idealAnswer_12 : decode cX0_idealAnswer 12 = .ok (.if_icmp .ge 28, 3) := by decide +kernel
theorem dX0_idealAnswer_15 : decode cX0_idealAnswer 15 = .ok (.iload 4, 2) := by decide +kernel
theorem dX0_idealAnswer_17 : decode cX0_idealAnswer 17 = .ok (.aload_n 0, 1) := by decide +kernel
theorem dX0_idealAnswer_18 : decode cX0_idealAnswer 18 = .ok (.iload 5, 2) := by decide +kernel
theorem dX0_idealAnswer_20 : decode cX0_idealAnswer 20 = .ok (.iload_n 3, 1) := by decide +kernel
theorem dX0_idealAnswer_21 : decode cX0_idealAnswer 21 = .ok (.invokevirtual 39, 3) := by decide +kernel
theorem dX0_idealAnswer_24 : decode cX0_idealAnswer 24 = .ok (.lload_n 1, 1) := by decide +kernel
theorem dX0_idealAnswer_25 : decode cX0_idealAnswer 25 = .ok (.iload 5, 2) := by decide +kernel
theorem dX0_idealAnswer_27 : decode cX0_idealAnswer 27 = .ok (.invokestatic 74, 3) := by decide +kernel
theorem dX0_idealAnswer_30 : decode cX0_idealAnswer 30 = .ok (.imul, 1) := by decide +kernel
theorem dX0_idealAnswer_31 : decode cX0_idealAnswer 31 = .ok (.iadd, 1) := by decide +kernel
theorem dX0_idealAnswer_32 : decode cX0_idealAnswer 32 = .ok (.istore 4, 2) := by decide +kernel
theorem dX0_idealAnswer_34 : decode cX0_idealAnswer 34 = .ok (.iinc 5 1, 3) := by decide +kernel
theorem dX0_idealAnswer_37 : decode cX0_idealAnswer 37 = .ok (.goto (-31), 3) := by decide +kernel
theorem dX0_idealAnswer_40 : decode cX0_idealAnswer 40 = .ok (.iload 4, 2) := by decide +kernel
theorem dX0_idealAnswer_42 : decode cX0_idealAnswer 42 = .ok (.ireturn, 1) := by decide +kernel
set_option maxRecDepth 20000 in
theorem ggX0_boundOn_X0_needOf : GoodIn wsX0_boundOn wsX0_needOf := goodIn_r _ [5, 6, 7, 8, 9, 4, 10, 11, 12, 13, 14, 15, 43, 44, 45, 46, 47, 48, 49, 50] (by decide +kernel) (by decide +kernel)
set_option maxRecDepth 20000 in
theorem gX0_boundOn_X0_needOf : GoodIn wsX0_boundOn (wsV RX0 78 RX0 yX0_needOf wsX0_needOf) := goodIn_app (goodIn_of _ (by decide +kernel)) ggX0_boundOn_X0_needOf
set_option maxRecDepth 20000 in
theorem ggX0_boundOn_X4_greatestError : GoodIn wsX0_boundOn wsX4_greatestError := goodIn_r _ [20, 21, 22, 23, 24, 25, 26, 27, 19, 28, 29, 30, 31, 32, 33, 34, 35, 36, 37, 38, 51, 52, 53, 54, 55, 56, 57, 58, 59, 60, 61, 62] (by decide +kernel) (by decide +kernel)
set_option maxRecDepth 20000 in
theorem gX0_boundOn_X4_greatestError : GoodIn wsX0_boundOn (wsV RX0 82 RX4 yX4_greatestError wsX4_greatestError) := goodIn_app (goodIn_of _ (by decide +kernel)) ggX0_boundOn_X4_greatestError
set_option maxRecDepth 20000 in
theorem ggX0_boundOn_X4_leastError : GoodIn wsX0_boundOn wsX4_leastError := goodIn_r _ [42, 33, 34, 23, 35, 25, 26, 27, 19, 28, 29, 30, 21, 22, 24, 31, 32, 36, 37, 38, 51, 52, 53, 54, 55, 56, 57, 58, 59, 60, 61, 62] (by decide +kernel) (by decide +kernel)
set_option maxRecDepth 20000 in
theorem gX0_boundOn_X4_leastError : GoodIn wsX0_boundOn (wsV RX0 85 RX4 yX4_leastError wsX4_leastError) := goodIn_app (goodIn_of _ (by decide +kernel)) ggX0_boundOn_X4_leastError
theorem dX0_boundOn_0 : decode cX0_boundOn 0 = .ok (.iconst 0, 1) := by decide +kernel
theorem dX0_boundOn_1 : decode cX0_boundOn 1 = .ok (.istore 4, 2) := by decide +kernel
theorem dX0_boundOn_3 : decode cX0_boundOn 3 = .ok (.iconst 0, 1) := by decide +kernel
theorem dX0_boundOn_4 : decode cX0_boundOn 4 = .ok (.istore 5, 2) := by decide +kernel
theorem dX0_boundOn_6 : decode cX0_boundOn 6 = .ok (.iload 5, 2) := by decide +kernel
theorem dX0_boundOn_8 : decode cX0_boundOn 8 = .ok (.iconst 4, 1) := by decide +kernel
theorem dX0_boundOn_9 : decode cX0_boundOn 9 = .ok (.if_icmp .ge 86, 3) := by decide +kernel
theorem dX0_boundOn_12 : decode cX0_boundOn 12 = .ok (.iload_n 2, 1) := by decide +kernel
theorem dX0_boundOn_13 : decode cX0_boundOn 13 = .ok (.iconst 4, 1) := by decide +kernel
theorem dX0_boundOn_14 : decode cX0_boundOn 14 = .ok (.imul, 1) := by decide +kernel
theorem dX0_boundOn_15 : decode cX0_boundOn 15 = .ok (.iload 5, 2) := by decide +kernel
theorem dX0_boundOn_17 : decode cX0_boundOn 17 = .ok (.iadd, 1) := by decide +kernel
theorem dX0_boundOn_18 : decode cX0_boundOn 18 = .ok (.istore 6, 2) := by decide +kernel
theorem dX0_boundOn_20 : decode cX0_boundOn 20 = .ok (.aload_n 0, 1) := by decide +kernel
theorem dX0_boundOn_21 : decode cX0_boundOn 21 = .ok (.iload 6, 2) := by decide +kernel
theorem dX0_boundOn_23 : decode cX0_boundOn 23 = .ok (.invokevirtual 78, 3) := by decide +kernel
theorem dX0_boundOn_26 : decode cX0_boundOn 26 = .ok (.istore 7, 2) := by decide +kernel
theorem dX0_boundOn_28 : decode cX0_boundOn 28 = .ok (.iload_n 3, 1) := by decide +kernel
theorem dX0_boundOn_29 : decode cX0_boundOn 29 = .ok (.getstatic 43, 3) := by decide +kernel
theorem dX0_boundOn_32 : decode cX0_boundOn 32 = .ok (.iload 5, 2) := by decide +kernel
theorem dX0_boundOn_34 : decode cX0_boundOn 34 = .ok (.iaload, 1) := by decide +kernel
theorem dX0_boundOn_35 : decode cX0_boundOn 35 = .ok (.ifCond .le 7, 3) := by decide +kernel
theorem dX0_boundOn_38 : decode cX0_boundOn 38 = .ok (.iconst 1, 1) := by decide +kernel
theorem dX0_boundOn_39 : decode cX0_boundOn 39 = .ok (.goto 4, 3) := by decide +kernel
theorem dX0_boundOn_42 : decode cX0_boundOn 42 = .ok (.iconst 0, 1) := by decide +kernel
theorem dX0_boundOn_43 : decode cX0_boundOn 43 = .ok (.if_icmp .ne 7, 3) := by decide +kernel
theorem dX0_boundOn_46 : decode cX0_boundOn 46 = .ok (.iconst 1, 1) := by decide +kernel
theorem dX0_boundOn_47 : decode cX0_boundOn 47 = .ok (.goto 4, 3) := by decide +kernel
theorem dX0_boundOn_50 : decode cX0_boundOn 50 = .ok (.iconst 0, 1) := by decide +kernel
theorem dX0_boundOn_51 : decode cX0_boundOn 51 = .ok (.istore 8, 2) := by decide +kernel
theorem dX0_boundOn_53 : decode cX0_boundOn 53 = .ok (.iload 4, 2) := by decide +kernel
theorem dX0_boundOn_55 : decode cX0_boundOn 55 = .ok (.getstatic 43, 3) := by decide +kernel
theorem dX0_boundOn_58 : decode cX0_boundOn 58 = .ok (.iload 5, 2) := by decide +kernel
theorem dX0_boundOn_60 : decode cX0_boundOn 60 = .ok (.iaload, 1) := by decide +kernel
theorem dX0_boundOn_61 : decode cX0_boundOn 61 = .ok (.iload 8, 2) := by decide +kernel
theorem dX0_boundOn_63 : decode cX0_boundOn 63 = .ok (.ifCond .eq 14, 3) := by decide +kernel
theorem dX0_boundOn_66 : decode cX0_boundOn 66 = .ok (.aload_n 1, 1) := by decide +kernel
theorem dX0_boundOn_67 : decode cX0_boundOn 67 = .ok (.iload 6, 2) := by decide +kernel
theorem dX0_boundOn_69 : decode cX0_boundOn 69 = .ok (.iload 7, 2) := by decide +kernel
theorem dX0_boundOn_71 : decode cX0_boundOn 71 = .ok (.invokevirtual 82, 3) := by decide +kernel
theorem dX0_boundOn_74 : decode cX0_boundOn 74 = .ok (.goto 11, 3) := by decide +kernel
theorem dX0_boundOn_77 : decode cX0_boundOn 77 = .ok (.aload_n 1, 1) := by decide +kernel
theorem dX0_boundOn_78 : decode cX0_boundOn 78 = .ok (.iload 6, 2) := by decide +kernel
theorem dX0_boundOn_80 : decode cX0_boundOn 80 = .ok (.iload 7, 2) := by decide +kernel
theorem dX0_boundOn_82 : decode cX0_boundOn 82 = .ok (.invokevirtual 85, 3) := by decide +kernel
theorem dX0_boundOn_85 : decode cX0_boundOn 85 = .ok (.imul, 1) := by decide +kernel
theorem dX0_boundOn_86 : decode cX0_boundOn 86 = .ok (.iadd, 1) := by decide +kernel
theorem dX0_boundOn_87 : decode cX0_boundOn 87 = .ok (.istore 4, 2) := by decide +kernel
theorem dX0_boundOn_89 : decode cX0_boundOn 89 = .ok (.iinc 5 1, 3) := by decide +kernel
theorem dX0_boundOn_92 : decode cX0_boundOn 92 = .ok (.goto (-86), 3) := by decide +kernel
theorem dX0_boundOn_95 : decode cX0_boundOn 95 = .ok (.sipush 255, 3) := by decide +kernel
theorem dX0_boundOn_98 : decode cX0_boundOn 98 = .ok (.iload 4, 2) := by decide +kernel
theorem dX0_boundOn_100 : decode cX0_boundOn 100 = .ok (.imul, 1) := by decide +kernel
theorem dX0_boundOn_101 : decode cX0_boundOn 101 = .ok (.ireturn, 1) := by decide +kernel
set_option maxRecDepth 20000 in
theorem ggX0_needOf_X0_needed : GoodIn wsX0_needOf wsX0_needed := goodIn_r _ [6, 7, 8, 9, 5, 10, 11, 12, 13, 14, 15, 16, 17, 18, 19] (by decide +kernel) (by decide +kernel)
set_option maxRecDepth 20000 in
theorem gX0_needOf_X0_needed : GoodIn wsX0_needOf (wsV RX0 50 RX0 yX0_needed wsX0_needed) := goodIn_app (goodIn_of _ (by decide +kernel)) ggX0_needOf_X0_needed
theorem dX0_needOf_0 : decode cX0_needOf 0 = .ok (.iconst 0, 1) := by decide +kernel
theorem dX0_needOf_1 : decode cX0_needOf 1 = .ok (.istore_n 2, 1) := by decide +kernel
theorem dX0_needOf_2 : decode cX0_needOf 2 = .ok (.iconst 0, 1) := by decide +kernel
theorem dX0_needOf_3 : decode cX0_needOf 3 = .ok (.istore_n 3, 1) := by decide +kernel
theorem dX0_needOf_4 : decode cX0_needOf 4 = .ok (.iload_n 3, 1) := by decide +kernel
theorem dX0_needOf_5 : decode cX0_needOf 5 = .ok (.aload_n 0, 1) := by decide +kernel
theorem dX0_needOf_6 : decode cX0_needOf 6 = .ok (.getfield 33, 3) := by decide +kernel
theorem dX0_needOf_9 : decode cX0_needOf 9 = .ok (.if_icmp .ge 18, 3) := by decide +kernel
theorem dX0_needOf_12 : decode cX0_needOf 12 = .ok (.iload_n 2, 1) := by decide +kernel
theorem dX0_needOf_13 : decode cX0_needOf 13 = .ok (.aload_n 0, 1) := by decide +kernel
theorem dX0_needOf_14 : decode cX0_needOf 14 = .ok (.iload_n 3, 1) := by decide +kernel
theorem dX0_needOf_15 : decode cX0_needOf 15 = .ok (.iload_n 1, 1) := by decide +kernel
theorem dX0_needOf_16 : decode cX0_needOf 16 = .ok (.invokevirtual 50, 3) := by decide +kernel
theorem dX0_needOf_19 : decode cX0_needOf 19 = .ok (.iadd, 1) := by decide +kernel
theorem dX0_needOf_20 : decode cX0_needOf 20 = .ok (.istore_n 2, 1) := by decide +kernel
theorem dX0_needOf_21 : decode cX0_needOf 21 = .ok (.iinc 3 1, 3) := by decide +kernel
theorem dX0_needOf_24 : decode cX0_needOf 24 = .ok (.goto (-20), 3) := by decide +kernel
theorem dX0_needOf_27 : decode cX0_needOf 27 = .ok (.iload_n 2, 1) := by decide +kernel
theorem dX0_needOf_28 : decode cX0_needOf 28 = .ok (.ireturn, 1) := by decide +kernel
set_option maxRecDepth 20000 in
theorem ggX0_cyclesOn_X0_columns : GoodIn wsX0_cyclesOn wsX0_columns := goodIn_r _ [6, 7, 23, 24, 25, 26, 27, 28, 29, 30] (by decide +kernel) (by decide +kernel)
set_option maxRecDepth 20000 in
theorem gX0_cyclesOn_X0_columns : GoodIn wsX0_cyclesOn (wsV RX0 46 RX0 yX0_columns wsX0_columns) := goodIn_app (goodIn_of _ (by decide +kernel)) ggX0_cyclesOn_X0_columns
set_option maxRecDepth 20000 in
theorem ggX0_cyclesOn_X5_quotient : GoodIn wsX0_cyclesOn wsX5_quotient := goodIn_r _ [10] (by decide +kernel) (by decide +kernel)
set_option maxRecDepth 20000 in
theorem gX0_cyclesOn_X5_quotient_n91 : GoodIn wsX0_cyclesOn (wsX5_quotient) := ggX0_cyclesOn_X5_quotient
theorem dX0_cyclesOn_0 : decode cX0_cyclesOn 0 = .ok (.bipush 8, 2) := by decide +kernel
theorem dX0_cyclesOn_2 : decode cX0_cyclesOn 2 = .ok (.aload_n 0, 1) := by decide +kernel
theorem dX0_cyclesOn_3 : decode cX0_cyclesOn 3 = .ok (.invokevirtual 46, 3) := by decide +kernel
theorem dX0_cyclesOn_6 : decode cX0_cyclesOn 6 = .ok (.aload_n 1, 1) := by decide +kernel
theorem dX0_cyclesOn_7 : decode cX0_cyclesOn 7 = .ok (.getfield 88, 3) := by decide +kernel
theorem dX0_cyclesOn_10 : decode cX0_cyclesOn 10 = .ok (.iadd, 1) := by decide +kernel
theorem dX0_cyclesOn_11 : decode cX0_cyclesOn 11 = .ok (.iconst 1, 1) := by decide +kernel
theorem dX0_cyclesOn_12 : decode cX0_cyclesOn 12 = .ok (.isub, 1) := by decide +kernel
theorem dX0_cyclesOn_13 : decode cX0_cyclesOn 13 = .ok (.aload_n 1, 1) := by decide +kernel
theorem dX0_cyclesOn_14 : decode cX0_cyclesOn 14 = .ok (.getfield 88, 3) := by decide +kernel
theorem dX0_cyclesOn_17 : decode cX0_cyclesOn 17 = .ok (.invokestatic 91, 3) := by decide +kernel
theorem dX0_cyclesOn_20 : decode cX0_cyclesOn 20 = .ok (.imul, 1) := by decide +kernel
theorem dX0_cyclesOn_21 : decode cX0_cyclesOn 21 = .ok (.ireturn, 1) := by decide +kernel
theorem dX1_init_0 : decode cX1_init 0 = .ok (.aload_n 0, 1) := by decide +kernel
theorem dX1_init_1 : decode cX1_init 1 = .ok (.invokespecial 3, 3) := by decide +kernel
theorem dX1_init_4 : decode cX1_init 4 = .ok (.aload_n 0, 1) := by decide +kernel
theorem dX1_init_5 : decode cX1_init 5 = .ok (.bipush 6, 2) := by decide +kernel
theorem dX1_init_7 : decode cX1_init 7 = .ok (.newarray .int, 2) := by decide +kernel
theorem dX1_init_9 : decode cX1_init 9 = .ok (.putfield 9, 3) := by decide +kernel
theorem dX1_init_12 : decode cX1_init 12 = .ok (.aload_n 0, 1) := by decide +kernel
theorem dX1_init_13 : decode cX1_init 13 = .ok (.bipush 6, 2) := by decide +kernel
theorem dX1_init_15 : decode cX1_init 15 = .ok (.newarray .int, 2) := by decide +kernel
theorem dX1_init_17 : decode cX1_init 17 = .ok (.putfield 15, 3) := by decide +kernel
theorem dX1_init_20 : decode cX1_init 20 = .ok (.aload_n 0, 1) := by decide +kernel
theorem dX1_init_21 : decode cX1_init 21 = .ok (.iconst 0, 1) := by decide +kernel
theorem dX1_init_22 : decode cX1_init 22 = .ok (.putfield 18, 3) := by decide +kernel
theorem dX1_init_25 : decode cX1_init 25 = .ok (.return_, 1) := by decide +kernel
theorem dX1_clear_0 : decode cX1_clear 0 = .ok (.aload_n 0, 1) := by decide +kernel
theorem dX1_clear_1 : decode cX1_clear 1 = .ok (.iconst 0, 1) := by decide +kernel
theorem dX1_clear_2 : decode cX1_clear 2 = .ok (.putfield 18, 3) := by decide +kernel
theorem dX1_clear_5 : decode cX1_clear 5 = .ok (.return_, 1) := by decide +kernel
theorem dX1_add_0 : decode cX1_add 0 = .ok (.aload_n 0, 1) := by decide +kernel
theorem dX1_add_1 : decode cX1_add 1 = .ok (.getfield 18, 3) := by decide +kernel
theorem dX1_add_4 : decode cX1_add 4 = .ok (.bipush 6, 2) := by decide +kernel
theorem dX1_add_6 : decode cX1_add 6 = .ok (.if_icmp .ge 23, 3) := by decide +kernel
theorem dX1_add_9 : decode cX1_add 9 = .ok (.aload_n 0, 1) := by decide +kernel
theorem dX1_add_10 : decode cX1_add 10 = .ok (.getfield 9, 3) := by decide +kernel
theorem dX1_add_13 : decode cX1_add 13 = .ok (.aload_n 0, 1) := by decide +kernel
theorem dX1_add_14 : decode cX1_add 14 = .ok (.getfield 18, 3) := by decide +kernel
theorem dX1_add_17 : decode cX1_add 17 = .ok (.iload_n 1, 1) := by decide +kernel
theorem dX1_add_18 : decode cX1_add 18 = .ok (.iastore, 1) := by decide +kernel
theorem dX1_add_19 : decode cX1_add 19 = .ok (.aload_n 0, 1) := by decide +kernel
theorem dX1_add_20 : decode cX1_add 20 = .ok (.dup, 1) := by decide +kernel
theorem dX1_add_21 : decode cX1_add 21 = .ok (.getfield 18, 3) := by decide +kernel
theorem dX1_add_24 : decode cX1_add 24 = .ok (.iconst 1, 1) := by decide +kernel
theorem dX1_add_25 : decode cX1_add 25 = .ok (.iadd, 1) := by decide +kernel
theorem dX1_add_26 : decode cX1_add 26 = .ok (.putfield 18, 3) := by decide +kernel
theorem dX1_add_29 : decode cX1_add 29 = .ok (.return_, 1) := by decide +kernel
theorem dX1_cyclesReckoned_0 : decode cX1_cyclesReckoned 0 = .ok (.iconst 0, 1) := by decide +kernel
theorem dX1_cyclesReckoned_1 : decode cX1_cyclesReckoned 1 = .ok (.istore_n 2, 1) := by decide +kernel
theorem dX1_cyclesReckoned_2 : decode cX1_cyclesReckoned 2 = .ok (.iconst 0, 1) := by decide +kernel
theorem dX1_cyclesReckoned_3 : decode cX1_cyclesReckoned 3 = .ok (.istore_n 3, 1) := by decide +kernel
theorem dX1_cyclesReckoned_4 : decode cX1_cyclesReckoned 4 = .ok (.iconst 0, 1) := by decide +kernel
theorem dX1_cyclesReckoned_5 : decode cX1_cyclesReckoned 5 = .ok (.istore 4, 2) := by decide +kernel
theorem dX1_cyclesReckoned_7 : decode cX1_cyclesReckoned 7 = .ok (.iload 4, 2) := by decide +kernel
theorem dX1_cyclesReckoned_9 : decode cX1_cyclesReckoned 9 = .ok (.aload_n 0, 1) := by decide +kernel
theorem dX1_cyclesReckoned_10 : decode cX1_cyclesReckoned 10 = .ok (.getfield 18, 3) := by decide +kernel
theorem dX1_cyclesReckoned_13 : decode cX1_cyclesReckoned 13 = .ok (.if_icmp .ge 31, 3) := by decide +kernel
theorem dX1_cyclesReckoned_16 : decode cX1_cyclesReckoned 16 = .ok (.iload_n 2, 1) := by decide +kernel
theorem dX1_cyclesReckoned_17 : decode cX1_cyclesReckoned 17 = .ok (.aload_n 0, 1) := by decide +kernel
theorem dX1_cyclesReckoned_18 : decode cX1_cyclesReckoned 18 = .ok (.getfield 9, 3) := by decide +kernel
theorem dX1_cyclesReckoned_21 : decode cX1_cyclesReckoned 21 = .ok (.iload 4, 2) := by decide +kernel
theorem dX1_cyclesReckoned_23 : decode cX1_cyclesReckoned 23 = .ok (.iaload, 1) := by decide +kernel
theorem dX1_cyclesReckoned_24 : decode cX1_cyclesReckoned 24 = .ok (.iadd, 1) := by decide +kernel
theorem dX1_cyclesReckoned_25 : decode cX1_cyclesReckoned 25 = .ok (.istore_n 2, 1) := by decide +kernel
theorem dX1_cyclesReckoned_26 : decode cX1_cyclesReckoned 26 = .ok (.iload_n 3, 1) := by decide +kernel
theorem dX1_cyclesReckoned_27 : decode cX1_cyclesReckoned 27 = .ok (.aload_n 0, 1) := by decide +kernel
theorem dX1_cyclesReckoned_28 : decode cX1_cyclesReckoned 28 = .ok (.getfield 9, 3) := by decide +kernel
theorem dX1_cyclesReckoned_31 : decode cX1_cyclesReckoned 31 = .ok (.iload 4, 2) := by decide +kernel
theorem dX1_cyclesReckoned_33 : decode cX1_cyclesReckoned 33 = .ok (.iaload, 1) := by decide +kernel
theorem dX1_cyclesReckoned_34 : decode cX1_cyclesReckoned 34 = .ok (.invokestatic 22, 3) := by decide +kernel
theorem dX1_cyclesReckoned_37 : decode cX1_cyclesReckoned 37 = .ok (.istore_n 3, 1) := by decide +kernel
theorem dX1_cyclesReckoned_38 : decode cX1_cyclesReckoned 38 = .ok (.iinc 4 1, 3) := by decide +kernel
theorem dX1_cyclesReckoned_41 : decode cX1_cyclesReckoned 41 = .ok (.goto (-34), 3) := by decide +kernel
theorem dX1_cyclesReckoned_44 : decode cX1_cyclesReckoned 44 = .ok (.iload_n 2, 1) := by decide +kernel
theorem dX1_cyclesReckoned_45 : decode cX1_cyclesReckoned 45 = .ok (.iload_n 1, 1) := by decide +kernel
theorem dX1_cyclesReckoned_46 : decode cX1_cyclesReckoned 46 = .ok (.iconst 1, 1) := by decide +kernel
theorem dX1_cyclesReckoned_47 : decode cX1_cyclesReckoned 47 = .ok (.isub, 1) := by decide +kernel
theorem dX1_cyclesReckoned_48 : decode cX1_cyclesReckoned 48 = .ok (.iload_n 3, 1) := by decide +kernel
theorem dX1_cyclesReckoned_49 : decode cX1_cyclesReckoned 49 = .ok (.imul, 1) := by decide +kernel
theorem dX1_cyclesReckoned_50 : decode cX1_cyclesReckoned 50 = .ok (.iadd, 1) := by decide +kernel
theorem dX1_cyclesReckoned_51 : decode cX1_cyclesReckoned 51 = .ok (.ireturn, 1) := by decide +kernel
set_option maxRecDepth 20000 in
theorem ggX1_cyclesCounted_X1_moveOn : GoodIn wsX1_cyclesCounted wsX1_moveOn := goodIn_r _ [9, 1, 2, 4, 14, 15, 16] (by decide +kernel) (by decide +kernel)
set_option maxRecDepth 20000 in
theorem gX1_cyclesCounted_X1_moveOn : GoodIn wsX1_cyclesCounted (wsV RX1 29 RX1 yX1_moveOn wsX1_moveOn) := goodIn_app (goodIn_of _ (by decide +kernel)) ggX1_cyclesCounted_X1_moveOn
set_option maxRecDepth 20000 in
theorem ggX1_cyclesCounted_X1_work : GoodIn wsX1_cyclesCounted wsX1_work := goodIn_r _ [13, 1, 2, 14, 15, 16] (by decide +kernel) (by decide +kernel)
set_option maxRecDepth 20000 in
theorem gX1_cyclesCounted_X1_work : GoodIn wsX1_cyclesCounted (wsV RX1 33 RX1 yX1_work wsX1_work) := goodIn_app (goodIn_of _ (by decide +kernel)) ggX1_cyclesCounted_X1_work
theorem dX1_cyclesCounted_0 : decode cX1_cyclesCounted 0 = .ok (.iconst 0, 1) := by decide +kernel
theorem dX1_cyclesCounted_1 : decode cX1_cyclesCounted 1 = .ok (.istore_n 2, 1) := by decide +kernel
theorem dX1_cyclesCounted_2 : decode cX1_cyclesCounted 2 = .ok (.iload_n 2, 1) := by decide +kernel
theorem dX1_cyclesCounted_3 : decode cX1_cyclesCounted 3 = .ok (.aload_n 0, 1) := by decide +kernel
theorem dX1_cyclesCounted_4 : decode cX1_cyclesCounted 4 = .ok (.getfield 18, 3) := by decide +kernel
theorem dX1_cyclesCounted_7 : decode cX1_cyclesCounted 7 = .ok (.if_icmp .ge 16, 3) := by decide +kernel
theorem dX1_cyclesCounted_10 : decode cX1_cyclesCounted 10 = .ok (.aload_n 0, 1) := by decide +kernel
theorem dX1_cyclesCounted_11 : decode cX1_cyclesCounted 11 = .ok (.getfield 15, 3) := by decide +kernel
theorem dX1_cyclesCounted_14 : decode cX1_cyclesCounted 14 = .ok (.iload_n 2, 1) := by decide +kernel
theorem dX1_cyclesCounted_15 : decode cX1_cyclesCounted 15 = .ok (.iconst (-1), 1) := by decide +kernel
theorem dX1_cyclesCounted_16 : decode cX1_cyclesCounted 16 = .ok (.iastore, 1) := by decide +kernel
theorem dX1_cyclesCounted_17 : decode cX1_cyclesCounted 17 = .ok (.iinc 2 1, 3) := by decide +kernel
theorem dX1_cyclesCounted_20 : decode cX1_cyclesCounted 20 = .ok (.goto (-18), 3) := by decide +kernel
theorem dX1_cyclesCounted_23 : decode cX1_cyclesCounted 23 = .ok (.iconst 0, 1) := by decide +kernel
theorem dX1_cyclesCounted_24 : decode cX1_cyclesCounted 24 = .ok (.istore_n 2, 1) := by decide +kernel
theorem dX1_cyclesCounted_25 : decode cX1_cyclesCounted 25 = .ok (.iconst 0, 1) := by decide +kernel
theorem dX1_cyclesCounted_26 : decode cX1_cyclesCounted 26 = .ok (.istore_n 3, 1) := by decide +kernel
theorem dX1_cyclesCounted_27 : decode cX1_cyclesCounted 27 = .ok (.iconst 0, 1) := by decide +kernel
theorem dX1_cyclesCounted_28 : decode cX1_cyclesCounted 28 = .ok (.istore 4, 2) := by decide +kernel
theorem dX1_cyclesCounted_30 : decode cX1_cyclesCounted 30 = .ok (.iload 4, 2) := by decide +kernel
theorem dX1_cyclesCounted_32 : decode cX1_cyclesCounted 32 = .ok (.ldc 28, 2) := by decide +kernel
theorem dX1_cyclesCounted_34 : decode cX1_cyclesCounted 34 = .ok (.if_icmp .ge 58, 3) := by decide +kernel
theorem dX1_cyclesCounted_37 : decode cX1_cyclesCounted 37 = .ok (.iload_n 3, 1) := by decide +kernel
theorem dX1_cyclesCounted_38 : decode cX1_cyclesCounted 38 = .ok (.aload_n 0, 1) := by decide +kernel
theorem dX1_cyclesCounted_39 : decode cX1_cyclesCounted 39 = .ok (.invokevirtual 29, 3) := by decide +kernel
theorem dX1_cyclesCounted_42 : decode cX1_cyclesCounted 42 = .ok (.iadd, 1) := by decide +kernel
theorem dX1_cyclesCounted_43 : decode cX1_cyclesCounted 43 = .ok (.istore_n 3, 1) := by decide +kernel
theorem dX1_cyclesCounted_44 : decode cX1_cyclesCounted 44 = .ok (.iload_n 3, 1) := by decide +kernel
theorem dX1_cyclesCounted_45 : decode cX1_cyclesCounted 45 = .ok (.iload_n 1, 1) := by decide +kernel
theorem dX1_cyclesCounted_46 : decode cX1_cyclesCounted 46 = .ok (.if_icmp .lt 6, 3) := by decide +kernel
theorem dX1_cyclesCounted_49 : decode cX1_cyclesCounted 49 = .ok (.iload 4, 2) := by decide +kernel
theorem dX1_cyclesCounted_51 : decode cX1_cyclesCounted 51 = .ok (.ireturn, 1) := by decide +kernel
theorem dX1_cyclesCounted_52 : decode cX1_cyclesCounted 52 = .ok (.iload_n 2, 1) := by decide +kernel
theorem dX1_cyclesCounted_53 : decode cX1_cyclesCounted 53 = .ok (.iload_n 1, 1) := by decide +kernel
theorem dX1_cyclesCounted_54 : decode cX1_cyclesCounted 54 = .ok (.if_icmp .ge 28, 3) := by decide +kernel
theorem dX1_cyclesCounted_57 : decode cX1_cyclesCounted 57 = .ok (.aload_n 0, 1) := by decide +kernel
theorem dX1_cyclesCounted_58 : decode cX1_cyclesCounted 58 = .ok (.getfield 15, 3) := by decide +kernel
theorem dX1_cyclesCounted_61 : decode cX1_cyclesCounted 61 = .ok (.iconst 0, 1) := by decide +kernel
theorem dX1_cyclesCounted_62 : decode cX1_cyclesCounted 62 = .ok (.iaload, 1) := by decide +kernel
theorem dX1_cyclesCounted_63 : decode cX1_cyclesCounted 63 = .ok (.iconst (-1), 1) := by decide +kernel
theorem dX1_cyclesCounted_64 : decode cX1_cyclesCounted 64 = .ok (.if_icmp .ne 18, 3) := by decide +kernel
theorem dX1_cyclesCounted_67 : decode cX1_cyclesCounted 67 = .ok (.aload_n 0, 1) := by decide +kernel
theorem dX1_cyclesCounted_68 : decode cX1_cyclesCounted 68 = .ok (.getfield 15, 3) := by decide +kernel
theorem dX1_cyclesCounted_71 : decode cX1_cyclesCounted 71 = .ok (.iconst 0, 1) := by decide +kernel
theorem dX1_cyclesCounted_72 : decode cX1_cyclesCounted 72 = .ok (.aload_n 0, 1) := by decide +kernel
theorem dX1_cyclesCounted_73 : decode cX1_cyclesCounted 73 = .ok (.getfield 9, 3) := by decide +kernel
theorem dX1_cyclesCounted_76 : decode cX1_cyclesCounted 76 = .ok (.iconst 0, 1) := by decide +kernel
theorem dX1_cyclesCounted_77 : decode cX1_cyclesCounted 77 = .ok (.iaload, 1) := by decide +kernel
theorem dX1_cyclesCounted_78 : decode cX1_cyclesCounted 78 = .ok (.iastore, 1) := by decide +kernel
theorem dX1_cyclesCounted_79 : decode cX1_cyclesCounted 79 = .ok (.iinc 2 1, 3) := by decide +kernel
theorem dX1_cyclesCounted_82 : decode cX1_cyclesCounted 82 = .ok (.aload_n 0, 1) := by decide +kernel
theorem dX1_cyclesCounted_83 : decode cX1_cyclesCounted 83 = .ok (.invokevirtual 33, 3) := by decide +kernel
theorem dX1_cyclesCounted_86 : decode cX1_cyclesCounted 86 = .ok (.iinc 4 1, 3) := by decide +kernel
theorem dX1_cyclesCounted_89 : decode cX1_cyclesCounted 89 = .ok (.goto (-59), 3) := by decide +kernel
theorem dX1_cyclesCounted_92 : decode cX1_cyclesCounted 92 = .ok (.ldc 28, 2) := by decide +kernel
theorem dX1_cyclesCounted_94 : decode cX1_cyclesCounted 94 = .ok (.ireturn, 1) := by decide +kernel
theorem dX1_moveOn_0 : decode cX1_moveOn 0 = .ok (.iconst 0, 1) := by decide +kernel
theorem dX1_moveOn_1 : decode cX1_moveOn 1 = .ok (.istore_n 1, 1) := by decide +kernel
theorem dX1_moveOn_2 : decode cX1_moveOn 2 = .ok (.aload_n 0, 1) := by decide +kernel
theorem dX1_moveOn_3 : decode cX1_moveOn 3 = .ok (.getfield 18, 3) := by decide +kernel
theorem dX1_moveOn_6 : decode cX1_moveOn 6 = .ok (.iconst 1, 1) := by decide +kernel
theorem dX1_moveOn_7 : decode cX1_moveOn 7 = .ok (.isub, 1) := by decide +kernel
theorem dX1_moveOn_8 : decode cX1_moveOn 8 = .ok (.istore_n 2, 1) := by decide +kernel
theorem dX1_moveOn_9 : decode cX1_moveOn 9 = .ok (.iload_n 2, 1) := by decide +kernel
theorem dX1_moveOn_10 : decode cX1_moveOn 10 = .ok (.ifCond .lt 79, 3) := by decide +kernel
theorem dX1_moveOn_13 : decode cX1_moveOn 13 = .ok (.aload_n 0, 1) := by decide +kernel
theorem dX1_moveOn_14 : decode cX1_moveOn 14 = .ok (.getfield 15, 3) := by decide +kernel
theorem dX1_moveOn_17 : decode cX1_moveOn 17 = .ok (.iload_n 2, 1) := by decide +kernel
theorem dX1_moveOn_18 : decode cX1_moveOn 18 = .ok (.iaload, 1) := by decide +kernel
theorem dX1_moveOn_19 : decode cX1_moveOn 19 = .ok (.ifCond .eq 6, 3) := by decide +kernel
theorem dX1_moveOn_22 : decode cX1_moveOn 22 = .ok (.goto 61, 3) := by decide +kernel
theorem dX1_moveOn_25 : decode cX1_moveOn 25 = .ok (.iload_n 2, 1) := by decide +kernel
theorem dX1_moveOn_26 : decode cX1_moveOn 26 = .ok (.aload_n 0, 1) := by decide +kernel
theorem dX1_moveOn_27 : decode cX1_moveOn 27 = .ok (.getfield 18, 3) := by decide +kernel
theorem dX1_moveOn_30 : decode cX1_moveOn 30 = .ok (.iconst 1, 1) := by decide +kernel
theorem dX1_moveOn_31 : decode cX1_moveOn 31 = .ok (.isub, 1) := by decide +kernel
theorem dX1_moveOn_32 : decode cX1_moveOn 32 = .ok (.if_icmp .ne 16, 3) := by decide +kernel
theorem dX1_moveOn_35 : decode cX1_moveOn 35 = .ok (.aload_n 0, 1) := by decide +kernel
theorem dX1_moveOn_36 : decode cX1_moveOn 36 = .ok (.getfield 15, 3) := by decide +kernel
theorem dX1_moveOn_39 : decode cX1_moveOn 39 = .ok (.iload_n 2, 1) := by decide +kernel
theorem dX1_moveOn_40 : decode cX1_moveOn 40 = .ok (.iconst (-1), 1) := by decide +kernel
theorem dX1_moveOn_41 : decode cX1_moveOn 41 = .ok (.iastore, 1) := by decide +kernel
theorem dX1_moveOn_42 : decode cX1_moveOn 42 = .ok (.iinc 1 1, 3) := by decide +kernel
theorem dX1_moveOn_45 : decode cX1_moveOn 45 = .ok (.goto 38, 3) := by decide +kernel
theorem dX1_moveOn_48 : decode cX1_moveOn 48 = .ok (.aload_n 0, 1) := by decide +kernel
theorem dX1_moveOn_49 : decode cX1_moveOn 49 = .ok (.getfield 15, 3) := by decide +kernel
theorem dX1_moveOn_52 : decode cX1_moveOn 52 = .ok (.iload_n 2, 1) := by decide +kernel
theorem dX1_moveOn_53 : decode cX1_moveOn 53 = .ok (.iconst 1, 1) := by decide +kernel
theorem dX1_moveOn_54 : decode cX1_moveOn 54 = .ok (.iadd, 1) := by decide +kernel
theorem dX1_moveOn_55 : decode cX1_moveOn 55 = .ok (.iaload, 1) := by decide +kernel
theorem dX1_moveOn_56 : decode cX1_moveOn 56 = .ok (.iconst (-1), 1) := by decide +kernel
theorem dX1_moveOn_57 : decode cX1_moveOn 57 = .ok (.if_icmp .ne 26, 3) := by decide +kernel
theorem dX1_moveOn_60 : decode cX1_moveOn 60 = .ok (.aload_n 0, 1) := by decide +kernel
theorem dX1_moveOn_61 : decode cX1_moveOn 61 = .ok (.getfield 15, 3) := by decide +kernel
theorem dX1_moveOn_64 : decode cX1_moveOn 64 = .ok (.iload_n 2, 1) := by decide +kernel
theorem dX1_moveOn_65 : decode cX1_moveOn 65 = .ok (.iconst (-1), 1) := by decide +kernel
theorem dX1_moveOn_66 : decode cX1_moveOn 66 = .ok (.iastore, 1) := by decide +kernel
theorem dX1_moveOn_67 : decode cX1_moveOn 67 = .ok (.aload_n 0, 1) := by decide +kernel
theorem dX1_moveOn_68 : decode cX1_moveOn 68 = .ok (.getfield 15, 3) := by decide +kernel
theorem dX1_moveOn_71 : decode cX1_moveOn 71 = .ok (.iload_n 2, 1) := by decide +kernel
theorem dX1_moveOn_72 : decode cX1_moveOn 72 = .ok (.iconst 1, 1) := by decide +kernel
theorem dX1_moveOn_73 : decode cX1_moveOn 73 = .ok (.iadd, 1) := by decide +kernel
theorem dX1_moveOn_74 : decode cX1_moveOn 74 = .ok (.aload_n 0, 1) := by decide +kernel
theorem dX1_moveOn_75 : decode cX1_moveOn 75 = .ok (.getfield 9, 3) := by decide +kernel
theorem dX1_moveOn_78 : decode cX1_moveOn 78 = .ok (.iload_n 2, 1) := by decide +kernel
theorem dX1_moveOn_79 : decode cX1_moveOn 79 = .ok (.iconst 1, 1) := by decide +kernel
theorem dX1_moveOn_80 : decode cX1_moveOn 80 = .ok (.iadd, 1) := by decide +kernel
theorem dX1_moveOn_81 : decode cX1_moveOn 81 = .ok (.iaload, 1) := by decide +kernel
theorem dX1_moveOn_82 : decode cX1_moveOn 82 = .ok (.iastore, 1) := by decide +kernel
theorem dX1_moveOn_83 : decode cX1_moveOn 83 = .ok (.iinc 2 (-1), 3) := by decide +kernel
theorem dX1_moveOn_86 : decode cX1_moveOn 86 = .ok (.goto (-77), 3) := by decide +kernel
theorem dX1_moveOn_89 : decode cX1_moveOn 89 = .ok (.iload_n 1, 1) := by decide +kernel
theorem dX1_moveOn_90 : decode cX1_moveOn 90 = .ok (.ireturn, 1) := by decide +kernel
theorem dX1_work_0 : decode cX1_work 0 = .ok (.iconst 0, 1) := by decide +kernel
theorem dX1_work_1 : decode cX1_work 1 = .ok (.istore_n 1, 1) := by decide +kernel
theorem dX1_work_2 : decode cX1_work 2 = .ok (.iload_n 1, 1) := by decide +kernel
theorem dX1_work_3 : decode cX1_work 3 = .ok (.aload_n 0, 1) := by decide +kernel
theorem dX1_work_4 : decode cX1_work 4 = .ok (.getfield 18, 3) := by decide +kernel
theorem dX1_work_7 : decode cX1_work 7 = .ok (.if_icmp .ge 28, 3) := by decide +kernel
theorem dX1_work_10 : decode cX1_work 10 = .ok (.aload_n 0, 1) := by decide +kernel
theorem dX1_work_11 : decode cX1_work 11 = .ok (.getfield 15, 3) := by decide +kernel
theorem dX1_work_14 : decode cX1_work 14 = .ok (.iload_n 1, 1) := by decide +kernel
theorem dX1_work_15 : decode cX1_work 15 = .ok (.iaload, 1) := by decide +kernel
theorem dX1_work_16 : decode cX1_work 16 = .ok (.ifCond .le 13, 3) := by decide +kernel
theorem dX1_work_19 : decode cX1_work 19 = .ok (.aload_n 0, 1) := by decide +kernel
theorem dX1_work_20 : decode cX1_work 20 = .ok (.getfield 15, 3) := by decide +kernel
theorem dX1_work_23 : decode cX1_work 23 = .ok (.iload_n 1, 1) := by decide +kernel
theorem dX1_work_24 : decode cX1_work 24 = .ok (.dup2, 1) := by decide +kernel
theorem dX1_work_25 : decode cX1_work 25 = .ok (.iaload, 1) := by decide +kernel
theorem dX1_work_26 : decode cX1_work 26 = .ok (.iconst 1, 1) := by decide +kernel
theorem dX1_work_27 : decode cX1_work 27 = .ok (.isub, 1) := by decide +kernel
theorem dX1_work_28 : decode cX1_work 28 = .ok (.iastore, 1) := by decide +kernel
theorem dX1_work_29 : decode cX1_work 29 = .ok (.iinc 1 1, 3) := by decide +kernel
theorem dX1_work_32 : decode cX1_work 32 = .ok (.goto (-30), 3) := by decide +kernel
theorem dX1_work_35 : decode cX1_work 35 = .ok (.return_, 1) := by decide +kernel
theorem dX2_init_0 : decode cX2_init 0 = .ok (.aload_n 0, 1) := by decide +kernel
theorem dX2_init_1 : decode cX2_init 1 = .ok (.invokespecial 3, 3) := by decide +kernel
theorem dX2_init_4 : decode cX2_init 4 = .ok (.aload_n 0, 1) := by decide +kernel
theorem dX2_init_5 : decode cX2_init 5 = .ok (.bipush 64, 2) := by decide +kernel
theorem dX2_init_7 : decode cX2_init 7 = .ok (.newarray .int, 2) := by decide +kernel
theorem dX2_init_9 : decode cX2_init 9 = .ok (.putfield 9, 3) := by decide +kernel
theorem dX2_init_12 : decode cX2_init 12 = .ok (.aload_n 0, 1) := by decide +kernel
theorem dX2_init_13 : decode cX2_init 13 = .ok (.sipush 256, 3) := by decide +kernel
theorem dX2_init_16 : decode cX2_init 16 = .ok (.newarray .int, 2) := by decide +kernel
theorem dX2_init_18 : decode cX2_init 18 = .ok (.putfield 15, 3) := by decide +kernel
theorem dX2_init_21 : decode cX2_init 21 = .ok (.return_, 1) := by decide +kernel
set_option maxRecDepth 20000 in
theorem ggX2_weigh_X0_misfitsIn : GoodIn wsX2_weigh wsX0_misfitsIn := goodIn_r _ [7, 8, 9, 10, 6, 11, 12, 13, 14, 15, 16, 17, 18, 19, 20, 21, 22, 23, 24, 25, 26, 27, 28, 29, 30, 31, 32, 33, 34, 35, 36, 37, 38, 39, 42, 43, 44, 45, 46, 47, 48, 49, 50, 51, 52, 53] (by decide +kernel) (by decide +kernel)
set_option maxRecDepth 20000 in
theorem gX2_weigh_X0_misfitsIn : GoodIn wsX2_weigh (wsV RX2 24 RX0 yX0_misfitsIn wsX0_misfitsIn) := goodIn_app (goodIn_of _ (by decide +kernel)) ggX2_weigh_X0_misfitsIn
theorem dX2_weigh_0 : decode cX2_weigh 0 = .ok (.iconst 0, 1) := by decide +kernel
theorem dX2_weigh_1 : decode cX2_weigh 1 = .ok (.istore_n 3, 1) := by decide +kernel
theorem dX2_weigh_2 : decode cX2_weigh 2 = .ok (.iload_n 3, 1) := by decide +kernel
theorem dX2_weigh_3 : decode cX2_weigh 3 = .ok (.aload_n 1, 1) := by decide +kernel
theorem dX2_weigh_4 : decode cX2_weigh 4 = .ok (.getfield 18, 3) := by decide +kernel
theorem dX2_weigh_7 : decode cX2_weigh 7 = .ok (.if_icmp .ge 45, 3) := by decide +kernel
theorem dX2_weigh_10 : decode cX2_weigh 10 = .ok (.iconst 0, 1) := by decide +kernel
theorem dX2_weigh_11 : decode cX2_weigh 11 = .ok (.istore 4, 2) := by decide +kernel
theorem dX2_weigh_13 : decode cX2_weigh 13 = .ok (.iload 4, 2) := by decide +kernel
theorem dX2_weigh_15 : decode cX2_weigh 15 = .ok (.bipush 8, 2) := by decide +kernel
theorem dX2_weigh_17 : decode cX2_weigh 17 = .ok (.if_icmp .ge 29, 3) := by decide +kernel
theorem dX2_weigh_20 : decode cX2_weigh 20 = .ok (.aload_n 0, 1) := by decide +kernel
theorem dX2_weigh_21 : decode cX2_weigh 21 = .ok (.getfield 9, 3) := by decide +kernel
theorem dX2_weigh_24 : decode cX2_weigh 24 = .ok (.iload_n 3, 1) := by decide +kernel
theorem dX2_weigh_25 : decode cX2_weigh 25 = .ok (.bipush 8, 2) := by decide +kernel
theorem dX2_weigh_27 : decode cX2_weigh 27 = .ok (.imul, 1) := by decide +kernel
theorem dX2_weigh_28 : decode cX2_weigh 28 = .ok (.iload 4, 2) := by decide +kernel
theorem dX2_weigh_30 : decode cX2_weigh 30 = .ok (.iadd, 1) := by decide +kernel
theorem dX2_weigh_31 : decode cX2_weigh 31 = .ok (.aload_n 1, 1) := by decide +kernel
theorem dX2_weigh_32 : decode cX2_weigh 32 = .ok (.aload_n 2, 1) := by decide +kernel
theorem dX2_weigh_33 : decode cX2_weigh 33 = .ok (.iload_n 3, 1) := by decide +kernel
theorem dX2_weigh_34 : decode cX2_weigh 34 = .ok (.iload 4, 2) := by decide +kernel
theorem dX2_weigh_36 : decode cX2_weigh 36 = .ok (.invokevirtual 24, 3) := by decide +kernel
theorem dX2_weigh_39 : decode cX2_weigh 39 = .ok (.iastore, 1) := by decide +kernel
theorem dX2_weigh_40 : decode cX2_weigh 40 = .ok (.iinc 4 1, 3) := by decide +kernel
theorem dX2_weigh_43 : decode cX2_weigh 43 = .ok (.goto (-30), 3) := by decide +kernel
theorem dX2_weigh_46 : decode cX2_weigh 46 = .ok (.iinc 3 1, 3) := by decide +kernel
theorem dX2_weigh_49 : decode cX2_weigh 49 = .ok (.goto (-47), 3) := by decide +kernel
theorem dX2_weigh_52 : decode cX2_weigh 52 = .ok (.return_, 1) := by decide +kernel
set_option maxRecDepth 20000 in
theorem ggX2_fewestMisfits_J6_bitCount_0f7a4 : GoodIn wsX2_fewestMisfits wsJ6_bitCount_0f7a4 := goodIn_r _ [5, 6, 7, 8] (by decide +kernel) (by decide +kernel)
set_option maxRecDepth 20000 in
theorem gX2_fewestMisfits_J6_bitCount_0f7a4 : GoodIn wsX2_fewestMisfits (va_wsS RX2 28 yJ6_bitCount_0f7a4 wsJ6_bitCount_0f7a4) := goodIn_app (goodIn_of _ (by decide +kernel)) ggX2_fewestMisfits_J6_bitCount_0f7a4
set_option maxRecDepth 20000 in
theorem ggX2_fewestMisfits_X2_fewestFrom : GoodIn wsX2_fewestMisfits wsX2_fewestFrom := goodIn_r _ [13, 14, 15, 16, 17, 18, 19, 20, 12, 21, 22, 1, 23, 24] (by decide +kernel) (by decide +kernel)
set_option maxRecDepth 20000 in
theorem gX2_fewestMisfits_X2_fewestFrom : GoodIn wsX2_fewestMisfits (wsV RX2 34 RX2 yX2_fewestFrom wsX2_fewestFrom) := goodIn_app (goodIn_of _ (by decide +kernel)) ggX2_fewestMisfits_X2_fewestFrom
theorem dX2_fewestMisfits_0 : decode cX2_fewestMisfits 0 = .ok (.sipush 255, 3) := by decide +kernel
theorem dX2_fewestMisfits_3 : decode cX2_fewestMisfits 3 = .ok (.istore_n 2, 1) := by decide +kernel
theorem dX2_fewestMisfits_4 : decode cX2_fewestMisfits 4 = .ok (.iload_n 2, 1) := by decide +kernel
theorem dX2_fewestMisfits_5 : decode cX2_fewestMisfits 5 = .ok (.ifCond .lt 35, 3) := by decide +kernel
theorem dX2_fewestMisfits_8 : decode cX2_fewestMisfits 8 = .ok (.iload_n 2, 1) := by decide +kernel
theorem dX2_fewestMisfits_9 : decode cX2_fewestMisfits 9 = .ok (.invokestatic 28, 3) := by decide +kernel
theorem dX2_fewestMisfits_12 : decode cX2_fewestMisfits 12 = .ok (.istore_n 3, 1) := by decide +kernel
theorem dX2_fewestMisfits_13 : decode cX2_fewestMisfits 13 = .ok (.aload_n 0, 1) := by decide +kernel
theorem dX2_fewestMisfits_14 : decode cX2_fewestMisfits 14 = .ok (.getfield 15, 3) := by decide +kernel
theorem dX2_fewestMisfits_17 : decode cX2_fewestMisfits 17 = .ok (.iload_n 2, 1) := by decide +kernel
theorem dX2_fewestMisfits_18 : decode cX2_fewestMisfits 18 = .ok (.iload_n 3, 1) := by decide +kernel
theorem dX2_fewestMisfits_19 : decode cX2_fewestMisfits 19 = .ok (.iload_n 1, 1) := by decide +kernel
theorem dX2_fewestMisfits_20 : decode cX2_fewestMisfits 20 = .ok (.if_icmp .ge 12, 3) := by decide +kernel
theorem dX2_fewestMisfits_23 : decode cX2_fewestMisfits 23 = .ok (.aload_n 0, 1) := by decide +kernel
theorem dX2_fewestMisfits_24 : decode cX2_fewestMisfits 24 = .ok (.iload_n 3, 1) := by decide +kernel
theorem dX2_fewestMisfits_25 : decode cX2_fewestMisfits 25 = .ok (.iload_n 2, 1) := by decide +kernel
theorem dX2_fewestMisfits_26 : decode cX2_fewestMisfits 26 = .ok (.invokevirtual 34, 3) := by decide +kernel
theorem dX2_fewestMisfits_29 : decode cX2_fewestMisfits 29 = .ok (.goto 4, 3) := by decide +kernel
theorem dX2_fewestMisfits_32 : decode cX2_fewestMisfits 32 = .ok (.iconst 0, 1) := by decide +kernel
theorem dX2_fewestMisfits_33 : decode cX2_fewestMisfits 33 = .ok (.iastore, 1) := by decide +kernel
theorem dX2_fewestMisfits_34 : decode cX2_fewestMisfits 34 = .ok (.iinc 2 (-1), 3) := by decide +kernel
theorem dX2_fewestMisfits_37 : decode cX2_fewestMisfits 37 = .ok (.goto (-33), 3) := by decide +kernel
theorem dX2_fewestMisfits_40 : decode cX2_fewestMisfits 40 = .ok (.aload_n 0, 1) := by decide +kernel
theorem dX2_fewestMisfits_41 : decode cX2_fewestMisfits 41 = .ok (.getfield 15, 3) := by decide +kernel
theorem dX2_fewestMisfits_44 : decode cX2_fewestMisfits 44 = .ok (.iconst 0, 1) := by decide +kernel
theorem dX2_fewestMisfits_45 : decode cX2_fewestMisfits 45 = .ok (.iaload, 1) := by decide +kernel
theorem dX2_fewestMisfits_46 : decode cX2_fewestMisfits 46 = .ok (.ireturn, 1) := by decide +kernel
set_option maxRecDepth 20000 in
theorem ggX2_fewestFrom_X2_fewestWith : GoodIn wsX2_fewestFrom wsX2_fewestWith := goodIn_r _ [9, 10, 11, 12, 13] (by decide +kernel) (by decide +kernel)
set_option maxRecDepth 20000 in
theorem gX2_fewestFrom_X2_fewestWith : GoodIn wsX2_fewestFrom (wsV RX2 38 RX2 yX2_fewestWith wsX2_fewestWith) := goodIn_app (goodIn_of _ (by decide +kernel)) ggX2_fewestFrom_X2_fewestWith
theorem dX2_fewestFrom_0 : decode cX2_fewestFrom 0 = .ok (.sipush 128, 3) := by decide +kernel
theorem dX2_fewestFrom_3 : decode cX2_fewestFrom 3 = .ok (.istore_n 3, 1) := by decide +kernel
theorem dX2_fewestFrom_4 : decode cX2_fewestFrom 4 = .ok (.iconst 0, 1) := by decide +kernel
theorem dX2_fewestFrom_5 : decode cX2_fewestFrom 5 = .ok (.istore 4, 2) := by decide +kernel
theorem dX2_fewestFrom_7 : decode cX2_fewestFrom 7 = .ok (.iload 4, 2) := by decide +kernel
theorem dX2_fewestFrom_9 : decode cX2_fewestFrom 9 = .ok (.bipush 8, 2) := by decide +kernel
theorem dX2_fewestFrom_11 : decode cX2_fewestFrom 11 = .ok (.if_icmp .ge 31, 3) := by decide +kernel
theorem dX2_fewestFrom_14 : decode cX2_fewestFrom 14 = .ok (.iload_n 2, 1) := by decide +kernel
theorem dX2_fewestFrom_15 : decode cX2_fewestFrom 15 = .ok (.iload 4, 2) := by decide +kernel
theorem dX2_fewestFrom_17 : decode cX2_fewestFrom 17 = .ok (.ishr, 1) := by decide +kernel
theorem dX2_fewestFrom_18 : decode cX2_fewestFrom 18 = .ok (.iconst 1, 1) := by decide +kernel
theorem dX2_fewestFrom_19 : decode cX2_fewestFrom 19 = .ok (.iand, 1) := by decide +kernel
theorem dX2_fewestFrom_20 : decode cX2_fewestFrom 20 = .ok (.ifCond .ne 16, 3) := by decide +kernel
theorem dX2_fewestFrom_23 : decode cX2_fewestFrom 23 = .ok (.iload_n 3, 1) := by decide +kernel
theorem dX2_fewestFrom_24 : decode cX2_fewestFrom 24 = .ok (.aload_n 0, 1) := by decide +kernel
theorem dX2_fewestFrom_25 : decode cX2_fewestFrom 25 = .ok (.iload_n 1, 1) := by decide +kernel
theorem dX2_fewestFrom_26 : decode cX2_fewestFrom 26 = .ok (.iload 4, 2) := by decide +kernel
theorem dX2_fewestFrom_28 : decode cX2_fewestFrom 28 = .ok (.iload_n 2, 1) := by decide +kernel
theorem dX2_fewestFrom_29 : decode cX2_fewestFrom 29 = .ok (.invokevirtual 38, 3) := by decide +kernel
theorem dX2_fewestFrom_32 : decode cX2_fewestFrom 32 = .ok (.invokestatic 42, 3) := by decide +kernel
theorem dX2_fewestFrom_35 : decode cX2_fewestFrom 35 = .ok (.istore_n 3, 1) := by decide +kernel
theorem dX2_fewestFrom_36 : decode cX2_fewestFrom 36 = .ok (.iinc 4 1, 3) := by decide +kernel
theorem dX2_fewestFrom_39 : decode cX2_fewestFrom 39 = .ok (.goto (-32), 3) := by decide +kernel
theorem dX2_fewestFrom_42 : decode cX2_fewestFrom 42 = .ok (.iload_n 3, 1) := by decide +kernel
theorem dX2_fewestFrom_43 : decode cX2_fewestFrom 43 = .ok (.ireturn, 1) := by decide +kernel
theorem dX2_fewestWith_0 : decode cX2_fewestWith 0 = .ok (.aload_n 0, 1) := by decide +kernel
theorem dX2_fewestWith_1 : decode cX2_fewestWith 1 = .ok (.getfield 9, 3) := by decide +kernel
theorem dX2_fewestWith_4 : decode cX2_fewestWith 4 = .ok (.iload_n 1, 1) := by decide +kernel
theorem dX2_fewestWith_5 : decode cX2_fewestWith 5 = .ok (.bipush 8, 2) := by decide +kernel
theorem dX2_fewestWith_7 : decode cX2_fewestWith 7 = .ok (.imul, 1) := by decide +kernel
theorem dX2_fewestWith_8 : decode cX2_fewestWith 8 = .ok (.iload_n 2, 1) := by decide +kernel
theorem dX2_fewestWith_9 : decode cX2_fewestWith 9 = .ok (.iadd, 1) := by decide +kernel
theorem dX2_fewestWith_10 : decode cX2_fewestWith 10 = .ok (.iaload, 1) := by decide +kernel
theorem dX2_fewestWith_11 : decode cX2_fewestWith 11 = .ok (.aload_n 0, 1) := by decide +kernel
theorem dX2_fewestWith_12 : decode cX2_fewestWith 12 = .ok (.getfield 15, 3) := by decide +kernel
theorem dX2_fewestWith_15 : decode cX2_fewestWith 15 = .ok (.iload_n 3, 1) := by decide +kernel
theorem dX2_fewestWith_16 : decode cX2_fewestWith 16 = .ok (.iconst 1, 1) := by decide +kernel
theorem dX2_fewestWith_17 : decode cX2_fewestWith 17 = .ok (.iload_n 2, 1) := by decide +kernel
theorem dX2_fewestWith_18 : decode cX2_fewestWith 18 = .ok (.ishl, 1) := by decide +kernel
theorem dX2_fewestWith_19 : decode cX2_fewestWith 19 = .ok (.ior, 1) := by decide +kernel
theorem dX2_fewestWith_20 : decode cX2_fewestWith 20 = .ok (.iaload, 1) := by decide +kernel
theorem dX2_fewestWith_21 : decode cX2_fewestWith 21 = .ok (.iadd, 1) := by decide +kernel
theorem dX2_fewestWith_22 : decode cX2_fewestWith 22 = .ok (.ireturn, 1) := by decide +kernel
set_option maxRecDepth 20000 in
theorem ggX2_seat_X2_fewestMisfits : GoodIn wsX2_seat wsX2_fewestMisfits := goodIn_r _ [7, 8, 9, 10, 11, 12, 13, 14, 15, 16, 17, 18, 6, 19, 20, 21, 22, 23, 24, 25, 26, 27, 28, 41, 42] (by decide +kernel) (by decide +kernel)
set_option maxRecDepth 20000 in
theorem gX2_seat_X2_fewestMisfits : GoodIn wsX2_seat (wsV RX2 47 RX2 yX2_fewestMisfits wsX2_fewestMisfits) := goodIn_app (goodIn_of _ (by decide +kernel)) ggX2_seat_X2_fewestMisfits
set_option maxRecDepth 20000 in
theorem ggX2_seat_X2_lowestBestRow : GoodIn wsX2_seat wsX2_lowestBestRow := goodIn_r _ [32, 8, 24, 25, 26, 6, 27, 28, 41, 42] (by decide +kernel) (by decide +kernel)
set_option maxRecDepth 20000 in
theorem gX2_seat_X2_lowestBestRow : GoodIn wsX2_seat (wsV RX2 50 RX2 yX2_lowestBestRow wsX2_lowestBestRow) := goodIn_app (goodIn_of _ (by decide +kernel)) ggX2_seat_X2_lowestBestRow
theorem dX2_seat_0 : decode cX2_seat 0 = .ok (.aload_n 0, 1) := by decide +kernel
theorem dX2_seat_1 : decode cX2_seat 1 = .ok (.aload_n 1, 1) := by decide +kernel
theorem dX2_seat_2 : decode cX2_seat 2 = .ok (.getfield 18, 3) := by decide +kernel
theorem dX2_seat_5 : decode cX2_seat 5 = .ok (.invokevirtual 47, 3) := by decide +kernel
theorem dX2_seat_8 : decode cX2_seat 8 = .ok (.pop, 1) := by decide +kernel
theorem dX2_seat_9 : decode cX2_seat 9 = .ok (.iconst 0, 1) := by decide +kernel
theorem dX2_seat_10 : decode cX2_seat 10 = .ok (.istore_n 2, 1) := by decide +kernel
theorem dX2_seat_11 : decode cX2_seat 11 = .ok (.iconst 0, 1) := by decide +kernel
theorem dX2_seat_12 : decode cX2_seat 12 = .ok (.istore_n 3, 1) := by decide +kernel
theorem dX2_seat_13 : decode cX2_seat 13 = .ok (.iload_n 3, 1) := by decide +kernel
theorem dX2_seat_14 : decode cX2_seat 14 = .ok (.aload_n 1, 1) := by decide +kernel
theorem dX2_seat_15 : decode cX2_seat 15 = .ok (.getfield 18, 3) := by decide +kernel
theorem dX2_seat_18 : decode cX2_seat 18 = .ok (.if_icmp .ge 32, 3) := by decide +kernel
theorem dX2_seat_21 : decode cX2_seat 21 = .ok (.aload_n 0, 1) := by decide +kernel
theorem dX2_seat_22 : decode cX2_seat 22 = .ok (.iload_n 3, 1) := by decide +kernel
theorem dX2_seat_23 : decode cX2_seat 23 = .ok (.iload_n 2, 1) := by decide +kernel
theorem dX2_seat_24 : decode cX2_seat 24 = .ok (.invokevirtual 50, 3) := by decide +kernel
theorem dX2_seat_27 : decode cX2_seat 27 = .ok (.istore 4, 2) := by decide +kernel
theorem dX2_seat_29 : decode cX2_seat 29 = .ok (.aload_n 1, 1) := by decide +kernel
theorem dX2_seat_30 : decode cX2_seat 30 = .ok (.getfield 53, 3) := by decide +kernel
theorem dX2_seat_33 : decode cX2_seat 33 = .ok (.iload_n 3, 1) := by decide +kernel
theorem dX2_seat_34 : decode cX2_seat 34 = .ok (.iload 4, 2) := by decide +kernel
theorem dX2_seat_36 : decode cX2_seat 36 = .ok (.iastore, 1) := by decide +kernel
theorem dX2_seat_37 : decode cX2_seat 37 = .ok (.iload_n 2, 1) := by decide +kernel
theorem dX2_seat_38 : decode cX2_seat 38 = .ok (.iconst 1, 1) := by decide +kernel
theorem dX2_seat_39 : decode cX2_seat 39 = .ok (.iload 4, 2) := by decide +kernel
theorem dX2_seat_41 : decode cX2_seat 41 = .ok (.ishl, 1) := by decide +kernel
theorem dX2_seat_42 : decode cX2_seat 42 = .ok (.ior, 1) := by decide +kernel
theorem dX2_seat_43 : decode cX2_seat 43 = .ok (.istore_n 2, 1) := by decide +kernel
theorem dX2_seat_44 : decode cX2_seat 44 = .ok (.iinc 3 1, 3) := by decide +kernel
theorem dX2_seat_47 : decode cX2_seat 47 = .ok (.goto (-34), 3) := by decide +kernel
theorem dX2_seat_50 : decode cX2_seat 50 = .ok (.return_, 1) := by decide +kernel
set_option maxRecDepth 20000 in
theorem ggX2_lowestBestRow_X2_fewestWith : GoodIn wsX2_lowestBestRow wsX2_fewestWith := goodIn_r _ [6, 7, 1, 8, 9] (by decide +kernel) (by decide +kernel)
set_option maxRecDepth 20000 in
theorem gX2_lowestBestRow_X2_fewestWith : GoodIn wsX2_lowestBestRow (wsV RX2 38 RX2 yX2_fewestWith wsX2_fewestWith) := goodIn_app (goodIn_of _ (by decide +kernel)) ggX2_lowestBestRow_X2_fewestWith
theorem dX2_lowestBestRow_0 : decode cX2_lowestBestRow 0 = .ok (.iconst 0, 1) := by decide +kernel
theorem dX2_lowestBestRow_1 : decode cX2_lowestBestRow 1 = .ok (.istore_n 3, 1) := by decide +kernel
theorem dX2_lowestBestRow_2 : decode cX2_lowestBestRow 2 = .ok (.iload_n 3, 1) := by decide +kernel
theorem dX2_lowestBestRow_3 : decode cX2_lowestBestRow 3 = .ok (.bipush 7, 2) := by decide +kernel
theorem dX2_lowestBestRow_5 : decode cX2_lowestBestRow 5 = .ok (.if_icmp .ge 35, 3) := by decide +kernel
theorem dX2_lowestBestRow_8 : decode cX2_lowestBestRow 8 = .ok (.iload_n 2, 1) := by decide +kernel
theorem dX2_lowestBestRow_9 : decode cX2_lowestBestRow 9 = .ok (.iload_n 3, 1) := by decide +kernel
theorem dX2_lowestBestRow_10 : decode cX2_lowestBestRow 10 = .ok (.ishr, 1) := by decide +kernel
theorem dX2_lowestBestRow_11 : decode cX2_lowestBestRow 11 = .ok (.iconst 1, 1) := by decide +kernel
theorem dX2_lowestBestRow_12 : decode cX2_lowestBestRow 12 = .ok (.iand, 1) := by decide +kernel
theorem dX2_lowestBestRow_13 : decode cX2_lowestBestRow 13 = .ok (.ifCond .ne 21, 3) := by decide +kernel
theorem dX2_lowestBestRow_16 : decode cX2_lowestBestRow 16 = .ok (.aload_n 0, 1) := by decide +kernel
theorem dX2_lowestBestRow_17 : decode cX2_lowestBestRow 17 = .ok (.iload_n 1, 1) := by decide +kernel
theorem dX2_lowestBestRow_18 : decode cX2_lowestBestRow 18 = .ok (.iload_n 3, 1) := by decide +kernel
theorem dX2_lowestBestRow_19 : decode cX2_lowestBestRow 19 = .ok (.iload_n 2, 1) := by decide +kernel
theorem dX2_lowestBestRow_20 : decode cX2_lowestBestRow 20 = .ok (.invokevirtual 38, 3) := by decide +kernel
theorem dX2_lowestBestRow_23 : decode cX2_lowestBestRow 23 = .ok (.aload_n 0, 1) := by decide +kernel
theorem dX2_lowestBestRow_24 : decode cX2_lowestBestRow 24 = .ok (.getfield 15, 3) := by decide +kernel
theorem dX2_lowestBestRow_27 : decode cX2_lowestBestRow 27 = .ok (.iload_n 2, 1) := by decide +kernel
theorem dX2_lowestBestRow_28 : decode cX2_lowestBestRow 28 = .ok (.iaload, 1) := by decide +kernel
theorem dX2_lowestBestRow_29 : decode cX2_lowestBestRow 29 = .ok (.if_icmp .ne 5, 3) := by decide +kernel
theorem dX2_lowestBestRow_32 : decode cX2_lowestBestRow 32 = .ok (.iload_n 3, 1) := by decide +kernel
theorem dX2_lowestBestRow_33 : decode cX2_lowestBestRow 33 = .ok (.ireturn, 1) := by decide +kernel
theorem dX2_lowestBestRow_34 : decode cX2_lowestBestRow 34 = .ok (.iinc 3 1, 3) := by decide +kernel
theorem dX2_lowestBestRow_37 : decode cX2_lowestBestRow 37 = .ok (.goto (-35), 3) := by decide +kernel
theorem dX2_lowestBestRow_40 : decode cX2_lowestBestRow 40 = .ok (.bipush 7, 2) := by decide +kernel
theorem dX2_lowestBestRow_42 : decode cX2_lowestBestRow 42 = .ok (.ireturn, 1) := by decide +kernel
set_option maxRecDepth 20000 in
theorem ggX2_fewestOfAllWays_X2_misfitsOfWay : GoodIn wsX2_fewestOfAllWays wsX2_misfitsOfWay := goodIn_r _ [9, 10, 11, 12] (by decide +kernel) (by decide +kernel)
set_option maxRecDepth 20000 in
theorem gX2_fewestOfAllWays_X2_misfitsOfWay : GoodIn wsX2_fewestOfAllWays (wsV RX2 56 RX2 yX2_misfitsOfWay wsX2_misfitsOfWay) := goodIn_app (goodIn_of _ (by decide +kernel)) ggX2_fewestOfAllWays_X2_misfitsOfWay
theorem dX2_fewestOfAllWays_0 : decode cX2_fewestOfAllWays 0 = .ok (.sipush 128, 3) := by decide +kernel
theorem dX2_fewestOfAllWays_3 : decode cX2_fewestOfAllWays 3 = .ok (.istore_n 2, 1) := by decide +kernel
theorem dX2_fewestOfAllWays_4 : decode cX2_fewestOfAllWays 4 = .ok (.iconst 1, 1) := by decide +kernel
theorem dX2_fewestOfAllWays_5 : decode cX2_fewestOfAllWays 5 = .ok (.iconst 3, 1) := by decide +kernel
theorem dX2_fewestOfAllWays_6 : decode cX2_fewestOfAllWays 6 = .ok (.iload_n 1, 1) := by decide +kernel
theorem dX2_fewestOfAllWays_7 : decode cX2_fewestOfAllWays 7 = .ok (.imul, 1) := by decide +kernel
theorem dX2_fewestOfAllWays_8 : decode cX2_fewestOfAllWays 8 = .ok (.ishl, 1) := by decide +kernel
theorem dX2_fewestOfAllWays_9 : decode cX2_fewestOfAllWays 9 = .ok (.istore_n 3, 1) := by decide +kernel
theorem dX2_fewestOfAllWays_10 : decode cX2_fewestOfAllWays 10 = .ok (.iconst 0, 1) := by decide +kernel
theorem dX2_fewestOfAllWays_11 : decode cX2_fewestOfAllWays 11 = .ok (.istore 4, 2) := by decide +kernel
theorem dX2_fewestOfAllWays_13 : decode cX2_fewestOfAllWays 13 = .ok (.iload 4, 2) := by decide +kernel
theorem dX2_fewestOfAllWays_15 : decode cX2_fewestOfAllWays 15 = .ok (.iload_n 3, 1) := by decide +kernel
theorem dX2_fewestOfAllWays_16 : decode cX2_fewestOfAllWays 16 = .ok (.if_icmp .ge 21, 3) := by decide +kernel
theorem dX2_fewestOfAllWays_19 : decode cX2_fewestOfAllWays 19 = .ok (.iload_n 2, 1) := by decide +kernel
theorem dX2_fewestOfAllWays_20 : decode cX2_fewestOfAllWays 20 = .ok (.aload_n 0, 1) := by decide +kernel
theorem dX2_fewestOfAllWays_21 : decode cX2_fewestOfAllWays 21 = .ok (.iload 4, 2) := by decide +kernel
theorem dX2_fewestOfAllWays_23 : decode cX2_fewestOfAllWays 23 = .ok (.iload_n 1, 1) := by decide +kernel
theorem dX2_fewestOfAllWays_24 : decode cX2_fewestOfAllWays 24 = .ok (.invokevirtual 56, 3) := by decide +kernel
theorem dX2_fewestOfAllWays_27 : decode cX2_fewestOfAllWays 27 = .ok (.invokestatic 42, 3) := by decide +kernel
theorem dX2_fewestOfAllWays_30 : decode cX2_fewestOfAllWays 30 = .ok (.istore_n 2, 1) := by decide +kernel
theorem dX2_fewestOfAllWays_31 : decode cX2_fewestOfAllWays 31 = .ok (.iinc 4 1, 3) := by decide +kernel
theorem dX2_fewestOfAllWays_34 : decode cX2_fewestOfAllWays 34 = .ok (.goto (-21), 3) := by decide +kernel
theorem dX2_fewestOfAllWays_37 : decode cX2_fewestOfAllWays 37 = .ok (.iload_n 2, 1) := by decide +kernel
theorem dX2_fewestOfAllWays_38 : decode cX2_fewestOfAllWays 38 = .ok (.ireturn, 1) := by decide +kernel
theorem dX2_misfitsOfWay_0 : decode cX2_misfitsOfWay 0 = .ok (.iconst 0, 1) := by decide +kernel
theorem dX2_misfitsOfWay_1 : decode cX2_misfitsOfWay 1 = .ok (.istore_n 3, 1) := by decide +kernel
theorem dX2_misfitsOfWay_2 : decode cX2_misfitsOfWay 2 = .ok (.iconst 0, 1) := by decide +kernel
theorem dX2_misfitsOfWay_3 : decode cX2_misfitsOfWay 3 = .ok (.istore 4, 2) := by decide +kernel
theorem dX2_misfitsOfWay_5 : decode cX2_misfitsOfWay 5 = .ok (.iconst 0, 1) := by decide +kernel
theorem dX2_misfitsOfWay_6 : decode cX2_misfitsOfWay 6 = .ok (.istore 5, 2) := by decide +kernel
theorem dX2_misfitsOfWay_8 : decode cX2_misfitsOfWay 8 = .ok (.iload 5, 2) := by decide +kernel
theorem dX2_misfitsOfWay_10 : decode cX2_misfitsOfWay 10 = .ok (.iload_n 2, 1) := by decide +kernel
theorem dX2_misfitsOfWay_11 : decode cX2_misfitsOfWay 11 = .ok (.if_icmp .ge 60, 3) := by decide +kernel
theorem dX2_misfitsOfWay_14 : decode cX2_misfitsOfWay 14 = .ok (.iload_n 1, 1) := by decide +kernel
theorem dX2_misfitsOfWay_15 : decode cX2_misfitsOfWay 15 = .ok (.iconst 3, 1) := by decide +kernel
theorem dX2_misfitsOfWay_16 : decode cX2_misfitsOfWay 16 = .ok (.iload 5, 2) := by decide +kernel
theorem dX2_misfitsOfWay_18 : decode cX2_misfitsOfWay 18 = .ok (.imul, 1) := by decide +kernel
theorem dX2_misfitsOfWay_19 : decode cX2_misfitsOfWay 19 = .ok (.ishr, 1) := by decide +kernel
theorem dX2_misfitsOfWay_20 : decode cX2_misfitsOfWay 20 = .ok (.bipush 7, 2) := by decide +kernel
theorem dX2_misfitsOfWay_22 : decode cX2_misfitsOfWay 22 = .ok (.iand, 1) := by decide +kernel
theorem dX2_misfitsOfWay_23 : decode cX2_misfitsOfWay 23 = .ok (.istore 6, 2) := by decide +kernel
theorem dX2_misfitsOfWay_25 : decode cX2_misfitsOfWay 25 = .ok (.iload 4, 2) := by decide +kernel
theorem dX2_misfitsOfWay_27 : decode cX2_misfitsOfWay 27 = .ok (.iload 6, 2) := by decide +kernel
theorem dX2_misfitsOfWay_29 : decode cX2_misfitsOfWay 29 = .ok (.ishr, 1) := by decide +kernel
theorem dX2_misfitsOfWay_30 : decode cX2_misfitsOfWay 30 = .ok (.iconst 1, 1) := by decide +kernel
theorem dX2_misfitsOfWay_31 : decode cX2_misfitsOfWay 31 = .ok (.iand, 1) := by decide +kernel
theorem dX2_misfitsOfWay_32 : decode cX2_misfitsOfWay 32 = .ok (.iconst 1, 1) := by decide +kernel
theorem dX2_misfitsOfWay_33 : decode cX2_misfitsOfWay 33 = .ok (.if_icmp .ne 7, 3) := by decide +kernel
theorem dX2_misfitsOfWay_36 : decode cX2_misfitsOfWay 36 = .ok (.sipush 128, 3) := by decide +kernel
theorem dX2_misfitsOfWay_39 : decode cX2_misfitsOfWay 39 = .ok (.ireturn, 1) := by decide +kernel
theorem dX2_misfitsOfWay_40 : decode cX2_misfitsOfWay 40 = .ok (.iload 4, 2) := by decide +kernel
theorem dX2_misfitsOfWay_42 : decode cX2_misfitsOfWay 42 = .ok (.iconst 1, 1) := by decide +kernel
theorem dX2_misfitsOfWay_43 : decode cX2_misfitsOfWay 43 = .ok (.iload 6, 2) := by decide +kernel
theorem dX2_misfitsOfWay_45 : decode cX2_misfitsOfWay 45 = .ok (.ishl, 1) := by decide +kernel
theorem dX2_misfitsOfWay_46 : decode cX2_misfitsOfWay 46 = .ok (.ior, 1) := by decide +kernel
theorem dX2_misfitsOfWay_47 : decode cX2_misfitsOfWay 47 = .ok (.istore 4, 2) := by decide +kernel
theorem dX2_misfitsOfWay_49 : decode cX2_misfitsOfWay 49 = .ok (.iload_n 3, 1) := by decide +kernel
theorem dX2_misfitsOfWay_50 : decode cX2_misfitsOfWay 50 = .ok (.aload_n 0, 1) := by decide +kernel
theorem dX2_misfitsOfWay_51 : decode cX2_misfitsOfWay 51 = .ok (.getfield 9, 3) := by decide +kernel
theorem dX2_misfitsOfWay_54 : decode cX2_misfitsOfWay 54 = .ok (.iload 5, 2) := by decide +kernel
theorem dX2_misfitsOfWay_56 : decode cX2_misfitsOfWay 56 = .ok (.bipush 8, 2) := by decide +kernel
theorem dX2_misfitsOfWay_58 : decode cX2_misfitsOfWay 58 = .ok (.imul, 1) := by decide +kernel
theorem dX2_misfitsOfWay_59 : decode cX2_misfitsOfWay 59 = .ok (.iload 6, 2) := by decide +kernel
theorem dX2_misfitsOfWay_61 : decode cX2_misfitsOfWay 61 = .ok (.iadd, 1) := by decide +kernel
theorem dX2_misfitsOfWay_62 : decode cX2_misfitsOfWay 62 = .ok (.iaload, 1) := by decide +kernel
theorem dX2_misfitsOfWay_63 : decode cX2_misfitsOfWay 63 = .ok (.iadd, 1) := by decide +kernel
theorem dX2_misfitsOfWay_64 : decode cX2_misfitsOfWay 64 = .ok (.istore_n 3, 1) := by decide +kernel
theorem dX2_misfitsOfWay_65 : decode cX2_misfitsOfWay 65 = .ok (.iinc 5 1, 3) := by decide +kernel
theorem dX2_misfitsOfWay_68 : decode cX2_misfitsOfWay 68 = .ok (.goto (-60), 3) := by decide +kernel
theorem dX2_misfitsOfWay_71 : decode cX2_misfitsOfWay 71 = .ok (.iload_n 3, 1) := by decide +kernel
theorem dX2_misfitsOfWay_72 : decode cX2_misfitsOfWay 72 = .ok (.ireturn, 1) := by decide +kernel
theorem dX3_init_0 : decode cX3_init 0 = .ok (.aload_n 0, 1) := by decide +kernel
theorem dX3_init_1 : decode cX3_init 1 = .ok (.invokespecial 1, 3) := by decide +kernel
theorem dX3_init_4 : decode cX3_init 4 = .ok (.aload_n 0, 1) := by decide +kernel
theorem dX3_init_5 : decode cX3_init 5 = .ok (.iconst 0, 1) := by decide +kernel
theorem dX3_init_6 : decode cX3_init 6 = .ok (.putfield 7, 3) := by decide +kernel
theorem dX3_init_9 : decode cX3_init 9 = .ok (.aload_n 0, 1) := by decide +kernel
theorem dX3_init_10 : decode cX3_init 10 = .ok (.iconst 0, 1) := by decide +kernel
theorem dX3_init_11 : decode cX3_init 11 = .ok (.putfield 13, 3) := by decide +kernel
theorem dX3_init_14 : decode cX3_init 14 = .ok (.aload_n 0, 1) := by decide +kernel
theorem dX3_init_15 : decode cX3_init 15 = .ok (.sipush 1000, 3) := by decide +kernel
theorem dX3_init_18 : decode cX3_init 18 = .ok (.putfield 16, 3) := by decide +kernel
theorem dX3_init_21 : decode cX3_init 21 = .ok (.return_, 1) := by decide +kernel
theorem dX4_init_0 : decode cX4_init 0 = .ok (.aload_n 0, 1) := by decide +kernel
theorem dX4_init_1 : decode cX4_init 1 = .ok (.invokespecial 3, 3) := by decide +kernel
theorem dX4_init_4 : decode cX4_init 4 = .ok (.aload_n 0, 1) := by decide +kernel
theorem dX4_init_5 : decode cX4_init 5 = .ok (.sipush 128, 3) := by decide +kernel
theorem dX4_init_8 : decode cX4_init 8 = .ok (.newarray .int, 2) := by decide +kernel
theorem dX4_init_10 : decode cX4_init 10 = .ok (.putfield 9, 3) := by decide +kernel
theorem dX4_init_13 : decode cX4_init 13 = .ok (.aload_n 0, 1) := by decide +kernel
theorem dX4_init_14 : decode cX4_init 14 = .ok (.sipush 128, 3) := by decide +kernel
theorem dX4_init_17 : decode cX4_init 17 = .ok (.newarray .int, 2) := by decide +kernel
theorem dX4_init_19 : decode cX4_init 19 = .ok (.putfield 15, 3) := by decide +kernel
theorem dX4_init_22 : decode cX4_init 22 = .ok (.aload_n 0, 1) := by decide +kernel
theorem dX4_init_23 : decode cX4_init 23 = .ok (.sipush 128, 3) := by decide +kernel
theorem dX4_init_26 : decode cX4_init 26 = .ok (.newarray .int, 2) := by decide +kernel
theorem dX4_init_28 : decode cX4_init 28 = .ok (.putfield 18, 3) := by decide +kernel
theorem dX4_init_31 : decode cX4_init 31 = .ok (.aload_n 0, 1) := by decide +kernel
theorem dX4_init_32 : decode cX4_init 32 = .ok (.sipush 128, 3) := by decide +kernel
theorem dX4_init_35 : decode cX4_init 35 = .ok (.newarray .boolean, 2) := by decide +kernel
theorem dX4_init_37 : decode cX4_init 37 = .ok (.putfield 21, 3) := by decide +kernel
theorem dX4_init_40 : decode cX4_init 40 = .ok (.aload_n 0, 1) := by decide +kernel
theorem dX4_init_41 : decode cX4_init 41 = .ok (.sipush 128, 3) := by decide +kernel
theorem dX4_init_44 : decode cX4_init 44 = .ok (.newarray .boolean, 2) := by decide +kernel
theorem dX4_init_46 : decode cX4_init 46 = .ok (.putfield 25, 3) := by decide +kernel
theorem dX4_init_49 : decode cX4_init 49 = .ok (.aload_n 0, 1) := by decide +kernel
theorem dX4_init_50 : decode cX4_init 50 = .ok (.bipush 16, 2) := by decide +kernel
theorem dX4_init_52 : decode cX4_init 52 = .ok (.newarray .int, 2) := by decide +kernel
theorem dX4_init_54 : decode cX4_init 54 = .ok (.putfield 28, 3) := by decide +kernel
theorem dX4_init_57 : decode cX4_init 57 = .ok (.aload_n 0, 1) := by decide +kernel
theorem dX4_init_58 : decode cX4_init 58 = .ok (.iconst 1, 1) := by decide +kernel
theorem dX4_init_59 : decode cX4_init 59 = .ok (.putfield 31, 3) := by decide +kernel
theorem dX4_init_62 : decode cX4_init 62 = .ok (.aload_n 0, 1) := by decide +kernel
theorem dX4_init_63 : decode cX4_init 63 = .ok (.bipush 127, 2) := by decide +kernel
theorem dX4_init_65 : decode cX4_init 65 = .ok (.putfield 35, 3) := by decide +kernel
theorem dX4_init_68 : decode cX4_init 68 = .ok (.aload_n 0, 1) := by decide +kernel
theorem dX4_init_69 : decode cX4_init 69 = .ok (.iconst 0, 1) := by decide +kernel
theorem dX4_init_70 : decode cX4_init 70 = .ok (.putfield 38, 3) := by decide +kernel
theorem dX4_init_73 : decode cX4_init 73 = .ok (.aload_n 0, 1) := by decide +kernel
theorem dX4_init_74 : decode cX4_init 74 = .ok (.iconst 4, 1) := by decide +kernel
theorem dX4_init_75 : decode cX4_init 75 = .ok (.putfield 42, 3) := by decide +kernel
theorem dX4_init_78 : decode cX4_init 78 = .ok (.aload_n 0, 1) := by decide +kernel
theorem dX4_init_79 : decode cX4_init 79 = .ok (.iconst 0, 1) := by decide +kernel
theorem dX4_init_80 : decode cX4_init 80 = .ok (.putfield 45, 3) := by decide +kernel
theorem dX4_init_83 : decode cX4_init 83 = .ok (.aload_n 0, 1) := by decide +kernel
theorem dX4_init_84 : decode cX4_init 84 = .ok (.iload_n 1, 1) := by decide +kernel
theorem dX4_init_85 : decode cX4_init 85 = .ok (.putfield 48, 3) := by decide +kernel
theorem dX4_init_88 : decode cX4_init 88 = .ok (.return_, 1) := by decide +kernel
set_option maxRecDepth 20000 in
theorem ggX4_conducted_X5_indexOf : GoodIn wsX4_conducted wsX5_indexOf := goodIn_r _ [12] (by decide +kernel) (by decide +kernel)
set_option maxRecDepth 20000 in
theorem gX4_conducted_X5_indexOf_n51 : GoodIn wsX4_conducted (wsX5_indexOf) := ggX4_conducted_X5_indexOf
set_option maxRecDepth 20000 in
theorem ggX4_conducted_X5_quotient : GoodIn wsX4_conducted wsX5_quotient := goodIn_r _ [14] (by decide +kernel) (by decide +kernel)
set_option maxRecDepth 20000 in
theorem gX4_conducted_X5_quotient_n63 : GoodIn wsX4_conducted (wsX5_quotient) := ggX4_conducted_X5_quotient
theorem dX4_conducted_0 : decode cX4_conducted 0 = .ok (.iload_n 1, 1) := by decide +kernel
theorem dX4_conducted_1 : decode cX4_conducted 1 = .ok (.iload_n 2, 1) := by decide +kernel
theorem dX4_conducted_2 : decode cX4_conducted 2 = .ok (.invokestatic 51, 3) := by decide +kernel
theorem dX4_conducted_5 : decode cX4_conducted 5 = .ok (.istore 4, 2) := by decide +kernel
theorem dX4_conducted_7 : decode cX4_conducted 7 = .ok (.aload_n 3, 1) := by decide +kernel
theorem dX4_conducted_8 : decode cX4_conducted 8 = .ok (.getfield 55, 3) := by decide +kernel
theorem dX4_conducted_11 : decode cX4_conducted 11 = .ok (.ifCond .eq 13, 3) := by decide +kernel
theorem dX4_conducted_14 : decode cX4_conducted 14 = .ok (.aload_n 0, 1) := by decide +kernel
theorem dX4_conducted_15 : decode cX4_conducted 15 = .ok (.getfield 21, 3) := by decide +kernel
theorem dX4_conducted_18 : decode cX4_conducted 18 = .ok (.iload 4, 2) := by decide +kernel
theorem dX4_conducted_20 : decode cX4_conducted 20 = .ok (.baload, 1) := by decide +kernel
theorem dX4_conducted_21 : decode cX4_conducted 21 = .ok (.ifCond .eq 11, 3) := by decide +kernel
theorem dX4_conducted_24 : decode cX4_conducted 24 = .ok (.aload_n 0, 1) := by decide +kernel
theorem dX4_conducted_25 : decode cX4_conducted 25 = .ok (.getfield 9, 3) := by decide +kernel
theorem dX4_conducted_28 : decode cX4_conducted 28 = .ok (.iload 4, 2) := by decide +kernel
theorem dX4_conducted_30 : decode cX4_conducted 30 = .ok (.iaload, 1) := by decide +kernel
theorem dX4_conducted_31 : decode cX4_conducted 31 = .ok (.ireturn, 1) := by decide +kernel
theorem dX4_conducted_32 : decode cX4_conducted 32 = .ok (.aload_n 3, 1) := by decide +kernel
theorem dX4_conducted_33 : decode cX4_conducted 33 = .ok (.getfield 60, 3) := by decide +kernel
theorem dX4_conducted_36 : decode cX4_conducted 36 = .ok (.aload_n 0, 1) := by decide +kernel
theorem dX4_conducted_37 : decode cX4_conducted 37 = .ok (.getfield 18, 3) := by decide +kernel
theorem dX4_conducted_40 : decode cX4_conducted 40 = .ok (.iload 4, 2) := by decide +kernel
theorem dX4_conducted_42 : decode cX4_conducted 42 = .ok (.iaload, 1) := by decide +kernel
theorem dX4_conducted_43 : decode cX4_conducted 43 = .ok (.isub, 1) := by decide +kernel
theorem dX4_conducted_44 : decode cX4_conducted 44 = .ok (.aload_n 3, 1) := by decide +kernel
theorem dX4_conducted_45 : decode cX4_conducted 45 = .ok (.getfield 55, 3) := by decide +kernel
theorem dX4_conducted_48 : decode cX4_conducted 48 = .ok (.invokestatic 63, 3) := by decide +kernel
theorem dX4_conducted_51 : decode cX4_conducted 51 = .ok (.istore 5, 2) := by decide +kernel
theorem dX4_conducted_53 : decode cX4_conducted 53 = .ok (.iconst 0, 1) := by decide +kernel
theorem dX4_conducted_54 : decode cX4_conducted 54 = .ok (.aload_n 0, 1) := by decide +kernel
theorem dX4_conducted_55 : decode cX4_conducted 55 = .ok (.getfield 9, 3) := by decide +kernel
theorem dX4_conducted_58 : decode cX4_conducted 58 = .ok (.iload 4, 2) := by decide +kernel
theorem dX4_conducted_60 : decode cX4_conducted 60 = .ok (.iaload, 1) := by decide +kernel
theorem dX4_conducted_61 : decode cX4_conducted 61 = .ok (.iload 5, 2) := by decide +kernel
theorem dX4_conducted_63 : decode cX4_conducted 63 = .ok (.isub, 1) := by decide +kernel
theorem dX4_conducted_64 : decode cX4_conducted 64 = .ok (.invokestatic 66, 3) := by decide +kernel
theorem dX4_conducted_67 : decode cX4_conducted 67 = .ok (.ireturn, 1) := by decide +kernel
set_option maxRecDepth 20000 in
theorem ggX4_becomesStuck_X5_indexOf : GoodIn wsX4_becomesStuck wsX5_indexOf := goodIn_r _ [5] (by decide +kernel) (by decide +kernel)
set_option maxRecDepth 20000 in
theorem gX4_becomesStuck_X5_indexOf_n51 : GoodIn wsX4_becomesStuck (wsX5_indexOf) := ggX4_becomesStuck_X5_indexOf
theorem dX4_becomesStuck_0 : decode cX4_becomesStuck 0 = .ok (.iload_n 1, 1) := by decide +kernel
theorem dX4_becomesStuck_1 : decode cX4_becomesStuck 1 = .ok (.iload_n 2, 1) := by decide +kernel
theorem dX4_becomesStuck_2 : decode cX4_becomesStuck 2 = .ok (.invokestatic 51, 3) := by decide +kernel
theorem dX4_becomesStuck_5 : decode cX4_becomesStuck 5 = .ok (.istore 4, 2) := by decide +kernel
theorem dX4_becomesStuck_7 : decode cX4_becomesStuck 7 = .ok (.aload_n 0, 1) := by decide +kernel
theorem dX4_becomesStuck_8 : decode cX4_becomesStuck 8 = .ok (.getfield 21, 3) := by decide +kernel
theorem dX4_becomesStuck_11 : decode cX4_becomesStuck 11 = .ok (.iload 4, 2) := by decide +kernel
theorem dX4_becomesStuck_13 : decode cX4_becomesStuck 13 = .ok (.baload, 1) := by decide +kernel
theorem dX4_becomesStuck_14 : decode cX4_becomesStuck 14 = .ok (.ifCond .eq 5, 3) := by decide +kernel
theorem dX4_becomesStuck_17 : decode cX4_becomesStuck 17 = .ok (.iconst 0, 1) := by decide +kernel
theorem dX4_becomesStuck_18 : decode cX4_becomesStuck 18 = .ok (.ireturn, 1) := by decide +kernel
theorem dX4_becomesStuck_19 : decode cX4_becomesStuck 19 = .ok (.aload_n 0, 1) := by decide +kernel
theorem dX4_becomesStuck_20 : decode cX4_becomesStuck 20 = .ok (.getfield 21, 3) := by decide +kernel
theorem dX4_becomesStuck_23 : decode cX4_becomesStuck 23 = .ok (.iload 4, 2) := by decide +kernel
theorem dX4_becomesStuck_25 : decode cX4_becomesStuck 25 = .ok (.iconst 1, 1) := by decide +kernel
theorem dX4_becomesStuck_26 : decode cX4_becomesStuck 26 = .ok (.bastore, 1) := by decide +kernel
theorem dX4_becomesStuck_27 : decode cX4_becomesStuck 27 = .ok (.aload_n 0, 1) := by decide +kernel
theorem dX4_becomesStuck_28 : decode cX4_becomesStuck 28 = .ok (.getfield 9, 3) := by decide +kernel
theorem dX4_becomesStuck_31 : decode cX4_becomesStuck 31 = .ok (.iload 4, 2) := by decide +kernel
theorem dX4_becomesStuck_33 : decode cX4_becomesStuck 33 = .ok (.iload_n 3, 1) := by decide +kernel
theorem dX4_becomesStuck_34 : decode cX4_becomesStuck 34 = .ok (.iastore, 1) := by decide +kernel
theorem dX4_becomesStuck_35 : decode cX4_becomesStuck 35 = .ok (.iconst 1, 1) := by decide +kernel
theorem dX4_becomesStuck_36 : decode cX4_becomesStuck 36 = .ok (.ireturn, 1) := by decide +kernel
set_option maxRecDepth 20000 in
theorem ggX4_failsToWrite_X5_indexOf : GoodIn wsX4_failsToWrite wsX5_indexOf := goodIn_r _ [9] (by decide +kernel) (by decide +kernel)
set_option maxRecDepth 20000 in
theorem gX4_failsToWrite_X5_indexOf_n51 : GoodIn wsX4_failsToWrite (wsX5_indexOf) := ggX4_failsToWrite_X5_indexOf
set_option maxRecDepth 20000 in
theorem ggX4_failsToWrite_X4_conducted : GoodIn wsX4_failsToWrite wsX4_conducted := goodIn_r _ [14, 15, 1, 2, 4, 3, 16, 17, 18, 19, 7, 8, 9, 20, 21, 39, 40, 41, 27, 28, 29, 30, 31, 32, 33, 34, 35, 36, 37, 38] (by decide +kernel) (by decide +kernel)
set_option maxRecDepth 20000 in
theorem gX4_failsToWrite_X4_conducted : GoodIn wsX4_failsToWrite (wsV RX4 71 RX4 yX4_conducted wsX4_conducted) := goodIn_app (goodIn_of _ (by decide +kernel)) ggX4_failsToWrite_X4_conducted
set_option maxRecDepth 20000 in
theorem ggX4_failsToWrite_X4_givePulse : GoodIn wsX4_failsToWrite wsX4_givePulse := goodIn_r _ [25, 26, 1, 2, 16, 17, 18, 19, 27, 28, 29, 30, 31, 32, 33, 34, 35, 36, 37, 38] (by decide +kernel) (by decide +kernel)
set_option maxRecDepth 20000 in
theorem gX4_failsToWrite_X4_givePulse : GoodIn wsX4_failsToWrite (wsV RX4 78 RX4 yX4_givePulse wsX4_givePulse) := goodIn_app (goodIn_of _ (by decide +kernel)) ggX4_failsToWrite_X4_givePulse
theorem dX4_failsToWrite_0 : decode cX4_failsToWrite 0 = .ok (.iload_n 1, 1) := by decide +kernel
theorem dX4_failsToWrite_1 : decode cX4_failsToWrite 1 = .ok (.iload_n 2, 1) := by decide +kernel
theorem dX4_failsToWrite_2 : decode cX4_failsToWrite 2 = .ok (.invokestatic 51, 3) := by decide +kernel
theorem dX4_failsToWrite_5 : decode cX4_failsToWrite 5 = .ok (.istore 5, 2) := by decide +kernel
theorem dX4_failsToWrite_7 : decode cX4_failsToWrite 7 = .ok (.aload_n 0, 1) := by decide +kernel
theorem dX4_failsToWrite_8 : decode cX4_failsToWrite 8 = .ok (.getfield 21, 3) := by decide +kernel
theorem dX4_failsToWrite_11 : decode cX4_failsToWrite 11 = .ok (.iload 5, 2) := by decide +kernel
theorem dX4_failsToWrite_13 : decode cX4_failsToWrite 13 = .ok (.baload, 1) := by decide +kernel
theorem dX4_failsToWrite_14 : decode cX4_failsToWrite 14 = .ok (.ifCond .ne 30, 3) := by decide +kernel
theorem dX4_failsToWrite_17 : decode cX4_failsToWrite 17 = .ok (.aload_n 0, 1) := by decide +kernel
theorem dX4_failsToWrite_18 : decode cX4_failsToWrite 18 = .ok (.getfield 9, 3) := by decide +kernel
theorem dX4_failsToWrite_21 : decode cX4_failsToWrite 21 = .ok (.iload 5, 2) := by decide +kernel
theorem dX4_failsToWrite_23 : decode cX4_failsToWrite 23 = .ok (.aload_n 0, 1) := by decide +kernel
theorem dX4_failsToWrite_24 : decode cX4_failsToWrite 24 = .ok (.iload_n 1, 1) := by decide +kernel
theorem dX4_failsToWrite_25 : decode cX4_failsToWrite 25 = .ok (.iload_n 2, 1) := by decide +kernel
theorem dX4_failsToWrite_26 : decode cX4_failsToWrite 26 = .ok (.aload 4, 2) := by decide +kernel
theorem dX4_failsToWrite_28 : decode cX4_failsToWrite 28 = .ok (.invokevirtual 71, 3) := by decide +kernel
theorem dX4_failsToWrite_31 : decode cX4_failsToWrite 31 = .ok (.iastore, 1) := by decide +kernel
theorem dX4_failsToWrite_32 : decode cX4_failsToWrite 32 = .ok (.aload_n 0, 1) := by decide +kernel
theorem dX4_failsToWrite_33 : decode cX4_failsToWrite 33 = .ok (.getfield 18, 3) := by decide +kernel
theorem dX4_failsToWrite_36 : decode cX4_failsToWrite 36 = .ok (.iload 5, 2) := by decide +kernel
theorem dX4_failsToWrite_38 : decode cX4_failsToWrite 38 = .ok (.aload 4, 2) := by decide +kernel
theorem dX4_failsToWrite_40 : decode cX4_failsToWrite 40 = .ok (.getfield 60, 3) := by decide +kernel
theorem dX4_failsToWrite_43 : decode cX4_failsToWrite 43 = .ok (.iastore, 1) := by decide +kernel
theorem dX4_failsToWrite_44 : decode cX4_failsToWrite 44 = .ok (.iconst 0, 1) := by decide +kernel
theorem dX4_failsToWrite_45 : decode cX4_failsToWrite 45 = .ok (.istore 6, 2) := by decide +kernel
theorem dX4_failsToWrite_47 : decode cX4_failsToWrite 47 = .ok (.iload 6, 2) := by decide +kernel
theorem dX4_failsToWrite_49 : decode cX4_failsToWrite 49 = .ok (.bipush 16, 2) := by decide +kernel
theorem dX4_failsToWrite_51 : decode cX4_failsToWrite 51 = .ok (.if_icmp .ge 32, 3) := by decide +kernel
theorem dX4_failsToWrite_54 : decode cX4_failsToWrite 54 = .ok (.aload_n 0, 1) := by decide +kernel
theorem dX4_failsToWrite_55 : decode cX4_failsToWrite 55 = .ok (.getfield 9, 3) := by decide +kernel
theorem dX4_failsToWrite_58 : decode cX4_failsToWrite 58 = .ok (.iload 5, 2) := by decide +kernel
theorem dX4_failsToWrite_60 : decode cX4_failsToWrite 60 = .ok (.iaload, 1) := by decide +kernel
theorem dX4_failsToWrite_61 : decode cX4_failsToWrite 61 = .ok (.iload_n 3, 1) := by decide +kernel
theorem dX4_failsToWrite_62 : decode cX4_failsToWrite 62 = .ok (.if_icmp .eq 21, 3) := by decide +kernel
theorem dX4_failsToWrite_65 : decode cX4_failsToWrite 65 = .ok (.aload_n 0, 1) := by decide +kernel
theorem dX4_failsToWrite_66 : decode cX4_failsToWrite 66 = .ok (.iload 5, 2) := by decide +kernel
theorem dX4_failsToWrite_68 : decode cX4_failsToWrite 68 = .ok (.iload_n 3, 1) := by decide +kernel
theorem dX4_failsToWrite_69 : decode cX4_failsToWrite 69 = .ok (.aload 4, 2) := by decide +kernel
theorem dX4_failsToWrite_71 : decode cX4_failsToWrite 71 = .ok (.getfield 75, 3) := by decide +kernel
theorem dX4_failsToWrite_74 : decode cX4_failsToWrite 74 = .ok (.invokevirtual 78, 3) := by decide +kernel
theorem dX4_failsToWrite_77 : decode cX4_failsToWrite 77 = .ok (.iinc 6 1, 3) := by decide +kernel
theorem dX4_failsToWrite_80 : decode cX4_failsToWrite 80 = .ok (.goto (-33), 3) := by decide +kernel
theorem dX4_failsToWrite_83 : decode cX4_failsToWrite 83 = .ok (.aload_n 0, 1) := by decide +kernel
theorem dX4_failsToWrite_84 : decode cX4_failsToWrite 84 = .ok (.getfield 9, 3) := by decide +kernel
theorem dX4_failsToWrite_87 : decode cX4_failsToWrite 87 = .ok (.iload 5, 2) := by decide +kernel
theorem dX4_failsToWrite_89 : decode cX4_failsToWrite 89 = .ok (.iaload, 1) := by decide +kernel
theorem dX4_failsToWrite_90 : decode cX4_failsToWrite 90 = .ok (.iload_n 3, 1) := by decide +kernel
theorem dX4_failsToWrite_91 : decode cX4_failsToWrite 91 = .ok (.if_icmp .ne 5, 3) := by decide +kernel
theorem dX4_failsToWrite_94 : decode cX4_failsToWrite 94 = .ok (.iconst 0, 1) := by decide +kernel
theorem dX4_failsToWrite_95 : decode cX4_failsToWrite 95 = .ok (.ireturn, 1) := by decide +kernel
theorem dX4_failsToWrite_96 : decode cX4_failsToWrite 96 = .ok (.aload_n 0, 1) := by decide +kernel
theorem dX4_failsToWrite_97 : decode cX4_failsToWrite 97 = .ok (.getfield 25, 3) := by decide +kernel
theorem dX4_failsToWrite_100 : decode cX4_failsToWrite 100 = .ok (.iload 5, 2) := by decide +kernel
theorem dX4_failsToWrite_102 : decode cX4_failsToWrite 102 = .ok (.iconst 1, 1) := by decide +kernel
theorem dX4_failsToWrite_103 : decode cX4_failsToWrite 103 = .ok (.bastore, 1) := by decide +kernel
theorem dX4_failsToWrite_104 : decode cX4_failsToWrite 104 = .ok (.iconst 1, 1) := by decide +kernel
theorem dX4_failsToWrite_105 : decode cX4_failsToWrite 105 = .ok (.ireturn, 1) := by decide +kernel
theorem dX4_givePulse_0 : decode cX4_givePulse 0 = .ok (.aload_n 0, 1) := by decide +kernel
theorem dX4_givePulse_1 : decode cX4_givePulse 1 = .ok (.getfield 15, 3) := by decide +kernel
theorem dX4_givePulse_4 : decode cX4_givePulse 4 = .ok (.iload_n 1, 1) := by decide +kernel
theorem dX4_givePulse_5 : decode cX4_givePulse 5 = .ok (.dup2, 1) := by decide +kernel
theorem dX4_givePulse_6 : decode cX4_givePulse 6 = .ok (.iaload, 1) := by decide +kernel
theorem dX4_givePulse_7 : decode cX4_givePulse 7 = .ok (.iconst 1, 1) := by decide +kernel
theorem dX4_givePulse_8 : decode cX4_givePulse 8 = .ok (.iadd, 1) := by decide +kernel
theorem dX4_givePulse_9 : decode cX4_givePulse 9 = .ok (.iastore, 1) := by decide +kernel
theorem dX4_givePulse_10 : decode cX4_givePulse 10 = .ok (.aload_n 0, 1) := by decide +kernel
theorem dX4_givePulse_11 : decode cX4_givePulse 11 = .ok (.getfield 21, 3) := by decide +kernel
theorem dX4_givePulse_14 : decode cX4_givePulse 14 = .ok (.iload_n 1, 1) := by decide +kernel
theorem dX4_givePulse_15 : decode cX4_givePulse 15 = .ok (.baload, 1) := by decide +kernel
theorem dX4_givePulse_16 : decode cX4_givePulse 16 = .ok (.ifCond .eq 4, 3) := by decide +kernel
theorem dX4_givePulse_19 : decode cX4_givePulse 19 = .ok (.return_, 1) := by decide +kernel
theorem dX4_givePulse_20 : decode cX4_givePulse 20 = .ok (.aload_n 0, 1) := by decide +kernel
theorem dX4_givePulse_21 : decode cX4_givePulse 21 = .ok (.getfield 9, 3) := by decide +kernel
theorem dX4_givePulse_24 : decode cX4_givePulse 24 = .ok (.iload_n 1, 1) := by decide +kernel
theorem dX4_givePulse_25 : decode cX4_givePulse 25 = .ok (.aload_n 0, 1) := by decide +kernel
theorem dX4_givePulse_26 : decode cX4_givePulse 26 = .ok (.getfield 9, 3) := by decide +kernel
theorem dX4_givePulse_29 : decode cX4_givePulse 29 = .ok (.iload_n 1, 1) := by decide +kernel
theorem dX4_givePulse_30 : decode cX4_givePulse 30 = .ok (.iaload, 1) := by decide +kernel
theorem dX4_givePulse_31 : decode cX4_givePulse 31 = .ok (.iload_n 2, 1) := by decide +kernel
theorem dX4_givePulse_32 : decode cX4_givePulse 32 = .ok (.if_icmp .ge 14, 3) := by decide +kernel
theorem dX4_givePulse_35 : decode cX4_givePulse 35 = .ok (.aload_n 0, 1) := by decide +kernel
theorem dX4_givePulse_36 : decode cX4_givePulse 36 = .ok (.getfield 9, 3) := by decide +kernel
theorem dX4_givePulse_39 : decode cX4_givePulse 39 = .ok (.iload_n 1, 1) := by decide +kernel
theorem dX4_givePulse_40 : decode cX4_givePulse 40 = .ok (.iaload, 1) := by decide +kernel
theorem dX4_givePulse_41 : decode cX4_givePulse 41 = .ok (.iconst 1, 1) := by decide +kernel
theorem dX4_givePulse_42 : decode cX4_givePulse 42 = .ok (.iadd, 1) := by decide +kernel
theorem dX4_givePulse_43 : decode cX4_givePulse 43 = .ok (.goto 15, 3) := by decide +kernel
theorem dX4_givePulse_46 : decode cX4_givePulse 46 = .ok (.iconst 0, 1) := by decide +kernel
theorem dX4_givePulse_47 : decode cX4_givePulse 47 = .ok (.aload_n 0, 1) := by decide +kernel
theorem dX4_givePulse_48 : decode cX4_givePulse 48 = .ok (.getfield 9, 3) := by decide +kernel
theorem dX4_givePulse_51 : decode cX4_givePulse 51 = .ok (.iload_n 1, 1) := by decide +kernel
theorem dX4_givePulse_52 : decode cX4_givePulse 52 = .ok (.iaload, 1) := by decide +kernel
theorem dX4_givePulse_53 : decode cX4_givePulse 53 = .ok (.iconst 2, 1) := by decide +kernel
theorem dX4_givePulse_54 : decode cX4_givePulse 54 = .ok (.isub, 1) := by decide +kernel
theorem dX4_givePulse_55 : decode cX4_givePulse 55 = .ok (.invokestatic 66, 3) := by decide +kernel
theorem dX4_givePulse_58 : decode cX4_givePulse 58 = .ok (.iastore, 1) := by decide +kernel
theorem dX4_givePulse_59 : decode cX4_givePulse 59 = .ok (.aload_n 0, 1) := by decide +kernel
theorem dX4_givePulse_60 : decode cX4_givePulse 60 = .ok (.getfield 21, 3) := by decide +kernel
theorem dX4_givePulse_63 : decode cX4_givePulse 63 = .ok (.iload_n 1, 1) := by decide +kernel
theorem dX4_givePulse_64 : decode cX4_givePulse 64 = .ok (.aload_n 0, 1) := by decide +kernel
theorem dX4_givePulse_65 : decode cX4_givePulse 65 = .ok (.getfield 15, 3) := by decide +kernel
theorem dX4_givePulse_68 : decode cX4_givePulse 68 = .ok (.iload_n 1, 1) := by decide +kernel
theorem dX4_givePulse_69 : decode cX4_givePulse 69 = .ok (.iaload, 1) := by decide +kernel
theorem dX4_givePulse_70 : decode cX4_givePulse 70 = .ok (.iload_n 3, 1) := by decide +kernel
theorem dX4_givePulse_71 : decode cX4_givePulse 71 = .ok (.if_icmp .lt 7, 3) := by decide +kernel
theorem dX4_givePulse_74 : decode cX4_givePulse 74 = .ok (.iconst 1, 1) := by decide +kernel
theorem dX4_givePulse_75 : decode cX4_givePulse 75 = .ok (.goto 4, 3) := by decide +kernel
theorem dX4_givePulse_78 : decode cX4_givePulse 78 = .ok (.iconst 0, 1) := by decide +kernel
theorem dX4_givePulse_79 : decode cX4_givePulse 79 = .ok (.bastore, 1) := by decide +kernel
theorem dX4_givePulse_80 : decode cX4_givePulse 80 = .ok (.return_, 1) := by decide +kernel
set_option maxRecDepth 20000 in
theorem ggX4_isMisfit_X5_indexOf : GoodIn wsX4_isMisfit wsX5_indexOf := goodIn_r _ [5] (by decide +kernel) (by decide +kernel)
set_option maxRecDepth 20000 in
theorem gX4_isMisfit_X5_indexOf_n51 : GoodIn wsX4_isMisfit (wsX5_indexOf) := ggX4_isMisfit_X5_indexOf
theorem dX4_isMisfit_0 : decode cX4_isMisfit 0 = .ok (.iload_n 1, 1) := by decide +kernel
theorem dX4_isMisfit_1 : decode cX4_isMisfit 1 = .ok (.iload_n 2, 1) := by decide +kernel
theorem dX4_isMisfit_2 : decode cX4_isMisfit 2 = .ok (.invokestatic 51, 3) := by decide +kernel
theorem dX4_isMisfit_5 : decode cX4_isMisfit 5 = .ok (.istore 4, 2) := by decide +kernel
theorem dX4_isMisfit_7 : decode cX4_isMisfit 7 = .ok (.aload_n 0, 1) := by decide +kernel
theorem dX4_isMisfit_8 : decode cX4_isMisfit 8 = .ok (.getfield 25, 3) := by decide +kernel
theorem dX4_isMisfit_11 : decode cX4_isMisfit 11 = .ok (.iload 4, 2) := by decide +kernel
theorem dX4_isMisfit_13 : decode cX4_isMisfit 13 = .ok (.baload, 1) := by decide +kernel
theorem dX4_isMisfit_14 : decode cX4_isMisfit 14 = .ok (.ifCond .eq 18, 3) := by decide +kernel
theorem dX4_isMisfit_17 : decode cX4_isMisfit 17 = .ok (.aload_n 0, 1) := by decide +kernel
theorem dX4_isMisfit_18 : decode cX4_isMisfit 18 = .ok (.getfield 9, 3) := by decide +kernel
theorem dX4_isMisfit_21 : decode cX4_isMisfit 21 = .ok (.iload 4, 2) := by decide +kernel
theorem dX4_isMisfit_23 : decode cX4_isMisfit 23 = .ok (.iaload, 1) := by decide +kernel
theorem dX4_isMisfit_24 : decode cX4_isMisfit 24 = .ok (.iload_n 3, 1) := by decide +kernel
theorem dX4_isMisfit_25 : decode cX4_isMisfit 25 = .ok (.if_icmp .eq 7, 3) := by decide +kernel
theorem dX4_isMisfit_28 : decode cX4_isMisfit 28 = .ok (.iconst 1, 1) := by decide +kernel
theorem dX4_isMisfit_29 : decode cX4_isMisfit 29 = .ok (.goto 4, 3) := by decide +kernel
theorem dX4_isMisfit_32 : decode cX4_isMisfit 32 = .ok (.iconst 0, 1) := by decide +kernel
theorem dX4_isMisfit_33 : decode cX4_isMisfit 33 = .ok (.ireturn, 1) := by decide +kernel
set_option maxRecDepth 20000 in
theorem ggX4_read_X5_quotient : GoodIn wsX4_read wsX5_quotient := goodIn_r _ [14] (by decide +kernel) (by decide +kernel)
set_option maxRecDepth 20000 in
theorem gX4_read_X5_quotient_n63 : GoodIn wsX4_read (wsX5_quotient) := ggX4_read_X5_quotient
theorem dX4_read_0 : decode cX4_read 0 = .ok (.aload_n 0, 1) := by decide +kernel
theorem dX4_read_1 : decode cX4_read 1 = .ok (.getfield 38, 3) := by decide +kernel
theorem dX4_read_4 : decode cX4_read 4 = .ok (.ifCond .eq 7, 3) := by decide +kernel
theorem dX4_read_7 : decode cX4_read 7 = .ok (.iload_n 2, 1) := by decide +kernel
theorem dX4_read_8 : decode cX4_read 8 = .ok (.goto 15, 3) := by decide +kernel
theorem dX4_read_11 : decode cX4_read 11 = .ok (.iconst 0, 1) := by decide +kernel
theorem dX4_read_12 : decode cX4_read 12 = .ok (.iload_n 2, 1) := by decide +kernel
theorem dX4_read_13 : decode cX4_read 13 = .ok (.aload_n 0, 1) := by decide +kernel
theorem dX4_read_14 : decode cX4_read 14 = .ok (.getfield 28, 3) := by decide +kernel
theorem dX4_read_17 : decode cX4_read 17 = .ok (.iload_n 1, 1) := by decide +kernel
theorem dX4_read_18 : decode cX4_read 18 = .ok (.iaload, 1) := by decide +kernel
theorem dX4_read_19 : decode cX4_read 19 = .ok (.iadd, 1) := by decide +kernel
theorem dX4_read_20 : decode cX4_read 20 = .ok (.invokestatic 66, 3) := by decide +kernel
theorem dX4_read_23 : decode cX4_read 23 = .ok (.istore_n 3, 1) := by decide +kernel
theorem dX4_read_24 : decode cX4_read 24 = .ok (.aload_n 0, 1) := by decide +kernel
theorem dX4_read_25 : decode cX4_read 25 = .ok (.getfield 35, 3) := by decide +kernel
theorem dX4_read_28 : decode cX4_read 28 = .ok (.iload_n 3, 1) := by decide +kernel
theorem dX4_read_29 : decode cX4_read 29 = .ok (.aload_n 0, 1) := by decide +kernel
theorem dX4_read_30 : decode cX4_read 30 = .ok (.getfield 31, 3) := by decide +kernel
theorem dX4_read_33 : decode cX4_read 33 = .ok (.invokestatic 63, 3) := by decide +kernel
theorem dX4_read_36 : decode cX4_read 36 = .ok (.invokestatic 82, 3) := by decide +kernel
theorem dX4_read_39 : decode cX4_read 39 = .ok (.aload_n 0, 1) := by decide +kernel
theorem dX4_read_40 : decode cX4_read 40 = .ok (.getfield 31, 3) := by decide +kernel
theorem dX4_read_43 : decode cX4_read 43 = .ok (.imul, 1) := by decide +kernel
theorem dX4_read_44 : decode cX4_read 44 = .ok (.ireturn, 1) := by decide +kernel
set_option maxRecDepth 20000 in
theorem ggX4_leastError_X4_read : GoodIn wsX4_leastError wsX4_read := goodIn_r _ [9, 10, 11, 12, 13, 3, 14, 15, 16, 1, 2, 4, 17, 18, 19, 20, 21, 22, 23, 24, 25, 26, 27, 28, 29, 30, 31] (by decide +kernel) (by decide +kernel)
set_option maxRecDepth 20000 in
theorem gX4_leastError_X4_read : GoodIn wsX4_leastError (wsV RX4 85 RX4 yX4_read wsX4_read) := goodIn_app (goodIn_of _ (by decide +kernel)) ggX4_leastError_X4_read
theorem dX4_leastError_0 : decode cX4_leastError 0 = .ok (.aload_n 0, 1) := by decide +kernel
theorem dX4_leastError_1 : decode cX4_leastError 1 = .ok (.iload_n 1, 1) := by decide +kernel
theorem dX4_leastError_2 : decode cX4_leastError 2 = .ok (.iconst 0, 1) := by decide +kernel
theorem dX4_leastError_3 : decode cX4_leastError 3 = .ok (.invokevirtual 85, 3) := by decide +kernel
theorem dX4_leastError_6 : decode cX4_leastError 6 = .ok (.istore_n 3, 1) := by decide +kernel
theorem dX4_leastError_7 : decode cX4_leastError 7 = .ok (.iconst 1, 1) := by decide +kernel
theorem dX4_leastError_8 : decode cX4_leastError 8 = .ok (.istore 4, 2) := by decide +kernel
theorem dX4_leastError_10 : decode cX4_leastError 10 = .ok (.iload 4, 2) := by decide +kernel
theorem dX4_leastError_12 : decode cX4_leastError 12 = .ok (.iload_n 2, 1) := by decide +kernel
theorem dX4_leastError_13 : decode cX4_leastError 13 = .ok (.if_icmp .gt 24, 3) := by decide +kernel
theorem dX4_leastError_16 : decode cX4_leastError 16 = .ok (.iload_n 3, 1) := by decide +kernel
theorem dX4_leastError_17 : decode cX4_leastError 17 = .ok (.aload_n 0, 1) := by decide +kernel
theorem dX4_leastError_18 : decode cX4_leastError 18 = .ok (.iload_n 1, 1) := by decide +kernel
theorem dX4_leastError_19 : decode cX4_leastError 19 = .ok (.iload 4, 2) := by decide +kernel
theorem dX4_leastError_21 : decode cX4_leastError 21 = .ok (.invokevirtual 85, 3) := by decide +kernel
theorem dX4_leastError_24 : decode cX4_leastError 24 = .ok (.iload 4, 2) := by decide +kernel
theorem dX4_leastError_26 : decode cX4_leastError 26 = .ok (.isub, 1) := by decide +kernel
theorem dX4_leastError_27 : decode cX4_leastError 27 = .ok (.invokestatic 82, 3) := by decide +kernel
theorem dX4_leastError_30 : decode cX4_leastError 30 = .ok (.istore_n 3, 1) := by decide +kernel
theorem dX4_leastError_31 : decode cX4_leastError 31 = .ok (.iinc 4 1, 3) := by decide +kernel
theorem dX4_leastError_34 : decode cX4_leastError 34 = .ok (.goto (-24), 3) := by decide +kernel
theorem dX4_leastError_37 : decode cX4_leastError 37 = .ok (.iload_n 3, 1) := by decide +kernel
theorem dX4_leastError_38 : decode cX4_leastError 38 = .ok (.ireturn, 1) := by decide +kernel
set_option maxRecDepth 20000 in
theorem ggX4_greatestError_X4_read : GoodIn wsX4_greatestError wsX4_read := goodIn_r _ [9, 10, 11, 1, 2, 3, 4, 12, 13, 14, 15, 16, 17, 18, 19, 20, 21, 22, 23, 24, 25, 26, 27, 28, 29, 30, 31] (by decide +kernel) (by decide +kernel)
set_option maxRecDepth 20000 in
theorem gX4_greatestError_X4_read : GoodIn wsX4_greatestError (wsV RX4 85 RX4 yX4_read wsX4_read) := goodIn_app (goodIn_of _ (by decide +kernel)) ggX4_greatestError_X4_read
theorem dX4_greatestError_0 : decode cX4_greatestError 0 = .ok (.aload_n 0, 1) := by decide +kernel
theorem dX4_greatestError_1 : decode cX4_greatestError 1 = .ok (.iload_n 1, 1) := by decide +kernel
theorem dX4_greatestError_2 : decode cX4_greatestError 2 = .ok (.iconst 0, 1) := by decide +kernel
theorem dX4_greatestError_3 : decode cX4_greatestError 3 = .ok (.invokevirtual 85, 3) := by decide +kernel
theorem dX4_greatestError_6 : decode cX4_greatestError 6 = .ok (.istore_n 3, 1) := by decide +kernel
theorem dX4_greatestError_7 : decode cX4_greatestError 7 = .ok (.iconst 1, 1) := by decide +kernel
theorem dX4_greatestError_8 : decode cX4_greatestError 8 = .ok (.istore 4, 2) := by decide +kernel
theorem dX4_greatestError_10 : decode cX4_greatestError 10 = .ok (.iload 4, 2) := by decide +kernel
theorem dX4_greatestError_12 : decode cX4_greatestError 12 = .ok (.iload_n 2, 1) := by decide +kernel
theorem dX4_greatestError_13 : decode cX4_greatestError 13 = .ok (.if_icmp .gt 24, 3) := by decide +kernel
theorem dX4_greatestError_16 : decode cX4_greatestError 16 = .ok (.iload_n 3, 1) := by decide +kernel
theorem dX4_greatestError_17 : decode cX4_greatestError 17 = .ok (.aload_n 0, 1) := by decide +kernel
theorem dX4_greatestError_18 : decode cX4_greatestError 18 = .ok (.iload_n 1, 1) := by decide +kernel
theorem dX4_greatestError_19 : decode cX4_greatestError 19 = .ok (.iload 4, 2) := by decide +kernel
theorem dX4_greatestError_21 : decode cX4_greatestError 21 = .ok (.invokevirtual 85, 3) := by decide +kernel
theorem dX4_greatestError_24 : decode cX4_greatestError 24 = .ok (.iload 4, 2) := by decide +kernel
theorem dX4_greatestError_26 : decode cX4_greatestError 26 = .ok (.isub, 1) := by decide +kernel
theorem dX4_greatestError_27 : decode cX4_greatestError 27 = .ok (.invokestatic 66, 3) := by decide +kernel
theorem dX4_greatestError_30 : decode cX4_greatestError 30 = .ok (.istore_n 3, 1) := by decide +kernel
theorem dX4_greatestError_31 : decode cX4_greatestError 31 = .ok (.iinc 4 1, 3) := by decide +kernel
theorem dX4_greatestError_34 : decode cX4_greatestError 34 = .ok (.goto (-24), 3) := by decide +kernel
theorem dX4_greatestError_37 : decode cX4_greatestError 37 = .ok (.iload_n 3, 1) := by decide +kernel
theorem dX4_greatestError_38 : decode cX4_greatestError 38 = .ok (.ireturn, 1) := by decide +kernel
set_option maxRecDepth 20000 in
theorem ggX5_init_X3_init : GoodIn wsX5_init wsX3_init := goodIn_r _ [24, 25, 2, 3, 26, 27, 28, 58, 59, 60] (by decide +kernel) (by decide +kernel)
set_option maxRecDepth 20000 in
theorem gX5_init_X3_init_n11 : GoodIn wsX5_init (wsX3_init) := ggX5_init_X3_init
set_option maxRecDepth 20000 in
theorem ggX5_init_X2_init : GoodIn wsX5_init wsX2_init := goodIn_r _ [30, 31, 2, 3, 32, 33, 34, 67, 68] (by decide +kernel) (by decide +kernel)
set_option maxRecDepth 20000 in
theorem gX5_init_X2_init_n30 : GoodIn wsX5_init (wsX2_init) := ggX5_init_X2_init
set_option maxRecDepth 20000 in
theorem ggX5_init_X1_init : GoodIn wsX5_init wsX1_init := goodIn_r _ [36, 37, 2, 3, 32, 38, 39, 40, 69, 70, 71] (by decide +kernel) (by decide +kernel)
set_option maxRecDepth 20000 in
theorem gX5_init_X1_init_n37 : GoodIn wsX5_init (wsX1_init) := ggX5_init_X1_init
set_option maxRecDepth 20000 in
theorem ggX5_init_X4_init : GoodIn wsX5_init wsX4_init := goodIn_r _ [43, 44, 2, 3, 32, 45, 46, 47, 48, 49, 50, 51, 52, 53, 54, 55, 56, 57, 72, 73, 74, 75, 76, 77, 78, 79, 80, 81, 82, 83] (by decide +kernel) (by decide +kernel)
set_option maxRecDepth 20000 in
theorem gX5_init_X4_init : GoodIn wsX5_init (wsX4_init) := ggX5_init_X4_init
theorem dX5_init_0 : decode cX5_init 0 = .ok (.aload_n 0, 1) := by decide +kernel
theorem dX5_init_1 : decode cX5_init 1 = .ok (.invokespecial 3, 3) := by decide +kernel
theorem dX5_init_4 : decode cX5_init 4 = .ok (.aload_n 0, 1) := by decide +kernel
theorem dX5_init_5 : decode cX5_init 5 = .ok (.new 9, 3) := by decide +kernel
theorem dX5_init_8 : decode cX5_init 8 = .ok (.dup, 1) := by decide +kernel
theorem dX5_init_9 : decode cX5_init 9 = .ok (.invokespecial 11, 3) := by decide +kernel
theorem dX5_init_12 : decode cX5_init 12 = .ok (.putfield 12, 3) := by decide +kernel
theorem dX5_init_15 : decode cX5_init 15 = .ok (.aload_n 0, 1) := by decide +kernel
theorem dX5_init_16 : decode cX5_init 16 = .ok (.bipush 6, 2) := by decide +kernel
theorem dX5_init_18 : decode cX5_init 18 = .ok (.anewarray 16, 3) := by decide +kernel
theorem dX5_init_21 : decode cX5_init 21 = .ok (.putfield 18, 3) := by decide +kernel
theorem dX5_init_24 : decode cX5_init 24 = .ok (.aload_n 0, 1) := by decide +kernel
theorem dX5_init_25 : decode cX5_init 25 = .ok (.bipush 6, 2) := by decide +kernel
theorem dX5_init_27 : decode cX5_init 27 = .ok (.anewarray 22, 3) := by decide +kernel
theorem dX5_init_30 : decode cX5_init 30 = .ok (.putfield 24, 3) := by decide +kernel
theorem dX5_init_33 : decode cX5_init 33 = .ok (.aload_n 0, 1) := by decide +kernel
theorem dX5_init_34 : decode cX5_init 34 = .ok (.new 28, 3) := by decide +kernel
theorem dX5_init_37 : decode cX5_init 37 = .ok (.dup, 1) := by decide +kernel
theorem dX5_init_38 : decode cX5_init 38 = .ok (.invokespecial 30, 3) := by decide +kernel
theorem dX5_init_41 : decode cX5_init 41 = .ok (.putfield 31, 3) := by decide +kernel
theorem dX5_init_44 : decode cX5_init 44 = .ok (.aload_n 0, 1) := by decide +kernel
theorem dX5_init_45 : decode cX5_init 45 = .ok (.new 35, 3) := by decide +kernel
theorem dX5_init_48 : decode cX5_init 48 = .ok (.dup, 1) := by decide +kernel
theorem dX5_init_49 : decode cX5_init 49 = .ok (.invokespecial 37, 3) := by decide +kernel
theorem dX5_init_52 : decode cX5_init 52 = .ok (.putfield 38, 3) := by decide +kernel
theorem dX5_init_55 : decode cX5_init 55 = .ok (.aload_n 0, 1) := by decide +kernel
theorem dX5_init_56 : decode cX5_init 56 = .ok (.iconst 0, 1) := by decide +kernel
theorem dX5_init_57 : decode cX5_init 57 = .ok (.putfield 42, 3) := by decide +kernel
theorem dX5_init_60 : decode cX5_init 60 = .ok (.iconst 0, 1) := by decide +kernel
theorem dX5_init_61 : decode cX5_init 61 = .ok (.istore_n 1, 1) := by decide +kernel
theorem dX5_init_62 : decode cX5_init 62 = .ok (.iload_n 1, 1) := by decide +kernel
theorem dX5_init_63 : decode cX5_init 63 = .ok (.bipush 6, 2) := by decide +kernel
theorem dX5_init_65 : decode cX5_init 65 = .ok (.if_icmp .ge 23, 3) := by decide +kernel
theorem dX5_init_68 : decode cX5_init 68 = .ok (.aload_n 0, 1) := by decide +kernel
theorem dX5_init_69 : decode cX5_init 69 = .ok (.getfield 18, 3) := by decide +kernel
theorem dX5_init_72 : decode cX5_init 72 = .ok (.iload_n 1, 1) := by decide +kernel
theorem dX5_init_73 : decode cX5_init 73 = .ok (.new 16, 3) := by decide +kernel
theorem dX5_init_76 : decode cX5_init 76 = .ok (.dup, 1) := by decide +kernel
theorem dX5_init_77 : decode cX5_init 77 = .ok (.iload_n 1, 1) := by decide +kernel
theorem dX5_init_78 : decode cX5_init 78 = .ok (.invokespecial 46, 3) := by decide +kernel
theorem dX5_init_81 : decode cX5_init 81 = .ok (.aastore, 1) := by decide +kernel
theorem dX5_init_82 : decode cX5_init 82 = .ok (.iinc 1 1, 3) := by decide +kernel
theorem dX5_init_85 : decode cX5_init 85 = .ok (.goto (-23), 3) := by decide +kernel
theorem dX5_init_88 : decode cX5_init 88 = .ok (.return_, 1) := by decide +kernel
set_option maxRecDepth 20000 in
theorem ggX5_layer_X5_checkArgument : GoodIn wsX5_layer wsX5_checkArgument := goodIn_ca (goodIn_r _ [11, 12, 13] (by decide +kernel) (by decide +kernel)) (goodIn_sub (fun _ h => List.mem_cons_of_mem _ (List.mem_append_right _ h)) (by decide +kernel))
set_option maxRecDepth 20000 in
theorem gX5_layer_X5_checkArgument : GoodIn wsX5_layer (va_wsS RX5 49 yX5_checkArgument wsX5_checkArgument) := goodIn_app (goodIn_of _ (by decide +kernel)) ggX5_layer_X5_checkArgument
set_option maxRecDepth 20000 in
theorem ggX5_layer_X0_init : GoodIn wsX5_layer wsX0_init := goodIn_r _ [16, 17, 18, 19, 20, 21, 22, 23, 24, 25, 26, 27, 28, 35, 36, 37, 38, 39, 40, 41, 42] (by decide +kernel) (by decide +kernel)
set_option maxRecDepth 20000 in
theorem gX5_layer_X0_init : GoodIn wsX5_layer (wsX0_init) := ggX5_layer_X0_init
theorem dX5_layer_0 : decode cX5_layer 0 = .ok (.iload_n 1, 1) := by decide +kernel
theorem dX5_layer_1 : decode cX5_layer 1 = .ok (.iconst 1, 1) := by decide +kernel
theorem dX5_layer_2 : decode cX5_layer 2 = .ok (.bipush 8, 2) := by decide +kernel
theorem dX5_layer_4 : decode cX5_layer 4 = .ok (.invokestatic 49, 3) := by decide +kernel
theorem dX5_layer_7 : decode cX5_layer 7 = .ok (.iload_n 2, 1) := by decide +kernel
theorem dX5_layer_8 : decode cX5_layer 8 = .ok (.iconst 1, 1) := by decide +kernel
theorem dX5_layer_9 : decode cX5_layer 9 = .ok (.iconst 4, 1) := by decide +kernel
theorem dX5_layer_10 : decode cX5_layer 10 = .ok (.invokestatic 49, 3) := by decide +kernel
theorem dX5_layer_13 : decode cX5_layer 13 = .ok (.aload_n 0, 1) := by decide +kernel
theorem dX5_layer_14 : decode cX5_layer 14 = .ok (.getfield 42, 3) := by decide +kernel
theorem dX5_layer_17 : decode cX5_layer 17 = .ok (.bipush 6, 2) := by decide +kernel
theorem dX5_layer_19 : decode cX5_layer 19 = .ok (.if_icmp .lt 13, 3) := by decide +kernel
theorem dX5_layer_22 : decode cX5_layer 22 = .ok (.new 53, 3) := by decide +kernel
theorem dX5_layer_25 : decode cX5_layer 25 = .ok (.dup, 1) := by decide +kernel
theorem dX5_layer_26 : decode cX5_layer 26 = .ok (.ldc 55, 2) := by decide +kernel
theorem dX5_layer_28 : decode cX5_layer 28 = .ok (.invokespecial 57, 3) := by decide +kernel
theorem dX5_layer_31 : decode cX5_layer 31 = .ok (.athrow, 1) := by decide +kernel
theorem dX5_layer_32 : decode cX5_layer 32 = .ok (.aload_n 0, 1) := by decide +kernel
theorem dX5_layer_33 : decode cX5_layer 33 = .ok (.getfield 24, 3) := by decide +kernel
theorem dX5_layer_36 : decode cX5_layer 36 = .ok (.aload_n 0, 1) := by decide +kernel
theorem dX5_layer_37 : decode cX5_layer 37 = .ok (.getfield 42, 3) := by decide +kernel
theorem dX5_layer_40 : decode cX5_layer 40 = .ok (.new 22, 3) := by decide +kernel
theorem dX5_layer_43 : decode cX5_layer 43 = .ok (.dup, 1) := by decide +kernel
theorem dX5_layer_44 : decode cX5_layer 44 = .ok (.aload_n 0, 1) := by decide +kernel
theorem dX5_layer_45 : decode cX5_layer 45 = .ok (.getfield 42, 3) := by decide +kernel
theorem dX5_layer_48 : decode cX5_layer 48 = .ok (.iload_n 1, 1) := by decide +kernel
theorem dX5_layer_49 : decode cX5_layer 49 = .ok (.iload_n 2, 1) := by decide +kernel
theorem dX5_layer_50 : decode cX5_layer 50 = .ok (.invokespecial 60, 3) := by decide +kernel
theorem dX5_layer_53 : decode cX5_layer 53 = .ok (.aastore, 1) := by decide +kernel
theorem dX5_layer_54 : decode cX5_layer 54 = .ok (.aload_n 0, 1) := by decide +kernel
theorem dX5_layer_55 : decode cX5_layer 55 = .ok (.dup, 1) := by decide +kernel
theorem dX5_layer_56 : decode cX5_layer 56 = .ok (.getfield 42, 3) := by decide +kernel
theorem dX5_layer_59 : decode cX5_layer 59 = .ok (.iconst 1, 1) := by decide +kernel
theorem dX5_layer_60 : decode cX5_layer 60 = .ok (.iadd, 1) := by decide +kernel
theorem dX5_layer_61 : decode cX5_layer 61 = .ok (.putfield 42, 3) := by decide +kernel
theorem dX5_layer_64 : decode cX5_layer 64 = .ok (.aload_n 0, 1) := by decide +kernel
theorem dX5_layer_65 : decode cX5_layer 65 = .ok (.getfield 42, 3) := by decide +kernel
theorem dX5_layer_68 : decode cX5_layer 68 = .ok (.iconst 1, 1) := by decide +kernel
theorem dX5_layer_69 : decode cX5_layer 69 = .ok (.isub, 1) := by decide +kernel
theorem dX5_layer_70 : decode cX5_layer 70 = .ok (.ireturn, 1) := by decide +kernel
set_option maxRecDepth 20000 in
theorem ggX5_weight_X5_layerAt : GoodIn wsX5_weight wsX5_layerAt := goodIn_ca (goodIn_r _ [7, 8, 9, 10, 37, 38, 39, 40, 41, 42] (by decide +kernel) (by decide +kernel)) (goodIn_sub (fun _ h => List.mem_cons_of_mem _ (List.mem_append_left _ (List.mem_append_right _ h))) (by decide +kernel))
set_option maxRecDepth 20000 in
theorem gX5_weight_X5_layerAt : GoodIn wsX5_weight (wsV RX5 62 RX5 yX5_layerAt wsX5_layerAt) := goodIn_app (goodIn_of _ (by decide +kernel)) ggX5_weight_X5_layerAt
set_option maxRecDepth 20000 in
theorem ggX5_weight_X5_checkIndex : GoodIn wsX5_weight wsX5_checkIndex := goodIn_ca (goodIn_r _ [13, 8, 9] (by decide +kernel) (by decide +kernel)) (goodIn_sub (fun _ h => List.mem_cons_of_mem _ (List.mem_append_left _ (List.mem_append_right _ h))) (by decide +kernel))
set_option maxRecDepth 20000 in
theorem gX5_weight_X5_checkIndex : GoodIn wsX5_weight (va_wsS RX5 69 yX5_checkIndex wsX5_checkIndex) := goodIn_app (goodIn_of _ (by decide +kernel)) ggX5_weight_X5_checkIndex
set_option maxRecDepth 20000 in
theorem ggX5_weight_X5_checkArgument : GoodIn wsX5_weight wsX5_checkArgument := goodIn_ca (goodIn_r _ [16, 17, 18] (by decide +kernel) (by decide +kernel)) (goodIn_sub (fun _ h => List.mem_cons_of_mem _ (List.mem_append_right _ h)) (by decide +kernel))
set_option maxRecDepth 20000 in
theorem gX5_weight_X5_checkArgument : GoodIn wsX5_weight (va_wsS RX5 49 yX5_checkArgument wsX5_checkArgument) := goodIn_app (goodIn_of _ (by decide +kernel)) ggX5_weight_X5_checkArgument
set_option maxRecDepth 20000 in
theorem ggX5_weight_X0_weightOf : GoodIn wsX5_weight wsX0_weightOf := goodIn_r _ [23, 24, 29, 30, 31, 32, 33, 34, 35, 36] (by decide +kernel) (by decide +kernel)
set_option maxRecDepth 20000 in
theorem gX5_weight_X0_weightOf : GoodIn wsX5_weight (wsV RX5 76 RX0 yX0_weightOf wsX0_weightOf) := goodIn_app (goodIn_of _ (by decide +kernel)) ggX5_weight_X0_weightOf
set_option maxRecDepth 20000 in
theorem ggX5_weight_X0_tellWeight : GoodIn wsX5_weight wsX0_tellWeight := goodIn_r _ [28, 24, 29, 30, 31, 32, 33, 34, 35, 36] (by decide +kernel) (by decide +kernel)
set_option maxRecDepth 20000 in
theorem gX5_weight_X0_tellWeight : GoodIn wsX5_weight (wsV RX5 80 RX0 yX0_tellWeight wsX0_tellWeight) := goodIn_app (goodIn_of _ (by decide +kernel)) ggX5_weight_X0_tellWeight
theorem dX5_weight_0 : decode cX5_weight 0 = .ok (.aload_n 0, 1) := by decide +kernel
theorem dX5_weight_1 : decode cX5_weight 1 = .ok (.iload_n 1, 1) := by decide +kernel
theorem dX5_weight_2 : decode cX5_weight 2 = .ok (.invokevirtual 62, 3) := by decide +kernel
theorem dX5_weight_5 : decode cX5_weight 5 = .ok (.astore 5, 2) := by decide +kernel
theorem dX5_weight_7 : decode cX5_weight 7 = .ok (.iload_n 2, 1) := by decide +kernel
theorem dX5_weight_8 : decode cX5_weight 8 = .ok (.aload 5, 2) := by decide +kernel
theorem dX5_weight_10 : decode cX5_weight 10 = .ok (.getfield 66, 3) := by decide +kernel
theorem dX5_weight_13 : decode cX5_weight 13 = .ok (.invokestatic 69, 3) := by decide +kernel
theorem dX5_weight_16 : decode cX5_weight 16 = .ok (.iload_n 3, 1) := by decide +kernel
theorem dX5_weight_17 : decode cX5_weight 17 = .ok (.aload 5, 2) := by decide +kernel
theorem dX5_weight_19 : decode cX5_weight 19 = .ok (.getfield 73, 3) := by decide +kernel
theorem dX5_weight_22 : decode cX5_weight 22 = .ok (.invokestatic 69, 3) := by decide +kernel
theorem dX5_weight_25 : decode cX5_weight 25 = .ok (.iload 4, 2) := by decide +kernel
theorem dX5_weight_27 : decode cX5_weight 27 = .ok (.sipush (-255), 3) := by decide +kernel
theorem dX5_weight_30 : decode cX5_weight 30 = .ok (.sipush 255, 3) := by decide +kernel
theorem dX5_weight_33 : decode cX5_weight 33 = .ok (.invokestatic 49, 3) := by decide +kernel
theorem dX5_weight_36 : decode cX5_weight 36 = .ok (.aload 5, 2) := by decide +kernel
theorem dX5_weight_38 : decode cX5_weight 38 = .ok (.iload_n 2, 1) := by decide +kernel
theorem dX5_weight_39 : decode cX5_weight 39 = .ok (.iload_n 3, 1) := by decide +kernel
theorem dX5_weight_40 : decode cX5_weight 40 = .ok (.invokevirtual 76, 3) := by decide +kernel
theorem dX5_weight_43 : decode cX5_weight 43 = .ok (.istore 6, 2) := by decide +kernel
theorem dX5_weight_45 : decode cX5_weight 45 = .ok (.aload 5, 2) := by decide +kernel
theorem dX5_weight_47 : decode cX5_weight 47 = .ok (.iload_n 2, 1) := by decide +kernel
theorem dX5_weight_48 : decode cX5_weight 48 = .ok (.iload_n 3, 1) := by decide +kernel
theorem dX5_weight_49 : decode cX5_weight 49 = .ok (.iload 4, 2) := by decide +kernel
theorem dX5_weight_51 : decode cX5_weight 51 = .ok (.invokevirtual 80, 3) := by decide +kernel
theorem dX5_weight_54 : decode cX5_weight 54 = .ok (.iload 6, 2) := by decide +kernel
theorem dX5_weight_56 : decode cX5_weight 56 = .ok (.ireturn, 1) := by decide +kernel
set_option maxRecDepth 20000 in
theorem ggX5_shift_X5_layerAt : GoodIn wsX5_shift wsX5_layerAt := goodIn_ca (goodIn_r _ [6, 7, 8, 9, 23, 24, 25, 26, 27, 28] (by decide +kernel) (by decide +kernel)) (goodIn_sub (fun _ h => List.mem_cons_of_mem _ (List.mem_append_left _ (List.mem_append_right _ h))) (by decide +kernel))
set_option maxRecDepth 20000 in
theorem gX5_shift_X5_layerAt : GoodIn wsX5_shift (wsV RX5 62 RX5 yX5_layerAt wsX5_layerAt) := goodIn_app (goodIn_of _ (by decide +kernel)) ggX5_shift_X5_layerAt
set_option maxRecDepth 20000 in
theorem ggX5_shift_X5_checkArgument : GoodIn wsX5_shift wsX5_checkArgument := goodIn_ca (goodIn_r _ [12, 13, 14] (by decide +kernel) (by decide +kernel)) (goodIn_sub (fun _ h => List.mem_cons_of_mem _ (List.mem_append_right _ h)) (by decide +kernel))
set_option maxRecDepth 20000 in
theorem gX5_shift_X5_checkArgument : GoodIn wsX5_shift (va_wsS RX5 49 yX5_checkArgument wsX5_checkArgument) := goodIn_app (goodIn_of _ (by decide +kernel)) ggX5_shift_X5_checkArgument
theorem dX5_shift_0 : decode cX5_shift 0 = .ok (.aload_n 0, 1) := by decide +kernel
theorem dX5_shift_1 : decode cX5_shift 1 = .ok (.iload_n 1, 1) := by decide +kernel
theorem dX5_shift_2 : decode cX5_shift 2 = .ok (.invokevirtual 62, 3) := by decide +kernel
theorem dX5_shift_5 : decode cX5_shift 5 = .ok (.astore_n 3, 1) := by decide +kernel
theorem dX5_shift_6 : decode cX5_shift 6 = .ok (.iload_n 2, 1) := by decide +kernel
theorem dX5_shift_7 : decode cX5_shift 7 = .ok (.iconst 0, 1) := by decide +kernel
theorem dX5_shift_8 : decode cX5_shift 8 = .ok (.bipush 20, 2) := by decide +kernel
theorem dX5_shift_10 : decode cX5_shift 10 = .ok (.invokestatic 49, 3) := by decide +kernel
theorem dX5_shift_13 : decode cX5_shift 13 = .ok (.aload_n 3, 1) := by decide +kernel
theorem dX5_shift_14 : decode cX5_shift 14 = .ok (.getfield 83, 3) := by decide +kernel
theorem dX5_shift_17 : decode cX5_shift 17 = .ok (.istore 4, 2) := by decide +kernel
theorem dX5_shift_19 : decode cX5_shift 19 = .ok (.aload_n 3, 1) := by decide +kernel
theorem dX5_shift_20 : decode cX5_shift 20 = .ok (.iload_n 2, 1) := by decide +kernel
theorem dX5_shift_21 : decode cX5_shift 21 = .ok (.putfield 83, 3) := by decide +kernel
theorem dX5_shift_24 : decode cX5_shift 24 = .ok (.iload 4, 2) := by decide +kernel
theorem dX5_shift_26 : decode cX5_shift 26 = .ok (.ireturn, 1) := by decide +kernel
set_option maxRecDepth 20000 in
theorem ggX5_next_X5_layerAt : GoodIn wsX5_next wsX5_layerAt := goodIn_ca (goodIn_r _ [9, 10, 11, 12, 29, 30, 31, 32, 33, 34] (by decide +kernel) (by decide +kernel)) (goodIn_sub (fun _ h => List.mem_cons_of_mem _ (List.mem_append_right _ h)) (by decide +kernel))
set_option maxRecDepth 20000 in
theorem gX5_next_X5_layerAt : GoodIn wsX5_next (wsV RX5 62 RX5 yX5_layerAt wsX5_layerAt) := goodIn_app (goodIn_of _ (by decide +kernel)) ggX5_next_X5_layerAt
set_option maxRecDepth 20000 in
theorem ggX5_next_X0_canGoOnTo : GoodIn wsX5_next wsX0_canGoOnTo := goodIn_r _ [17, 18, 19, 20, 21, 22, 23, 24, 25, 26, 27, 28] (by decide +kernel) (by decide +kernel)
set_option maxRecDepth 20000 in
theorem gX5_next_X0_canGoOnTo : GoodIn wsX5_next (wsV RX5 86 RX0 yX0_canGoOnTo wsX0_canGoOnTo) := goodIn_app (goodIn_of _ (by decide +kernel)) ggX5_next_X0_canGoOnTo
theorem dX5_next_0 : decode cX5_next 0 = .ok (.aload_n 0, 1) := by decide +kernel
theorem dX5_next_1 : decode cX5_next 1 = .ok (.iload_n 1, 1) := by decide +kernel
theorem dX5_next_2 : decode cX5_next 2 = .ok (.invokevirtual 62, 3) := by decide +kernel
theorem dX5_next_5 : decode cX5_next 5 = .ok (.astore_n 3, 1) := by decide +kernel
theorem dX5_next_6 : decode cX5_next 6 = .ok (.iload_n 2, 1) := by decide +kernel
theorem dX5_next_7 : decode cX5_next 7 = .ok (.iconst (-1), 1) := by decide +kernel
theorem dX5_next_8 : decode cX5_next 8 = .ok (.if_icmp .ne 7, 3) := by decide +kernel
theorem dX5_next_11 : decode cX5_next 11 = .ok (.aconst_null, 1) := by decide +kernel
theorem dX5_next_12 : decode cX5_next 12 = .ok (.goto 8, 3) := by decide +kernel
theorem dX5_next_15 : decode cX5_next 15 = .ok (.aload_n 0, 1) := by decide +kernel
theorem dX5_next_16 : decode cX5_next 16 = .ok (.iload_n 2, 1) := by decide +kernel
theorem dX5_next_17 : decode cX5_next 17 = .ok (.invokevirtual 62, 3) := by decide +kernel
theorem dX5_next_20 : decode cX5_next 20 = .ok (.astore 4, 2) := by decide +kernel
theorem dX5_next_22 : decode cX5_next 22 = .ok (.aload 4, 2) := by decide +kernel
theorem dX5_next_24 : decode cX5_next 24 = .ok (.ifnull 22, 3) := by decide +kernel
theorem dX5_next_27 : decode cX5_next 27 = .ok (.aload_n 3, 1) := by decide +kernel
theorem dX5_next_28 : decode cX5_next 28 = .ok (.aload 4, 2) := by decide +kernel
theorem dX5_next_30 : decode cX5_next 30 = .ok (.invokevirtual 86, 3) := by decide +kernel
theorem dX5_next_33 : decode cX5_next 33 = .ok (.ifCond .ne 13, 3) := by decide +kernel
theorem dX5_next_36 : decode cX5_next 36 = .ok (.new 90, 3) := by decide +kernel
theorem dX5_next_39 : decode cX5_next 39 = .ok (.dup, 1) := by decide +kernel
theorem dX5_next_40 : decode cX5_next 40 = .ok (.ldc 92, 2) := by decide +kernel
theorem dX5_next_42 : decode cX5_next 42 = .ok (.invokespecial 94, 3) := by decide +kernel
theorem dX5_next_45 : decode cX5_next 45 = .ok (.athrow, 1) := by decide +kernel
theorem dX5_next_46 : decode cX5_next 46 = .ok (.aload_n 3, 1) := by decide +kernel
theorem dX5_next_47 : decode cX5_next 47 = .ok (.getfield 95, 3) := by decide +kernel
theorem dX5_next_50 : decode cX5_next 50 = .ok (.ifnonnull 7, 3) := by decide +kernel
theorem dX5_next_53 : decode cX5_next 53 = .ok (.iconst (-1), 1) := by decide +kernel
theorem dX5_next_54 : decode cX5_next 54 = .ok (.goto 10, 3) := by decide +kernel
theorem dX5_next_57 : decode cX5_next 57 = .ok (.aload_n 3, 1) := by decide +kernel
theorem dX5_next_58 : decode cX5_next 58 = .ok (.getfield 95, 3) := by decide +kernel
theorem dX5_next_61 : decode cX5_next 61 = .ok (.getfield 99, 3) := by decide +kernel
theorem dX5_next_64 : decode cX5_next 64 = .ok (.istore 5, 2) := by decide +kernel
theorem dX5_next_66 : decode cX5_next 66 = .ok (.aload_n 3, 1) := by decide +kernel
theorem dX5_next_67 : decode cX5_next 67 = .ok (.aload 4, 2) := by decide +kernel
theorem dX5_next_69 : decode cX5_next 69 = .ok (.putfield 95, 3) := by decide +kernel
theorem dX5_next_72 : decode cX5_next 72 = .ok (.iload 5, 2) := by decide +kernel
theorem dX5_next_74 : decode cX5_next 74 = .ok (.ireturn, 1) := by decide +kernel
set_option maxRecDepth 20000 in
theorem ggX5_place_X5_layerAt : GoodIn wsX5_place wsX5_layerAt := goodIn_ca (goodIn_r _ [11, 12, 13, 14, 137, 138, 139, 140, 141, 142] (by decide +kernel) (by decide +kernel)) (goodIn_sub (fun _ h => List.mem_cons_of_mem _ (List.mem_append_right _ h)) (by decide +kernel))
set_option maxRecDepth 20000 in
theorem gX5_place_X5_layerAt : GoodIn wsX5_place (wsV RX5 62 RX5 yX5_layerAt wsX5_layerAt) := goodIn_app (goodIn_of _ (by decide +kernel)) ggX5_place_X5_layerAt
set_option maxRecDepth 20000 in
theorem ggX5_place_X5_tileAt : GoodIn wsX5_place wsX5_tileAt := goodIn_ca (goodIn_r _ [18, 12, 13, 19, 137, 138, 139, 140, 141, 142] (by decide +kernel) (by decide +kernel)) (goodIn_sub (fun _ h => List.mem_cons_of_mem _ (List.mem_append_right _ h)) (by decide +kernel))
set_option maxRecDepth 20000 in
theorem gX5_place_X5_tileAt : GoodIn wsX5_place (wsV RX5 102 RX5 yX5_tileAt wsX5_tileAt) := goodIn_app (goodIn_of _ (by decide +kernel)) ggX5_place_X5_tileAt
set_option maxRecDepth 20000 in
theorem ggX5_place_X2_weigh : GoodIn wsX5_place wsX2_weigh := goodIn_r _ [24, 25, 26, 27, 28, 29, 30, 31, 32, 33, 34, 35, 36, 37, 38, 39, 40, 41, 42, 43, 44, 45, 46, 47, 48, 49, 50, 51, 52, 53, 10, 54, 117, 118, 119, 120, 121, 122, 123, 124, 143, 144, 125, 126, 127, 128, 129, 130, 131, 132, 133, 134, 135, 136] (by decide +kernel) (by decide +kernel)
set_option maxRecDepth 20000 in
theorem gX5_place_X2_weigh : GoodIn wsX5_place (wsV RX5 116 RX2 yX2_weigh wsX2_weigh) := goodIn_app (goodIn_of _ (by decide +kernel)) ggX5_place_X2_weigh
set_option maxRecDepth 20000 in
theorem ggX5_place_X2_seat : GoodIn wsX5_place wsX2_seat := goodIn_r _ [58, 25, 59, 60, 61, 62, 23, 63, 64, 65, 66, 67, 68, 69, 70, 71, 72, 73, 74, 75, 76, 77, 78, 79, 80, 81, 82, 83, 26, 84, 85, 86, 87, 117, 118, 119, 120, 121, 122, 123, 124, 143, 144] (by decide +kernel) (by decide +kernel)
set_option maxRecDepth 20000 in
theorem gX5_place_X2_seat : GoodIn wsX5_place (wsV RX5 120 RX2 yX2_seat wsX2_seat) := goodIn_app (goodIn_of _ (by decide +kernel)) ggX5_place_X2_seat
set_option maxRecDepth 20000 in
theorem ggX5_place_X0_writeOn : GoodIn wsX5_place wsX0_writeOn := goodIn_r _ [91, 92, 93, 32, 33, 34, 30, 35, 36, 37, 38, 39, 40, 41, 42, 43, 44, 45, 94, 95, 96, 49, 97, 98, 52, 99, 100, 101, 51, 53, 10, 54, 102, 103, 104, 105, 106, 107, 108, 78, 109, 110, 111, 112, 113, 114, 115, 116, 117, 118, 119, 120, 121, 122, 123, 124, 125, 126, 127, 128, 129, 130, 131, 132, 133, 134, 135, 136, 145, 146, 147] (by decide +kernel) (by decide +kernel)
set_option maxRecDepth 20000 in
theorem gX5_place_X0_writeOn : GoodIn wsX5_place (wsV RX5 124 RX0 yX0_writeOn wsX0_writeOn) := goodIn_app (goodIn_of _ (by decide +kernel)) ggX5_place_X0_writeOn
theorem dX5_place_0 : decode cX5_place 0 = .ok (.aload_n 0, 1) := by decide +kernel
theorem dX5_place_1 : decode cX5_place 1 = .ok (.iload_n 1, 1) := by decide +kernel
theorem dX5_place_2 : decode cX5_place 2 = .ok (.invokevirtual 62, 3) := by decide +kernel
theorem dX5_place_5 : decode cX5_place 5 = .ok (.astore_n 3, 1) := by decide +kernel
theorem dX5_place_6 : decode cX5_place 6 = .ok (.aload_n 0, 1) := by decide +kernel
theorem dX5_place_7 : decode cX5_place 7 = .ok (.iload_n 2, 1) := by decide +kernel
theorem dX5_place_8 : decode cX5_place 8 = .ok (.invokevirtual 102, 3) := by decide +kernel
theorem dX5_place_11 : decode cX5_place 11 = .ok (.astore 4, 2) := by decide +kernel
theorem dX5_place_13 : decode cX5_place 13 = .ok (.aload_n 3, 1) := by decide +kernel
theorem dX5_place_14 : decode cX5_place 14 = .ok (.getfield 106, 3) := by decide +kernel
theorem dX5_place_17 : decode cX5_place 17 = .ok (.ifnonnull 11, 3) := by decide +kernel
theorem dX5_place_20 : decode cX5_place 20 = .ok (.aload 4, 2) := by decide +kernel
theorem dX5_place_22 : decode cX5_place 22 = .ok (.getfield 110, 3) := by decide +kernel
theorem dX5_place_25 : decode cX5_place 25 = .ok (.ifCond .eq 13, 3) := by decide +kernel
theorem dX5_place_28 : decode cX5_place 28 = .ok (.new 53, 3) := by decide +kernel
theorem dX5_place_31 : decode cX5_place 31 = .ok (.dup, 1) := by decide +kernel
theorem dX5_place_32 : decode cX5_place 32 = .ok (.ldc 114, 2) := by decide +kernel
theorem dX5_place_34 : decode cX5_place 34 = .ok (.invokespecial 57, 3) := by decide +kernel
theorem dX5_place_37 : decode cX5_place 37 = .ok (.athrow, 1) := by decide +kernel
theorem dX5_place_38 : decode cX5_place 38 = .ok (.aload_n 0, 1) := by decide +kernel
theorem dX5_place_39 : decode cX5_place 39 = .ok (.getfield 31, 3) := by decide +kernel
theorem dX5_place_42 : decode cX5_place 42 = .ok (.aload_n 3, 1) := by decide +kernel
theorem dX5_place_43 : decode cX5_place 43 = .ok (.aload 4, 2) := by decide +kernel
theorem dX5_place_45 : decode cX5_place 45 = .ok (.invokevirtual 116, 3) := by decide +kernel
theorem dX5_place_48 : decode cX5_place 48 = .ok (.aload_n 0, 1) := by decide +kernel
theorem dX5_place_49 : decode cX5_place 49 = .ok (.getfield 31, 3) := by decide +kernel
theorem dX5_place_52 : decode cX5_place 52 = .ok (.aload_n 3, 1) := by decide +kernel
theorem dX5_place_53 : decode cX5_place 53 = .ok (.invokevirtual 120, 3) := by decide +kernel
theorem dX5_place_56 : decode cX5_place 56 = .ok (.aload_n 3, 1) := by decide +kernel
theorem dX5_place_57 : decode cX5_place 57 = .ok (.aload 4, 2) := by decide +kernel
theorem dX5_place_59 : decode cX5_place 59 = .ok (.putfield 106, 3) := by decide +kernel
theorem dX5_place_62 : decode cX5_place 62 = .ok (.aload 4, 2) := by decide +kernel
theorem dX5_place_64 : decode cX5_place 64 = .ok (.iconst 1, 1) := by decide +kernel
theorem dX5_place_65 : decode cX5_place 65 = .ok (.putfield 110, 3) := by decide +kernel
theorem dX5_place_68 : decode cX5_place 68 = .ok (.aload_n 3, 1) := by decide +kernel
theorem dX5_place_69 : decode cX5_place 69 = .ok (.aload 4, 2) := by decide +kernel
theorem dX5_place_71 : decode cX5_place 71 = .ok (.aload_n 0, 1) := by decide +kernel
theorem dX5_place_72 : decode cX5_place 72 = .ok (.getfield 12, 3) := by decide +kernel
theorem dX5_place_75 : decode cX5_place 75 = .ok (.invokevirtual 124, 3) := by decide +kernel
theorem dX5_place_78 : decode cX5_place 78 = .ok (.ireturn, 1) := by decide +kernel
set_option maxRecDepth 20000 in
theorem ggX5_load_X5_layerAt : GoodIn wsX5_load wsX5_layerAt := goodIn_ca (goodIn_r _ [6, 7, 8, 9, 66, 67, 68, 69, 70, 71] (by decide +kernel) (by decide +kernel)) (goodIn_sub (fun _ h => List.mem_cons_of_mem _ (List.mem_append_left _ (List.mem_append_right _ h))) (by decide +kernel))
set_option maxRecDepth 20000 in
theorem gX5_load_X5_layerAt : GoodIn wsX5_load (wsV RX5 62 RX5 yX5_layerAt wsX5_layerAt) := goodIn_app (goodIn_of _ (by decide +kernel)) ggX5_load_X5_layerAt
set_option maxRecDepth 20000 in
theorem ggX5_load_X5_groundOf : GoodIn wsX5_load wsX5_groundOf := goodIn_ca (goodIn_r _ [12, 13, 14, 15, 72, 73, 74, 75, 76, 77, 78, 79] (by decide +kernel) (by decide +kernel)) (goodIn_sub (fun _ h => List.mem_cons_of_mem _ (List.mem_append_right _ h)) (by decide +kernel))
set_option maxRecDepth 20000 in
theorem gX5_load_X5_groundOf : GoodIn wsX5_load (va_wsS RX5 128 yX5_groundOf wsX5_groundOf) := goodIn_app (goodIn_of _ (by decide +kernel)) ggX5_load_X5_groundOf
set_option maxRecDepth 20000 in
theorem ggX5_load_X0_writeOn : GoodIn wsX5_load wsX0_writeOn := goodIn_r _ [20, 21, 22, 23, 24, 25, 19, 26, 27, 28, 29, 30, 31, 32, 33, 34, 35, 36, 37, 38, 39, 40, 41, 42, 43, 44, 45, 46, 47, 48, 5, 49, 50, 51, 52, 53, 54, 55, 56, 57, 58, 59, 60, 61, 62, 63, 64, 65, 72, 73, 74, 75, 76, 77, 78, 79, 80, 81, 82, 83, 84, 85, 86, 87, 88, 89, 90, 91, 92, 93, 94] (by decide +kernel) (by decide +kernel)
set_option maxRecDepth 20000 in
theorem gX5_load_X0_writeOn : GoodIn wsX5_load (wsV RX5 124 RX0 yX0_writeOn wsX0_writeOn) := goodIn_app (goodIn_of _ (by decide +kernel)) ggX5_load_X0_writeOn
theorem dX5_load_0 : decode cX5_load 0 = .ok (.aload_n 0, 1) := by decide +kernel
theorem dX5_load_1 : decode cX5_load 1 = .ok (.iload_n 1, 1) := by decide +kernel
theorem dX5_load_2 : decode cX5_load 2 = .ok (.invokevirtual 62, 3) := by decide +kernel
theorem dX5_load_5 : decode cX5_load 5 = .ok (.astore_n 2, 1) := by decide +kernel
theorem dX5_load_6 : decode cX5_load 6 = .ok (.aload_n 2, 1) := by decide +kernel
theorem dX5_load_7 : decode cX5_load 7 = .ok (.aload_n 2, 1) := by decide +kernel
theorem dX5_load_8 : decode cX5_load 8 = .ok (.invokestatic 128, 3) := by decide +kernel
theorem dX5_load_11 : decode cX5_load 11 = .ok (.aload_n 0, 1) := by decide +kernel
theorem dX5_load_12 : decode cX5_load 12 = .ok (.getfield 12, 3) := by decide +kernel
theorem dX5_load_15 : decode cX5_load 15 = .ok (.invokevirtual 124, 3) := by decide +kernel
theorem dX5_load_18 : decode cX5_load 18 = .ok (.ireturn, 1) := by decide +kernel
set_option maxRecDepth 20000 in
theorem ggX5_lift_X5_layerAt : GoodIn wsX5_lift wsX5_layerAt := goodIn_ca (goodIn_r _ [8, 9, 10, 11, 37, 38, 39, 40, 41, 42] (by decide +kernel) (by decide +kernel)) (goodIn_sub (fun _ h => List.mem_cons_of_mem _ (List.mem_append_left _ (List.mem_append_right _ h))) (by decide +kernel))
set_option maxRecDepth 20000 in
theorem gX5_lift_X5_layerAt : GoodIn wsX5_lift (wsV RX5 62 RX5 yX5_layerAt wsX5_layerAt) := goodIn_app (goodIn_of _ (by decide +kernel)) ggX5_lift_X5_layerAt
set_option maxRecDepth 20000 in
theorem ggX5_lift_X5_groundOf : GoodIn wsX5_lift wsX5_groundOf := goodIn_ca (goodIn_r _ [14, 15, 16, 1, 17, 18, 19, 20, 21, 22, 23, 24] (by decide +kernel) (by decide +kernel)) (goodIn_sub (fun _ h => List.mem_cons_of_mem _ (List.mem_append_right _ h)) (by decide +kernel))
set_option maxRecDepth 20000 in
theorem gX5_lift_X5_groundOf : GoodIn wsX5_lift (va_wsS RX5 128 yX5_groundOf wsX5_groundOf) := goodIn_app (goodIn_of _ (by decide +kernel)) ggX5_lift_X5_groundOf
theorem dX5_lift_0 : decode cX5_lift 0 = .ok (.aload_n 0, 1) := by decide +kernel
theorem dX5_lift_1 : decode cX5_lift 1 = .ok (.iload_n 1, 1) := by decide +kernel
theorem dX5_lift_2 : decode cX5_lift 2 = .ok (.invokevirtual 62, 3) := by decide +kernel
theorem dX5_lift_5 : decode cX5_lift 5 = .ok (.astore_n 2, 1) := by decide +kernel
theorem dX5_lift_6 : decode cX5_lift 6 = .ok (.aload_n 2, 1) := by decide +kernel
theorem dX5_lift_7 : decode cX5_lift 7 = .ok (.invokestatic 128, 3) := by decide +kernel
theorem dX5_lift_10 : decode cX5_lift 10 = .ok (.astore_n 3, 1) := by decide +kernel
theorem dX5_lift_11 : decode cX5_lift 11 = .ok (.aload_n 2, 1) := by decide +kernel
theorem dX5_lift_12 : decode cX5_lift 12 = .ok (.aconst_null, 1) := by decide +kernel
theorem dX5_lift_13 : decode cX5_lift 13 = .ok (.putfield 106, 3) := by decide +kernel
theorem dX5_lift_16 : decode cX5_lift 16 = .ok (.aload_n 3, 1) := by decide +kernel
theorem dX5_lift_17 : decode cX5_lift 17 = .ok (.iconst 0, 1) := by decide +kernel
theorem dX5_lift_18 : decode cX5_lift 18 = .ok (.putfield 110, 3) := by decide +kernel
theorem dX5_lift_21 : decode cX5_lift 21 = .ok (.aload_n 3, 1) := by decide +kernel
theorem dX5_lift_22 : decode cX5_lift 22 = .ok (.getfield 132, 3) := by decide +kernel
theorem dX5_lift_25 : decode cX5_lift 25 = .ok (.ireturn, 1) := by decide +kernel
set_option maxRecDepth 20000 in
theorem ggX5_stick_X5_tileAt : GoodIn wsX5_stick wsX5_tileAt := goodIn_ca (goodIn_r _ [7, 8, 9, 10, 28, 29, 30, 31, 32, 33] (by decide +kernel) (by decide +kernel)) (goodIn_sub (fun _ h => List.mem_cons_of_mem _ (List.mem_append_left _ (List.mem_append_right _ h))) (by decide +kernel))
set_option maxRecDepth 20000 in
theorem gX5_stick_X5_tileAt : GoodIn wsX5_stick (wsV RX5 102 RX5 yX5_tileAt wsX5_tileAt) := goodIn_app (goodIn_of _ (by decide +kernel)) ggX5_stick_X5_tileAt
set_option maxRecDepth 20000 in
theorem ggX5_stick_X5_checkIndex : GoodIn wsX5_stick wsX5_checkIndex := goodIn_ca (goodIn_r _ [13, 8, 9] (by decide +kernel) (by decide +kernel)) (goodIn_sub (fun _ h => List.mem_cons_of_mem _ (List.mem_append_left _ (List.mem_append_right _ h))) (by decide +kernel))
set_option maxRecDepth 20000 in
theorem gX5_stick_X5_checkIndex : GoodIn wsX5_stick (va_wsS RX5 69 yX5_checkIndex wsX5_checkIndex) := goodIn_app (goodIn_of _ (by decide +kernel)) ggX5_stick_X5_checkIndex
set_option maxRecDepth 20000 in
theorem ggX5_stick_X5_checkArgument : GoodIn wsX5_stick wsX5_checkArgument := goodIn_ca (goodIn_r _ [16, 17, 18] (by decide +kernel) (by decide +kernel)) (goodIn_sub (fun _ h => List.mem_cons_of_mem _ (List.mem_append_right _ h)) (by decide +kernel))
set_option maxRecDepth 20000 in
theorem gX5_stick_X5_checkArgument : GoodIn wsX5_stick (va_wsS RX5 49 yX5_checkArgument wsX5_checkArgument) := goodIn_app (goodIn_of _ (by decide +kernel)) ggX5_stick_X5_checkArgument
set_option maxRecDepth 20000 in
theorem ggX5_stick_X4_becomesStuck : GoodIn wsX5_stick wsX4_becomesStuck := goodIn_r _ [23, 24, 25, 26, 6, 27, 34, 35, 36, 37, 38, 39, 40, 41, 42, 43, 44, 45] (by decide +kernel) (by decide +kernel)
set_option maxRecDepth 20000 in
theorem gX5_stick_X4_becomesStuck : GoodIn wsX5_stick (wsV RX5 133 RX4 yX4_becomesStuck wsX4_becomesStuck) := goodIn_app (goodIn_of _ (by decide +kernel)) ggX5_stick_X4_becomesStuck
theorem dX5_stick_0 : decode cX5_stick 0 = .ok (.aload_n 0, 1) := by decide +kernel
theorem dX5_stick_1 : decode cX5_stick 1 = .ok (.iload_n 1, 1) := by decide +kernel
theorem dX5_stick_2 : decode cX5_stick 2 = .ok (.invokevirtual 102, 3) := by decide +kernel
theorem dX5_stick_5 : decode cX5_stick 5 = .ok (.astore 5, 2) := by decide +kernel
theorem dX5_stick_7 : decode cX5_stick 7 = .ok (.iload_n 2, 1) := by decide +kernel
theorem dX5_stick_8 : decode cX5_stick 8 = .ok (.bipush 8, 2) := by decide +kernel
theorem dX5_stick_10 : decode cX5_stick 10 = .ok (.invokestatic 69, 3) := by decide +kernel
theorem dX5_stick_13 : decode cX5_stick 13 = .ok (.iload_n 3, 1) := by decide +kernel
theorem dX5_stick_14 : decode cX5_stick 14 = .ok (.bipush 16, 2) := by decide +kernel
theorem dX5_stick_16 : decode cX5_stick 16 = .ok (.invokestatic 69, 3) := by decide +kernel
theorem dX5_stick_19 : decode cX5_stick 19 = .ok (.iload 4, 2) := by decide +kernel
theorem dX5_stick_21 : decode cX5_stick 21 = .ok (.iconst 0, 1) := by decide +kernel
theorem dX5_stick_22 : decode cX5_stick 22 = .ok (.bipush 15, 2) := by decide +kernel
theorem dX5_stick_24 : decode cX5_stick 24 = .ok (.invokestatic 49, 3) := by decide +kernel
theorem dX5_stick_27 : decode cX5_stick 27 = .ok (.aload 5, 2) := by decide +kernel
theorem dX5_stick_29 : decode cX5_stick 29 = .ok (.iload_n 2, 1) := by decide +kernel
theorem dX5_stick_30 : decode cX5_stick 30 = .ok (.iload_n 3, 1) := by decide +kernel
theorem dX5_stick_31 : decode cX5_stick 31 = .ok (.iload 4, 2) := by decide +kernel
theorem dX5_stick_33 : decode cX5_stick 33 = .ok (.invokevirtual 133, 3) := by decide +kernel
theorem dX5_stick_36 : decode cX5_stick 36 = .ok (.ifCond .ne 13, 3) := by decide +kernel
theorem dX5_stick_39 : decode cX5_stick 39 = .ok (.new 53, 3) := by decide +kernel
theorem dX5_stick_42 : decode cX5_stick 42 = .ok (.dup, 1) := by decide +kernel
theorem dX5_stick_43 : decode cX5_stick 43 = .ok (.ldc 137, 2) := by decide +kernel
theorem dX5_stick_45 : decode cX5_stick 45 = .ok (.invokespecial 57, 3) := by decide +kernel
theorem dX5_stick_48 : decode cX5_stick 48 = .ok (.athrow, 1) := by decide +kernel
theorem dX5_stick_49 : decode cX5_stick 49 = .ok (.return_, 1) := by decide +kernel
set_option maxRecDepth 20000 in
theorem ggX5_spoil_X5_tileAt : GoodIn wsX5_spoil wsX5_tileAt := goodIn_ca (goodIn_r _ [6, 7, 8, 9, 28, 29, 30, 31, 32, 33] (by decide +kernel) (by decide +kernel)) (goodIn_sub (fun _ h => List.mem_cons_of_mem _ (List.mem_append_left _ (List.mem_append_right _ h))) (by decide +kernel))
set_option maxRecDepth 20000 in
theorem gX5_spoil_X5_tileAt : GoodIn wsX5_spoil (wsV RX5 102 RX5 yX5_tileAt wsX5_tileAt) := goodIn_app (goodIn_of _ (by decide +kernel)) ggX5_spoil_X5_tileAt
set_option maxRecDepth 20000 in
theorem ggX5_spoil_X5_checkArgument : GoodIn wsX5_spoil wsX5_checkArgument := goodIn_ca (goodIn_r _ [12, 13, 14] (by decide +kernel) (by decide +kernel)) (goodIn_sub (fun _ h => List.mem_cons_of_mem _ (List.mem_append_right _ h)) (by decide +kernel))
set_option maxRecDepth 20000 in
theorem gX5_spoil_X5_checkArgument : GoodIn wsX5_spoil (va_wsS RX5 49 yX5_checkArgument wsX5_checkArgument) := goodIn_app (goodIn_of _ (by decide +kernel)) ggX5_spoil_X5_checkArgument
set_option maxRecDepth 20000 in
theorem ggX5_spoil_X5_drawBehind : GoodIn wsX5_spoil wsX5_drawBehind := goodIn_r _ [17, 18] (by decide +kernel) (by decide +kernel)
set_option maxRecDepth 20000 in
theorem gX5_spoil_X5_drawBehind : GoodIn wsX5_spoil (va_wsS RX5 140 yX5_drawBehind wsX5_drawBehind) := goodIn_app (goodIn_of _ (by decide +kernel)) ggX5_spoil_X5_drawBehind
set_option maxRecDepth 20000 in
theorem ggX5_spoil_X4_becomesStuck : GoodIn wsX5_spoil wsX4_becomesStuck := goodIn_r _ [23, 24, 25, 26, 5, 27, 34, 35, 36, 37, 38, 39, 40, 41, 42, 43, 44, 45] (by decide +kernel) (by decide +kernel)
set_option maxRecDepth 20000 in
theorem gX5_spoil_X4_becomesStuck : GoodIn wsX5_spoil (wsV RX5 133 RX4 yX4_becomesStuck wsX4_becomesStuck) := goodIn_app (goodIn_of _ (by decide +kernel)) ggX5_spoil_X4_becomesStuck
theorem dX5_spoil_0 : decode cX5_spoil 0 = .ok (.aload_n 0, 1) := by decide +kernel
theorem dX5_spoil_1 : decode cX5_spoil 1 = .ok (.iload_n 1, 1) := by decide +kernel
theorem dX5_spoil_2 : decode cX5_spoil 2 = .ok (.invokevirtual 102, 3) := by decide +kernel
theorem dX5_spoil_5 : decode cX5_spoil 5 = .ok (.astore 4, 2) := by decide +kernel
theorem dX5_spoil_7 : decode cX5_spoil 7 = .ok (.iload_n 2, 1) := by decide +kernel
theorem dX5_spoil_8 : decode cX5_spoil 8 = .ok (.iconst 0, 1) := by decide +kernel
theorem dX5_spoil_9 : decode cX5_spoil 9 = .ok (.ldc 139, 2) := by decide +kernel
theorem dX5_spoil_11 : decode cX5_spoil 11 = .ok (.invokestatic 49, 3) := by decide +kernel
theorem dX5_spoil_14 : decode cX5_spoil 14 = .ok (.iload_n 3, 1) := by decide +kernel
theorem dX5_spoil_15 : decode cX5_spoil 15 = .ok (.iconst 1, 1) := by decide +kernel
theorem dX5_spoil_16 : decode cX5_spoil 16 = .ok (.bipush 20, 2) := by decide +kernel
theorem dX5_spoil_18 : decode cX5_spoil 18 = .ok (.invokestatic 49, 3) := by decide +kernel
theorem dX5_spoil_21 : decode cX5_spoil 21 = .ok (.iconst 0, 1) := by decide +kernel
theorem dX5_spoil_22 : decode cX5_spoil 22 = .ok (.istore 5, 2) := by decide +kernel
theorem dX5_spoil_24 : decode cX5_spoil 24 = .ok (.iload_n 2, 1) := by decide +kernel
theorem dX5_spoil_25 : decode cX5_spoil 25 = .ok (.istore 6, 2) := by decide +kernel
theorem dX5_spoil_27 : decode cX5_spoil 27 = .ok (.iconst 0, 1) := by decide +kernel
theorem dX5_spoil_28 : decode cX5_spoil 28 = .ok (.istore 7, 2) := by decide +kernel
theorem dX5_spoil_30 : decode cX5_spoil 30 = .ok (.iload 7, 2) := by decide +kernel
theorem dX5_spoil_32 : decode cX5_spoil 32 = .ok (.iload_n 3, 1) := by decide +kernel
theorem dX5_spoil_33 : decode cX5_spoil 33 = .ok (.if_icmp .ge 57, 3) := by decide +kernel
theorem dX5_spoil_36 : decode cX5_spoil 36 = .ok (.iload 6, 2) := by decide +kernel
theorem dX5_spoil_38 : decode cX5_spoil 38 = .ok (.invokestatic 140, 3) := by decide +kernel
theorem dX5_spoil_41 : decode cX5_spoil 41 = .ok (.istore 6, 2) := by decide +kernel
theorem dX5_spoil_43 : decode cX5_spoil 43 = .ok (.iload 6, 2) := by decide +kernel
theorem dX5_spoil_45 : decode cX5_spoil 45 = .ok (.sipush 128, 3) := by decide +kernel
theorem dX5_spoil_48 : decode cX5_spoil 48 = .ok (.irem, 1) := by decide +kernel
theorem dX5_spoil_49 : decode cX5_spoil 49 = .ok (.istore 8, 2) := by decide +kernel
theorem dX5_spoil_51 : decode cX5_spoil 51 = .ok (.iload 6, 2) := by decide +kernel
theorem dX5_spoil_53 : decode cX5_spoil 53 = .ok (.invokestatic 140, 3) := by decide +kernel
theorem dX5_spoil_56 : decode cX5_spoil 56 = .ok (.istore 6, 2) := by decide +kernel
theorem dX5_spoil_58 : decode cX5_spoil 58 = .ok (.aload 4, 2) := by decide +kernel
theorem dX5_spoil_60 : decode cX5_spoil 60 = .ok (.iload 8, 2) := by decide +kernel
theorem dX5_spoil_62 : decode cX5_spoil 62 = .ok (.bipush 16, 2) := by decide +kernel
theorem dX5_spoil_64 : decode cX5_spoil 64 = .ok (.idiv, 1) := by decide +kernel
theorem dX5_spoil_65 : decode cX5_spoil 65 = .ok (.iload 8, 2) := by decide +kernel
theorem dX5_spoil_67 : decode cX5_spoil 67 = .ok (.bipush 16, 2) := by decide +kernel
theorem dX5_spoil_69 : decode cX5_spoil 69 = .ok (.irem, 1) := by decide +kernel
theorem dX5_spoil_70 : decode cX5_spoil 70 = .ok (.iload 6, 2) := by decide +kernel
theorem dX5_spoil_72 : decode cX5_spoil 72 = .ok (.bipush 16, 2) := by decide +kernel
theorem dX5_spoil_74 : decode cX5_spoil 74 = .ok (.irem, 1) := by decide +kernel
theorem dX5_spoil_75 : decode cX5_spoil 75 = .ok (.invokevirtual 133, 3) := by decide +kernel
theorem dX5_spoil_78 : decode cX5_spoil 78 = .ok (.ifCond .eq 6, 3) := by decide +kernel
theorem dX5_spoil_81 : decode cX5_spoil 81 = .ok (.iinc 5 1, 3) := by decide +kernel
theorem dX5_spoil_84 : decode cX5_spoil 84 = .ok (.iinc 7 1, 3) := by decide +kernel
theorem dX5_spoil_87 : decode cX5_spoil 87 = .ok (.goto (-57), 3) := by decide +kernel
theorem dX5_spoil_90 : decode cX5_spoil 90 = .ok (.iload 5, 2) := by decide +kernel
theorem dX5_spoil_92 : decode cX5_spoil 92 = .ok (.ireturn, 1) := by decide +kernel
set_option maxRecDepth 20000 in
theorem ggX5_drift_X5_checkArgument : GoodIn wsX5_drift wsX5_checkArgument := goodIn_ca (goodIn_r _ [6, 7, 8] (by decide +kernel) (by decide +kernel)) (goodIn_sub (fun _ h => List.mem_cons_of_mem _ (List.mem_append_right _ h)) (by decide +kernel))
set_option maxRecDepth 20000 in
theorem gX5_drift_X5_checkArgument : GoodIn wsX5_drift (va_wsS RX5 49 yX5_checkArgument wsX5_checkArgument) := goodIn_app (goodIn_of _ (by decide +kernel)) ggX5_drift_X5_checkArgument
theorem dX5_drift_0 : decode cX5_drift 0 = .ok (.iload_n 1, 1) := by decide +kernel
theorem dX5_drift_1 : decode cX5_drift 1 = .ok (.iconst 0, 1) := by decide +kernel
theorem dX5_drift_2 : decode cX5_drift 2 = .ok (.sipush 1000, 3) := by decide +kernel
theorem dX5_drift_5 : decode cX5_drift 5 = .ok (.invokestatic 49, 3) := by decide +kernel
theorem dX5_drift_8 : decode cX5_drift 8 = .ok (.aload_n 0, 1) := by decide +kernel
theorem dX5_drift_9 : decode cX5_drift 9 = .ok (.getfield 12, 3) := by decide +kernel
theorem dX5_drift_12 : decode cX5_drift 12 = .ok (.getfield 144, 3) := by decide +kernel
theorem dX5_drift_15 : decode cX5_drift 15 = .ok (.istore_n 2, 1) := by decide +kernel
theorem dX5_drift_16 : decode cX5_drift 16 = .ok (.aload_n 0, 1) := by decide +kernel
theorem dX5_drift_17 : decode cX5_drift 17 = .ok (.getfield 12, 3) := by decide +kernel
theorem dX5_drift_20 : decode cX5_drift 20 = .ok (.iload_n 1, 1) := by decide +kernel
theorem dX5_drift_21 : decode cX5_drift 21 = .ok (.putfield 144, 3) := by decide +kernel
theorem dX5_drift_24 : decode cX5_drift 24 = .ok (.iload_n 2, 1) := by decide +kernel
theorem dX5_drift_25 : decode cX5_drift 25 = .ok (.ireturn, 1) := by decide +kernel
set_option maxRecDepth 20000 in
theorem ggX5_endurance_X5_checkArgument : GoodIn wsX5_endurance wsX5_checkArgument := goodIn_ca (goodIn_r _ [7, 8, 9] (by decide +kernel) (by decide +kernel)) (goodIn_sub (fun _ h => List.mem_cons_of_mem _ (List.mem_append_right _ h)) (by decide +kernel))
set_option maxRecDepth 20000 in
theorem gX5_endurance_X5_checkArgument : GoodIn wsX5_endurance (va_wsS RX5 49 yX5_checkArgument wsX5_checkArgument) := goodIn_app (goodIn_of _ (by decide +kernel)) ggX5_endurance_X5_checkArgument
theorem dX5_endurance_0 : decode cX5_endurance 0 = .ok (.iload_n 1, 1) := by decide +kernel
theorem dX5_endurance_1 : decode cX5_endurance 1 = .ok (.iconst 1, 1) := by decide +kernel
theorem dX5_endurance_2 : decode cX5_endurance 2 = .ok (.ldc 147, 2) := by decide +kernel
theorem dX5_endurance_4 : decode cX5_endurance 4 = .ok (.invokestatic 49, 3) := by decide +kernel
theorem dX5_endurance_7 : decode cX5_endurance 7 = .ok (.aload_n 0, 1) := by decide +kernel
theorem dX5_endurance_8 : decode cX5_endurance 8 = .ok (.getfield 12, 3) := by decide +kernel
theorem dX5_endurance_11 : decode cX5_endurance 11 = .ok (.getfield 148, 3) := by decide +kernel
theorem dX5_endurance_14 : decode cX5_endurance 14 = .ok (.istore_n 2, 1) := by decide +kernel
theorem dX5_endurance_15 : decode cX5_endurance 15 = .ok (.aload_n 0, 1) := by decide +kernel
theorem dX5_endurance_16 : decode cX5_endurance 16 = .ok (.getfield 12, 3) := by decide +kernel
theorem dX5_endurance_19 : decode cX5_endurance 19 = .ok (.iload_n 1, 1) := by decide +kernel
theorem dX5_endurance_20 : decode cX5_endurance 20 = .ok (.putfield 148, 3) := by decide +kernel
theorem dX5_endurance_23 : decode cX5_endurance 23 = .ok (.iload_n 2, 1) := by decide +kernel
theorem dX5_endurance_24 : decode cX5_endurance 24 = .ok (.ireturn, 1) := by decide +kernel
set_option maxRecDepth 20000 in
theorem ggX5_pass_X5_checkArgument : GoodIn wsX5_pass wsX5_checkArgument := goodIn_ca (goodIn_r _ [9, 10, 11] (by decide +kernel) (by decide +kernel)) (goodIn_sub (fun _ h => List.mem_cons_of_mem _ (List.mem_append_right _ h)) (by decide +kernel))
set_option maxRecDepth 20000 in
theorem gX5_pass_X5_checkArgument : GoodIn wsX5_pass (va_wsS RX5 49 yX5_checkArgument wsX5_checkArgument) := goodIn_app (goodIn_of _ (by decide +kernel)) ggX5_pass_X5_checkArgument
theorem dX5_pass_0 : decode cX5_pass 0 = .ok (.iload_n 1, 1) := by decide +kernel
theorem dX5_pass_1 : decode cX5_pass 1 = .ok (.iconst 1, 1) := by decide +kernel
theorem dX5_pass_2 : decode cX5_pass 2 = .ok (.sipush 10000, 3) := by decide +kernel
theorem dX5_pass_5 : decode cX5_pass 5 = .ok (.invokestatic 49, 3) := by decide +kernel
theorem dX5_pass_8 : decode cX5_pass 8 = .ok (.aload_n 0, 1) := by decide +kernel
theorem dX5_pass_9 : decode cX5_pass 9 = .ok (.getfield 12, 3) := by decide +kernel
theorem dX5_pass_12 : decode cX5_pass 12 = .ok (.getfield 151, 3) := by decide +kernel
theorem dX5_pass_15 : decode cX5_pass 15 = .ok (.iload_n 1, 1) := by decide +kernel
theorem dX5_pass_16 : decode cX5_pass 16 = .ok (.iadd, 1) := by decide +kernel
theorem dX5_pass_17 : decode cX5_pass 17 = .ok (.ldc 154, 2) := by decide +kernel
theorem dX5_pass_19 : decode cX5_pass 19 = .ok (.if_icmp .le 13, 3) := by decide +kernel
theorem dX5_pass_22 : decode cX5_pass 22 = .ok (.new 53, 3) := by decide +kernel
theorem dX5_pass_25 : decode cX5_pass 25 = .ok (.dup, 1) := by decide +kernel
theorem dX5_pass_26 : decode cX5_pass 26 = .ok (.ldc 155, 2) := by decide +kernel
theorem dX5_pass_28 : decode cX5_pass 28 = .ok (.invokespecial 57, 3) := by decide +kernel
theorem dX5_pass_31 : decode cX5_pass 31 = .ok (.athrow, 1) := by decide +kernel
theorem dX5_pass_32 : decode cX5_pass 32 = .ok (.aload_n 0, 1) := by decide +kernel
theorem dX5_pass_33 : decode cX5_pass 33 = .ok (.getfield 12, 3) := by decide +kernel
theorem dX5_pass_36 : decode cX5_pass 36 = .ok (.dup, 1) := by decide +kernel
theorem dX5_pass_37 : decode cX5_pass 37 = .ok (.getfield 151, 3) := by decide +kernel
theorem dX5_pass_40 : decode cX5_pass 40 = .ok (.iload_n 1, 1) := by decide +kernel
theorem dX5_pass_41 : decode cX5_pass 41 = .ok (.iadd, 1) := by decide +kernel
theorem dX5_pass_42 : decode cX5_pass 42 = .ok (.putfield 151, 3) := by decide +kernel
theorem dX5_pass_45 : decode cX5_pass 45 = .ok (.aload_n 0, 1) := by decide +kernel
theorem dX5_pass_46 : decode cX5_pass 46 = .ok (.getfield 12, 3) := by decide +kernel
theorem dX5_pass_49 : decode cX5_pass 49 = .ok (.getfield 151, 3) := by decide +kernel
theorem dX5_pass_52 : decode cX5_pass 52 = .ok (.ireturn, 1) := by decide +kernel
set_option maxRecDepth 20000 in
theorem ggX5_converter_X5_tileAt : GoodIn wsX5_converter wsX5_tileAt := goodIn_ca (goodIn_r _ [7, 8, 9, 10, 28, 29, 30, 31, 32, 33] (by decide +kernel) (by decide +kernel)) (goodIn_sub (fun _ h => List.mem_cons_of_mem _ (List.mem_append_left _ (List.mem_append_right _ h))) (by decide +kernel))
set_option maxRecDepth 20000 in
theorem gX5_converter_X5_tileAt : GoodIn wsX5_converter (wsV RX5 102 RX5 yX5_tileAt wsX5_tileAt) := goodIn_app (goodIn_of _ (by decide +kernel)) ggX5_converter_X5_tileAt
set_option maxRecDepth 20000 in
theorem ggX5_converter_X5_checkArgument : GoodIn wsX5_converter wsX5_checkArgument := goodIn_ca (goodIn_r _ [13, 14, 15] (by decide +kernel) (by decide +kernel)) (goodIn_sub (fun _ h => List.mem_cons_of_mem _ (List.mem_append_right _ h)) (by decide +kernel))
set_option maxRecDepth 20000 in
theorem gX5_converter_X5_checkArgument : GoodIn wsX5_converter (va_wsS RX5 49 yX5_checkArgument wsX5_checkArgument) := goodIn_app (goodIn_of _ (by decide +kernel)) ggX5_converter_X5_checkArgument
theorem dX5_converter_0 : decode cX5_converter 0 = .ok (.aload_n 0, 1) := by decide +kernel
theorem dX5_converter_1 : decode cX5_converter 1 = .ok (.iload_n 1, 1) := by decide +kernel
theorem dX5_converter_2 : decode cX5_converter 2 = .ok (.invokevirtual 102, 3) := by decide +kernel
theorem dX5_converter_5 : decode cX5_converter 5 = .ok (.astore 4, 2) := by decide +kernel
theorem dX5_converter_7 : decode cX5_converter 7 = .ok (.iload_n 2, 1) := by decide +kernel
theorem dX5_converter_8 : decode cX5_converter 8 = .ok (.iconst 1, 1) := by decide +kernel
theorem dX5_converter_9 : decode cX5_converter 9 = .ok (.bipush 16, 2) := by decide +kernel
theorem dX5_converter_11 : decode cX5_converter 11 = .ok (.invokestatic 49, 3) := by decide +kernel
theorem dX5_converter_14 : decode cX5_converter 14 = .ok (.iload_n 3, 1) := by decide +kernel
theorem dX5_converter_15 : decode cX5_converter 15 = .ok (.iconst 1, 1) := by decide +kernel
theorem dX5_converter_16 : decode cX5_converter 16 = .ok (.bipush 127, 2) := by decide +kernel
theorem dX5_converter_18 : decode cX5_converter 18 = .ok (.invokestatic 49, 3) := by decide +kernel
theorem dX5_converter_21 : decode cX5_converter 21 = .ok (.sipush 1000, 3) := by decide +kernel
theorem dX5_converter_24 : decode cX5_converter 24 = .ok (.aload 4, 2) := by decide +kernel
theorem dX5_converter_26 : decode cX5_converter 26 = .ok (.getfield 157, 3) := by decide +kernel
theorem dX5_converter_29 : decode cX5_converter 29 = .ok (.imul, 1) := by decide +kernel
theorem dX5_converter_30 : decode cX5_converter 30 = .ok (.aload 4, 2) := by decide +kernel
theorem dX5_converter_32 : decode cX5_converter 32 = .ok (.getfield 160, 3) := by decide +kernel
theorem dX5_converter_35 : decode cX5_converter 35 = .ok (.iadd, 1) := by decide +kernel
theorem dX5_converter_36 : decode cX5_converter 36 = .ok (.istore 5, 2) := by decide +kernel
theorem dX5_converter_38 : decode cX5_converter 38 = .ok (.aload 4, 2) := by decide +kernel
theorem dX5_converter_40 : decode cX5_converter 40 = .ok (.iload_n 2, 1) := by decide +kernel
theorem dX5_converter_41 : decode cX5_converter 41 = .ok (.putfield 157, 3) := by decide +kernel
theorem dX5_converter_44 : decode cX5_converter 44 = .ok (.aload 4, 2) := by decide +kernel
theorem dX5_converter_46 : decode cX5_converter 46 = .ok (.iload_n 3, 1) := by decide +kernel
theorem dX5_converter_47 : decode cX5_converter 47 = .ok (.putfield 160, 3) := by decide +kernel
theorem dX5_converter_50 : decode cX5_converter 50 = .ok (.iload 5, 2) := by decide +kernel
theorem dX5_converter_52 : decode cX5_converter 52 = .ok (.ireturn, 1) := by decide +kernel
set_option maxRecDepth 20000 in
theorem ggX5_offset_X5_tileAt : GoodIn wsX5_offset wsX5_tileAt := goodIn_ca (goodIn_r _ [6, 7, 8, 9, 30, 31, 32, 33, 34, 35] (by decide +kernel) (by decide +kernel)) (goodIn_sub (fun _ h => List.mem_cons_of_mem _ (List.mem_append_left _ (List.mem_append_right _ h))) (by decide +kernel))
set_option maxRecDepth 20000 in
theorem gX5_offset_X5_tileAt : GoodIn wsX5_offset (wsV RX5 102 RX5 yX5_tileAt wsX5_tileAt) := goodIn_app (goodIn_of _ (by decide +kernel)) ggX5_offset_X5_tileAt
set_option maxRecDepth 20000 in
theorem ggX5_offset_X5_checkIndex : GoodIn wsX5_offset wsX5_checkIndex := goodIn_ca (goodIn_r _ [12, 7, 8] (by decide +kernel) (by decide +kernel)) (goodIn_sub (fun _ h => List.mem_cons_of_mem _ (List.mem_append_left _ (List.mem_append_right _ h))) (by decide +kernel))
set_option maxRecDepth 20000 in
theorem gX5_offset_X5_checkIndex : GoodIn wsX5_offset (va_wsS RX5 69 yX5_checkIndex wsX5_checkIndex) := goodIn_app (goodIn_of _ (by decide +kernel)) ggX5_offset_X5_checkIndex
set_option maxRecDepth 20000 in
theorem ggX5_offset_X5_checkArgument : GoodIn wsX5_offset wsX5_checkArgument := goodIn_ca (goodIn_r _ [15, 16, 17] (by decide +kernel) (by decide +kernel)) (goodIn_sub (fun _ h => List.mem_cons_of_mem _ (List.mem_append_right _ h)) (by decide +kernel))
set_option maxRecDepth 20000 in
theorem gX5_offset_X5_checkArgument : GoodIn wsX5_offset (va_wsS RX5 49 yX5_checkArgument wsX5_checkArgument) := goodIn_app (goodIn_of _ (by decide +kernel)) ggX5_offset_X5_checkArgument
theorem dX5_offset_0 : decode cX5_offset 0 = .ok (.aload_n 0, 1) := by decide +kernel
theorem dX5_offset_1 : decode cX5_offset 1 = .ok (.iload_n 1, 1) := by decide +kernel
theorem dX5_offset_2 : decode cX5_offset 2 = .ok (.invokevirtual 102, 3) := by decide +kernel
theorem dX5_offset_5 : decode cX5_offset 5 = .ok (.astore 4, 2) := by decide +kernel
theorem dX5_offset_7 : decode cX5_offset 7 = .ok (.iload_n 2, 1) := by decide +kernel
theorem dX5_offset_8 : decode cX5_offset 8 = .ok (.bipush 16, 2) := by decide +kernel
theorem dX5_offset_10 : decode cX5_offset 10 = .ok (.invokestatic 69, 3) := by decide +kernel
theorem dX5_offset_13 : decode cX5_offset 13 = .ok (.iload_n 3, 1) := by decide +kernel
theorem dX5_offset_14 : decode cX5_offset 14 = .ok (.bipush (-3), 2) := by decide +kernel
theorem dX5_offset_16 : decode cX5_offset 16 = .ok (.iconst 3, 1) := by decide +kernel
theorem dX5_offset_17 : decode cX5_offset 17 = .ok (.invokestatic 49, 3) := by decide +kernel
theorem dX5_offset_20 : decode cX5_offset 20 = .ok (.aload 4, 2) := by decide +kernel
theorem dX5_offset_22 : decode cX5_offset 22 = .ok (.getfield 163, 3) := by decide +kernel
theorem dX5_offset_25 : decode cX5_offset 25 = .ok (.iload_n 2, 1) := by decide +kernel
theorem dX5_offset_26 : decode cX5_offset 26 = .ok (.iaload, 1) := by decide +kernel
theorem dX5_offset_27 : decode cX5_offset 27 = .ok (.istore 5, 2) := by decide +kernel
theorem dX5_offset_29 : decode cX5_offset 29 = .ok (.aload 4, 2) := by decide +kernel
theorem dX5_offset_31 : decode cX5_offset 31 = .ok (.getfield 163, 3) := by decide +kernel
theorem dX5_offset_34 : decode cX5_offset 34 = .ok (.iload_n 2, 1) := by decide +kernel
theorem dX5_offset_35 : decode cX5_offset 35 = .ok (.iload_n 3, 1) := by decide +kernel
theorem dX5_offset_36 : decode cX5_offset 36 = .ok (.iastore, 1) := by decide +kernel
theorem dX5_offset_37 : decode cX5_offset 37 = .ok (.iload 5, 2) := by decide +kernel
theorem dX5_offset_39 : decode cX5_offset 39 = .ok (.ireturn, 1) := by decide +kernel
set_option maxRecDepth 20000 in
theorem ggX5_calibrate_X5_tileAt : GoodIn wsX5_calibrate wsX5_tileAt := goodIn_ca (goodIn_r _ [6, 7, 8, 9, 22, 23, 24, 25, 26, 27] (by decide +kernel) (by decide +kernel)) (goodIn_sub (fun _ h => List.mem_cons_of_mem _ (List.mem_append_right _ h)) (by decide +kernel))
set_option maxRecDepth 20000 in
theorem gX5_calibrate_X5_tileAt : GoodIn wsX5_calibrate (wsV RX5 102 RX5 yX5_tileAt wsX5_tileAt) := goodIn_app (goodIn_of _ (by decide +kernel)) ggX5_calibrate_X5_tileAt
theorem dX5_calibrate_0 : decode cX5_calibrate 0 = .ok (.aload_n 0, 1) := by decide +kernel
theorem dX5_calibrate_1 : decode cX5_calibrate 1 = .ok (.iload_n 1, 1) := by decide +kernel
theorem dX5_calibrate_2 : decode cX5_calibrate 2 = .ok (.invokevirtual 102, 3) := by decide +kernel
theorem dX5_calibrate_5 : decode cX5_calibrate 5 = .ok (.astore_n 3, 1) := by decide +kernel
theorem dX5_calibrate_6 : decode cX5_calibrate 6 = .ok (.aload_n 3, 1) := by decide +kernel
theorem dX5_calibrate_7 : decode cX5_calibrate 7 = .ok (.getfield 167, 3) := by decide +kernel
theorem dX5_calibrate_10 : decode cX5_calibrate 10 = .ok (.istore 4, 2) := by decide +kernel
theorem dX5_calibrate_12 : decode cX5_calibrate 12 = .ok (.aload_n 3, 1) := by decide +kernel
theorem dX5_calibrate_13 : decode cX5_calibrate 13 = .ok (.iload_n 2, 1) := by decide +kernel
theorem dX5_calibrate_14 : decode cX5_calibrate 14 = .ok (.putfield 167, 3) := by decide +kernel
theorem dX5_calibrate_17 : decode cX5_calibrate 17 = .ok (.iload 4, 2) := by decide +kernel
theorem dX5_calibrate_19 : decode cX5_calibrate 19 = .ok (.ireturn, 1) := by decide +kernel
set_option maxRecDepth 20000 in
theorem ggX5_converters_X5_tileAt : GoodIn wsX5_converters wsX5_tileAt := goodIn_ca (goodIn_r _ [8, 9, 10, 11, 34, 35, 36, 37, 38, 39] (by decide +kernel) (by decide +kernel)) (goodIn_sub (fun _ h => List.mem_cons_of_mem _ (List.mem_append_right _ h)) (by decide +kernel))
set_option maxRecDepth 20000 in
theorem gX5_converters_X5_tileAt : GoodIn wsX5_converters (wsV RX5 102 RX5 yX5_tileAt wsX5_tileAt) := goodIn_app (goodIn_of _ (by decide +kernel)) ggX5_converters_X5_tileAt
set_option maxRecDepth 20000 in
theorem ggX5_converters_X5_checkArgument : GoodIn wsX5_converters wsX5_checkArgument := goodIn_ca (goodIn_r _ [14, 1, 2] (by decide +kernel) (by decide +kernel)) (goodIn_sub (fun _ h => List.mem_cons_of_mem _ (List.mem_append_left _ (List.mem_append_right _ h))) (by decide +kernel))
set_option maxRecDepth 20000 in
theorem gX5_converters_X5_checkArgument : GoodIn wsX5_converters (va_wsS RX5 49 yX5_checkArgument wsX5_checkArgument) := goodIn_app (goodIn_of _ (by decide +kernel)) ggX5_converters_X5_checkArgument
set_option maxRecDepth 20000 in
theorem ggX5_converters_J6_bitCount_0f7a4 : GoodIn wsX5_converters wsJ6_bitCount_0f7a4 := goodIn_r _ [18, 19, 20, 21] (by decide +kernel) (by decide +kernel)
set_option maxRecDepth 20000 in
theorem gX5_converters_J6_bitCount_0f7a4 : GoodIn wsX5_converters (va_wsS RX5 170 yJ6_bitCount_0f7a4 wsJ6_bitCount_0f7a4) := goodIn_app (goodIn_of _ (by decide +kernel)) ggX5_converters_J6_bitCount_0f7a4
theorem dX5_converters_0 : decode cX5_converters 0 = .ok (.aload_n 0, 1) := by decide +kernel
theorem dX5_converters_1 : decode cX5_converters 1 = .ok (.iload_n 1, 1) := by decide +kernel
theorem dX5_converters_2 : decode cX5_converters 2 = .ok (.invokevirtual 102, 3) := by decide +kernel
theorem dX5_converters_5 : decode cX5_converters 5 = .ok (.astore_n 3, 1) := by decide +kernel
theorem dX5_converters_6 : decode cX5_converters 6 = .ok (.iload_n 2, 1) := by decide +kernel
theorem dX5_converters_7 : decode cX5_converters 7 = .ok (.iconst 1, 1) := by decide +kernel
theorem dX5_converters_8 : decode cX5_converters 8 = .ok (.bipush 16, 2) := by decide +kernel
theorem dX5_converters_10 : decode cX5_converters 10 = .ok (.invokestatic 49, 3) := by decide +kernel
theorem dX5_converters_13 : decode cX5_converters 13 = .ok (.iload_n 2, 1) := by decide +kernel
theorem dX5_converters_14 : decode cX5_converters 14 = .ok (.invokestatic 170, 3) := by decide +kernel
theorem dX5_converters_17 : decode cX5_converters 17 = .ok (.iconst 1, 1) := by decide +kernel
theorem dX5_converters_18 : decode cX5_converters 18 = .ok (.if_icmp .eq 13, 3) := by decide +kernel
theorem dX5_converters_21 : decode cX5_converters 21 = .ok (.new 90, 3) := by decide +kernel
theorem dX5_converters_24 : decode cX5_converters 24 = .ok (.dup, 1) := by decide +kernel
theorem dX5_converters_25 : decode cX5_converters 25 = .ok (.ldc 175, 2) := by decide +kernel
theorem dX5_converters_27 : decode cX5_converters 27 = .ok (.invokespecial 94, 3) := by decide +kernel
theorem dX5_converters_30 : decode cX5_converters 30 = .ok (.athrow, 1) := by decide +kernel
theorem dX5_converters_31 : decode cX5_converters 31 = .ok (.aload_n 3, 1) := by decide +kernel
theorem dX5_converters_32 : decode cX5_converters 32 = .ok (.getfield 177, 3) := by decide +kernel
theorem dX5_converters_35 : decode cX5_converters 35 = .ok (.istore 4, 2) := by decide +kernel
theorem dX5_converters_37 : decode cX5_converters 37 = .ok (.aload_n 3, 1) := by decide +kernel
theorem dX5_converters_38 : decode cX5_converters 38 = .ok (.iload_n 2, 1) := by decide +kernel
theorem dX5_converters_39 : decode cX5_converters 39 = .ok (.putfield 177, 3) := by decide +kernel
theorem dX5_converters_42 : decode cX5_converters 42 = .ok (.iload 4, 2) := by decide +kernel
theorem dX5_converters_44 : decode cX5_converters 44 = .ok (.ireturn, 1) := by decide +kernel
set_option maxRecDepth 20000 in
theorem ggX5_cell_X5_tileAt : GoodIn wsX5_cell wsX5_tileAt := goodIn_ca (goodIn_r _ [10, 11, 12, 13, 48, 49, 50, 51, 52, 53] (by decide +kernel) (by decide +kernel)) (goodIn_sub (fun _ h => List.mem_cons_of_mem _ (List.mem_append_right _ h)) (by decide +kernel))
set_option maxRecDepth 20000 in
theorem gX5_cell_X5_tileAt : GoodIn wsX5_cell (wsV RX5 102 RX5 yX5_tileAt wsX5_tileAt) := goodIn_app (goodIn_of _ (by decide +kernel)) ggX5_cell_X5_tileAt
set_option maxRecDepth 20000 in
theorem ggX5_cell_X5_checkIndex : GoodIn wsX5_cell wsX5_checkIndex := goodIn_ca (goodIn_r _ [16, 11, 12] (by decide +kernel) (by decide +kernel)) (goodIn_sub (fun _ h => List.mem_cons_of_mem _ (List.mem_append_right _ h)) (by decide +kernel))
set_option maxRecDepth 20000 in
theorem gX5_cell_X5_checkIndex : GoodIn wsX5_cell (va_wsS RX5 69 yX5_checkIndex wsX5_checkIndex) := goodIn_app (goodIn_of _ (by decide +kernel)) ggX5_cell_X5_checkIndex
set_option maxRecDepth 20000 in
theorem ggX5_cell_X5_indexOf : GoodIn wsX5_cell wsX5_indexOf := goodIn_r _ [19] (by decide +kernel) (by decide +kernel)
set_option maxRecDepth 20000 in
theorem gX5_cell_X5_indexOf : GoodIn wsX5_cell (va_wsS RX5 180 yX5_indexOf wsX5_indexOf) := goodIn_app (goodIn_of _ (by decide +kernel)) ggX5_cell_X5_indexOf
set_option maxRecDepth 20000 in
theorem ggX5_cell_X4_conducted : GoodIn wsX5_cell wsX4_conducted := goodIn_r _ [24, 25, 26, 27, 28, 29, 30, 31, 32, 33, 18, 9, 19, 34, 35, 54, 55, 56, 36, 37, 38, 39, 40, 41, 42, 43, 44, 45, 46, 47] (by decide +kernel) (by decide +kernel)
set_option maxRecDepth 20000 in
theorem gX5_cell_X4_conducted : GoodIn wsX5_cell (wsV RX5 186 RX4 yX4_conducted wsX4_conducted) := goodIn_app (goodIn_of _ (by decide +kernel)) ggX5_cell_X4_conducted
theorem dX5_cell_0 : decode cX5_cell 0 = .ok (.aload_n 0, 1) := by decide +kernel
theorem dX5_cell_1 : decode cX5_cell 1 = .ok (.iload_n 1, 1) := by decide +kernel
theorem dX5_cell_2 : decode cX5_cell 2 = .ok (.invokevirtual 102, 3) := by decide +kernel
theorem dX5_cell_5 : decode cX5_cell 5 = .ok (.astore 5, 2) := by decide +kernel
theorem dX5_cell_7 : decode cX5_cell 7 = .ok (.iload_n 2, 1) := by decide +kernel
theorem dX5_cell_8 : decode cX5_cell 8 = .ok (.bipush 8, 2) := by decide +kernel
theorem dX5_cell_10 : decode cX5_cell 10 = .ok (.invokestatic 69, 3) := by decide +kernel
theorem dX5_cell_13 : decode cX5_cell 13 = .ok (.iload_n 3, 1) := by decide +kernel
theorem dX5_cell_14 : decode cX5_cell 14 = .ok (.bipush 16, 2) := by decide +kernel
theorem dX5_cell_16 : decode cX5_cell 16 = .ok (.invokestatic 69, 3) := by decide +kernel
theorem dX5_cell_19 : decode cX5_cell 19 = .ok (.iload 4, 2) := by decide +kernel
theorem dX5_cell_21 : decode cX5_cell 21 = .ok (.iconst 5, 1) := by decide +kernel
theorem dX5_cell_22 : decode cX5_cell 22 = .ok (.invokestatic 69, 3) := by decide +kernel
theorem dX5_cell_25 : decode cX5_cell 25 = .ok (.iload_n 2, 1) := by decide +kernel
theorem dX5_cell_26 : decode cX5_cell 26 = .ok (.iload_n 3, 1) := by decide +kernel
theorem dX5_cell_27 : decode cX5_cell 27 = .ok (.invokestatic 180, 3) := by decide +kernel
theorem dX5_cell_30 : decode cX5_cell 30 = .ok (.istore 6, 2) := by decide +kernel
theorem dX5_cell_32 : decode cX5_cell 32 = .ok (.iload 4, 2) := by decide +kernel
theorem dX5_cell_34 : decode cX5_cell 34 = .ok (.tableswitch 77 0 3 #[30, 39, 51, 60], 30) := by decide +kernel
theorem dX5_cell_64 : decode cX5_cell 64 = .ok (.aload 5, 2) := by decide +kernel
theorem dX5_cell_66 : decode cX5_cell 66 = .ok (.getfield 183, 3) := by decide +kernel
theorem dX5_cell_69 : decode cX5_cell 69 = .ok (.iload 6, 2) := by decide +kernel
theorem dX5_cell_71 : decode cX5_cell 71 = .ok (.iaload, 1) := by decide +kernel
theorem dX5_cell_72 : decode cX5_cell 72 = .ok (.ireturn, 1) := by decide +kernel
theorem dX5_cell_73 : decode cX5_cell 73 = .ok (.aload 5, 2) := by decide +kernel
theorem dX5_cell_75 : decode cX5_cell 75 = .ok (.iload_n 2, 1) := by decide +kernel
theorem dX5_cell_76 : decode cX5_cell 76 = .ok (.iload_n 3, 1) := by decide +kernel
theorem dX5_cell_77 : decode cX5_cell 77 = .ok (.aload_n 0, 1) := by decide +kernel
theorem dX5_cell_78 : decode cX5_cell 78 = .ok (.getfield 12, 3) := by decide +kernel
theorem dX5_cell_81 : decode cX5_cell 81 = .ok (.invokevirtual 186, 3) := by decide +kernel
theorem dX5_cell_84 : decode cX5_cell 84 = .ok (.ireturn, 1) := by decide +kernel
theorem dX5_cell_85 : decode cX5_cell 85 = .ok (.aload 5, 2) := by decide +kernel
theorem dX5_cell_87 : decode cX5_cell 87 = .ok (.getfield 190, 3) := by decide +kernel
theorem dX5_cell_90 : decode cX5_cell 90 = .ok (.iload 6, 2) := by decide +kernel
theorem dX5_cell_92 : decode cX5_cell 92 = .ok (.iaload, 1) := by decide +kernel
theorem dX5_cell_93 : decode cX5_cell 93 = .ok (.ireturn, 1) := by decide +kernel
theorem dX5_cell_94 : decode cX5_cell 94 = .ok (.aload 5, 2) := by decide +kernel
theorem dX5_cell_96 : decode cX5_cell 96 = .ok (.getfield 193, 3) := by decide +kernel
theorem dX5_cell_99 : decode cX5_cell 99 = .ok (.iload 6, 2) := by decide +kernel
theorem dX5_cell_101 : decode cX5_cell 101 = .ok (.baload, 1) := by decide +kernel
theorem dX5_cell_102 : decode cX5_cell 102 = .ok (.ifCond .eq 7, 3) := by decide +kernel
theorem dX5_cell_105 : decode cX5_cell 105 = .ok (.iconst 1, 1) := by decide +kernel
theorem dX5_cell_106 : decode cX5_cell 106 = .ok (.goto 4, 3) := by decide +kernel
theorem dX5_cell_109 : decode cX5_cell 109 = .ok (.iconst 0, 1) := by decide +kernel
theorem dX5_cell_110 : decode cX5_cell 110 = .ok (.ireturn, 1) := by decide +kernel
theorem dX5_cell_111 : decode cX5_cell 111 = .ok (.aload 5, 2) := by decide +kernel
theorem dX5_cell_113 : decode cX5_cell 113 = .ok (.getfield 197, 3) := by decide +kernel
theorem dX5_cell_116 : decode cX5_cell 116 = .ok (.iload 6, 2) := by decide +kernel
theorem dX5_cell_118 : decode cX5_cell 118 = .ok (.baload, 1) := by decide +kernel
theorem dX5_cell_119 : decode cX5_cell 119 = .ok (.ifCond .eq 7, 3) := by decide +kernel
theorem dX5_cell_122 : decode cX5_cell 122 = .ok (.iconst 1, 1) := by decide +kernel
theorem dX5_cell_123 : decode cX5_cell 123 = .ok (.goto 4, 3) := by decide +kernel
theorem dX5_cell_126 : decode cX5_cell 126 = .ok (.iconst 0, 1) := by decide +kernel
theorem dX5_cell_127 : decode cX5_cell 127 = .ok (.ireturn, 1) := by decide +kernel
set_option maxRecDepth 20000 in
theorem ggX5_rowOf_X5_layerAt : GoodIn wsX5_rowOf wsX5_layerAt := goodIn_ca (goodIn_r _ [8, 9, 10, 11, 23, 24, 25, 26, 27, 28] (by decide +kernel) (by decide +kernel)) (goodIn_sub (fun _ h => List.mem_cons_of_mem _ (List.mem_append_right _ h)) (by decide +kernel))
set_option maxRecDepth 20000 in
theorem gX5_rowOf_X5_layerAt : GoodIn wsX5_rowOf (wsV RX5 62 RX5 yX5_layerAt wsX5_layerAt) := goodIn_app (goodIn_of _ (by decide +kernel)) ggX5_rowOf_X5_layerAt
set_option maxRecDepth 20000 in
theorem ggX5_rowOf_X5_checkIndex : GoodIn wsX5_rowOf wsX5_checkIndex := goodIn_ca (goodIn_r _ [14, 9, 10] (by decide +kernel) (by decide +kernel)) (goodIn_sub (fun _ h => List.mem_cons_of_mem _ (List.mem_append_right _ h)) (by decide +kernel))
set_option maxRecDepth 20000 in
theorem gX5_rowOf_X5_checkIndex : GoodIn wsX5_rowOf (va_wsS RX5 69 yX5_checkIndex wsX5_checkIndex) := goodIn_app (goodIn_of _ (by decide +kernel)) ggX5_rowOf_X5_checkIndex
theorem dX5_rowOf_0 : decode cX5_rowOf 0 = .ok (.aload_n 0, 1) := by decide +kernel
theorem dX5_rowOf_1 : decode cX5_rowOf 1 = .ok (.iload_n 1, 1) := by decide +kernel
theorem dX5_rowOf_2 : decode cX5_rowOf 2 = .ok (.invokevirtual 62, 3) := by decide +kernel
theorem dX5_rowOf_5 : decode cX5_rowOf 5 = .ok (.astore_n 3, 1) := by decide +kernel
theorem dX5_rowOf_6 : decode cX5_rowOf 6 = .ok (.iload_n 2, 1) := by decide +kernel
theorem dX5_rowOf_7 : decode cX5_rowOf 7 = .ok (.aload_n 3, 1) := by decide +kernel
theorem dX5_rowOf_8 : decode cX5_rowOf 8 = .ok (.getfield 66, 3) := by decide +kernel
theorem dX5_rowOf_11 : decode cX5_rowOf 11 = .ok (.invokestatic 69, 3) := by decide +kernel
theorem dX5_rowOf_14 : decode cX5_rowOf 14 = .ok (.aload_n 3, 1) := by decide +kernel
theorem dX5_rowOf_15 : decode cX5_rowOf 15 = .ok (.getfield 106, 3) := by decide +kernel
theorem dX5_rowOf_18 : decode cX5_rowOf 18 = .ok (.ifnonnull 7, 3) := by decide +kernel
theorem dX5_rowOf_21 : decode cX5_rowOf 21 = .ok (.iconst (-1), 1) := by decide +kernel
theorem dX5_rowOf_22 : decode cX5_rowOf 22 = .ok (.goto 9, 3) := by decide +kernel
theorem dX5_rowOf_25 : decode cX5_rowOf 25 = .ok (.aload_n 3, 1) := by decide +kernel
theorem dX5_rowOf_26 : decode cX5_rowOf 26 = .ok (.getfield 200, 3) := by decide +kernel
theorem dX5_rowOf_29 : decode cX5_rowOf 29 = .ok (.iload_n 2, 1) := by decide +kernel
theorem dX5_rowOf_30 : decode cX5_rowOf 30 = .ok (.iaload, 1) := by decide +kernel
theorem dX5_rowOf_31 : decode cX5_rowOf 31 = .ok (.ireturn, 1) := by decide +kernel
set_option maxRecDepth 20000 in
theorem ggX5_tileOf_X5_layerAt : GoodIn wsX5_tileOf wsX5_layerAt := goodIn_ca (goodIn_r _ [7, 8, 9, 10, 31, 32, 33, 34, 35, 36] (by decide +kernel) (by decide +kernel)) (goodIn_sub (fun _ h => List.mem_cons_of_mem _ (List.mem_append_right _ h)) (by decide +kernel))
set_option maxRecDepth 20000 in
theorem gX5_tileOf_X5_layerAt : GoodIn wsX5_tileOf (wsV RX5 62 RX5 yX5_layerAt wsX5_layerAt) := goodIn_app (goodIn_of _ (by decide +kernel)) ggX5_tileOf_X5_layerAt
theorem dX5_tileOf_0 : decode cX5_tileOf 0 = .ok (.aload_n 0, 1) := by decide +kernel
theorem dX5_tileOf_1 : decode cX5_tileOf 1 = .ok (.iload_n 1, 1) := by decide +kernel
theorem dX5_tileOf_2 : decode cX5_tileOf 2 = .ok (.invokevirtual 62, 3) := by decide +kernel
theorem dX5_tileOf_5 : decode cX5_tileOf 5 = .ok (.astore_n 2, 1) := by decide +kernel
theorem dX5_tileOf_6 : decode cX5_tileOf 6 = .ok (.aload_n 2, 1) := by decide +kernel
theorem dX5_tileOf_7 : decode cX5_tileOf 7 = .ok (.getfield 106, 3) := by decide +kernel
theorem dX5_tileOf_10 : decode cX5_tileOf 10 = .ok (.ifnonnull 7, 3) := by decide +kernel
theorem dX5_tileOf_13 : decode cX5_tileOf 13 = .ok (.iconst (-1), 1) := by decide +kernel
theorem dX5_tileOf_14 : decode cX5_tileOf 14 = .ok (.goto 10, 3) := by decide +kernel
theorem dX5_tileOf_17 : decode cX5_tileOf 17 = .ok (.aload_n 2, 1) := by decide +kernel
theorem dX5_tileOf_18 : decode cX5_tileOf 18 = .ok (.getfield 106, 3) := by decide +kernel
theorem dX5_tileOf_21 : decode cX5_tileOf 21 = .ok (.getfield 132, 3) := by decide +kernel
theorem dX5_tileOf_24 : decode cX5_tileOf 24 = .ok (.ireturn, 1) := by decide +kernel
set_option maxRecDepth 20000 in
theorem ggX5_misfits_X5_layerAt : GoodIn wsX5_misfits wsX5_layerAt := goodIn_ca (goodIn_r _ [7, 8, 9, 10, 75, 76, 77, 78, 79, 80] (by decide +kernel) (by decide +kernel)) (goodIn_sub (fun _ h => List.mem_cons_of_mem _ (List.mem_append_right _ h)) (by decide +kernel))
set_option maxRecDepth 20000 in
theorem gX5_misfits_X5_layerAt : GoodIn wsX5_misfits (wsV RX5 62 RX5 yX5_layerAt wsX5_layerAt) := goodIn_app (goodIn_of _ (by decide +kernel)) ggX5_misfits_X5_layerAt
set_option maxRecDepth 20000 in
theorem ggX5_misfits_X5_tileAt : GoodIn wsX5_misfits wsX5_tileAt := goodIn_ca (goodIn_r _ [14, 8, 9, 15, 75, 76, 77, 78, 79, 80] (by decide +kernel) (by decide +kernel)) (goodIn_sub (fun _ h => List.mem_cons_of_mem _ (List.mem_append_right _ h)) (by decide +kernel))
set_option maxRecDepth 20000 in
theorem gX5_misfits_X5_tileAt : GoodIn wsX5_misfits (wsV RX5 102 RX5 yX5_tileAt wsX5_tileAt) := goodIn_app (goodIn_of _ (by decide +kernel)) ggX5_misfits_X5_tileAt
set_option maxRecDepth 20000 in
theorem ggX5_misfits_X2_weigh : GoodIn wsX5_misfits wsX2_weigh := goodIn_r _ [20, 21, 22, 23, 24, 25, 26, 27, 28, 29, 30, 31, 32, 33, 34, 35, 36, 37, 38, 39, 40, 41, 42, 43, 44, 45, 46, 47, 48, 49, 6, 50, 81, 82, 83, 84, 85, 86, 87, 88, 89, 90, 91, 92, 93, 94, 95, 96, 97, 98, 99, 100, 101, 102] (by decide +kernel) (by decide +kernel)
set_option maxRecDepth 20000 in
theorem gX5_misfits_X2_weigh : GoodIn wsX5_misfits (wsV RX5 116 RX2 yX2_weigh wsX2_weigh) := goodIn_app (goodIn_of _ (by decide +kernel)) ggX5_misfits_X2_weigh
set_option maxRecDepth 20000 in
theorem ggX5_misfits_X2_fewestMisfits : GoodIn wsX5_misfits wsX2_fewestMisfits := goodIn_r _ [54, 55, 56, 57, 58, 59, 60, 61, 62, 63, 64, 65, 19, 66, 67, 68, 69, 70, 71, 72, 73, 74, 22, 89, 90] (by decide +kernel) (by decide +kernel)
set_option maxRecDepth 20000 in
theorem gX5_misfits_X2_fewestMisfits : GoodIn wsX5_misfits (wsV RX5 203 RX2 yX2_fewestMisfits wsX2_fewestMisfits) := goodIn_app (goodIn_of _ (by decide +kernel)) ggX5_misfits_X2_fewestMisfits
theorem dX5_misfits_0 : decode cX5_misfits 0 = .ok (.aload_n 0, 1) := by decide +kernel
theorem dX5_misfits_1 : decode cX5_misfits 1 = .ok (.iload_n 1, 1) := by decide +kernel
theorem dX5_misfits_2 : decode cX5_misfits 2 = .ok (.invokevirtual 62, 3) := by decide +kernel
theorem dX5_misfits_5 : decode cX5_misfits 5 = .ok (.astore_n 3, 1) := by decide +kernel
theorem dX5_misfits_6 : decode cX5_misfits 6 = .ok (.aload_n 0, 1) := by decide +kernel
theorem dX5_misfits_7 : decode cX5_misfits 7 = .ok (.getfield 31, 3) := by decide +kernel
theorem dX5_misfits_10 : decode cX5_misfits 10 = .ok (.aload_n 3, 1) := by decide +kernel
theorem dX5_misfits_11 : decode cX5_misfits 11 = .ok (.aload_n 0, 1) := by decide +kernel
theorem dX5_misfits_12 : decode cX5_misfits 12 = .ok (.iload_n 2, 1) := by decide +kernel
theorem dX5_misfits_13 : decode cX5_misfits 13 = .ok (.invokevirtual 102, 3) := by decide +kernel
theorem dX5_misfits_16 : decode cX5_misfits 16 = .ok (.invokevirtual 116, 3) := by decide +kernel
theorem dX5_misfits_19 : decode cX5_misfits 19 = .ok (.aload_n 0, 1) := by decide +kernel
theorem dX5_misfits_20 : decode cX5_misfits 20 = .ok (.getfield 31, 3) := by decide +kernel
theorem dX5_misfits_23 : decode cX5_misfits 23 = .ok (.aload_n 3, 1) := by decide +kernel
theorem dX5_misfits_24 : decode cX5_misfits 24 = .ok (.getfield 66, 3) := by decide +kernel
theorem dX5_misfits_27 : decode cX5_misfits 27 = .ok (.invokevirtual 203, 3) := by decide +kernel
theorem dX5_misfits_30 : decode cX5_misfits 30 = .ok (.ireturn, 1) := by decide +kernel
set_option maxRecDepth 20000 in
theorem ggX5_misfitsAnew_X5_layerAt : GoodIn wsX5_misfitsAnew wsX5_layerAt := goodIn_ca (goodIn_r _ [9, 10, 11, 12, 73, 74, 75, 76, 77, 78] (by decide +kernel) (by decide +kernel)) (goodIn_sub (fun _ h => List.mem_cons_of_mem _ (List.mem_append_right _ h)) (by decide +kernel))
set_option maxRecDepth 20000 in
theorem gX5_misfitsAnew_X5_layerAt : GoodIn wsX5_misfitsAnew (wsV RX5 62 RX5 yX5_layerAt wsX5_layerAt) := goodIn_app (goodIn_of _ (by decide +kernel)) ggX5_misfitsAnew_X5_layerAt
set_option maxRecDepth 20000 in
theorem ggX5_misfitsAnew_X5_tileAt : GoodIn wsX5_misfitsAnew wsX5_tileAt := goodIn_ca (goodIn_r _ [16, 10, 11, 17, 73, 74, 75, 76, 77, 78] (by decide +kernel) (by decide +kernel)) (goodIn_sub (fun _ h => List.mem_cons_of_mem _ (List.mem_append_right _ h)) (by decide +kernel))
set_option maxRecDepth 20000 in
theorem gX5_misfitsAnew_X5_tileAt : GoodIn wsX5_misfitsAnew (wsV RX5 102 RX5 yX5_tileAt wsX5_tileAt) := goodIn_app (goodIn_of _ (by decide +kernel)) ggX5_misfitsAnew_X5_tileAt
set_option maxRecDepth 20000 in
theorem ggX5_misfitsAnew_X2_weigh : GoodIn wsX5_misfitsAnew wsX2_weigh := goodIn_r _ [22, 23, 24, 25, 26, 27, 28, 29, 30, 31, 32, 33, 34, 35, 36, 37, 38, 39, 40, 41, 42, 43, 44, 45, 46, 47, 48, 49, 50, 51, 8, 52, 65, 66, 67, 68, 69, 70, 71, 72, 79, 80, 81, 82, 83, 84, 85, 86, 87, 88, 89, 90, 91, 92] (by decide +kernel) (by decide +kernel)
set_option maxRecDepth 20000 in
theorem gX5_misfitsAnew_X2_weigh : GoodIn wsX5_misfitsAnew (wsV RX5 116 RX2 yX2_weigh wsX2_weigh) := goodIn_app (goodIn_of _ (by decide +kernel)) ggX5_misfitsAnew_X2_weigh
set_option maxRecDepth 20000 in
theorem ggX5_misfitsAnew_X2_fewestOfAllWays : GoodIn wsX5_misfitsAnew wsX2_fewestOfAllWays := goodIn_r _ [56, 57, 58, 59, 60, 61, 62, 63, 21, 64, 24, 79, 80] (by decide +kernel) (by decide +kernel)
set_option maxRecDepth 20000 in
theorem gX5_misfitsAnew_X2_fewestOfAllWays : GoodIn wsX5_misfitsAnew (wsV RX5 208 RX2 yX2_fewestOfAllWays wsX2_fewestOfAllWays) := goodIn_app (goodIn_of _ (by decide +kernel)) ggX5_misfitsAnew_X2_fewestOfAllWays
theorem dX5_misfitsAnew_0 : decode cX5_misfitsAnew 0 = .ok (.aload_n 0, 1) := by decide +kernel
theorem dX5_misfitsAnew_1 : decode cX5_misfitsAnew 1 = .ok (.iload_n 1, 1) := by decide +kernel
theorem dX5_misfitsAnew_2 : decode cX5_misfitsAnew 2 = .ok (.invokevirtual 62, 3) := by decide +kernel
theorem dX5_misfitsAnew_5 : decode cX5_misfitsAnew 5 = .ok (.astore_n 3, 1) := by decide +kernel
theorem dX5_misfitsAnew_6 : decode cX5_misfitsAnew 6 = .ok (.aload_n 0, 1) := by decide +kernel
theorem dX5_misfitsAnew_7 : decode cX5_misfitsAnew 7 = .ok (.iload_n 2, 1) := by decide +kernel
theorem dX5_misfitsAnew_8 : decode cX5_misfitsAnew 8 = .ok (.invokevirtual 102, 3) := by decide +kernel
theorem dX5_misfitsAnew_11 : decode cX5_misfitsAnew 11 = .ok (.astore 4, 2) := by decide +kernel
theorem dX5_misfitsAnew_13 : decode cX5_misfitsAnew 13 = .ok (.aload_n 3, 1) := by decide +kernel
theorem dX5_misfitsAnew_14 : decode cX5_misfitsAnew 14 = .ok (.getfield 66, 3) := by decide +kernel
theorem dX5_misfitsAnew_17 : decode cX5_misfitsAnew 17 = .ok (.iconst 4, 1) := by decide +kernel
theorem dX5_misfitsAnew_18 : decode cX5_misfitsAnew 18 = .ok (.if_icmp .le 13, 3) := by decide +kernel
theorem dX5_misfitsAnew_21 : decode cX5_misfitsAnew 21 = .ok (.new 53, 3) := by decide +kernel
theorem dX5_misfitsAnew_24 : decode cX5_misfitsAnew 24 = .ok (.dup, 1) := by decide +kernel
theorem dX5_misfitsAnew_25 : decode cX5_misfitsAnew 25 = .ok (.ldc 206, 2) := by decide +kernel
theorem dX5_misfitsAnew_27 : decode cX5_misfitsAnew 27 = .ok (.invokespecial 57, 3) := by decide +kernel
theorem dX5_misfitsAnew_30 : decode cX5_misfitsAnew 30 = .ok (.athrow, 1) := by decide +kernel
theorem dX5_misfitsAnew_31 : decode cX5_misfitsAnew 31 = .ok (.aload_n 0, 1) := by decide +kernel
theorem dX5_misfitsAnew_32 : decode cX5_misfitsAnew 32 = .ok (.getfield 31, 3) := by decide +kernel
theorem dX5_misfitsAnew_35 : decode cX5_misfitsAnew 35 = .ok (.aload_n 3, 1) := by decide +kernel
theorem dX5_misfitsAnew_36 : decode cX5_misfitsAnew 36 = .ok (.aload 4, 2) := by decide +kernel
theorem dX5_misfitsAnew_38 : decode cX5_misfitsAnew 38 = .ok (.invokevirtual 116, 3) := by decide +kernel
theorem dX5_misfitsAnew_41 : decode cX5_misfitsAnew 41 = .ok (.aload_n 0, 1) := by decide +kernel
theorem dX5_misfitsAnew_42 : decode cX5_misfitsAnew 42 = .ok (.getfield 31, 3) := by decide +kernel
theorem dX5_misfitsAnew_45 : decode cX5_misfitsAnew 45 = .ok (.aload_n 3, 1) := by decide +kernel
theorem dX5_misfitsAnew_46 : decode cX5_misfitsAnew 46 = .ok (.getfield 66, 3) := by decide +kernel
theorem dX5_misfitsAnew_49 : decode cX5_misfitsAnew 49 = .ok (.invokevirtual 208, 3) := by decide +kernel
theorem dX5_misfitsAnew_52 : decode cX5_misfitsAnew 52 = .ok (.ireturn, 1) := by decide +kernel
set_option maxRecDepth 20000 in
theorem ggX5_isTrue_X5_layerAt : GoodIn wsX5_isTrue wsX5_layerAt := goodIn_ca (goodIn_r _ [7, 8, 9, 10, 58, 59, 60, 61, 62, 63] (by decide +kernel) (by decide +kernel)) (goodIn_sub (fun _ h => List.mem_cons_of_mem _ (List.mem_append_right _ h)) (by decide +kernel))
set_option maxRecDepth 20000 in
theorem gX5_isTrue_X5_layerAt : GoodIn wsX5_isTrue (wsV RX5 62 RX5 yX5_layerAt wsX5_layerAt) := goodIn_app (goodIn_of _ (by decide +kernel)) ggX5_isTrue_X5_layerAt
set_option maxRecDepth 20000 in
theorem ggX5_isTrue_X0_conductsAsNeeded : GoodIn wsX5_isTrue wsX0_conductsAsNeeded := goodIn_r _ [15, 16, 17, 18, 19, 20, 14, 21, 22, 23, 24, 25, 26, 27, 28, 29, 30, 31, 32, 33, 34, 35, 36, 37, 6, 38, 39, 40, 41, 42, 43, 44, 45, 46, 47, 48, 49, 50, 51, 52, 53, 54, 55, 56, 57, 64, 65, 66, 67, 68, 69, 70, 71, 72, 73, 74, 75, 76, 77, 78] (by decide +kernel) (by decide +kernel)
set_option maxRecDepth 20000 in
theorem gX5_isTrue_X0_conductsAsNeeded : GoodIn wsX5_isTrue (wsV RX5 211 RX0 yX0_conductsAsNeeded wsX0_conductsAsNeeded) := goodIn_app (goodIn_of _ (by decide +kernel)) ggX5_isTrue_X0_conductsAsNeeded
theorem dX5_isTrue_0 : decode cX5_isTrue 0 = .ok (.aload_n 0, 1) := by decide +kernel
theorem dX5_isTrue_1 : decode cX5_isTrue 1 = .ok (.iload_n 1, 1) := by decide +kernel
theorem dX5_isTrue_2 : decode cX5_isTrue 2 = .ok (.invokevirtual 62, 3) := by decide +kernel
theorem dX5_isTrue_5 : decode cX5_isTrue 5 = .ok (.astore_n 2, 1) := by decide +kernel
theorem dX5_isTrue_6 : decode cX5_isTrue 6 = .ok (.aload_n 2, 1) := by decide +kernel
theorem dX5_isTrue_7 : decode cX5_isTrue 7 = .ok (.getfield 106, 3) := by decide +kernel
theorem dX5_isTrue_10 : decode cX5_isTrue 10 = .ok (.ifnull 22, 3) := by decide +kernel
theorem dX5_isTrue_13 : decode cX5_isTrue 13 = .ok (.aload_n 2, 1) := by decide +kernel
theorem dX5_isTrue_14 : decode cX5_isTrue 14 = .ok (.aload_n 2, 1) := by decide +kernel
theorem dX5_isTrue_15 : decode cX5_isTrue 15 = .ok (.getfield 106, 3) := by decide +kernel
theorem dX5_isTrue_18 : decode cX5_isTrue 18 = .ok (.aload_n 0, 1) := by decide +kernel
theorem dX5_isTrue_19 : decode cX5_isTrue 19 = .ok (.getfield 12, 3) := by decide +kernel
theorem dX5_isTrue_22 : decode cX5_isTrue 22 = .ok (.invokevirtual 211, 3) := by decide +kernel
theorem dX5_isTrue_25 : decode cX5_isTrue 25 = .ok (.ifCond .eq 7, 3) := by decide +kernel
theorem dX5_isTrue_28 : decode cX5_isTrue 28 = .ok (.iconst 1, 1) := by decide +kernel
theorem dX5_isTrue_29 : decode cX5_isTrue 29 = .ok (.goto 4, 3) := by decide +kernel
theorem dX5_isTrue_32 : decode cX5_isTrue 32 = .ok (.iconst 0, 1) := by decide +kernel
theorem dX5_isTrue_33 : decode cX5_isTrue 33 = .ok (.ireturn, 1) := by decide +kernel
set_option maxRecDepth 20000 in
theorem ggX5_answer_X5_layerAt : GoodIn wsX5_answer wsX5_layerAt := goodIn_ca (goodIn_r _ [7, 8, 9, 10, 70, 71, 72, 73, 74, 75] (by decide +kernel) (by decide +kernel)) (goodIn_sub (fun _ h => List.mem_cons_of_mem _ (List.mem_append_left _ (List.mem_append_right _ h))) (by decide +kernel))
set_option maxRecDepth 20000 in
theorem gX5_answer_X5_layerAt : GoodIn wsX5_answer (wsV RX5 62 RX5 yX5_layerAt wsX5_layerAt) := goodIn_app (goodIn_of _ (by decide +kernel)) ggX5_answer_X5_layerAt
set_option maxRecDepth 20000 in
theorem ggX5_answer_X5_checkIndex : GoodIn wsX5_answer wsX5_checkIndex := goodIn_ca (goodIn_r _ [13, 8, 9] (by decide +kernel) (by decide +kernel)) (goodIn_sub (fun _ h => List.mem_cons_of_mem _ (List.mem_append_left _ (List.mem_append_right _ h))) (by decide +kernel))
set_option maxRecDepth 20000 in
theorem gX5_answer_X5_checkIndex : GoodIn wsX5_answer (va_wsS RX5 69 yX5_checkIndex wsX5_checkIndex) := goodIn_app (goodIn_of _ (by decide +kernel)) ggX5_answer_X5_checkIndex
set_option maxRecDepth 20000 in
theorem ggX5_answer_X5_groundOf : GoodIn wsX5_answer wsX5_groundOf := goodIn_ca (goodIn_r _ [16, 17, 18, 19, 62, 63, 64, 65, 66, 67, 68, 69] (by decide +kernel) (by decide +kernel)) (goodIn_sub (fun _ h => List.mem_cons_of_mem _ (List.mem_append_right _ h)) (by decide +kernel))
set_option maxRecDepth 20000 in
theorem gX5_answer_X5_groundOf : GoodIn wsX5_answer (va_wsS RX5 128 yX5_groundOf wsX5_groundOf) := goodIn_app (goodIn_of _ (by decide +kernel)) ggX5_answer_X5_groundOf
set_option maxRecDepth 20000 in
theorem ggX5_answer_X0_answerOn : GoodIn wsX5_answer wsX0_answerOn := goodIn_r _ [24, 25, 26, 27, 23, 28, 29, 30, 31, 6, 32, 33, 34, 35, 36, 37, 38, 39, 40, 41, 42, 43, 44, 45, 46, 47, 48, 49, 50, 51, 52, 53, 54, 55, 56, 57, 58, 59, 60, 61, 62, 63, 64, 65, 66, 67, 68, 69, 76, 77, 78, 79, 80, 81, 82, 83, 84, 85, 86, 87, 88, 89, 90] (by decide +kernel) (by decide +kernel)
set_option maxRecDepth 20000 in
theorem gX5_answer_X0_answerOn : GoodIn wsX5_answer (wsV RX5 215 RX0 yX0_answerOn wsX0_answerOn) := goodIn_app (goodIn_of _ (by decide +kernel)) ggX5_answer_X0_answerOn
theorem dX5_answer_0 : decode cX5_answer 0 = .ok (.aload_n 0, 1) := by decide +kernel
theorem dX5_answer_1 : decode cX5_answer 1 = .ok (.iload_n 1, 1) := by decide +kernel
theorem dX5_answer_2 : decode cX5_answer 2 = .ok (.invokevirtual 62, 3) := by decide +kernel
theorem dX5_answer_5 : decode cX5_answer 5 = .ok (.astore 5, 2) := by decide +kernel
theorem dX5_answer_7 : decode cX5_answer 7 = .ok (.iload 4, 2) := by decide +kernel
theorem dX5_answer_9 : decode cX5_answer 9 = .ok (.aload 5, 2) := by decide +kernel
theorem dX5_answer_11 : decode cX5_answer 11 = .ok (.getfield 73, 3) := by decide +kernel
theorem dX5_answer_14 : decode cX5_answer 14 = .ok (.invokestatic 69, 3) := by decide +kernel
theorem dX5_answer_17 : decode cX5_answer 17 = .ok (.aload 5, 2) := by decide +kernel
theorem dX5_answer_19 : decode cX5_answer 19 = .ok (.aload 5, 2) := by decide +kernel
theorem dX5_answer_21 : decode cX5_answer 21 = .ok (.invokestatic 128, 3) := by decide +kernel
theorem dX5_answer_24 : decode cX5_answer 24 = .ok (.lload_n 2, 1) := by decide +kernel
theorem dX5_answer_25 : decode cX5_answer 25 = .ok (.iload 4, 2) := by decide +kernel
theorem dX5_answer_27 : decode cX5_answer 27 = .ok (.aload_n 0, 1) := by decide +kernel
theorem dX5_answer_28 : decode cX5_answer 28 = .ok (.getfield 12, 3) := by decide +kernel
theorem dX5_answer_31 : decode cX5_answer 31 = .ok (.invokevirtual 215, 3) := by decide +kernel
theorem dX5_answer_34 : decode cX5_answer 34 = .ok (.ireturn, 1) := by decide +kernel
set_option maxRecDepth 20000 in
theorem ggX5_ideal_X5_layerAt : GoodIn wsX5_ideal wsX5_layerAt := goodIn_ca (goodIn_r _ [6, 7, 8, 9, 34, 35, 36, 37, 38, 39] (by decide +kernel) (by decide +kernel)) (goodIn_sub (fun _ h => List.mem_cons_of_mem _ (List.mem_append_right _ h)) (by decide +kernel))
set_option maxRecDepth 20000 in
theorem gX5_ideal_X5_layerAt : GoodIn wsX5_ideal (wsV RX5 62 RX5 yX5_layerAt wsX5_layerAt) := goodIn_app (goodIn_of _ (by decide +kernel)) ggX5_ideal_X5_layerAt
set_option maxRecDepth 20000 in
theorem ggX5_ideal_X5_checkIndex : GoodIn wsX5_ideal wsX5_checkIndex := goodIn_ca (goodIn_r _ [12, 7, 8] (by decide +kernel) (by decide +kernel)) (goodIn_sub (fun _ h => List.mem_cons_of_mem _ (List.mem_append_right _ h)) (by decide +kernel))
set_option maxRecDepth 20000 in
theorem gX5_ideal_X5_checkIndex : GoodIn wsX5_ideal (va_wsS RX5 69 yX5_checkIndex wsX5_checkIndex) := goodIn_app (goodIn_of _ (by decide +kernel)) ggX5_ideal_X5_checkIndex
set_option maxRecDepth 20000 in
theorem ggX5_ideal_X0_idealAnswer : GoodIn wsX5_ideal wsX0_idealAnswer := goodIn_r _ [17, 18, 19, 20, 21, 16, 22, 23, 24, 5, 25, 26, 27, 28, 29, 30, 31, 32, 33] (by decide +kernel) (by decide +kernel)
set_option maxRecDepth 20000 in
theorem gX5_ideal_X0_idealAnswer : GoodIn wsX5_ideal (wsV RX5 219 RX0 yX0_idealAnswer wsX0_idealAnswer) := goodIn_app (goodIn_of _ (by decide +kernel)) ggX5_ideal_X0_idealAnswer
theorem dX5_ideal_0 : decode cX5_ideal 0 = .ok (.aload_n 0, 1) := by decide +kernel
theorem dX5_ideal_1 : decode cX5_ideal 1 = .ok (.iload_n 1, 1) := by decide +kernel
theorem dX5_ideal_2 : decode cX5_ideal 2 = .ok (.invokevirtual 62, 3) := by decide +kernel
theorem dX5_ideal_5 : decode cX5_ideal 5 = .ok (.astore 5, 2) := by decide +kernel
theorem dX5_ideal_7 : decode cX5_ideal 7 = .ok (.iload 4, 2) := by decide +kernel
theorem dX5_ideal_9 : decode cX5_ideal 9 = .ok (.aload 5, 2) := by decide +kernel
theorem dX5_ideal_11 : decode cX5_ideal 11 = .ok (.getfield 73, 3) := by decide +kernel
theorem dX5_ideal_14 : decode cX5_ideal 14 = .ok (.invokestatic 69, 3) := by decide +kernel
theorem dX5_ideal_17 : decode cX5_ideal 17 = .ok (.aload 5, 2) := by decide +kernel
theorem dX5_ideal_19 : decode cX5_ideal 19 = .ok (.lload_n 2, 1) := by decide +kernel
theorem dX5_ideal_20 : decode cX5_ideal 20 = .ok (.iload 4, 2) := by decide +kernel
theorem dX5_ideal_22 : decode cX5_ideal 22 = .ok (.invokevirtual 219, 3) := by decide +kernel
theorem dX5_ideal_25 : decode cX5_ideal 25 = .ok (.ireturn, 1) := by decide +kernel
set_option maxRecDepth 20000 in
theorem ggX5_bound_X5_layerAt : GoodIn wsX5_bound wsX5_layerAt := goodIn_ca (goodIn_r _ [6, 7, 8, 9, 72, 73, 74, 75, 76, 77] (by decide +kernel) (by decide +kernel)) (goodIn_sub (fun _ h => List.mem_cons_of_mem _ (List.mem_append_left _ (List.mem_append_right _ h))) (by decide +kernel))
set_option maxRecDepth 20000 in
theorem gX5_bound_X5_layerAt : GoodIn wsX5_bound (wsV RX5 62 RX5 yX5_layerAt wsX5_layerAt) := goodIn_app (goodIn_of _ (by decide +kernel)) ggX5_bound_X5_layerAt
set_option maxRecDepth 20000 in
theorem ggX5_bound_X5_checkIndex : GoodIn wsX5_bound wsX5_checkIndex := goodIn_ca (goodIn_r _ [12, 7, 8] (by decide +kernel) (by decide +kernel)) (goodIn_sub (fun _ h => List.mem_cons_of_mem _ (List.mem_append_left _ (List.mem_append_right _ h))) (by decide +kernel))
set_option maxRecDepth 20000 in
theorem gX5_bound_X5_checkIndex : GoodIn wsX5_bound (va_wsS RX5 69 yX5_checkIndex wsX5_checkIndex) := goodIn_app (goodIn_of _ (by decide +kernel)) ggX5_bound_X5_checkIndex
set_option maxRecDepth 20000 in
theorem ggX5_bound_X5_groundOf : GoodIn wsX5_bound wsX5_groundOf := goodIn_ca (goodIn_r _ [15, 16, 17, 18, 64, 65, 66, 67, 68, 69, 70, 71] (by decide +kernel) (by decide +kernel)) (goodIn_sub (fun _ h => List.mem_cons_of_mem _ (List.mem_append_right _ h)) (by decide +kernel))
set_option maxRecDepth 20000 in
theorem gX5_bound_X5_groundOf : GoodIn wsX5_bound (va_wsS RX5 128 yX5_groundOf wsX5_groundOf) := goodIn_app (goodIn_of _ (by decide +kernel)) ggX5_bound_X5_groundOf
set_option maxRecDepth 20000 in
theorem ggX5_bound_X0_boundOn : GoodIn wsX5_bound wsX0_boundOn := goodIn_r _ [23, 24, 25, 26, 22, 27, 28, 29, 30, 31, 32, 33, 34, 35, 36, 37, 38, 39, 40, 41, 42, 43, 44, 45, 46, 47, 48, 49, 50, 51, 52, 53, 54, 55, 56, 57, 58, 5, 59, 60, 61, 62, 63, 64, 65, 66, 67, 68, 69, 70, 71, 78, 79, 80, 81, 82, 83, 84, 85, 86, 87, 88, 89] (by decide +kernel) (by decide +kernel)
set_option maxRecDepth 20000 in
theorem gX5_bound_X0_boundOn : GoodIn wsX5_bound (wsV RX5 223 RX0 yX0_boundOn wsX0_boundOn) := goodIn_app (goodIn_of _ (by decide +kernel)) ggX5_bound_X0_boundOn
theorem dX5_bound_0 : decode cX5_bound 0 = .ok (.aload_n 0, 1) := by decide +kernel
theorem dX5_bound_1 : decode cX5_bound 1 = .ok (.iload_n 1, 1) := by decide +kernel
theorem dX5_bound_2 : decode cX5_bound 2 = .ok (.invokevirtual 62, 3) := by decide +kernel
theorem dX5_bound_5 : decode cX5_bound 5 = .ok (.astore 4, 2) := by decide +kernel
theorem dX5_bound_7 : decode cX5_bound 7 = .ok (.iload_n 2, 1) := by decide +kernel
theorem dX5_bound_8 : decode cX5_bound 8 = .ok (.aload 4, 2) := by decide +kernel
theorem dX5_bound_10 : decode cX5_bound 10 = .ok (.getfield 73, 3) := by decide +kernel
theorem dX5_bound_13 : decode cX5_bound 13 = .ok (.invokestatic 69, 3) := by decide +kernel
theorem dX5_bound_16 : decode cX5_bound 16 = .ok (.aload 4, 2) := by decide +kernel
theorem dX5_bound_18 : decode cX5_bound 18 = .ok (.aload 4, 2) := by decide +kernel
theorem dX5_bound_20 : decode cX5_bound 20 = .ok (.invokestatic 128, 3) := by decide +kernel
theorem dX5_bound_23 : decode cX5_bound 23 = .ok (.iload_n 2, 1) := by decide +kernel
theorem dX5_bound_24 : decode cX5_bound 24 = .ok (.iload_n 3, 1) := by decide +kernel
theorem dX5_bound_25 : decode cX5_bound 25 = .ok (.invokevirtual 223, 3) := by decide +kernel
theorem dX5_bound_28 : decode cX5_bound 28 = .ok (.ireturn, 1) := by decide +kernel
set_option maxRecDepth 20000 in
theorem ggX5_cycles_X5_layerAt : GoodIn wsX5_cycles wsX5_layerAt := goodIn_ca (goodIn_r _ [6, 7, 8, 9, 58, 59, 60, 61, 62, 63] (by decide +kernel) (by decide +kernel)) (goodIn_sub (fun _ h => List.mem_cons_of_mem _ (List.mem_append_left _ (List.mem_append_left _ (List.mem_append_right _ h)))) (by decide +kernel))
set_option maxRecDepth 20000 in
theorem gX5_cycles_X5_layerAt : GoodIn wsX5_cycles (wsV RX5 62 RX5 yX5_layerAt wsX5_layerAt) := goodIn_app (goodIn_of _ (by decide +kernel)) ggX5_cycles_X5_layerAt
set_option maxRecDepth 20000 in
theorem ggX5_cycles_X5_checkArgument : GoodIn wsX5_cycles wsX5_checkArgument := goodIn_ca (goodIn_r _ [12, 13, 14] (by decide +kernel) (by decide +kernel)) (goodIn_sub (fun _ h => List.mem_cons_of_mem _ (List.mem_append_left _ (List.mem_append_right _ h))) (by decide +kernel))
set_option maxRecDepth 20000 in
theorem gX5_cycles_X5_checkArgument : GoodIn wsX5_cycles (va_wsS RX5 49 yX5_checkArgument wsX5_checkArgument) := goodIn_app (goodIn_of _ (by decide +kernel)) ggX5_cycles_X5_checkArgument
set_option maxRecDepth 20000 in
theorem ggX5_cycles_X5_tellPipeline : GoodIn wsX5_cycles wsX5_tellPipeline := goodIn_ca (goodIn_r _ [18, 1, 19, 20, 21, 22, 23, 24, 25, 26, 27, 5, 28, 29, 30, 31, 32, 33, 34, 35, 36, 37, 38, 39, 40, 41, 42, 43, 44, 45, 46, 47, 48, 49, 58, 59, 60, 61, 62, 63, 64, 65, 66, 67, 68, 69, 70, 71, 72, 73, 74, 75, 76, 77, 78, 79, 80, 81, 82, 83, 84, 85, 86] (by decide +kernel) (by decide +kernel)) (goodIn_sub (fun _ h => List.mem_cons_of_mem _ (List.mem_append_right _ h)) (by decide +kernel))
set_option maxRecDepth 20000 in
theorem gX5_cycles_X5_tellPipeline : GoodIn wsX5_cycles (wsV RX5 231 RX5 yX5_tellPipeline wsX5_tellPipeline) := goodIn_app (goodIn_of _ (by decide +kernel)) ggX5_cycles_X5_tellPipeline
set_option maxRecDepth 20000 in
theorem ggX5_cycles_X1_cyclesReckoned : GoodIn wsX5_cycles wsX1_cyclesReckoned := goodIn_r _ [53, 25, 49, 54, 55, 56, 57, 72, 73, 74] (by decide +kernel) (by decide +kernel)
set_option maxRecDepth 20000 in
theorem gX5_cycles_X1_cyclesReckoned : GoodIn wsX5_cycles (wsV RX5 234 RX1 yX1_cyclesReckoned wsX1_cyclesReckoned) := goodIn_app (goodIn_of _ (by decide +kernel)) ggX5_cycles_X1_cyclesReckoned
theorem dX5_cycles_0 : decode cX5_cycles 0 = .ok (.aload_n 0, 1) := by decide +kernel
theorem dX5_cycles_1 : decode cX5_cycles 1 = .ok (.iload_n 1, 1) := by decide +kernel
theorem dX5_cycles_2 : decode cX5_cycles 2 = .ok (.invokevirtual 62, 3) := by decide +kernel
theorem dX5_cycles_5 : decode cX5_cycles 5 = .ok (.astore_n 3, 1) := by decide +kernel
theorem dX5_cycles_6 : decode cX5_cycles 6 = .ok (.iload_n 2, 1) := by decide +kernel
theorem dX5_cycles_7 : decode cX5_cycles 7 = .ok (.iconst 1, 1) := by decide +kernel
theorem dX5_cycles_8 : decode cX5_cycles 8 = .ok (.sipush 1000, 3) := by decide +kernel
theorem dX5_cycles_11 : decode cX5_cycles 11 = .ok (.invokestatic 49, 3) := by decide +kernel
theorem dX5_cycles_14 : decode cX5_cycles 14 = .ok (.aload_n 0, 1) := by decide +kernel
theorem dX5_cycles_15 : decode cX5_cycles 15 = .ok (.aload_n 3, 1) := by decide +kernel
theorem dX5_cycles_16 : decode cX5_cycles 16 = .ok (.invokevirtual 231, 3) := by decide +kernel
theorem dX5_cycles_19 : decode cX5_cycles 19 = .ok (.aload_n 0, 1) := by decide +kernel
theorem dX5_cycles_20 : decode cX5_cycles 20 = .ok (.getfield 38, 3) := by decide +kernel
theorem dX5_cycles_23 : decode cX5_cycles 23 = .ok (.iload_n 2, 1) := by decide +kernel
theorem dX5_cycles_24 : decode cX5_cycles 24 = .ok (.invokevirtual 234, 3) := by decide +kernel
theorem dX5_cycles_27 : decode cX5_cycles 27 = .ok (.ireturn, 1) := by decide +kernel
set_option maxRecDepth 20000 in
theorem ggX5_cyclesAnew_X5_layerAt : GoodIn wsX5_cyclesAnew wsX5_layerAt := goodIn_ca (goodIn_r _ [6, 7, 8, 9, 64, 65, 66, 67, 68, 69] (by decide +kernel) (by decide +kernel)) (goodIn_sub (fun _ h => List.mem_cons_of_mem _ (List.mem_append_left _ (List.mem_append_left _ (List.mem_append_right _ h)))) (by decide +kernel))
set_option maxRecDepth 20000 in
theorem gX5_cyclesAnew_X5_layerAt : GoodIn wsX5_cyclesAnew (wsV RX5 62 RX5 yX5_layerAt wsX5_layerAt) := goodIn_app (goodIn_of _ (by decide +kernel)) ggX5_cyclesAnew_X5_layerAt
set_option maxRecDepth 20000 in
theorem ggX5_cyclesAnew_X5_checkArgument : GoodIn wsX5_cyclesAnew wsX5_checkArgument := goodIn_ca (goodIn_r _ [12, 13, 14] (by decide +kernel) (by decide +kernel)) (goodIn_sub (fun _ h => List.mem_cons_of_mem _ (List.mem_append_left _ (List.mem_append_right _ h))) (by decide +kernel))
set_option maxRecDepth 20000 in
theorem gX5_cyclesAnew_X5_checkArgument : GoodIn wsX5_cyclesAnew (va_wsS RX5 49 yX5_checkArgument wsX5_checkArgument) := goodIn_app (goodIn_of _ (by decide +kernel)) ggX5_cyclesAnew_X5_checkArgument
set_option maxRecDepth 20000 in
theorem ggX5_cyclesAnew_X5_tellPipeline : GoodIn wsX5_cyclesAnew wsX5_tellPipeline := goodIn_ca (goodIn_r _ [18, 1, 19, 20, 21, 22, 23, 24, 25, 26, 27, 5, 28, 29, 30, 31, 32, 33, 34, 35, 36, 37, 38, 39, 40, 41, 42, 43, 44, 45, 46, 47, 48, 49, 64, 65, 66, 67, 68, 69, 70, 71, 72, 73, 74, 75, 76, 77, 78, 79, 80, 81, 82, 83, 84, 85, 86, 87, 88, 89, 90, 91, 92] (by decide +kernel) (by decide +kernel)) (goodIn_sub (fun _ h => List.mem_cons_of_mem _ (List.mem_append_right _ h)) (by decide +kernel))
set_option maxRecDepth 20000 in
theorem gX5_cyclesAnew_X5_tellPipeline : GoodIn wsX5_cyclesAnew (wsV RX5 231 RX5 yX5_tellPipeline wsX5_tellPipeline) := goodIn_app (goodIn_of _ (by decide +kernel)) ggX5_cyclesAnew_X5_tellPipeline
set_option maxRecDepth 20000 in
theorem ggX5_cyclesAnew_X1_cyclesCounted : GoodIn wsX5_cyclesAnew wsX1_cyclesCounted := goodIn_r _ [53, 25, 54, 55, 49, 56, 57, 58, 23, 59, 60, 61, 62, 63, 78, 79, 80] (by decide +kernel) (by decide +kernel)
set_option maxRecDepth 20000 in
theorem gX5_cyclesAnew_X1_cyclesCounted : GoodIn wsX5_cyclesAnew (wsV RX5 237 RX1 yX1_cyclesCounted wsX1_cyclesCounted) := goodIn_app (goodIn_of _ (by decide +kernel)) ggX5_cyclesAnew_X1_cyclesCounted
theorem dX5_cyclesAnew_0 : decode cX5_cyclesAnew 0 = .ok (.aload_n 0, 1) := by decide +kernel
theorem dX5_cyclesAnew_1 : decode cX5_cyclesAnew 1 = .ok (.iload_n 1, 1) := by decide +kernel
theorem dX5_cyclesAnew_2 : decode cX5_cyclesAnew 2 = .ok (.invokevirtual 62, 3) := by decide +kernel
theorem dX5_cyclesAnew_5 : decode cX5_cyclesAnew 5 = .ok (.astore_n 3, 1) := by decide +kernel
theorem dX5_cyclesAnew_6 : decode cX5_cyclesAnew 6 = .ok (.iload_n 2, 1) := by decide +kernel
theorem dX5_cyclesAnew_7 : decode cX5_cyclesAnew 7 = .ok (.iconst 1, 1) := by decide +kernel
theorem dX5_cyclesAnew_8 : decode cX5_cyclesAnew 8 = .ok (.sipush 1000, 3) := by decide +kernel
theorem dX5_cyclesAnew_11 : decode cX5_cyclesAnew 11 = .ok (.invokestatic 49, 3) := by decide +kernel
theorem dX5_cyclesAnew_14 : decode cX5_cyclesAnew 14 = .ok (.aload_n 0, 1) := by decide +kernel
theorem dX5_cyclesAnew_15 : decode cX5_cyclesAnew 15 = .ok (.aload_n 3, 1) := by decide +kernel
theorem dX5_cyclesAnew_16 : decode cX5_cyclesAnew 16 = .ok (.invokevirtual 231, 3) := by decide +kernel
theorem dX5_cyclesAnew_19 : decode cX5_cyclesAnew 19 = .ok (.aload_n 0, 1) := by decide +kernel
theorem dX5_cyclesAnew_20 : decode cX5_cyclesAnew 20 = .ok (.getfield 38, 3) := by decide +kernel
theorem dX5_cyclesAnew_23 : decode cX5_cyclesAnew 23 = .ok (.iload_n 2, 1) := by decide +kernel
theorem dX5_cyclesAnew_24 : decode cX5_cyclesAnew 24 = .ok (.invokevirtual 237, 3) := by decide +kernel
theorem dX5_cyclesAnew_27 : decode cX5_cyclesAnew 27 = .ok (.ireturn, 1) := by decide +kernel
set_option maxRecDepth 20000 in
theorem ggX5_wear_X5_tileAt : GoodIn wsX5_wear wsX5_tileAt := goodIn_ca (goodIn_r _ [6, 7, 8, 9, 22, 23, 24, 25, 26, 27] (by decide +kernel) (by decide +kernel)) (goodIn_sub (fun _ h => List.mem_cons_of_mem _ (List.mem_append_right _ h)) (by decide +kernel))
set_option maxRecDepth 20000 in
theorem gX5_wear_X5_tileAt : GoodIn wsX5_wear (wsV RX5 102 RX5 yX5_tileAt wsX5_tileAt) := goodIn_app (goodIn_of _ (by decide +kernel)) ggX5_wear_X5_tileAt
theorem dX5_wear_0 : decode cX5_wear 0 = .ok (.aload_n 0, 1) := by decide +kernel
theorem dX5_wear_1 : decode cX5_wear 1 = .ok (.iload_n 1, 1) := by decide +kernel
theorem dX5_wear_2 : decode cX5_wear 2 = .ok (.invokevirtual 102, 3) := by decide +kernel
theorem dX5_wear_5 : decode cX5_wear 5 = .ok (.astore_n 2, 1) := by decide +kernel
theorem dX5_wear_6 : decode cX5_wear 6 = .ok (.lconst 0, 1) := by decide +kernel
theorem dX5_wear_7 : decode cX5_wear 7 = .ok (.lstore_n 3, 1) := by decide +kernel
theorem dX5_wear_8 : decode cX5_wear 8 = .ok (.iconst 0, 1) := by decide +kernel
theorem dX5_wear_9 : decode cX5_wear 9 = .ok (.istore 5, 2) := by decide +kernel
theorem dX5_wear_11 : decode cX5_wear 11 = .ok (.iload 5, 2) := by decide +kernel
theorem dX5_wear_13 : decode cX5_wear 13 = .ok (.sipush 128, 3) := by decide +kernel
theorem dX5_wear_16 : decode cX5_wear 16 = .ok (.if_icmp .ge 20, 3) := by decide +kernel
theorem dX5_wear_19 : decode cX5_wear 19 = .ok (.lload_n 3, 1) := by decide +kernel
theorem dX5_wear_20 : decode cX5_wear 20 = .ok (.aload_n 2, 1) := by decide +kernel
theorem dX5_wear_21 : decode cX5_wear 21 = .ok (.getfield 190, 3) := by decide +kernel
theorem dX5_wear_24 : decode cX5_wear 24 = .ok (.iload 5, 2) := by decide +kernel
theorem dX5_wear_26 : decode cX5_wear 26 = .ok (.iaload, 1) := by decide +kernel
theorem dX5_wear_27 : decode cX5_wear 27 = .ok (.i2l, 1) := by decide +kernel
theorem dX5_wear_28 : decode cX5_wear 28 = .ok (.ladd, 1) := by decide +kernel
theorem dX5_wear_29 : decode cX5_wear 29 = .ok (.lstore_n 3, 1) := by decide +kernel
theorem dX5_wear_30 : decode cX5_wear 30 = .ok (.iinc 5 1, 3) := by decide +kernel
theorem dX5_wear_33 : decode cX5_wear 33 = .ok (.goto (-22), 3) := by decide +kernel
theorem dX5_wear_36 : decode cX5_wear 36 = .ok (.lload_n 3, 1) := by decide +kernel
theorem dX5_wear_37 : decode cX5_wear 37 = .ok (.lreturn, 1) := by decide +kernel
set_option maxRecDepth 20000 in
theorem ggX5_share_X5_tileAt : GoodIn wsX5_share wsX5_tileAt := goodIn_ca (goodIn_r _ [7, 8, 9, 10, 23, 24, 25, 26, 27, 28] (by decide +kernel) (by decide +kernel)) (goodIn_sub (fun _ h => List.mem_cons_of_mem _ (List.mem_append_right _ h)) (by decide +kernel))
set_option maxRecDepth 20000 in
theorem gX5_share_X5_tileAt : GoodIn wsX5_share (wsV RX5 102 RX5 yX5_tileAt wsX5_tileAt) := goodIn_app (goodIn_of _ (by decide +kernel)) ggX5_share_X5_tileAt
theorem dX5_share_0 : decode cX5_share 0 = .ok (.aload_n 0, 1) := by decide +kernel
theorem dX5_share_1 : decode cX5_share 1 = .ok (.iload_n 1, 1) := by decide +kernel
theorem dX5_share_2 : decode cX5_share 2 = .ok (.invokevirtual 102, 3) := by decide +kernel
theorem dX5_share_5 : decode cX5_share 5 = .ok (.astore_n 2, 1) := by decide +kernel
theorem dX5_share_6 : decode cX5_share 6 = .ok (.iconst 0, 1) := by decide +kernel
theorem dX5_share_7 : decode cX5_share 7 = .ok (.istore_n 3, 1) := by decide +kernel
theorem dX5_share_8 : decode cX5_share 8 = .ok (.iconst 0, 1) := by decide +kernel
theorem dX5_share_9 : decode cX5_share 9 = .ok (.istore 4, 2) := by decide +kernel
theorem dX5_share_11 : decode cX5_share 11 = .ok (.iload 4, 2) := by decide +kernel
theorem dX5_share_13 : decode cX5_share 13 = .ok (.sipush 128, 3) := by decide +kernel
theorem dX5_share_16 : decode cX5_share 16 = .ok (.if_icmp .ge 27, 3) := by decide +kernel
theorem dX5_share_19 : decode cX5_share 19 = .ok (.iload_n 3, 1) := by decide +kernel
theorem dX5_share_20 : decode cX5_share 20 = .ok (.aload_n 2, 1) := by decide +kernel
theorem dX5_share_21 : decode cX5_share 21 = .ok (.getfield 193, 3) := by decide +kernel
theorem dX5_share_24 : decode cX5_share 24 = .ok (.iload 4, 2) := by decide +kernel
theorem dX5_share_26 : decode cX5_share 26 = .ok (.baload, 1) := by decide +kernel
theorem dX5_share_27 : decode cX5_share 27 = .ok (.ifCond .eq 7, 3) := by decide +kernel
theorem dX5_share_30 : decode cX5_share 30 = .ok (.iconst 1, 1) := by decide +kernel
theorem dX5_share_31 : decode cX5_share 31 = .ok (.goto 4, 3) := by decide +kernel
theorem dX5_share_34 : decode cX5_share 34 = .ok (.iconst 0, 1) := by decide +kernel
theorem dX5_share_35 : decode cX5_share 35 = .ok (.iadd, 1) := by decide +kernel
theorem dX5_share_36 : decode cX5_share 36 = .ok (.istore_n 3, 1) := by decide +kernel
theorem dX5_share_37 : decode cX5_share 37 = .ok (.iinc 4 1, 3) := by decide +kernel
theorem dX5_share_40 : decode cX5_share 40 = .ok (.goto (-29), 3) := by decide +kernel
theorem dX5_share_43 : decode cX5_share 43 = .ok (.iload_n 3, 1) := by decide +kernel
theorem dX5_share_44 : decode cX5_share 44 = .ok (.i2f, 1) := by decide +kernel
theorem dX5_share_45 : decode cX5_share 45 = .ok (.ldc 240, 2) := by decide +kernel
theorem dX5_share_47 : decode cX5_share 47 = .ok (.fdiv, 1) := by decide +kernel
theorem dX5_share_48 : decode cX5_share 48 = .ok (.freturn, 1) := by decide +kernel
theorem dX5_hour_0 : decode cX5_hour 0 = .ok (.aload_n 0, 1) := by decide +kernel
theorem dX5_hour_1 : decode cX5_hour 1 = .ok (.getfield 12, 3) := by decide +kernel
theorem dX5_hour_4 : decode cX5_hour 4 = .ok (.getfield 151, 3) := by decide +kernel
theorem dX5_hour_7 : decode cX5_hour 7 = .ok (.ireturn, 1) := by decide +kernel
theorem dX5_layerAt_0 : decode cX5_layerAt 0 = .ok (.iload_n 1, 1) := by decide +kernel
theorem dX5_layerAt_1 : decode cX5_layerAt 1 = .ok (.ifCond .lt 18, 3) := by decide +kernel
theorem dX5_layerAt_4 : decode cX5_layerAt 4 = .ok (.iload_n 1, 1) := by decide +kernel
theorem dX5_layerAt_5 : decode cX5_layerAt 5 = .ok (.bipush 6, 2) := by decide +kernel
theorem dX5_layerAt_7 : decode cX5_layerAt 7 = .ok (.if_icmp .ge 12, 3) := by decide +kernel
theorem dX5_layerAt_10 : decode cX5_layerAt 10 = .ok (.aload_n 0, 1) := by decide +kernel
theorem dX5_layerAt_11 : decode cX5_layerAt 11 = .ok (.getfield 24, 3) := by decide +kernel
theorem dX5_layerAt_14 : decode cX5_layerAt 14 = .ok (.iload_n 1, 1) := by decide +kernel
theorem dX5_layerAt_15 : decode cX5_layerAt 15 = .ok (.aaload, 1) := by decide +kernel
theorem dX5_layerAt_16 : decode cX5_layerAt 16 = .ok (.ifnonnull 13, 3) := by decide +kernel
theorem dX5_layerAt_19 : decode cX5_layerAt 19 = .ok (.new 241, 3) := by decide +kernel
theorem dX5_layerAt_22 : decode cX5_layerAt 22 = .ok (.dup, 1) := by decide +kernel
theorem dX5_layerAt_23 : decode cX5_layerAt 23 = .ok (.ldc 243, 2) := by decide +kernel
theorem dX5_layerAt_25 : decode cX5_layerAt 25 = .ok (.invokespecial 245, 3) := by decide +kernel
theorem dX5_layerAt_28 : decode cX5_layerAt 28 = .ok (.athrow, 1) := by decide +kernel
theorem dX5_layerAt_29 : decode cX5_layerAt 29 = .ok (.aload_n 0, 1) := by decide +kernel
theorem dX5_layerAt_30 : decode cX5_layerAt 30 = .ok (.getfield 24, 3) := by decide +kernel
theorem dX5_layerAt_33 : decode cX5_layerAt 33 = .ok (.iload_n 1, 1) := by decide +kernel
theorem dX5_layerAt_34 : decode cX5_layerAt 34 = .ok (.aaload, 1) := by decide +kernel
theorem dX5_layerAt_35 : decode cX5_layerAt 35 = .ok (.areturn, 1) := by decide +kernel
theorem dX5_tileAt_0 : decode cX5_tileAt 0 = .ok (.iload_n 1, 1) := by decide +kernel
theorem dX5_tileAt_1 : decode cX5_tileAt 1 = .ok (.ifCond .lt 9, 3) := by decide +kernel
theorem dX5_tileAt_4 : decode cX5_tileAt 4 = .ok (.iload_n 1, 1) := by decide +kernel
theorem dX5_tileAt_5 : decode cX5_tileAt 5 = .ok (.bipush 6, 2) := by decide +kernel
theorem dX5_tileAt_7 : decode cX5_tileAt 7 = .ok (.if_icmp .lt 13, 3) := by decide +kernel
theorem dX5_tileAt_10 : decode cX5_tileAt 10 = .ok (.new 241, 3) := by decide +kernel
theorem dX5_tileAt_13 : decode cX5_tileAt 13 = .ok (.dup, 1) := by decide +kernel
theorem dX5_tileAt_14 : decode cX5_tileAt 14 = .ok (.ldc 246, 2) := by decide +kernel
theorem dX5_tileAt_16 : decode cX5_tileAt 16 = .ok (.invokespecial 245, 3) := by decide +kernel
theorem dX5_tileAt_19 : decode cX5_tileAt 19 = .ok (.athrow, 1) := by decide +kernel
theorem dX5_tileAt_20 : decode cX5_tileAt 20 = .ok (.aload_n 0, 1) := by decide +kernel
theorem dX5_tileAt_21 : decode cX5_tileAt 21 = .ok (.getfield 18, 3) := by decide +kernel
theorem dX5_tileAt_24 : decode cX5_tileAt 24 = .ok (.iload_n 1, 1) := by decide +kernel
theorem dX5_tileAt_25 : decode cX5_tileAt 25 = .ok (.aaload, 1) := by decide +kernel
theorem dX5_tileAt_26 : decode cX5_tileAt 26 = .ok (.areturn, 1) := by decide +kernel
theorem dX5_groundOf_0 : decode cX5_groundOf 0 = .ok (.aload_n 0, 1) := by decide +kernel
theorem dX5_groundOf_1 : decode cX5_groundOf 1 = .ok (.getfield 106, 3) := by decide +kernel
theorem dX5_groundOf_4 : decode cX5_groundOf 4 = .ok (.ifnonnull 13, 3) := by decide +kernel
theorem dX5_groundOf_7 : decode cX5_groundOf 7 = .ok (.new 53, 3) := by decide +kernel
theorem dX5_groundOf_10 : decode cX5_groundOf 10 = .ok (.dup, 1) := by decide +kernel
theorem dX5_groundOf_11 : decode cX5_groundOf 11 = .ok (.ldc 248, 2) := by decide +kernel
theorem dX5_groundOf_13 : decode cX5_groundOf 13 = .ok (.invokespecial 57, 3) := by decide +kernel
theorem dX5_groundOf_16 : decode cX5_groundOf 16 = .ok (.athrow, 1) := by decide +kernel
theorem dX5_groundOf_17 : decode cX5_groundOf 17 = .ok (.aload_n 0, 1) := by decide +kernel
theorem dX5_groundOf_18 : decode cX5_groundOf 18 = .ok (.getfield 106, 3) := by decide +kernel
theorem dX5_groundOf_21 : decode cX5_groundOf 21 = .ok (.areturn, 1) := by decide +kernel
theorem dX5_checkIndex_0 : decode cX5_checkIndex 0 = .ok (.iload_n 0, 1) := by decide +kernel
theorem dX5_checkIndex_1 : decode cX5_checkIndex 1 = .ok (.ifCond .lt 8, 3) := by decide +kernel
theorem dX5_checkIndex_4 : decode cX5_checkIndex 4 = .ok (.iload_n 0, 1) := by decide +kernel
theorem dX5_checkIndex_5 : decode cX5_checkIndex 5 = .ok (.iload_n 1, 1) := by decide +kernel
theorem dX5_checkIndex_6 : decode cX5_checkIndex 6 = .ok (.if_icmp .lt 13, 3) := by decide +kernel
theorem dX5_checkIndex_9 : decode cX5_checkIndex 9 = .ok (.new 241, 3) := by decide +kernel
theorem dX5_checkIndex_12 : decode cX5_checkIndex 12 = .ok (.dup, 1) := by decide +kernel
theorem dX5_checkIndex_13 : decode cX5_checkIndex 13 = .ok (.ldc 250, 2) := by decide +kernel
theorem dX5_checkIndex_15 : decode cX5_checkIndex 15 = .ok (.invokespecial 245, 3) := by decide +kernel
theorem dX5_checkIndex_18 : decode cX5_checkIndex 18 = .ok (.athrow, 1) := by decide +kernel
theorem dX5_checkIndex_19 : decode cX5_checkIndex 19 = .ok (.return_, 1) := by decide +kernel
theorem dX5_checkArgument_0 : decode cX5_checkArgument 0 = .ok (.iload_n 0, 1) := by decide +kernel
theorem dX5_checkArgument_1 : decode cX5_checkArgument 1 = .ok (.iload_n 1, 1) := by decide +kernel
theorem dX5_checkArgument_2 : decode cX5_checkArgument 2 = .ok (.if_icmp .lt 8, 3) := by decide +kernel
theorem dX5_checkArgument_5 : decode cX5_checkArgument 5 = .ok (.iload_n 0, 1) := by decide +kernel
theorem dX5_checkArgument_6 : decode cX5_checkArgument 6 = .ok (.iload_n 2, 1) := by decide +kernel
theorem dX5_checkArgument_7 : decode cX5_checkArgument 7 = .ok (.if_icmp .le 13, 3) := by decide +kernel
theorem dX5_checkArgument_10 : decode cX5_checkArgument 10 = .ok (.new 90, 3) := by decide +kernel
theorem dX5_checkArgument_13 : decode cX5_checkArgument 13 = .ok (.dup, 1) := by decide +kernel
theorem dX5_checkArgument_14 : decode cX5_checkArgument 14 = .ok (.ldc 252, 2) := by decide +kernel
theorem dX5_checkArgument_16 : decode cX5_checkArgument 16 = .ok (.invokespecial 94, 3) := by decide +kernel
theorem dX5_checkArgument_19 : decode cX5_checkArgument 19 = .ok (.athrow, 1) := by decide +kernel
theorem dX5_checkArgument_20 : decode cX5_checkArgument 20 = .ok (.return_, 1) := by decide +kernel
theorem dX5_indexOf_0 : decode cX5_indexOf 0 = .ok (.iload_n 0, 1) := by decide +kernel
theorem dX5_indexOf_1 : decode cX5_indexOf 1 = .ok (.bipush 16, 2) := by decide +kernel
theorem dX5_indexOf_3 : decode cX5_indexOf 3 = .ok (.imul, 1) := by decide +kernel
theorem dX5_indexOf_4 : decode cX5_indexOf 4 = .ok (.iload_n 1, 1) := by decide +kernel
theorem dX5_indexOf_5 : decode cX5_indexOf 5 = .ok (.iadd, 1) := by decide +kernel
theorem dX5_indexOf_6 : decode cX5_indexOf 6 = .ok (.ireturn, 1) := by decide +kernel
theorem dX5_inputOf_0 : decode cX5_inputOf 0 = .ok (.lload_n 0, 1) := by decide +kernel
theorem dX5_inputOf_1 : decode cX5_inputOf 1 = .ok (.bipush 8, 2) := by decide +kernel
theorem dX5_inputOf_3 : decode cX5_inputOf 3 = .ok (.iload_n 2, 1) := by decide +kernel
theorem dX5_inputOf_4 : decode cX5_inputOf 4 = .ok (.imul, 1) := by decide +kernel
theorem dX5_inputOf_5 : decode cX5_inputOf 5 = .ok (.lshr, 1) := by decide +kernel
theorem dX5_inputOf_6 : decode cX5_inputOf 6 = .ok (.l2i, 1) := by decide +kernel
theorem dX5_inputOf_7 : decode cX5_inputOf 7 = .ok (.sipush 255, 3) := by decide +kernel
theorem dX5_inputOf_10 : decode cX5_inputOf 10 = .ok (.iand, 1) := by decide +kernel
theorem dX5_inputOf_11 : decode cX5_inputOf 11 = .ok (.ireturn, 1) := by decide +kernel
theorem dX5_quotient_0 : decode cX5_quotient 0 = .ok (.iload_n 1, 1) := by decide +kernel
theorem dX5_quotient_1 : decode cX5_quotient 1 = .ok (.iconst 1, 1) := by decide +kernel
theorem dX5_quotient_2 : decode cX5_quotient 2 = .ok (.if_icmp .ge 7, 3) := by decide +kernel
theorem dX5_quotient_5 : decode cX5_quotient 5 = .ok (.iconst 0, 1) := by decide +kernel
theorem dX5_quotient_6 : decode cX5_quotient 6 = .ok (.goto 6, 3) := by decide +kernel
theorem dX5_quotient_9 : decode cX5_quotient 9 = .ok (.iload_n 0, 1) := by decide +kernel
theorem dX5_quotient_10 : decode cX5_quotient 10 = .ok (.iload_n 1, 1) := by decide +kernel
theorem dX5_quotient_11 : decode cX5_quotient 11 = .ok (.idiv, 1) := by decide +kernel
theorem dX5_quotient_12 : decode cX5_quotient 12 = .ok (.ireturn, 1) := by decide +kernel
theorem dX5_drawBehind_0 : decode cX5_drawBehind 0 = .ok (.sipush 25173, 3) := by decide +kernel
theorem dX5_drawBehind_3 : decode cX5_drawBehind 3 = .ok (.iload_n 0, 1) := by decide +kernel
theorem dX5_drawBehind_4 : decode cX5_drawBehind 4 = .ok (.imul, 1) := by decide +kernel
theorem dX5_drawBehind_5 : decode cX5_drawBehind 5 = .ok (.sipush 13849, 3) := by decide +kernel
theorem dX5_drawBehind_8 : decode cX5_drawBehind 8 = .ok (.iadd, 1) := by decide +kernel
theorem dX5_drawBehind_9 : decode cX5_drawBehind 9 = .ok (.ldc 254, 2) := by decide +kernel
theorem dX5_drawBehind_11 : decode cX5_drawBehind 11 = .ok (.irem, 1) := by decide +kernel
theorem dX5_drawBehind_12 : decode cX5_drawBehind 12 = .ok (.ireturn, 1) := by decide +kernel
set_option maxRecDepth 20000 in
theorem ggX5_tellPipeline_X1_clear : GoodIn wsX5_tellPipeline wsX1_clear := goodIn_r _ [7, 8, 48, 49, 50] (by decide +kernel) (by decide +kernel)
set_option maxRecDepth 20000 in
theorem gX5_tellPipeline_X1_clear : GoodIn wsX5_tellPipeline (wsV RX5 263 RX1 yX1_clear wsX1_clear) := goodIn_app (goodIn_of _ (by decide +kernel)) ggX5_tellPipeline_X1_clear
set_option maxRecDepth 20000 in
theorem ggX5_tellPipeline_X5_groundOf : GoodIn wsX5_tellPipeline wsX5_groundOf := goodIn_ca (goodIn_r _ [12, 13, 14, 15, 40, 41, 42, 43, 44, 45, 46, 47] (by decide +kernel) (by decide +kernel)) (goodIn_sub (fun _ h => List.mem_cons_of_mem _ (List.mem_append_right _ h)) (by decide +kernel))
set_option maxRecDepth 20000 in
theorem gX5_tellPipeline_X5_groundOf : GoodIn wsX5_tellPipeline (va_wsS RX5 128 yX5_groundOf wsX5_groundOf) := goodIn_app (goodIn_of _ (by decide +kernel)) ggX5_tellPipeline_X5_groundOf
set_option maxRecDepth 20000 in
theorem ggX5_tellPipeline_X0_cyclesOn : GoodIn wsX5_tellPipeline wsX0_cyclesOn := goodIn_r _ [20, 21, 22, 23, 24, 19, 25, 26, 27, 11, 28, 51, 52, 53, 54, 55, 56, 57, 58, 59, 60, 61, 62, 40, 41, 42, 43, 44, 45, 46, 47] (by decide +kernel) (by decide +kernel)
set_option maxRecDepth 20000 in
theorem gX5_tellPipeline_X0_cyclesOn : GoodIn wsX5_tellPipeline (wsV RX5 266 RX0 yX0_cyclesOn wsX0_cyclesOn) := goodIn_app (goodIn_of _ (by decide +kernel)) ggX5_tellPipeline_X0_cyclesOn
set_option maxRecDepth 20000 in
theorem ggX5_tellPipeline_X1_add : GoodIn wsX5_tellPipeline wsX1_add := goodIn_r _ [32, 8, 33, 48, 49, 50] (by decide +kernel) (by decide +kernel)
set_option maxRecDepth 20000 in
theorem gX5_tellPipeline_X1_add : GoodIn wsX5_tellPipeline (wsV RX5 270 RX1 yX1_add wsX1_add) := goodIn_app (goodIn_of _ (by decide +kernel)) ggX5_tellPipeline_X1_add
theorem dX5_tellPipeline_0 : decode cX5_tellPipeline 0 = .ok (.aload_n 0, 1) := by decide +kernel
theorem dX5_tellPipeline_1 : decode cX5_tellPipeline 1 = .ok (.getfield 38, 3) := by decide +kernel
theorem dX5_tellPipeline_4 : decode cX5_tellPipeline 4 = .ok (.invokevirtual 263, 3) := by decide +kernel
theorem dX5_tellPipeline_7 : decode cX5_tellPipeline 7 = .ok (.aload_n 1, 1) := by decide +kernel
theorem dX5_tellPipeline_8 : decode cX5_tellPipeline 8 = .ok (.astore_n 2, 1) := by decide +kernel
theorem dX5_tellPipeline_9 : decode cX5_tellPipeline 9 = .ok (.aload_n 2, 1) := by decide +kernel
theorem dX5_tellPipeline_10 : decode cX5_tellPipeline 10 = .ok (.ifnull 26, 3) := by decide +kernel
theorem dX5_tellPipeline_13 : decode cX5_tellPipeline 13 = .ok (.aload_n 0, 1) := by decide +kernel
theorem dX5_tellPipeline_14 : decode cX5_tellPipeline 14 = .ok (.getfield 38, 3) := by decide +kernel
theorem dX5_tellPipeline_17 : decode cX5_tellPipeline 17 = .ok (.aload_n 2, 1) := by decide +kernel
theorem dX5_tellPipeline_18 : decode cX5_tellPipeline 18 = .ok (.aload_n 2, 1) := by decide +kernel
theorem dX5_tellPipeline_19 : decode cX5_tellPipeline 19 = .ok (.invokestatic 128, 3) := by decide +kernel
theorem dX5_tellPipeline_22 : decode cX5_tellPipeline 22 = .ok (.invokevirtual 266, 3) := by decide +kernel
theorem dX5_tellPipeline_25 : decode cX5_tellPipeline 25 = .ok (.invokevirtual 270, 3) := by decide +kernel
theorem dX5_tellPipeline_28 : decode cX5_tellPipeline 28 = .ok (.aload_n 2, 1) := by decide +kernel
theorem dX5_tellPipeline_29 : decode cX5_tellPipeline 29 = .ok (.getfield 95, 3) := by decide +kernel
theorem dX5_tellPipeline_32 : decode cX5_tellPipeline 32 = .ok (.astore_n 2, 1) := by decide +kernel
theorem dX5_tellPipeline_33 : decode cX5_tellPipeline 33 = .ok (.goto (-24), 3) := by decide +kernel
theorem dX5_tellPipeline_36 : decode cX5_tellPipeline 36 = .ok (.return_, 1) := by decide +kernel
theorem dJ6_bitCount_0f7a4_0 : decode cJ6_bitCount_0f7a4 0 = .ok (.iload_n 0, 1) := by decide +kernel
theorem dJ6_bitCount_0f7a4_1 : decode cJ6_bitCount_0f7a4 1 = .ok (.iload_n 0, 1) := by decide +kernel
theorem dJ6_bitCount_0f7a4_2 : decode cJ6_bitCount_0f7a4 2 = .ok (.iconst 1, 1) := by decide +kernel
theorem dJ6_bitCount_0f7a4_3 : decode cJ6_bitCount_0f7a4 3 = .ok (.iushr, 1) := by decide +kernel
theorem dJ6_bitCount_0f7a4_4 : decode cJ6_bitCount_0f7a4 4 = .ok (.ldc_w 265, 3) := by decide +kernel
theorem dJ6_bitCount_0f7a4_7 : decode cJ6_bitCount_0f7a4 7 = .ok (.iand, 1) := by decide +kernel
theorem dJ6_bitCount_0f7a4_8 : decode cJ6_bitCount_0f7a4 8 = .ok (.isub, 1) := by decide +kernel
theorem dJ6_bitCount_0f7a4_9 : decode cJ6_bitCount_0f7a4 9 = .ok (.istore_n 0, 1) := by decide +kernel
theorem dJ6_bitCount_0f7a4_10 : decode cJ6_bitCount_0f7a4 10 = .ok (.iload_n 0, 1) := by decide +kernel
theorem dJ6_bitCount_0f7a4_11 : decode cJ6_bitCount_0f7a4 11 = .ok (.ldc_w 266, 3) := by decide +kernel
theorem dJ6_bitCount_0f7a4_14 : decode cJ6_bitCount_0f7a4 14 = .ok (.iand, 1) := by decide +kernel
theorem dJ6_bitCount_0f7a4_15 : decode cJ6_bitCount_0f7a4 15 = .ok (.iload_n 0, 1) := by decide +kernel
theorem dJ6_bitCount_0f7a4_16 : decode cJ6_bitCount_0f7a4 16 = .ok (.iconst 2, 1) := by decide +kernel
theorem dJ6_bitCount_0f7a4_17 : decode cJ6_bitCount_0f7a4 17 = .ok (.iushr, 1) := by decide +kernel
theorem dJ6_bitCount_0f7a4_18 : decode cJ6_bitCount_0f7a4 18 = .ok (.ldc_w 266, 3) := by decide +kernel
theorem dJ6_bitCount_0f7a4_21 : decode cJ6_bitCount_0f7a4 21 = .ok (.iand, 1) := by decide +kernel
theorem dJ6_bitCount_0f7a4_22 : decode cJ6_bitCount_0f7a4 22 = .ok (.iadd, 1) := by decide +kernel
theorem dJ6_bitCount_0f7a4_23 : decode cJ6_bitCount_0f7a4 23 = .ok (.istore_n 0, 1) := by decide +kernel
theorem dJ6_bitCount_0f7a4_24 : decode cJ6_bitCount_0f7a4 24 = .ok (.iload_n 0, 1) := by decide +kernel
theorem dJ6_bitCount_0f7a4_25 : decode cJ6_bitCount_0f7a4 25 = .ok (.iload_n 0, 1) := by decide +kernel
theorem dJ6_bitCount_0f7a4_26 : decode cJ6_bitCount_0f7a4 26 = .ok (.iconst 4, 1) := by decide +kernel
theorem dJ6_bitCount_0f7a4_27 : decode cJ6_bitCount_0f7a4 27 = .ok (.iushr, 1) := by decide +kernel
theorem dJ6_bitCount_0f7a4_28 : decode cJ6_bitCount_0f7a4 28 = .ok (.iadd, 1) := by decide +kernel
theorem dJ6_bitCount_0f7a4_29 : decode cJ6_bitCount_0f7a4 29 = .ok (.ldc_w 267, 3) := by decide +kernel
theorem dJ6_bitCount_0f7a4_32 : decode cJ6_bitCount_0f7a4 32 = .ok (.iand, 1) := by decide +kernel
theorem dJ6_bitCount_0f7a4_33 : decode cJ6_bitCount_0f7a4 33 = .ok (.istore_n 0, 1) := by decide +kernel
theorem dJ6_bitCount_0f7a4_34 : decode cJ6_bitCount_0f7a4 34 = .ok (.iload_n 0, 1) := by decide +kernel
theorem dJ6_bitCount_0f7a4_35 : decode cJ6_bitCount_0f7a4 35 = .ok (.iload_n 0, 1) := by decide +kernel
theorem dJ6_bitCount_0f7a4_36 : decode cJ6_bitCount_0f7a4 36 = .ok (.bipush 8, 2) := by decide +kernel
theorem dJ6_bitCount_0f7a4_38 : decode cJ6_bitCount_0f7a4 38 = .ok (.iushr, 1) := by decide +kernel
theorem dJ6_bitCount_0f7a4_39 : decode cJ6_bitCount_0f7a4 39 = .ok (.iadd, 1) := by decide +kernel
theorem dJ6_bitCount_0f7a4_40 : decode cJ6_bitCount_0f7a4 40 = .ok (.istore_n 0, 1) := by decide +kernel
theorem dJ6_bitCount_0f7a4_41 : decode cJ6_bitCount_0f7a4 41 = .ok (.iload_n 0, 1) := by decide +kernel
theorem dJ6_bitCount_0f7a4_42 : decode cJ6_bitCount_0f7a4 42 = .ok (.iload_n 0, 1) := by decide +kernel
theorem dJ6_bitCount_0f7a4_43 : decode cJ6_bitCount_0f7a4 43 = .ok (.bipush 16, 2) := by decide +kernel
theorem dJ6_bitCount_0f7a4_45 : decode cJ6_bitCount_0f7a4 45 = .ok (.iushr, 1) := by decide +kernel
theorem dJ6_bitCount_0f7a4_46 : decode cJ6_bitCount_0f7a4 46 = .ok (.iadd, 1) := by decide +kernel
theorem dJ6_bitCount_0f7a4_47 : decode cJ6_bitCount_0f7a4 47 = .ok (.istore_n 0, 1) := by decide +kernel
theorem dJ6_bitCount_0f7a4_48 : decode cJ6_bitCount_0f7a4 48 = .ok (.iload_n 0, 1) := by decide +kernel
theorem dJ6_bitCount_0f7a4_49 : decode cJ6_bitCount_0f7a4 49 = .ok (.bipush 63, 2) := by decide +kernel
theorem dJ6_bitCount_0f7a4_51 : decode cJ6_bitCount_0f7a4 51 = .ok (.iand, 1) := by decide +kernel
theorem dJ6_bitCount_0f7a4_52 : decode cJ6_bitCount_0f7a4 52 = .ok (.ireturn, 1) := by decide +kernel
theorem dJ9_max_7cf53_0 : decode cJ9_max_7cf53 0 = .ok (.iload_n 0, 1) := by decide +kernel
theorem dJ9_max_7cf53_1 : decode cJ9_max_7cf53 1 = .ok (.iload_n 1, 1) := by decide +kernel
theorem dJ9_max_7cf53_2 : decode cJ9_max_7cf53 2 = .ok (.if_icmp .lt 7, 3) := by decide +kernel
theorem dJ9_max_7cf53_5 : decode cJ9_max_7cf53 5 = .ok (.iload_n 0, 1) := by decide +kernel
theorem dJ9_max_7cf53_6 : decode cJ9_max_7cf53 6 = .ok (.goto 4, 3) := by decide +kernel
theorem dJ9_max_7cf53_9 : decode cJ9_max_7cf53 9 = .ok (.iload_n 1, 1) := by decide +kernel
theorem dJ9_max_7cf53_10 : decode cJ9_max_7cf53 10 = .ok (.ireturn, 1) := by decide +kernel
theorem dJ9_min_7cf53_0 : decode cJ9_min_7cf53 0 = .ok (.iload_n 0, 1) := by decide +kernel
theorem dJ9_min_7cf53_1 : decode cJ9_min_7cf53 1 = .ok (.iload_n 1, 1) := by decide +kernel
theorem dJ9_min_7cf53_2 : decode cJ9_min_7cf53 2 = .ok (.if_icmp .gt 7, 3) := by decide +kernel
theorem dJ9_min_7cf53_5 : decode cJ9_min_7cf53 5 = .ok (.iload_n 0, 1) := by decide +kernel
theorem dJ9_min_7cf53_6 : decode cJ9_min_7cf53 6 = .ok (.goto 4, 3) := by decide +kernel
theorem dJ9_min_7cf53_9 : decode cJ9_min_7cf53 9 = .ok (.iload_n 1, 1) := by decide +kernel
theorem dJ9_min_7cf53_10 : decode cJ9_min_7cf53 10 = .ok (.ireturn, 1) := by decide +kernel
end
section
theorem dL_cell_0 : decode cL_cell 0 = .ok (.iload_n 1, 1) := by decide +kernel
theorem dL_cell_1 : decode cL_cell 1 = .ok (.aload_n 0, 1) := by decide +kernel
theorem dL_cell_2 : decode cL_cell 2 = .ok (.arraylength, 1) := by decide +kernel
theorem dL_cell_3 : decode cL_cell 3 = .ok (.if_icmp .ge 9, 3) := by decide +kernel
theorem dL_cell_6 : decode cL_cell 6 = .ok (.aload_n 0, 1) := by decide +kernel
theorem dL_cell_7 : decode cL_cell 7 = .ok (.iload_n 1, 1) := by decide +kernel
theorem dL_cell_8 : decode cL_cell 8 = .ok (.iaload, 1) := by decide +kernel
theorem dL_cell_9 : decode cL_cell 9 = .ok (.goto 15, 3) := by decide +kernel
theorem dL_cell_12 : decode cL_cell 12 = .ok (.sipush 7919, 3) := by decide +kernel
theorem dL_cell_15 : decode cL_cell 15 = .ok (.iload_n 1, 1) := by decide +kernel
theorem dL_cell_16 : decode cL_cell 16 = .ok (.iconst 3, 1) := by decide +kernel
theorem dL_cell_17 : decode cL_cell 17 = .ok (.iadd, 1) := by decide +kernel
theorem dL_cell_18 : decode cL_cell 18 = .ok (.imul, 1) := by decide +kernel
theorem dL_cell_19 : decode cL_cell 19 = .ok (.iload_n 1, 1) := by decide +kernel
theorem dL_cell_20 : decode cL_cell 20 = .ok (.bipush 11, 2) := by decide +kernel
theorem dL_cell_22 : decode cL_cell 22 = .ok (.iadd, 1) := by decide +kernel
theorem dL_cell_23 : decode cL_cell 23 = .ok (.imul, 1) := by decide +kernel
theorem dL_cell_24 : decode cL_cell 24 = .ok (.ireturn, 1) := by decide +kernel
theorem dL_low_0 : decode cL_low 0 = .ok (.iload_n 0, 1) := by decide +kernel
theorem dL_low_1 : decode cL_low 1 = .ok (.ldc 7, 2) := by decide +kernel
theorem dL_low_3 : decode cL_low 3 = .ok (.iand, 1) := by decide +kernel
theorem dL_low_4 : decode cL_low 4 = .ok (.iload_n 1, 1) := by decide +kernel
theorem dL_low_5 : decode cL_low 5 = .ok (.irem, 1) := by decide +kernel
theorem dL_low_6 : decode cL_low 6 = .ok (.ireturn, 1) := by decide +kernel
theorem dL_needs_0 : decode cL_needs 0 = .ok (.iload_n 0, 1) := by decide +kernel
theorem dL_needs_1 : decode cL_needs 1 = .ok (.ifCond .ge 8, 3) := by decide +kernel
theorem dL_needs_4 : decode cL_needs 4 = .ok (.iload_n 0, 1) := by decide +kernel
theorem dL_needs_5 : decode cL_needs 5 = .ok (.ineg, 1) := by decide +kernel
theorem dL_needs_6 : decode cL_needs 6 = .ok (.goto 4, 3) := by decide +kernel
theorem dL_needs_9 : decode cL_needs 9 = .ok (.iload_n 0, 1) := by decide +kernel
theorem dL_needs_10 : decode cL_needs 10 = .ok (.istore_n 2, 1) := by decide +kernel
theorem dL_needs_11 : decode cL_needs 11 = .ok (.iload_n 0, 1) := by decide +kernel
theorem dL_needs_12 : decode cL_needs 12 = .ok (.ifCond .ge 7, 3) := by decide +kernel
theorem dL_needs_15 : decode cL_needs 15 = .ok (.iconst 1, 1) := by decide +kernel
theorem dL_needs_16 : decode cL_needs 16 = .ok (.goto 4, 3) := by decide +kernel
theorem dL_needs_19 : decode cL_needs 19 = .ok (.iconst 0, 1) := by decide +kernel
theorem dL_needs_20 : decode cL_needs 20 = .ok (.iload_n 1, 1) := by decide +kernel
theorem dL_needs_21 : decode cL_needs 21 = .ok (.iconst 2, 1) := by decide +kernel
theorem dL_needs_22 : decode cL_needs 22 = .ok (.if_icmp .ge 7, 3) := by decide +kernel
theorem dL_needs_25 : decode cL_needs 25 = .ok (.iconst 1, 1) := by decide +kernel
theorem dL_needs_26 : decode cL_needs 26 = .ok (.goto 4, 3) := by decide +kernel
theorem dL_needs_29 : decode cL_needs 29 = .ok (.iconst 0, 1) := by decide +kernel
theorem dL_needs_30 : decode cL_needs 30 = .ok (.if_icmp .ne 7, 3) := by decide +kernel
theorem dL_needs_33 : decode cL_needs 33 = .ok (.iconst 0, 1) := by decide +kernel
theorem dL_needs_34 : decode cL_needs 34 = .ok (.goto 20, 3) := by decide +kernel
theorem dL_needs_37 : decode cL_needs 37 = .ok (.iload_n 1, 1) := by decide +kernel
theorem dL_needs_38 : decode cL_needs 38 = .ok (.iconst 2, 1) := by decide +kernel
theorem dL_needs_39 : decode cL_needs 39 = .ok (.irem, 1) := by decide +kernel
theorem dL_needs_40 : decode cL_needs 40 = .ok (.ifCond .ne 10, 3) := by decide +kernel
theorem dL_needs_43 : decode cL_needs 43 = .ok (.iload_n 2, 1) := by decide +kernel
theorem dL_needs_44 : decode cL_needs 44 = .ok (.bipush 16, 2) := by decide +kernel
theorem dL_needs_46 : decode cL_needs 46 = .ok (.irem, 1) := by decide +kernel
theorem dL_needs_47 : decode cL_needs 47 = .ok (.goto 7, 3) := by decide +kernel
theorem dL_needs_50 : decode cL_needs 50 = .ok (.iload_n 2, 1) := by decide +kernel
theorem dL_needs_51 : decode cL_needs 51 = .ok (.bipush 16, 2) := by decide +kernel
theorem dL_needs_53 : decode cL_needs 53 = .ok (.idiv, 1) := by decide +kernel
theorem dL_needs_54 : decode cL_needs 54 = .ok (.ireturn, 1) := by decide +kernel
set_option maxRecDepth 20000 in
theorem ggL_misfits_X5_rowOf : GoodIn wsL_misfits wsX5_rowOf := goodIn_ca (goodIn_r _ [5, 6, 7, 8, 9, 10, 11, 4, 12, 13, 14, 15, 16, 17, 18, 56, 57, 58, 59, 60, 61, 62, 63, 64, 65, 66, 67, 68, 69] (by decide +kernel) (by decide +kernel)) (goodIn_sub (fun _ h => List.mem_cons_of_mem _ (List.mem_append_right _ h)) (by decide +kernel))
set_option maxRecDepth 20000 in
theorem gL_misfits_X5_rowOf : GoodIn wsL_misfits (wsV RL 8 RX5 yX5_rowOf wsX5_rowOf) := goodIn_app (goodIn_of _ (by decide +kernel)) ggL_misfits_X5_rowOf
set_option maxRecDepth 20000 in
theorem ggL_misfits_L_needs : GoodIn wsL_misfits wsL_needs := goodIn_r _ [22] (by decide +kernel) (by decide +kernel)
set_option maxRecDepth 20000 in
theorem gL_misfits_L_needs : GoodIn wsL_misfits (va_wsS RL 14 yL_needs wsL_needs) := goodIn_app (goodIn_of _ (by decide +kernel)) ggL_misfits_L_needs
set_option maxRecDepth 20000 in
theorem ggL_misfits_X5_cell : GoodIn wsL_misfits wsX5_cell := goodIn_ca (goodIn_r _ [26, 27, 28, 29, 30, 31, 32, 33, 34, 4, 35, 13, 14, 36, 16, 17, 18, 37, 38, 39, 40, 41, 42, 43, 44, 45, 46, 47, 48, 49, 50, 51, 52, 53, 54, 55, 70, 71, 72, 73, 74, 75, 76, 77, 78, 79, 80, 81, 64, 65, 66, 67, 68, 69, 82, 83, 84] (by decide +kernel) (by decide +kernel)) (goodIn_sub (fun _ h => List.mem_cons_of_mem _ (List.mem_append_right _ h)) (by decide +kernel))
set_option maxRecDepth 20000 in
theorem gL_misfits_X5_cell : GoodIn wsL_misfits (wsV RL 19 RX5 yX5_cell wsX5_cell) := goodIn_app (goodIn_of _ (by decide +kernel)) ggL_misfits_X5_cell
theorem dL_misfits_0 : decode cL_misfits 0 = .ok (.iconst 0, 1) := by decide +kernel
theorem dL_misfits_1 : decode cL_misfits 1 = .ok (.istore 6, 2) := by decide +kernel
theorem dL_misfits_3 : decode cL_misfits 3 = .ok (.iconst 0, 1) := by decide +kernel
theorem dL_misfits_4 : decode cL_misfits 4 = .ok (.istore 7, 2) := by decide +kernel
theorem dL_misfits_6 : decode cL_misfits 6 = .ok (.iload 7, 2) := by decide +kernel
theorem dL_misfits_8 : decode cL_misfits 8 = .ok (.iload 4, 2) := by decide +kernel
theorem dL_misfits_10 : decode cL_misfits 10 = .ok (.if_icmp .ge 100, 3) := by decide +kernel
theorem dL_misfits_13 : decode cL_misfits 13 = .ok (.iconst 0, 1) := by decide +kernel
theorem dL_misfits_14 : decode cL_misfits 14 = .ok (.istore 8, 2) := by decide +kernel
theorem dL_misfits_16 : decode cL_misfits 16 = .ok (.iload 8, 2) := by decide +kernel
theorem dL_misfits_18 : decode cL_misfits 18 = .ok (.iconst 4, 1) := by decide +kernel
theorem dL_misfits_19 : decode cL_misfits 19 = .ok (.iload 5, 2) := by decide +kernel
theorem dL_misfits_21 : decode cL_misfits 21 = .ok (.imul, 1) := by decide +kernel
theorem dL_misfits_22 : decode cL_misfits 22 = .ok (.if_icmp .ge 82, 3) := by decide +kernel
theorem dL_misfits_25 : decode cL_misfits 25 = .ok (.aload_n 0, 1) := by decide +kernel
theorem dL_misfits_26 : decode cL_misfits 26 = .ok (.iload_n 2, 1) := by decide +kernel
theorem dL_misfits_27 : decode cL_misfits 27 = .ok (.iload 7, 2) := by decide +kernel
theorem dL_misfits_29 : decode cL_misfits 29 = .ok (.invokevirtual 8, 3) := by decide +kernel
theorem dL_misfits_32 : decode cL_misfits 32 = .ok (.istore 9, 2) := by decide +kernel
theorem dL_misfits_34 : decode cL_misfits 34 = .ok (.aload_n 1, 1) := by decide +kernel
theorem dL_misfits_35 : decode cL_misfits 35 = .ok (.bipush 32, 2) := by decide +kernel
theorem dL_misfits_37 : decode cL_misfits 37 = .ok (.iload_n 2, 1) := by decide +kernel
theorem dL_misfits_38 : decode cL_misfits 38 = .ok (.imul, 1) := by decide +kernel
theorem dL_misfits_39 : decode cL_misfits 39 = .ok (.iconst 4, 1) := by decide +kernel
theorem dL_misfits_40 : decode cL_misfits 40 = .ok (.iload 7, 2) := by decide +kernel
theorem dL_misfits_42 : decode cL_misfits 42 = .ok (.imul, 1) := by decide +kernel
theorem dL_misfits_43 : decode cL_misfits 43 = .ok (.iadd, 1) := by decide +kernel
theorem dL_misfits_44 : decode cL_misfits 44 = .ok (.iload 8, 2) := by decide +kernel
theorem dL_misfits_46 : decode cL_misfits 46 = .ok (.iconst 4, 1) := by decide +kernel
theorem dL_misfits_47 : decode cL_misfits 47 = .ok (.idiv, 1) := by decide +kernel
theorem dL_misfits_48 : decode cL_misfits 48 = .ok (.iadd, 1) := by decide +kernel
theorem dL_misfits_49 : decode cL_misfits 49 = .ok (.iaload, 1) := by decide +kernel
theorem dL_misfits_50 : decode cL_misfits 50 = .ok (.iload 8, 2) := by decide +kernel
theorem dL_misfits_52 : decode cL_misfits 52 = .ok (.iconst 4, 1) := by decide +kernel
theorem dL_misfits_53 : decode cL_misfits 53 = .ok (.irem, 1) := by decide +kernel
theorem dL_misfits_54 : decode cL_misfits 54 = .ok (.invokestatic 14, 3) := by decide +kernel
theorem dL_misfits_57 : decode cL_misfits 57 = .ok (.istore 10, 2) := by decide +kernel
theorem dL_misfits_59 : decode cL_misfits 59 = .ok (.iload 6, 2) := by decide +kernel
theorem dL_misfits_61 : decode cL_misfits 61 = .ok (.aload_n 0, 1) := by decide +kernel
theorem dL_misfits_62 : decode cL_misfits 62 = .ok (.iload_n 3, 1) := by decide +kernel
theorem dL_misfits_63 : decode cL_misfits 63 = .ok (.iload 9, 2) := by decide +kernel
theorem dL_misfits_65 : decode cL_misfits 65 = .ok (.iload 8, 2) := by decide +kernel
theorem dL_misfits_67 : decode cL_misfits 67 = .ok (.iconst 4, 1) := by decide +kernel
theorem dL_misfits_68 : decode cL_misfits 68 = .ok (.invokevirtual 19, 3) := by decide +kernel
theorem dL_misfits_71 : decode cL_misfits 71 = .ok (.iconst 1, 1) := by decide +kernel
theorem dL_misfits_72 : decode cL_misfits 72 = .ok (.if_icmp .ne 22, 3) := by decide +kernel
theorem dL_misfits_75 : decode cL_misfits 75 = .ok (.aload_n 0, 1) := by decide +kernel
theorem dL_misfits_76 : decode cL_misfits 76 = .ok (.iload_n 3, 1) := by decide +kernel
theorem dL_misfits_77 : decode cL_misfits 77 = .ok (.iload 9, 2) := by decide +kernel
theorem dL_misfits_79 : decode cL_misfits 79 = .ok (.iload 8, 2) := by decide +kernel
theorem dL_misfits_81 : decode cL_misfits 81 = .ok (.iconst 0, 1) := by decide +kernel
theorem dL_misfits_82 : decode cL_misfits 82 = .ok (.invokevirtual 19, 3) := by decide +kernel
theorem dL_misfits_85 : decode cL_misfits 85 = .ok (.iload 10, 2) := by decide +kernel
theorem dL_misfits_87 : decode cL_misfits 87 = .ok (.if_icmp .eq 7, 3) := by decide +kernel
theorem dL_misfits_90 : decode cL_misfits 90 = .ok (.iconst 1, 1) := by decide +kernel
theorem dL_misfits_91 : decode cL_misfits 91 = .ok (.goto 4, 3) := by decide +kernel
theorem dL_misfits_94 : decode cL_misfits 94 = .ok (.iconst 0, 1) := by decide +kernel
theorem dL_misfits_95 : decode cL_misfits 95 = .ok (.iadd, 1) := by decide +kernel
theorem dL_misfits_96 : decode cL_misfits 96 = .ok (.istore 6, 2) := by decide +kernel
theorem dL_misfits_98 : decode cL_misfits 98 = .ok (.iinc 8 1, 3) := by decide +kernel
theorem dL_misfits_101 : decode cL_misfits 101 = .ok (.goto (-85), 3) := by decide +kernel
theorem dL_misfits_104 : decode cL_misfits 104 = .ok (.iinc 7 1, 3) := by decide +kernel
theorem dL_misfits_107 : decode cL_misfits 107 = .ok (.goto (-101), 3) := by decide +kernel
theorem dL_misfits_110 : decode cL_misfits 110 = .ok (.iload 6, 2) := by decide +kernel
theorem dL_misfits_112 : decode cL_misfits 112 = .ok (.ireturn, 1) := by decide +kernel
set_option maxRecDepth 20000 in
theorem ggL_law_X5_init : GoodIn wsL_law wsX5_init := goodIn_r _ [9, 10, 11, 12, 13, 14, 15, 16, 17, 18, 19, 20, 21, 22, 23, 24, 25, 26, 27, 28, 29, 30, 31, 32, 33, 34, 35, 36, 37, 38, 39, 40, 3, 41, 42, 43, 44, 45, 46, 47, 48, 49, 50, 51, 52, 53, 54, 55, 56, 57, 58, 59, 60, 61, 62, 63, 64, 65, 456, 457, 458, 450, 451, 452, 453, 454, 455, 459, 460, 461, 462, 463, 464, 465, 466, 467, 468, 469, 470, 471, 472, 473, 474, 475] (by decide +kernel) (by decide +kernel)
set_option maxRecDepth 20000 in
theorem gL_law_X5_init : GoodIn wsL_law (wsX5_init) := ggL_law_X5_init
set_option maxRecDepth 20000 in
theorem ggL_law_L_cell : GoodIn wsL_law wsL_cell := goodIn_r _ [69] (by decide +kernel) (by decide +kernel)
set_option maxRecDepth 20000 in
theorem gL_law_L_cell : GoodIn wsL_law (va_wsS RL 24 yL_cell wsL_cell) := goodIn_app (goodIn_of _ (by decide +kernel)) ggL_law_L_cell
set_option maxRecDepth 20000 in
theorem ggL_law_L_low : GoodIn wsL_law wsL_low := goodIn_r _ [72, 73] (by decide +kernel) (by decide +kernel)
set_option maxRecDepth 20000 in
theorem gL_law_L_low : GoodIn wsL_law (va_wsS RL 27 yL_low wsL_low) := goodIn_app (goodIn_of _ (by decide +kernel)) ggL_law_L_low
set_option maxRecDepth 20000 in
theorem ggL_law_X5_layer : GoodIn wsL_law wsX5_layer := goodIn_ca (goodIn_ca (goodIn_r _ [77, 78, 79, 29, 20, 19, 80, 81, 82, 83, 2, 84, 85, 86, 87, 88, 89, 90, 11, 12, 3, 91, 92, 93, 94, 95, 96, 97, 98, 450, 451, 452, 453, 454, 455, 476, 477, 478, 479, 480, 481, 482, 483] (by decide +kernel) (by decide +kernel)) (goodIn_sub (fun _ h => List.mem_append_left _ (List.mem_append_left _ (List.mem_append_right _ h))) (by decide +kernel))) (goodIn_sub (fun _ h => List.mem_append_left _ (List.mem_append_right _ h)) (by decide +kernel))
set_option maxRecDepth 20000 in
theorem gL_law_X5_layer : GoodIn wsL_law (wsV RL 30 RX5 yX5_layer wsX5_layer) := goodIn_app (goodIn_of _ (by decide +kernel)) ggL_law_X5_layer
set_option maxRecDepth 20000 in
theorem ggL_law_X5_next : GoodIn wsL_law wsX5_next := goodIn_ca (goodIn_ca (goodIn_r _ [102, 85, 86, 103, 104, 105, 106, 107, 2, 108, 109, 110, 20, 111, 112, 113, 81, 114, 96, 97, 98, 476, 477, 478, 479, 480, 481, 482, 483, 450, 451, 452, 453, 454, 455] (by decide +kernel) (by decide +kernel)) (goodIn_sub (fun _ h => List.mem_append_left _ (List.mem_append_right _ h)) (by decide +kernel))) (goodIn_sub (fun _ h => List.mem_append_right _ h) (by decide +kernel))
set_option maxRecDepth 20000 in
theorem gL_law_X5_next : GoodIn wsL_law (wsV RL 33 RX5 yX5_next wsX5_next) := goodIn_app (goodIn_of _ (by decide +kernel)) ggL_law_X5_next
set_option maxRecDepth 20000 in
theorem ggL_law_X5_place : GoodIn wsL_law wsX5_place := goodIn_ca (goodIn_ca (goodIn_r _ [118, 78, 79, 119, 120, 24, 16, 105, 106, 107, 2, 108, 109, 110, 20, 121, 122, 123, 124, 18, 125, 126, 127, 23, 128, 129, 41, 130, 131, 132, 81, 133, 134, 135, 136, 137, 98, 138, 139, 140, 141, 142, 143, 144, 145, 91, 146, 147, 148, 31, 149, 58, 53, 150, 151, 152, 153, 154, 155, 156, 157, 158, 159, 160, 42, 161, 162, 163, 164, 165, 166, 167, 168, 169, 170, 171, 172, 173, 174, 175, 176, 177, 178, 179, 180, 181, 182, 183, 184, 185, 186, 187, 97, 92, 188, 189, 190, 191, 57, 55, 192, 193, 194, 195, 196, 197, 198, 199, 200, 201, 202, 203, 204, 205, 206, 207, 54, 476, 477, 478, 479, 480, 481, 482, 483, 464, 465, 466, 467, 468, 469, 470, 471, 472, 473, 474, 475, 450, 451, 452, 453, 454, 455, 459, 460, 456, 457, 458] (by decide +kernel) (by decide +kernel)) (goodIn_sub (fun _ h => List.mem_append_left _ (List.mem_append_left _ (List.mem_append_right _ h))) (by decide +kernel))) (goodIn_sub (fun _ h => List.mem_append_right _ h) (by decide +kernel))
set_option maxRecDepth 20000 in
theorem gL_law_X5_place : GoodIn wsL_law (wsV RL 36 RX5 yX5_place wsX5_place) := goodIn_app (goodIn_of _ (by decide +kernel)) ggL_law_X5_place
set_option maxRecDepth 20000 in
theorem ggL_law_X5_isTrue : GoodIn wsL_law wsX5_isTrue := goodIn_ca (goodIn_r _ [211, 119, 16, 105, 106, 107, 2, 108, 109, 110, 20, 212, 213, 214, 81, 215, 97, 92, 134, 135, 136, 137, 98, 216, 195, 196, 31, 197, 198, 57, 53, 192, 55, 199, 200, 174, 201, 150, 151, 202, 203, 138, 139, 140, 141, 142, 143, 144, 145, 91, 476, 477, 478, 479, 480, 481, 482, 483, 450, 451, 452, 453, 454, 455, 456, 457, 458, 464, 465, 466, 467, 468, 469, 470, 471, 472, 473, 474, 475] (by decide +kernel) (by decide +kernel)) (goodIn_sub (fun _ h => List.mem_append_right _ h) (by decide +kernel))
set_option maxRecDepth 20000 in
theorem gL_law_X5_isTrue : GoodIn wsL_law (wsV RL 39 RX5 yX5_isTrue wsX5_isTrue) := goodIn_app (goodIn_of _ (by decide +kernel)) ggL_law_X5_isTrue
set_option maxRecDepth 20000 in
theorem ggL_law_X5_shift : GoodIn wsL_law wsX5_shift := goodIn_ca (goodIn_ca (goodIn_r _ [220, 221, 105, 106, 107, 2, 108, 109, 110, 20, 82, 83, 84, 85, 86, 476, 477, 478, 479, 480, 481, 482, 483, 450, 451, 452, 453, 454, 455] (by decide +kernel) (by decide +kernel)) (goodIn_sub (fun _ h => List.mem_append_right _ h) (by decide +kernel))) (goodIn_sub (fun _ h => List.mem_append_left _ (List.mem_append_right _ h)) (by decide +kernel))
set_option maxRecDepth 20000 in
theorem gL_law_X5_shift : GoodIn wsL_law (wsV RL 43 RX5 yX5_shift wsX5_shift) := goodIn_app (goodIn_of _ (by decide +kernel)) ggL_law_X5_shift
set_option maxRecDepth 20000 in
theorem ggL_law_X5_weight : GoodIn wsL_law wsX5_weight := goodIn_ca (goodIn_ca (goodIn_r _ [225, 226, 227, 105, 106, 107, 2, 108, 109, 110, 20, 228, 229, 230, 82, 83, 84, 85, 86, 231, 143, 144, 81, 145, 91, 232, 233, 234, 235, 476, 477, 478, 479, 480, 481, 482, 483, 450, 451, 452, 453, 454, 455] (by decide +kernel) (by decide +kernel)) (goodIn_sub (fun _ h => List.mem_append_right _ h) (by decide +kernel))) (goodIn_sub (fun _ h => List.mem_append_left _ (List.mem_append_right _ h)) (by decide +kernel))
set_option maxRecDepth 20000 in
theorem gL_law_X5_weight : GoodIn wsL_law (wsV RL 46 RX5 yX5_weight wsX5_weight) := goodIn_app (goodIn_of _ (by decide +kernel)) ggL_law_X5_weight
set_option maxRecDepth 20000 in
theorem ggL_law_X5_load : GoodIn wsL_law wsX5_load := goodIn_ca (goodIn_ca (goodIn_r _ [239, 16, 105, 106, 107, 2, 108, 109, 110, 20, 240, 241, 242, 78, 79, 119, 184, 185, 186, 81, 187, 97, 92, 134, 135, 136, 137, 98, 138, 139, 140, 141, 142, 143, 144, 145, 91, 188, 189, 190, 31, 191, 57, 53, 55, 192, 193, 58, 150, 151, 194, 195, 196, 197, 198, 199, 200, 174, 201, 202, 203, 204, 205, 206, 207, 54, 450, 451, 452, 453, 454, 455, 476, 477, 478, 479, 480, 481, 482, 483, 464, 465, 466, 467, 468, 469, 470, 471, 472, 473, 474, 475, 456, 457, 458] (by decide +kernel) (by decide +kernel)) (goodIn_sub (fun _ h => List.mem_append_right _ h) (by decide +kernel))) (goodIn_sub (fun _ h => List.mem_append_left _ (List.mem_append_left _ (List.mem_append_right _ h))) (by decide +kernel))
set_option maxRecDepth 20000 in
theorem gL_law_X5_load : GoodIn wsL_law (wsV RL 49 RX5 yX5_load wsX5_load) := goodIn_app (goodIn_of _ (by decide +kernel)) ggL_law_X5_load
set_option maxRecDepth 20000 in
theorem ggL_law_X5_cell : GoodIn wsL_law wsX5_cell := goodIn_ca (goodIn_r _ [246, 247, 16, 248, 249, 250, 121, 122, 123, 2, 124, 109, 110, 18, 228, 229, 230, 251, 150, 151, 252, 195, 196, 31, 197, 198, 57, 53, 192, 55, 199, 200, 174, 201, 202, 203, 464, 465, 466, 467, 468, 469, 470, 471, 472, 473, 474, 475, 450, 451, 452, 453, 454, 455, 456, 457, 458] (by decide +kernel) (by decide +kernel)) (goodIn_sub (fun _ h => List.mem_append_right _ h) (by decide +kernel))
set_option maxRecDepth 20000 in
theorem gL_law_X5_cell : GoodIn wsL_law (wsV RL 19 RX5 yX5_cell wsX5_cell) := goodIn_app (goodIn_of _ (by decide +kernel)) ggL_law_X5_cell
set_option maxRecDepth 20000 in
theorem ggL_law_X5_stick : GoodIn wsL_law wsX5_stick := goodIn_ca (goodIn_ca (goodIn_ca (goodIn_r _ [256, 78, 79, 121, 122, 123, 2, 124, 109, 110, 18, 228, 229, 230, 82, 83, 84, 85, 86, 257, 258, 259, 31, 260, 57, 53, 150, 151, 450, 451, 452, 453, 454, 455, 464, 465, 466, 467, 468, 469, 470, 471, 472, 473, 474, 475] (by decide +kernel) (by decide +kernel)) (goodIn_sub (fun _ h => List.mem_append_left _ (List.mem_append_left _ (List.mem_append_right _ h))) (by decide +kernel))) (goodIn_sub (fun _ h => List.mem_append_right _ h) (by decide +kernel))) (goodIn_sub (fun _ h => List.mem_append_left _ (List.mem_append_right _ h)) (by decide +kernel))
set_option maxRecDepth 20000 in
theorem gL_law_X5_stick : GoodIn wsL_law (wsV RL 53 RX5 yX5_stick wsX5_stick) := goodIn_app (goodIn_of _ (by decide +kernel)) ggL_law_X5_stick
set_option maxRecDepth 20000 in
theorem ggL_law_X5_share : GoodIn wsL_law wsX5_share := goodIn_ca (goodIn_r _ [264, 249, 265, 121, 122, 123, 2, 124, 109, 110, 18, 464, 465, 466, 467, 468, 469, 470, 471, 472, 473, 474, 475, 450, 451, 452, 453, 454, 455] (by decide +kernel) (by decide +kernel)) (goodIn_sub (fun _ h => List.mem_append_right _ h) (by decide +kernel))
set_option maxRecDepth 20000 in
theorem gL_law_X5_share : GoodIn wsL_law (wsV RL 57 RX5 yX5_share wsX5_share) := goodIn_app (goodIn_of _ (by decide +kernel)) ggL_law_X5_share
set_option maxRecDepth 20000 in
theorem ggL_law_X5_spoil : GoodIn wsL_law wsX5_spoil := goodIn_ca (goodIn_ca (goodIn_r _ [269, 270, 121, 122, 123, 2, 124, 109, 110, 18, 82, 83, 84, 85, 86, 271, 272, 273, 274, 257, 258, 259, 31, 260, 57, 53, 150, 151, 450, 451, 452, 453, 454, 455, 464, 465, 466, 467, 468, 469, 470, 471, 472, 473, 474, 475] (by decide +kernel) (by decide +kernel)) (goodIn_sub (fun _ h => List.mem_append_right _ h) (by decide +kernel))) (goodIn_sub (fun _ h => List.mem_append_left _ (List.mem_append_right _ h)) (by decide +kernel))
set_option maxRecDepth 20000 in
theorem gL_law_X5_spoil : GoodIn wsL_law (wsV RL 62 RX5 yX5_spoil wsX5_spoil) := goodIn_app (goodIn_of _ (by decide +kernel)) ggL_law_X5_spoil
set_option maxRecDepth 20000 in
theorem ggL_law_X5_hour : GoodIn wsL_law wsX5_hour := goodIn_r _ [278, 16, 279, 450, 451, 452, 453, 454, 455, 456, 457, 458] (by decide +kernel) (by decide +kernel)
set_option maxRecDepth 20000 in
theorem gL_law_X5_hour : GoodIn wsL_law (wsV RL 67 RX5 yX5_hour wsX5_hour) := goodIn_app (goodIn_of _ (by decide +kernel)) ggL_law_X5_hour
set_option maxRecDepth 20000 in
theorem ggL_law_X5_pass : GoodIn wsL_law wsX5_pass := goodIn_ca (goodIn_ca (goodIn_r _ [283, 78, 79, 16, 279, 284, 82, 83, 2, 84, 85, 86, 450, 451, 452, 453, 454, 455, 456, 457, 458] (by decide +kernel) (by decide +kernel)) (goodIn_sub (fun _ h => List.mem_append_left _ (List.mem_append_left _ (List.mem_append_right _ h))) (by decide +kernel))) (goodIn_sub (fun _ h => List.mem_append_left _ (List.mem_append_right _ h)) (by decide +kernel))
set_option maxRecDepth 20000 in
theorem gL_law_X5_pass : GoodIn wsL_law (wsV RL 71 RX5 yX5_pass wsX5_pass) := goodIn_app (goodIn_of _ (by decide +kernel)) ggL_law_X5_pass
set_option maxRecDepth 20000 in
theorem ggL_law_X5_drift : GoodIn wsL_law wsX5_drift := goodIn_ca (goodIn_r _ [288, 16, 289, 82, 83, 2, 84, 85, 86, 450, 451, 452, 453, 454, 455, 456, 457, 458] (by decide +kernel) (by decide +kernel)) (goodIn_sub (fun _ h => List.mem_append_left _ (List.mem_append_right _ h)) (by decide +kernel))
set_option maxRecDepth 20000 in
theorem gL_law_X5_drift : GoodIn wsL_law (wsV RL 74 RX5 yX5_drift wsX5_drift) := goodIn_app (goodIn_of _ (by decide +kernel)) ggL_law_X5_drift
set_option maxRecDepth 20000 in
theorem ggL_law_X5_converter : GoodIn wsL_law wsX5_converter := goodIn_ca (goodIn_ca (goodIn_r _ [293, 294, 295, 121, 122, 123, 2, 124, 109, 110, 18, 82, 83, 84, 85, 86, 464, 465, 466, 467, 468, 469, 470, 471, 472, 473, 474, 475, 450, 451, 452, 453, 454, 455] (by decide +kernel) (by decide +kernel)) (goodIn_sub (fun _ h => List.mem_append_right _ h) (by decide +kernel))) (goodIn_sub (fun _ h => List.mem_append_left _ (List.mem_append_right _ h)) (by decide +kernel))
set_option maxRecDepth 20000 in
theorem gL_law_X5_converter : GoodIn wsL_law (wsV RL 77 RX5 yX5_converter wsX5_converter) := goodIn_app (goodIn_of _ (by decide +kernel)) ggL_law_X5_converter
set_option maxRecDepth 20000 in
theorem ggL_law_X5_converters : GoodIn wsL_law wsX5_converters := goodIn_ca (goodIn_ca (goodIn_r _ [299, 85, 86, 300, 121, 122, 123, 2, 124, 109, 110, 18, 82, 83, 84, 301, 162, 163, 164, 165, 166, 167, 464, 465, 466, 467, 468, 469, 470, 471, 472, 473, 474, 475, 450, 451, 452, 453, 454, 455] (by decide +kernel) (by decide +kernel)) (goodIn_sub (fun _ h => List.mem_append_left _ (List.mem_append_right _ h)) (by decide +kernel))) (goodIn_sub (fun _ h => List.mem_append_right _ h) (by decide +kernel))
set_option maxRecDepth 20000 in
theorem gL_law_X5_converters : GoodIn wsL_law (wsV RL 80 RX5 yX5_converters wsX5_converters) := goodIn_app (goodIn_of _ (by decide +kernel)) ggL_law_X5_converters
set_option maxRecDepth 20000 in
theorem ggL_law_X5_offset : GoodIn wsL_law wsX5_offset := goodIn_ca (goodIn_ca (goodIn_r _ [305, 306, 121, 122, 123, 2, 124, 109, 110, 18, 228, 229, 230, 82, 83, 84, 85, 86, 464, 465, 466, 467, 468, 469, 470, 471, 472, 473, 474, 475, 450, 451, 452, 453, 454, 455] (by decide +kernel) (by decide +kernel)) (goodIn_sub (fun _ h => List.mem_append_right _ h) (by decide +kernel))) (goodIn_sub (fun _ h => List.mem_append_left _ (List.mem_append_right _ h)) (by decide +kernel))
set_option maxRecDepth 20000 in
theorem gL_law_X5_offset : GoodIn wsL_law (wsV RL 83 RX5 yX5_offset wsX5_offset) := goodIn_app (goodIn_of _ (by decide +kernel)) ggL_law_X5_offset
set_option maxRecDepth 20000 in
theorem ggL_law_X5_calibrate : GoodIn wsL_law wsX5_calibrate := goodIn_ca (goodIn_r _ [310, 311, 121, 122, 123, 2, 124, 109, 110, 18, 464, 465, 466, 467, 468, 469, 470, 471, 472, 473, 474, 475, 450, 451, 452, 453, 454, 455] (by decide +kernel) (by decide +kernel)) (goodIn_sub (fun _ h => List.mem_append_right _ h) (by decide +kernel))
set_option maxRecDepth 20000 in
theorem gL_law_X5_calibrate : GoodIn wsL_law (wsV RL 86 RX5 yX5_calibrate wsX5_calibrate) := goodIn_app (goodIn_of _ (by decide +kernel)) ggL_law_X5_calibrate
set_option maxRecDepth 20000 in
theorem ggL_law_X5_misfits : GoodIn wsL_law wsX5_misfits := goodIn_ca (goodIn_r _ [315, 24, 226, 105, 106, 107, 2, 108, 109, 110, 20, 121, 122, 123, 124, 18, 125, 126, 127, 23, 128, 129, 41, 130, 131, 132, 81, 133, 134, 135, 136, 137, 98, 138, 139, 140, 141, 142, 143, 144, 145, 91, 146, 147, 148, 31, 149, 58, 53, 150, 151, 316, 158, 159, 160, 42, 161, 162, 163, 164, 165, 166, 167, 168, 169, 170, 171, 172, 173, 174, 175, 176, 177, 178, 179, 450, 451, 452, 453, 454, 455, 476, 477, 478, 479, 480, 481, 482, 483, 459, 460, 464, 465, 466, 467, 468, 469, 470, 471, 472, 473, 474, 475] (by decide +kernel) (by decide +kernel)) (goodIn_sub (fun _ h => List.mem_append_right _ h) (by decide +kernel))
set_option maxRecDepth 20000 in
theorem gL_law_X5_misfits : GoodIn wsL_law (wsV RL 90 RX5 yX5_misfits wsX5_misfits) := goodIn_app (goodIn_of _ (by decide +kernel)) ggL_law_X5_misfits
set_option maxRecDepth 20000 in
theorem ggL_law_X5_lift : GoodIn wsL_law wsX5_lift := goodIn_ca (goodIn_ca (goodIn_r _ [320, 119, 120, 321, 105, 106, 107, 2, 108, 109, 110, 20, 240, 241, 242, 78, 79, 476, 477, 478, 479, 480, 481, 482, 483, 464, 465, 466, 467, 468, 469, 470, 471, 472, 473, 474, 475, 450, 451, 452, 453, 454, 455] (by decide +kernel) (by decide +kernel)) (goodIn_sub (fun _ h => List.mem_append_right _ h) (by decide +kernel))) (goodIn_sub (fun _ h => List.mem_append_left _ (List.mem_append_left _ (List.mem_append_right _ h))) (by decide +kernel))
set_option maxRecDepth 20000 in
theorem gL_law_X5_lift : GoodIn wsL_law (wsV RL 93 RX5 yX5_lift wsX5_lift) := goodIn_app (goodIn_of _ (by decide +kernel)) ggL_law_X5_lift
set_option maxRecDepth 20000 in
theorem ggL_law_X5_rowOf : GoodIn wsL_law wsX5_rowOf := goodIn_ca (goodIn_r _ [325, 226, 119, 326, 105, 106, 107, 2, 108, 109, 110, 20, 228, 229, 230, 476, 477, 478, 479, 480, 481, 482, 483, 450, 451, 452, 453, 454, 455] (by decide +kernel) (by decide +kernel)) (goodIn_sub (fun _ h => List.mem_append_right _ h) (by decide +kernel))
set_option maxRecDepth 20000 in
theorem gL_law_X5_rowOf : GoodIn wsL_law (wsV RL 8 RX5 yX5_rowOf wsX5_rowOf) := goodIn_app (goodIn_of _ (by decide +kernel)) ggL_law_X5_rowOf
set_option maxRecDepth 20000 in
theorem ggL_law_X5_tileOf : GoodIn wsL_law wsX5_tileOf := goodIn_ca (goodIn_r _ [330, 119, 321, 105, 106, 107, 2, 108, 109, 110, 20, 476, 477, 478, 479, 480, 481, 482, 483, 464, 465, 466, 467, 468, 469, 470, 471, 472, 473, 474, 475, 450, 451, 452, 453, 454, 455] (by decide +kernel) (by decide +kernel)) (goodIn_sub (fun _ h => List.mem_append_right _ h) (by decide +kernel))
set_option maxRecDepth 20000 in
theorem gL_law_X5_tileOf : GoodIn wsL_law (wsV RL 96 RX5 yX5_tileOf wsX5_tileOf) := goodIn_app (goodIn_of _ (by decide +kernel)) ggL_law_X5_tileOf
set_option maxRecDepth 20000 in
theorem ggL_law_L_misfits : GoodIn wsL_law wsL_misfits := goodIn_ca (goodIn_r _ [333, 322, 323, 324, 2, 325, 226, 119, 326, 105, 106, 107, 108, 109, 110, 20, 228, 229, 230, 334, 335, 68, 336, 243, 244, 245, 246, 247, 16, 248, 249, 250, 121, 122, 123, 124, 18, 251, 150, 151, 252, 195, 196, 31, 197, 198, 57, 53, 192, 55, 199, 200, 174, 201, 202, 203, 476, 477, 478, 479, 480, 481, 482, 483, 450, 451, 452, 453, 454, 455, 464, 465, 466, 467, 468, 469, 470, 471, 472, 473, 474, 475, 456, 457, 458] (by decide +kernel) (by decide +kernel)) (goodIn_sub (fun _ h => List.mem_append_right _ h) (by decide +kernel))
set_option maxRecDepth 20000 in
theorem gL_law_L_misfits : GoodIn wsL_law (va_wsS RL 99 yL_misfits wsL_misfits) := goodIn_app (goodIn_of _ (by decide +kernel)) ggL_law_L_misfits
set_option maxRecDepth 20000 in
theorem ggL_law_X5_endurance : GoodIn wsL_law wsX5_endurance := goodIn_ca (goodIn_r _ [340, 341, 16, 342, 82, 83, 2, 84, 85, 86, 450, 451, 452, 453, 454, 455, 456, 457, 458] (by decide +kernel) (by decide +kernel)) (goodIn_sub (fun _ h => List.mem_append_left _ (List.mem_append_right _ h)) (by decide +kernel))
set_option maxRecDepth 20000 in
theorem gL_law_X5_endurance : GoodIn wsL_law (wsV RL 102 RX5 yX5_endurance wsX5_endurance) := goodIn_app (goodIn_of _ (by decide +kernel)) ggL_law_X5_endurance
set_option maxRecDepth 20000 in
theorem ggL_law_X5_answer : GoodIn wsL_law wsX5_answer := goodIn_ca (goodIn_ca (goodIn_r _ [346, 227, 16, 105, 106, 107, 2, 108, 109, 110, 20, 228, 229, 230, 240, 241, 242, 78, 79, 119, 347, 348, 349, 81, 350, 351, 352, 353, 354, 97, 92, 355, 356, 216, 195, 196, 31, 197, 198, 57, 53, 192, 55, 199, 200, 174, 201, 150, 151, 202, 203, 357, 358, 359, 360, 62, 59, 61, 60, 361, 173, 175, 476, 477, 478, 479, 480, 481, 482, 483, 450, 451, 452, 453, 454, 455, 456, 457, 458, 464, 465, 466, 467, 468, 469, 470, 471, 472, 473, 474, 475] (by decide +kernel) (by decide +kernel)) (goodIn_sub (fun _ h => List.mem_append_right _ h) (by decide +kernel))) (goodIn_sub (fun _ h => List.mem_append_left _ (List.mem_append_left _ (List.mem_append_right _ h))) (by decide +kernel))
set_option maxRecDepth 20000 in
theorem gL_law_X5_answer : GoodIn wsL_law (wsV RL 107 RX5 yX5_answer wsX5_answer) := goodIn_app (goodIn_of _ (by decide +kernel)) ggL_law_X5_answer
set_option maxRecDepth 20000 in
theorem ggL_law_X5_ideal : GoodIn wsL_law wsX5_ideal := goodIn_ca (goodIn_r _ [365, 227, 105, 106, 107, 2, 108, 109, 110, 20, 228, 229, 230, 366, 367, 368, 81, 369, 97, 142, 143, 144, 145, 91, 355, 356, 476, 477, 478, 479, 480, 481, 482, 483, 450, 451, 452, 453, 454, 455] (by decide +kernel) (by decide +kernel)) (goodIn_sub (fun _ h => List.mem_append_right _ h) (by decide +kernel))
set_option maxRecDepth 20000 in
theorem gL_law_X5_ideal : GoodIn wsL_law (wsV RL 111 RX5 yX5_ideal wsX5_ideal) := goodIn_app (goodIn_of _ (by decide +kernel)) ggL_law_X5_ideal
set_option maxRecDepth 20000 in
theorem ggL_law_X5_bound : GoodIn wsL_law wsX5_bound := goodIn_ca (goodIn_ca (goodIn_r _ [373, 227, 105, 106, 107, 2, 108, 109, 110, 20, 228, 229, 230, 240, 241, 242, 78, 79, 119, 374, 375, 376, 81, 377, 378, 379, 380, 381, 97, 138, 139, 140, 141, 142, 143, 144, 145, 91, 382, 383, 384, 31, 385, 199, 200, 174, 201, 386, 358, 359, 360, 62, 59, 61, 60, 361, 173, 175, 202, 203, 387, 388, 389, 390, 476, 477, 478, 479, 480, 481, 482, 483, 450, 451, 452, 453, 454, 455, 464, 465, 466, 467, 468, 469, 470, 471, 472, 473, 474, 475] (by decide +kernel) (by decide +kernel)) (goodIn_sub (fun _ h => List.mem_append_right _ h) (by decide +kernel))) (goodIn_sub (fun _ h => List.mem_append_left _ (List.mem_append_left _ (List.mem_append_right _ h))) (by decide +kernel))
set_option maxRecDepth 20000 in
theorem gL_law_X5_bound : GoodIn wsL_law (wsV RL 114 RX5 yX5_bound wsX5_bound) := goodIn_app (goodIn_of _ (by decide +kernel)) ggL_law_X5_bound
set_option maxRecDepth 20000 in
theorem ggL_law_X5_misfitsAnew : GoodIn wsL_law wsX5_misfitsAnew := goodIn_ca (goodIn_ca (goodIn_r _ [394, 78, 79, 226, 24, 105, 106, 107, 2, 108, 109, 110, 20, 121, 122, 123, 124, 18, 125, 126, 127, 23, 128, 129, 41, 130, 131, 132, 81, 133, 134, 135, 136, 137, 98, 138, 139, 140, 141, 142, 143, 144, 145, 91, 146, 147, 148, 31, 149, 58, 53, 150, 151, 395, 396, 397, 398, 172, 173, 174, 175, 399, 400, 401, 402, 476, 477, 478, 479, 480, 481, 482, 483, 450, 451, 452, 453, 454, 455, 459, 460, 464, 465, 466, 467, 468, 469, 470, 471, 472, 473, 474, 475] (by decide +kernel) (by decide +kernel)) (goodIn_sub (fun _ h => List.mem_append_left _ (List.mem_append_left _ (List.mem_append_right _ h))) (by decide +kernel))) (goodIn_sub (fun _ h => List.mem_append_right _ h) (by decide +kernel))
set_option maxRecDepth 20000 in
theorem gL_law_X5_misfitsAnew : GoodIn wsL_law (wsV RL 118 RX5 yX5_misfitsAnew wsX5_misfitsAnew) := goodIn_app (goodIn_of _ (by decide +kernel)) ggL_law_X5_misfitsAnew
set_option maxRecDepth 20000 in
theorem ggL_law_X5_cycles : GoodIn wsL_law wsX5_cycles := goodIn_ca (goodIn_ca (goodIn_ca (goodIn_r _ [406, 28, 105, 106, 107, 2, 108, 109, 110, 20, 82, 83, 84, 85, 86, 407, 408, 409, 410, 103, 411, 412, 413, 27, 414, 48, 240, 241, 242, 78, 79, 119, 415, 416, 417, 81, 418, 419, 134, 135, 136, 137, 98, 202, 203, 420, 421, 422, 423, 46, 424, 425, 426, 427, 428, 200, 174, 201, 450, 451, 452, 453, 454, 455, 476, 477, 478, 479, 480, 481, 482, 483, 461, 462, 463, 464, 465, 466, 467, 468, 469, 470, 471, 472, 473, 474, 475] (by decide +kernel) (by decide +kernel)) (goodIn_sub (fun _ h => List.mem_append_right _ h) (by decide +kernel))) (goodIn_sub (fun _ h => List.mem_append_left _ (List.mem_append_right _ h)) (by decide +kernel))) (goodIn_sub (fun _ h => List.mem_append_left _ (List.mem_append_left _ (List.mem_append_right _ h))) (by decide +kernel))
set_option maxRecDepth 20000 in
theorem gL_law_X5_cycles : GoodIn wsL_law (wsV RL 121 RX5 yX5_cycles wsX5_cycles) := goodIn_app (goodIn_of _ (by decide +kernel)) ggL_law_X5_cycles
set_option maxRecDepth 20000 in
theorem ggL_law_X5_cyclesAnew : GoodIn wsL_law wsX5_cyclesAnew := goodIn_ca (goodIn_ca (goodIn_ca (goodIn_r _ [432, 28, 105, 106, 107, 2, 108, 109, 110, 20, 82, 83, 84, 85, 86, 407, 408, 409, 410, 103, 411, 412, 413, 27, 414, 48, 240, 241, 242, 78, 79, 119, 415, 416, 417, 81, 418, 419, 134, 135, 136, 137, 98, 202, 203, 420, 421, 422, 423, 46, 433, 434, 435, 436, 47, 437, 438, 439, 440, 441, 442, 443, 444, 445, 450, 451, 452, 453, 454, 455, 476, 477, 478, 479, 480, 481, 482, 483, 461, 462, 463, 464, 465, 466, 467, 468, 469, 470, 471, 472, 473, 474, 475] (by decide +kernel) (by decide +kernel)) (goodIn_sub (fun _ h => List.mem_append_right _ h) (by decide +kernel))) (goodIn_sub (fun _ h => List.mem_append_left _ (List.mem_append_right _ h)) (by decide +kernel))) (goodIn_sub (fun _ h => List.mem_append_left _ (List.mem_append_left _ (List.mem_append_right _ h))) (by decide +kernel))
set_option maxRecDepth 20000 in
theorem gL_law_X5_cyclesAnew : GoodIn wsL_law (wsV RL 124 RX5 yX5_cyclesAnew wsX5_cyclesAnew) := goodIn_app (goodIn_of _ (by decide +kernel)) ggL_law_X5_cyclesAnew
set_option maxRecDepth 20000 in
theorem ggL_law_X5_wear : GoodIn wsL_law wsX5_wear := goodIn_ca (goodIn_r _ [449, 248, 121, 122, 123, 2, 124, 109, 110, 18, 464, 465, 466, 467, 468, 469, 470, 471, 472, 473, 474, 475, 450, 451, 452, 453, 454, 455] (by decide +kernel) (by decide +kernel)) (goodIn_sub (fun _ h => List.mem_append_right _ h) (by decide +kernel))
set_option maxRecDepth 20000 in
theorem gL_law_X5_wear : GoodIn wsL_law (wsV RL 127 RX5 yX5_wear wsX5_wear) := goodIn_app (goodIn_of _ (by decide +kernel)) ggL_law_X5_wear
end
section
theorem dL_law_0 : decode cL_law 0 = .ok (.new 9, 3) := by decide +kernel
theorem dL_law_3 : decode cL_law 3 = .ok (.dup, 1) := by decide +kernel
theorem dL_law_4 : decode cL_law 4 = .ok (.invokespecial 23, 3) := by decide +kernel
theorem dL_law_7 : decode cL_law 7 = .ok (.astore_n 1, 1) := by decide +kernel
theorem dL_law_8 : decode cL_law 8 = .ok (.aload_n 0, 1) := by decide +kernel
theorem dL_law_9 : decode cL_law 9 = .ok (.iconst 0, 1) := by decide +kernel
theorem dL_law_10 : decode cL_law 10 = .ok (.invokestatic 24, 3) := by decide +kernel
theorem dL_law_13 : decode cL_law 13 = .ok (.istore_n 2, 1) := by decide +kernel
theorem dL_law_14 : decode cL_law 14 = .ok (.iconst 2, 1) := by decide +kernel
theorem dL_law_15 : decode cL_law 15 = .ok (.newarray .int, 2) := by decide +kernel
theorem dL_law_17 : decode cL_law 17 = .ok (.astore_n 3, 1) := by decide +kernel
theorem dL_law_18 : decode cL_law 18 = .ok (.iconst 2, 1) := by decide +kernel
theorem dL_law_19 : decode cL_law 19 = .ok (.newarray .int, 2) := by decide +kernel
theorem dL_law_21 : decode cL_law 21 = .ok (.astore 4, 2) := by decide +kernel
theorem dL_law_23 : decode cL_law 23 = .ok (.iconst 2, 1) := by decide +kernel
theorem dL_law_24 : decode cL_law 24 = .ok (.newarray .int, 2) := by decide +kernel
theorem dL_law_26 : decode cL_law 26 = .ok (.astore 5, 2) := by decide +kernel
theorem dL_law_28 : decode cL_law 28 = .ok (.bipush 64, 2) := by decide +kernel
theorem dL_law_30 : decode cL_law 30 = .ok (.newarray .int, 2) := by decide +kernel
theorem dL_law_32 : decode cL_law 32 = .ok (.astore 6, 2) := by decide +kernel
theorem dL_law_34 : decode cL_law 34 = .ok (.aload_n 3, 1) := by decide +kernel
theorem dL_law_35 : decode cL_law 35 = .ok (.iconst 0, 1) := by decide +kernel
theorem dL_law_36 : decode cL_law 36 = .ok (.iconst 1, 1) := by decide +kernel
theorem dL_law_37 : decode cL_law 37 = .ok (.iload_n 2, 1) := by decide +kernel
theorem dL_law_38 : decode cL_law 38 = .ok (.iconst 4, 1) := by decide +kernel
theorem dL_law_39 : decode cL_law 39 = .ok (.invokestatic 27, 3) := by decide +kernel
theorem dL_law_42 : decode cL_law 42 = .ok (.iadd, 1) := by decide +kernel
theorem dL_law_43 : decode cL_law 43 = .ok (.iastore, 1) := by decide +kernel
theorem dL_law_44 : decode cL_law 44 = .ok (.aload 4, 2) := by decide +kernel
theorem dL_law_46 : decode cL_law 46 = .ok (.iconst 0, 1) := by decide +kernel
theorem dL_law_47 : decode cL_law 47 = .ok (.iconst 1, 1) := by decide +kernel
theorem dL_law_48 : decode cL_law 48 = .ok (.iload_n 2, 1) := by decide +kernel
theorem dL_law_49 : decode cL_law 49 = .ok (.iconst 3, 1) := by decide +kernel
theorem dL_law_50 : decode cL_law 50 = .ok (.ishr, 1) := by decide +kernel
theorem dL_law_51 : decode cL_law 51 = .ok (.iconst 4, 1) := by decide +kernel
theorem dL_law_52 : decode cL_law 52 = .ok (.invokestatic 27, 3) := by decide +kernel
theorem dL_law_55 : decode cL_law 55 = .ok (.iadd, 1) := by decide +kernel
theorem dL_law_56 : decode cL_law 56 = .ok (.iastore, 1) := by decide +kernel
theorem dL_law_57 : decode cL_law 57 = .ok (.aload_n 3, 1) := by decide +kernel
theorem dL_law_58 : decode cL_law 58 = .ok (.iconst 1, 1) := by decide +kernel
theorem dL_law_59 : decode cL_law 59 = .ok (.aload 4, 2) := by decide +kernel
theorem dL_law_61 : decode cL_law 61 = .ok (.iconst 0, 1) := by decide +kernel
theorem dL_law_62 : decode cL_law 62 = .ok (.iaload, 1) := by decide +kernel
theorem dL_law_63 : decode cL_law 63 = .ok (.iload_n 2, 1) := by decide +kernel
theorem dL_law_64 : decode cL_law 64 = .ok (.bipush 6, 2) := by decide +kernel
theorem dL_law_66 : decode cL_law 66 = .ok (.ishr, 1) := by decide +kernel
theorem dL_law_67 : decode cL_law 67 = .ok (.iconst 5, 1) := by decide +kernel
theorem dL_law_68 : decode cL_law 68 = .ok (.invokestatic 27, 3) := by decide +kernel
theorem dL_law_71 : decode cL_law 71 = .ok (.iadd, 1) := by decide +kernel
theorem dL_law_72 : decode cL_law 72 = .ok (.iastore, 1) := by decide +kernel
theorem dL_law_73 : decode cL_law 73 = .ok (.aload 4, 2) := by decide +kernel
theorem dL_law_75 : decode cL_law 75 = .ok (.iconst 1, 1) := by decide +kernel
theorem dL_law_76 : decode cL_law 76 = .ok (.iconst 1, 1) := by decide +kernel
theorem dL_law_77 : decode cL_law 77 = .ok (.iload_n 2, 1) := by decide +kernel
theorem dL_law_78 : decode cL_law 78 = .ok (.bipush 9, 2) := by decide +kernel
theorem dL_law_80 : decode cL_law 80 = .ok (.ishr, 1) := by decide +kernel
theorem dL_law_81 : decode cL_law 81 = .ok (.iconst 4, 1) := by decide +kernel
theorem dL_law_82 : decode cL_law 82 = .ok (.invokestatic 27, 3) := by decide +kernel
theorem dL_law_85 : decode cL_law 85 = .ok (.iadd, 1) := by decide +kernel
theorem dL_law_86 : decode cL_law 86 = .ok (.iastore, 1) := by decide +kernel
theorem dL_law_87 : decode cL_law 87 = .ok (.aload 5, 2) := by decide +kernel
theorem dL_law_89 : decode cL_law 89 = .ok (.iconst 0, 1) := by decide +kernel
theorem dL_law_90 : decode cL_law 90 = .ok (.iconst 0, 1) := by decide +kernel
theorem dL_law_91 : decode cL_law 91 = .ok (.iastore, 1) := by decide +kernel
theorem dL_law_92 : decode cL_law 92 = .ok (.aload 5, 2) := by decide +kernel
theorem dL_law_94 : decode cL_law 94 = .ok (.iconst 1, 1) := by decide +kernel
theorem dL_law_95 : decode cL_law 95 = .ok (.iconst 1, 1) := by decide +kernel
theorem dL_law_96 : decode cL_law 96 = .ok (.iastore, 1) := by decide +kernel
theorem dL_law_97 : decode cL_law 97 = .ok (.aload_n 1, 1) := by decide +kernel
theorem dL_law_98 : decode cL_law 98 = .ok (.aload_n 3, 1) := by decide +kernel
theorem dL_law_99 : decode cL_law 99 = .ok (.iconst 0, 1) := by decide +kernel
theorem dL_law_100 : decode cL_law 100 = .ok (.iaload, 1) := by decide +kernel
theorem dL_law_101 : decode cL_law 101 = .ok (.aload 4, 2) := by decide +kernel
theorem dL_law_103 : decode cL_law 103 = .ok (.iconst 0, 1) := by decide +kernel
theorem dL_law_104 : decode cL_law 104 = .ok (.iaload, 1) := by decide +kernel
theorem dL_law_105 : decode cL_law 105 = .ok (.invokevirtual 30, 3) := by decide +kernel
theorem dL_law_108 : decode cL_law 108 = .ok (.ifCond .ne 32, 3) := by decide +kernel
theorem dL_law_111 : decode cL_law 111 = .ok (.aload_n 1, 1) := by decide +kernel
theorem dL_law_112 : decode cL_law 112 = .ok (.aload_n 3, 1) := by decide +kernel
theorem dL_law_113 : decode cL_law 113 = .ok (.iconst 1, 1) := by decide +kernel
theorem dL_law_114 : decode cL_law 114 = .ok (.iaload, 1) := by decide +kernel
theorem dL_law_115 : decode cL_law 115 = .ok (.aload 4, 2) := by decide +kernel
theorem dL_law_117 : decode cL_law 117 = .ok (.iconst 1, 1) := by decide +kernel
theorem dL_law_118 : decode cL_law 118 = .ok (.iaload, 1) := by decide +kernel
theorem dL_law_119 : decode cL_law 119 = .ok (.invokevirtual 30, 3) := by decide +kernel
theorem dL_law_122 : decode cL_law 122 = .ok (.iconst 1, 1) := by decide +kernel
theorem dL_law_123 : decode cL_law 123 = .ok (.if_icmp .ne 17, 3) := by decide +kernel
theorem dL_law_126 : decode cL_law 126 = .ok (.aload_n 1, 1) := by decide +kernel
theorem dL_law_127 : decode cL_law 127 = .ok (.iconst 0, 1) := by decide +kernel
theorem dL_law_128 : decode cL_law 128 = .ok (.iconst 1, 1) := by decide +kernel
theorem dL_law_129 : decode cL_law 129 = .ok (.invokevirtual 33, 3) := by decide +kernel
theorem dL_law_132 : decode cL_law 132 = .ok (.iconst (-1), 1) := by decide +kernel
theorem dL_law_133 : decode cL_law 133 = .ok (.if_icmp .ne 7, 3) := by decide +kernel
theorem dL_law_136 : decode cL_law 136 = .ok (.iconst 1, 1) := by decide +kernel
theorem dL_law_137 : decode cL_law 137 = .ok (.goto 4, 3) := by decide +kernel
theorem dL_law_140 : decode cL_law 140 = .ok (.iconst 0, 1) := by decide +kernel
theorem dL_law_141 : decode cL_law 141 = .ok (.istore 7, 2) := by decide +kernel
theorem dL_law_143 : decode cL_law 143 = .ok (.iload 7, 2) := by decide +kernel
theorem dL_law_145 : decode cL_law 145 = .ok (.ifCond .eq 41, 3) := by decide +kernel
theorem dL_law_148 : decode cL_law 148 = .ok (.aload_n 1, 1) := by decide +kernel
theorem dL_law_149 : decode cL_law 149 = .ok (.iconst 0, 1) := by decide +kernel
theorem dL_law_150 : decode cL_law 150 = .ok (.iconst 0, 1) := by decide +kernel
theorem dL_law_151 : decode cL_law 151 = .ok (.invokevirtual 36, 3) := by decide +kernel
theorem dL_law_154 : decode cL_law 154 = .ok (.ifCond .ne 32, 3) := by decide +kernel
theorem dL_law_157 : decode cL_law 157 = .ok (.aload_n 1, 1) := by decide +kernel
theorem dL_law_158 : decode cL_law 158 = .ok (.iconst 1, 1) := by decide +kernel
theorem dL_law_159 : decode cL_law 159 = .ok (.iconst 1, 1) := by decide +kernel
theorem dL_law_160 : decode cL_law 160 = .ok (.invokevirtual 36, 3) := by decide +kernel
theorem dL_law_163 : decode cL_law 163 = .ok (.ifCond .ne 23, 3) := by decide +kernel
theorem dL_law_166 : decode cL_law 166 = .ok (.aload_n 1, 1) := by decide +kernel
theorem dL_law_167 : decode cL_law 167 = .ok (.iconst 0, 1) := by decide +kernel
theorem dL_law_168 : decode cL_law 168 = .ok (.invokevirtual 39, 3) := by decide +kernel
theorem dL_law_171 : decode cL_law 171 = .ok (.ifCond .eq 15, 3) := by decide +kernel
theorem dL_law_174 : decode cL_law 174 = .ok (.aload_n 1, 1) := by decide +kernel
theorem dL_law_175 : decode cL_law 175 = .ok (.iconst 1, 1) := by decide +kernel
theorem dL_law_176 : decode cL_law 176 = .ok (.invokevirtual 39, 3) := by decide +kernel
theorem dL_law_179 : decode cL_law 179 = .ok (.ifCond .eq 7, 3) := by decide +kernel
theorem dL_law_182 : decode cL_law 182 = .ok (.iconst 1, 1) := by decide +kernel
theorem dL_law_183 : decode cL_law 183 = .ok (.goto 4, 3) := by decide +kernel
theorem dL_law_186 : decode cL_law 186 = .ok (.iconst 0, 1) := by decide +kernel
theorem dL_law_187 : decode cL_law 187 = .ok (.istore 7, 2) := by decide +kernel
theorem dL_law_189 : decode cL_law 189 = .ok (.aload_n 1, 1) := by decide +kernel
theorem dL_law_190 : decode cL_law 190 = .ok (.iconst 0, 1) := by decide +kernel
theorem dL_law_191 : decode cL_law 191 = .ok (.iload_n 2, 1) := by decide +kernel
theorem dL_law_192 : decode cL_law 192 = .ok (.iconst 5, 1) := by decide +kernel
theorem dL_law_193 : decode cL_law 193 = .ok (.ishr, 1) := by decide +kernel
theorem dL_law_194 : decode cL_law 194 = .ok (.bipush 12, 2) := by decide +kernel
theorem dL_law_196 : decode cL_law 196 = .ok (.invokestatic 27, 3) := by decide +kernel
theorem dL_law_199 : decode cL_law 199 = .ok (.invokevirtual 43, 3) := by decide +kernel
theorem dL_law_202 : decode cL_law 202 = .ok (.pop, 1) := by decide +kernel
theorem dL_law_203 : decode cL_law 203 = .ok (.iconst 0, 1) := by decide +kernel
theorem dL_law_204 : decode cL_law 204 = .ok (.istore 8, 2) := by decide +kernel
theorem dL_law_206 : decode cL_law 206 = .ok (.aload_n 0, 1) := by decide +kernel
theorem dL_law_207 : decode cL_law 207 = .ok (.arraylength, 1) := by decide +kernel
theorem dL_law_208 : decode cL_law 208 = .ok (.bipush 40, 2) := by decide +kernel
theorem dL_law_210 : decode cL_law 210 = .ok (.if_icmp .ge 8, 3) := by decide +kernel
theorem dL_law_213 : decode cL_law 213 = .ok (.aload_n 0, 1) := by decide +kernel
theorem dL_law_214 : decode cL_law 214 = .ok (.arraylength, 1) := by decide +kernel
theorem dL_law_215 : decode cL_law 215 = .ok (.goto 5, 3) := by decide +kernel
theorem dL_law_218 : decode cL_law 218 = .ok (.bipush 40, 2) := by decide +kernel
theorem dL_law_220 : decode cL_law 220 = .ok (.istore 9, 2) := by decide +kernel
theorem dL_law_222 : decode cL_law 222 = .ok (.iconst 1, 1) := by decide +kernel
theorem dL_law_223 : decode cL_law 223 = .ok (.istore 10, 2) := by decide +kernel
theorem dL_law_225 : decode cL_law 225 = .ok (.iload 10, 2) := by decide +kernel
theorem dL_law_227 : decode cL_law 227 = .ok (.iload 9, 2) := by decide +kernel
theorem dL_law_229 : decode cL_law 229 = .ok (.if_icmp .ge 1192, 3) := by decide +kernel
theorem dL_law_232 : decode cL_law 232 = .ok (.iload 7, 2) := by decide +kernel
theorem dL_law_234 : decode cL_law 234 = .ok (.ifCond .eq 1187, 3) := by decide +kernel
theorem dL_law_237 : decode cL_law 237 = .ok (.aload_n 0, 1) := by decide +kernel
theorem dL_law_238 : decode cL_law 238 = .ok (.iload 10, 2) := by decide +kernel
theorem dL_law_240 : decode cL_law 240 = .ok (.invokestatic 24, 3) := by decide +kernel
theorem dL_law_243 : decode cL_law 243 = .ok (.istore 11, 2) := by decide +kernel
theorem dL_law_245 : decode cL_law 245 = .ok (.iload 11, 2) := by decide +kernel
theorem dL_law_247 : decode cL_law 247 = .ok (.bipush 12, 2) := by decide +kernel
theorem dL_law_249 : decode cL_law 249 = .ok (.invokestatic 27, 3) := by decide +kernel
theorem dL_law_252 : decode cL_law 252 = .ok (.istore 12, 2) := by decide +kernel
theorem dL_law_254 : decode cL_law 254 = .ok (.iload 11, 2) := by decide +kernel
theorem dL_law_256 : decode cL_law 256 = .ok (.iconst 4, 1) := by decide +kernel
theorem dL_law_257 : decode cL_law 257 = .ok (.ishr, 1) := by decide +kernel
theorem dL_law_258 : decode cL_law 258 = .ok (.iconst 2, 1) := by decide +kernel
theorem dL_law_259 : decode cL_law 259 = .ok (.invokestatic 27, 3) := by decide +kernel
theorem dL_law_262 : decode cL_law 262 = .ok (.istore 13, 2) := by decide +kernel
theorem dL_law_264 : decode cL_law 264 = .ok (.iload 11, 2) := by decide +kernel
theorem dL_law_266 : decode cL_law 266 = .ok (.iconst 5, 1) := by decide +kernel
theorem dL_law_267 : decode cL_law 267 = .ok (.ishr, 1) := by decide +kernel
theorem dL_law_268 : decode cL_law 268 = .ok (.iconst 3, 1) := by decide +kernel
theorem dL_law_269 : decode cL_law 269 = .ok (.invokestatic 27, 3) := by decide +kernel
theorem dL_law_272 : decode cL_law 272 = .ok (.istore 14, 2) := by decide +kernel
theorem dL_law_274 : decode cL_law 274 = .ok (.iload 11, 2) := by decide +kernel
theorem dL_law_276 : decode cL_law 276 = .ok (.bipush 6, 2) := by decide +kernel
theorem dL_law_278 : decode cL_law 278 = .ok (.ishr, 1) := by decide +kernel
theorem dL_law_279 : decode cL_law 279 = .ok (.bipush 8, 2) := by decide +kernel
theorem dL_law_281 : decode cL_law 281 = .ok (.invokestatic 27, 3) := by decide +kernel
theorem dL_law_284 : decode cL_law 284 = .ok (.istore 15, 2) := by decide +kernel
theorem dL_law_286 : decode cL_law 286 = .ok (.iload 11, 2) := by decide +kernel
theorem dL_law_288 : decode cL_law 288 = .ok (.bipush 9, 2) := by decide +kernel
theorem dL_law_290 : decode cL_law 290 = .ok (.ishr, 1) := by decide +kernel
theorem dL_law_291 : decode cL_law 291 = .ok (.bipush 16, 2) := by decide +kernel
theorem dL_law_293 : decode cL_law 293 = .ok (.invokestatic 27, 3) := by decide +kernel
theorem dL_law_296 : decode cL_law 296 = .ok (.istore 16, 2) := by decide +kernel
theorem dL_law_298 : decode cL_law 298 = .ok (.iload 12, 2) := by decide +kernel
theorem dL_law_300 : decode cL_law 300 = .ok (.iconst 2, 1) := by decide +kernel
theorem dL_law_301 : decode cL_law 301 = .ok (.if_icmp .ge 99, 3) := by decide +kernel
theorem dL_law_304 : decode cL_law 304 = .ok (.bipush 32, 2) := by decide +kernel
theorem dL_law_306 : decode cL_law 306 = .ok (.iload 13, 2) := by decide +kernel
theorem dL_law_308 : decode cL_law 308 = .ok (.imul, 1) := by decide +kernel
theorem dL_law_309 : decode cL_law 309 = .ok (.iconst 4, 1) := by decide +kernel
theorem dL_law_310 : decode cL_law 310 = .ok (.iload 11, 2) := by decide +kernel
theorem dL_law_312 : decode cL_law 312 = .ok (.bipush 6, 2) := by decide +kernel
theorem dL_law_314 : decode cL_law 314 = .ok (.ishr, 1) := by decide +kernel
theorem dL_law_315 : decode cL_law 315 = .ok (.aload_n 3, 1) := by decide +kernel
theorem dL_law_316 : decode cL_law 316 = .ok (.iload 13, 2) := by decide +kernel
theorem dL_law_318 : decode cL_law 318 = .ok (.iaload, 1) := by decide +kernel
theorem dL_law_319 : decode cL_law 319 = .ok (.invokestatic 27, 3) := by decide +kernel
theorem dL_law_322 : decode cL_law 322 = .ok (.imul, 1) := by decide +kernel
theorem dL_law_323 : decode cL_law 323 = .ok (.iadd, 1) := by decide +kernel
theorem dL_law_324 : decode cL_law 324 = .ok (.iload 11, 2) := by decide +kernel
theorem dL_law_326 : decode cL_law 326 = .ok (.bipush 9, 2) := by decide +kernel
theorem dL_law_328 : decode cL_law 328 = .ok (.ishr, 1) := by decide +kernel
theorem dL_law_329 : decode cL_law 329 = .ok (.aload 4, 2) := by decide +kernel
theorem dL_law_331 : decode cL_law 331 = .ok (.iload 13, 2) := by decide +kernel
theorem dL_law_333 : decode cL_law 333 = .ok (.iaload, 1) := by decide +kernel
theorem dL_law_334 : decode cL_law 334 = .ok (.invokestatic 27, 3) := by decide +kernel
theorem dL_law_337 : decode cL_law 337 = .ok (.iadd, 1) := by decide +kernel
theorem dL_law_338 : decode cL_law 338 = .ok (.istore 17, 2) := by decide +kernel
theorem dL_law_340 : decode cL_law 340 = .ok (.iload 11, 2) := by decide +kernel
theorem dL_law_342 : decode cL_law 342 = .ok (.iconst 3, 1) := by decide +kernel
theorem dL_law_343 : decode cL_law 343 = .ok (.ishr, 1) := by decide +kernel
theorem dL_law_344 : decode cL_law 344 = .ok (.sipush 511, 3) := by decide +kernel
theorem dL_law_347 : decode cL_law 347 = .ok (.invokestatic 27, 3) := by decide +kernel
theorem dL_law_350 : decode cL_law 350 = .ok (.sipush 255, 3) := by decide +kernel
theorem dL_law_353 : decode cL_law 353 = .ok (.isub, 1) := by decide +kernel
theorem dL_law_354 : decode cL_law 354 = .ok (.istore 18, 2) := by decide +kernel
theorem dL_law_356 : decode cL_law 356 = .ok (.aload_n 1, 1) := by decide +kernel
theorem dL_law_357 : decode cL_law 357 = .ok (.iload 13, 2) := by decide +kernel
theorem dL_law_359 : decode cL_law 359 = .ok (.iload 17, 2) := by decide +kernel
theorem dL_law_361 : decode cL_law 361 = .ok (.bipush 32, 2) := by decide +kernel
theorem dL_law_363 : decode cL_law 363 = .ok (.irem, 1) := by decide +kernel
theorem dL_law_364 : decode cL_law 364 = .ok (.iconst 4, 1) := by decide +kernel
theorem dL_law_365 : decode cL_law 365 = .ok (.idiv, 1) := by decide +kernel
theorem dL_law_366 : decode cL_law 366 = .ok (.iload 17, 2) := by decide +kernel
theorem dL_law_368 : decode cL_law 368 = .ok (.iconst 4, 1) := by decide +kernel
theorem dL_law_369 : decode cL_law 369 = .ok (.irem, 1) := by decide +kernel
theorem dL_law_370 : decode cL_law 370 = .ok (.iload 18, 2) := by decide +kernel
theorem dL_law_372 : decode cL_law 372 = .ok (.invokevirtual 46, 3) := by decide +kernel
theorem dL_law_375 : decode cL_law 375 = .ok (.aload 6, 2) := by decide +kernel
theorem dL_law_377 : decode cL_law 377 = .ok (.iload 17, 2) := by decide +kernel
theorem dL_law_379 : decode cL_law 379 = .ok (.iaload, 1) := by decide +kernel
theorem dL_law_380 : decode cL_law 380 = .ok (.if_icmp .ne 7, 3) := by decide +kernel
theorem dL_law_383 : decode cL_law 383 = .ok (.iconst 1, 1) := by decide +kernel
theorem dL_law_384 : decode cL_law 384 = .ok (.goto 4, 3) := by decide +kernel
theorem dL_law_387 : decode cL_law 387 = .ok (.iconst 0, 1) := by decide +kernel
theorem dL_law_388 : decode cL_law 388 = .ok (.istore 7, 2) := by decide +kernel
theorem dL_law_390 : decode cL_law 390 = .ok (.aload 6, 2) := by decide +kernel
theorem dL_law_392 : decode cL_law 392 = .ok (.iload 17, 2) := by decide +kernel
theorem dL_law_394 : decode cL_law 394 = .ok (.iload 18, 2) := by decide +kernel
theorem dL_law_396 : decode cL_law 396 = .ok (.iastore, 1) := by decide +kernel
theorem dL_law_397 : decode cL_law 397 = .ok (.goto 669, 3) := by decide +kernel
theorem dL_law_400 : decode cL_law 400 = .ok (.iload 12, 2) := by decide +kernel
theorem dL_law_402 : decode cL_law 402 = .ok (.iconst 4, 1) := by decide +kernel
theorem dL_law_403 : decode cL_law 403 = .ok (.if_icmp .ge 40, 3) := by decide +kernel
theorem dL_law_406 : decode cL_law 406 = .ok (.aload_n 1, 1) := by decide +kernel
theorem dL_law_407 : decode cL_law 407 = .ok (.iload 13, 2) := by decide +kernel
theorem dL_law_409 : decode cL_law 409 = .ok (.invokevirtual 49, 3) := by decide +kernel
theorem dL_law_412 : decode cL_law 412 = .ok (.istore 17, 2) := by decide +kernel
theorem dL_law_414 : decode cL_law 414 = .ok (.aload_n 1, 1) := by decide +kernel
theorem dL_law_415 : decode cL_law 415 = .ok (.iload 13, 2) := by decide +kernel
theorem dL_law_417 : decode cL_law 417 = .ok (.invokevirtual 39, 3) := by decide +kernel
theorem dL_law_420 : decode cL_law 420 = .ok (.iload 17, 2) := by decide +kernel
theorem dL_law_422 : decode cL_law 422 = .ok (.ifCond .ne 7, 3) := by decide +kernel
theorem dL_law_425 : decode cL_law 425 = .ok (.iconst 1, 1) := by decide +kernel
theorem dL_law_426 : decode cL_law 426 = .ok (.goto 4, 3) := by decide +kernel
theorem dL_law_429 : decode cL_law 429 = .ok (.iconst 0, 1) := by decide +kernel
theorem dL_law_430 : decode cL_law 430 = .ok (.if_icmp .ne 7, 3) := by decide +kernel
theorem dL_law_433 : decode cL_law 433 = .ok (.iconst 1, 1) := by decide +kernel
theorem dL_law_434 : decode cL_law 434 = .ok (.goto 4, 3) := by decide +kernel
theorem dL_law_437 : decode cL_law 437 = .ok (.iconst 0, 1) := by decide +kernel
theorem dL_law_438 : decode cL_law 438 = .ok (.istore 7, 2) := by decide +kernel
theorem dL_law_440 : decode cL_law 440 = .ok (.goto 626, 3) := by decide +kernel
theorem dL_law_443 : decode cL_law 443 = .ok (.iload 12, 2) := by decide +kernel
theorem dL_law_445 : decode cL_law 445 = .ok (.iconst 4, 1) := by decide +kernel
theorem dL_law_446 : decode cL_law 446 = .ok (.if_icmp .ne 112, 3) := by decide +kernel
theorem dL_law_449 : decode cL_law 449 = .ok (.aload_n 1, 1) := by decide +kernel
theorem dL_law_450 : decode cL_law 450 = .ok (.iload 14, 2) := by decide +kernel
theorem dL_law_452 : decode cL_law 452 = .ok (.iload 15, 2) := by decide +kernel
theorem dL_law_454 : decode cL_law 454 = .ok (.iload 16, 2) := by decide +kernel
theorem dL_law_456 : decode cL_law 456 = .ok (.iconst 3, 1) := by decide +kernel
theorem dL_law_457 : decode cL_law 457 = .ok (.invokevirtual 19, 3) := by decide +kernel
theorem dL_law_460 : decode cL_law 460 = .ok (.ifCond .ne 606, 3) := by decide +kernel
theorem dL_law_463 : decode cL_law 463 = .ok (.iload 11, 2) := by decide +kernel
theorem dL_law_465 : decode cL_law 465 = .ok (.bipush 12, 2) := by decide +kernel
theorem dL_law_467 : decode cL_law 467 = .ok (.ishr, 1) := by decide +kernel
theorem dL_law_468 : decode cL_law 468 = .ok (.bipush 16, 2) := by decide +kernel
theorem dL_law_470 : decode cL_law 470 = .ok (.invokestatic 27, 3) := by decide +kernel
theorem dL_law_473 : decode cL_law 473 = .ok (.istore 17, 2) := by decide +kernel
theorem dL_law_475 : decode cL_law 475 = .ok (.aload_n 1, 1) := by decide +kernel
theorem dL_law_476 : decode cL_law 476 = .ok (.iload 14, 2) := by decide +kernel
theorem dL_law_478 : decode cL_law 478 = .ok (.iload 15, 2) := by decide +kernel
theorem dL_law_480 : decode cL_law 480 = .ok (.iload 16, 2) := by decide +kernel
theorem dL_law_482 : decode cL_law 482 = .ok (.iload 17, 2) := by decide +kernel
theorem dL_law_484 : decode cL_law 484 = .ok (.invokevirtual 53, 3) := by decide +kernel
theorem dL_law_487 : decode cL_law 487 = .ok (.aload_n 1, 1) := by decide +kernel
theorem dL_law_488 : decode cL_law 488 = .ok (.iload 14, 2) := by decide +kernel
theorem dL_law_490 : decode cL_law 490 = .ok (.iload 15, 2) := by decide +kernel
theorem dL_law_492 : decode cL_law 492 = .ok (.iload 16, 2) := by decide +kernel
theorem dL_law_494 : decode cL_law 494 = .ok (.iconst 0, 1) := by decide +kernel
theorem dL_law_495 : decode cL_law 495 = .ok (.invokevirtual 19, 3) := by decide +kernel
theorem dL_law_498 : decode cL_law 498 = .ok (.iload 17, 2) := by decide +kernel
theorem dL_law_500 : decode cL_law 500 = .ok (.if_icmp .ne 52, 3) := by decide +kernel
theorem dL_law_503 : decode cL_law 503 = .ok (.aload_n 1, 1) := by decide +kernel
theorem dL_law_504 : decode cL_law 504 = .ok (.iload 14, 2) := by decide +kernel
theorem dL_law_506 : decode cL_law 506 = .ok (.iload 15, 2) := by decide +kernel
theorem dL_law_508 : decode cL_law 508 = .ok (.iload 16, 2) := by decide +kernel
theorem dL_law_510 : decode cL_law 510 = .ok (.iconst 1, 1) := by decide +kernel
theorem dL_law_511 : decode cL_law 511 = .ok (.invokevirtual 19, 3) := by decide +kernel
theorem dL_law_514 : decode cL_law 514 = .ok (.iload 17, 2) := by decide +kernel
theorem dL_law_516 : decode cL_law 516 = .ok (.if_icmp .ne 36, 3) := by decide +kernel
theorem dL_law_519 : decode cL_law 519 = .ok (.aload_n 1, 1) := by decide +kernel
theorem dL_law_520 : decode cL_law 520 = .ok (.iload 14, 2) := by decide +kernel
theorem dL_law_522 : decode cL_law 522 = .ok (.iload 15, 2) := by decide +kernel
theorem dL_law_524 : decode cL_law 524 = .ok (.iload 16, 2) := by decide +kernel
theorem dL_law_526 : decode cL_law 526 = .ok (.iconst 3, 1) := by decide +kernel
theorem dL_law_527 : decode cL_law 527 = .ok (.invokevirtual 19, 3) := by decide +kernel
theorem dL_law_530 : decode cL_law 530 = .ok (.iconst 1, 1) := by decide +kernel
theorem dL_law_531 : decode cL_law 531 = .ok (.if_icmp .ne 21, 3) := by decide +kernel
theorem dL_law_534 : decode cL_law 534 = .ok (.aload_n 1, 1) := by decide +kernel
theorem dL_law_535 : decode cL_law 535 = .ok (.iload 14, 2) := by decide +kernel
theorem dL_law_537 : decode cL_law 537 = .ok (.iload 15, 2) := by decide +kernel
theorem dL_law_539 : decode cL_law 539 = .ok (.iload 16, 2) := by decide +kernel
theorem dL_law_541 : decode cL_law 541 = .ok (.iconst 4, 1) := by decide +kernel
theorem dL_law_542 : decode cL_law 542 = .ok (.invokevirtual 19, 3) := by decide +kernel
theorem dL_law_545 : decode cL_law 545 = .ok (.ifCond .ne 7, 3) := by decide +kernel
theorem dL_law_548 : decode cL_law 548 = .ok (.iconst 1, 1) := by decide +kernel
theorem dL_law_549 : decode cL_law 549 = .ok (.goto 4, 3) := by decide +kernel
theorem dL_law_552 : decode cL_law 552 = .ok (.iconst 0, 1) := by decide +kernel
theorem dL_law_553 : decode cL_law 553 = .ok (.istore 7, 2) := by decide +kernel
theorem dL_law_555 : decode cL_law 555 = .ok (.goto 511, 3) := by decide +kernel
theorem dL_law_558 : decode cL_law 558 = .ok (.iload 12, 2) := by decide +kernel
theorem dL_law_560 : decode cL_law 560 = .ok (.iconst 5, 1) := by decide +kernel
theorem dL_law_561 : decode cL_law 561 = .ok (.if_icmp .ne 68, 3) := by decide +kernel
theorem dL_law_564 : decode cL_law 564 = .ok (.aload_n 1, 1) := by decide +kernel
theorem dL_law_565 : decode cL_law 565 = .ok (.iload 14, 2) := by decide +kernel
theorem dL_law_567 : decode cL_law 567 = .ok (.invokevirtual 57, 3) := by decide +kernel
theorem dL_law_570 : decode cL_law 570 = .ok (.fstore 17, 2) := by decide +kernel
theorem dL_law_572 : decode cL_law 572 = .ok (.aload_n 1, 1) := by decide +kernel
theorem dL_law_573 : decode cL_law 573 = .ok (.iload 14, 2) := by decide +kernel
theorem dL_law_575 : decode cL_law 575 = .ok (.iload 11, 2) := by decide +kernel
theorem dL_law_577 : decode cL_law 577 = .ok (.iconst 5, 1) := by decide +kernel
theorem dL_law_578 : decode cL_law 578 = .ok (.ishr, 1) := by decide +kernel
theorem dL_law_579 : decode cL_law 579 = .ok (.ldc 61, 2) := by decide +kernel
theorem dL_law_581 : decode cL_law 581 = .ok (.invokestatic 27, 3) := by decide +kernel
theorem dL_law_584 : decode cL_law 584 = .ok (.iconst 1, 1) := by decide +kernel
theorem dL_law_585 : decode cL_law 585 = .ok (.iload 11, 2) := by decide +kernel
theorem dL_law_587 : decode cL_law 587 = .ok (.bipush 8, 2) := by decide +kernel
theorem dL_law_589 : decode cL_law 589 = .ok (.ishr, 1) := by decide +kernel
theorem dL_law_590 : decode cL_law 590 = .ok (.iconst 5, 1) := by decide +kernel
theorem dL_law_591 : decode cL_law 591 = .ok (.invokestatic 27, 3) := by decide +kernel
theorem dL_law_594 : decode cL_law 594 = .ok (.iadd, 1) := by decide +kernel
theorem dL_law_595 : decode cL_law 595 = .ok (.invokevirtual 62, 3) := by decide +kernel
theorem dL_law_598 : decode cL_law 598 = .ok (.istore 18, 2) := by decide +kernel
theorem dL_law_600 : decode cL_law 600 = .ok (.aload_n 1, 1) := by decide +kernel
theorem dL_law_601 : decode cL_law 601 = .ok (.iload 14, 2) := by decide +kernel
theorem dL_law_603 : decode cL_law 603 = .ok (.invokevirtual 57, 3) := by decide +kernel
theorem dL_law_606 : decode cL_law 606 = .ok (.fload 17, 2) := by decide +kernel
theorem dL_law_608 : decode cL_law 608 = .ok (.iload 18, 2) := by decide +kernel
theorem dL_law_610 : decode cL_law 610 = .ok (.i2f, 1) := by decide +kernel
theorem dL_law_611 : decode cL_law 611 = .ok (.ldc 66, 2) := by decide +kernel
theorem dL_law_613 : decode cL_law 613 = .ok (.fdiv, 1) := by decide +kernel
theorem dL_law_614 : decode cL_law 614 = .ok (.fadd, 1) := by decide +kernel
theorem dL_law_615 : decode cL_law 615 = .ok (.fcmp .l, 1) := by decide +kernel
theorem dL_law_616 : decode cL_law 616 = .ok (.ifCond .ne 7, 3) := by decide +kernel
theorem dL_law_619 : decode cL_law 619 = .ok (.iconst 1, 1) := by decide +kernel
theorem dL_law_620 : decode cL_law 620 = .ok (.goto 4, 3) := by decide +kernel
theorem dL_law_623 : decode cL_law 623 = .ok (.iconst 0, 1) := by decide +kernel
theorem dL_law_624 : decode cL_law 624 = .ok (.istore 7, 2) := by decide +kernel
theorem dL_law_626 : decode cL_law 626 = .ok (.goto 440, 3) := by decide +kernel
theorem dL_law_629 : decode cL_law 629 = .ok (.iload 12, 2) := by decide +kernel
theorem dL_law_631 : decode cL_law 631 = .ok (.bipush 6, 2) := by decide +kernel
theorem dL_law_633 : decode cL_law 633 = .ok (.if_icmp .ne 51, 3) := by decide +kernel
theorem dL_law_636 : decode cL_law 636 = .ok (.aload_n 1, 1) := by decide +kernel
theorem dL_law_637 : decode cL_law 637 = .ok (.invokevirtual 67, 3) := by decide +kernel
theorem dL_law_640 : decode cL_law 640 = .ok (.istore 17, 2) := by decide +kernel
theorem dL_law_642 : decode cL_law 642 = .ok (.aload_n 1, 1) := by decide +kernel
theorem dL_law_643 : decode cL_law 643 = .ok (.iconst 1, 1) := by decide +kernel
theorem dL_law_644 : decode cL_law 644 = .ok (.iload 11, 2) := by decide +kernel
theorem dL_law_646 : decode cL_law 646 = .ok (.iconst 4, 1) := by decide +kernel
theorem dL_law_647 : decode cL_law 647 = .ok (.ishr, 1) := by decide +kernel
theorem dL_law_648 : decode cL_law 648 = .ok (.bipush 60, 2) := by decide +kernel
theorem dL_law_650 : decode cL_law 650 = .ok (.invokestatic 27, 3) := by decide +kernel
theorem dL_law_653 : decode cL_law 653 = .ok (.iadd, 1) := by decide +kernel
theorem dL_law_654 : decode cL_law 654 = .ok (.invokevirtual 71, 3) := by decide +kernel
theorem dL_law_657 : decode cL_law 657 = .ok (.iload 17, 2) := by decide +kernel
theorem dL_law_659 : decode cL_law 659 = .ok (.iconst 1, 1) := by decide +kernel
theorem dL_law_660 : decode cL_law 660 = .ok (.iadd, 1) := by decide +kernel
theorem dL_law_661 : decode cL_law 661 = .ok (.iload 11, 2) := by decide +kernel
theorem dL_law_663 : decode cL_law 663 = .ok (.iconst 4, 1) := by decide +kernel
theorem dL_law_664 : decode cL_law 664 = .ok (.ishr, 1) := by decide +kernel
theorem dL_law_665 : decode cL_law 665 = .ok (.bipush 60, 2) := by decide +kernel
theorem dL_law_667 : decode cL_law 667 = .ok (.invokestatic 27, 3) := by decide +kernel
theorem dL_law_670 : decode cL_law 670 = .ok (.iadd, 1) := by decide +kernel
theorem dL_law_671 : decode cL_law 671 = .ok (.if_icmp .ne 7, 3) := by decide +kernel
theorem dL_law_674 : decode cL_law 674 = .ok (.iconst 1, 1) := by decide +kernel
theorem dL_law_675 : decode cL_law 675 = .ok (.goto 4, 3) := by decide +kernel
theorem dL_law_678 : decode cL_law 678 = .ok (.iconst 0, 1) := by decide +kernel
theorem dL_law_679 : decode cL_law 679 = .ok (.istore 7, 2) := by decide +kernel
theorem dL_law_681 : decode cL_law 681 = .ok (.goto 385, 3) := by decide +kernel
theorem dL_law_684 : decode cL_law 684 = .ok (.iload 12, 2) := by decide +kernel
end
section
theorem dL_law_686 : decode cL_law 686 = .ok (.bipush 7, 2) := by decide +kernel
theorem dL_law_688 : decode cL_law 688 = .ok (.if_icmp .ne 39, 3) := by decide +kernel
theorem dL_law_691 : decode cL_law 691 = .ok (.iload 8, 2) := by decide +kernel
theorem dL_law_693 : decode cL_law 693 = .ok (.istore 17, 2) := by decide +kernel
theorem dL_law_695 : decode cL_law 695 = .ok (.iload 11, 2) := by decide +kernel
theorem dL_law_697 : decode cL_law 697 = .ok (.iconst 4, 1) := by decide +kernel
theorem dL_law_698 : decode cL_law 698 = .ok (.ishr, 1) := by decide +kernel
theorem dL_law_699 : decode cL_law 699 = .ok (.bipush 30, 2) := by decide +kernel
theorem dL_law_701 : decode cL_law 701 = .ok (.invokestatic 27, 3) := by decide +kernel
theorem dL_law_704 : decode cL_law 704 = .ok (.istore 8, 2) := by decide +kernel
theorem dL_law_706 : decode cL_law 706 = .ok (.aload_n 1, 1) := by decide +kernel
theorem dL_law_707 : decode cL_law 707 = .ok (.iload 8, 2) := by decide +kernel
theorem dL_law_709 : decode cL_law 709 = .ok (.invokevirtual 74, 3) := by decide +kernel
theorem dL_law_712 : decode cL_law 712 = .ok (.iload 17, 2) := by decide +kernel
theorem dL_law_714 : decode cL_law 714 = .ok (.if_icmp .ne 7, 3) := by decide +kernel
theorem dL_law_717 : decode cL_law 717 = .ok (.iconst 1, 1) := by decide +kernel
theorem dL_law_718 : decode cL_law 718 = .ok (.goto 4, 3) := by decide +kernel
theorem dL_law_721 : decode cL_law 721 = .ok (.iconst 0, 1) := by decide +kernel
theorem dL_law_722 : decode cL_law 722 = .ok (.istore 7, 2) := by decide +kernel
theorem dL_law_724 : decode cL_law 724 = .ok (.goto 342, 3) := by decide +kernel
theorem dL_law_727 : decode cL_law 727 = .ok (.iload 12, 2) := by decide +kernel
theorem dL_law_729 : decode cL_law 729 = .ok (.bipush 8, 2) := by decide +kernel
theorem dL_law_731 : decode cL_law 731 = .ok (.if_icmp .ne 55, 3) := by decide +kernel
theorem dL_law_734 : decode cL_law 734 = .ok (.aload_n 1, 1) := by decide +kernel
theorem dL_law_735 : decode cL_law 735 = .ok (.iload 14, 2) := by decide +kernel
theorem dL_law_737 : decode cL_law 737 = .ok (.iconst 1, 1) := by decide +kernel
theorem dL_law_738 : decode cL_law 738 = .ok (.iload 11, 2) := by decide +kernel
theorem dL_law_740 : decode cL_law 740 = .ok (.bipush 6, 2) := by decide +kernel
theorem dL_law_742 : decode cL_law 742 = .ok (.ishr, 1) := by decide +kernel
theorem dL_law_743 : decode cL_law 743 = .ok (.iconst 4, 1) := by decide +kernel
theorem dL_law_744 : decode cL_law 744 = .ok (.invokestatic 27, 3) := by decide +kernel
theorem dL_law_747 : decode cL_law 747 = .ok (.iadd, 1) := by decide +kernel
theorem dL_law_748 : decode cL_law 748 = .ok (.bipush 40, 2) := by decide +kernel
theorem dL_law_750 : decode cL_law 750 = .ok (.iload 11, 2) := by decide +kernel
theorem dL_law_752 : decode cL_law 752 = .ok (.bipush 8, 2) := by decide +kernel
theorem dL_law_754 : decode cL_law 754 = .ok (.ishr, 1) := by decide +kernel
theorem dL_law_755 : decode cL_law 755 = .ok (.bipush 88, 2) := by decide +kernel
theorem dL_law_757 : decode cL_law 757 = .ok (.invokestatic 27, 3) := by decide +kernel
theorem dL_law_760 : decode cL_law 760 = .ok (.iadd, 1) := by decide +kernel
theorem dL_law_761 : decode cL_law 761 = .ok (.invokevirtual 77, 3) := by decide +kernel
theorem dL_law_764 : decode cL_law 764 = .ok (.pop, 1) := by decide +kernel
theorem dL_law_765 : decode cL_law 765 = .ok (.aload_n 1, 1) := by decide +kernel
theorem dL_law_766 : decode cL_law 766 = .ok (.iload 14, 2) := by decide +kernel
theorem dL_law_768 : decode cL_law 768 = .ok (.iconst 1, 1) := by decide +kernel
theorem dL_law_769 : decode cL_law 769 = .ok (.iload 11, 2) := by decide +kernel
theorem dL_law_771 : decode cL_law 771 = .ok (.bipush 7, 2) := by decide +kernel
theorem dL_law_773 : decode cL_law 773 = .ok (.ishr, 1) := by decide +kernel
theorem dL_law_774 : decode cL_law 774 = .ok (.iconst 5, 1) := by decide +kernel
theorem dL_law_775 : decode cL_law 775 = .ok (.invokestatic 27, 3) := by decide +kernel
theorem dL_law_778 : decode cL_law 778 = .ok (.ishl, 1) := by decide +kernel
theorem dL_law_779 : decode cL_law 779 = .ok (.invokevirtual 80, 3) := by decide +kernel
theorem dL_law_782 : decode cL_law 782 = .ok (.pop, 1) := by decide +kernel
theorem dL_law_783 : decode cL_law 783 = .ok (.goto 283, 3) := by decide +kernel
theorem dL_law_786 : decode cL_law 786 = .ok (.iload 12, 2) := by decide +kernel
theorem dL_law_788 : decode cL_law 788 = .ok (.bipush 9, 2) := by decide +kernel
theorem dL_law_790 : decode cL_law 790 = .ok (.if_icmp .ne 50, 3) := by decide +kernel
theorem dL_law_793 : decode cL_law 793 = .ok (.aload_n 1, 1) := by decide +kernel
theorem dL_law_794 : decode cL_law 794 = .ok (.iload 14, 2) := by decide +kernel
theorem dL_law_796 : decode cL_law 796 = .ok (.iload 16, 2) := by decide +kernel
theorem dL_law_798 : decode cL_law 798 = .ok (.iload 11, 2) := by decide +kernel
theorem dL_law_800 : decode cL_law 800 = .ok (.iconst 5, 1) := by decide +kernel
theorem dL_law_801 : decode cL_law 801 = .ok (.ishr, 1) := by decide +kernel
theorem dL_law_802 : decode cL_law 802 = .ok (.bipush 7, 2) := by decide +kernel
theorem dL_law_804 : decode cL_law 804 = .ok (.invokestatic 27, 3) := by decide +kernel
theorem dL_law_807 : decode cL_law 807 = .ok (.iconst 3, 1) := by decide +kernel
theorem dL_law_808 : decode cL_law 808 = .ok (.isub, 1) := by decide +kernel
theorem dL_law_809 : decode cL_law 809 = .ok (.invokevirtual 83, 3) := by decide +kernel
theorem dL_law_812 : decode cL_law 812 = .ok (.pop, 1) := by decide +kernel
theorem dL_law_813 : decode cL_law 813 = .ok (.aload_n 1, 1) := by decide +kernel
theorem dL_law_814 : decode cL_law 814 = .ok (.iload 14, 2) := by decide +kernel
theorem dL_law_816 : decode cL_law 816 = .ok (.iload 11, 2) := by decide +kernel
theorem dL_law_818 : decode cL_law 818 = .ok (.bipush 8, 2) := by decide +kernel
theorem dL_law_820 : decode cL_law 820 = .ok (.ishr, 1) := by decide +kernel
theorem dL_law_821 : decode cL_law 821 = .ok (.iconst 2, 1) := by decide +kernel
theorem dL_law_822 : decode cL_law 822 = .ok (.invokestatic 27, 3) := by decide +kernel
theorem dL_law_825 : decode cL_law 825 = .ok (.ifCond .ne 7, 3) := by decide +kernel
theorem dL_law_828 : decode cL_law 828 = .ok (.iconst 1, 1) := by decide +kernel
theorem dL_law_829 : decode cL_law 829 = .ok (.goto 4, 3) := by decide +kernel
theorem dL_law_832 : decode cL_law 832 = .ok (.iconst 0, 1) := by decide +kernel
theorem dL_law_833 : decode cL_law 833 = .ok (.invokevirtual 86, 3) := by decide +kernel
theorem dL_law_836 : decode cL_law 836 = .ok (.pop, 1) := by decide +kernel
theorem dL_law_837 : decode cL_law 837 = .ok (.goto 229, 3) := by decide +kernel
theorem dL_law_840 : decode cL_law 840 = .ok (.iload 12, 2) := by decide +kernel
theorem dL_law_842 : decode cL_law 842 = .ok (.bipush 10, 2) := by decide +kernel
theorem dL_law_844 : decode cL_law 844 = .ok (.if_icmp .ne 206, 3) := by decide +kernel
theorem dL_law_847 : decode cL_law 847 = .ok (.iload 14, 2) := by decide +kernel
theorem dL_law_849 : decode cL_law 849 = .ok (.aload 5, 2) := by decide +kernel
theorem dL_law_851 : decode cL_law 851 = .ok (.iconst 1, 1) := by decide +kernel
theorem dL_law_852 : decode cL_law 852 = .ok (.iload 13, 2) := by decide +kernel
theorem dL_law_854 : decode cL_law 854 = .ok (.isub, 1) := by decide +kernel
theorem dL_law_855 : decode cL_law 855 = .ok (.iaload, 1) := by decide +kernel
theorem dL_law_856 : decode cL_law 856 = .ok (.if_icmp .ne 7, 3) := by decide +kernel
theorem dL_law_859 : decode cL_law 859 = .ok (.iconst 3, 1) := by decide +kernel
theorem dL_law_860 : decode cL_law 860 = .ok (.goto 5, 3) := by decide +kernel
theorem dL_law_863 : decode cL_law 863 = .ok (.iload 14, 2) := by decide +kernel
theorem dL_law_865 : decode cL_law 865 = .ok (.istore 17, 2) := by decide +kernel
theorem dL_law_867 : decode cL_law 867 = .ok (.aload_n 1, 1) := by decide +kernel
theorem dL_law_868 : decode cL_law 868 = .ok (.iload 13, 2) := by decide +kernel
theorem dL_law_870 : decode cL_law 870 = .ok (.iload 17, 2) := by decide +kernel
theorem dL_law_872 : decode cL_law 872 = .ok (.invokevirtual 90, 3) := by decide +kernel
theorem dL_law_875 : decode cL_law 875 = .ok (.istore 18, 2) := by decide +kernel
theorem dL_law_877 : decode cL_law 877 = .ok (.aload_n 1, 1) := by decide +kernel
theorem dL_law_878 : decode cL_law 878 = .ok (.iload 13, 2) := by decide +kernel
theorem dL_law_880 : decode cL_law 880 = .ok (.invokevirtual 93, 3) := by decide +kernel
theorem dL_law_883 : decode cL_law 883 = .ok (.aload 5, 2) := by decide +kernel
theorem dL_law_885 : decode cL_law 885 = .ok (.iload 13, 2) := by decide +kernel
theorem dL_law_887 : decode cL_law 887 = .ok (.iaload, 1) := by decide +kernel
theorem dL_law_888 : decode cL_law 888 = .ok (.if_icmp .ne 28, 3) := by decide +kernel
theorem dL_law_891 : decode cL_law 891 = .ok (.aload_n 1, 1) := by decide +kernel
theorem dL_law_892 : decode cL_law 892 = .ok (.iload 13, 2) := by decide +kernel
theorem dL_law_894 : decode cL_law 894 = .ok (.iconst 0, 1) := by decide +kernel
theorem dL_law_895 : decode cL_law 895 = .ok (.invokevirtual 8, 3) := by decide +kernel
theorem dL_law_898 : decode cL_law 898 = .ok (.iconst (-1), 1) := by decide +kernel
theorem dL_law_899 : decode cL_law 899 = .ok (.if_icmp .ne 17, 3) := by decide +kernel
theorem dL_law_902 : decode cL_law 902 = .ok (.aload_n 1, 1) := by decide +kernel
theorem dL_law_903 : decode cL_law 903 = .ok (.iload 13, 2) := by decide +kernel
theorem dL_law_905 : decode cL_law 905 = .ok (.invokevirtual 96, 3) := by decide +kernel
theorem dL_law_908 : decode cL_law 908 = .ok (.iconst (-1), 1) := by decide +kernel
theorem dL_law_909 : decode cL_law 909 = .ok (.if_icmp .ne 7, 3) := by decide +kernel
theorem dL_law_912 : decode cL_law 912 = .ok (.iconst 1, 1) := by decide +kernel
theorem dL_law_913 : decode cL_law 913 = .ok (.goto 4, 3) := by decide +kernel
theorem dL_law_916 : decode cL_law 916 = .ok (.iconst 0, 1) := by decide +kernel
theorem dL_law_917 : decode cL_law 917 = .ok (.istore 7, 2) := by decide +kernel
theorem dL_law_919 : decode cL_law 919 = .ok (.aload 5, 2) := by decide +kernel
theorem dL_law_921 : decode cL_law 921 = .ok (.iload 13, 2) := by decide +kernel
theorem dL_law_923 : decode cL_law 923 = .ok (.iload 17, 2) := by decide +kernel
theorem dL_law_925 : decode cL_law 925 = .ok (.iastore, 1) := by decide +kernel
theorem dL_law_926 : decode cL_law 926 = .ok (.aload_n 1, 1) := by decide +kernel
theorem dL_law_927 : decode cL_law 927 = .ok (.iload 13, 2) := by decide +kernel
theorem dL_law_929 : decode cL_law 929 = .ok (.iload 17, 2) := by decide +kernel
theorem dL_law_931 : decode cL_law 931 = .ok (.invokevirtual 36, 3) := by decide +kernel
theorem dL_law_934 : decode cL_law 934 = .ok (.pop, 1) := by decide +kernel
theorem dL_law_935 : decode cL_law 935 = .ok (.iload 7, 2) := by decide +kernel
theorem dL_law_937 : decode cL_law 937 = .ok (.ifCond .eq 42, 3) := by decide +kernel
theorem dL_law_940 : decode cL_law 940 = .ok (.aload_n 1, 1) := by decide +kernel
theorem dL_law_941 : decode cL_law 941 = .ok (.iload 13, 2) := by decide +kernel
theorem dL_law_943 : decode cL_law 943 = .ok (.invokevirtual 96, 3) := by decide +kernel
theorem dL_law_946 : decode cL_law 946 = .ok (.iload 17, 2) := by decide +kernel
theorem dL_law_948 : decode cL_law 948 = .ok (.if_icmp .ne 31, 3) := by decide +kernel
theorem dL_law_951 : decode cL_law 951 = .ok (.aload_n 1, 1) := by decide +kernel
theorem dL_law_952 : decode cL_law 952 = .ok (.aload 6, 2) := by decide +kernel
theorem dL_law_954 : decode cL_law 954 = .ok (.iload 13, 2) := by decide +kernel
theorem dL_law_956 : decode cL_law 956 = .ok (.iload 17, 2) := by decide +kernel
theorem dL_law_958 : decode cL_law 958 = .ok (.aload_n 3, 1) := by decide +kernel
theorem dL_law_959 : decode cL_law 959 = .ok (.iload 13, 2) := by decide +kernel
theorem dL_law_961 : decode cL_law 961 = .ok (.iaload, 1) := by decide +kernel
theorem dL_law_962 : decode cL_law 962 = .ok (.aload 4, 2) := by decide +kernel
theorem dL_law_964 : decode cL_law 964 = .ok (.iload 13, 2) := by decide +kernel
theorem dL_law_966 : decode cL_law 966 = .ok (.iaload, 1) := by decide +kernel
theorem dL_law_967 : decode cL_law 967 = .ok (.invokestatic 99, 3) := by decide +kernel
theorem dL_law_970 : decode cL_law 970 = .ok (.iload 18, 2) := by decide +kernel
theorem dL_law_972 : decode cL_law 972 = .ok (.if_icmp .lt 7, 3) := by decide +kernel
theorem dL_law_975 : decode cL_law 975 = .ok (.iconst 1, 1) := by decide +kernel
theorem dL_law_976 : decode cL_law 976 = .ok (.goto 4, 3) := by decide +kernel
theorem dL_law_979 : decode cL_law 979 = .ok (.iconst 0, 1) := by decide +kernel
theorem dL_law_980 : decode cL_law 980 = .ok (.istore 7, 2) := by decide +kernel
theorem dL_law_982 : decode cL_law 982 = .ok (.iconst 0, 1) := by decide +kernel
theorem dL_law_983 : decode cL_law 983 = .ok (.istore 19, 2) := by decide +kernel
theorem dL_law_985 : decode cL_law 985 = .ok (.iload 19, 2) := by decide +kernel
theorem dL_law_987 : decode cL_law 987 = .ok (.aload_n 3, 1) := by decide +kernel
theorem dL_law_988 : decode cL_law 988 = .ok (.iload 13, 2) := by decide +kernel
theorem dL_law_990 : decode cL_law 990 = .ok (.iaload, 1) := by decide +kernel
theorem dL_law_991 : decode cL_law 991 = .ok (.if_icmp .ge 56, 3) := by decide +kernel
theorem dL_law_994 : decode cL_law 994 = .ok (.iconst 0, 1) := by decide +kernel
theorem dL_law_995 : decode cL_law 995 = .ok (.istore 20, 2) := by decide +kernel
theorem dL_law_997 : decode cL_law 997 = .ok (.iload 20, 2) := by decide +kernel
theorem dL_law_999 : decode cL_law 999 = .ok (.iload 19, 2) := by decide +kernel
theorem dL_law_1001 : decode cL_law 1001 = .ok (.if_icmp .ge 40, 3) := by decide +kernel
theorem dL_law_1004 : decode cL_law 1004 = .ok (.iload 7, 2) := by decide +kernel
theorem dL_law_1006 : decode cL_law 1006 = .ok (.ifCond .eq 26, 3) := by decide +kernel
theorem dL_law_1009 : decode cL_law 1009 = .ok (.aload_n 1, 1) := by decide +kernel
theorem dL_law_1010 : decode cL_law 1010 = .ok (.iload 13, 2) := by decide +kernel
theorem dL_law_1012 : decode cL_law 1012 = .ok (.iload 19, 2) := by decide +kernel
theorem dL_law_1014 : decode cL_law 1014 = .ok (.invokevirtual 8, 3) := by decide +kernel
theorem dL_law_1017 : decode cL_law 1017 = .ok (.aload_n 1, 1) := by decide +kernel
theorem dL_law_1018 : decode cL_law 1018 = .ok (.iload 13, 2) := by decide +kernel
theorem dL_law_1020 : decode cL_law 1020 = .ok (.iload 20, 2) := by decide +kernel
theorem dL_law_1022 : decode cL_law 1022 = .ok (.invokevirtual 8, 3) := by decide +kernel
theorem dL_law_1025 : decode cL_law 1025 = .ok (.if_icmp .eq 7, 3) := by decide +kernel
theorem dL_law_1028 : decode cL_law 1028 = .ok (.iconst 1, 1) := by decide +kernel
theorem dL_law_1029 : decode cL_law 1029 = .ok (.goto 4, 3) := by decide +kernel
theorem dL_law_1032 : decode cL_law 1032 = .ok (.iconst 0, 1) := by decide +kernel
theorem dL_law_1033 : decode cL_law 1033 = .ok (.istore 7, 2) := by decide +kernel
theorem dL_law_1035 : decode cL_law 1035 = .ok (.iinc 20 1, 3) := by decide +kernel
theorem dL_law_1038 : decode cL_law 1038 = .ok (.goto (-41), 3) := by decide +kernel
theorem dL_law_1041 : decode cL_law 1041 = .ok (.iinc 19 1, 3) := by decide +kernel
theorem dL_law_1044 : decode cL_law 1044 = .ok (.goto (-59), 3) := by decide +kernel
theorem dL_law_1047 : decode cL_law 1047 = .ok (.goto 19, 3) := by decide +kernel
theorem dL_law_1050 : decode cL_law 1050 = .ok (.aload_n 1, 1) := by decide +kernel
theorem dL_law_1051 : decode cL_law 1051 = .ok (.iconst 1, 1) := by decide +kernel
theorem dL_law_1052 : decode cL_law 1052 = .ok (.iload 11, 2) := by decide +kernel
theorem dL_law_1054 : decode cL_law 1054 = .ok (.iconst 4, 1) := by decide +kernel
theorem dL_law_1055 : decode cL_law 1055 = .ok (.ishr, 1) := by decide +kernel
theorem dL_law_1056 : decode cL_law 1056 = .ok (.bipush 40, 2) := by decide +kernel
theorem dL_law_1058 : decode cL_law 1058 = .ok (.invokestatic 27, 3) := by decide +kernel
theorem dL_law_1061 : decode cL_law 1061 = .ok (.iadd, 1) := by decide +kernel
theorem dL_law_1062 : decode cL_law 1062 = .ok (.invokevirtual 102, 3) := by decide +kernel
theorem dL_law_1065 : decode cL_law 1065 = .ok (.pop, 1) := by decide +kernel
theorem dL_law_1066 : decode cL_law 1066 = .ok (.iconst 0, 1) := by decide +kernel
theorem dL_law_1067 : decode cL_law 1067 = .ok (.istore 17, 2) := by decide +kernel
theorem dL_law_1069 : decode cL_law 1069 = .ok (.iload 17, 2) := by decide +kernel
theorem dL_law_1071 : decode cL_law 1071 = .ok (.iconst 2, 1) := by decide +kernel
theorem dL_law_1072 : decode cL_law 1072 = .ok (.if_icmp .ge 190, 3) := by decide +kernel
theorem dL_law_1075 : decode cL_law 1075 = .ok (.iload 7, 2) := by decide +kernel
theorem dL_law_1077 : decode cL_law 1077 = .ok (.ifCond .eq 185, 3) := by decide +kernel
theorem dL_law_1080 : decode cL_law 1080 = .ok (.iload 11, 2) := by decide +kernel
theorem dL_law_1082 : decode cL_law 1082 = .ok (.i2l, 1) := by decide +kernel
theorem dL_law_1083 : decode cL_law 1083 = .ok (.bipush 32, 2) := by decide +kernel
theorem dL_law_1085 : decode cL_law 1085 = .ok (.lshl, 1) := by decide +kernel
theorem dL_law_1086 : decode cL_law 1086 = .ok (.aload_n 0, 1) := by decide +kernel
theorem dL_law_1087 : decode cL_law 1087 = .ok (.iload 10, 2) := by decide +kernel
theorem dL_law_1089 : decode cL_law 1089 = .ok (.iconst 1, 1) := by decide +kernel
theorem dL_law_1090 : decode cL_law 1090 = .ok (.iadd, 1) := by decide +kernel
theorem dL_law_1091 : decode cL_law 1091 = .ok (.invokestatic 24, 3) := by decide +kernel
theorem dL_law_1094 : decode cL_law 1094 = .ok (.i2l, 1) := by decide +kernel
theorem dL_law_1095 : decode cL_law 1095 = .ok (.ldc2_w 105, 3) := by decide +kernel
theorem dL_law_1098 : decode cL_law 1098 = .ok (.lmul, 1) := by decide +kernel
theorem dL_law_1099 : decode cL_law 1099 = .ok (.lxor, 1) := by decide +kernel
theorem dL_law_1100 : decode cL_law 1100 = .ok (.lstore 18, 2) := by decide +kernel
theorem dL_law_1102 : decode cL_law 1102 = .ok (.iload 11, 2) := by decide +kernel
theorem dL_law_1104 : decode cL_law 1104 = .ok (.bipush 8, 2) := by decide +kernel
theorem dL_law_1106 : decode cL_law 1106 = .ok (.ishr, 1) := by decide +kernel
theorem dL_law_1107 : decode cL_law 1107 = .ok (.aload 4, 2) := by decide +kernel
theorem dL_law_1109 : decode cL_law 1109 = .ok (.iload 17, 2) := by decide +kernel
theorem dL_law_1111 : decode cL_law 1111 = .ok (.iaload, 1) := by decide +kernel
theorem dL_law_1112 : decode cL_law 1112 = .ok (.invokestatic 27, 3) := by decide +kernel
theorem dL_law_1115 : decode cL_law 1115 = .ok (.istore 20, 2) := by decide +kernel
theorem dL_law_1117 : decode cL_law 1117 = .ok (.aload_n 1, 1) := by decide +kernel
theorem dL_law_1118 : decode cL_law 1118 = .ok (.iload 17, 2) := by decide +kernel
theorem dL_law_1120 : decode cL_law 1120 = .ok (.lload 18, 2) := by decide +kernel
theorem dL_law_1122 : decode cL_law 1122 = .ok (.iload 20, 2) := by decide +kernel
theorem dL_law_1124 : decode cL_law 1124 = .ok (.invokevirtual 107, 3) := by decide +kernel
theorem dL_law_1127 : decode cL_law 1127 = .ok (.aload_n 1, 1) := by decide +kernel
theorem dL_law_1128 : decode cL_law 1128 = .ok (.iload 17, 2) := by decide +kernel
theorem dL_law_1130 : decode cL_law 1130 = .ok (.lload 18, 2) := by decide +kernel
theorem dL_law_1132 : decode cL_law 1132 = .ok (.iload 20, 2) := by decide +kernel
theorem dL_law_1134 : decode cL_law 1134 = .ok (.invokevirtual 111, 3) := by decide +kernel
theorem dL_law_1137 : decode cL_law 1137 = .ok (.isub, 1) := by decide +kernel
theorem dL_law_1138 : decode cL_law 1138 = .ok (.istore 21, 2) := by decide +kernel
theorem dL_law_1140 : decode cL_law 1140 = .ok (.aload_n 1, 1) := by decide +kernel
theorem dL_law_1141 : decode cL_law 1141 = .ok (.iload 17, 2) := by decide +kernel
theorem dL_law_1143 : decode cL_law 1143 = .ok (.invokevirtual 39, 3) := by decide +kernel
theorem dL_law_1146 : decode cL_law 1146 = .ok (.ifCond .eq 31, 3) := by decide +kernel
theorem dL_law_1149 : decode cL_law 1149 = .ok (.aload_n 1, 1) := by decide +kernel
theorem dL_law_1150 : decode cL_law 1150 = .ok (.iload 17, 2) := by decide +kernel
theorem dL_law_1152 : decode cL_law 1152 = .ok (.iload 20, 2) := by decide +kernel
theorem dL_law_1154 : decode cL_law 1154 = .ok (.iconst 0, 1) := by decide +kernel
theorem dL_law_1155 : decode cL_law 1155 = .ok (.invokevirtual 114, 3) := by decide +kernel
theorem dL_law_1158 : decode cL_law 1158 = .ok (.iload 21, 2) := by decide +kernel
theorem dL_law_1160 : decode cL_law 1160 = .ok (.if_icmp .gt 21, 3) := by decide +kernel
theorem dL_law_1163 : decode cL_law 1163 = .ok (.iload 21, 2) := by decide +kernel
theorem dL_law_1165 : decode cL_law 1165 = .ok (.aload_n 1, 1) := by decide +kernel
theorem dL_law_1166 : decode cL_law 1166 = .ok (.iload 17, 2) := by decide +kernel
theorem dL_law_1168 : decode cL_law 1168 = .ok (.iload 20, 2) := by decide +kernel
theorem dL_law_1170 : decode cL_law 1170 = .ok (.iconst 1, 1) := by decide +kernel
theorem dL_law_1171 : decode cL_law 1171 = .ok (.invokevirtual 114, 3) := by decide +kernel
theorem dL_law_1174 : decode cL_law 1174 = .ok (.if_icmp .gt 7, 3) := by decide +kernel
theorem dL_law_1177 : decode cL_law 1177 = .ok (.iconst 1, 1) := by decide +kernel
theorem dL_law_1178 : decode cL_law 1178 = .ok (.goto 4, 3) := by decide +kernel
theorem dL_law_1181 : decode cL_law 1181 = .ok (.iconst 0, 1) := by decide +kernel
theorem dL_law_1182 : decode cL_law 1182 = .ok (.istore 7, 2) := by decide +kernel
theorem dL_law_1184 : decode cL_law 1184 = .ok (.iload 7, 2) := by decide +kernel
theorem dL_law_1186 : decode cL_law 1186 = .ok (.ifCond .eq 67, 3) := by decide +kernel
theorem dL_law_1189 : decode cL_law 1189 = .ok (.aload_n 3, 1) := by decide +kernel
theorem dL_law_1190 : decode cL_law 1190 = .ok (.iload 17, 2) := by decide +kernel
theorem dL_law_1192 : decode cL_law 1192 = .ok (.iaload, 1) := by decide +kernel
theorem dL_law_1193 : decode cL_law 1193 = .ok (.iconst 4, 1) := by decide +kernel
theorem dL_law_1194 : decode cL_law 1194 = .ok (.if_icmp .gt 22, 3) := by decide +kernel
theorem dL_law_1197 : decode cL_law 1197 = .ok (.aload_n 1, 1) := by decide +kernel
theorem dL_law_1198 : decode cL_law 1198 = .ok (.iload 17, 2) := by decide +kernel
theorem dL_law_1200 : decode cL_law 1200 = .ok (.iload 14, 2) := by decide +kernel
theorem dL_law_1202 : decode cL_law 1202 = .ok (.invokevirtual 90, 3) := by decide +kernel
theorem dL_law_1205 : decode cL_law 1205 = .ok (.aload_n 1, 1) := by decide +kernel
theorem dL_law_1206 : decode cL_law 1206 = .ok (.iload 17, 2) := by decide +kernel
theorem dL_law_1208 : decode cL_law 1208 = .ok (.iload 14, 2) := by decide +kernel
theorem dL_law_1210 : decode cL_law 1210 = .ok (.invokevirtual 118, 3) := by decide +kernel
theorem dL_law_1213 : decode cL_law 1213 = .ok (.if_icmp .ne 40, 3) := by decide +kernel
theorem dL_law_1216 : decode cL_law 1216 = .ok (.aload_n 1, 1) := by decide +kernel
theorem dL_law_1217 : decode cL_law 1217 = .ok (.iload 17, 2) := by decide +kernel
theorem dL_law_1219 : decode cL_law 1219 = .ok (.iconst 1, 1) := by decide +kernel
theorem dL_law_1220 : decode cL_law 1220 = .ok (.iload 11, 2) := by decide +kernel
theorem dL_law_1222 : decode cL_law 1222 = .ok (.bipush 9, 2) := by decide +kernel
theorem dL_law_1224 : decode cL_law 1224 = .ok (.invokestatic 27, 3) := by decide +kernel
theorem dL_law_1227 : decode cL_law 1227 = .ok (.iadd, 1) := by decide +kernel
theorem dL_law_1228 : decode cL_law 1228 = .ok (.invokevirtual 121, 3) := by decide +kernel
theorem dL_law_1231 : decode cL_law 1231 = .ok (.aload_n 1, 1) := by decide +kernel
theorem dL_law_1232 : decode cL_law 1232 = .ok (.iload 17, 2) := by decide +kernel
theorem dL_law_1234 : decode cL_law 1234 = .ok (.iconst 1, 1) := by decide +kernel
theorem dL_law_1235 : decode cL_law 1235 = .ok (.iload 11, 2) := by decide +kernel
theorem dL_law_1237 : decode cL_law 1237 = .ok (.bipush 9, 2) := by decide +kernel
theorem dL_law_1239 : decode cL_law 1239 = .ok (.invokestatic 27, 3) := by decide +kernel
theorem dL_law_1242 : decode cL_law 1242 = .ok (.iadd, 1) := by decide +kernel
theorem dL_law_1243 : decode cL_law 1243 = .ok (.invokevirtual 124, 3) := by decide +kernel
theorem dL_law_1246 : decode cL_law 1246 = .ok (.if_icmp .ne 7, 3) := by decide +kernel
theorem dL_law_1249 : decode cL_law 1249 = .ok (.iconst 1, 1) := by decide +kernel
theorem dL_law_1250 : decode cL_law 1250 = .ok (.goto 4, 3) := by decide +kernel
theorem dL_law_1253 : decode cL_law 1253 = .ok (.iconst 0, 1) := by decide +kernel
theorem dL_law_1254 : decode cL_law 1254 = .ok (.istore 7, 2) := by decide +kernel
theorem dL_law_1256 : decode cL_law 1256 = .ok (.iinc 17 1, 3) := by decide +kernel
theorem dL_law_1259 : decode cL_law 1259 = .ok (.goto (-190), 3) := by decide +kernel
theorem dL_law_1262 : decode cL_law 1262 = .ok (.lconst 0, 1) := by decide +kernel
theorem dL_law_1263 : decode cL_law 1263 = .ok (.lstore 17, 2) := by decide +kernel
theorem dL_law_1265 : decode cL_law 1265 = .ok (.iconst 0, 1) := by decide +kernel
theorem dL_law_1266 : decode cL_law 1266 = .ok (.istore 19, 2) := by decide +kernel
theorem dL_law_1268 : decode cL_law 1268 = .ok (.iload 19, 2) := by decide +kernel
theorem dL_law_1270 : decode cL_law 1270 = .ok (.sipush 128, 3) := by decide +kernel
theorem dL_law_1273 : decode cL_law 1273 = .ok (.if_icmp .ge 118, 3) := by decide +kernel
theorem dL_law_1276 : decode cL_law 1276 = .ok (.iload 7, 2) := by decide +kernel
theorem dL_law_1278 : decode cL_law 1278 = .ok (.ifCond .eq 113, 3) := by decide +kernel
theorem dL_law_1281 : decode cL_law 1281 = .ok (.lload 17, 2) := by decide +kernel
theorem dL_law_1283 : decode cL_law 1283 = .ok (.aload_n 1, 1) := by decide +kernel
theorem dL_law_1284 : decode cL_law 1284 = .ok (.iload 14, 2) := by decide +kernel
theorem dL_law_1286 : decode cL_law 1286 = .ok (.iload 19, 2) := by decide +kernel
theorem dL_law_1288 : decode cL_law 1288 = .ok (.bipush 16, 2) := by decide +kernel
theorem dL_law_1290 : decode cL_law 1290 = .ok (.idiv, 1) := by decide +kernel
theorem dL_law_1291 : decode cL_law 1291 = .ok (.iload 19, 2) := by decide +kernel
theorem dL_law_1293 : decode cL_law 1293 = .ok (.bipush 16, 2) := by decide +kernel
theorem dL_law_1295 : decode cL_law 1295 = .ok (.irem, 1) := by decide +kernel
theorem dL_law_1296 : decode cL_law 1296 = .ok (.iconst 2, 1) := by decide +kernel
theorem dL_law_1297 : decode cL_law 1297 = .ok (.invokevirtual 19, 3) := by decide +kernel
theorem dL_law_1300 : decode cL_law 1300 = .ok (.i2l, 1) := by decide +kernel
theorem dL_law_1301 : decode cL_law 1301 = .ok (.ladd, 1) := by decide +kernel
theorem dL_law_1302 : decode cL_law 1302 = .ok (.lstore 17, 2) := by decide +kernel
theorem dL_law_1304 : decode cL_law 1304 = .ok (.aload_n 1, 1) := by decide +kernel
theorem dL_law_1305 : decode cL_law 1305 = .ok (.iload 14, 2) := by decide +kernel
theorem dL_law_1307 : decode cL_law 1307 = .ok (.iload 19, 2) := by decide +kernel
theorem dL_law_1309 : decode cL_law 1309 = .ok (.bipush 16, 2) := by decide +kernel
theorem dL_law_1311 : decode cL_law 1311 = .ok (.idiv, 1) := by decide +kernel
theorem dL_law_1312 : decode cL_law 1312 = .ok (.iload 19, 2) := by decide +kernel
theorem dL_law_1314 : decode cL_law 1314 = .ok (.bipush 16, 2) := by decide +kernel
theorem dL_law_1316 : decode cL_law 1316 = .ok (.irem, 1) := by decide +kernel
theorem dL_law_1317 : decode cL_law 1317 = .ok (.iconst 4, 1) := by decide +kernel
theorem dL_law_1318 : decode cL_law 1318 = .ok (.invokevirtual 19, 3) := by decide +kernel
theorem dL_law_1321 : decode cL_law 1321 = .ok (.aload_n 1, 1) := by decide +kernel
theorem dL_law_1322 : decode cL_law 1322 = .ok (.iload 14, 2) := by decide +kernel
theorem dL_law_1324 : decode cL_law 1324 = .ok (.iload 19, 2) := by decide +kernel
theorem dL_law_1326 : decode cL_law 1326 = .ok (.bipush 16, 2) := by decide +kernel
theorem dL_law_1328 : decode cL_law 1328 = .ok (.idiv, 1) := by decide +kernel
theorem dL_law_1329 : decode cL_law 1329 = .ok (.iload 19, 2) := by decide +kernel
theorem dL_law_1331 : decode cL_law 1331 = .ok (.bipush 16, 2) := by decide +kernel
theorem dL_law_1333 : decode cL_law 1333 = .ok (.irem, 1) := by decide +kernel
theorem dL_law_1334 : decode cL_law 1334 = .ok (.iconst 3, 1) := by decide +kernel
theorem dL_law_1335 : decode cL_law 1335 = .ok (.invokevirtual 19, 3) := by decide +kernel
theorem dL_law_1338 : decode cL_law 1338 = .ok (.if_icmp .gt 44, 3) := by decide +kernel
theorem dL_law_1341 : decode cL_law 1341 = .ok (.aload_n 1, 1) := by decide +kernel
theorem dL_law_1342 : decode cL_law 1342 = .ok (.iload 14, 2) := by decide +kernel
theorem dL_law_1344 : decode cL_law 1344 = .ok (.iload 19, 2) := by decide +kernel
theorem dL_law_1346 : decode cL_law 1346 = .ok (.bipush 16, 2) := by decide +kernel
theorem dL_law_1348 : decode cL_law 1348 = .ok (.idiv, 1) := by decide +kernel
theorem dL_law_1349 : decode cL_law 1349 = .ok (.iload 19, 2) := by decide +kernel
theorem dL_law_1351 : decode cL_law 1351 = .ok (.bipush 16, 2) := by decide +kernel
theorem dL_law_1353 : decode cL_law 1353 = .ok (.irem, 1) := by decide +kernel
theorem dL_law_1354 : decode cL_law 1354 = .ok (.iconst 1, 1) := by decide +kernel
theorem dL_law_1355 : decode cL_law 1355 = .ok (.invokevirtual 19, 3) := by decide +kernel
theorem dL_law_1358 : decode cL_law 1358 = .ok (.aload_n 1, 1) := by decide +kernel
theorem dL_law_1359 : decode cL_law 1359 = .ok (.iload 14, 2) := by decide +kernel
theorem dL_law_1361 : decode cL_law 1361 = .ok (.iload 19, 2) := by decide +kernel
theorem dL_law_1363 : decode cL_law 1363 = .ok (.bipush 16, 2) := by decide +kernel
theorem dL_law_1365 : decode cL_law 1365 = .ok (.idiv, 1) := by decide +kernel
theorem dL_law_1366 : decode cL_law 1366 = .ok (.iload 19, 2) := by decide +kernel
theorem dL_law_1368 : decode cL_law 1368 = .ok (.bipush 16, 2) := by decide +kernel
theorem dL_law_1370 : decode cL_law 1370 = .ok (.irem, 1) := by decide +kernel
theorem dL_law_1371 : decode cL_law 1371 = .ok (.iconst 0, 1) := by decide +kernel
theorem dL_law_1372 : decode cL_law 1372 = .ok (.invokevirtual 19, 3) := by decide +kernel
theorem dL_law_1375 : decode cL_law 1375 = .ok (.if_icmp .gt 7, 3) := by decide +kernel
theorem dL_law_1378 : decode cL_law 1378 = .ok (.iconst 1, 1) := by decide +kernel
theorem dL_law_1379 : decode cL_law 1379 = .ok (.goto 4, 3) := by decide +kernel
theorem dL_law_1382 : decode cL_law 1382 = .ok (.iconst 0, 1) := by decide +kernel
theorem dL_law_1383 : decode cL_law 1383 = .ok (.istore 7, 2) := by decide +kernel
theorem dL_law_1385 : decode cL_law 1385 = .ok (.iinc 19 1, 3) := by decide +kernel
theorem dL_law_1388 : decode cL_law 1388 = .ok (.goto (-120), 3) := by decide +kernel
theorem dL_law_1391 : decode cL_law 1391 = .ok (.iload 7, 2) := by decide +kernel
theorem dL_law_1393 : decode cL_law 1393 = .ok (.ifCond .eq 19, 3) := by decide +kernel
theorem dL_law_1396 : decode cL_law 1396 = .ok (.aload_n 1, 1) := by decide +kernel
theorem dL_law_1397 : decode cL_law 1397 = .ok (.iload 14, 2) := by decide +kernel
theorem dL_law_1399 : decode cL_law 1399 = .ok (.invokevirtual 127, 3) := by decide +kernel
theorem dL_law_1402 : decode cL_law 1402 = .ok (.lload 17, 2) := by decide +kernel
theorem dL_law_1404 : decode cL_law 1404 = .ok (.lcmp, 1) := by decide +kernel
theorem dL_law_1405 : decode cL_law 1405 = .ok (.ifCond .ne 7, 3) := by decide +kernel
theorem dL_law_1408 : decode cL_law 1408 = .ok (.iconst 1, 1) := by decide +kernel
theorem dL_law_1409 : decode cL_law 1409 = .ok (.goto 4, 3) := by decide +kernel
theorem dL_law_1412 : decode cL_law 1412 = .ok (.iconst 0, 1) := by decide +kernel
theorem dL_law_1413 : decode cL_law 1413 = .ok (.istore 7, 2) := by decide +kernel
theorem dL_law_1415 : decode cL_law 1415 = .ok (.iinc 10 1, 3) := by decide +kernel
theorem dL_law_1418 : decode cL_law 1418 = .ok (.goto (-1193), 3) := by decide +kernel
theorem dL_law_1421 : decode cL_law 1421 = .ok (.iload 7, 2) := by decide +kernel
theorem dL_law_1423 : decode cL_law 1423 = .ok (.ireturn, 1) := by decide +kernel
end
section
theorem zz_end : True := trivial
end
