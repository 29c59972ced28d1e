/-! ===== constructors: a world with one object under construction, and the cells that are made behind it ===== -/
def cwl (ws : va_W) (q0 a ci : Nat) (fs : List Value) (xs : va_W) : va_W := ws.set q0 (a, .inr (ci, fs)) ++ xs
def CG (D : va_G) (A : Nat → Prop) (H0 : Heap) (ws : va_W) (q0 a ci : Nat) (fs : List Value) (xs : va_W) (H : Heap) (locs : List Loc) : Prop := q0 < ws.length ∧ va_P D vwCl (cwl ws q0 a ci fs xs) H ∧ va_D A (cwl ws q0 a ci fs xs) ∧ va_S A H0 H locs
def cB (D : va_G) (cy : Nat → ClassId) (ws : va_W) (sz : Nat) (U : State) : Prop := U.heap.size = sz ∧ va_P D vwCl ws U.heap ∧ va_K D vwCl (gtys cy) U ∧ va_D (fun _ => True) ws
def cQ (D : va_G) (ws : va_W) (sz : Nat) (B : (Nat → Nat) → va_W) (w : Nat → Nat) (t : State) : Prop := va_P D vwCl (B w) t.heap ∧ va_D (va_A ws sz) (B w)
theorem c_blind {D : va_G} {cy : Nat → ClassId} {ws : va_W} {sz : Nat} {av : List Value} : FrameBlind (va_Pc av (cB D cy ws sz)) := fun a U g mk q => by
  obtain ⟨q0, q1, qP, qK, qD⟩ := q
  exact ⟨q0, q1, qP, va_K.moved (u := U) (U := U.calling g mk a) (Vm.Alike.refl U.vm) qK, qD⟩
theorem cwl_at {ws : va_W} {q0 a ci : Nat} {fs : List Value} {xs : va_W} (h : q0 < ws.length) : (cwl ws q0 a ci fs xs)[q0]? = some (a, .inr (ci, fs)) := by
  unfold cwl
  rw [List.getElem?_append_left (by rw [List.length_set]; exact h), List.getElem?_set_self h]
theorem cwl_set {ws : va_W} {q0 a ci : Nat} {fs fs' : List Value} {xs : va_W} (h : q0 < ws.length) : (cwl ws q0 a ci fs xs).set q0 (a, .inr (ci, fs')) = cwl ws q0 a ci fs' xs := by
  unfold cwl
  rw [List.set_append_left _ _ (by rw [List.length_set]; exact h), List.set_set]
theorem cwl_len {ws : va_W} {q0 a ci : Nat} {fs : List Value} {xs : va_W} : (cwl ws q0 a ci fs xs).length = ws.length + xs.length := by
  unfold cwl
  rw [List.length_append, List.length_set]
theorem cwl_app {ws : va_W} {q0 a ci : Nat} {fs : List Value} {xs ys : va_W} : cwl ws q0 a ci fs xs ++ ys = cwl ws q0 a ci fs (xs ++ ys) := List.append_assoc _ _ _
theorem cwl_x {ws : va_W} {q0 a ci : Nat} {fs : List Value} {xs : va_W} (j : Nat) : (cwl ws q0 a ci fs xs)[ws.length + j]? = xs[j]? := by
  unfold cwl
  rw [List.getElem?_append_right (by rw [List.length_set]; omega), List.length_set, Nat.add_sub_cancel_left]
theorem cwl_setx {ws : va_W} {q0 a ci : Nat} {fs : List Value} {xs : va_W} (j : Nat) (e : Nat × va_E) : (cwl ws q0 a ci fs xs).set (ws.length + j) e = cwl ws q0 a ci fs (xs.set j e) := by
  unfold cwl
  rw [List.set_append_right _ _ (by rw [List.length_set]; omega), List.length_set, Nat.add_sub_cancel_left]
theorem cwl_in {ws : va_W} {q0 a ci b cj : Nat} {fs gs : List Value} {xs ys : va_W} {e : Nat × va_E} : cwl (cwl ws q0 a ci fs (xs ++ [e])) (ws.length + xs.length) b cj gs ys = cwl ws q0 a ci fs (xs ++ (b, .inr (cj, gs)) :: ys) := by
  show (cwl ws q0 a ci fs (xs ++ [e])).set (ws.length + xs.length) (b, .inr (cj, gs)) ++ ys = _
  rw [cwl_setx, List.set_append_right _ _ (Nat.le_refl _), Nat.sub_self, cwl_app, List.append_assoc]
  rfl
theorem cwl_self {ws : va_W} {q0 a ci : Nat} {fs : List Value} (h : ws[q0]? = some (a, .inr (ci, fs))) : cwl ws q0 a ci fs [] = ws := by
  unfold cwl
  rw [List.append_nil]
  obtain ⟨hl, he⟩ := List.getElem?_eq_some_iff.mp h
  rw [← he, List.set_getElem_self]
theorem c_start {D : va_G} {ws : va_W} {q0 a ci : Nat} {fs : List Value} {H : Heap} (h : ws[q0]? = some (a, .inr (ci, fs))) (hP : va_P D vwCl ws H) (hD : va_D (fun _ => True) ws) : CG D (va_A ws H.size) H ws q0 a ci fs [] H [] := by
  refine ⟨(List.getElem?_eq_some_iff.mp h).1, ?_, ?_, va_S.rf⟩
  · rw [cwl_self h]; exact hP
  · rw [cwl_self h]; exact hD.self
section CELLS
variable {p : Program} {l : Launch} {e : Env} {R : Room} {s : State} {m : MethodId} {args : Array Value} {below : List Frame} {meth : Method} {c : Code} {H : Heap} {locs : List Loc} {cells slots : Nat} {Q : State → Prop}
variable {cc : ByteArray} {pc : Nat} {ls : Array Slot} {rest st0 : List Value} {D : va_G} {cy : Nat → ClassId} {mc ms : Nat} {A : Nat → Prop} {H0 : Heap} {av : Array Value} {ws xs : va_W} {q0 a ci : Nat} {fs : List Value}
theorem c_free (hG : CG D A H0 ws q0 a ci fs xs H locs) (hA : ∀ q, H0.size ≤ q → A q) : ∀ q, va_A (cwl ws q0 a ci fs xs) H.size q → A q := by
  intro q h
  rcases h with ⟨k, x, hk⟩ | h
  · exact hG.2.2.1.2 k _ hk
  · exact hA q (Nat.le_trans hG.2.2.2.1 h)
theorem c_pre {vs : List Value} (hK : va_K D vwCl (gtys cy) s) (hG : CG D A s.heap ws q0 a ci fs xs H locs) : ∀ U : State, U.heap = H → s.WarmedH U.vm → va_Pc vs (cB D cy (cwl ws q0 a ci fs xs) H.size) vs.toArray U := by
  intro U hU hW
  exact ⟨rfl, by rw [hU], by rw [hU]; exact hG.2.1, va_K.moved hW.alike hK, ⟨hG.2.2.1.1, fun _ _ _ => trivial⟩⟩
theorem c_gov {B : (Nat → Nat) → va_W} (hG : CG D A H0 ws q0 a ci fs xs H locs) (hA : ∀ q, H0.size ≤ q → A q) (hr : va_Run p l e R s m args below meth c H locs cells slots mc ms (F0 m pc ls st0) rest (va_Qv (fun _ => True) (cQ D (cwl ws q0 a ci fs xs) H.size B) (va_A (cwl ws q0 a ci fs xs) H.size) av) (va_A (cwl ws q0 a ci fs xs) H.size))
    (kk : ∀ (w : Nat → Nat) (H1 : Heap) (locs1 : List Loc), va_P D vwCl (B w) H1 → va_D A (B w) → va_S A H0 H1 locs1 → W p l e R s m args below meth c H1 locs1 (cells + mc) (slots + ms) Q (F0 m (pc + 3) ls rest)) : W p l e R s m args below meth c H locs cells slots Q (F0 m pc ls st0) :=
  va_callv hr hG.2.2.2 (fun q _ h => c_free hG hA q h) (c_free hG hA) (fun w t H1 locs1 ht _ _ hB _ _ hS => by
    subst ht
    exact kk w _ locs1 hB.1 (hB.2.weaken (fun _ _ _ h => c_free hG hA _ h)) hS)
theorem c_vret {B : (Nat → Nat) → va_W} {ls : Array Slot} (hexec : p.tables.exec = Jvm.exec) (hb : c.code = cc) (hr : meth.sig.returnType = none) (hlocks : meth.locks = false) {ws0 : va_W} (hG : CG D (va_A ws0 s.heap.size) s.heap ws q0 a ci fs xs H locs) (w : Nat → Nat) (hB : cwl ws q0 a ci fs xs = B w) (hdg : decode cc pc = .ok (.return_, 1)) : W p l e R s m args below meth c H locs cells slots (MQ below (va_Qv (fun _ => True) (cQ D ws0 s.heap.size B) (va_A ws0 s.heap.size)) args s cells slots (va_A ws0 s.heap.size)) (F0 m pc ls []) :=
  W.vret hexec hb hr (fun t ht hW => ⟨⟨w, rfl, trivial, by
    refine ⟨?_, ?_⟩
    · rw [ht, ← hB]; exact hG.2.1
    · rw [← hB]; exact hG.2.2.1⟩, hG.2.2.2.F ht⟩) hG.2.2.2.2.2 hdg hlocks
theorem c_newa (hexec : p.tables.exec = Jvm.exec) (hb : c.code = cc) {atype : ArrayType} (harr : (Cond.arrayClass (newarray.typeOf atype)).before args s = true) (t0 : Nat) {ty : FieldType} (hty : newarray.typeOf atype = ty) (ht : (gtys cy)[t0]? = some (cy t0, ty)) (hK : va_K D vwCl (gtys cy) s) (hG : CG D A H0 ws q0 a ci fs xs H locs) (hA : ∀ q, H0.size ≤ q → A q)
    {n : Int32} {N' : Nat} {a0 : vp_A} (ha : ∀ cA : ClassId, vp_cell cA a0 = arrV cA N' (fun _ => defaultValue ty)) (hn : ¬ n < 0) (hN : n.toNatClampNeg = N') (hbytes : N' * componentBytes ty ≤ 536870912) (hcells : cells + 1 ≤ R.cells) (hslots : slots + N' ≤ R.slots) (hdg : decode cc pc = .ok (.newarray atype, 2))
    (kk : ∀ (q : Nat) (H1 : Heap), CG D A H0 ws q0 a ci fs (xs ++ [(q, .inl (cy t0, a0))]) H1 locs →
      W p l e R s m args below meth c H1 locs (cells + 1) (slots + N') Q (F0 m (pc + 2) ls (.ref q :: rest))) : W p l e R s m args below meth c H locs cells slots Q (F0 m pc ls (.int n :: rest)) := by
  subst hty
  have hR := (hK.2 t0 _ ht).2
  have hf : s.vm.findClass ("[" ++ (newarray.typeOf atype).toString) = some (cy t0) := by cases atype <;> exact hR
  refine va_newaK hexec hb harr rfl hdg rfl hn hN hbytes hcells hslots rfl fun H1 cA e1 z1 o1 hAr hNm => ?_
  have hcA : cA = cy t0 := Option.some.inj (hNm.symm.trans hf)
  subst hcA
  obtain ⟨hq, hP, hD, hS⟩ := hG
  have hk : ∀ (k : Nat) (x : Nat × va_E), (cwl ws q0 a ci fs xs)[k]? = some x → H1[x.1]? = H[x.1]? := fun k x hx => o1 x.1 ((hP k x hx).lt)
  refine kk H.size H1 ⟨hq, ?_, ?_, ⟨Nat.le_trans hS.1 (by omega), fun x h1 h2 => (o1 x (Nat.lt_of_lt_of_le h1 hS.1)).trans (hS.2.1 x h1 h2), hS.2.2⟩⟩
  · rw [← cwl_app]
    refine (hP.kept hk).app (fun k x hx => ?_)
    have hz : k < 1 := (List.getElem?_eq_some_iff.mp hx).1
    rw [show k = 0 by omega] at hx
    cases hx
    show H1[H.size]? = some (vp_cell _ _)
    rw [ha]
    exact e1
  · rw [← cwl_app]
    exact hD.push hP rfl (hA _ hS.1)
theorem c_putF (hexec : p.tables.exec = Jvm.exec) (hb : c.code = cc) {own ref C : String} {T : u_T} {N index : Nat} {Ts : List Cond} (hts : ∀ w ∈ Ts, w.before args s = true) (hin : ∀ w ∈ u_ws C T N, w ∈ Ts) (ty0 : Nat → FieldType) (hty : ∀ k, k < N → parseFieldDescriptor (T k).2.2.1 = some (ty0 k)) (hnm : ∀ a, a < N → ∀ b, b < N → a ≠ b → (T a).2.1 ≠ (T b).2.1) (hown : s.vm.findClass own = some m.cls) (hK : va_K D vwCl (gtys cy) s) (hG : CG D A H0 ws q0 a ci fs xs H locs) (hc : vwCl[ci]? = some (C, T, N)) (k : Nat) (hk : k < N) (hlink : (Cond.fieldLink own index ref (T k).2.1 (T k).2.2.1).before args s = true) (hsame : ∀ x, s.fieldFound? (T k).1 (T k).2.1 (T k).2.2.1 = some x → s.fieldFound? ref (T k).2.1 (T k).2.2.1 = some x) (hfin : (T k).2.2.2 = true) (hin2 : meth.name = "<init>") (hdecl : (T k).1 = own) {ty : FieldType} {v : Value} (hd : parseFieldDescriptor (T k).2.2.1 = some ty) (hn : narrow ty v = v) (hfit : fits ty v = true) (hl : k < fs.length)
    (hdg : decode cc pc = .ok (.putfield index, 3)) (kk : ∀ (H1 : Heap) (locs1 : List Loc), CG D A H0 ws q0 a ci (fs.set k v) xs H1 locs1 → W p l e R s m args below meth c H1 locs1 cells slots Q (F0 m (pc + 3) ls rest)) : W p l e R s m args below meth c H locs cells slots Q (F0 m pc ls (v :: .ref a :: rest)) := by
  obtain ⟨hq, hP, hD, hS⟩ := hG
  refine va_putF hexec hb hts hin ty0 hty hnm hown hK hP hD hS q0 (cwl_at hq) hc k hk hlink hsame hfin hin2 hdecl hd hn hfit hl hdg (fun H1 locs1 hP hD hS => kk H1 locs1 ?_)
  rw [cwl_set hq] at hP hD
  exact ⟨hq, hP, hD, hS⟩
theorem c_put (hexec : p.tables.exec = Jvm.exec) (hb : c.code = cc) {own ref C : String} {T : u_T} {N index : Nat} {Ts : List Cond} (hts : ∀ w ∈ Ts, w.before args s = true) (hin : ∀ w ∈ u_ws C T N, w ∈ Ts) (ty0 : Nat → FieldType) (hty : ∀ k, k < N → parseFieldDescriptor (T k).2.2.1 = some (ty0 k)) (hnm : ∀ a, a < N → ∀ b, b < N → a ≠ b → (T a).2.1 ≠ (T b).2.1) (hown : s.vm.findClass own = some m.cls) (hK : va_K D vwCl (gtys cy) s) (hG : CG D A H0 ws q0 a ci fs xs H locs) (hc : vwCl[ci]? = some (C, T, N)) (k : Nat) (hk : k < N) (hlink : (Cond.fieldLink own index ref (T k).2.1 (T k).2.2.1).before args s = true) (hsame : ∀ x, s.fieldFound? (T k).1 (T k).2.1 (T k).2.2.1 = some x → s.fieldFound? ref (T k).2.1 (T k).2.2.1 = some x) (hfin : (T k).2.2.2 = false) {ty : FieldType} {v : Value} (hd : parseFieldDescriptor (T k).2.2.1 = some ty) (hn : narrow ty v = v) (hfit : fits ty v = true) (hl : k < fs.length)
    (hdg : decode cc pc = .ok (.putfield index, 3)) (kk : ∀ (H1 : Heap) (locs1 : List Loc), CG D A H0 ws q0 a ci (fs.set k v) xs H1 locs1 → W p l e R s m args below meth c H1 locs1 cells slots Q (F0 m (pc + 3) ls rest)) : W p l e R s m args below meth c H locs cells slots Q (F0 m pc ls (v :: .ref a :: rest)) := by
  obtain ⟨hq, hP, hD, hS⟩ := hG
  refine va_put hexec hb hts hin ty0 hty hnm hown hK hP hD hS q0 (cwl_at hq) hc k hk hlink hsame hfin hd hn hfit hl hdg (fun H1 locs1 hP hD hS => kk H1 locs1 ?_)
  rw [cwl_set hq] at hP hD
  exact ⟨hq, hP, hD, hS⟩
theorem c_get (hexec : p.tables.exec = Jvm.exec) (hb : c.code = cc) {own ref C : String} {T : u_T} {N index : Nat} {Ts : List Cond} (hts : ∀ w ∈ Ts, w.before args s = true) (hin : ∀ w ∈ u_ws C T N, w ∈ Ts) (hown : s.vm.findClass own = some m.cls) (hK : va_K D vwCl (gtys cy) s) (hG : CG D A H0 ws q0 a ci fs xs H locs) (hc : vwCl[ci]? = some (C, T, N)) (f : Nat) (hf : f < N) (hlink : (Cond.fieldLink own index ref (T f).2.1 (T f).2.2.1).before args s = true) (hsame : ∀ x, s.fieldFound? (T f).1 (T f).2.1 (T f).2.2.1 = some x → s.fieldFound? ref (T f).2.1 (T f).2.2.1 = some x) {v : Value} (hv : fs[f]? = some v) (hdg : decode cc pc = .ok (.getfield index, 3))
    (kk : W p l e R s m args below meth c H locs cells slots Q (F0 m (pc + 3) ls (v :: rest))) : W p l e R s m args below meth c H locs cells slots Q (F0 m pc ls (.ref a :: rest)) :=
  va_get hexec hb hts hin hown hK hG.2.1 q0 (cwl_at hG.1) hc f hf hlink hsame hv hdg kk
theorem c_new {c0 : Code} (hexec : p.tables.exec = Jvm.exec) (hb : c0.code = cc) {own C : String} {T : u_T} {N index : Nat} {Ts : List Cond} (hts : ∀ w ∈ Ts, w.before args s = true) (hin : ∀ w ∈ u_ws C T N, w ∈ Ts) (ty : Nat → FieldType) (hty : ∀ k, k < N → parseFieldDescriptor (T k).2.2.1 = some (ty k)) (hown : s.vm.findClass own = some m.cls) (hcl : (Cond.classLink own index C).before args s = true) (hinst : (Cond.instantiable C N).before args s = true) (hini : (Cond.initialized C).before args s = true)
    (hK : va_K D vwCl (gtys cy) s) (hG : CG D A H0 ws q0 a ci fs xs H locs) (hA : ∀ q, H0.size ≤ q → A q) (cj : Nat) (hc : vwCl[cj]? = some (C, T, N)) {gs : List Value} (hfs : ∀ j, j < N → defaultValue (ty j) = vp_V gs j) (hcells : cells + 1 ≤ R.cells) (hslots : slots + N ≤ R.slots) (hdg : decode cc pc = .ok (.new index, 3))
    (kk : ∀ (q : Nat) (H1 : Heap), CG D A H0 ws q0 a ci fs (xs ++ [(q, .inr (cj, gs))]) H1 locs →
      W p l e R s m args below meth c0 H1 locs (cells + 1) (slots + N) Q (F0 m (pc + 3) ls (.ref q :: rest))) : W p l e R s m args below meth c0 H locs cells slots Q (F0 m pc ls rest) := by
  obtain ⟨hq, hP, hD, hS⟩ := hG
  refine va_new hexec hb hts hin ty hty hown hcl hinst hini hK hP hD hS hA hc hfs hcells hslots hdg (fun q H1 hP hD hS => kk q H1 ?_)
  rw [cwl_app] at hP hD
  exact ⟨hq, hP, hD, hS⟩
theorem c_iast (hexec : p.tables.exec = Jvm.exec) (hb : c.code = cc) (hK : va_K D vwCl (gtys cy) s) (hG : CG D A H0 ws q0 a ci fs xs H locs) (j : Nat) {b n : Nat} {f : Nat → Int32} (hx : xs[j]? = some (b, .inl (cy 0, n, .inl f))) {i : Int} {x : Int32} (hi : 0 ≤ i ∧ i < (n : Int) ∧ n < 2147483648) (hdg : decode cc pc = .ok (.iastore, 1))
    (kk : ∀ (H1 : Heap) (locs1 : List Loc), CG D A H0 ws q0 a ci fs (xs.set j (b, .inl (cy 0, n, .inl (upd f i.toNat x)))) H1 locs1 → W p l e R s m args below meth c H1 locs1 cells slots Q (F0 m (pc + 1) ls rest)) : W p l e R s m args below meth c H locs cells slots Q (F0 m pc ls (.int x :: .int (iI i) :: .ref b :: rest)) := by
  obtain ⟨hq, hP, hD, hS⟩ := hG
  refine va_iast hexec hb hK hP hD hS (ws.length + j) 0 ((cwl_x j).trans hx) rfl (iI_in hi.1 hi.2.1 hi.2.2) hdg (fun H1 locs1 hP hD hS => kk H1 locs1 ?_)
  rw [iI_cl hi.1 (by omega), cwl_setx] at hP hD
  exact ⟨hq, hP, hD, hS⟩
end CELLS
theorem c_defi (N : Nat) (cA : ClassId) : vp_cell cA (N, .inl (fun _ => iI 0)) = arrV cA N (fun _ => defaultValue .int) := by
  rw [vp_cell_i]
  rfl
theorem c_defz (N : Nat) (cA : ClassId) : vp_cell cA (N, .inl (fun _ => iI 0)) = arrV cA N (fun _ => defaultValue .boolean) := by
  rw [vp_cell_i]
  rfl
