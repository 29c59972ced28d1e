/-! ===== rows of references under construction ===== -/
def cnw : List Cond := [.methodLinkNest RX5 11 yX3_init RX5, .methodLinkNest RX5 30 yX2_init RX5, .methodLinkNest RX5 37 yX1_init RX5]
theorem cnw_t : ∀ w ∈ cnw, w.onTables = true := by decide +kernel
def cB5 (D : va_G) (cy : Nat → ClassId) (ws : va_W) (sz : Nat) (U : State) : Prop := cB D cy ws sz U ∧ va_AO RX4 U ∧ va_AO RX0 U ∧ ∀ w ∈ cnw, va_Nw w U
theorem c_blind5 {D : va_G} {cy : Nat → ClassId} {ws : va_W} {sz : Nat} {av : List Value} : FrameBlind (va_Pc av (cB5 D cy ws sz)) := fun a U g mk q => by
  obtain ⟨q0, ⟨q1, qP, qK, qD⟩, h4, h0, h9⟩ := q
  exact ⟨q0, ⟨q1, qP, va_K.moved (u := U) (U := U.calling g mk a) (Vm.Alike.refl U.vm) qK, qD⟩, va_AO.moved (u := U) (U := U.calling g mk a) (Vm.Alike.refl U.vm) h4, va_AO.moved (u := U) (U := U.calling g mk a) (Vm.Alike.refl U.vm) h0, fun w hw => va_Nw.same (cnw_t w hw) (u := U) (U := U.calling g mk a) rfl (h9 w hw)⟩
section CELLS2
variable {p : Program} {l : Launch} {e : Env} {R : Room} {s : State} {m : MethodId} {args : Array Value} {below : List Frame} {meth : Method} {c : Code} {H : Heap} {locs : List Loc} {cells slots : Nat} {Q : State → Prop}
variable {cc : ByteArray} {pc : Nat} {ls : Array Slot} {rest st0 : List Value} {D : va_G} {cy : Nat → ClassId} {mc ms : Nat} {A : Nat → Prop} {H0 : Heap} {av : Array Value} {ws xs : va_W} {q0 a ci : Nat} {fs : List Value}
theorem c_newq (hexec : p.tables.exec = Jvm.exec) (hb : c.code = cc) {own C : String} {index : Nat} (hown : s.vm.findClass own = some m.cls) (hclink : (Cond.classLink own index C).before args s = true) (hover : va_AO C s) (t0 : Nat) (ht : (gtys cy)[t0]? = some (cy t0, .object C)) (hK : va_K D vwCl (gtys cy) s) (hG : CG D A H0 ws q0 a ci fs xs H locs) (hA : ∀ q, H0.size ≤ q → A q)
    {n : Int32} {N' : Nat} (hn : ¬ n < 0) (hN : n.toNatClampNeg = N') (hbytes : N' * 4 ≤ 536870912) (hcells : cells + 1 ≤ R.cells) (hslots : slots + N' ≤ R.slots) (hdg : decode cc pc = .ok (.anewarray index, 3))
    (kk : ∀ (q : Nat) (H1 : Heap), CG D A H0 ws q0 a ci fs (xs ++ [(q, .inl (cy t0, N', .inr (.inr (.inr (.inr (fun _ => none))))))]) H1 locs →
      W p l e R s m args below meth c H1 locs (cells + 1) (slots + N') Q (F0 m (pc + 3) ls (.ref q :: rest))) : W p l e R s m args below meth c H locs cells slots Q (F0 m pc ls (.int n :: rest)) := by
  obtain ⟨hq, hP, hD, hS⟩ := hG
  refine va_newq hexec hb hown hclink hover hK hP hD hS hA hn hN hbytes hcells hslots hdg (fun q cA H1 hK1 hP1 hD1 hS1 => ?_)
  obtain ⟨_, _, _, _, _, h1⟩ := (hK1.2 4 (cA, .object C) rfl).2
  obtain ⟨_, _, _, _, _, h2⟩ := (hK.2 t0 _ ht).2
  have hcA : cA = cy t0 := Option.some.inj (h1.symm.trans h2)
  subst hcA
  rw [cwl_app] at hP1 hD1
  exact kk q H1 ⟨hq, hP1, hD1, hS1⟩
theorem c_astq (hexec : p.tables.exec = Jvm.exec) (hb : c.code = cc) (hK : va_K D vwCl (gtys cy) s) (hG : CG D A H0 ws q0 a ci fs xs H locs) (j jv t0 ck : Nat) {r : vw_C} (ht : (gtys cy)[t0]? = some (cy t0, .object r.1)) (hc : vwCl[ck]? = some r) {b n v : Nat} {f : Nat → Option Nat} {vs : List Value} (hx : xs[j]? = some (b, .inl (cy t0, n, .inr (.inr (.inr (.inr f)))))) (hv : xs[jv]? = some (v, .inr (ck, vs))) {i : Int} (hi : 0 ≤ i ∧ i < (n : Int) ∧ n < 2147483648) (hdg : decode cc pc = .ok (.aastore, 1))
    (kk : ∀ (H1 : Heap) (locs1 : List Loc), CG D A H0 ws q0 a ci fs (xs.set j (b, .inl (cy t0, n, .inr (.inr (.inr (.inr (va_up f i.toNat (some v)))))))) H1 locs1 → W p l e R s m args below meth c H1 locs1 cells slots Q (F0 m (pc + 1) ls rest)) : W p l e R s m args below meth c H locs cells slots Q (F0 m pc ls (.ref v :: .int (iI i) :: .ref b :: rest)) := by
  obtain ⟨hq, hP, hD, hS⟩ := hG
  refine va_astq hexec hb hK hP hD hS (ws.length + j) t0 (ws.length + jv) ck ((cwl_x j).trans hx) ht ((cwl_x jv).trans hv) hc (iI_in hi.1 hi.2.1 hi.2.2) hdg (fun H1 locs1 hP hD hS => kk H1 locs1 ?_)
  rw [iI_cl hi.1 (by omega), cwl_setx] at hP hD
  exact ⟨hq, hP, hD, hS⟩
end CELLS2
def tlC (cy : Nat → ClassId) (b : Nat) (t : Int) (w : Nat → Nat) : va_W := (b, .inr (4, [.int (iI t), .ref (w 0), .ref (w 1), .ref (w 2), .ref (w 3), .ref (w 4), .ref (w 5), .int (iI 1), .int (iI 127), .int (iI 0), .int (iI 4), .int (iI 0)])) :: [((w 0), .inl (cy 0, 128, .inl (fun _ => iI 0))), ((w 1), .inl (cy 0, 128, .inl (fun _ => iI 0))), ((w 2), .inl (cy 0, 128, .inl (fun _ => iI 0))), ((w 3), .inl (cy 1, 128, .inl (fun _ => iI 0))), ((w 4), .inl (cy 1, 128, .inl (fun _ => iI 0))), ((w 5), .inl (cy 0, 16, .inl (fun _ => iI 0)))]
def c6i (v : Int32) : Nat → Int32 := upd (upd (upd (upd (upd (upd (fun _ => iI 0) 0 v) 1 v) 2 v) 3 v) 4 v) 5 v
