/-! ===== the law's helpers: the two out rows, and catching ===== -/
theorem GI_o {W : Int} {st : St} (h : GI W st) {c o : Nat} {i v : Int} (hc : c ∉ gcs) : GI W (ust st c o i v) := fun c' hc' o' i' => by
  have hne : c' ≠ c := fun e => hc (by rw [← e]; exact hc')
  rw [ust_c hne]
  exact h c' hc' o' i'
theorem gEU_70 (st : St) (ad : Nat → Nat) (cy : Nat → ClassId) (v : Int) {kd' : Nat} (o' : Nat) (hk : kd' ≠ 31) : gE (ust st 70 0 0 v) ad cy kd' o' = gE st ad cy kd' o' := by
  have hc : gcp kd' ≠ 70 := gcp_ns 70 (by decide) (by decide) kd'
  simp [gE, gOm, gOx, gOs, gOp, gOt, gOl, ust, hk, hc]
theorem gEU_71 (st : St) (ad : Nat → Nat) (cy : Nat → ClassId) (v : Int) {kd' : Nat} (o' : Nat) (hk : kd' ≠ 32) : gE (ust st 71 0 0 v) ad cy kd' o' = gE st ad cy kd' o' := by
  have hc : gcp kd' ≠ 71 := gcp_ns 71 (by decide) (by decide) kd'
  simp [gE, gOm, gOx, gOs, gOp, gOt, gOl, ust, hk, hc]
theorem gU_70 (st : St) (ad : Nat → Nat) (cy : Nat → ClassId) (v : Int) {j : Nat} (hj : j ≠ 31) : gC (ust st 70 0 0 v) ad cy j = gC st ad cy j := by
  unfold gC
  exact gEU_70 st ad cy v _ (fun q => hj (gk_inj (Prod.ext (q.trans rfl) (gk_0 (by rw [q]; decide)))))
theorem gU_71 (st : St) (ad : Nat → Nat) (cy : Nat → ClassId) (v : Int) {j : Nat} (hj : j ≠ 32) : gC (ust st 71 0 0 v) ad cy j = gC st ad cy j := by
  unfold gC
  exact gEU_71 st ad cy v _ (fun q => hj (gk_inj (Prod.ext (q.trans rfl) (gk_0 (by rw [q]; decide)))))
theorem arrV_1 (cA : ClassId) {f g : Nat → Value} (h : f 0 = g 0) : arrV cA 1 f = arrV cA 1 g := by
  unfold arrV
  congr 1
  have e : (fun j : Fin 1 => f j.val) = fun j => g j.val := funext fun j => by
    obtain ⟨j, hj⟩ := j
    obtain rfl : j = 0 := by omega
    exact h
  rw [e]
section GLAW
variable {p : Program} {l : Launch} {e : Env} {R : Room} {s : State} {m : MethodId} {args : Array Value} {below : List Frame} {meth : Method} {c : Code} {H : Heap} {locs : List Loc} {cells slots : Nat} {Q : State → Prop}
variable {cc : ByteArray} {pc : Nat} {ls : Array Slot} {rest : List Value} {D : va_G} {cy : Nat → ClassId} {ad : Nat → Nat} {n : Nat} {st : St} {A : Nat → Prop} {H0 : Heap}
theorem g_last (hexec : p.tables.exec = Jvm.exec) (hb : c.code = cc) (hn : 75 ≤ n) (hK : va_K D vwCl (gtys cy) s) (hG : GH D cy ad n st A H0 H locs) {v : Int64} (hdg : decode cc pc = .ok (.lastore, 1))
    (kk : ∀ (H1 : Heap) (locs1 : List Loc), GH D cy ad n (ust st 70 0 0 v.toInt) A H0 H1 locs1 → W p l e R s m args below meth c H1 locs1 cells slots Q (F0 m (pc + 1) ls rest)) : W p l e R s m args below meth c H locs cells slots Q (F0 m pc ls (.long v :: .int (iI 0) :: .ref (ad 31) :: rest)) := by
  refine va_last hexec hb hK hG.1 hG.2.1 hG.2.2 31 4 (cA := cy 4) (n := 1) (f := fun _ => Int64.ofInt (st 70 0 0)) ((gw_at (by omega)).trans (by rw [gC_31])) rfl (iI_in (by decide) (by decide) (by decide)) hdg (fun H1 locs1 hP hD hS => kk H1 locs1 ⟨fun k q hk => ?_, gw_D hG.2.1, hS⟩)
  obtain ⟨h1, rfl⟩ := gw_in hk
  by_cases h31 : k = 31
  · subst h31
    have h2 := hP 31 (ad 31, .inl (cy 4, 1, .inr (.inl (vp_updL (fun _ => Int64.ofInt (st 70 0 0)) (iI 0).toNatClampNeg v)))) (by
      rw [List.getElem?_set, if_pos rfl, if_pos (by unfold gw; rw [List.length_map, List.length_range]; exact h1)])
    have h3 : H1[ad 31]? = some (vp_cell (cy 4) (1, .inr (.inl (vp_updL (fun _ => Int64.ofInt (st 70 0 0)) (iI 0).toNatClampNeg v)))) := h2
    rw [gC_31]
    show H1[ad 31]? = some (vp_cell (cy 4) (1, .inr (.inl (fun _ => Int64.ofInt (ust st 70 0 0 v.toInt 70 0 0)))))
    rw [h3]
    congr 1
    rw [vp_cell_l, vp_cell_l]
    refine arrV_1 _ ?_
    rw [ust_s, Int64.ofInt_toInt]
    rfl
  · rw [gU_70 st ad cy _ h31]
    exact hP k _ (by rw [List.getElem?_set, if_neg (fun z => h31 z.symm)]; exact gw_at h1)
theorem g_lald (hexec : p.tables.exec = Jvm.exec) (hb : c.code = cc) (hn : 75 ≤ n) (hK : va_K D vwCl (gtys cy) s) (hG : GH D cy ad n st A H0 H locs) (hdg : decode cc pc = .ok (.laload, 1))
    (kk : W p l e R s m args below meth c H locs cells slots Q (F0 m (pc + 1) ls (.long (Int64.ofInt (st 70 0 0)) :: rest))) : W p l e R s m args below meth c H locs cells slots Q (F0 m pc ls (.int (iI 0) :: .ref (ad 31) :: rest)) :=
  va_lald hexec hb hK hG.1 31 4 (cA := cy 4) (n := 1) (f := fun _ => Int64.ofInt (st 70 0 0)) ((gw_at (by omega)).trans (by rw [gC_31])) rfl (iI_in (by decide) (by decide) (by decide)) hdg kk
theorem g_dast (hexec : p.tables.exec = Jvm.exec) (hb : c.code = cc) (hn : 75 ≤ n) (hK : va_K D vwCl (gtys cy) s) (hG : GH D cy ad n st A H0 H locs) {v : UInt64} (hdg : decode cc pc = .ok (.dastore, 1))
    (kk : ∀ (H1 : Heap) (locs1 : List Loc), GH D cy ad n (ust st 71 0 0 (v.toNat : Int)) A H0 H1 locs1 → W p l e R s m args below meth c H1 locs1 cells slots Q (F0 m (pc + 1) ls rest)) : W p l e R s m args below meth c H locs cells slots Q (F0 m pc ls (.double v :: .int (iI 0) :: .ref (ad 32) :: rest)) := by
  refine va_dast hexec hb hK hG.1 hG.2.1 hG.2.2 32 5 (cA := cy 5) (n := 1) (f := fun _ => UInt64.ofNat (st 71 0 0).toNat) ((gw_at (by omega)).trans (by rw [gC_32])) rfl (iI_in (by decide) (by decide) (by decide)) hdg (fun H1 locs1 hP hD hS => kk H1 locs1 ⟨fun k q hk => ?_, gw_D hG.2.1, hS⟩)
  obtain ⟨h1, rfl⟩ := gw_in hk
  by_cases h32 : k = 32
  · subst h32
    have h2 := hP 32 (ad 32, .inl (cy 5, 1, .inr (.inr (.inr (.inl (vf_upd (fun _ => UInt64.ofNat (st 71 0 0).toNat) (iI 0).toNatClampNeg v)))))) (by
      rw [List.getElem?_set, if_pos rfl, if_pos (by unfold gw; rw [List.length_map, List.length_range]; exact h1)])
    have h3 : H1[ad 32]? = some (vp_cell (cy 5) (1, .inr (.inr (.inr (.inl (vf_upd (fun _ => UInt64.ofNat (st 71 0 0).toNat) (iI 0).toNatClampNeg v)))))) := h2
    rw [gC_32]
    show H1[ad 32]? = some (vp_cell (cy 5) (1, .inr (.inr (.inr (.inl (fun _ => UInt64.ofNat (ust st 71 0 0 (v.toNat : Int) 71 0 0).toNat))))))
    rw [h3]
    congr 1
    rw [vp_cell_d, vp_cell_d]
    refine arrV_1 _ ?_
    rw [ust_s, Int.toNat_natCast, UInt64.ofNat_toNat]
    rfl
  · rw [gU_71 st ad cy _ h32]
    exact hP k _ (by rw [List.getElem?_set, if_neg (fun z => h32 z.symm)]; exact gw_at h1)
theorem g_dald (hexec : p.tables.exec = Jvm.exec) (hb : c.code = cc) (hn : 75 ≤ n) (hK : va_K D vwCl (gtys cy) s) (hG : GH D cy ad n st A H0 H locs) (hdg : decode cc pc = .ok (.daload, 1))
    (kk : W p l e R s m args below meth c H locs cells slots Q (F0 m (pc + 1) ls (.double (UInt64.ofNat (st 71 0 0).toNat) :: rest))) : W p l e R s m args below meth c H locs cells slots Q (F0 m pc ls (.int (iI 0) :: .ref (ad 32) :: rest)) :=
  va_dald hexec hb hK hG.1 32 5 (cA := cy 5) (n := 1) (f := fun _ => UInt64.ofNat (st 71 0 0).toNat) ((gw_at (by omega)).trans (by rw [gC_32])) rfl (iI_in (by decide) (by decide) (by decide)) hdg kk
theorem g_c0 {own E : String} {ce : Cell} {q9 : Addr} {x : ExceptionTableEntry} {suf : List ExceptionTableEntry} (hown : s.vm.findClass own = some m.cls) (htab : c.exceptionTable.toList = x :: suf) (hx : covers x pc = true) (h0 : x.catchType ≠ 0) (hlink : (Cond.classLink own x.catchType E).before args s = true) (hN : gN s) (hcw : Cond.castable E E ∈ gnw) (hcell : H[q9]? = some ce) (hv : ce.vm = .none) (hcl : s.vm.findClass E = some ce.cls)
    (kk : W p l e R s m args below meth c H locs cells slots Q (F0 m x.handlerPc ls [.ref q9])) : vx_W p l e R s m args below meth c H locs cells slots Q (F0 m pc ls rest) q9 :=
  vx_catch hown [] x suf htab (fun z hz => nomatch hz) hx h0 hlink (va_Nw.use rfl (hN.1 _ hcw)) hcell hv hcl kk
theorem g_c1 {own E N1 : String} {ce : Cell} {q9 : Addr} {y x : ExceptionTableEntry} {suf : List ExceptionTableEntry} (hown : s.vm.findClass own = some m.cls) (htab : c.exceptionTable.toList = y :: x :: suf) (hx : covers x pc = true) (h0 : x.catchType ≠ 0) (hlink : (Cond.classLink own x.catchType E).before args s = true) (hN : gN s) (hcw : Cond.castable E E ∈ gnw) (hcell : H[q9]? = some ce) (hv : ce.vm = .none) (hcl : s.vm.findClass E = some ce.cls)
    (hy0 : y.catchType ≠ 0) (hly : (Cond.classLink own y.catchType N1).before args s = true) (hny : (E, N1) ∈ gnc)
    (kk : W p l e R s m args below meth c H locs cells slots Q (F0 m x.handlerPc ls [.ref q9])) : vx_W p l e R s m args below meth c H locs cells slots Q (F0 m pc ls rest) q9 :=
  vx_catch hown [y] x suf htab (fun z hz => by rw [List.mem_singleton.mp hz]; exact Or.inr ⟨hy0, N1, hly, hN.2.2 _ hny⟩) hx h0 hlink (va_Nw.use rfl (hN.1 _ hcw)) hcell hv hcl kk
theorem g_c2 {own E N1 N2 : String} {ce : Cell} {q9 : Addr} {y1 y2 x : ExceptionTableEntry} {suf : List ExceptionTableEntry} (hown : s.vm.findClass own = some m.cls) (htab : c.exceptionTable.toList = y1 :: y2 :: x :: suf) (hx : covers x pc = true) (h0 : x.catchType ≠ 0) (hlink : (Cond.classLink own x.catchType E).before args s = true) (hN : gN s) (hcw : Cond.castable E E ∈ gnw) (hcell : H[q9]? = some ce) (hv : ce.vm = .none) (hcl : s.vm.findClass E = some ce.cls)
    (hy1 : y1.catchType ≠ 0) (hl1 : (Cond.classLink own y1.catchType N1).before args s = true) (hn1 : (E, N1) ∈ gnc) (hy2 : y2.catchType ≠ 0) (hl2 : (Cond.classLink own y2.catchType N2).before args s = true) (hn2 : (E, N2) ∈ gnc)
    (kk : W p l e R s m args below meth c H locs cells slots Q (F0 m x.handlerPc ls [.ref q9])) : vx_W p l e R s m args below meth c H locs cells slots Q (F0 m pc ls rest) q9 :=
  vx_catch hown [y1, y2] x suf htab (fun z hz => by
    rcases List.mem_cons.mp hz with h | h
    · rw [h]; exact Or.inr ⟨hy1, N1, hl1, hN.2.2 _ hn1⟩
    · rw [List.mem_singleton.mp h]; exact Or.inr ⟨hy2, N2, hl2, hN.2.2 _ hn2⟩) hx h0 hlink (va_Nw.use rfl (hN.1 _ hcw)) hcell hv hcl kk
end GLAW
theorem xE1 {a E : String} {k : Int} (h : xE [a] E k) : E = a ∧ k = 1 := by
  obtain ⟨j, hj, hk⟩ := h
  match j, hj with
  | 0, hj => exact ⟨(Option.some.inj hj).symm, by omega⟩
  | j + 1, hj => simp at hj
theorem xE2 {a b E : String} {k : Int} (h : xE [a, b] E k) : (E = a ∧ k = 1) ∨ (E = b ∧ k = 2) := by
  obtain ⟨j, hj, hk⟩ := h
  match j, hj with
  | 0, hj => exact Or.inl ⟨(Option.some.inj hj).symm, by omega⟩
  | 1, hj => exact Or.inr ⟨(Option.some.inj hj).symm, by omega⟩
  | j + 2, hj => simp at hj
theorem xE3 {a b d E : String} {k : Int} (h : xE [a, b, d] E k) : (E = a ∧ k = 1) ∨ (E = b ∧ k = 2) ∨ (E = d ∧ k = 3) := by
  obtain ⟨j, hj, hk⟩ := h
  match j, hj with
  | 0, hj => exact Or.inl ⟨(Option.some.inj hj).symm, by omega⟩
  | 1, hj => exact Or.inr (Or.inl ⟨(Option.some.inj hj).symm, by omega⟩)
  | 2, hj => exact Or.inr (Or.inr ⟨(Option.some.inj hj).symm, by omega⟩)
  | j + 3, hj => simp at hj
theorem xcIn (E : String) (h : E = xI ∨ E = xA ∨ E = xS) : Cond.castable E E ∈ gnw := by
  rcases h with rfl | rfl | rfl <;> decide +kernel
theorem xnSA : (xS, xA) ∈ gnc := by decide +kernel
theorem xnAI : (xA, xI) ∈ gnc := by decide +kernel
theorem xnSI : (xS, xI) ∈ gnc := by decide +kernel
theorem fShD_n : ∀ k : Nat, k < 129 → (FP.f2d (FP.fdiv (FP.i2f (iI (k : Int))) 1124073472)) &&& 0x7fffffffffffffff ≤ 0x7ff0000000000000 := by decide +kernel
theorem fShD_n2 {x : Int} (h : 0 ≤ x ∧ x ≤ 128) : vf_n64 (FP.f2d (fShare x)) := by
  obtain ⟨k, rfl⟩ : ∃ k : Nat, x = (k : Int) := ⟨x.toNat, by omega⟩
  exact fShD_n k (by omega)
