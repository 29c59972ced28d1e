/-! ===== the world's cells, read and written ===== -/
theorem gln_le (kd : Nat) : gln kd < 2147483648 := by
  rcases Nat.lt_or_ge kd 43 with h | h
  · exact Nat.lt_of_le_of_lt ((by decide +kernel : ∀ k, k < 43 → gln k ≤ 768) kd h) (by decide)
  · have : gct[kd]? = none := List.getElem?_eq_none h
    unfold gln
    rw [List.getD_eq_getElem?_getD, this]
    show (0 : Nat) < 2147483648
    decide
theorem gC_0 (st : St) (ad : Nat → Nat) (cy : Nat → ClassId) : gC st ad cy 0 = .inr (6, gOm st ad) := rfl
theorem gC_21 (st : St) (ad : Nat → Nat) (cy : Nat → ClassId) : gC st ad cy 21 = .inr (5, gOx st ad) := rfl
theorem gC_22 (st : St) (ad : Nat → Nat) (cy : Nat → ClassId) : gC st ad cy 22 = .inr (3, gOs st) := rfl
theorem gC_23 (st : St) (ad : Nat → Nat) (cy : Nat → ClassId) : gC st ad cy 23 = .inl (cy 3, 6, .inr (.inr (.inr (.inr (fun j => some (ad (33 + 7 * j))))))) := rfl
theorem gC_24 (st : St) (ad : Nat → Nat) (cy : Nat → ClassId) : gC st ad cy 24 = .inl (cy 2, 6, .inr (.inr (.inr (.inr (fun j => if (j : Int) < st 33 0 0 then some (ad (75 + 3 * j)) else none))))) := rfl
theorem gC_25 (st : St) (ad : Nat → Nat) (cy : Nat → ClassId) : gC st ad cy 25 = .inr (2, [.ref (ad 26), .ref (ad 27)]) := rfl
theorem gC_28 (st : St) (ad : Nat → Nat) (cy : Nat → ClassId) : gC st ad cy 28 = .inr (1, gOp st ad) := rfl
theorem gC_t (st : St) (ad : Nat → Nat) (cy : Nat → ClassId) {o : Nat} (ho : o < 6) : gC st ad cy (33 + 7 * o) = .inr (4, gOt st ad o) := by
  unfold gC
  rw [show (33 + 7 * o) = 33 + 0 + 7 * o by omega, gk_t ho (by decide)]
  rfl
theorem gC_l (st : St) (ad : Nat → Nat) (cy : Nat → ClassId) (o : Nat) : gC st ad cy (75 + 3 * o) = .inr (0, gOl st ad o) := by
  unfold gC
  rw [show (75 + 3 * o) = 75 + 0 + 3 * o by omega, gk_l (by decide)]
  rfl
/-- a scalar of an object -/
theorem gcp_ns : ∀ c ∈ gsc, c ≠ 999 → ∀ kd, gcp kd ≠ c := by
  intro c hc h9 kd
  rcases Nat.lt_or_ge kd 43 with h | h
  · by_cases h2 : gty kd = 9
    · rw [(by decide +kernel : ∀ k, k < 43 → gty k = 9 → gcp k = 999) kd h h2]
      exact Ne.symm h9
    · exact Ne.symm (gty_s kd h h2 c hc)
  · rw [(gty_big h).2]
    exact Ne.symm h9
section GHEAP
variable {p : Program} {l : Launch} {e : Env} {R : Room} {s : State} {m : MethodId} {args : Array Value} {below : List Frame} {meth : Method} {c : Code} {H : Heap} {locs : List Loc} {cells slots : Nat} {Q : State → Prop}
variable {cc : ByteArray} {pc : Nat} {ls : Array Slot} {rest : List Value} {D : va_G} {cy : Nat → ClassId} {ad : Nat → Nat} {n : Nat} {st : St} {A : Nat → Prop} {H0 : Heap}
theorem g_iald (hexec : p.tables.exec = Jvm.exec) (hb : c.code = cc) (hK : va_K D vwCl (gtys cy) s) (hG : GH D cy ad n st A H0 H locs) (key : Nat) {kd o : Nat} (hg : gk key = (kd, o)) (hty : gty kd = 0) (hk : 19 ≤ key ∧ key < n) {cp ln : Nat} (hcp : gcp kd = cp) (hln : gln kd = ln) {i : Int} (hi : 0 ≤ i ∧ i < (ln : Int)) (hdg : decode cc pc = .ok (.iaload, 1))
    (kk : W p l e R s m args below meth c H locs cells slots Q (F0 m (pc + 1) ls (.int (iI (st cp o i)) :: rest))) : W p l e R s m args below meth c H locs cells slots Q (F0 m pc ls (.int (iI i) :: .ref (ad key) :: rest)) := by
  subst hcp; subst hln
  have hl := gln_le kd
  refine va_iald hexec hb hK hG.1 (key - 19) 0 (cA := cy 0) (n := gln kd) (f := fun j => iI (st (gcp kd) o (j : Int))) ((gw_at hk).trans (by rw [gC_a hg (by rw [hty]; decide), hty])) rfl (iI_in hi.1 hi.2 hl) hdg ?_
  rw [iI_cl hi.1 (by omega), Int.toNat_of_nonneg hi.1]
  exact kk
theorem g_zald (hexec : p.tables.exec = Jvm.exec) (hb : c.code = cc) (hK : va_K D vwCl (gtys cy) s) (hG : GH D cy ad n st A H0 H locs) (key : Nat) {kd o : Nat} (hg : gk key = (kd, o)) (hty : gty kd = 1) (hk : 19 ≤ key ∧ key < n) {cp ln : Nat} (hcp : gcp kd = cp) (hln : gln kd = ln) {i : Int} (hi : 0 ≤ i ∧ i < (ln : Int)) (hdg : decode cc pc = .ok (.baload, 1))
    (kk : W p l e R s m args below meth c H locs cells slots Q (F0 m (pc + 1) ls (.int (iI (st cp o i)) :: rest))) : W p l e R s m args below meth c H locs cells slots Q (F0 m pc ls (.int (iI i) :: .ref (ad key) :: rest)) := by
  subst hcp; subst hln
  have hl := gln_le kd
  refine va_zald hexec hb hK hG.1 (key - 19) 1 (cA := cy 1) (n := gln kd) (f := fun j => iI (st (gcp kd) o (j : Int))) ((gw_at hk).trans (by rw [gC_a hg (by rw [hty]; decide), hty])) rfl (iI_in hi.1 hi.2 hl) hdg ?_
  rw [iI_cl hi.1 (by omega), Int.toNat_of_nonneg hi.1]
  exact kk
theorem g_iast (hexec : p.tables.exec = Jvm.exec) (hb : c.code = cc) (hK : va_K D vwCl (gtys cy) s) (hG : GH D cy ad n st A H0 H locs) (key : Nat) {kd o : Nat} (hg : gk key = (kd, o)) (hty : gty kd = 0) (hk : 19 ≤ key ∧ key < n) {cp ln : Nat} (hcp : gcp kd = cp) (hln : gln kd = ln) {i v : Int} (hi : 0 ≤ i ∧ i < (ln : Int)) (hdg : decode cc pc = .ok (.iastore, 1))
    (kk : ∀ (H1 : Heap) (locs1 : List Loc), GH D cy ad n (ust st cp o i v) A H0 H1 locs1 → W p l e R s m args below meth c H1 locs1 cells slots Q (F0 m (pc + 1) ls rest)) : W p l e R s m args below meth c H locs cells slots Q (F0 m pc ls (.int (iI v) :: .int (iI i) :: .ref (ad key) :: rest)) := by
  subst hcp; subst hln
  have hl := gln_le kd
  have hn9 : gty kd ≠ 9 := by rw [hty]; decide
  refine va_iast hexec hb hK hG.1 hG.2.1 hG.2.2 (key - 19) 0 (cA := cy 0) (n := gln kd) (f := fun j => iI (st (gcp kd) o (j : Int))) ((gw_at hk).trans (by rw [gC_a hg hn9, hty])) rfl (iI_in hi.1 hi.2 hl) hdg (fun H1 locs1 hP hD hS => kk H1 locs1 ?_)
  rw [iI_cl hi.1 (by omega), gw_set (ct' := gC (ust st (gcp kd) o i v) ad cy) (fun j _ => by rw [gC_u hg hn9 st ad cy hi.1, hty]) hk] at hP hD
  exact ⟨hP, hD, hS⟩
theorem vp_nar_z {v : Int} (h : v = 0 ∨ v = 1) : vp_nar .boolean (iI v) = iI v := by
  rcases h with rfl | rfl <;> decide +kernel
theorem g_zast (hexec : p.tables.exec = Jvm.exec) (hb : c.code = cc) (hK : va_K D vwCl (gtys cy) s) (hG : GH D cy ad n st A H0 H locs) (key : Nat) {kd o : Nat} (hg : gk key = (kd, o)) (hty : gty kd = 1) (hk : 19 ≤ key ∧ key < n) {cp ln : Nat} (hcp : gcp kd = cp) (hln : gln kd = ln) {i v : Int} (hv : v = 0 ∨ v = 1) (hi : 0 ≤ i ∧ i < (ln : Int)) (hdg : decode cc pc = .ok (.bastore, 1))
    (kk : ∀ (H1 : Heap) (locs1 : List Loc), GH D cy ad n (ust st cp o i v) A H0 H1 locs1 → W p l e R s m args below meth c H1 locs1 cells slots Q (F0 m (pc + 1) ls rest)) : W p l e R s m args below meth c H locs cells slots Q (F0 m pc ls (.int (iI v) :: .int (iI i) :: .ref (ad key) :: rest)) := by
  subst hcp; subst hln
  have hl := gln_le kd
  have hn9 : gty kd ≠ 9 := by rw [hty]; decide
  refine va_zast hexec hb hK hG.1 hG.2.1 hG.2.2 (key - 19) 1 (cA := cy 1) (n := gln kd) (f := fun j => iI (st (gcp kd) o (j : Int))) ((gw_at hk).trans (by rw [gC_a hg hn9, hty])) rfl (iI_in hi.1 hi.2 hl) hdg (fun H1 locs1 hP hD hS => kk H1 locs1 ?_)
  rw [iI_cl hi.1 (by omega), vp_nar_z hv, gw_set (ct' := gC (ust st (gcp kd) o i v) ad cy) (fun j _ => by rw [gC_u hg hn9 st ad cy hi.1, hty]) hk] at hP hD
  exact ⟨hP, hD, hS⟩
theorem g_get (hexec : p.tables.exec = Jvm.exec) (hb : c.code = cc) {own ref C : String} {T : u_T} {N ci index : Nat} {Ts : List Cond} (hts : ∀ w ∈ Ts, w.before args s = true) (hin : ∀ w ∈ u_ws C T N, w ∈ Ts) (hown : s.vm.findClass own = some m.cls) (hK : va_K D vwCl (gtys cy) s) (hG : GH D cy ad n st A H0 H locs) {key : Nat} (hk : 19 ≤ key ∧ key < n) {fs : List Value} (hE : gC st ad cy key = .inr (ci, fs)) (hc : vwCl[ci]? = some (C, T, N)) (f : Nat) (hf : f < N) (hlink : (Cond.fieldLink own index ref (T f).2.1 (T f).2.2.1).before args s = true) (hsame : ∀ x, s.fieldFound? (T f).1 (T f).2.1 (T f).2.2.1 = some x → s.fieldFound? ref (T f).2.1 (T f).2.2.1 = some x) {v : Value} (hv : fs[f]? = some v) (hdg : decode cc pc = .ok (.getfield index, 3))
    (kk : W p l e R s m args below meth c H locs cells slots Q (F0 m (pc + 3) ls (v :: rest))) : W p l e R s m args below meth c H locs cells slots Q (F0 m pc ls (.ref (ad key) :: rest)) :=
  va_get hexec hb hts hin hown hK hG.1 (key - 19) ((gw_at hk).trans (by rw [hE])) hc f hf hlink hsame hv hdg kk
theorem g_put (hexec : p.tables.exec = Jvm.exec) (hb : c.code = cc) {own ref C : String} {T : u_T} {N ci index : Nat} {Ts : List Cond} (hts : ∀ w ∈ Ts, w.before args s = true) (hin : ∀ w ∈ u_ws C T N, w ∈ Ts) (ty0 : Nat → FieldType) (hty : ∀ k, k < N → parseFieldDescriptor (T k).2.2.1 = some (ty0 k)) (hnm : ∀ a, a < N → ∀ b, b < N → a ≠ b → (T a).2.1 ≠ (T b).2.1) (hown : s.vm.findClass own = some m.cls) (hK : va_K D vwCl (gtys cy) s) (hG : GH D cy ad n st A H0 H locs) {key : Nat} (hk : 19 ≤ key ∧ key < n) {fs : List Value} (hE : gC st ad cy key = .inr (ci, fs)) (hc : vwCl[ci]? = some (C, T, N)) (f : Nat) (hf : f < N) (hlink : (Cond.fieldLink own index ref (T f).2.1 (T f).2.2.1).before args s = true) (hsame : ∀ x, s.fieldFound? (T f).1 (T f).2.1 (T f).2.2.1 = some x → s.fieldFound? ref (T f).2.1 (T f).2.2.1 = some x) (hfin : (T f).2.2.2 = false) {ty : FieldType} {v : Value} (hd : parseFieldDescriptor (T f).2.2.1 = some ty) (hn : narrow ty v = v) (hfit : fits ty v = true) (hl : f < fs.length) (hdg : decode cc pc = .ok (.putfield index, 3)) (st' : St) (hU : ∀ j, j < n → gC st' ad cy j = if j = key then .inr (ci, fs.set f v) else gC st ad cy j)
    (kk : ∀ (H1 : Heap) (locs1 : List Loc), GH D cy ad n st' A H0 H1 locs1 → W p l e R s m args below meth c H1 locs1 cells slots Q (F0 m (pc + 3) ls rest)) : W p l e R s m args below meth c H locs cells slots Q (F0 m pc ls (v :: .ref (ad key) :: rest)) := by
  refine va_put hexec hb hts hin ty0 hty hnm hown hK hG.1 hG.2.1 hG.2.2 (key - 19) ((gw_at hk).trans (by rw [hE])) hc f hf hlink hsame hfin hd hn hfit hl hdg (fun H1 locs1 hP hD hS => kk H1 locs1 ?_)
  rw [gw_set (ct' := gC st' ad cy) hU hk] at hP hD
  exact ⟨hP, hD, hS⟩
end GHEAP
