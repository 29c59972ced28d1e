/-! ===== the class: the table of factors ===== -/
def fcF (i : Int) : Int := gfac i.toNat
theorem fcF_s {i : Int} (h : 0 ≤ i ∧ i < 4) : (i = 0 ∧ fcF i = 1) ∨ (i = 1 ∧ fcF i = 16) ∨ (i = 2 ∧ fcF i = -1) ∨ (i = 3 ∧ fcF i = -16) := by
  have hc : i = 0 ∨ i = 1 ∨ i = 2 ∨ i = 3 := by omega
  rcases hc with rfl | rfl | rfl | rfl
  · exact Or.inl ⟨rfl, rfl⟩
  · exact Or.inr (Or.inl ⟨rfl, rfl⟩)
  · exact Or.inr (Or.inr (Or.inl ⟨rfl, rfl⟩))
  · exact Or.inr (Or.inr (Or.inr ⟨rfl, rfl⟩))
section GFAC
variable {p : Program} {l : Launch} {e : Env} {R : Room} {s : State} {m : MethodId} {args : Array Value} {below : List Frame} {meth : Method} {c : Code} {H : Heap} {locs : List Loc} {cells slots : Nat} {Q : State → Prop}
variable {cc : ByteArray} {pc : Nat} {ls : Array Slot} {rest : List Value} {D : va_G} {cy : Nat → ClassId} {ad : Nat → Nat} {n fz : Nat} {st : St} {A : Nat → Prop}
theorem g_fac (hexec : p.tables.exec = Jvm.exec) (hb : c.code = cc) (hZ : gZ fz A s s.heap) (hG : GH D cy ad n st A s.heap H locs) {i : Int} (hi : 0 ≤ i ∧ i < 4) (hdg : decode cc pc = .ok (.iaload, 1))
    (kk : W p l e R s m args below meth c H locs cells slots Q (F0 m (pc + 1) ls (.int (iI (fcF i)) :: rest))) : W p l e R s m args below meth c H locs cells slots Q (F0 m pc ls (.int (iI i) :: .ref fz :: rest)) :=
  va_ti hexec hb hZ.2.1 hG.2.2 (iI_in hi.1 (by omega) (by decide)) (v := .int (iI (fcF i))) (by rw [iI_cl hi.1 (by omega)]; rfl) hdg kk
end GFAC
