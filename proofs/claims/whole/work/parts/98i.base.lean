/-! ===== what the law's start gives ===== -/
theorem gnw_in : ∀ w ∈ gnw, w ∈ lw_tbl := by decide +kernel
theorem cnw_in : ∀ w ∈ cnw, w ∈ lw_tbl := by decide +kernel
theorem gst_in : ∀ q ∈ gst, Cond.stringRef RX5 q.1 q.2 ∈ lw_tbl := by decide +kernel
theorem gnc_in : ∀ q ∈ gnc, Cond.not (.castable q.1 q.2) ∈ flatC (Jvm.Cond.and given_1 narrow_1) := by decide +kernel
theorem lw_K {args : Array Value} {s : State} (hts : ∀ w ∈ lw_tbl, w.before args s = true) : ∃ (D : va_G) (cy : Nat → ClassId), va_K D vwCl (gtys cy) s ∧ va_AO RX4 s ∧ va_AO RX0 s := by
  obtain ⟨c0, i0, h0⟩ := u_known hts inX0 (hts (.instantiable RX0 8) (by decide +kernel))
  obtain ⟨c1, i1, h1⟩ := u_known hts inX1 (hts (.instantiable RX1 3) (by decide +kernel))
  obtain ⟨c2, i2, h2⟩ := u_known hts inX2 (hts (.instantiable RX2 2) (by decide +kernel))
  obtain ⟨c3, i3, h3⟩ := u_known hts inX3 (hts (.instantiable RX3 3) (by decide +kernel))
  obtain ⟨c4, i4, h4⟩ := u_known hts inX4 (hts (.instantiable RX4 12) (by decide +kernel))
  obtain ⟨c5, i5, h5⟩ := u_known hts inX5 (hts (.instantiable RX5 6) (by decide +kernel))
  obtain ⟨c6, i6, h6⟩ := u_known hts inX6 (hts (.instantiable RX6 25) (by decide +kernel))
  obtain ⟨a0, k0, p0, f0, g0, e0⟩ := Cond.arrayClass_spec (hts (.arrayClass .int) (by decide +kernel))
  obtain ⟨a1, k1, p1, f1, g1, e1⟩ := Cond.arrayClass_spec (hts (.arrayClass .boolean) (by decide +kernel))
  obtain ⟨a4, k4, p4, f4, g4, e4⟩ := Cond.arrayClass_spec (hts (.arrayClass .long) (by decide +kernel))
  obtain ⟨a5, k5, p5, f5, g5, e5⟩ := Cond.arrayClass_spec (hts (.arrayClass .double) (by decide +kernel))
  have o2 := hts (.arrayOver (.object RX0)) (by decide +kernel)
  have o3 := hts (.arrayOver (.object RX4)) (by decide +kernel)
  obtain ⟨p2, a2, k2, q2, -, g2, e2, f2⟩ := Cond.arrayOver_spec o2
  obtain ⟨p3, a3, k3, q3, -, g3, e3, f3⟩ := Cond.arrayOver_spec o3
  refine ⟨(fun c => [c0, c1, c2, c3, c4, c5, c6].getD c c0, fun c => [i0, i1, i2, i3, i4, i5, i6].getD c i0), fun k => [a0, a1, a2, a3, a4, a5].getD k a0, ⟨fun c q hq => ?_, fun k q hk => ?_⟩, va_AO.of o3, va_AO.of o2⟩
  · match c, hq with
    | 0, hq => cases hq; exact h0
    | 1, hq => cases hq; exact h1
    | 2, hq => cases hq; exact h2
    | 3, hq => cases hq; exact h3
    | 4, hq => cases hq; exact h4
    | 5, hq => cases hq; exact h5
    | 6, hq => cases hq; exact h6
    | c + 7, hq => cases hq
  · match k, hk with
    | 0, hk => cases hk; exact ⟨fun N z => ⟨(fun k h => by cases h), k0, g0, p0, e0⟩, f0⟩
    | 1, hk => cases hk; exact ⟨fun N z => ⟨(fun k h => by cases h), k1, g1, p1, e1⟩, f1⟩
    | 2, hk => cases hk; exact ⟨fun N z => ⟨(fun k h => by cases h), k2, g2, p2, e2⟩, ⟨k2, p2, g2, e2, q2, f2⟩⟩
    | 3, hk => cases hk; exact ⟨fun N z => ⟨(fun k h => by cases h), k3, g3, p3, e3⟩, ⟨k3, p3, g3, e3, q3, f3⟩⟩
    | 4, hk => cases hk; exact ⟨fun N z => ⟨(fun k h => by cases h), k4, g4, p4, e4⟩, f4⟩
    | 5, hk => cases hk; exact ⟨fun N z => ⟨(fun k h => by cases h), k5, g5, p5, e5⟩, f5⟩
    | k + 6, hk => cases hk
theorem lw_gZ {args : Array Value} {s : State} {A : Nat → Prop} (hts : ∀ w ∈ lw_tbl, w.before args s = true) (hgv : (Jvm.Cond.and given_1 narrow_1).before args s = true) (hA : ∀ a : Nat, a < s.heap.size → ¬ A a) : ∃ fz : Nat, gZ fz A s s.heap := by
  have hs := flat_of_before _ hgv
  obtain ⟨t, ht, hT⟩ := va_Tof (N := 4) (tm := .static RX5 "FACTORS" "[I") (ty := .int) (f := fun j => .int (iI (gfac j))) (A := A) (by decide) (hs _ (by decide +kernel)) (va_eqt (hs (.eq (.length (.static RX5 "FACTORS" "[I")) (.int 4)) (by decide +kernel))) (fun j hj => by
    match j, hj with
    | 0, _ => exact va_eqt (hs (.eq (.elem (.static RX5 "FACTORS" "[I") (.int 0)) (.int 1)) (by decide +kernel))
    | 1, _ => exact va_eqt (hs (.eq (.elem (.static RX5 "FACTORS" "[I") (.int 1)) (.int 16)) (by decide +kernel))
    | 2, _ => exact va_eqt (hs (.eq (.elem (.static RX5 "FACTORS" "[I") (.int 2)) (.int (-1))) (by decide +kernel))
    | 3, _ => exact va_eqt (hs (.eq (.elem (.static RX5 "FACTORS" "[I") (.int 3)) (.int (-16))) (by decide +kernel))
    | j + 4, hj => omega) hA
  exact ⟨t, va_Zof (hts _ (by decide +kernel)) (hts (.initialized RX5) (by decide +kernel)) ht hA, hT, vx_Zqof (hts _ (by decide +kernel)) (hts (.initialized Bundle.tN) (by decide +kernel)) (hs _ (by decide +kernel)) hA, vx_Zqof (hts _ (by decide +kernel)) (hts (.initialized Bundle.tN) (by decide +kernel)) (hs _ (by decide +kernel)) hA⟩
theorem lw_gN {args : Array Value} {s : State} {cur : ClassId} (hcur : s.vm.findClass RX5 = some cur) (hts : ∀ w ∈ lw_tbl, w.before args s = true) (hgv : (Jvm.Cond.and given_1 narrow_1).before args s = true) : gN s :=
  ⟨fun w hw => va_Nw.of (gnw_t w hw) (hts w (gnw_in w hw)), fun q hq => by
    obtain ⟨_, _, _, a, -, -, -, -, -, ev⟩ := Cond.stringRef_spec hcur (hts _ (gst_in q hq))
    exact ⟨a, vk_R.of (hts _ (gst_in q hq)) ev⟩, fun q hq => va_Nc.of (flat_of_before _ hgv _ (gnc_in q hq))⟩
def st0 : St := fun c _ _ => if c = 3 then 1000 else if c = 9 then 1 else if c = 10 then 127 else if c = 13 then 4 else if c = 32 then 1000 else if c = 46 then 1 else if c = 47 then 127 else if c = 49 then 4 else if c = 60 then 1 else if c = 61 then 1 else 0
theorem RY_0 : RY st0 := ⟨⟨rfl, rfl, rfl, rfl⟩, fun q hq => absurd (show (q : Int) < 0 from hq) (by omega), fun q j hq => absurd (show (q : Int) < 0 from hq) (by omega), fun q j hq => absurd (show (q : Int) < 0 from hq) (by omega), fun t i _ _ => ⟨rfl, rfl, rfl, rfl, rfl⟩, fun t _ => ⟨rfl, rfl, rfl, rfl⟩, fun t i _ _ => rfl, fun t _ => Or.inr ⟨rfl, fun q hq => absurd (show 0 ≤ q ∧ q < 0 from hq) (by omega)⟩, fun o j => Int.le_refl _, fun j => Int.le_refl _, fun q h0 hq => absurd (show q < 0 from hq) (by omega), fun q1 q2 h1 _ _ _ => absurd (show 0 ≤ q1 ∧ q1 < 0 from h1) (by omega), fun q _ => ⟨fun j _ => rfl, rfl, fun j _ => rfl⟩⟩
theorem GI_st0 : ∀ c ∈ gcs, glo c ≤ st0 c 0 0 ∧ st0 c 0 0 ≤ ghi 0 c := by decide +kernel
theorem GI_st : GI 0 st0 := fun c hc o i => GI_st0 c hc
