/-! ===== what the law's start gives ===== -/
theorem gnw_in : ∀ w ∈ gnw, w ∈ lw_tbl := by decide +kernel
theorem cnw_in : ∀ w ∈ cnw, w ∈ lw_tbl := by decide +kernel
theorem gst_in : ∀ q ∈ gst, Cond.stringRef RX5 q.1 q.2 ∈ lw_tbl := by decide +kernel
theorem lw_K {args : Array Value} {s : State} (hts : ∀ w ∈ lw_tbl, w.before args s = true) : ∃ (D : va_G) (cy : Nat → ClassId), va_K D vwCl (gtys cy) s ∧ va_AO RX4 s ∧ va_AO RX0 s := by
  obtain ⟨c0, i0, h0⟩ := u_known hts inX0 (hts (.instantiable RX0 8) (by decide +kernel))
  obtain ⟨c1, i1, h1⟩ := u_known hts inX1 (hts (.instantiable RX1 3) (by decide +kernel))
  obtain ⟨c2, i2, h2⟩ := u_known hts inX2 (hts (.instantiable RX2 2) (by decide +kernel))
  obtain ⟨c3, i3, h3⟩ := u_known hts inX3 (hts (.instantiable RX3 3) (by decide +kernel))
  obtain ⟨c4, i4, h4⟩ := u_known hts inX4 (hts (.instantiable RX4 12) (by decide +kernel))
  obtain ⟨c5, i5, h5⟩ := u_known hts inX5 (hts (.instantiable RX5 6) (by decide +kernel))
  obtain ⟨a0, k0, p0, f0, g0, e0⟩ := Cond.arrayClass_spec (hts (.arrayClass .int) (by decide +kernel))
  obtain ⟨a1, k1, p1, f1, g1, e1⟩ := Cond.arrayClass_spec (hts (.arrayClass .boolean) (by decide +kernel))
  have o2 := hts (.arrayOver (.object RX0)) (by decide +kernel)
  have o3 := hts (.arrayOver (.object RX4)) (by decide +kernel)
  obtain ⟨p2, a2, k2, q2, -, g2, e2, f2⟩ := Cond.arrayOver_spec o2
  obtain ⟨p3, a3, k3, q3, -, g3, e3, f3⟩ := Cond.arrayOver_spec o3
  refine ⟨(fun c => [c0, c1, c2, c3, c4, c5].getD c c0, fun c => [i0, i1, i2, i3, i4, i5].getD c i0), fun k => [a0, a1, a2, a3].getD k a0, ⟨fun c q hq => ?_, fun k q hk => ?_⟩, va_AO.of o3, va_AO.of o2⟩
  · match c, hq with
    | 0, hq => cases hq; exact h0
    | 1, hq => cases hq; exact h1
    | 2, hq => cases hq; exact h2
    | 3, hq => cases hq; exact h3
    | 4, hq => cases hq; exact h4
    | 5, hq => cases hq; exact h5
    | c + 6, hq => cases hq
  · match k, hk with
    | 0, hk => cases hk; exact ⟨fun N z => ⟨(fun k h => by cases h), k0, g0, p0, e0⟩, f0⟩
    | 1, hk => cases hk; exact ⟨fun N z => ⟨(fun k h => by cases h), k1, g1, p1, e1⟩, f1⟩
    | 2, hk => cases hk; exact ⟨fun N z => ⟨(fun k h => by cases h), k2, g2, p2, e2⟩, ⟨k2, p2, g2, e2, q2, f2⟩⟩
    | 3, hk => cases hk; exact ⟨fun N z => ⟨(fun k h => by cases h), k3, g3, p3, e3⟩, ⟨k3, p3, g3, e3, q3, f3⟩⟩
    | k + 4, hk => cases hk
theorem lw_gZ {args : Array Value} {s : State} {A : Nat → Prop} (hts : ∀ w ∈ lw_tbl, w.before args s = true) (hgv : (Jvm.Cond.and given_1 narrow_1).before args s = true) (hA : ∀ a : Nat, a < s.heap.size → ¬ A a) : ∃ fz : Nat, gZ fz A s s.heap := by
  have hs := flat_of_before _ hgv
  obtain ⟨t, ht, hT⟩ := va_Tof (N := 4) (tm := .static RX5 "FACTORS" "[I") (ty := .int) (f := fun j => .int (iI (gfac j))) (A := A) (by decide) (hs _ (by decide +kernel)) (va_eqt (hs (.eq (.length (.static RX5 "FACTORS" "[I")) (.int 4)) (by decide +kernel))) (fun j hj => by
    match j, hj with
    | 0, _ => exact va_eqt (hs (.eq (.elem (.static RX5 "FACTORS" "[I") (.int 0)) (.int 1)) (by decide +kernel))
    | 1, _ => exact va_eqt (hs (.eq (.elem (.static RX5 "FACTORS" "[I") (.int 1)) (.int 16)) (by decide +kernel))
    | 2, _ => exact va_eqt (hs (.eq (.elem (.static RX5 "FACTORS" "[I") (.int 2)) (.int (-1))) (by decide +kernel))
    | 3, _ => exact va_eqt (hs (.eq (.elem (.static RX5 "FACTORS" "[I") (.int 3)) (.int (-16))) (by decide +kernel))
    | j + 4, hj => omega) hA
  exact ⟨t, va_Zof (hts _ (by decide +kernel)) (hts (.initialized RX5) (by decide +kernel)) ht hA, hT, vx_Zqof (hts _ (by decide +kernel)) (hts (.initialized Bundle.tN) (by decide +kernel)) (hs _ (by decide +kernel)) hA, vx_Zqof (hts _ (by decide +kernel)) (hts (.initialized Bundle.tN) (by decide +kernel)) (hs _ (by decide +kernel)) hA⟩
theorem lw_gN {args : Array Value} {s : State} {cur : ClassId} (hcur : s.vm.findClass RX5 = some cur) (hts : ∀ w ∈ lw_tbl, w.before args s = true) (hgv : (Jvm.Cond.and given_1 narrow_1).before args s = true) : gN s :=
  ⟨fun w hw => va_Nw.of (gnw_t w hw) (hts w (gnw_in w hw)), fun q hq => by
    obtain ⟨_, _, _, a, -, -, -, -, -, ev⟩ := Cond.stringRef_spec hcur (hts _ (gst_in q hq))
    exact ⟨a, vk_R.of (hts _ (gst_in q hq)) ev⟩, fun q hq => by cases hq⟩
def st0 : St := fun c _ _ => if c = 3 then 1000 else if c = 9 then 1 else if c = 10 then 127 else if c = 13 then 4 else if c = 32 then 1000 else if c = 46 then 1 else if c = 47 then 127 else if c = 49 then 4 else if c = 60 then 1 else if c = 61 then 1 else 0
theorem GI_st0 : ∀ c ∈ gcs, glo c ≤ st0 c 0 0 ∧ st0 c 0 0 ≤ ghi 0 c := by decide +kernel
theorem GI_st : GI 0 st0 := fun c hc o i => GI_st0 c hc

theorem ZI_0 : ZI 0 [] [] [] st0 := by
  refine ⟨⟨fun c o i h => ?_, rfl, rfl⟩, rfl, fun _ _ => rfl, fun _ _ _ => ⟨rfl, fun _ => rfl⟩, fun o h => absurd h (Nat.not_lt_zero _), fun t h => ?_⟩
  · have h9 : c = 40 ∨ c = 41 ∨ c = 42 ∨ c = 43 ∨ c = 44 := by omega
    rcases h9 with rfl | rfl | rfl | rfl | rfl <;> rfl
  · show (0 : Int) = ([] : List Int).getD t 0
    simp
def lF5 (w5 : Nat → Nat) : List Value := [.ref (w5 22), .ref (w5 23), .ref (w5 24), .ref (w5 25), .ref (w5 28), .int (iI (0))]
def lX5 (cy : Nat → ClassId) (w5 : Nat → Nat) : va_W := [((w5 22), .inr (3, [.int (iI 0), .int (iI 0), .int (iI 1000)])), ((w5 23), .inl (cy 3, 6, .inr (.inr (.inr (.inr (va_up (va_up (va_up (va_up (va_up (va_up (fun _ => none) 0 (some (w5 33))) 1 (some (w5 40))) 2 (some (w5 47))) 3 (some (w5 54))) 4 (some (w5 61))) 5 (some (w5 68)))))))), ((w5 24), .inl (cy 2, 6, .inr (.inr (.inr (.inr (fun _ => none)))))), ((w5 25), .inr (2, [.ref (w5 26), .ref (w5 27)])), ((w5 26), .inl (cy 0, 64, .inl (fun _ => iI 0))), ((w5 27), .inl (cy 0, 256, .inl (fun _ => iI 0))), ((w5 28), .inr (1, [.ref (w5 29), .ref (w5 30), .int (iI 0)])), ((w5 29), .inl (cy 0, 6, .inl (fun _ => iI 0))), ((w5 30), .inl (cy 0, 6, .inl (fun _ => iI 0)))] ++ tlC cy (w5 33) 0 (fun k => w5 (34 + k)) ++ tlC cy (w5 40) 1 (fun k => w5 (41 + k)) ++ tlC cy (w5 47) 2 (fun k => w5 (48 + k)) ++ tlC cy (w5 54) 3 (fun k => w5 (55 + k)) ++ tlC cy (w5 61) 4 (fun k => w5 (62 + k)) ++ tlC cy (w5 68) 5 (fun k => w5 (69 + k))
def lW (cy : Nat → ClassId) (x a1 a2 a3 a4 : Nat) (w5 : Nat → Nat) : va_W := (x, .inr (5, lF5 w5)) :: (lX5 cy w5 ++ [(a1, Sum.inl (cy 0, 2, Sum.inl (fun _ => iI 0)))] ++ [(a2, Sum.inl (cy 0, 2, Sum.inl (fun _ => iI 0)))] ++ [(a3, Sum.inl (cy 0, 2, Sum.inl (fun _ => iI 0)))] ++ [(a4, Sum.inl (cy 0, 64, Sum.inl (fun _ => iI 0)))])
def lad (x a1 a2 a3 a4 : Nat) (w5 : Nat → Nat) : Nat → Nat := fun k => if k = 19 then a1 else if k = 20 then a2 else if k = 21 then x else if k = 31 then a3 else if k = 32 then a4 else w5 k
def lsg : List Nat := [52, 53, 0, 1, 2, 3, 4, 5, 6, 7, 8, 9, 54, 55, 10, 11, 12, 13, 14, 15, 16, 17, 18, 19, 20, 21, 22, 23, 24, 25, 26, 27, 28, 29, 30, 31, 32, 33, 34, 35, 36, 37, 38, 39, 40, 41, 42, 43, 44, 45, 46, 47, 48, 49, 50, 51]
theorem lsg_nd : ∀ i, i < 56 → ∀ j, j < 56 → lsg.getD i 0 = lsg.getD j 0 → i = j := by decide +kernel
theorem va_at_x {D : va_G} {a : Nat} {cA : ClassId} {n : Nat} {f g : Nat → Int32} {H : Heap} (h : va_at D vwCl (a, .inl (cA, n, .inl f)) H) (hfg : ∀ j, j < n → f j = g j) : va_at D vwCl (a, .inl (cA, n, .inl g)) H := by
  show H[a]? = some (vp_cell _ _)
  have h : H[a]? = some (vp_cell _ _) := h
  rw [h, vp_cell_i, vp_cell_i, arrV_ext _ _ (fun j hj => by rw [hfg j hj])]
theorem va_at_q {D : va_G} {a : Nat} {cA : ClassId} {n : Nat} {f g : Nat → Option Nat} {H : Heap} (h : va_at D vwCl (a, .inl (cA, n, .inr (.inr (.inr (.inr f))))) H) (hfg : ∀ j, j < n → f j = g j) : va_at D vwCl (a, .inl (cA, n, .inr (.inr (.inr (.inr g))))) H := by
  show H[a]? = some (vp_cell _ _)
  have h : H[a]? = some (vp_cell _ _) := h
  rw [h, vp_cell_q, vp_cell_q, arrV_ext _ _ (fun j hj => by rw [hfg j hj])]
