def lad (x m o1 o2 : Nat) (w5 w6 : Nat → Nat) : Nat → Nat := fun k => if k = 0 then m else if k < 21 then w6 k else if k = 21 then x else if k = 31 then o1 else if k = 32 then o2 else w5 k
def lW (cy : Nat → ClassId) (x m o1 o2 : Nat) (w5 w6 : Nat → Nat) : va_W := ((x, .inr (5, [.ref (w5 22), .ref (w5 23), .ref (w5 24), .ref (w5 25), .ref (w5 28), .int (iI (0))])) :: ([((w5 22), .inr (3, [.int (iI 0), .int (iI 0), .int (iI 1000)])), ((w5 23), .inl (cy 3, 6, .inr (.inr (.inr (.inr (va_up (va_up (va_up (va_up (va_up (va_up (fun _ => none) 0 (some (w5 33))) 1 (some (w5 40))) 2 (some (w5 47))) 3 (some (w5 54))) 4 (some (w5 61))) 5 (some (w5 68)))))))), ((w5 24), .inl (cy 2, 6, .inr (.inr (.inr (.inr (fun _ => none)))))), ((w5 25), .inr (2, [.ref (w5 26), .ref (w5 27)])), ((w5 26), .inl (cy 0, 64, .inl (fun _ => iI 0))), ((w5 27), .inl (cy 0, 256, .inl (fun _ => iI 0))), ((w5 28), .inr (1, [.ref (w5 29), .ref (w5 30), .int (iI 0)])), ((w5 29), .inl (cy 0, 6, .inl (fun _ => iI 0))), ((w5 30), .inl (cy 0, 6, .inl (fun _ => iI 0)))] ++ tlC cy (w5 33) 0 (fun k => w5 (34 + k)) ++ tlC cy (w5 40) 1 (fun k => w5 (41 + k)) ++ tlC cy (w5 47) 2 (fun k => w5 (48 + k)) ++ tlC cy (w5 54) 3 (fun k => w5 (55 + k)) ++ tlC cy (w5 61) 4 (fun k => w5 (62 + k)) ++ tlC cy (w5 68) 5 (fun k => w5 (69 + k)))) ++ ((m, .inr (6, [.int (iI 0), .int (iI 0), .int (iI 0), .int (iI (1000)), .ref (w6 1), .ref (w6 2), .ref (w6 3), .ref (w6 4), .ref (w6 5), .ref (w6 6), .ref (w6 7), .ref (w6 8), .ref (w6 9), .ref (w6 10), .int (iI 0), .ref (w6 11), .ref (w6 12), .ref (w6 13), .ref (w6 14), .ref (w6 15), .ref (w6 16), .ref (w6 17), .ref (w6 18), .ref (w6 19), .ref (w6 20)])) :: ([((w6 1), .inl (cy 0, 768, .inl (fun _ => iI 0))), ((w6 2), .inl (cy 0, 768, .inl (fun _ => iI 0))), ((w6 3), .inl (cy 0, 768, .inl (fun _ => iI 0))), ((w6 4), .inl (cy 1, 768, .inl (fun _ => iI 0))), ((w6 5), .inl (cy 1, 768, .inl (fun _ => iI 0))), ((w6 6), .inl (cy 0, 6, .inl (c6i (iI (1))))), ((w6 7), .inl (cy 0, 6, .inl (c6i (iI (127))))), ((w6 8), .inl (cy 0, 96, .inl (fun _ => iI 0))), ((w6 9), .inl (cy 1, 6, .inl (fun _ => iI 0))), ((w6 10), .inl (cy 0, 6, .inl (c6i (iI (4))))), ((w6 11), .inl (cy 0, 6, .inl (fun _ => iI 0))), ((w6 12), .inl (cy 0, 6, .inl (fun _ => iI 0))), ((w6 13), .inl (cy 0, 192, .inl (fun _ => iI 0))), ((w6 14), .inl (cy 0, 6, .inl (fun _ => iI 0))), ((w6 15), .inl (cy 0, 6, .inl (fun _ => iI 0))), ((w6 16), .inl (cy 0, 6, .inl (fun _ => iI 0))), ((w6 17), .inl (cy 0, 48, .inl (fun _ => iI 0))), ((w6 18), .inl (cy 0, 64, .inl (fun _ => iI 0))), ((w6 19), .inl (cy 0, 256, .inl (fun _ => iI 0))), ((w6 20), .inl (cy 0, 6, .inl (fun _ => iI 0)))])) ++ [(o1, .inl (cy 4, 1, .inr (.inl (fun _ => Int64.ofInt 0)))), (o2, .inl (cy 5, 1, .inr (.inr (.inr (.inl (fun _ => UInt64.ofNat (0 : Int).toNat))))))]
def lsg : List Nat := [52, 53, 54, 55, 56, 57, 58, 59, 60, 61, 62, 63, 64, 65, 66, 67, 68, 69, 70, 71, 72, 0, 1, 2, 3, 4, 5, 6, 7, 8, 9, 73, 74, 10, 11, 12, 13, 14, 15, 16, 17, 18, 19, 20, 21, 22, 23, 24, 25, 26, 27, 28, 29, 30, 31, 32, 33, 34, 35, 36, 37, 38, 39, 40, 41, 42, 43, 44, 45, 46, 47, 48, 49, 50, 51]
theorem lsg_nd : ∀ i, i < 75 → ∀ j, j < 75 → lsg.getD i 0 = lsg.getD j 0 → i = j := by decide +kernel
theorem va_at_x {D : va_G} {a : Nat} {cA : ClassId} {n : Nat} {f g : Nat → Int32} {H : Heap} (h : va_at D vwCl (a, .inl (cA, n, .inl f)) H) (hfg : ∀ j, j < n → f j = g j) : va_at D vwCl (a, .inl (cA, n, .inl g)) H := by
  show H[a]? = some (vp_cell _ _)
  have h : H[a]? = some (vp_cell _ _) := h
  rw [h, vp_cell_i, vp_cell_i, arrV_ext _ _ (fun j hj => by rw [hfg j hj])]
theorem va_at_q {D : va_G} {a : Nat} {cA : ClassId} {n : Nat} {f g : Nat → Option Nat} {H : Heap} (h : va_at D vwCl (a, .inl (cA, n, .inr (.inr (.inr (.inr f))))) H) (hfg : ∀ j, j < n → f j = g j) : va_at D vwCl (a, .inl (cA, n, .inr (.inr (.inr (.inr g))))) H := by
  show H[a]? = some (vp_cell _ _)
  have h : H[a]? = some (vp_cell _ _) := h
  rw [h, vp_cell_q, vp_cell_q, arrV_ext _ _ (fun j hj => by rw [hfg j hj])]
theorem c6i_v {v : Int32} : ∀ j, j < 6 → c6i v j = v := by
  intro j hj
  unfold c6i upd
  match j, hj with
  | 0, _ => rfl
  | 1, _ => rfl
  | 2, _ => rfl
  | 3, _ => rfl
  | 4, _ => rfl
  | 5, _ => rfl
  | j + 6, hj => omega
set_option maxHeartbeats 4000000 in
set_option maxRecDepth 100000 in
theorem lW_P {D : va_G} {cy : Nat → ClassId} {x m o1 o2 : Nat} {w5 w6 : Nat → Nat} {H : Heap} (hP : va_P D vwCl (lW cy x m o1 o2 w5 w6) H) : ∀ k, k < 75 → (∃ e, (lW cy x m o1 o2 w5 w6)[lsg.getD k 0]? = some (lad x m o1 o2 w5 w6 k, e)) ∧ va_at D vwCl (lad x m o1 o2 w5 w6 k, gC st0 (lad x m o1 o2 w5 w6) cy k) H := by
  intro k hk
  match k, hk with
  | 0, _ => exact ⟨⟨_, rfl⟩, hP 52 _ rfl⟩
  | 1, _ => exact ⟨⟨_, rfl⟩, hP 53 _ rfl⟩
  | 2, _ => exact ⟨⟨_, rfl⟩, hP 54 _ rfl⟩
  | 3, _ => exact ⟨⟨_, rfl⟩, hP 55 _ rfl⟩
  | 4, _ => exact ⟨⟨_, rfl⟩, hP 56 _ rfl⟩
  | 5, _ => exact ⟨⟨_, rfl⟩, hP 57 _ rfl⟩
  | 6, _ => exact ⟨⟨_, rfl⟩, va_at_x (hP 58 _ rfl) (fun j hj => c6i_v j hj)⟩
  | 7, _ => exact ⟨⟨_, rfl⟩, va_at_x (hP 59 _ rfl) (fun j hj => c6i_v j hj)⟩
  | 8, _ => exact ⟨⟨_, rfl⟩, hP 60 _ rfl⟩
  | 9, _ => exact ⟨⟨_, rfl⟩, hP 61 _ rfl⟩
  | 10, _ => exact ⟨⟨_, rfl⟩, va_at_x (hP 62 _ rfl) (fun j hj => c6i_v j hj)⟩
  | 11, _ => exact ⟨⟨_, rfl⟩, hP 63 _ rfl⟩
  | 12, _ => exact ⟨⟨_, rfl⟩, hP 64 _ rfl⟩
  | 13, _ => exact ⟨⟨_, rfl⟩, hP 65 _ rfl⟩
  | 14, _ => exact ⟨⟨_, rfl⟩, hP 66 _ rfl⟩
  | 15, _ => exact ⟨⟨_, rfl⟩, hP 67 _ rfl⟩
  | 16, _ => exact ⟨⟨_, rfl⟩, hP 68 _ rfl⟩
  | 17, _ => exact ⟨⟨_, rfl⟩, hP 69 _ rfl⟩
  | 18, _ => exact ⟨⟨_, rfl⟩, hP 70 _ rfl⟩
  | 19, _ => exact ⟨⟨_, rfl⟩, hP 71 _ rfl⟩
  | 20, _ => exact ⟨⟨_, rfl⟩, hP 72 _ rfl⟩
  | 21, _ => exact ⟨⟨_, rfl⟩, hP 0 _ rfl⟩
  | 22, _ => exact ⟨⟨_, rfl⟩, hP 1 _ rfl⟩
  | 23, _ => exact ⟨⟨_, rfl⟩, va_at_q (hP 2 _ rfl) (fun j hj => by
    match j, hj with
    | 0, _ => rfl
    | 1, _ => rfl
    | 2, _ => rfl
    | 3, _ => rfl
    | 4, _ => rfl
    | 5, _ => rfl
    | j + 6, hj => omega)⟩
  | 24, _ => exact ⟨⟨_, rfl⟩, va_at_q (hP 3 _ rfl) (fun j hj => (if_neg (by show ¬ (j : Int) < 0; omega)).symm)⟩
  | 25, _ => exact ⟨⟨_, rfl⟩, hP 4 _ rfl⟩
  | 26, _ => exact ⟨⟨_, rfl⟩, hP 5 _ rfl⟩
  | 27, _ => exact ⟨⟨_, rfl⟩, hP 6 _ rfl⟩
  | 28, _ => exact ⟨⟨_, rfl⟩, hP 7 _ rfl⟩
  | 29, _ => exact ⟨⟨_, rfl⟩, hP 8 _ rfl⟩
  | 30, _ => exact ⟨⟨_, rfl⟩, hP 9 _ rfl⟩
  | 31, _ => exact ⟨⟨_, rfl⟩, hP 73 _ rfl⟩
  | 32, _ => exact ⟨⟨_, rfl⟩, hP 74 _ rfl⟩
  | 33, _ => exact ⟨⟨_, rfl⟩, hP 10 _ rfl⟩
  | 34, _ => exact ⟨⟨_, rfl⟩, hP 11 _ rfl⟩
  | 35, _ => exact ⟨⟨_, rfl⟩, hP 12 _ rfl⟩
  | 36, _ => exact ⟨⟨_, rfl⟩, hP 13 _ rfl⟩
  | 37, _ => exact ⟨⟨_, rfl⟩, hP 14 _ rfl⟩
  | 38, _ => exact ⟨⟨_, rfl⟩, hP 15 _ rfl⟩
  | 39, _ => exact ⟨⟨_, rfl⟩, hP 16 _ rfl⟩
  | 40, _ => exact ⟨⟨_, rfl⟩, hP 17 _ rfl⟩
  | 41, _ => exact ⟨⟨_, rfl⟩, hP 18 _ rfl⟩
  | 42, _ => exact ⟨⟨_, rfl⟩, hP 19 _ rfl⟩
  | 43, _ => exact ⟨⟨_, rfl⟩, hP 20 _ rfl⟩
  | 44, _ => exact ⟨⟨_, rfl⟩, hP 21 _ rfl⟩
  | 45, _ => exact ⟨⟨_, rfl⟩, hP 22 _ rfl⟩
  | 46, _ => exact ⟨⟨_, rfl⟩, hP 23 _ rfl⟩
  | 47, _ => exact ⟨⟨_, rfl⟩, hP 24 _ rfl⟩
  | 48, _ => exact ⟨⟨_, rfl⟩, hP 25 _ rfl⟩
  | 49, _ => exact ⟨⟨_, rfl⟩, hP 26 _ rfl⟩
  | 50, _ => exact ⟨⟨_, rfl⟩, hP 27 _ rfl⟩
  | 51, _ => exact ⟨⟨_, rfl⟩, hP 28 _ rfl⟩
  | 52, _ => exact ⟨⟨_, rfl⟩, hP 29 _ rfl⟩
  | 53, _ => exact ⟨⟨_, rfl⟩, hP 30 _ rfl⟩
  | 54, _ => exact ⟨⟨_, rfl⟩, hP 31 _ rfl⟩
  | 55, _ => exact ⟨⟨_, rfl⟩, hP 32 _ rfl⟩
  | 56, _ => exact ⟨⟨_, rfl⟩, hP 33 _ rfl⟩
  | 57, _ => exact ⟨⟨_, rfl⟩, hP 34 _ rfl⟩
  | 58, _ => exact ⟨⟨_, rfl⟩, hP 35 _ rfl⟩
  | 59, _ => exact ⟨⟨_, rfl⟩, hP 36 _ rfl⟩
  | 60, _ => exact ⟨⟨_, rfl⟩, hP 37 _ rfl⟩
  | 61, _ => exact ⟨⟨_, rfl⟩, hP 38 _ rfl⟩
  | 62, _ => exact ⟨⟨_, rfl⟩, hP 39 _ rfl⟩
  | 63, _ => exact ⟨⟨_, rfl⟩, hP 40 _ rfl⟩
  | 64, _ => exact ⟨⟨_, rfl⟩, hP 41 _ rfl⟩
  | 65, _ => exact ⟨⟨_, rfl⟩, hP 42 _ rfl⟩
  | 66, _ => exact ⟨⟨_, rfl⟩, hP 43 _ rfl⟩
  | 67, _ => exact ⟨⟨_, rfl⟩, hP 44 _ rfl⟩
  | 68, _ => exact ⟨⟨_, rfl⟩, hP 45 _ rfl⟩
  | 69, _ => exact ⟨⟨_, rfl⟩, hP 46 _ rfl⟩
  | 70, _ => exact ⟨⟨_, rfl⟩, hP 47 _ rfl⟩
  | 71, _ => exact ⟨⟨_, rfl⟩, hP 48 _ rfl⟩
  | 72, _ => exact ⟨⟨_, rfl⟩, hP 49 _ rfl⟩
  | 73, _ => exact ⟨⟨_, rfl⟩, hP 50 _ rfl⟩
  | 74, _ => exact ⟨⟨_, rfl⟩, hP 51 _ rfl⟩
  | k + 75, hk => omega
theorem lW_G {D : va_G} {cy : Nat → ClassId} {x m o1 o2 : Nat} {w5 w6 : Nat → Nat} {A : Nat → Prop} {H0 H : Heap} {locs : List Loc} (hP : va_P D vwCl (lW cy x m o1 o2 w5 w6) H) (hD : va_D A (lW cy x m o1 o2 w5 w6)) (hS : va_S A H0 H locs) : GH D cy (lad x m o1 o2 w5 w6) 75 st0 A H0 H locs := by
  refine ⟨fun k q hq => ?_, ⟨fun i j p q hi hj hpq => ?_, fun k q hq => ?_⟩, hS⟩
  · obtain ⟨hk, rfl⟩ := gw_in hq
    exact (lW_P hP k hk).2
  · obtain ⟨hi7, rfl⟩ := gw_in hi
    obtain ⟨hj7, rfl⟩ := gw_in hj
    obtain ⟨⟨e1, h1⟩, -⟩ := lW_P hP i hi7
    obtain ⟨⟨e2, h2⟩, -⟩ := lW_P hP j hj7
    exact lsg_nd i hi7 j hj7 (hD.1 _ _ _ _ h1 h2 hpq)
  · obtain ⟨hk, rfl⟩ := gw_in hq
    obtain ⟨⟨e1, h1⟩, -⟩ := lW_P hP k hk
    exact hD.2 _ (lad x m o1 o2 w5 w6 k, e1) h1
