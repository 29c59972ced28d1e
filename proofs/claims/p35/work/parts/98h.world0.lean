set_option maxHeartbeats 4000000 in
set_option maxRecDepth 100000 in
theorem lW_P {D : va_G} {cy : Nat → ClassId} {x a1 a2 a3 a4 : Nat} {w5 : Nat → Nat} {H : Heap} (hP : va_P D vwCl (lW cy x a1 a2 a3 a4 w5) H) : ∀ k, k < 56 → (∃ e, (lW cy x a1 a2 a3 a4 w5)[lsg.getD k 0]? = some (lad x a1 a2 a3 a4 w5 (k + 19), e)) ∧ va_at D vwCl (lad x a1 a2 a3 a4 w5 (k + 19), gC st0 (lad x a1 a2 a3 a4 w5) cy (k + 19)) H := by
  intro k hk
  match k, hk with
  | 0, _ => exact ⟨⟨_, rfl⟩, hP 52 _ rfl⟩
  | 1, _ => exact ⟨⟨_, rfl⟩, hP 53 _ rfl⟩
  | 2, _ => exact ⟨⟨_, rfl⟩, hP 0 _ rfl⟩
  | 3, _ => exact ⟨⟨_, rfl⟩, hP 1 _ rfl⟩
  | 4, _ => exact ⟨⟨_, rfl⟩, va_at_q (hP 2 _ rfl) (fun j hj => by
    match j, hj with
    | 0, _ => rfl
    | 1, _ => rfl
    | 2, _ => rfl
    | 3, _ => rfl
    | 4, _ => rfl
    | 5, _ => rfl
    | j + 6, hj => omega)⟩
  | 5, _ => exact ⟨⟨_, rfl⟩, va_at_q (hP 3 _ rfl) (fun j hj => (if_neg (by show ¬ (j : Int) < 0; omega)).symm)⟩
  | 6, _ => exact ⟨⟨_, rfl⟩, hP 4 _ rfl⟩
  | 7, _ => exact ⟨⟨_, rfl⟩, hP 5 _ rfl⟩
  | 8, _ => exact ⟨⟨_, rfl⟩, hP 6 _ rfl⟩
  | 9, _ => exact ⟨⟨_, rfl⟩, hP 7 _ rfl⟩
  | 10, _ => exact ⟨⟨_, rfl⟩, hP 8 _ rfl⟩
  | 11, _ => exact ⟨⟨_, rfl⟩, hP 9 _ rfl⟩
  | 12, _ => exact ⟨⟨_, rfl⟩, hP 54 _ rfl⟩
  | 13, _ => exact ⟨⟨_, rfl⟩, hP 55 _ rfl⟩
  | 14, _ => exact ⟨⟨_, rfl⟩, hP 10 _ rfl⟩
  | 15, _ => exact ⟨⟨_, rfl⟩, hP 11 _ rfl⟩
  | 16, _ => exact ⟨⟨_, rfl⟩, hP 12 _ rfl⟩
  | 17, _ => exact ⟨⟨_, rfl⟩, hP 13 _ rfl⟩
  | 18, _ => exact ⟨⟨_, rfl⟩, hP 14 _ rfl⟩
  | 19, _ => exact ⟨⟨_, rfl⟩, hP 15 _ rfl⟩
  | 20, _ => exact ⟨⟨_, rfl⟩, hP 16 _ rfl⟩
  | 21, _ => exact ⟨⟨_, rfl⟩, hP 17 _ rfl⟩
  | 22, _ => exact ⟨⟨_, rfl⟩, hP 18 _ rfl⟩
  | 23, _ => exact ⟨⟨_, rfl⟩, hP 19 _ rfl⟩
  | 24, _ => exact ⟨⟨_, rfl⟩, hP 20 _ rfl⟩
  | 25, _ => exact ⟨⟨_, rfl⟩, hP 21 _ rfl⟩
  | 26, _ => exact ⟨⟨_, rfl⟩, hP 22 _ rfl⟩
  | 27, _ => exact ⟨⟨_, rfl⟩, hP 23 _ rfl⟩
  | 28, _ => exact ⟨⟨_, rfl⟩, hP 24 _ rfl⟩
  | 29, _ => exact ⟨⟨_, rfl⟩, hP 25 _ rfl⟩
  | 30, _ => exact ⟨⟨_, rfl⟩, hP 26 _ rfl⟩
  | 31, _ => exact ⟨⟨_, rfl⟩, hP 27 _ rfl⟩
  | 32, _ => exact ⟨⟨_, rfl⟩, hP 28 _ rfl⟩
  | 33, _ => exact ⟨⟨_, rfl⟩, hP 29 _ rfl⟩
  | 34, _ => exact ⟨⟨_, rfl⟩, hP 30 _ rfl⟩
  | 35, _ => exact ⟨⟨_, rfl⟩, hP 31 _ rfl⟩
  | 36, _ => exact ⟨⟨_, rfl⟩, hP 32 _ rfl⟩
  | 37, _ => exact ⟨⟨_, rfl⟩, hP 33 _ rfl⟩
  | 38, _ => exact ⟨⟨_, rfl⟩, hP 34 _ rfl⟩
  | 39, _ => exact ⟨⟨_, rfl⟩, hP 35 _ rfl⟩
  | 40, _ => exact ⟨⟨_, rfl⟩, hP 36 _ rfl⟩
  | 41, _ => exact ⟨⟨_, rfl⟩, hP 37 _ rfl⟩
  | 42, _ => exact ⟨⟨_, rfl⟩, hP 38 _ rfl⟩
  | 43, _ => exact ⟨⟨_, rfl⟩, hP 39 _ rfl⟩
  | 44, _ => exact ⟨⟨_, rfl⟩, hP 40 _ rfl⟩
  | 45, _ => exact ⟨⟨_, rfl⟩, hP 41 _ rfl⟩
  | 46, _ => exact ⟨⟨_, rfl⟩, hP 42 _ rfl⟩
  | 47, _ => exact ⟨⟨_, rfl⟩, hP 43 _ rfl⟩
  | 48, _ => exact ⟨⟨_, rfl⟩, hP 44 _ rfl⟩
  | 49, _ => exact ⟨⟨_, rfl⟩, hP 45 _ rfl⟩
  | 50, _ => exact ⟨⟨_, rfl⟩, hP 46 _ rfl⟩
  | 51, _ => exact ⟨⟨_, rfl⟩, hP 47 _ rfl⟩
  | 52, _ => exact ⟨⟨_, rfl⟩, hP 48 _ rfl⟩
  | 53, _ => exact ⟨⟨_, rfl⟩, hP 49 _ rfl⟩
  | 54, _ => exact ⟨⟨_, rfl⟩, hP 50 _ rfl⟩
  | 55, _ => exact ⟨⟨_, rfl⟩, hP 51 _ rfl⟩
  | k + 56, hk => omega
theorem lW_G {D : va_G} {cy : Nat → ClassId} {x a1 a2 a3 a4 : Nat} {w5 : Nat → Nat} {A : Nat → Prop} {H0 H : Heap} {locs : List Loc} (hP : va_P D vwCl (lW cy x a1 a2 a3 a4 w5) H) (hD : va_D A (lW cy x a1 a2 a3 a4 w5)) (hS : va_S A H0 H locs) : GH D cy (lad x a1 a2 a3 a4 w5) 75 st0 A H0 H locs := by
  have hb : ∀ k', 19 ≤ k' ∧ k' < 75 → ∃ j, j < 56 ∧ k' = j + 19 := fun k' h => ⟨k' - 19, by omega, by omega⟩
  refine ⟨fun k q hq => ?_, ⟨fun i j p q hi hj hpq => ?_, fun k q hq => ?_⟩, hS⟩
  · obtain ⟨k', hk, -, rfl⟩ := gw_in hq
    obtain ⟨j, hj, rfl⟩ := hb k' hk
    exact (lW_P hP j hj).2
  · obtain ⟨i', hi7, hei, rfl⟩ := gw_in hi
    obtain ⟨j', hj7, hej, rfl⟩ := gw_in hj
    obtain ⟨i1, hi1, rfl⟩ := hb i' hi7
    obtain ⟨j1, hj1, rfl⟩ := hb j' hj7
    obtain ⟨⟨e1, h1⟩, -⟩ := lW_P hP i1 hi1
    obtain ⟨⟨e2, h2⟩, -⟩ := lW_P hP j1 hj1
    have h9 := lsg_nd i1 hi1 j1 hj1 (hD.1 _ _ _ _ h1 h2 hpq)
    omega
  · obtain ⟨k', hk, -, rfl⟩ := gw_in hq
    obtain ⟨j, hj, rfl⟩ := hb k' hk
    obtain ⟨⟨e1, h1⟩, -⟩ := lW_P hP j hj
    exact hD.2 _ (lad x a1 a2 a3 a4 w5 (j + 19), e1) h1
