theorem rc_cell {wb : Int} {st st1 z : St} (t0 : Int) (r0 : Int) (d : Int) (w : Int) {r : Int32} {b9 : Int32} (hR : RY st) (hI : GI wb st) (hL : r = iI (kCell t0 r0 d w) ∧ ((kCell t0 r0 d w = 0 ∧ ∃ s1 : St, (s1 = st) ∧ st1 = ust s1 70 0 0 ((iI (aCellC st (t0).toNat (16 * r0 + d) w)).toInt64).toInt) ∨ (kCell t0 r0 d w ≠ 0 ∧ st1 = st)) ∧ GI wb st1) (hM : b9 = iI (aCell st1 t0 r0 d w) ∧ z = ust st1 0 0 0 (kCell t0 r0 d w) ∧ GI wb z) : RC wb st r b9.toInt64 z := by
  obtain ⟨hr, hc, -⟩ := hL
  obtain ⟨hb, hz, hIz⟩ := hM
  have hks := kCell_s t0 r0 d w
  rcases hc with ⟨hk, s1, hs1, h1⟩ | ⟨hk, h1⟩
  · have hmd : st1 = mgS st st1 := mg_of (fun c o i hc => by rw [h1, hs1, ust_c (by omega)])
    have hkk : kCell t0 r0 d w = 0 := hk
    rw [hkk] at hz
    have ha : aCell st1 t0 r0 d w = aCell st t0 r0 d w := (congrArg (fun y => aCell y t0 r0 d w) hmd).trans (md_aCell st st1 t0 r0 d w)
    rw [ha] at hb
    unfold aCell at hb
    rw [if_pos hk] at hb
    refine rc_yes (X := ((iI (aCellC st (t0).toNat (16 * r0 + d) w)).toInt64)) (core := st) hr hk ?_ ?_ ?_ (fun c o i hc => by
      have h0 : ¬ c = 0 := fun e => hc (by rw [e]; decide)
      have h70 : ¬ c = 70 := fun e => hc (by rw [e]; decide)
      rw [hz, h1, hs1, ust_c h0, ust_c h70]) hR hIz rfl
    · rw [hz, ust_s]
    · rw [hz, ust_c (by decide), h1, ust_s]
    · rw [hb]
      have hc5 := hR.2.2.2.2.1 t0.toNat (16 * r0 + d) (by omega) (by omega)
      have hcn := RY_con hR (t := t0.toNat) (i := 16 * r0 + d) (by omega) (by omega)
      rw [show ((t0.toNat : Nat) : Int) = t0 by omega, ← Int.add_assoc] at hc5 hcn
      unfold aCellC aCellW
      rw [hcn, hc5.1, hc5.2.1, hc5.2.2.2.1, hc5.2.2.2.2]
  · rw [h1] at hz
    exact rc_no hr hk (fun _ _ _ _ => rfl) hz hR hIz
theorem rc_rowOf {wb : Int} {st st1 z : St} (a : Int) (i : Int) {r : Int32} {b9 : Int32} (hR : RY st) (hI : GI wb st) (hL : r = iI (kRow st a i) ∧ ((kRow st a i = 0 ∧ ∃ s1 : St, (s1 = st) ∧ st1 = ust s1 70 0 0 ((iI (if st 66 (a).toNat 0 < 0 then -1 else st 63 (a).toNat i)).toInt64).toInt) ∨ (kRow st a i ≠ 0 ∧ st1 = st)) ∧ GI wb st1) (hM : b9 = iI (aRow st1 a i) ∧ z = ust st1 0 0 0 (kRow st1 a i) ∧ GI wb z) : RC wb st r b9.toInt64 z := by
  obtain ⟨hr, hc, -⟩ := hL
  obtain ⟨hb, hz, hIz⟩ := hM
  have hks := kRow_s st a i
  rcases hc with ⟨hk, s1, hs1, h1⟩ | ⟨hk, h1⟩
  · have hmd : st1 = mgS st st1 := mg_of (fun c o i hc => by rw [h1, hs1, ust_c (by omega)])
    have hkk : kRow st1 a i = 0 := (congrArg (fun y => kRow y a i) hmd).trans (hk)
    rw [hkk] at hz
    have ha : aRow st1 a i = aRow st a i := (congrArg (fun y => aRow y a i) hmd).trans (rfl)
    rw [ha] at hb
    unfold aRow at hb
    rw [if_pos hk] at hb
    have h15 := gI_15 hI 0 a
    refine rc_yes (X := ((iI (if st 66 (a).toNat 0 < 0 then -1 else st 63 (a).toNat i)).toInt64)) (core := st) hr hk ?_ ?_ ?_ (fun c o i hc => by
      have h0 : ¬ c = 0 := fun e => hc (by rw [e]; decide)
      have h70 : ¬ c = 70 := fun e => hc (by rw [e]; decide)
      rw [hz, h1, hs1, ust_c h0, ust_c h70]) hR hIz rfl
    · rw [hz, ust_s]
    · rw [hz, ust_c (by decide), h1, ust_s]
    · rw [hb]
      have h6 := (hR.2.1 a.toNat (by omega)).2.2.2.2
      have h3 := hR.2.2.2.1 a.toNat i (by omega) (by omega)
      rw [show ((a.toNat : Nat) : Int) = a by omega] at h6 h3
      have h20 := gI_20 hI 0 a
      rw [h6, h3]
      by_cases e : st 20 0 a = -1
      · rw [if_pos e, if_pos (by omega)]
      · rw [if_neg e, if_neg (by omega)]
  · rw [h1] at hz
    exact rc_no hr hk (fun _ _ _ _ => rfl) hz hR hIz
theorem rc_tileOf {wb : Int} {st st1 z : St} (a : Int) {r : Int32} {b9 : Int32} (hR : RY st) (hI : GI wb st) (hL : r = iI (kLay st a) ∧ ((kLay st a = 0 ∧ ∃ s1 : St, (s1 = st) ∧ st1 = ust s1 70 0 0 ((iI (st 66 (a).toNat 0)).toInt64).toInt) ∨ (kLay st a ≠ 0 ∧ st1 = st)) ∧ GI wb st1) (hM : b9 = iI (aTile st1 a) ∧ z = ust st1 0 0 0 (kLay st1 a) ∧ GI wb z) : RC wb st r b9.toInt64 z := by
  obtain ⟨hr, hc, -⟩ := hL
  obtain ⟨hb, hz, hIz⟩ := hM
  have hks := kLay_s st a
  rcases hc with ⟨hk, s1, hs1, h1⟩ | ⟨hk, h1⟩
  · have hmd : st1 = mgS st st1 := mg_of (fun c o i hc => by rw [h1, hs1, ust_c (by omega)])
    have hkk : kLay st1 a = 0 := (congrArg (fun y => kLay y a) hmd).trans (hk)
    rw [hkk] at hz
    have ha : aTile st1 a = aTile st a := (congrArg (fun y => aTile y a) hmd).trans (rfl)
    rw [ha] at hb
    unfold aTile at hb
    rw [if_pos hk] at hb
    refine rc_yes (X := ((iI (st 66 (a).toNat 0)).toInt64)) (core := st) hr hk ?_ ?_ ?_ (fun c o i hc => by
      have h0 : ¬ c = 0 := fun e => hc (by rw [e]; decide)
      have h70 : ¬ c = 70 := fun e => hc (by rw [e]; decide)
      rw [hz, h1, hs1, ust_c h0, ust_c h70]) hR hIz rfl
    · rw [hz, ust_s]
    · rw [hz, ust_c (by decide), h1, ust_s]
    · rw [hb]
      have h6 := (hR.2.1 a.toNat (by omega)).2.2.2.2
      rw [show ((a.toNat : Nat) : Int) = a by omega] at h6
      rw [h6]
  · rw [h1] at hz
    exact rc_no hr hk (fun _ _ _ _ => rfl) hz hR hIz
theorem rc_isTrue {wb : Int} {st st1 z : St} (a : Int) {r : Int32} {b9 : Int32} (hR : RY st) (hI : GI wb st) (hL : r = iI (kLay st a) ∧ ((kLay st a = 0 ∧ ∃ s1 : St, (s1 = st) ∧ st1 = ust s1 70 0 0 ((if iI (if st 20 0 a = -1 then 0 else trU st a (16 * (st 15 0 a).toNat)) = iI 0 then (0 : Int64) else 1)).toInt) ∨ (kLay st a ≠ 0 ∧ st1 = st)) ∧ GI wb st1) (hM : b9 = iI (aTrue st1 a) ∧ z = ust st1 0 0 0 (kLay st1 a) ∧ GI wb z) : RC wb st r (if b9 = iI 0 then (0 : Int64) else 1) z := by
  obtain ⟨hr, hc, -⟩ := hL
  obtain ⟨hb, hz, hIz⟩ := hM
  have hks := kLay_s st a
  rcases hc with ⟨hk, s1, hs1, h1⟩ | ⟨hk, h1⟩
  · have hmd : st1 = mgS st st1 := mg_of (fun c o i hc => by rw [h1, hs1, ust_c (by omega)])
    have hkk : kLay st1 a = 0 := (congrArg (fun y => kLay y a) hmd).trans (hk)
    rw [hkk] at hz
    have ha : aTrue st1 a = aTrue st a := (congrArg (fun y => aTrue y a) hmd).trans (md_aTrue st st1 a)
    rw [ha] at hb
    unfold aTrue at hb
    refine rc_yes (X := ((if iI (if st 20 0 a = -1 then 0 else trU st a (16 * (st 15 0 a).toNat)) = iI 0 then (0 : Int64) else 1))) (core := st) hr hk ?_ ?_ ?_ (fun c o i hc => by
      have h0 : ¬ c = 0 := fun e => hc (by rw [e]; decide)
      have h70 : ¬ c = 70 := fun e => hc (by rw [e]; decide)
      rw [hz, h1, hs1, ust_c h0, ust_c h70]) hR hIz rfl
    · rw [hz, ust_s]
    · rw [hz, ust_c (by decide), h1, ust_s]
    · rw [hb]
      have h9 : (if kLay st a = 0 ∧ st 20 0 a ≠ -1 then trU st a (16 * (st 15 0 a).toNat) else 0) = (if st 20 0 a = -1 then 0 else trU st a (16 * (st 15 0 a).toNat)) := by
        by_cases e : st 20 0 a = -1
        · rw [if_pos e, if_neg (fun q => q.2 e)]
        · rw [if_neg e, if_pos ⟨hk, e⟩]
      rw [h9]
  · rw [h1] at hz
    exact rc_no hr hk (fun _ _ _ _ => rfl) hz hR hIz
theorem rc_answer {wb : Int} {st st1 z : St} (a : Int) (vec : Nat) (o : Int) {r : Int32} {b9 : Int32} (hR : RY st) (hI : GI wb st) (hL : r = iI (kAns st a o) ∧ ((kAns st a o = 0 ∧ ∃ s1 : St, (s1 = st) ∧ st1 = ust s1 70 0 0 ((iI (ansU st a o vec 8)).toInt64).toInt) ∨ (kAns st a o ≠ 0 ∧ st1 = st)) ∧ GI wb st1) (hM : b9 = iI (aAns st1 a o vec) ∧ z = ust st1 0 0 0 (kAns st1 a o) ∧ GI wb z) : RC wb st r b9.toInt64 z := by
  obtain ⟨hr, hc, -⟩ := hL
  obtain ⟨hb, hz, hIz⟩ := hM
  have hks := kAns_s st a o
  rcases hc with ⟨hk, s1, hs1, h1⟩ | ⟨hk, h1⟩
  · have hmd : st1 = mgS st st1 := mg_of (fun c o i hc => by rw [h1, hs1, ust_c (by omega)])
    have hkk : kAns st1 a o = 0 := (congrArg (fun y => kAns y a o) hmd).trans (hk)
    rw [hkk] at hz
    have ha : aAns st1 a o vec = aAns st a o vec := (congrArg (fun y => aAns y a o vec) hmd).trans (md_aAns st st1 a o vec)
    rw [ha] at hb
    unfold aAns at hb
    rw [if_pos hk] at hb
    refine rc_yes (X := ((iI (ansU st a o vec 8)).toInt64)) (core := st) hr hk ?_ ?_ ?_ (fun c o i hc => by
      have h0 : ¬ c = 0 := fun e => hc (by rw [e]; decide)
      have h70 : ¬ c = 70 := fun e => hc (by rw [e]; decide)
      rw [hz, h1, hs1, ust_c h0, ust_c h70]) hR hIz rfl
    · rw [hz, ust_s]
    · rw [hz, ust_c (by decide), h1, ust_s]
    · rw [hb]
  · rw [h1] at hz
    exact rc_no hr hk (fun _ _ _ _ => rfl) hz hR hIz
theorem rc_ideal {wb : Int} {st st1 z : St} (a : Int) (vec : Nat) (o : Int) {r : Int32} {b9 : Int32} (hR : RY st) (hI : GI wb st) (hL : r = iI (kIdl st a o) ∧ ((kIdl st a o = 0 ∧ ∃ s1 : St, (s1 = st) ∧ st1 = ust s1 70 0 0 ((iI (idU st a o vec (st 15 0 a).toNat)).toInt64).toInt) ∨ (kIdl st a o ≠ 0 ∧ st1 = st)) ∧ GI wb st1) (hM : b9 = iI (aIdl st1 a o vec) ∧ z = ust st1 0 0 0 (kIdl st1 a o) ∧ GI wb z) : RC wb st r b9.toInt64 z := by
  obtain ⟨hr, hc, -⟩ := hL
  obtain ⟨hb, hz, hIz⟩ := hM
  have hks := kIdl_s st a o
  rcases hc with ⟨hk, s1, hs1, h1⟩ | ⟨hk, h1⟩
  · have hmd : st1 = mgS st st1 := mg_of (fun c o i hc => by rw [h1, hs1, ust_c (by omega)])
    have hkk : kIdl st1 a o = 0 := (congrArg (fun y => kIdl y a o) hmd).trans (hk)
    rw [hkk] at hz
    have ha : aIdl st1 a o vec = aIdl st a o vec := (congrArg (fun y => aIdl y a o vec) hmd).trans (md_aIdl st st1 a o vec)
    rw [ha] at hb
    unfold aIdl at hb
    rw [if_pos hk] at hb
    refine rc_yes (X := ((iI (idU st a o vec (st 15 0 a).toNat)).toInt64)) (core := st) hr hk ?_ ?_ ?_ (fun c o i hc => by
      have h0 : ¬ c = 0 := fun e => hc (by rw [e]; decide)
      have h70 : ¬ c = 70 := fun e => hc (by rw [e]; decide)
      rw [hz, h1, hs1, ust_c h0, ust_c h70]) hR hIz rfl
    · rw [hz, ust_s]
    · rw [hz, ust_c (by decide), h1, ust_s]
    · rw [hb]
  · rw [h1] at hz
    exact rc_no hr hk (fun _ _ _ _ => rfl) hz hR hIz
theorem rc_bound {wb : Int} {st st1 z : St} (a : Int) (o : Int) (u : Int) {r : Int32} {b9 : Int32} (hR : RY st) (hI : GI wb st) (hL : r = iI (kAns st a o) ∧ ((kAns st a o = 0 ∧ ∃ s1 : St, (s1 = st) ∧ st1 = ust s1 70 0 0 ((iI (255 * (errF st a o 0 u + 16 * errF st a o 1 u - (errF st a o 2 (1 - u) + 16 * errF st a o 3 (1 - u))))).toInt64).toInt) ∨ (kAns st a o ≠ 0 ∧ st1 = st)) ∧ GI wb st1) (hM : b9 = iI (aBound st1 a o u) ∧ z = ust st1 0 0 0 (kAns st1 a o) ∧ GI wb z) : RC wb st r b9.toInt64 z := by
  obtain ⟨hr, hc, -⟩ := hL
  obtain ⟨hb, hz, hIz⟩ := hM
  have hks := kAns_s st a o
  rcases hc with ⟨hk, s1, hs1, h1⟩ | ⟨hk, h1⟩
  · have hmd : st1 = mgS st st1 := mg_of (fun c o i hc => by rw [h1, hs1, ust_c (by omega)])
    have hkk : kAns st1 a o = 0 := (congrArg (fun y => kAns y a o) hmd).trans (hk)
    rw [hkk] at hz
    have ha : aBound st1 a o u = aBound st a o u := (congrArg (fun y => aBound y a o u) hmd).trans (md_aBound st st1 a o u)
    rw [ha] at hb
    unfold aBound at hb
    rw [if_pos hk] at hb
    refine rc_yes (X := ((iI (255 * (errF st a o 0 u + 16 * errF st a o 1 u - (errF st a o 2 (1 - u) + 16 * errF st a o 3 (1 - u))))).toInt64)) (core := st) hr hk ?_ ?_ ?_ (fun c o i hc => by
      have h0 : ¬ c = 0 := fun e => hc (by rw [e]; decide)
      have h70 : ¬ c = 70 := fun e => hc (by rw [e]; decide)
      rw [hz, h1, hs1, ust_c h0, ust_c h70]) hR hIz rfl
    · rw [hz, ust_s]
    · rw [hz, ust_c (by decide), h1, ust_s]
    · rw [hb]
  · rw [h1] at hz
    exact rc_no hr hk (fun _ _ _ _ => rfl) hz hR hIz
theorem rc_run {wb : Int} {st st1 z : St} (a : Int) (vec : Nat) {r : Int32} {b9 : Int64} (hR : RY st) (hI : GI wb st) (hL : r = iI (kRun st a) ∧ ((kRun st a = 0 ∧ ∃ s1 : St, (s1 = st) ∧ st1 = ust s1 70 0 0 (lN (runC st 0 6 a vec)).toInt) ∨ (kRun st a ≠ 0 ∧ st1 = st)) ∧ GI wb st1) (hM : b9 = lN (aRun st1 a vec) ∧ z = ust st1 0 0 0 (kRun st1 a) ∧ GI wb z) : RC wb st r b9 z := by
  obtain ⟨hr, hc, -⟩ := hL
  obtain ⟨hb, hz, hIz⟩ := hM
  have hks := kRun_s st a
  rcases hc with ⟨hk, s1, hs1, h1⟩ | ⟨hk, h1⟩
  · have hmd : st1 = mgS st st1 := mg_of (fun c o i hc => by rw [h1, hs1, ust_c (by omega)])
    have hkk : kRun st1 a = 0 := (congrArg (fun y => kRun y a) hmd).trans ((md_kRun st st1 a).trans hk)
    rw [hkk] at hz
    have ha : aRun st1 a vec = aRun st a vec := (congrArg (fun y => aRun y a vec) hmd).trans (md_aRun st st1 a vec)
    rw [ha] at hb
    unfold aRun at hb
    rw [if_pos hk] at hb
    refine rc_yes (X := (lN (runC st 0 6 a vec))) (core := st) hr hk ?_ ?_ ?_ (fun c o i hc => by
      have h0 : ¬ c = 0 := fun e => hc (by rw [e]; decide)
      have h70 : ¬ c = 70 := fun e => hc (by rw [e]; decide)
      rw [hz, h1, hs1, ust_c h0, ust_c h70]) hR hIz rfl
    · rw [hz, ust_s]
    · rw [hz, ust_c (by decide), h1, ust_s]
    · rw [hb]
  · rw [h1] at hz
    exact rc_no hr hk (fun _ _ _ _ => rfl) hz hR hIz
theorem rc_runIdeal {wb : Int} {st st1 z : St} (a : Int) (vec : Nat) {r : Int32} {b9 : Int64} (hR : RY st) (hI : GI wb st) (hL : r = iI (kLay st a) ∧ ((kLay st a = 0 ∧ ∃ s1 : St, (s1 = st) ∧ st1 = ust s1 70 0 0 (lN (runC st 1 6 a vec)).toInt) ∨ (kLay st a ≠ 0 ∧ st1 = st)) ∧ GI wb st1) (hM : b9 = lN (aRunI st1 a vec) ∧ z = ust st1 0 0 0 (kLay st1 a) ∧ GI wb z) : RC wb st r b9 z := by
  obtain ⟨hr, hc, -⟩ := hL
  obtain ⟨hb, hz, hIz⟩ := hM
  have hks := kLay_s st a
  rcases hc with ⟨hk, s1, hs1, h1⟩ | ⟨hk, h1⟩
  · have hmd : st1 = mgS st st1 := mg_of (fun c o i hc => by rw [h1, hs1, ust_c (by omega)])
    have hkk : kLay st1 a = 0 := (congrArg (fun y => kLay y a) hmd).trans (hk)
    rw [hkk] at hz
    have ha : aRunI st1 a vec = aRunI st a vec := (congrArg (fun y => aRunI y a vec) hmd).trans (md_aRunI st st1 a vec)
    rw [ha] at hb
    unfold aRunI at hb
    rw [if_pos hk] at hb
    refine rc_yes (X := (lN (runC st 1 6 a vec))) (core := st) hr hk ?_ ?_ ?_ (fun c o i hc => by
      have h0 : ¬ c = 0 := fun e => hc (by rw [e]; decide)
      have h70 : ¬ c = 70 := fun e => hc (by rw [e]; decide)
      rw [hz, h1, hs1, ust_c h0, ust_c h70]) hR hIz rfl
    · rw [hz, ust_s]
    · rw [hz, ust_c (by decide), h1, ust_s]
    · rw [hb]
  · rw [h1] at hz
    exact rc_no hr hk (fun _ _ _ _ => rfl) hz hR hIz
theorem rc_wear {wb : Int} {st st1 z : St} (t0 : Int) {r : Int32} {b9 : Int64} (hR : RY st) (hI : GI wb st) (hL : r = iI (kRange 0 5 t0) ∧ ((kRange 0 5 t0 = 0 ∧ ∃ s1 : St, (s1 = st) ∧ st1 = ust s1 70 0 0 (lI (weU st t0 128)).toInt) ∨ (kRange 0 5 t0 ≠ 0 ∧ st1 = st)) ∧ GI wb st1) (hM : b9 = lI (aWear st1 t0) ∧ z = ust st1 0 0 0 (kRange 0 5 t0) ∧ GI wb z) : RC wb st r b9 z := by
  obtain ⟨hr, hc, -⟩ := hL
  obtain ⟨hb, hz, hIz⟩ := hM
  have hks := kRange_s 0 5 t0
  rcases hc with ⟨hk, s1, hs1, h1⟩ | ⟨hk, h1⟩
  · have hmd : st1 = mgS st st1 := mg_of (fun c o i hc => by rw [h1, hs1, ust_c (by omega)])
    have hkk : kRange 0 5 t0 = 0 := hk
    rw [hkk] at hz
    have ha : aWear st1 t0 = aWear st t0 := (congrArg (fun y => aWear y t0) hmd).trans (md_aWear st st1 t0)
    rw [ha] at hb
    unfold aWear at hb
    rw [if_pos hk] at hb
    refine rc_yes (X := (lI (weU st t0 128))) (core := st) hr hk ?_ ?_ ?_ (fun c o i hc => by
      have h0 : ¬ c = 0 := fun e => hc (by rw [e]; decide)
      have h70 : ¬ c = 70 := fun e => hc (by rw [e]; decide)
      rw [hz, h1, hs1, ust_c h0, ust_c h70]) hR hIz rfl
    · rw [hz, ust_s]
    · rw [hz, ust_c (by decide), h1, ust_s]
    · rw [hb]
  · rw [h1] at hz
    exact rc_no hr hk (fun _ _ _ _ => rfl) hz hR hIz
def RD (wb : Int) (st : St) (r : Int32) (B : UInt64) (z : St) : Prop := r = iI (z 0 0 0) ∧ (z 0 0 0 = 0 → UInt64.ofNat (z 71 0 0).toNat = B) ∧ RY z ∧ GI wb z ∧ z 33 0 0 = st 33 0 0
theorem rc_share {wb : Int} {st st1 z : St} (t0 : Int) {r : Int32} {b9 : UInt32} (hR : RY st) (hI : GI wb st) (hL : r = iI (kRange 0 5 t0) ∧ ((kRange 0 5 t0 = 0 ∧ ∃ s1 : St, (s1 = st) ∧ st1 = ust s1 71 0 0 ((FP.f2d (fShare (shU st t0 128))).toNat : Int)) ∨ (kRange 0 5 t0 ≠ 0 ∧ st1 = st)) ∧ GI wb st1) (hM : b9 = fShare (cShare st1 t0) ∧ z = ust st1 0 0 0 (kRange 0 5 t0) ∧ GI wb z) : RD wb st r (FP.f2d b9) z := by
  obtain ⟨hr, hc, -⟩ := hL
  obtain ⟨hb, hz, hIz⟩ := hM
  rcases hc with ⟨hk, s1, hs1, h1⟩ | ⟨hk, h1⟩
  · have hmd : st1 = mgS st st1 := mg_of (fun c o i hc => by rw [h1, hs1, ust_c (by omega)])
    rw [hk] at hz
    have ha : cShare st1 t0 = cShare st t0 := (congrArg (fun y => cShare y t0) hmd).trans (md_cShare st st1 t0)
    rw [ha] at hb
    unfold cShare at hb
    rw [if_pos hk] at hb
    refine ⟨by rw [hz, ust_s, hr, hk], fun _ => ?_, RY_fr (x := st) (fun c o i hc => ?_) hR, hIz, ?_⟩
    · rw [hz, ust_c (by decide), h1, ust_s, Int.toNat_natCast, UInt64.ofNat_toNat, hb]
    · have h0 : ¬ c = 0 := fun e => hc (by rw [e]; decide)
      have h71 : ¬ c = 71 := fun e => hc (by rw [e]; decide)
      rw [hz, h1, hs1, ust_c h0, ust_c h71]
    · rw [hz, h1, hs1, ust_c (by decide), ust_c (by decide)]
  · rw [h1] at hz
    refine ⟨by rw [hz, ust_s]; exact hr, fun h => absurd (by rw [hz, ust_s] at h; exact h) hk, RY_fr (x := st) (fun c o i hc => ?_) hR, hIz, ?_⟩
    · rw [hz, ust_c (fun e => hc (by rw [e]; decide))]
    · rw [hz, ust_c (by decide)]
theorem rc_misfits {wb : Int} {st st1 z : St} (a : Int) (t0 : Int) {r : Int32} {b9 : Int32} (hR : RY st) (hI : GI wb st) (hL : r = iI (kMis st a t0) ∧ ((kMis st a t0 = 0 ∧ ∃ s1 : St, (∃ cf ff, s1 = setW st cf ff) ∧ st1 = ust s1 70 0 0 ((iI (fdV st a t0)).toInt64).toInt) ∨ (kMis st a t0 ≠ 0 ∧ st1 = st)) ∧ GI wb st1) (hM : b9 = iI (aMis st1 (kMis st1 a t0) a t0) ∧ z = sMis st1 (kMis st1 a t0) a t0 ∧ GI wb z) : RC wb st r b9.toInt64 z := by
  obtain ⟨hr, hc, -⟩ := hL
  obtain ⟨hb, hz, hIz⟩ := hM
  rcases hc with ⟨hk, s1, ⟨cf, ff, hs1⟩, h1⟩ | ⟨hk, h1⟩
  · have hsw : ∀ (c o : Nat) (i : Int), c ∉ rXX → s1 c o i = st c o i := fun c o i hc => by
      rw [hs1]
      unfold setW
      rw [if_neg (fun e => hc (by rw [e.1]; decide)), if_neg (fun e => hc (by rw [e.1]; decide))]
    have hmd : st1 = mgS st st1 := mg_of (fun c o i hc => by
      rw [h1, hs1, ust_c (by omega)]
      unfold setW
      rw [if_neg (by omega), if_neg (by omega)])
    have hkk : kMis st1 a t0 = 0 := (congrArg (fun y => kMis y a t0) hmd).trans hk
    rw [hkk] at hz hb
    unfold sMis at hz
    unfold aMis at hb
    rw [if_pos rfl] at hz hb
    have ha : fdV (ust st1 0 0 0 0) a t0 = fdV st a t0 := (fdV_0 st1 0 a t0).trans ((congrArg (fun y => fdV y a t0) hmd).trans (md_fdV st st1 a t0))
    rw [ha] at hb
    unfold fdS setF at hz
    refine rc_yes (X := ((iI (fdV st a t0)).toInt64)) (core := st) hr hk ?_ ?_ ?_ (fun c o i hc => by
      have h0 : ¬ c = 0 := fun e => hc (by rw [e]; decide)
      have h70 : ¬ c = 70 := fun e => hc (by rw [e]; decide)
      have h22 : ¬ c = 22 := fun e => hc (by rw [e]; decide)
      have h23 : ¬ c = 23 := fun e => hc (by rw [e]; decide)
      rw [hz]
      dsimp only
      rw [if_neg (fun e => h22 e.1), if_neg (fun e => h23 e.1), ust_c h0, h1, ust_c h70]
      exact hsw c o i hc) hR hIz rfl
    · rw [hz]
      dsimp only
      rw [if_neg (by decide), if_neg (by decide), ust_s]
    · rw [hz]
      dsimp only
      rw [if_neg (by decide), if_neg (by decide), ust_c (by decide), h1, ust_s]
    · rw [hb]
  · have hkk : kMis st1 a t0 ≠ 0 := by rw [h1]; exact hk
    unfold sMis at hz
    rw [if_neg hkk, h1] at hz
    exact rc_no hr hk (fun _ _ _ _ => rfl) hz hR hIz
theorem rc_misfitsAnew {wb : Int} {st st1 z : St} (a : Int) (t0 : Int) {r : Int32} {b9 : Int32} (hR : RY st) (hI : GI wb st) (hL : r = iI (kMisA st a t0) ∧ ((kMisA st a t0 = 0 ∧ ∃ s1 : St, (∃ cf ff, s1 = setW st cf ff) ∧ st1 = ust s1 70 0 0 ((iI (fdV st a t0)).toInt64).toInt) ∨ (kMisA st a t0 ≠ 0 ∧ st1 = st)) ∧ GI wb st1) (hM : b9 = iI (aMis st1 (kMisA st1 a t0) a t0) ∧ z = sMis st1 (kMisA st1 a t0) a t0 ∧ GI wb z) : RC wb st r b9.toInt64 z := by
  obtain ⟨hr, hc, -⟩ := hL
  obtain ⟨hb, hz, hIz⟩ := hM
  rcases hc with ⟨hk, s1, ⟨cf, ff, hs1⟩, h1⟩ | ⟨hk, h1⟩
  · have hsw : ∀ (c o : Nat) (i : Int), c ∉ rXX → s1 c o i = st c o i := fun c o i hc => by
      rw [hs1]
      unfold setW
      rw [if_neg (fun e => hc (by rw [e.1]; decide)), if_neg (fun e => hc (by rw [e.1]; decide))]
    have hmd : st1 = mgS st st1 := mg_of (fun c o i hc => by
      rw [h1, hs1, ust_c (by omega)]
      unfold setW
      rw [if_neg (by omega), if_neg (by omega)])
    have hkk : kMisA st1 a t0 = 0 := (congrArg (fun y => kMisA y a t0) hmd).trans hk
    rw [hkk] at hz hb
    unfold sMis at hz
    unfold aMis at hb
    rw [if_pos rfl] at hz hb
    have ha : fdV (ust st1 0 0 0 0) a t0 = fdV st a t0 := (fdV_0 st1 0 a t0).trans ((congrArg (fun y => fdV y a t0) hmd).trans (md_fdV st st1 a t0))
    rw [ha] at hb
    unfold fdS setF at hz
    refine rc_yes (X := ((iI (fdV st a t0)).toInt64)) (core := st) hr hk ?_ ?_ ?_ (fun c o i hc => by
      have h0 : ¬ c = 0 := fun e => hc (by rw [e]; decide)
      have h70 : ¬ c = 70 := fun e => hc (by rw [e]; decide)
      have h22 : ¬ c = 22 := fun e => hc (by rw [e]; decide)
      have h23 : ¬ c = 23 := fun e => hc (by rw [e]; decide)
      rw [hz]
      dsimp only
      rw [if_neg (fun e => h22 e.1), if_neg (fun e => h23 e.1), ust_c h0, h1, ust_c h70]
      exact hsw c o i hc) hR hIz rfl
    · rw [hz]
      dsimp only
      rw [if_neg (by decide), if_neg (by decide), ust_s]
    · rw [hz]
      dsimp only
      rw [if_neg (by decide), if_neg (by decide), ust_c (by decide), h1, ust_s]
    · rw [hb]
  · have hkk : kMisA st1 a t0 ≠ 0 := by rw [h1]; exact hk
    unfold sMis at hz
    rw [if_neg hkk, h1] at hz
    exact rc_no hr hk (fun _ _ _ _ => rfl) hz hR hIz
theorem rc_cycles {wb : Int} {st st1 z : St} (a : Int) (w : Int) {r : Int32} {b9 : Int32} (hR : RY st) (hI : GI wb st) (hL : r = iI (kPipe st a w) ∧ ((kPipe st a w = 0 ∧ ∃ s1 : St, (∃ tf sg, s1 = setT st tf sg) ∧ st1 = ust s1 70 0 0 ((iI (aCyc st a w)).toInt64).toInt) ∨ (kPipe st a w ≠ 0 ∧ ∃ tf sg, st1 = setT st tf sg)) ∧ GI wb st1) (hM : b9 = iI (aCyc st1 a w) ∧ z = sCyc st1 a w ∧ GI wb z) : RC wb st r b9.toInt64 z := by
  obtain ⟨hr, hc, -⟩ := hL
  obtain ⟨hb, hz, hIz⟩ := hM
  rcases hc with ⟨hk, s1, ⟨tf, sg, hs1⟩, h1⟩ | ⟨hk, tf, sg, h1⟩
  · have hsw : ∀ (c o : Nat) (i : Int), c ∉ rXX → s1 c o i = st c o i := fun c o i hc => by
      rw [hs1]
      unfold setT
      rw [if_neg (fun e => hc (by rw [e.1]; decide)), if_neg (fun e => hc (by rw [e.1]; decide))]
    have hmd : st1 = mgS st st1 := mg_of (fun c o i hc => by
      rw [h1, hs1, ust_c (by omega)]
      unfold setT
      rw [if_neg (fun e => by omega), if_neg (fun e => by omega)])
    have hkk : kPipe st1 a w = 0 := (congrArg (fun y => kPipe y a w) hmd).trans ((md_kPipe st st1 a w).trans hk)
    have ha : aCyc st1 a w = aCyc st a w := (congrArg (fun y => aCyc y a w) hmd).trans (md_aCyc st st1 a w)
    rw [ha] at hb
    unfold sCyc at hz
    rw [if_pos hkk, hkk] at hz
    unfold setL at hz
    refine rc_yes (X := ((iI (aCyc st a w)).toInt64)) (core := st) hr hk ?_ ?_ ?_ (fun c o i hc => by
      have h0 : ¬ c = 0 := fun e => hc (by rw [e]; decide)
      have h70 : ¬ c = 70 := fun e => hc (by rw [e]; decide)
      have h24 : ¬ c = 24 := fun e => hc (by rw [e]; decide)
      rw [hz]
      dsimp only
      rw [if_neg (fun e => h24 e.1), ust_c h0, h1, ust_c h70]
      exact hsw c o i hc) hR hIz rfl
    · rw [hz]
      dsimp only
      rw [if_neg (by decide), ust_s]
    · rw [hz]
      dsimp only
      rw [if_neg (by decide), ust_c (by decide), h1, ust_s]
    · rw [hb]
  · have hmd : st1 = mgS st st1 := mg_of (fun c o i hc => by
      rw [h1]
      unfold setT
      rw [if_neg (fun e => by omega), if_neg (fun e => by omega)])
    have hke : kPipe st1 a w = kPipe st a w := (congrArg (fun y => kPipe y a w) hmd).trans (md_kPipe st st1 a w)
    have hkk : kPipe st1 a w ≠ 0 := by rw [hke]; exact hk
    unfold sCyc at hz
    rw [if_neg hkk, hke] at hz
    exact rc_no hr hk (fun c o i hc => by
      rw [h1]
      unfold setT
      rw [if_neg (fun e => hc (by rw [e.1]; decide)), if_neg (fun e => hc (by rw [e.1]; decide))]) hz hR hIz
theorem rc_cyclesAnew {wb : Int} {st st1 z : St} (a : Int) (w : Int) {r : Int32} {b9 : Int32} (hR : RY st) (hI : GI wb st) (hL : r = iI (kPipe st a w) ∧ ((kPipe st a w = 0 ∧ ∃ s1 : St, (∃ tf sg lf, s1 = setP (setT st tf sg) lf) ∧ st1 = ust s1 70 0 0 ((iI (aCyc st a w)).toInt64).toInt) ∨ (kPipe st a w ≠ 0 ∧ ∃ tf sg, st1 = setT st tf sg)) ∧ GI wb st1) (hM : b9 = iI (aCyc st1 a w) ∧ z = sCyc st1 a w ∧ GI wb z) : RC wb st r b9.toInt64 z := by
  obtain ⟨hr, hc, -⟩ := hL
  obtain ⟨hb, hz, hIz⟩ := hM
  rcases hc with ⟨hk, s1, ⟨tf, sg, lf, hs1⟩, h1⟩ | ⟨hk, tf, sg, h1⟩
  · have hsw : ∀ (c o : Nat) (i : Int), c ∉ rXX → s1 c o i = st c o i := fun c o i hc => by
      rw [hs1]
      unfold setP setT
      rw [if_neg (fun e => hc (by rw [e.1]; decide)), if_neg (fun e => hc (by rw [e.1]; decide)), if_neg (fun e => hc (by rw [e.1]; decide))]
    have hmd : st1 = mgS st st1 := mg_of (fun c o i hc => by
      rw [h1, hs1, ust_c (by omega)]
      unfold setP setT
      rw [if_neg (fun e => by omega), if_neg (fun e => by omega), if_neg (fun e => by omega)])
    have hkk : kPipe st1 a w = 0 := (congrArg (fun y => kPipe y a w) hmd).trans ((md_kPipe st st1 a w).trans hk)
    have ha : aCyc st1 a w = aCyc st a w := (congrArg (fun y => aCyc y a w) hmd).trans (md_aCyc st st1 a w)
    rw [ha] at hb
    unfold sCyc at hz
    rw [if_pos hkk, hkk] at hz
    unfold setL at hz
    refine rc_yes (X := ((iI (aCyc st a w)).toInt64)) (core := st) hr hk ?_ ?_ ?_ (fun c o i hc => by
      have h0 : ¬ c = 0 := fun e => hc (by rw [e]; decide)
      have h70 : ¬ c = 70 := fun e => hc (by rw [e]; decide)
      have h24 : ¬ c = 24 := fun e => hc (by rw [e]; decide)
      rw [hz]
      dsimp only
      rw [if_neg (fun e => h24 e.1), ust_c h0, h1, ust_c h70]
      exact hsw c o i hc) hR hIz rfl
    · rw [hz]
      dsimp only
      rw [if_neg (by decide), ust_s]
    · rw [hz]
      dsimp only
      rw [if_neg (by decide), ust_c (by decide), h1, ust_s]
    · rw [hb]
  · have hmd : st1 = mgS st st1 := mg_of (fun c o i hc => by
      rw [h1]
      unfold setT
      rw [if_neg (fun e => by omega), if_neg (fun e => by omega)])
    have hke : kPipe st1 a w = kPipe st a w := (congrArg (fun y => kPipe y a w) hmd).trans (md_kPipe st st1 a w)
    have hkk : kPipe st1 a w ≠ 0 := by rw [hke]; exact hk
    unfold sCyc at hz
    rw [if_neg hkk, hke] at hz
    exact rc_no hr hk (fun c o i hc => by
      rw [h1]
      unfold setT
      rw [if_neg (fun e => hc (by rw [e.1]; decide)), if_neg (fun e => hc (by rw [e.1]; decide))]) hz hR hIz
