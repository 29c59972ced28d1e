section GCMP
variable {p : Program} {l : Launch} {e : Env} {R : Room} {s : State} {m : MethodId} {args : Array Value} {below : List Frame} {meth : Method} {c : Code} {H : Heap} {locs : List Loc} {cells slots : Nat} {Q : State → Prop}
variable {cc : ByteArray} {pc : Nat} {ls : Array Slot} {rest : List Value}
theorem r_icmp_eq {x y : Int} {off : Int} {tgt : Nat} (hexec : p.tables.exec = Jvm.exec) (hb : c.code = cc) (h : (-2147483648 ≤ x ∧ x < 2147483648) ∧ -2147483648 ≤ y ∧ y < 2147483648) (hdg : decode cc pc = .ok (.if_icmp .eq off, 3)) (ht : (pc : Int) + off = (tgt : Int)) (kt : x = y → W p l e R s m args below meth c H locs cells slots Q (F0 m tgt ls rest)) (kf : x ≠ y → W p l e R s m args below meth c H locs cells slots Q (F0 m (pc + 3) ls rest)) : W p l e R s m args below meth c H locs cells slots Q (F0 m pc ls (.int (iI y) :: .int (iI x) :: rest)) := by
  have q := iI_eq h.1.1 h.1.2 h.2.1 h.2.2
  exact lv_icmp_eq hexec hb hdg ht (fun z => kt (q.mp z)) (fun z => kf (fun w => z (q.mpr w)))
theorem r_icmp_ne {x y : Int} {off : Int} {tgt : Nat} (hexec : p.tables.exec = Jvm.exec) (hb : c.code = cc) (h : (-2147483648 ≤ x ∧ x < 2147483648) ∧ -2147483648 ≤ y ∧ y < 2147483648) (hdg : decode cc pc = .ok (.if_icmp .ne off, 3)) (ht : (pc : Int) + off = (tgt : Int)) (kt : x ≠ y → W p l e R s m args below meth c H locs cells slots Q (F0 m tgt ls rest)) (kf : x = y → W p l e R s m args below meth c H locs cells slots Q (F0 m (pc + 3) ls rest)) : W p l e R s m args below meth c H locs cells slots Q (F0 m pc ls (.int (iI y) :: .int (iI x) :: rest)) := by
  have q := iI_eq h.1.1 h.1.2 h.2.1 h.2.2
  exact lv_icmp_ne hexec hb hdg ht (fun z => kt (fun w => z (q.mpr w))) (fun z => kf (q.mp z))
theorem r_icmp_lt {x y : Int} {off : Int} {tgt : Nat} (hexec : p.tables.exec = Jvm.exec) (hb : c.code = cc) (h : (-2147483648 ≤ x ∧ x < 2147483648) ∧ -2147483648 ≤ y ∧ y < 2147483648) (hdg : decode cc pc = .ok (.if_icmp .lt off, 3)) (ht : (pc : Int) + off = (tgt : Int)) (kt : x < y → W p l e R s m args below meth c H locs cells slots Q (F0 m tgt ls rest)) (kf : y ≤ x → W p l e R s m args below meth c H locs cells slots Q (F0 m (pc + 3) ls rest)) : W p l e R s m args below meth c H locs cells slots Q (F0 m pc ls (.int (iI y) :: .int (iI x) :: rest)) := by
  have q := iI_lt h.1.1 h.1.2 h.2.1 h.2.2
  exact lv_icmp_lt hexec hb hdg ht (fun z => kt (q.mp z)) (fun z => kf (Int.not_lt.mp (fun w => z (q.mpr w))))
theorem r_icmp_ge {x y : Int} {off : Int} {tgt : Nat} (hexec : p.tables.exec = Jvm.exec) (hb : c.code = cc) (h : (-2147483648 ≤ x ∧ x < 2147483648) ∧ -2147483648 ≤ y ∧ y < 2147483648) (hdg : decode cc pc = .ok (.if_icmp .ge off, 3)) (ht : (pc : Int) + off = (tgt : Int)) (kt : y ≤ x → W p l e R s m args below meth c H locs cells slots Q (F0 m tgt ls rest)) (kf : x < y → W p l e R s m args below meth c H locs cells slots Q (F0 m (pc + 3) ls rest)) : W p l e R s m args below meth c H locs cells slots Q (F0 m pc ls (.int (iI y) :: .int (iI x) :: rest)) := by
  have q := iI_le h.2.1 h.2.2 h.1.1 h.1.2
  exact lv_icmp_ge hexec hb hdg ht (fun z => kt (q.mp z)) (fun z => kf (Int.not_le.mp (fun w => z (q.mpr w))))
theorem r_icmp_gt {x y : Int} {off : Int} {tgt : Nat} (hexec : p.tables.exec = Jvm.exec) (hb : c.code = cc) (h : (-2147483648 ≤ x ∧ x < 2147483648) ∧ -2147483648 ≤ y ∧ y < 2147483648) (hdg : decode cc pc = .ok (.if_icmp .gt off, 3)) (ht : (pc : Int) + off = (tgt : Int)) (kt : y < x → W p l e R s m args below meth c H locs cells slots Q (F0 m tgt ls rest)) (kf : x ≤ y → W p l e R s m args below meth c H locs cells slots Q (F0 m (pc + 3) ls rest)) : W p l e R s m args below meth c H locs cells slots Q (F0 m pc ls (.int (iI y) :: .int (iI x) :: rest)) := by
  have q := iI_lt h.2.1 h.2.2 h.1.1 h.1.2
  exact lv_icmp_gt hexec hb hdg ht (fun z => kt (q.mp z)) (fun z => kf (Int.not_lt.mp (fun w => z (q.mpr w))))
theorem r_icmp_le {x y : Int} {off : Int} {tgt : Nat} (hexec : p.tables.exec = Jvm.exec) (hb : c.code = cc) (h : (-2147483648 ≤ x ∧ x < 2147483648) ∧ -2147483648 ≤ y ∧ y < 2147483648) (hdg : decode cc pc = .ok (.if_icmp .le off, 3)) (ht : (pc : Int) + off = (tgt : Int)) (kt : x ≤ y → W p l e R s m args below meth c H locs cells slots Q (F0 m tgt ls rest)) (kf : y < x → W p l e R s m args below meth c H locs cells slots Q (F0 m (pc + 3) ls rest)) : W p l e R s m args below meth c H locs cells slots Q (F0 m pc ls (.int (iI y) :: .int (iI x) :: rest)) := by
  have q := iI_le h.1.1 h.1.2 h.2.1 h.2.2
  exact lv_icmp_le hexec hb hdg ht (fun z => kt (q.mp z)) (fun z => kf (Int.not_le.mp (fun w => z (q.mpr w))))
theorem r_if_eq {x : Int} {off : Int} {tgt : Nat} (hexec : p.tables.exec = Jvm.exec) (hb : c.code = cc) (h : -2147483648 ≤ x ∧ x < 2147483648) (hdg : decode cc pc = .ok (.ifCond .eq off, 3)) (ht : (pc : Int) + off = (tgt : Int)) (kt : x = 0 → W p l e R s m args below meth c H locs cells slots Q (F0 m tgt ls rest)) (kf : x ≠ 0 → W p l e R s m args below meth c H locs cells slots Q (F0 m (pc + 3) ls rest)) : W p l e R s m args below meth c H locs cells slots Q (F0 m pc ls (.int (iI x) :: rest)) := by
  have q := iI_eq h.1 h.2 (show -2147483648 ≤ (0 : Int) by decide) (show (0 : Int) < 2147483648 by decide)
  rw [← iI_0] at q
  exact lv_if_eq hexec hb hdg ht (fun z => kt (q.mp z)) (fun z => kf (fun w => z (q.mpr w)))
theorem r_if_ne {x : Int} {off : Int} {tgt : Nat} (hexec : p.tables.exec = Jvm.exec) (hb : c.code = cc) (h : -2147483648 ≤ x ∧ x < 2147483648) (hdg : decode cc pc = .ok (.ifCond .ne off, 3)) (ht : (pc : Int) + off = (tgt : Int)) (kt : x ≠ 0 → W p l e R s m args below meth c H locs cells slots Q (F0 m tgt ls rest)) (kf : x = 0 → W p l e R s m args below meth c H locs cells slots Q (F0 m (pc + 3) ls rest)) : W p l e R s m args below meth c H locs cells slots Q (F0 m pc ls (.int (iI x) :: rest)) := by
  have q := iI_eq h.1 h.2 (show -2147483648 ≤ (0 : Int) by decide) (show (0 : Int) < 2147483648 by decide)
  rw [← iI_0] at q
  exact lv_if_ne hexec hb hdg ht (fun z => kt (fun w => z (q.mpr w))) (fun z => kf (q.mp z))
theorem r_if_lt {x : Int} {off : Int} {tgt : Nat} (hexec : p.tables.exec = Jvm.exec) (hb : c.code = cc) (h : -2147483648 ≤ x ∧ x < 2147483648) (hdg : decode cc pc = .ok (.ifCond .lt off, 3)) (ht : (pc : Int) + off = (tgt : Int)) (kt : x < 0 → W p l e R s m args below meth c H locs cells slots Q (F0 m tgt ls rest)) (kf : 0 ≤ x → W p l e R s m args below meth c H locs cells slots Q (F0 m (pc + 3) ls rest)) : W p l e R s m args below meth c H locs cells slots Q (F0 m pc ls (.int (iI x) :: rest)) := by
  have q := iI_lt h.1 h.2 (show -2147483648 ≤ (0 : Int) by decide) (show (0 : Int) < 2147483648 by decide)
  rw [← iI_0] at q
  exact lv_if_lt hexec hb hdg ht (fun z => kt (q.mp z)) (fun z => kf (Int.not_lt.mp (fun w => z (q.mpr w))))
theorem r_if_ge {x : Int} {off : Int} {tgt : Nat} (hexec : p.tables.exec = Jvm.exec) (hb : c.code = cc) (h : -2147483648 ≤ x ∧ x < 2147483648) (hdg : decode cc pc = .ok (.ifCond .ge off, 3)) (ht : (pc : Int) + off = (tgt : Int)) (kt : 0 ≤ x → W p l e R s m args below meth c H locs cells slots Q (F0 m tgt ls rest)) (kf : x < 0 → W p l e R s m args below meth c H locs cells slots Q (F0 m (pc + 3) ls rest)) : W p l e R s m args below meth c H locs cells slots Q (F0 m pc ls (.int (iI x) :: rest)) := by
  have q := iI_le (show -2147483648 ≤ (0 : Int) by decide) (show (0 : Int) < 2147483648 by decide) h.1 h.2
  rw [← iI_0] at q
  exact lv_if_ge hexec hb hdg ht (fun z => kt (q.mp z)) (fun z => kf (Int.not_le.mp (fun w => z (q.mpr w))))
theorem r_if_gt {x : Int} {off : Int} {tgt : Nat} (hexec : p.tables.exec = Jvm.exec) (hb : c.code = cc) (h : -2147483648 ≤ x ∧ x < 2147483648) (hdg : decode cc pc = .ok (.ifCond .gt off, 3)) (ht : (pc : Int) + off = (tgt : Int)) (kt : 0 < x → W p l e R s m args below meth c H locs cells slots Q (F0 m tgt ls rest)) (kf : x ≤ 0 → W p l e R s m args below meth c H locs cells slots Q (F0 m (pc + 3) ls rest)) : W p l e R s m args below meth c H locs cells slots Q (F0 m pc ls (.int (iI x) :: rest)) := by
  have q := iI_lt (show -2147483648 ≤ (0 : Int) by decide) (show (0 : Int) < 2147483648 by decide) h.1 h.2
  rw [← iI_0] at q
  exact lv_if_gt hexec hb hdg ht (fun z => kt (q.mp z)) (fun z => kf (Int.not_lt.mp (fun w => z (q.mpr w))))
theorem r_if_le {x : Int} {off : Int} {tgt : Nat} (hexec : p.tables.exec = Jvm.exec) (hb : c.code = cc) (h : -2147483648 ≤ x ∧ x < 2147483648) (hdg : decode cc pc = .ok (.ifCond .le off, 3)) (ht : (pc : Int) + off = (tgt : Int)) (kt : x ≤ 0 → W p l e R s m args below meth c H locs cells slots Q (F0 m tgt ls rest)) (kf : 0 < x → W p l e R s m args below meth c H locs cells slots Q (F0 m (pc + 3) ls rest)) : W p l e R s m args below meth c H locs cells slots Q (F0 m pc ls (.int (iI x) :: rest)) := by
  have q := iI_le h.1 h.2 (show -2147483648 ≤ (0 : Int) by decide) (show (0 : Int) < 2147483648 by decide)
  rw [← iI_0] at q
  exact lv_if_le hexec hb hdg ht (fun z => kt (q.mp z)) (fun z => kf (Int.not_le.mp (fun w => z (q.mpr w))))
end GCMP
