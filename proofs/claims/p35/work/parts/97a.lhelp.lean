/-! ===== the law's own helpers: words without a world ===== -/
theorem iI_and31 (a : Int) : iI a &&& iI 2147483647 = iI (a % 2147483648) := by
  have hmm : (iI 2147483647).toBitVec.toNat = 2 ^ 31 - 1 := by decide +kernel
  rw [pk_and (iI a) 31 hmm, iI_bn, ← iI_nat]
  congr 1
  rw [show (2 : Nat) ^ 31 = 2147483648 from rfl]
  omega
def lowF (a b : Int) : Int := a % 2147483648 % b
theorem lowF_r (a : Int) {b : Int} (hb : 0 < b) : 0 ≤ lowF a b ∧ lowF a b < b := ⟨Int.emod_nonneg _ (by omega), Int.emod_lt_of_pos _ hb⟩
/-- the script as the law reads it -/
def cvF (xs : Nat → Int32) (L k : Nat) : Int := if k < L then (xs k).toInt else 7919 * ((k : Int) + 3) * ((k : Int) + 11)
theorem cvF_b : ∀ k : Nat, k < 51 → -2147483648 ≤ 7919 * ((k : Int) + 3) * ((k : Int) + 11) ∧ 7919 * ((k : Int) + 3) * ((k : Int) + 11) < 2147483648 := by decide +kernel
theorem cvF_r (xs : Nat → Int32) (L : Nat) {k : Nat} (hk : k ≤ 50) : -2147483648 ≤ cvF xs L k ∧ cvF xs L k < 2147483648 := by
  unfold cvF
  split
  · exact iI_rng _
  · exact cvF_b k (by omega)
theorem p0_blind {av : List Value} : FrameBlind (va_Pc av (fun _ => True)) := fun _ _ _ _ q => ⟨q.1, trivial⟩
theorem p0_pre {av : List Value} {s : State} {H : Heap} : ∀ U : State, U.heap = H → s.WarmedH U.vm → va_Pc av (fun _ => True) av.toArray U := fun _ _ _ => ⟨rfl, trivial⟩
theorem p1_blind {av : List Value} {b L : Nat} {xs : Nat → Int32} : FrameBlind (va_Pc av (fun U => va_X b L xs U U.heap ∧ b < U.heap.size)) := fun a U g mk q => ⟨q.1, va_X.moved (u := U) (U := U.calling g mk a) (Vm.Alike.refl U.vm) q.2.1, q.2.2⟩
theorem p1_pre {av : List Value} {b L : Nat} {xs : Nat → Int32} {s : State} {H : Heap} {A : Nat → Prop} {locs : List Loc} (hX : va_X b L xs s s.heap) (hbl : b < s.heap.size) (hbA : ¬ A b) (hS : va_S A s.heap H locs) : ∀ U : State, U.heap = H → s.WarmedH U.vm → va_Pc av (fun U => va_X b L xs U U.heap ∧ b < U.heap.size) av.toArray U := by
  intro U hU hW
  refine ⟨rfl, ?_, ?_⟩
  · rw [hU]
    exact (hX.kept (hS.2.1 b hbl hbA)).moved hW.alike
  · rw [hU]
    exact Nat.lt_of_lt_of_le hbl hS.1
section PURE0
variable {p : Program} {l : Launch} {e : Env} {R : Room} {s : State} {m : MethodId} {args : Array Value} {below : List Frame} {meth : Method} {c : Code} {H : Heap} {locs : List Loc} {cells slots : Nat} {Q : State → Prop}
variable {cc : ByteArray} {pc : Nat} {ls : Array Slot} {rest st0 : List Value} {D : va_G} {cy : Nat → ClassId} {ad : Nat → Nat} {n : Nat} {st : St} {A : Nat → Prop} {H0 : Heap} {a : Array Value}
theorem gp_goi {post : Int32 → Unit → Prop} (hG : GH D cy ad n st A H0 H locs) (hr : va_Run p l e R s m args below meth c H locs cells slots 0 0 (F0 m pc ls st0) rest (va_Qi post (fun _ _ => True) (fun _ => False) a) (fun _ => False))
    (kk : ∀ (r : Int32) (H1 : Heap) (locs1 : List Loc), post r () → GH D cy ad n st A H0 H1 locs1 → W p l e R s m args below meth c H1 locs1 cells slots Q (F0 m (pc + 3) ls (.int r :: rest))) : W p l e R s m args below meth c H locs cells slots Q (F0 m pc ls st0) :=
  va_calli hr hG.2.2 (fun q _ h => h.elim) (fun q h => h.elim) (fun r u t H1 locs1 _ _ hw _ _ hk hS => kk r H1 locs1 hw ⟨hG.1.kept (fun k q hq => hk q.1 (vx_lt hG.1 hq) (fun z => z)), hG.2.1, hS⟩)
end PURE0
set_option maxHeartbeats 400000 in
set_option maxRecDepth 100000 in
theorem mL_cell (l : Launch) (b L : Nat) (xs : Nat → Int32) (k : Nat) (hk : k ≤ 50) (hL : L ≤ 260) : Met l yL_cell wsL_cell ({ frames := 0, cells := 0, slots := 0, locals := 0 }) (va_Pc [.ref b, .int (iI (k : Int))] (fun U => va_X b L xs U U.heap ∧ b < U.heap.size)) (va_Qi (fun (r : Int32) (_ : Unit) => r = iI (cvF xs L k)) (fun _ _ => True) (fun _ => False)) 0 0 (fun _ => False) := by
  refine Met.ofW (cc := cL_cell) (maxL := 2) (ret := (some .int)) (by decide) rfl ?_
  intro p e s m args below meth c s₁ B hml hv
  obtain ⟨rfl, hX, hbl⟩ := hv
  have hx := B.exec
  have hb := B.bytes
  have hr := B.returns
  have hlocks := B.notSynchronized
  have hl := lv_entry ([.ref b, .int (iI (k : Int))]) (n := 2) (Nat.le_of_ble_eq_true rfl)
  rw [lg_entry_eq]
  generalize (lg_sl ([.ref b, .int (iI (k : Int))]) ++ List.replicate (2 - (lg_sl ([.ref b, .int (iI (k : Int))])).length) Slot.unset).toArray = ls at hl ⊢
  have hl : lv_has ls 2 [(0, .ref b), (1, .int (iI (k : Int)))] := hl
  have hS : va_S (fun _ => False) s.heap s.heap [] := va_S.rf
  have hbA : ¬ (fun _ : Nat => False) b := fun z => z
  refine lv_iload_n hx hb dL_cell_0 rfl (lv_at hl 1 rfl) ?_
  refine lv_aload_n hx hb dL_cell_1 rfl (lv_at hl 0 rfl) ?_
  refine va_slen hx hb hX hbl hbA hS dL_cell_2 ?_
  refine r_asI (y := (L : Int)) rfl ?_
  refine r_icmp_ge (tgt := 12) hx hb (by omega) dL_cell_3 (by decide) (fun c1 => ?_) (fun c1 => ?_)
  · refine lv_sipush (v := iI (7919)) hx hb dL_cell_12 (by decide +kernel) ?_
    refine lv_iload_n hx hb dL_cell_15 rfl (lv_at hl 1 rfl) ?_
    refine lv_iconst (v := iI (3)) hx hb dL_cell_16 rfl ?_
    refine r_iadd hx hb dL_cell_17 ?_
    refine r_imul hx hb dL_cell_18 ?_
    refine lv_iload_n hx hb dL_cell_19 rfl (lv_at hl 1 rfl) ?_
    refine lv_bipush (v := iI (11)) hx hb dL_cell_20 (by decide +kernel) ?_
    refine r_iadd hx hb dL_cell_22 ?_
    refine r_imul hx hb dL_cell_23 ?_
    exact W.iret (v := _) hx hb hr (fun t ht _ => ⟨⟨_, (), rfl, (by
      unfold cvF
      rw [if_neg (by omega)]), trivial⟩, hS.F ht⟩) (fun _ h => by cases h) dL_cell_24 hlocks
  · refine lv_aload_n hx hb dL_cell_6 rfl (lv_at hl 0 rfl) ?_
    refine lv_iload_n hx hb dL_cell_7 rfl (lv_at hl 1 rfl) ?_
    refine va_sld hx hb hX hbl hbA hS (iI_in (by omega) (by omega) (by omega)) dL_cell_8 ?_
    refine lv_goto (tgt := 24) hx hb dL_cell_9 (by decide) ?_
    exact W.iret (v := _) hx hb hr (fun t ht _ => ⟨⟨_, (), rfl, (by
      unfold cvF
      rw [if_pos (by omega), iI_as, iI_cl (by omega) (by omega), Int.toNat_natCast]), trivial⟩, hS.F ht⟩) (fun _ h => by cases h) dL_cell_24 hlocks
set_option maxHeartbeats 400000 in
set_option maxRecDepth 100000 in
theorem mL_low (l : Launch) (a : Int) (b : Int) (ha : -2147483648 ≤ a ∧ a < 2147483648) (hb0 : 1 ≤ b ∧ b < 2147483648) : Met l yL_low wsL_low ({ frames := 0, cells := 0, slots := 0, locals := 0 }) (va_Pc [.int (iI (a)), .int (iI (b))] (fun _ => True)) (va_Qi (fun (r : Int32) (_ : Unit) => r = iI (lowF a b)) (fun _ _ => True) (fun _ => False)) 0 0 (fun _ => False) := by
  refine Met.ofW (cc := cL_low) (maxL := 2) (ret := (some .int)) (by decide) rfl ?_
  intro p e s m args below meth c s₁ B hml hv
  obtain ⟨rfl, -⟩ := hv
  have hx := B.exec
  have hb := B.bytes
  have hr := B.returns
  have hts := atoms_spec (ws := wsL_low) B.pre
  have hown : s.vm.findClass RL = some m.cls := findClass_of_methodNamed B.named
  have hlocks := B.notSynchronized
  have hl := lv_entry ([.int (iI (a)), .int (iI (b))]) (n := 2) (Nat.le_of_ble_eq_true rfl)
  rw [lg_entry_eq]
  generalize (lg_sl ([.int (iI (a)), .int (iI (b))]) ++ List.replicate (2 - (lg_sl ([.int (iI (a)), .int (iI (b))])).length) Slot.unset).toArray = ls at hl ⊢
  have hl : lv_has ls 2 [(0, .int (iI (a))), (1, .int (iI (b)))] := hl
  have L_7 := hts (.constant RL 7 (2147483647)) (by decide +kernel)
  refine lv_iload_n hx hb dL_low_0 rfl (lv_at hl 0 rfl) ?_
  refine lv_ldc hx hb hown L_7 dL_low_1 ?_
  refine r_asI (y := 2147483647) (by decide +kernel) ?_
  refine lv_iand hx hb dL_low_3 ?_
  refine r_asI (y := (a) % 2147483648) (iI_and31 _) ?_
  refine r_nm (fun v1 ev1 => ?_)
  refine lv_iload_n hx hb dL_low_4 rfl (lv_at hl 1 rfl) ?_
  refine r_irem hx hb (by omega) dL_low_5 ?_
  refine r_nm (fun v2 ev2 => ?_)
  exact W.iret (v := _) hx hb hr (fun t ht _ => ⟨⟨_, (), rfl, (by
    show _ = iI (a % 2147483648 % b)
    congr 1
    subst_vars
    rfl), trivial⟩, va_S.rf.F ht⟩) (fun _ h => by cases h) dL_low_6 hlocks
set_option maxHeartbeats 400000 in
set_option maxRecDepth 100000 in
theorem mL_needs (l : Launch) (w : Int) (q : Int) (hw : -255 ≤ w ∧ w ≤ 255) (hq : 0 ≤ q ∧ q < 4) : Met l yL_needs wsL_needs ({ frames := 0, cells := 0, slots := 0, locals := 0 }) (va_Pc [.int (iI (w)), .int (iI (q))] (fun _ => True)) (va_Qi (fun (r : Int32) (_ : Unit) => r = iI (needV w q)) (fun _ _ => True) (fun _ => False)) 0 0 (fun _ => False) := by
  refine Met.ofW (cc := cL_needs) (maxL := 3) (ret := (some .int)) (by decide) rfl ?_
  intro p e s m args below meth c s₁ B hml hv
  obtain ⟨rfl, -⟩ := hv
  have hx := B.exec
  have hb := B.bytes
  have hr := B.returns
  have hts := atoms_spec (ws := wsL_needs) B.pre
  have hown : s.vm.findClass RL = some m.cls := findClass_of_methodNamed B.named
  have hlocks := B.notSynchronized
  have hl := lv_entry ([.int (iI (w)), .int (iI (q))]) (n := 3) (Nat.le_of_ble_eq_true rfl)
  rw [lg_entry_eq]
  generalize (lg_sl ([.int (iI (w)), .int (iI (q))]) ++ List.replicate (3 - (lg_sl ([.int (iI (w)), .int (iI (q))])).length) Slot.unset).toArray = ls at hl ⊢
  have hl : lv_has ls 3 [(0, .int (iI (w))), (1, .int (iI (q)))] := hl
  have hab := absI_s w
  refine lv_iload_n hx hb dL_needs_0 rfl (lv_at hl 0 rfl) ?_
  refine r_if_ge (tgt := 9) hx hb (by omega) dL_needs_1 (by decide) (fun c1 => ?_) (fun c1 => ?_)
  · skip
    refine lv_iload_n hx hb dL_needs_9 rfl (lv_at hl 0 rfl) ?_
    refine lv_istore_n (lv' := [(2, .int (iI (w))), (0, .int (iI (w))), (1, .int (iI (q)))]) hx hb dL_needs_10 rfl hl (by decide) rfl (fun ls hl => ?_)
    refine lv_iload_n hx hb dL_needs_11 rfl (lv_at hl 1 rfl) ?_
    refine r_if_ge (tgt := 19) hx hb (by omega) dL_needs_12 (by decide) (fun c2 => ?_) (fun c2 => ?_)
    · skip
      refine lv_iconst (v := iI (0)) hx hb dL_needs_19 rfl ?_
      refine lv_iload_n hx hb dL_needs_20 rfl (lv_at hl 2 rfl) ?_
      refine lv_iconst (v := iI (2)) hx hb dL_needs_21 rfl ?_
      refine r_icmp_ge (tgt := 29) hx hb (by omega) dL_needs_22 (by decide) (fun c3 => ?_) (fun c3 => ?_)
      · skip
        refine lv_iconst (v := iI (0)) hx hb dL_needs_29 rfl ?_
        refine r_icmp_ne (tgt := 37) hx hb (by omega) dL_needs_30 (by decide) (fun c4 => ?_) (fun c4 => ?_)
        · skip
          refine lv_iload_n hx hb dL_needs_37 rfl (lv_at hl 2 rfl) ?_
          refine lv_iconst (v := iI (2)) hx hb dL_needs_38 rfl ?_
          refine r_irem hx hb (by omega) dL_needs_39 ?_
          refine r_nm (fun v5 ev5 => ?_)
          refine r_if_ne (tgt := 50) hx hb (by omega) dL_needs_40 (by decide) (fun c6 => ?_) (fun c6 => ?_)
          · skip
            refine lv_iload_n hx hb dL_needs_50 rfl (lv_at hl 0 rfl) ?_
            refine lv_bipush (v := iI (16)) hx hb dL_needs_51 (by decide +kernel) ?_
            refine r_idiv hx hb (by omega) dL_needs_53 ?_
            refine r_nm (fun v7 ev7 => ?_)
            exact W.iret (v := _) hx hb hr (fun t ht _ => ⟨⟨_, (), rfl, (by
              first
                | (exfalso; omega)
                | (congr 1; unfold needV; first | (rw [if_pos (by omega), if_pos (by omega)]; omega) | (rw [if_pos (by omega), if_neg (by omega)]; omega) | (rw [if_neg (by omega)]))), trivial⟩, va_S.rf.F ht⟩) (fun _ h => by cases h) dL_needs_54 hlocks
          · skip
            refine lv_iload_n hx hb dL_needs_43 rfl (lv_at hl 0 rfl) ?_
            refine lv_bipush (v := iI (16)) hx hb dL_needs_44 (by decide +kernel) ?_
            refine r_irem hx hb (by omega) dL_needs_46 ?_
            refine r_nm (fun v8 ev8 => ?_)
            refine lv_goto (tgt := 54) hx hb dL_needs_47 (by decide) ?_
            exact W.iret (v := _) hx hb hr (fun t ht _ => ⟨⟨_, (), rfl, (by
              first
                | (exfalso; omega)
                | (congr 1; unfold needV; first | (rw [if_pos (by omega), if_pos (by omega)]; omega) | (rw [if_pos (by omega), if_neg (by omega)]; omega) | (rw [if_neg (by omega)]))), trivial⟩, va_S.rf.F ht⟩) (fun _ h => by cases h) dL_needs_54 hlocks
        · skip
          refine lv_iconst (v := iI (0)) hx hb dL_needs_33 rfl ?_
          refine lv_goto (tgt := 54) hx hb dL_needs_34 (by decide) ?_
          exact W.iret (v := _) hx hb hr (fun t ht _ => ⟨⟨_, (), rfl, (by
            first
              | (exfalso; omega)
              | (congr 1; unfold needV; first | (rw [if_pos (by omega), if_pos (by omega)]; omega) | (rw [if_pos (by omega), if_neg (by omega)]; omega) | (rw [if_neg (by omega)]))), trivial⟩, va_S.rf.F ht⟩) (fun _ h => by cases h) dL_needs_54 hlocks
      · skip
        refine lv_iconst (v := iI (1)) hx hb dL_needs_25 rfl ?_
        refine lv_goto (tgt := 30) hx hb dL_needs_26 (by decide) ?_
        refine r_icmp_ne (tgt := 37) hx hb (by omega) dL_needs_30 (by decide) (fun c9 => ?_) (fun c9 => ?_)
        · skip
          refine lv_iload_n hx hb dL_needs_37 rfl (lv_at hl 2 rfl) ?_
          refine lv_iconst (v := iI (2)) hx hb dL_needs_38 rfl ?_
          refine r_irem hx hb (by omega) dL_needs_39 ?_
          refine r_nm (fun v10 ev10 => ?_)
          refine r_if_ne (tgt := 50) hx hb (by omega) dL_needs_40 (by decide) (fun c11 => ?_) (fun c11 => ?_)
          · skip
            refine lv_iload_n hx hb dL_needs_50 rfl (lv_at hl 0 rfl) ?_
            refine lv_bipush (v := iI (16)) hx hb dL_needs_51 (by decide +kernel) ?_
            refine r_idiv hx hb (by omega) dL_needs_53 ?_
            refine r_nm (fun v12 ev12 => ?_)
            exact W.iret (v := _) hx hb hr (fun t ht _ => ⟨⟨_, (), rfl, (by
              first
                | (exfalso; omega)
                | (congr 1; unfold needV; first | (rw [if_pos (by omega), if_pos (by omega)]; omega) | (rw [if_pos (by omega), if_neg (by omega)]; omega) | (rw [if_neg (by omega)]))), trivial⟩, va_S.rf.F ht⟩) (fun _ h => by cases h) dL_needs_54 hlocks
          · skip
            refine lv_iload_n hx hb dL_needs_43 rfl (lv_at hl 0 rfl) ?_
            refine lv_bipush (v := iI (16)) hx hb dL_needs_44 (by decide +kernel) ?_
            refine r_irem hx hb (by omega) dL_needs_46 ?_
            refine r_nm (fun v13 ev13 => ?_)
            refine lv_goto (tgt := 54) hx hb dL_needs_47 (by decide) ?_
            exact W.iret (v := _) hx hb hr (fun t ht _ => ⟨⟨_, (), rfl, (by
              first
                | (exfalso; omega)
                | (congr 1; unfold needV; first | (rw [if_pos (by omega), if_pos (by omega)]; omega) | (rw [if_pos (by omega), if_neg (by omega)]; omega) | (rw [if_neg (by omega)]))), trivial⟩, va_S.rf.F ht⟩) (fun _ h => by cases h) dL_needs_54 hlocks
        · skip
          refine lv_iconst (v := iI (0)) hx hb dL_needs_33 rfl ?_
          refine lv_goto (tgt := 54) hx hb dL_needs_34 (by decide) ?_
          exact W.iret (v := _) hx hb hr (fun t ht _ => ⟨⟨_, (), rfl, (by
            first
              | (exfalso; omega)
              | (congr 1; unfold needV; first | (rw [if_pos (by omega), if_pos (by omega)]; omega) | (rw [if_pos (by omega), if_neg (by omega)]; omega) | (rw [if_neg (by omega)]))), trivial⟩, va_S.rf.F ht⟩) (fun _ h => by cases h) dL_needs_54 hlocks
    · skip
      refine lv_iconst (v := iI (1)) hx hb dL_needs_15 rfl ?_
      refine lv_goto (tgt := 20) hx hb dL_needs_16 (by decide) ?_
      refine lv_iload_n hx hb dL_needs_20 rfl (lv_at hl 2 rfl) ?_
      refine lv_iconst (v := iI (2)) hx hb dL_needs_21 rfl ?_
      refine r_icmp_ge (tgt := 29) hx hb (by omega) dL_needs_22 (by decide) (fun c14 => ?_) (fun c14 => ?_)
      · skip
        refine lv_iconst (v := iI (0)) hx hb dL_needs_29 rfl ?_
        refine r_icmp_ne (tgt := 37) hx hb (by omega) dL_needs_30 (by decide) (fun c15 => ?_) (fun c15 => ?_)
        · skip
          refine lv_iload_n hx hb dL_needs_37 rfl (lv_at hl 2 rfl) ?_
          refine lv_iconst (v := iI (2)) hx hb dL_needs_38 rfl ?_
          refine r_irem hx hb (by omega) dL_needs_39 ?_
          refine r_nm (fun v16 ev16 => ?_)
          refine r_if_ne (tgt := 50) hx hb (by omega) dL_needs_40 (by decide) (fun c17 => ?_) (fun c17 => ?_)
          · skip
            refine lv_iload_n hx hb dL_needs_50 rfl (lv_at hl 0 rfl) ?_
            refine lv_bipush (v := iI (16)) hx hb dL_needs_51 (by decide +kernel) ?_
            refine r_idiv hx hb (by omega) dL_needs_53 ?_
            refine r_nm (fun v18 ev18 => ?_)
            exact W.iret (v := _) hx hb hr (fun t ht _ => ⟨⟨_, (), rfl, (by
              first
                | (exfalso; omega)
                | (congr 1; unfold needV; first | (rw [if_pos (by omega), if_pos (by omega)]; omega) | (rw [if_pos (by omega), if_neg (by omega)]; omega) | (rw [if_neg (by omega)]))), trivial⟩, va_S.rf.F ht⟩) (fun _ h => by cases h) dL_needs_54 hlocks
          · skip
            refine lv_iload_n hx hb dL_needs_43 rfl (lv_at hl 0 rfl) ?_
            refine lv_bipush (v := iI (16)) hx hb dL_needs_44 (by decide +kernel) ?_
            refine r_irem hx hb (by omega) dL_needs_46 ?_
            refine r_nm (fun v19 ev19 => ?_)
            refine lv_goto (tgt := 54) hx hb dL_needs_47 (by decide) ?_
            exact W.iret (v := _) hx hb hr (fun t ht _ => ⟨⟨_, (), rfl, (by
              first
                | (exfalso; omega)
                | (congr 1; unfold needV; first | (rw [if_pos (by omega), if_pos (by omega)]; omega) | (rw [if_pos (by omega), if_neg (by omega)]; omega) | (rw [if_neg (by omega)]))), trivial⟩, va_S.rf.F ht⟩) (fun _ h => by cases h) dL_needs_54 hlocks
        · skip
          refine lv_iconst (v := iI (0)) hx hb dL_needs_33 rfl ?_
          refine lv_goto (tgt := 54) hx hb dL_needs_34 (by decide) ?_
          exact W.iret (v := _) hx hb hr (fun t ht _ => ⟨⟨_, (), rfl, (by
            first
              | (exfalso; omega)
              | (congr 1; unfold needV; first | (rw [if_pos (by omega), if_pos (by omega)]; omega) | (rw [if_pos (by omega), if_neg (by omega)]; omega) | (rw [if_neg (by omega)]))), trivial⟩, va_S.rf.F ht⟩) (fun _ h => by cases h) dL_needs_54 hlocks
      · skip
        refine lv_iconst (v := iI (1)) hx hb dL_needs_25 rfl ?_
        refine lv_goto (tgt := 30) hx hb dL_needs_26 (by decide) ?_
        refine r_icmp_ne (tgt := 37) hx hb (by omega) dL_needs_30 (by decide) (fun c20 => ?_) (fun c20 => ?_)
        · skip
          refine lv_iload_n hx hb dL_needs_37 rfl (lv_at hl 2 rfl) ?_
          refine lv_iconst (v := iI (2)) hx hb dL_needs_38 rfl ?_
          refine r_irem hx hb (by omega) dL_needs_39 ?_
          refine r_nm (fun v21 ev21 => ?_)
          refine r_if_ne (tgt := 50) hx hb (by omega) dL_needs_40 (by decide) (fun c22 => ?_) (fun c22 => ?_)
          · skip
            refine lv_iload_n hx hb dL_needs_50 rfl (lv_at hl 0 rfl) ?_
            refine lv_bipush (v := iI (16)) hx hb dL_needs_51 (by decide +kernel) ?_
            refine r_idiv hx hb (by omega) dL_needs_53 ?_
            refine r_nm (fun v23 ev23 => ?_)
            exact W.iret (v := _) hx hb hr (fun t ht _ => ⟨⟨_, (), rfl, (by
              first
                | (exfalso; omega)
                | (congr 1; unfold needV; first | (rw [if_pos (by omega), if_pos (by omega)]; omega) | (rw [if_pos (by omega), if_neg (by omega)]; omega) | (rw [if_neg (by omega)]))), trivial⟩, va_S.rf.F ht⟩) (fun _ h => by cases h) dL_needs_54 hlocks
          · skip
            refine lv_iload_n hx hb dL_needs_43 rfl (lv_at hl 0 rfl) ?_
            refine lv_bipush (v := iI (16)) hx hb dL_needs_44 (by decide +kernel) ?_
            refine r_irem hx hb (by omega) dL_needs_46 ?_
            refine r_nm (fun v24 ev24 => ?_)
            refine lv_goto (tgt := 54) hx hb dL_needs_47 (by decide) ?_
            exact W.iret (v := _) hx hb hr (fun t ht _ => ⟨⟨_, (), rfl, (by
              first
                | (exfalso; omega)
                | (congr 1; unfold needV; first | (rw [if_pos (by omega), if_pos (by omega)]; omega) | (rw [if_pos (by omega), if_neg (by omega)]; omega) | (rw [if_neg (by omega)]))), trivial⟩, va_S.rf.F ht⟩) (fun _ h => by cases h) dL_needs_54 hlocks
        · skip
          refine lv_iconst (v := iI (0)) hx hb dL_needs_33 rfl ?_
          refine lv_goto (tgt := 54) hx hb dL_needs_34 (by decide) ?_
          exact W.iret (v := _) hx hb hr (fun t ht _ => ⟨⟨_, (), rfl, (by
            first
              | (exfalso; omega)
              | (congr 1; unfold needV; first | (rw [if_pos (by omega), if_pos (by omega)]; omega) | (rw [if_pos (by omega), if_neg (by omega)]; omega) | (rw [if_neg (by omega)]))), trivial⟩, va_S.rf.F ht⟩) (fun _ h => by cases h) dL_needs_54 hlocks
  · skip
    refine lv_iload_n hx hb dL_needs_4 rfl (lv_at hl 0 rfl) ?_
    refine r_ineg hx hb dL_needs_5 ?_
    refine r_nm (fun v25 ev25 => ?_)
    refine lv_goto (tgt := 10) hx hb dL_needs_6 (by decide) ?_
    refine lv_istore_n (lv' := [(2, .int (iI (v25))), (0, .int (iI (w))), (1, .int (iI (q)))]) hx hb dL_needs_10 rfl hl (by decide) rfl (fun ls hl => ?_)
    refine lv_iload_n hx hb dL_needs_11 rfl (lv_at hl 1 rfl) ?_
    refine r_if_ge (tgt := 19) hx hb (by omega) dL_needs_12 (by decide) (fun c26 => ?_) (fun c26 => ?_)
    · skip
      refine lv_iconst (v := iI (0)) hx hb dL_needs_19 rfl ?_
      refine lv_iload_n hx hb dL_needs_20 rfl (lv_at hl 2 rfl) ?_
      refine lv_iconst (v := iI (2)) hx hb dL_needs_21 rfl ?_
      refine r_icmp_ge (tgt := 29) hx hb (by omega) dL_needs_22 (by decide) (fun c27 => ?_) (fun c27 => ?_)
      · skip
        refine lv_iconst (v := iI (0)) hx hb dL_needs_29 rfl ?_
        refine r_icmp_ne (tgt := 37) hx hb (by omega) dL_needs_30 (by decide) (fun c28 => ?_) (fun c28 => ?_)
        · skip
          refine lv_iload_n hx hb dL_needs_37 rfl (lv_at hl 2 rfl) ?_
          refine lv_iconst (v := iI (2)) hx hb dL_needs_38 rfl ?_
          refine r_irem hx hb (by omega) dL_needs_39 ?_
          refine r_nm (fun v29 ev29 => ?_)
          refine r_if_ne (tgt := 50) hx hb (by omega) dL_needs_40 (by decide) (fun c30 => ?_) (fun c30 => ?_)
          · skip
            refine lv_iload_n hx hb dL_needs_50 rfl (lv_at hl 0 rfl) ?_
            refine lv_bipush (v := iI (16)) hx hb dL_needs_51 (by decide +kernel) ?_
            refine r_idiv hx hb (by omega) dL_needs_53 ?_
            refine r_nm (fun v31 ev31 => ?_)
            exact W.iret (v := _) hx hb hr (fun t ht _ => ⟨⟨_, (), rfl, (by
              first
                | (exfalso; omega)
                | (congr 1; unfold needV; first | (rw [if_pos (by omega), if_pos (by omega)]; omega) | (rw [if_pos (by omega), if_neg (by omega)]; omega) | (rw [if_neg (by omega)]))), trivial⟩, va_S.rf.F ht⟩) (fun _ h => by cases h) dL_needs_54 hlocks
          · skip
            refine lv_iload_n hx hb dL_needs_43 rfl (lv_at hl 0 rfl) ?_
            refine lv_bipush (v := iI (16)) hx hb dL_needs_44 (by decide +kernel) ?_
            refine r_irem hx hb (by omega) dL_needs_46 ?_
            refine r_nm (fun v32 ev32 => ?_)
            refine lv_goto (tgt := 54) hx hb dL_needs_47 (by decide) ?_
            exact W.iret (v := _) hx hb hr (fun t ht _ => ⟨⟨_, (), rfl, (by
              first
                | (exfalso; omega)
                | (congr 1; unfold needV; first | (rw [if_pos (by omega), if_pos (by omega)]; omega) | (rw [if_pos (by omega), if_neg (by omega)]; omega) | (rw [if_neg (by omega)]))), trivial⟩, va_S.rf.F ht⟩) (fun _ h => by cases h) dL_needs_54 hlocks
        · skip
          refine lv_iconst (v := iI (0)) hx hb dL_needs_33 rfl ?_
          refine lv_goto (tgt := 54) hx hb dL_needs_34 (by decide) ?_
          exact W.iret (v := _) hx hb hr (fun t ht _ => ⟨⟨_, (), rfl, (by
            first
              | (exfalso; omega)
              | (congr 1; unfold needV; first | (rw [if_pos (by omega), if_pos (by omega)]; omega) | (rw [if_pos (by omega), if_neg (by omega)]; omega) | (rw [if_neg (by omega)]))), trivial⟩, va_S.rf.F ht⟩) (fun _ h => by cases h) dL_needs_54 hlocks
      · skip
        refine lv_iconst (v := iI (1)) hx hb dL_needs_25 rfl ?_
        refine lv_goto (tgt := 30) hx hb dL_needs_26 (by decide) ?_
        refine r_icmp_ne (tgt := 37) hx hb (by omega) dL_needs_30 (by decide) (fun c33 => ?_) (fun c33 => ?_)
        · skip
          refine lv_iload_n hx hb dL_needs_37 rfl (lv_at hl 2 rfl) ?_
          refine lv_iconst (v := iI (2)) hx hb dL_needs_38 rfl ?_
          refine r_irem hx hb (by omega) dL_needs_39 ?_
          refine r_nm (fun v34 ev34 => ?_)
          refine r_if_ne (tgt := 50) hx hb (by omega) dL_needs_40 (by decide) (fun c35 => ?_) (fun c35 => ?_)
          · skip
            refine lv_iload_n hx hb dL_needs_50 rfl (lv_at hl 0 rfl) ?_
            refine lv_bipush (v := iI (16)) hx hb dL_needs_51 (by decide +kernel) ?_
            refine r_idiv hx hb (by omega) dL_needs_53 ?_
            refine r_nm (fun v36 ev36 => ?_)
            exact W.iret (v := _) hx hb hr (fun t ht _ => ⟨⟨_, (), rfl, (by
              first
                | (exfalso; omega)
                | (congr 1; unfold needV; first | (rw [if_pos (by omega), if_pos (by omega)]; omega) | (rw [if_pos (by omega), if_neg (by omega)]; omega) | (rw [if_neg (by omega)]))), trivial⟩, va_S.rf.F ht⟩) (fun _ h => by cases h) dL_needs_54 hlocks
          · skip
            refine lv_iload_n hx hb dL_needs_43 rfl (lv_at hl 0 rfl) ?_
            refine lv_bipush (v := iI (16)) hx hb dL_needs_44 (by decide +kernel) ?_
            refine r_irem hx hb (by omega) dL_needs_46 ?_
            refine r_nm (fun v37 ev37 => ?_)
            refine lv_goto (tgt := 54) hx hb dL_needs_47 (by decide) ?_
            exact W.iret (v := _) hx hb hr (fun t ht _ => ⟨⟨_, (), rfl, (by
              first
                | (exfalso; omega)
                | (congr 1; unfold needV; first | (rw [if_pos (by omega), if_pos (by omega)]; omega) | (rw [if_pos (by omega), if_neg (by omega)]; omega) | (rw [if_neg (by omega)]))), trivial⟩, va_S.rf.F ht⟩) (fun _ h => by cases h) dL_needs_54 hlocks
        · skip
          refine lv_iconst (v := iI (0)) hx hb dL_needs_33 rfl ?_
          refine lv_goto (tgt := 54) hx hb dL_needs_34 (by decide) ?_
          exact W.iret (v := _) hx hb hr (fun t ht _ => ⟨⟨_, (), rfl, (by
            first
              | (exfalso; omega)
              | (congr 1; unfold needV; first | (rw [if_pos (by omega), if_pos (by omega)]; omega) | (rw [if_pos (by omega), if_neg (by omega)]; omega) | (rw [if_neg (by omega)]))), trivial⟩, va_S.rf.F ht⟩) (fun _ h => by cases h) dL_needs_54 hlocks
    · skip
      refine lv_iconst (v := iI (1)) hx hb dL_needs_15 rfl ?_
      refine lv_goto (tgt := 20) hx hb dL_needs_16 (by decide) ?_
      refine lv_iload_n hx hb dL_needs_20 rfl (lv_at hl 2 rfl) ?_
      refine lv_iconst (v := iI (2)) hx hb dL_needs_21 rfl ?_
      refine r_icmp_ge (tgt := 29) hx hb (by omega) dL_needs_22 (by decide) (fun c38 => ?_) (fun c38 => ?_)
      · skip
        refine lv_iconst (v := iI (0)) hx hb dL_needs_29 rfl ?_
        refine r_icmp_ne (tgt := 37) hx hb (by omega) dL_needs_30 (by decide) (fun c39 => ?_) (fun c39 => ?_)
        · skip
          refine lv_iload_n hx hb dL_needs_37 rfl (lv_at hl 2 rfl) ?_
          refine lv_iconst (v := iI (2)) hx hb dL_needs_38 rfl ?_
          refine r_irem hx hb (by omega) dL_needs_39 ?_
          refine r_nm (fun v40 ev40 => ?_)
          refine r_if_ne (tgt := 50) hx hb (by omega) dL_needs_40 (by decide) (fun c41 => ?_) (fun c41 => ?_)
          · skip
            refine lv_iload_n hx hb dL_needs_50 rfl (lv_at hl 0 rfl) ?_
            refine lv_bipush (v := iI (16)) hx hb dL_needs_51 (by decide +kernel) ?_
            refine r_idiv hx hb (by omega) dL_needs_53 ?_
            refine r_nm (fun v42 ev42 => ?_)
            exact W.iret (v := _) hx hb hr (fun t ht _ => ⟨⟨_, (), rfl, (by
              first
                | (exfalso; omega)
                | (congr 1; unfold needV; first | (rw [if_pos (by omega), if_pos (by omega)]; omega) | (rw [if_pos (by omega), if_neg (by omega)]; omega) | (rw [if_neg (by omega)]))), trivial⟩, va_S.rf.F ht⟩) (fun _ h => by cases h) dL_needs_54 hlocks
          · skip
            refine lv_iload_n hx hb dL_needs_43 rfl (lv_at hl 0 rfl) ?_
            refine lv_bipush (v := iI (16)) hx hb dL_needs_44 (by decide +kernel) ?_
            refine r_irem hx hb (by omega) dL_needs_46 ?_
            refine r_nm (fun v43 ev43 => ?_)
            refine lv_goto (tgt := 54) hx hb dL_needs_47 (by decide) ?_
            exact W.iret (v := _) hx hb hr (fun t ht _ => ⟨⟨_, (), rfl, (by
              first
                | (exfalso; omega)
                | (congr 1; unfold needV; first | (rw [if_pos (by omega), if_pos (by omega)]; omega) | (rw [if_pos (by omega), if_neg (by omega)]; omega) | (rw [if_neg (by omega)]))), trivial⟩, va_S.rf.F ht⟩) (fun _ h => by cases h) dL_needs_54 hlocks
        · skip
          refine lv_iconst (v := iI (0)) hx hb dL_needs_33 rfl ?_
          refine lv_goto (tgt := 54) hx hb dL_needs_34 (by decide) ?_
          exact W.iret (v := _) hx hb hr (fun t ht _ => ⟨⟨_, (), rfl, (by
            first
              | (exfalso; omega)
              | (congr 1; unfold needV; first | (rw [if_pos (by omega), if_pos (by omega)]; omega) | (rw [if_pos (by omega), if_neg (by omega)]; omega) | (rw [if_neg (by omega)]))), trivial⟩, va_S.rf.F ht⟩) (fun _ h => by cases h) dL_needs_54 hlocks
      · skip
        refine lv_iconst (v := iI (1)) hx hb dL_needs_25 rfl ?_
        refine lv_goto (tgt := 30) hx hb dL_needs_26 (by decide) ?_
        refine r_icmp_ne (tgt := 37) hx hb (by omega) dL_needs_30 (by decide) (fun c44 => ?_) (fun c44 => ?_)
        · skip
          refine lv_iload_n hx hb dL_needs_37 rfl (lv_at hl 2 rfl) ?_
          refine lv_iconst (v := iI (2)) hx hb dL_needs_38 rfl ?_
          refine r_irem hx hb (by omega) dL_needs_39 ?_
          refine r_nm (fun v45 ev45 => ?_)
          refine r_if_ne (tgt := 50) hx hb (by omega) dL_needs_40 (by decide) (fun c46 => ?_) (fun c46 => ?_)
          · skip
            refine lv_iload_n hx hb dL_needs_50 rfl (lv_at hl 0 rfl) ?_
            refine lv_bipush (v := iI (16)) hx hb dL_needs_51 (by decide +kernel) ?_
            refine r_idiv hx hb (by omega) dL_needs_53 ?_
            refine r_nm (fun v47 ev47 => ?_)
            exact W.iret (v := _) hx hb hr (fun t ht _ => ⟨⟨_, (), rfl, (by
              first
                | (exfalso; omega)
                | (congr 1; unfold needV; first | (rw [if_pos (by omega), if_pos (by omega)]; omega) | (rw [if_pos (by omega), if_neg (by omega)]; omega) | (rw [if_neg (by omega)]))), trivial⟩, va_S.rf.F ht⟩) (fun _ h => by cases h) dL_needs_54 hlocks
          · skip
            refine lv_iload_n hx hb dL_needs_43 rfl (lv_at hl 0 rfl) ?_
            refine lv_bipush (v := iI (16)) hx hb dL_needs_44 (by decide +kernel) ?_
            refine r_irem hx hb (by omega) dL_needs_46 ?_
            refine r_nm (fun v48 ev48 => ?_)
            refine lv_goto (tgt := 54) hx hb dL_needs_47 (by decide) ?_
            exact W.iret (v := _) hx hb hr (fun t ht _ => ⟨⟨_, (), rfl, (by
              first
                | (exfalso; omega)
                | (congr 1; unfold needV; first | (rw [if_pos (by omega), if_pos (by omega)]; omega) | (rw [if_pos (by omega), if_neg (by omega)]; omega) | (rw [if_neg (by omega)]))), trivial⟩, va_S.rf.F ht⟩) (fun _ h => by cases h) dL_needs_54 hlocks
        · skip
          refine lv_iconst (v := iI (0)) hx hb dL_needs_33 rfl ?_
          refine lv_goto (tgt := 54) hx hb dL_needs_34 (by decide) ?_
          exact W.iret (v := _) hx hb hr (fun t ht _ => ⟨⟨_, (), rfl, (by
            first
              | (exfalso; omega)
              | (congr 1; unfold needV; first | (rw [if_pos (by omega), if_pos (by omega)]; omega) | (rw [if_pos (by omega), if_neg (by omega)]; omega) | (rw [if_neg (by omega)]))), trivial⟩, va_S.rf.F ht⟩) (fun _ h => by cases h) dL_needs_54 hlocks
