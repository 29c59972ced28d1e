/-! ===== the law's loop ===== -/
set_option maxHeartbeats 4000000 in
set_option maxRecDepth 100000 in
theorem law_loop {p : Program} {l : Launch} {e : Env} {s : State} {m : MethodId} {below : List Frame} {meth : Method} {c : Code} {b L : Nat} {xs : Nat → Int32} {D : va_G} {cy : Nat → ClassId} {fz : Nat} {A : Nat → Prop} {Q : State → Prop} {ad : Nat → Nat} {n : Nat} {v mm : Int} (C : LC p l s m c b L xs D cy fz A) (hA0 : ∀ q, A q → s.heap.size ≤ q) (hn81 : n = 81) (hmm : 0 ≤ mm ∧ mm ≤ 40) (hE : ∀ (H : Heap) (ls : Array Slot), W p l e room_1 s m #[Value.ref b] below meth c H [] 600104 7301314 Q (F0 m 1423 ls [.int (iI 1)])) : ∀ (f t : Nat) {H : Heap} {locs : List Loc} {ls : Array Slot} {st : St} {dd : Int} {cells slots : Nat}, 41 ≤ t + f → t ≤ 40 → GH D cy ad n st A s.heap H locs → JS (4096 + 2048 * (t : Int)) st → st 31 0 0 = dd → st 30 0 0 ≤ 60 * (t : Int) → lv_has ls 22 (llB b ad v dd mm t) → (cells ≤ 10000 + 5000 * t ∧ slots ≤ 60000 + 30000 * t) → W p l e room_1 s m #[Value.ref b] below meth c H locs cells slots Q (F0 m 225 ls []) := by
  intro f
  induction f with
  | zero => intro t H locs ls st dd cells slots h1 h2; exact absurd h1 (by omega)
  | succ f ih =>
    intro t H locs ls st dd cells slots h1 h2 hG hJ hdd hno hl hcs
    have hr0 : ∀ a9 b9 : Nat, a9 ≤ 10000 → b9 ≤ 60000 → cells + a9 ≤ room_1.cells ∧ slots + b9 ≤ room_1.slots := fun a9 b9 h3 h4 => by
      show cells + a9 ≤ 600104 ∧ slots + b9 ≤ 7301314
      omega
    refine lb_head C t mm v dd (by omega) hmm hG hl (hr0 0 0 (by decide) (by decide)) (fun hmt => ?_) (fun pc hpc w wh la tl rw0 cl H locs ls hw hla htl hrw hcl htm hG hl => ?_)
    · obtain ⟨hx, hb, -⟩ := id C
      refine lv_iload hx hb dL_law_1421 (lv_at hl 0 rfl) ?_
      refine va_forget (fun q hq => hA0 _ (hG.2.2.2.2 q hq)) ?_
      exact W.widen (by omega) (by omega) (hE _ _)
    · have h30 := gI_30 hJ.1 0 0
      have hwb : ∀ t9 : Nat, t9 ≤ 41 → 0 ≤ 4096 + 2048 * (t9 : Int) ∧ 4096 + 2048 * (t9 : Int) ≤ 200000 := fun t9 h9 => by omega
      have KK : KKs p l e s m below meth c b D cy A Q ad n v mm t w tl (4096 + 2048 * (t : Int)) (st 30 0 0) cells slots := by
        intro st' dd' H locs ls hG hJ hdd hn hl
        have hJ : JS (4096 + 2048 * ((t + 1 : Nat) : Int)) st' := JS_mono (by omega) hJ
        refine lb_chk C hn81 t mm w v dd' tl _ (hwb (t + 1) (by omega)) hG hJ hdd h2 hw htl hl (hr0 2200 13200 (by decide) (by decide)) (fun st2 H locs ls hG hJ hdd hn2 hl => ?_)
        refine lb_wear C hn81 t mm w v dd' tl _ (hwb (t + 1) (by omega)) hG hJ hdd h2 hw htl hl (hr0 4900 29400 (by decide) (by decide)) (fun H locs ls hG hl => ?_)
        exact ih (t + 1) (by omega) (by omega) hG hJ hdd (by omega) hl (by omega)
      have hcs2 := hr0 2000 12000 (by decide) (by decide)
      have hw0 := hwb t (by omega)
      have hla2 : ∃ a a' : Nat, ((a = 0 ∧ a' = 1) ∨ (a = 1 ∧ a' = 0)) ∧ la = (a : Int) := by
        rcases (by omega : la = 0 ∨ la = 1) with rfl | rfl
        · exact ⟨0, 1, Or.inl ⟨rfl, rfl⟩, rfl⟩
        · exact ⟨1, 0, Or.inr ⟨rfl, rfl⟩, rfl⟩
      obtain ⟨a, a', ha, hea⟩ := hla2
      simp only [List.mem_cons, List.not_mem_nil, or_false] at hpc
      rcases hpc with rfl | rfl | rfl | rfl | rfl | rfl | rfl | rfl | rfl | rfl
      · subst hea
        exact lb_weight C hn81 t mm w v dd wh rw0 cl tl a a' _ hw0 hG hJ hdd hw htl hrw hcl ha hl hcs2 KK
      · subst hea
        exact lb_load C hn81 t mm w v dd wh rw0 cl tl a a' _ hw0 hG hJ hdd hw htl hrw hcl ha hl hcs2 KK
      · exact lb_stick C hn81 t mm w v dd wh rw0 cl tl la _ hw0 hG hJ hdd hw htl hrw hcl hla hl hcs2 KK
      · exact lb_spoil C hn81 t mm w v dd wh rw0 cl tl la _ hw0 hG hJ hdd hw htl hrw hcl hla hl hcs2 KK
      · exact lb_pass C hn81 t mm w v dd wh rw0 cl tl la _ hw0 hG hJ hdd hw htl hrw hcl hla ⟨h30.1, by omega⟩ hl hcs2 KK
      · exact lb_drift C hn81 t mm w v dd wh rw0 cl tl la _ hw0 hG hJ hdd hw htl hrw hcl hla hl hcs2 KK
      · exact lb_conv C hn81 t mm w v dd wh rw0 cl tl la _ hw0 hG hJ hdd hw htl hrw hcl hla hl hcs2 KK
      · exact lb_offs C hn81 t mm w v dd wh rw0 cl tl la _ hw0 hG hJ hdd hw htl hrw hcl hla hl hcs2 KK
      · subst hea
        exact lb_place C hn81 t mm w v dd wh rw0 cl tl a a' _ hw0 hG hJ hdd hw htl hrw hcl ha hl hcs2 KK
      · exact lb_endur C hn81 t mm w v dd wh rw0 cl tl la _ hw0 hG hJ hdd hw htl hrw hcl hla hl hcs2 KK
