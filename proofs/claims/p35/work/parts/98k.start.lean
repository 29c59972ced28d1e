section CPG
variable {p : Program} {l : Launch} {e : Env} {R : Room} {s : State} {m : MethodId} {args : Array Value} {below : List Frame} {meth : Method} {c : Code} {H : Heap} {locs : List Loc} {cells slots : Nat} {Q : State → Prop}
variable {pc : Nat} {ls : Array Slot} {rest st0 : List Value} {D : va_G} {A : Nat → Prop} {H0 : Heap} {av : Array Value} {ws xs : va_W} {q0 a ci : Nat} {fs : List Value}
theorem cp_goi {post : Int32 → Unit → Prop} (hG : CG D A H0 ws q0 a ci fs xs H locs) (hr : va_Run p l e R s m args below meth c H locs cells slots 0 0 (F0 m pc ls st0) rest (va_Qi post (fun _ _ => True) (fun _ => False) av) (fun _ => False))
    (kk : ∀ (r : Int32) (H1 : Heap) (locs1 : List Loc), post r () → CG D A H0 ws q0 a ci fs xs H1 locs1 → W p l e R s m args below meth c H1 locs1 cells slots Q (F0 m (pc + 3) ls (.int r :: rest))) : W p l e R s m args below meth c H locs cells slots Q (F0 m pc ls st0) :=
  va_calli hr hG.2.2.2 (fun q _ h => h.elim) (fun q h => h.elim) (fun r u t H1 locs1 _ _ hw _ _ hk hS => kk r H1 locs1 hw ⟨hG.1, hG.2.1.kept (fun k q hq => hk q.1 (vx_lt hG.2.1 hq) (fun z => z)), hG.2.2.1, hS⟩)
end CPG
def lf5 : List Value := [.null, .null, .null, .null, .null, .int (iI 0)]
theorem cwl_two {G : va_W} {n m ci : Nat} {f0 F : List Value} {X : va_W} (hn : G.length = n) : cwl (cwl (G ++ [(m, .inr (ci, f0))]) n m ci f0 []) n m ci F X = G ++ (m, .inr (ci, F)) :: X := by
  subst hn
  unfold cwl
  simp
set_option maxHeartbeats 4000000 in
set_option maxRecDepth 100000 in
theorem law_start {p : Program} {e : Env} {s : State} {m : MethodId} {below : List Frame} {meth : Method} {c : Code} {b L : Nat} {xs : Nat → Int32} {Q : State → Prop} (l : Launch) (hlf : l.stackTraces = false) (hL : L ≤ 260) (hx : p.tables.exec = Jvm.exec) (hb : c.code = cL_law) (hml : c.maxLocals = 22) (hown : s.vm.findClass RL = some m.cls) (hts0 : ∀ w ∈ lw_tbl, w.before #[Value.ref b] s = true) (hX : va_X b L xs s s.heap) (hbl : b < s.heap.size) (hgv : (Jvm.Cond.and given_1 narrow_1).before #[Value.ref b] s = true)
    (hE : ∀ (H : Heap) (ls : Array Slot), W p l e room_1 s m #[Value.ref b] below meth c H [] 600104 7301314 Q (F0 m 1423 ls [.int (iI 1)])) : W p l e room_1 s m #[Value.ref b] below meth c s.heap [] 0 0 Q (entryFrame m ([Value.ref b] : List Value).toArray 22) := by
  obtain ⟨D, cy, hK, hO4, hO0⟩ := lw_K hts0
  obtain ⟨A, hAe⟩ : ∃ A : Nat → Prop, A = fun q => s.heap.size ≤ q := ⟨_, rfl⟩
  have hA : ∀ q, s.heap.size ≤ q → A q := fun q h => by rw [hAe]; exact h
  have hA0 : ∀ q, A q → s.heap.size ≤ q := fun q h => by rw [hAe] at h; exact h
  clear hAe
  obtain ⟨fz, hZ⟩ := lw_gZ (A := A) hts0 hgv (fun a ha h => by have := hA0 a h; omega)
  have hN : gN s := lw_gN ((hK.1 5 _ rfl).2.1) hts0 hgv
  have hts : ∀ w ∈ wsL_law, w.before #[Value.ref b] s = true := fun w hw => hts0 w (wsL_law_in w hw)
  have hbA : ¬ A b := fun h => by have := hA0 b h; omega
  have C : LC p l s m c b L xs D cy fz A := ⟨hx, hb, hml, hown, hts, hX, hbl, hbA, hA, hK, hN, hZ, hlf, hL⟩
  have hl := lv_entry ([.ref b]) (n := 22) (Nat.le_of_ble_eq_true rfl)
  rw [lg_entry_eq]
  generalize (lg_sl ([.ref b]) ++ List.replicate (22 - (lg_sl ([.ref b])).length) Slot.unset).toArray = ls at hl ⊢
  have hl : lv_has ls 22 [(0, .ref b)] := hl
  have hP : va_P D vwCl [] s.heap := fun k q hq => by simp at hq
  have hD : va_D A [] := ⟨fun i j p q hi => by simp at hi, fun k q hq => by simp at hq⟩
  have hS : va_S A s.heap s.heap [] := va_S.rf
  refine va_new hx hb hts0 inX5 tyX5 tyX5_ok hown (hts (.classLink RL 9 RX5) (by decide +kernel)) (hts0 (.instantiable RX5 6) (by decide +kernel)) (hts0 (.initialized RX5) (by decide +kernel)) hK hP hD hS hA (ci := 5) rfl (fs := lf5) (by decide +kernel) (Nat.le_of_ble_eq_true rfl) (Nat.le_of_ble_eq_true rfl) dL_law_0 (fun x H hP hD hS => ?_)
  refine lv_dup hx hb dL_law_3 rfl ?_
  have hat5 : ([] ++ [(x, Sum.inr (5, lf5))] : va_W)[0]? = some (x, Sum.inr (5, lf5)) := rfl
  have hC : CG D A s.heap ([] ++ [(x, Sum.inr (5, lf5))]) 0 x 5 lf5 [] H [] := ⟨(List.getElem?_eq_some_iff.mp hat5).1, by rw [cwl_self hat5]; exact hP, by rw [cwl_self hat5]; exact hD, hS⟩
  refine c_gov hC hA (va_runI (As := []) (rest := [.ref x]) ⟨hx, hb, hml, hown, hts⟩ (mX5_init l D cy (cwl ([] ++ [(x, Sum.inr (5, lf5))]) 0 x 5 lf5 []) 0 x H.size (cwl_at hC.1)) (cwI 0 hts gL_law_X5_init rfl rfl rfl (hts0 (.initialized RX5) (by decide +kernel)) (hts (.methodLink RL 23 yX5_init) (by decide +kernel)) (hts0 (.instanceMethod yX5_init) (by decide +kernel)) rfl (by decide +kernel) ⟨Nat.le_of_ble_eq_true rfl, Nat.le_of_ble_eq_true rfl⟩) ⟨c_blind5, fun U hU hW => ⟨(c_pre (vs := [.ref x]) hK hC U hU hW).1, (c_pre (vs := [.ref x]) hK hC U hU hW).2, hO4.moved hW.alike, hO0.moved hW.alike, fun w hw => by
    have h1 := va_Nw.of (cnw_t w hw) (hts0 w (cnw_in w hw))
    simp only [cnw, List.mem_cons, List.not_mem_nil, or_false] at hw
    rcases hw with rfl | rfl | rfl
    · exact va_Nw.warmM hW h1
    · exact va_Nw.warmM hW h1
    · exact va_Nw.warmM hW h1⟩⟩ rfl rfl hl.1 rfl (lv_room (Nat.le_of_ble_eq_true rfl)) dL_law_4 ⟨Nat.le_of_ble_eq_true rfl, Nat.le_of_ble_eq_true rfl⟩) (fun w5 H locs hP hD hS => ?_)
  have hC : CG D A s.heap (cwl ([] ++ [(x, Sum.inr (5, lf5))]) 0 x 5 lf5 []) 0 x 5 (lF5 w5) (lX5 cy w5) H locs := ⟨(List.getElem?_eq_some_iff.mp (cwl_at hC.1)).1, hP, hD, hS⟩
  clear hat5
  refine lv_astore_n (lv' := [(1, .ref x), (0, .ref b)]) hx hb dL_law_7 rfl hl (by decide) rfl (fun ls hl => ?_)
  refine lv_aload_n hx hb dL_law_8 rfl (lv_at hl 1 rfl) ?_
  refine lv_iconst (v := iI ((0 : Nat) : Int)) hx hb dL_law_9 rfl ?_
  refine cp_goi hC (va_runS (As := [.ref b, .int (iI ((0 : Nat) : Int))]) (rest := []) ⟨hx, hb, hml, hown, hts⟩ (mL_cell l b L xs 0 (by decide) hL) (va_cwS 2 hts gL_law_L_cell rfl rfl rfl (by decide +kernel) ⟨Nat.le_of_ble_eq_true rfl, Nat.le_of_ble_eq_true rfl⟩) ⟨p1_blind, p1_pre hX hbl hbA hC.2.2.2⟩ rfl rfl hl.1 rfl (lv_room (Nat.le_of_ble_eq_true rfl)) dL_law_10 ⟨Nat.le_of_ble_eq_true rfl, Nat.le_of_ble_eq_true rfl⟩) (fun r9 H locs hp hC => ?_)
  rw [hp]
  clear hp
  refine r_nm (fun v ev => ?_)
  have hv := cvF_r xs L (k := 0) (by decide)
  rw [← ev] at hv
  refine lv_istore_n (lv' := [(2, .int (iI v)), (1, .ref x), (0, .ref b)]) hx hb dL_law_13 rfl hl (by decide) rfl (fun ls hl => ?_)
  refine lv_iconst (v := iI (2)) hx hb dL_law_14 rfl ?_
  refine c_newa (atype := .int) hx hb (hts0 (.arrayClass .int) (by decide +kernel)) 0 (ty := .int) rfl rfl hK hC hA (N' := 2) (c_defi 2) (by decide +kernel) (by decide +kernel) (by decide +kernel) (Nat.le_of_ble_eq_true rfl) (Nat.le_of_ble_eq_true rfl) dL_law_15 (fun a1 H hC => ?_)
  refine lv_astore_n (lv' := [(3, .ref a1), (2, .int (iI v)), (1, .ref x), (0, .ref b)]) hx hb dL_law_17 rfl hl (by decide) rfl (fun ls hl => ?_)
  refine lv_iconst (v := iI (2)) hx hb dL_law_18 rfl ?_
  refine c_newa (atype := .int) hx hb (hts0 (.arrayClass .int) (by decide +kernel)) 0 (ty := .int) rfl rfl hK hC hA (N' := 2) (c_defi 2) (by decide +kernel) (by decide +kernel) (by decide +kernel) (Nat.le_of_ble_eq_true rfl) (Nat.le_of_ble_eq_true rfl) dL_law_19 (fun a2 H hC => ?_)
  refine lv_astore (lv' := [(4, .ref a2), (3, .ref a1), (2, .int (iI v)), (1, .ref x), (0, .ref b)]) hx hb dL_law_21 hl (by decide) rfl (fun ls hl => ?_)
  refine lv_iconst (v := iI (2)) hx hb dL_law_23 rfl ?_
  refine c_newa (atype := .int) hx hb (hts0 (.arrayClass .int) (by decide +kernel)) 0 (ty := .int) rfl rfl hK hC hA (N' := 2) (c_defi 2) (by decide +kernel) (by decide +kernel) (by decide +kernel) (Nat.le_of_ble_eq_true rfl) (Nat.le_of_ble_eq_true rfl) dL_law_24 (fun a3 H hC => ?_)
  refine lv_astore (lv' := [(5, .ref a3), (4, .ref a2), (3, .ref a1), (2, .int (iI v)), (1, .ref x), (0, .ref b)]) hx hb dL_law_26 hl (by decide) rfl (fun ls hl => ?_)
  refine lv_bipush (v := iI (64)) hx hb dL_law_28 (by decide +kernel) ?_
  refine c_newa (atype := .int) hx hb (hts0 (.arrayClass .int) (by decide +kernel)) 0 (ty := .int) rfl rfl hK hC hA (N' := 64) (c_defi 64) (by decide +kernel) (by decide +kernel) (by decide +kernel) (Nat.le_of_ble_eq_true rfl) (Nat.le_of_ble_eq_true rfl) dL_law_30 (fun a4 H hC => ?_)
  refine lv_astore (lv' := [(6, .ref a4), (5, .ref a3), (4, .ref a2), (3, .ref a1), (2, .int (iI v)), (1, .ref x), (0, .ref b)]) hx hb dL_law_32 hl (by decide) rfl (fun ls hl => ?_)
  obtain ⟨-, hP, hD, hS⟩ := hC
  rw [cwl_two (G := []) (n := 0) rfl] at hP hD
  have hG : GH D cy (lad x a1 a2 a3 a4 w5) 75 st0 A s.heap H locs := lW_G hP hD hS
  obtain ⟨ad, had⟩ : ∃ z9, z9 = lad x a1 a2 a3 a4 w5 := ⟨_, rfl⟩
  have hl : lv_has ls 22 [(0, .ref b), (1, .ref (ad 21)), (2, .int (iI v)), (3, .ref (ad 19)), (4, .ref (ad 20)), (5, .ref (ad 31)), (6, .ref (ad 32))] := by
    rw [had]
    exact lv_sub hl [6, 5, 4, 3, 2, 1, 0] rfl
  rw [← had] at hG
  clear had hP hD hS
  refine lb_s1 C rfl v hv hG GI_st hl ⟨Nat.le_of_ble_eq_true rfl, Nat.le_of_ble_eq_true rfl⟩ (fun st1 i0 o0 i1 o1 H locs ls hi0 ho0 hi1 ho1 hG hI e1 e83 h800 h810 h801 h811 h820 h821 hl => ?_)
  obtain ⟨sta, hG, hI, hR, hza, hsa⟩ := z_go hG hI (ZI_cg (fun c o i _ h9 => e1 c o i h9) ZI_0) ZK_0
  refine lb_ly0 C 0 rfl rfl v i0 o0 (by omega) ho0 hG hI hR hza.2.1 (by rw [hsa 80 0 0 (by decide)]; exact h800) (by rw [hsa 81 0 0 (by decide)]; exact h810) hl ⟨Nat.le_of_ble_eq_true rfl, Nat.le_of_ble_eq_true rfl⟩ (fun st2 ad2 H locs ls hG hI e2 hl => ?_)
  obtain ⟨stb, hG, hI, hR, hzb, hsb⟩ := z_go hG hI (by rw [e2]; exact ZI_ly (N' := [-1]) (P' := [-1]) hza (fun o h => absurd h (by omega)) ⟨rfl, rfl⟩) ZK_1
  have k2 : ∀ (c o : Nat) (i : Int), c ∉ [33, 60, 61, 62, 63, 64, 65, 66] → 25 ≤ c → stb c o i = st1 c o i := fun c o i h1 h2 => by rw [hsb c o i h2, e2, lyS_c h1, hsa c o i h2]
  refine lb_ly1 C 1 rfl rfl v i1 o1 (by omega) ho1 hG hI hR hzb.2.1 (by rw [k2 80 0 1 (by decide) (by decide)]; exact h801) (by rw [k2 81 0 1 (by decide) (by decide)]; exact h811) hl ⟨Nat.le_of_ble_eq_true rfl, Nat.le_of_ble_eq_true rfl⟩ (fun st3 ad3 H locs ls hG hI e3 hl => ?_)
  have hN2 : ∀ o : Nat, o < 1 → ([-1, -1] : List Int).getD o 0 = ([-1] : List Int).getD o 0 ∧ ([-1, -1] : List Int).getD o 0 = ([-1] : List Int).getD o 0 := by decide
  obtain ⟨stc, hG, hI, hR, hzc, hsc⟩ := z_go hG hI (by rw [e3]; exact ZI_ly (N' := [-1, -1]) (P' := [-1, -1]) hzb hN2 ⟨rfl, rfl⟩) ZK_2
  have k3 : ∀ (c o : Nat) (i : Int), c ∉ [33, 60, 61, 62, 63, 64, 65, 66] → 25 ≤ c → stc c o i = st1 c o i := fun c o i h1 h2 => by rw [hsc c o i h2, e3, lyS_c h1, k2 c o i h1 h2]
  have q600 : stc 60 0 0 = i0 := by rw [hsc 60 0 0 (by decide), e3, lyS_o (by decide) (by decide), hsb 60 0 0 (by decide), e2, lyS_60]
  have q610 : stc 61 0 0 = o0 := by rw [hsc 61 0 0 (by decide), e3, lyS_o (by decide) (by decide), hsb 61 0 0 (by decide), e2, lyS_61]
  have q601 : stc 60 1 0 = i1 := by rw [hsc 60 1 0 (by decide), e3, lyS_60]
  have q611 : stc 61 1 0 = o1 := by rw [hsc 61 1 0 (by decide), e3, lyS_61]
  refine lb_s3 C rfl v i0 o0 i1 o1 hv hi0 hi1 hG hI hR hzc ⟨q600, q601, q610, q611⟩ ⟨by rw [k3 80 0 0 (by decide) (by decide)]; exact h800, by rw [k3 80 0 1 (by decide) (by decide)]; exact h801, by rw [k3 81 0 0 (by decide) (by decide)]; exact h810, by rw [k3 81 0 1 (by decide) (by decide)]; exact h811⟩ ⟨by rw [k3 82 0 0 (by decide) (by decide)]; exact h820, by rw [k3 82 0 1 (by decide) (by decide)]; exact h821⟩ (fun j => by rw [k3 83 0 j (by decide) (by decide), e83]; rfl) hl ⟨Nat.le_of_ble_eq_true rfl, Nat.le_of_ble_eq_true rfl⟩ (fun st4 mm H locs ls hmm hG hJ hd hn hl => ?_)
  exact law_loop C hA0 rfl hmm hE 40 1 (by omega) (by omega) hG hJ hd (by omega) hl ⟨Nat.le_of_ble_eq_true rfl, Nat.le_of_ble_eq_true rfl⟩
