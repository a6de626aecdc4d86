theorem lw_snd1 (v : Nat → Int32) : sndV (upd v 0 0) 1 = v 1 := by
  unfold sndV
  split <;> rfl
theorem cS.nilN {G : GG} {PC N : List Nat} {f : Nat → va_E} {o : Nat} {D : Nat → Nat → Nat} {C : Nat → Nat} {T : TS} (h : cS G PC f o D C T) (hN : N = []) : cS G (PC ++ N) f o D C T := by
  subst hN
  rw [List.append_nil]
  exact h
theorem lw_cell {p : Program} {l : Launch} {e : Env} {s : State} {m : MethodId} {below : List Frame} {meth : Method} {c : Code} {b Lx i : Nat} {xs : Nat → Int32} {G : GG} {o mo ou : Nat} {r : Nat → Nat} {L PC : List Nat} {D : Nat → Nat → Nat} {C9 : Nat → Nat} {f : Nat → va_E} {v : Nat → Int32} {A : Nat → Nat → Int32} {B : Nat → Nat → Int64} {k : KS} {H : Heap} {locs : List Loc} {ls : Array Slot} (C : CallFix p m c c_Law_law 7 s #[Value.ref b] bg "FleetFloorLaw") (hE : ev G (pgA [] s.heap.size) s s.heap) (hX : va_X b Lx xs s s.heap) (hbl : b < s.heap.size) (hL : Lx ≤ 2048) (hi : 4 * i + 4 ≤ Lx) (hI : LI G L f o (v, A, k) PC D C9 mo r v A B ou) (hJ : JI v A k) (hM : pgS G (pgA [] s.heap.size) s.heap L f H locs) (hl : lo ls (lwV b o mo ou i)) (kk : lwK p l e s m below meth c b G o mo r ou i) : W p l e room_1 s m #[Value.ref b] below meth c H locs (lwC i v k) (lwS i v k) (lw_Z below #[Value.ref b] s) (F0 m 104 ls []) := by
  have hbA : ¬ pgA [] s.heap.size b := fun z => z.elim (fun z => absurd z List.not_mem_nil) (fun z => absurd hbl (Nat.not_lt.mpr z))
  obtain ⟨hw1, hw2⟩ := lwC_le (i := i) (v := v) (k := k) (by omega) hJ.np
  have h3 := ids_ne hE
  refine lv_aload_n C.1 C.2.1 d_Law_law_104 rfl (lo_at hl 1 rfl) ?_
  refine lw_arg C hX hbl hbA hM.2.2.1 hl rfl rfl hi hL 1 (Nat.le_of_ble_eq_true rfl) (by decide) d_Law_law_105 d_Law_law_106 d_Law_law_108 d_Law_law_109 d_Law_law_110 ?_
  refine lw_arg C hX hbl hbA hM.2.2.1 hl rfl rfl hi hL 2 (Nat.le_of_ble_eq_true rfl) (by decide) d_Law_law_111 d_Law_law_112 d_Law_law_114 d_Law_law_115 d_Law_law_116 ?_
  refine cg_callVA C hE hM (ct_sub (k_FF_cell l G hI.1 (fun hv => lw_n3 hJ hv) _ _) hI.sub hI.2.2.1) hI.at.1 hI.at.2 rfl tw_113 cy_FF_cell ⟨(Nat.le_of_ble_eq_true rfl), (Nat.le_of_ble_eq_true rfl)⟩ rfl hl.1 rfl (Nat.le_of_ble_eq_true rfl) ⟨by show _ ≤ 601024; omega, by show _ ≤ 7293034; omega⟩ d_Law_law_117 (fun x9 N1 L1 f2 H1 locs1 hL1 hp hM => ?_)
  obtain ⟨f1, ⟨hN1, hx9, hS0⟩, h1, h2⟩ := hp
  subst hx9
  have hS := hS0.nilN hN1
  have hnd := va_D.nd hM.2.1
  rw [hL1] at hnd
  have hI := hI.cls h3 hnd h1 h2 hS
  rw [← hL1] at hI
  refine W.eq (g2 := F0 m 120 ls [_]) rfl ?_
  refine lv_aload_n C.1 C.2.1 d_Law_law_120 rfl (lo_at hl 2 rfl) ?_
  refine lw_arg C hX hbl hbA hM.2.2.1 hl rfl rfl hi hL 1 (Nat.le_of_ble_eq_true rfl) (by decide) d_Law_law_121 d_Law_law_122 d_Law_law_124 d_Law_law_125 d_Law_law_126 ?_
  refine lw_arg C hX hbl hbA hM.2.2.1 hl rfl rfl hi hL 2 (Nat.le_of_ble_eq_true rfl) (by decide) d_Law_law_127 d_Law_law_128 d_Law_law_130 d_Law_law_131 d_Law_law_132 ?_
  refine cg_callVA C hE hM (k_Mod_cell l G mo r v A B _ _ _ _ hI.2.1) hI.2.1.1.1 hI.2.1.2.2.1.1 rfl tw_908 cy_Mod_cell ⟨(Nat.le_of_ble_eq_true rfl), (Nat.le_of_ble_eq_true rfl)⟩ rfl hl.1 rfl (Nat.le_of_ble_eq_true rfl) ⟨by show _ ≤ 601024; omega, by show _ ≤ 7293034; omega⟩ d_Law_law_133 (fun x9 N2 L2 f3 H1 locs1 hL2 hp hM => ?_)
  obtain ⟨hN2, v', A', B', ⟨hx9, hv', hA', hB'⟩, hm⟩ := hp
  subst hx9
  rw [hN2, List.append_nil] at hL2
  rw [hL2] at hM
  have hI := hI.mod h3 hm
  refine W.eq (g2 := F0 m 136 ls [_, _]) rfl ?_
  refine lv_icmp_eq (tgt := 570) C.1 C.2.1 d_Law_law_136 (by decide) (fun _ => ?_) (fun h => False.elim (h rfl))
  by_cases hq : okCell v (xs (4 * i + 1)) (xs (4 * i + 2))
  · rw [if_pos hq] at hA'
    rw [show (if okCell (TS.v (v, A, k)) (xs (4 * i + 1)) (xs (4 * i + 2)) then _ else _) = _ from if_pos hq] at hI
    rw [hv', hA'] at hI
    exact lw_go kk hI (lw_J_cell hJ hq) (eqC_0 v _ 0) rfl rfl rfl rfl rfl hM hl (Nat.le_trans (Nat.le_of_eq (by omega)) (lwC_up (a := 0) (v := v) (k := k) rfl rfl (Nat.le_of_ble_eq_true rfl))) (Nat.le_trans (Nat.le_of_eq (by omega)) (lwS_up (a := 0) (v := v) (k := k) rfl rfl (Nat.le_of_ble_eq_true rfl)))
  · rw [if_neg hq] at hA'
    rw [show (if okCell (TS.v (v, A, k)) (xs (4 * i + 1)) (xs (4 * i + 2)) then _ else _) = _ from if_neg hq] at hI
    rw [hv', hA'] at hI
    exact lw_go kk hI (hJ.v0 0) (eqC_0 v _ 0) rfl rfl rfl rfl rfl hM hl (Nat.le_trans (Nat.le_of_eq (by omega)) (lwC_up (a := 0) (v := v) (k := k) rfl rfl (Nat.le_of_ble_eq_true rfl))) (Nat.le_trans (Nat.le_of_eq (by omega)) (lwS_up (a := 0) (v := v) (k := k) rfl rfl (Nat.le_of_ble_eq_true rfl)))
theorem lw_letters {p : Program} {l : Launch} {e : Env} {s : State} {m : MethodId} {below : List Frame} {meth : Method} {c : Code} {b Lx i : Nat} {xs : Nat → Int32} {G : GG} {o mo ou : Nat} {r : Nat → Nat} {L PC : List Nat} {D : Nat → Nat → Nat} {C9 : Nat → Nat} {f : Nat → va_E} {v : Nat → Int32} {A : Nat → Nat → Int32} {B : Nat → Nat → Int64} {k : KS} {H : Heap} {locs : List Loc} {ls : Array Slot} (C : CallFix p m c c_Law_law 7 s #[Value.ref b] bg "FleetFloorLaw") (hE : ev G (pgA [] s.heap.size) s s.heap) (hX : va_X b Lx xs s s.heap) (hbl : b < s.heap.size) (hL : Lx ≤ 2048) (hi : 4 * i + 4 ≤ Lx) (hI : LI G L f o (v, A, k) PC D C9 mo r v A B ou) (hJ : JI v A k) (hM : pgS G (pgA [] s.heap.size) s.heap L f H locs) (hl : lo ls (lwV b o mo ou i)) (kk : lwK p l e s m below meth c b G o mo r ou i) : W p l e room_1 s m #[Value.ref b] below meth c H locs (lwC i v k) (lwS i v k) (lw_Z below #[Value.ref b] s) (F0 m 297 ls []) := by
  have hbA : ¬ pgA [] s.heap.size b := fun z => z.elim (fun z => absurd z List.not_mem_nil) (fun z => absurd hbl (Nat.not_lt.mpr z))
  obtain ⟨hw1, hw2⟩ := lwC_le (i := i) (v := v) (k := k) (by omega) hJ.np
  have h3 := ids_ne hE
  refine lv_aload_n C.1 C.2.1 d_Law_law_297 rfl (lo_at hl 1 rfl) ?_
  refine cg_callVA C hE hM (ct_sub (k_FF_letters l G hI.1) hI.sub hI.2.2.1) hI.at.1 hI.at.2 rfl tw_125 cy_FF_letters ⟨(Nat.le_of_ble_eq_true rfl), (Nat.le_of_ble_eq_true rfl)⟩ rfl hl.1 rfl (Nat.le_of_ble_eq_true rfl) ⟨by show _ ≤ 601024; omega, by show _ ≤ 7293034; omega⟩ d_Law_law_298 (fun x9 N1 L1 f2 H1 locs1 hL1 hp hM => ?_)
  obtain ⟨f1, ⟨hN1, hx9, hf1⟩, h1, h2⟩ := hp
  subst hx9
  have hS : cS G (PC ++ N1) f1 o D C9 (v, A, k) := by rw [hN1, List.append_nil, hf1]; exact hI.1
  have hnd := va_D.nd hM.2.1
  rw [hL1] at hnd
  have hI := hI.cls h3 hnd h1 h2 hS
  rw [← hL1] at hI
  refine W.eq (g2 := F0 m 301 ls [_]) rfl ?_
  refine lv_aload_n C.1 C.2.1 d_Law_law_301 rfl (lo_at hl 2 rfl) ?_
  refine cg_callVA C hE hM (k_Mod_letters l G mo r v A B _ _ hI.2.1) hI.2.1.1.1 hI.2.1.2.2.1.1 rfl tw_938 cy_Mod_letters ⟨(Nat.le_of_ble_eq_true rfl), (Nat.le_of_ble_eq_true rfl)⟩ rfl hl.1 rfl (Nat.le_of_ble_eq_true rfl) ⟨by show _ ≤ 601024; omega, by show _ ≤ 7293034; omega⟩ d_Law_law_302 (fun x9 N2 L2 f3 H1 locs1 hL2 hp hM => ?_)
  obtain ⟨hN2, v', A', B', ⟨hx9, hv', hA', hB'⟩, hm⟩ := hp
  subst hx9
  rw [hN2, List.append_nil] at hL2
  rw [hL2] at hM
  have hI := hI.mod h3 hm
  refine W.eq (g2 := F0 m 305 ls [_, _]) rfl ?_
  refine lv_icmp_eq (tgt := 570) C.1 C.2.1 d_Law_law_305 (by decide) (fun _ => ?_) (fun h => False.elim (h hJ.n1.1.symm))
  rw [hv', hA'] at hI
  exact lw_go kk hI (hJ.v0 0) (eqC_0 v A 0) rfl rfl rfl rfl rfl hM hl (Nat.le_trans (Nat.le_of_eq (by omega)) (lwC_up (a := 0) (v := v) (k := k) rfl rfl (Nat.le_of_ble_eq_true rfl))) (Nat.le_trans (Nat.le_of_eq (by omega)) (lwS_up (a := 0) (v := v) (k := k) rfl rfl (Nat.le_of_ble_eq_true rfl)))
theorem lw_letter {p : Program} {l : Launch} {e : Env} {s : State} {m : MethodId} {below : List Frame} {meth : Method} {c : Code} {b Lx i : Nat} {xs : Nat → Int32} {G : GG} {o mo ou : Nat} {r : Nat → Nat} {L PC : List Nat} {D : Nat → Nat → Nat} {C9 : Nat → Nat} {f : Nat → va_E} {v : Nat → Int32} {A : Nat → Nat → Int32} {B : Nat → Nat → Int64} {k : KS} {H : Heap} {locs : List Loc} {ls : Array Slot} (C : CallFix p m c c_Law_law 7 s #[Value.ref b] bg "FleetFloorLaw") (hE : ev G (pgA [] s.heap.size) s s.heap) (hX : va_X b Lx xs s s.heap) (hbl : b < s.heap.size) (hL : Lx ≤ 2048) (hi : 4 * i + 4 ≤ Lx) (hI : LI G L f o (v, A, k) PC D C9 mo r v A B ou) (hJ : JI v A k) (hM : pgS G (pgA [] s.heap.size) s.heap L f H locs) (hl : lo ls (lwV b o mo ou i)) (kk : lwK p l e s m below meth c b G o mo r ou i) : W p l e room_1 s m #[Value.ref b] below meth c H locs (lwC i v k) (lwS i v k) (lw_Z below #[Value.ref b] s) (F0 m 310 ls []) := by
  have hbA : ¬ pgA [] s.heap.size b := fun z => z.elim (fun z => absurd z List.not_mem_nil) (fun z => absurd hbl (Nat.not_lt.mpr z))
  obtain ⟨hw1, hw2⟩ := lwC_le (i := i) (v := v) (k := k) (by omega) hJ.np
  have h3 := ids_ne hE
  refine lv_aload_n C.1 C.2.1 d_Law_law_310 rfl (lo_at hl 1 rfl) ?_
  refine lw_arg C hX hbl hbA hM.2.2.1 hl rfl rfl hi hL 1 (Nat.le_of_ble_eq_true rfl) (by decide) d_Law_law_311 d_Law_law_312 d_Law_law_314 d_Law_law_315 d_Law_law_316 ?_
  refine lw_arg C hX hbl hbA hM.2.2.1 hl rfl rfl hi hL 2 (Nat.le_of_ble_eq_true rfl) (by decide) d_Law_law_317 d_Law_law_318 d_Law_law_320 d_Law_law_321 d_Law_law_322 ?_
  refine cg_callVA C hE hM (ct_sub (k_FF_letter l G hI.1 hJ.n1.2 hJ.n1.1 _ _) hI.sub hI.2.2.1) hI.at.1 hI.at.2 rfl tw_137 cy_FF_letter ⟨(Nat.le_of_ble_eq_true rfl), (Nat.le_of_ble_eq_true rfl)⟩ rfl hl.1 rfl (Nat.le_of_ble_eq_true rfl) ⟨by show _ ≤ 601024; omega, by show _ ≤ 7293034; omega⟩ d_Law_law_323 (fun x9 N1 L1 f2 H1 locs1 hL1 hp hM => ?_)
  obtain ⟨f1, ⟨hN1, hx9, hf1⟩, h1, h2⟩ := hp
  subst hx9
  have hS : cS G (PC ++ N1) f1 o D C9 (v, A, k) := by rw [hN1, List.append_nil, hf1]; exact hI.1
  have hnd := va_D.nd hM.2.1
  rw [hL1] at hnd
  have hI := hI.cls h3 hnd h1 h2 hS
  rw [← hL1] at hI
  refine W.eq (g2 := F0 m 326 ls [_]) rfl ?_
  refine lv_aload_n C.1 C.2.1 d_Law_law_326 rfl (lo_at hl 2 rfl) ?_
  refine lw_arg C hX hbl hbA hM.2.2.1 hl rfl rfl hi hL 1 (Nat.le_of_ble_eq_true rfl) (by decide) d_Law_law_327 d_Law_law_328 d_Law_law_330 d_Law_law_331 d_Law_law_332 ?_
  refine lw_arg C hX hbl hbA hM.2.2.1 hl rfl rfl hi hL 2 (Nat.le_of_ble_eq_true rfl) (by decide) d_Law_law_333 d_Law_law_334 d_Law_law_336 d_Law_law_337 d_Law_law_338 ?_
  refine cg_callVA C hE hM (k_Mod_letter l G mo r v A B _ _ hJ.n1.2 hJ.n1.1 _ _ hI.2.1) hI.2.1.1.1 hI.2.1.2.2.1.1 rfl tw_942 cy_Mod_letter ⟨(Nat.le_of_ble_eq_true rfl), (Nat.le_of_ble_eq_true rfl)⟩ rfl hl.1 rfl (Nat.le_of_ble_eq_true rfl) ⟨by show _ ≤ 601024; omega, by show _ ≤ 7293034; omega⟩ d_Law_law_339 (fun x9 N2 L2 f3 H1 locs1 hL2 hp hM => ?_)
  obtain ⟨hN2, v', A', B', ⟨hx9, hv', hA', hB'⟩, hm⟩ := hp
  subst hx9
  rw [hN2, List.append_nil] at hL2
  rw [hL2] at hM
  have hI := hI.mod h3 hm
  refine W.eq (g2 := F0 m 342 ls [_, _]) rfl ?_
  refine lv_icmp_eq (tgt := 570) C.1 C.2.1 d_Law_law_342 (by decide) (fun _ => ?_) (fun h => False.elim (h rfl))
  rw [hv', hA'] at hI
  exact lw_go kk hI (hJ.v0 0) (eqC_0 v A 0) rfl rfl rfl rfl rfl hM hl (Nat.le_trans (Nat.le_of_eq (by omega)) (lwC_up (a := 0) (v := v) (k := k) rfl rfl (Nat.le_of_ble_eq_true rfl))) (Nat.le_trans (Nat.le_of_eq (by omega)) (lwS_up (a := 0) (v := v) (k := k) rfl rfl (Nat.le_of_ble_eq_true rfl)))
theorem lw_deliver {p : Program} {l : Launch} {e : Env} {s : State} {m : MethodId} {below : List Frame} {meth : Method} {c : Code} {b Lx i : Nat} {xs : Nat → Int32} {G : GG} {o mo ou : Nat} {r : Nat → Nat} {L PC : List Nat} {D : Nat → Nat → Nat} {C9 : Nat → Nat} {f : Nat → va_E} {v : Nat → Int32} {A : Nat → Nat → Int32} {B : Nat → Nat → Int64} {k : KS} {H : Heap} {locs : List Loc} {ls : Array Slot} (C : CallFix p m c c_Law_law 7 s #[Value.ref b] bg "FleetFloorLaw") (hE : ev G (pgA [] s.heap.size) s s.heap) (hX : va_X b Lx xs s s.heap) (hbl : b < s.heap.size) (hL : Lx ≤ 2048) (hi : 4 * i + 4 ≤ Lx) (hI : LI G L f o (v, A, k) PC D C9 mo r v A B ou) (hJ : JI v A k) (hM : pgS G (pgA [] s.heap.size) s.heap L f H locs) (hl : lo ls (lwV b o mo ou i)) (kk : lwK p l e s m below meth c b G o mo r ou i) : W p l e room_1 s m #[Value.ref b] below meth c H locs (lwC i v k) (lwS i v k) (lw_Z below #[Value.ref b] s) (F0 m 347 ls []) := by
  have hbA : ¬ pgA [] s.heap.size b := fun z => z.elim (fun z => absurd z List.not_mem_nil) (fun z => absurd hbl (Nat.not_lt.mpr z))
  obtain ⟨hw1, hw2⟩ := lwC_le (i := i) (v := v) (k := k) (by omega) hJ.np
  have h3 := ids_ne hE
  refine lv_aload_n C.1 C.2.1 d_Law_law_347 rfl (lo_at hl 1 rfl) ?_
  refine lw_arg C hX hbl hbA hM.2.2.1 hl rfl rfl hi hL 1 (Nat.le_of_ble_eq_true rfl) (by decide) d_Law_law_348 d_Law_law_349 d_Law_law_351 d_Law_law_352 d_Law_law_353 ?_
  refine cg_callVA C hE hM (ct_sub (k_FF_deliver l G hI.1 hJ _) hI.sub hI.2.2.1) hI.at.1 hI.at.2 rfl tw_172 cy_FF_deliver ⟨(Nat.le_of_ble_eq_true rfl), (Nat.le_of_ble_eq_true rfl)⟩ rfl hl.1 rfl (Nat.le_of_ble_eq_true rfl) ⟨by show _ ≤ 601024; omega, by show _ ≤ 7293034; omega⟩ d_Law_law_354 (fun x9 N1 L1 f2 H1 locs1 hL1 hp hM => ?_)
  obtain ⟨f1, ⟨hN1, hx9, D1, C1, hS0⟩, h1, h2⟩ := hp
  subst hx9
  have hS := hS0.nilN hN1
  have hnd := va_D.nd hM.2.1
  rw [hL1] at hnd
  have hI := hI.cls h3 hnd h1 h2 hS
  rw [← hL1] at hI
  refine W.eq (g2 := F0 m 357 ls [_]) rfl ?_
  refine lv_aload_n C.1 C.2.1 d_Law_law_357 rfl (lo_at hl 2 rfl) ?_
  refine lw_arg C hX hbl hbA hM.2.2.1 hl rfl rfl hi hL 1 (Nat.le_of_ble_eq_true rfl) (by decide) d_Law_law_358 d_Law_law_359 d_Law_law_361 d_Law_law_362 d_Law_law_363 ?_
  refine cg_callVA C hE hM (k_Mod_deliver l G mo r v A B _ hJ.n1.2 hJ.n1.1 (lw_J_33 hJ) _ _ hI.2.1) hI.2.1.1.1 hI.2.1.2.2.1.1 rfl tw_950 cy_Mod_deliver ⟨(Nat.le_of_ble_eq_true rfl), (Nat.le_of_ble_eq_true rfl)⟩ rfl hl.1 rfl (Nat.le_of_ble_eq_true rfl) ⟨by show _ ≤ 601024; omega, by show _ ≤ 7293034; omega⟩ d_Law_law_364 (fun x9 N2 L2 f3 H1 locs1 hL2 hp hM => ?_)
  obtain ⟨hN2, v', A', B', ⟨hx9, hv', hA', hB'⟩, hm⟩ := hp
  subst hx9
  rw [hN2, List.append_nil] at hL2
  rw [hL2] at hM
  have hI := hI.mod h3 hm
  refine W.eq (g2 := F0 m 367 ls [_, _]) rfl ?_
  refine lv_icmp_eq (tgt := 570) C.1 C.2.1 d_Law_law_367 (by decide) (fun _ => ?_) (fun h => False.elim (h rfl))
  by_cases hq : isLt v (xs (4 * i + 1))
  · rw [if_pos hq] at hA' hv'
    rw [show (if isLt (TS.v (v, A, k)) (xs (4 * i + 1)) then _ else _) = _ from if_pos hq] at hI
    rw [hv', hA'] at hI
    obtain ⟨k', hJ', e1, e2, e3, e4, e5⟩ := lw_J_dlv hJ hq
    exact lw_go kk hI hJ' ((eqC_0 v _ 0).updV 31 rfl) e1 e2 e3 e4 e5 hM hl (Nat.le_trans (Nat.le_of_eq (by omega)) (lwC_up (a := 0) (v := v) (k := k) rfl (by rw [e1]; rfl) (Nat.le_of_ble_eq_true rfl))) (Nat.le_trans (Nat.le_of_eq (by omega)) (lwS_up (a := 0) (v := v) (k := k) rfl (by rw [e1]; rfl) (Nat.le_of_ble_eq_true rfl)))
  · rw [if_neg hq] at hA' hv'
    rw [show (if isLt (TS.v (v, A, k)) (xs (4 * i + 1)) then _ else _) = _ from if_neg hq] at hI
    rw [hv', hA'] at hI
    exact lw_go kk hI (hJ.v0 0) (eqC_0 v A 0) rfl rfl rfl rfl rfl hM hl (Nat.le_trans (Nat.le_of_eq (by omega)) (lwC_up (a := 0) (v := v) (k := k) rfl rfl (Nat.le_of_ble_eq_true rfl))) (Nat.le_trans (Nat.le_of_eq (by omega)) (lwS_up (a := 0) (v := v) (k := k) rfl rfl (Nat.le_of_ble_eq_true rfl)))
theorem lw_lose {p : Program} {l : Launch} {e : Env} {s : State} {m : MethodId} {below : List Frame} {meth : Method} {c : Code} {b Lx i : Nat} {xs : Nat → Int32} {G : GG} {o mo ou : Nat} {r : Nat → Nat} {L PC : List Nat} {D : Nat → Nat → Nat} {C9 : Nat → Nat} {f : Nat → va_E} {v : Nat → Int32} {A : Nat → Nat → Int32} {B : Nat → Nat → Int64} {k : KS} {H : Heap} {locs : List Loc} {ls : Array Slot} (C : CallFix p m c c_Law_law 7 s #[Value.ref b] bg "FleetFloorLaw") (hE : ev G (pgA [] s.heap.size) s s.heap) (hX : va_X b Lx xs s s.heap) (hbl : b < s.heap.size) (hL : Lx ≤ 2048) (hi : 4 * i + 4 ≤ Lx) (hI : LI G L f o (v, A, k) PC D C9 mo r v A B ou) (hJ : JI v A k) (hM : pgS G (pgA [] s.heap.size) s.heap L f H locs) (hl : lo ls (lwV b o mo ou i)) (kk : lwK p l e s m below meth c b G o mo r ou i) : W p l e room_1 s m #[Value.ref b] below meth c H locs (lwC i v k) (lwS i v k) (lw_Z below #[Value.ref b] s) (F0 m 372 ls []) := by
  have hbA : ¬ pgA [] s.heap.size b := fun z => z.elim (fun z => absurd z List.not_mem_nil) (fun z => absurd hbl (Nat.not_lt.mpr z))
  obtain ⟨hw1, hw2⟩ := lwC_le (i := i) (v := v) (k := k) (by omega) hJ.np
  have h3 := ids_ne hE
  refine lv_aload_n C.1 C.2.1 d_Law_law_372 rfl (lo_at hl 1 rfl) ?_
  refine lw_arg C hX hbl hbA hM.2.2.1 hl rfl rfl hi hL 1 (Nat.le_of_ble_eq_true rfl) (by decide) d_Law_law_373 d_Law_law_374 d_Law_law_376 d_Law_law_377 d_Law_law_378 ?_
  refine cg_callVA C hE hM (ct_sub (k_FF_lose l G hI.1 hJ.n1.2 hJ.n1.1 _) hI.sub hI.2.2.1) hI.at.1 hI.at.2 rfl tw_204 cy_FF_lose ⟨(Nat.le_of_ble_eq_true rfl), (Nat.le_of_ble_eq_true rfl)⟩ rfl hl.1 rfl (Nat.le_of_ble_eq_true rfl) ⟨by show _ ≤ 601024; omega, by show _ ≤ 7293034; omega⟩ d_Law_law_379 (fun x9 N1 L1 f2 H1 locs1 hL1 hp hM => ?_)
  obtain ⟨f1, ⟨hN1, hx9, D1, C1, hS0⟩, h1, h2⟩ := hp
  subst hx9
  have hS := hS0.nilN hN1
  have hnd := va_D.nd hM.2.1
  rw [hL1] at hnd
  have hI := hI.cls h3 hnd h1 h2 hS
  rw [← hL1] at hI
  refine W.eq (g2 := F0 m 382 ls [_]) rfl ?_
  refine lv_aload_n C.1 C.2.1 d_Law_law_382 rfl (lo_at hl 2 rfl) ?_
  refine lw_arg C hX hbl hbA hM.2.2.1 hl rfl rfl hi hL 1 (Nat.le_of_ble_eq_true rfl) (by decide) d_Law_law_383 d_Law_law_384 d_Law_law_386 d_Law_law_387 d_Law_law_388 ?_
  refine cg_callVA C hE hM (k_Mod_lose l G mo r v A B _ hJ.n1.2 hJ.n1.1 _ _ hI.2.1) hI.2.1.1.1 hI.2.1.2.2.1.1 rfl tw_958 cy_Mod_lose ⟨(Nat.le_of_ble_eq_true rfl), (Nat.le_of_ble_eq_true rfl)⟩ rfl hl.1 rfl (Nat.le_of_ble_eq_true rfl) ⟨by show _ ≤ 601024; omega, by show _ ≤ 7293034; omega⟩ d_Law_law_389 (fun x9 N2 L2 f3 H1 locs1 hL2 hp hM => ?_)
  obtain ⟨hN2, v', A', B', ⟨hx9, hv', hA', hB'⟩, hm⟩ := hp
  subst hx9
  rw [hN2, List.append_nil] at hL2
  rw [hL2] at hM
  have hI := hI.mod h3 hm
  refine W.eq (g2 := F0 m 392 ls [_, _]) rfl ?_
  refine lv_icmp_eq (tgt := 570) C.1 C.2.1 d_Law_law_392 (by decide) (fun _ => ?_) (fun h => False.elim (h rfl))
  by_cases hq : isLt v (xs (4 * i + 1))
  · rw [if_pos hq] at hA' hv'
    rw [show (if isLt (TS.v (v, A, k)) (xs (4 * i + 1)) then _ else _) = _ from if_pos hq] at hI
    rw [hv', hA'] at hI
    exact lw_go kk hI (lw_J_rem hJ hq) ((eqC_0 v _ 0).updV 31 rfl) rfl rfl rfl rfl rfl hM hl (Nat.le_trans (Nat.le_of_eq (by omega)) (lwC_up (a := 0) (v := v) (k := k) rfl rfl (Nat.le_of_ble_eq_true rfl))) (Nat.le_trans (Nat.le_of_eq (by omega)) (lwS_up (a := 0) (v := v) (k := k) rfl rfl (Nat.le_of_ble_eq_true rfl)))
  · rw [if_neg hq] at hA' hv'
    rw [show (if isLt (TS.v (v, A, k)) (xs (4 * i + 1)) then _ else _) = _ from if_neg hq] at hI
    rw [hv', hA'] at hI
    exact lw_go kk hI (hJ.v0 0) (eqC_0 v A 0) rfl rfl rfl rfl rfl hM hl (Nat.le_trans (Nat.le_of_eq (by omega)) (lwC_up (a := 0) (v := v) (k := k) rfl rfl (Nat.le_of_ble_eq_true rfl))) (Nat.le_trans (Nat.le_of_eq (by omega)) (lwS_up (a := 0) (v := v) (k := k) rfl rfl (Nat.le_of_ble_eq_true rfl)))
theorem lw_twin {p : Program} {l : Launch} {e : Env} {s : State} {m : MethodId} {below : List Frame} {meth : Method} {c : Code} {b Lx i : Nat} {xs : Nat → Int32} {G : GG} {o mo ou : Nat} {r : Nat → Nat} {L PC : List Nat} {D : Nat → Nat → Nat} {C9 : Nat → Nat} {f : Nat → va_E} {v : Nat → Int32} {A : Nat → Nat → Int32} {B : Nat → Nat → Int64} {k : KS} {H : Heap} {locs : List Loc} {ls : Array Slot} (C : CallFix p m c c_Law_law 7 s #[Value.ref b] bg "FleetFloorLaw") (hE : ev G (pgA [] s.heap.size) s s.heap) (hX : va_X b Lx xs s s.heap) (hbl : b < s.heap.size) (hL : Lx ≤ 2048) (hi : 4 * i + 4 ≤ Lx) (hI : LI G L f o (v, A, k) PC D C9 mo r v A B ou) (hJ : JI v A k) (hM : pgS G (pgA [] s.heap.size) s.heap L f H locs) (hl : lo ls (lwV b o mo ou i)) (kk : lwK p l e s m below meth c b G o mo r ou i) : W p l e room_1 s m #[Value.ref b] below meth c H locs (lwC i v k) (lwS i v k) (lw_Z below #[Value.ref b] s) (F0 m 397 ls []) := by
  have hbA : ¬ pgA [] s.heap.size b := fun z => z.elim (fun z => absurd z List.not_mem_nil) (fun z => absurd hbl (Nat.not_lt.mpr z))
  obtain ⟨hw1, hw2⟩ := lwC_le (i := i) (v := v) (k := k) (by omega) hJ.np
  have h3 := ids_ne hE
  refine lv_aload_n C.1 C.2.1 d_Law_law_397 rfl (lo_at hl 1 rfl) ?_
  refine lw_arg C hX hbl hbA hM.2.2.1 hl rfl rfl hi hL 1 (Nat.le_of_ble_eq_true rfl) (by decide) d_Law_law_398 d_Law_law_399 d_Law_law_401 d_Law_law_402 d_Law_law_403 ?_
  refine cg_callVA C hE hM (ct_sub (k_FF_twin l G hI.1 hJ.n1.2 hJ.n1.1 _) hI.sub hI.2.2.1) hI.at.1 hI.at.2 rfl tw_208 cy_FF_twin ⟨(Nat.le_of_ble_eq_true rfl), (Nat.le_of_ble_eq_true rfl)⟩ rfl hl.1 rfl (Nat.le_of_ble_eq_true rfl) ⟨by show _ ≤ 601024; omega, by show _ ≤ 7293034; omega⟩ d_Law_law_404 (fun x9 N1 L1 f2 H1 locs1 hL1 hp hM => ?_)
  obtain ⟨f1, ⟨hx9, -, D1, C1, hS⟩, h1, h2⟩ := hp
  subst hx9
  have hnd := va_D.nd hM.2.1
  rw [hL1] at hnd
  have hI := hI.cls h3 hnd h1 h2 hS
  rw [← hL1] at hI
  refine W.eq (g2 := F0 m 407 ls [_]) rfl ?_
  refine lv_aload_n C.1 C.2.1 d_Law_law_407 rfl (lo_at hl 2 rfl) ?_
  refine lw_arg C hX hbl hbA hM.2.2.1 hl rfl rfl hi hL 1 (Nat.le_of_ble_eq_true rfl) (by decide) d_Law_law_408 d_Law_law_409 d_Law_law_411 d_Law_law_412 d_Law_law_413 ?_
  refine cg_callVA C hE hM (k_Mod_twin l G mo r v A B _ hJ.n1.2 hJ.n1.1 _ _ hI.2.1) hI.2.1.1.1 hI.2.1.2.2.1.1 rfl tw_962 cy_Mod_twin ⟨(Nat.le_of_ble_eq_true rfl), (Nat.le_of_ble_eq_true rfl)⟩ rfl hl.1 rfl (Nat.le_of_ble_eq_true rfl) ⟨by show _ ≤ 601024; omega, by show _ ≤ 7293034; omega⟩ d_Law_law_414 (fun x9 N2 L2 f3 H1 locs1 hL2 hp hM => ?_)
  obtain ⟨hN2, v', A', B', ⟨hx9, hv', hA', hB'⟩, hm⟩ := hp
  subst hx9
  rw [hN2, List.append_nil] at hL2
  rw [hL2] at hM
  have hI := hI.mod h3 hm
  refine W.eq (g2 := F0 m 417 ls [_, _]) rfl ?_
  refine lv_icmp_eq (tgt := 570) C.1 C.2.1 d_Law_law_417 (by decide) (fun _ => ?_) (fun h => False.elim (h rfl))
  by_cases hq : isLt v (xs (4 * i + 1)) ∧ ¬ v 31 = 60
  · rw [if_pos hq] at hA' hv'
    rw [show (if isLt (TS.v (v, A, k)) (xs (4 * i + 1)) ∧ ¬ TS.v (v, A, k) 31 = 60 then _ else _) = _ from if_pos hq] at hI
    rw [hv', hA'] at hI
    exact lw_go kk hI (lw_J_snd hJ hq.1) ((eqC_0 v A 0).snd _ _ _) rfl rfl rfl rfl rfl hM hl (Nat.le_trans (Nat.le_of_eq (by omega)) (lwC_up (a := 1) (v := v) (k := k) (lw_snd1 v) rfl (Nat.le_of_ble_eq_true rfl))) (Nat.le_trans (Nat.le_of_eq (by omega)) (lwS_up (a := 272) (v := v) (k := k) (lw_snd1 v) rfl (Nat.le_of_ble_eq_true rfl)))
  · rw [if_neg hq] at hA' hv'
    rw [show (if isLt (TS.v (v, A, k)) (xs (4 * i + 1)) ∧ ¬ TS.v (v, A, k) 31 = 60 then _ else _) = _ from if_neg hq] at hI
    rw [hv', hA'] at hI
    exact lw_go kk hI (hJ.v0 0) (eqC_0 v A 0) rfl rfl rfl rfl rfl hM hl (Nat.le_trans (Nat.le_of_eq (by omega)) (lwC_up (a := 1) (v := v) (k := k) rfl rfl (Nat.le_of_ble_eq_true rfl))) (Nat.le_trans (Nat.le_of_eq (by omega)) (lwS_up (a := 272) (v := v) (k := k) rfl rfl (Nat.le_of_ble_eq_true rfl)))
theorem lw_vehicle {p : Program} {l : Launch} {e : Env} {s : State} {m : MethodId} {below : List Frame} {meth : Method} {c : Code} {b Lx i : Nat} {xs : Nat → Int32} {G : GG} {o mo ou : Nat} {r : Nat → Nat} {L PC : List Nat} {D : Nat → Nat → Nat} {C9 : Nat → Nat} {f : Nat → va_E} {v : Nat → Int32} {A : Nat → Nat → Int32} {B : Nat → Nat → Int64} {k : KS} {H : Heap} {locs : List Loc} {ls : Array Slot} (C : CallFix p m c c_Law_law 7 s #[Value.ref b] bg "FleetFloorLaw") (hE : ev G (pgA [] s.heap.size) s s.heap) (hX : va_X b Lx xs s s.heap) (hbl : b < s.heap.size) (hL : Lx ≤ 2048) (hi : 4 * i + 4 ≤ Lx) (hI : LI G L f o (v, A, k) PC D C9 mo r v A B ou) (hJ : JI v A k) (hM : pgS G (pgA [] s.heap.size) s.heap L f H locs) (hl : lo ls (lwV b o mo ou i)) (kk : lwK p l e s m below meth c b G o mo r ou i) : W p l e room_1 s m #[Value.ref b] below meth c H locs (lwC i v k) (lwS i v k) (lw_Z below #[Value.ref b] s) (F0 m 422 ls []) := by
  have hbA : ¬ pgA [] s.heap.size b := fun z => z.elim (fun z => absurd z List.not_mem_nil) (fun z => absurd hbl (Nat.not_lt.mpr z))
  obtain ⟨hw1, hw2⟩ := lwC_le (i := i) (v := v) (k := k) (by omega) hJ.np
  have h3 := ids_ne hE
  refine lv_aload_n C.1 C.2.1 d_Law_law_422 rfl (lo_at hl 1 rfl) ?_
  refine lw_arg C hX hbl hbA hM.2.2.1 hl rfl rfl hi hL 1 (Nat.le_of_ble_eq_true rfl) (by decide) d_Law_law_423 d_Law_law_424 d_Law_law_426 d_Law_law_427 d_Law_law_428 ?_
  refine lw_arg C hX hbl hbA hM.2.2.1 hl rfl rfl hi hL 2 (Nat.le_of_ble_eq_true rfl) (by decide) d_Law_law_429 d_Law_law_430 d_Law_law_432 d_Law_law_433 d_Law_law_434 ?_
  refine cg_callVA C hE hM (ct_sub (k_FF_vehicle l G hI.1 hJ _ _) hI.sub hI.2.2.1) hI.at.1 hI.at.2 rfl tw_272 cy_FF_vehicle ⟨(Nat.le_of_ble_eq_true rfl), (Nat.le_of_ble_eq_true rfl)⟩ rfl hl.1 rfl (Nat.le_of_ble_eq_true rfl) ⟨by show _ ≤ 601024; omega, by show _ ≤ 7293034; omega⟩ d_Law_law_435 (fun x9 N1 L1 f2 H1 locs1 hL1 hp hM => ?_)
  obtain ⟨f1, ⟨hN1, hx9, hf1⟩, h1, h2⟩ := hp
  subst hx9
  have hS : cS G (PC ++ N1) f1 o D C9 (v, A, k) := by rw [hN1, List.append_nil, hf1]; exact hI.1
  have hnd := va_D.nd hM.2.1
  rw [hL1] at hnd
  have hI := hI.cls h3 hnd h1 h2 hS
  rw [← hL1] at hI
  refine W.eq (g2 := F0 m 438 ls [_]) rfl ?_
  refine lv_aload_n C.1 C.2.1 d_Law_law_438 rfl (lo_at hl 2 rfl) ?_
  refine lw_arg C hX hbl hbA hM.2.2.1 hl rfl rfl hi hL 1 (Nat.le_of_ble_eq_true rfl) (by decide) d_Law_law_439 d_Law_law_440 d_Law_law_442 d_Law_law_443 d_Law_law_444 ?_
  refine lw_arg C hX hbl hbA hM.2.2.1 hl rfl rfl hi hL 2 (Nat.le_of_ble_eq_true rfl) (by decide) d_Law_law_445 d_Law_law_446 d_Law_law_448 d_Law_law_449 d_Law_law_450 ?_
  refine cg_callVA C hE hM (k_Mod_vehicle l G mo r v A B _ _ hJ.n0.2 hJ.n0.1 _ _ hI.2.1) hI.2.1.1.1 hI.2.1.2.2.1.1 rfl tw_1053 cy_Mod_vehicle ⟨(Nat.le_of_ble_eq_true rfl), (Nat.le_of_ble_eq_true rfl)⟩ rfl hl.1 rfl (Nat.le_of_ble_eq_true rfl) ⟨by show _ ≤ 601024; omega, by show _ ≤ 7293034; omega⟩ d_Law_law_451 (fun x9 N2 L2 f3 H1 locs1 hL2 hp hM => ?_)
  obtain ⟨hN2, v', A', B', ⟨hx9, hv', hA', hB'⟩, hm⟩ := hp
  subst hx9
  rw [hN2, List.append_nil] at hL2
  rw [hL2] at hM
  have hI := hI.mod h3 hm
  refine W.eq (g2 := F0 m 454 ls [_, _]) rfl ?_
  refine lv_icmp_eq (tgt := 570) C.1 C.2.1 d_Law_law_454 (by decide) (fun _ => ?_) (fun h => False.elim (h rfl))
  rw [hv', hA'] at hI
  exact lw_go kk hI (hJ.v0 0) (eqC_0 v A 0) rfl rfl rfl rfl rfl hM hl (Nat.le_trans (Nat.le_of_eq (by omega)) (lwC_up (a := 0) (v := v) (k := k) rfl rfl (Nat.le_of_ble_eq_true rfl))) (Nat.le_trans (Nat.le_of_eq (by omega)) (lwS_up (a := 0) (v := v) (k := k) rfl rfl (Nat.le_of_ble_eq_true rfl)))
theorem lw_move {p : Program} {l : Launch} {e : Env} {s : State} {m : MethodId} {below : List Frame} {meth : Method} {c : Code} {b Lx i : Nat} {xs : Nat → Int32} {G : GG} {o mo ou : Nat} {r : Nat → Nat} {L PC : List Nat} {D : Nat → Nat → Nat} {C9 : Nat → Nat} {f : Nat → va_E} {v : Nat → Int32} {A : Nat → Nat → Int32} {B : Nat → Nat → Int64} {k : KS} {H : Heap} {locs : List Loc} {ls : Array Slot} (C : CallFix p m c c_Law_law 7 s #[Value.ref b] bg "FleetFloorLaw") (hE : ev G (pgA [] s.heap.size) s s.heap) (hX : va_X b Lx xs s s.heap) (hbl : b < s.heap.size) (hL : Lx ≤ 2048) (hi : 4 * i + 4 ≤ Lx) (hI : LI G L f o (v, A, k) PC D C9 mo r v A B ou) (hJ : JI v A k) (hM : pgS G (pgA [] s.heap.size) s.heap L f H locs) (hl : lo ls (lwV b o mo ou i)) (kk : lwK p l e s m below meth c b G o mo r ou i) : W p l e room_1 s m #[Value.ref b] below meth c H locs (lwC i v k) (lwS i v k) (lw_Z below #[Value.ref b] s) (F0 m 459 ls []) := by
  have hbA : ¬ pgA [] s.heap.size b := fun z => z.elim (fun z => absurd z List.not_mem_nil) (fun z => absurd hbl (Nat.not_lt.mpr z))
  obtain ⟨hw1, hw2⟩ := lwC_le (i := i) (v := v) (k := k) (by omega) hJ.np
  have h3 := ids_ne hE
  refine lv_aload_n C.1 C.2.1 d_Law_law_459 rfl (lo_at hl 1 rfl) ?_
  refine lw_arg C hX hbl hbA hM.2.2.1 hl rfl rfl hi hL 1 (Nat.le_of_ble_eq_true rfl) (by decide) d_Law_law_460 d_Law_law_461 d_Law_law_463 d_Law_law_464 d_Law_law_465 ?_
  refine lw_arg C hX hbl hbA hM.2.2.1 hl rfl rfl hi hL 2 (Nat.le_of_ble_eq_true rfl) (by decide) d_Law_law_466 d_Law_law_467 d_Law_law_469 d_Law_law_470 d_Law_law_471 ?_
  refine lw_arg C hX hbl hbA hM.2.2.1 hl rfl rfl hi hL 3 (Nat.le_of_ble_eq_true rfl) (by decide) d_Law_law_472 d_Law_law_473 d_Law_law_475 d_Law_law_476 d_Law_law_477 ?_
  refine cg_callVA C hE hM (ct_sub (k_FF_move l G hI.1 hJ _ _ _) hI.sub hI.2.2.1) hI.at.1 hI.at.2 rfl tw_288 cy_FF_move ⟨(Nat.le_of_ble_eq_true rfl), (Nat.le_of_ble_eq_true rfl)⟩ rfl hl.1 rfl (Nat.le_of_ble_eq_true rfl) ⟨by show _ ≤ 601024; omega, by show _ ≤ 7293034; omega⟩ d_Law_law_478 (fun x9 N1 L1 f2 H1 locs1 hL1 hp hM => ?_)
  obtain ⟨f1, ⟨hN1, hx9, hf1⟩, h1, h2⟩ := hp
  subst hx9
  have hS : cS G (PC ++ N1) f1 o D C9 (v, A, k) := by rw [hN1, List.append_nil, hf1]; exact hI.1
  have hnd := va_D.nd hM.2.1
  rw [hL1] at hnd
  have hI := hI.cls h3 hnd h1 h2 hS
  rw [← hL1] at hI
  refine W.eq (g2 := F0 m 481 ls [_]) rfl ?_
  refine lv_aload_n C.1 C.2.1 d_Law_law_481 rfl (lo_at hl 2 rfl) ?_
  refine lw_arg C hX hbl hbA hM.2.2.1 hl rfl rfl hi hL 1 (Nat.le_of_ble_eq_true rfl) (by decide) d_Law_law_482 d_Law_law_483 d_Law_law_485 d_Law_law_486 d_Law_law_487 ?_
  refine lw_arg C hX hbl hbA hM.2.2.1 hl rfl rfl hi hL 2 (Nat.le_of_ble_eq_true rfl) (by decide) d_Law_law_488 d_Law_law_489 d_Law_law_491 d_Law_law_492 d_Law_law_493 ?_
  refine lw_arg C hX hbl hbA hM.2.2.1 hl rfl rfl hi hL 3 (Nat.le_of_ble_eq_true rfl) (by decide) d_Law_law_494 d_Law_law_495 d_Law_law_497 d_Law_law_498 d_Law_law_499 ?_
  refine cg_callVA C hE hM (k_Mod_move l G mo r v A B _ _ _ hJ.n0.2 hJ.n0.1 hJ.np hJ.n4.1 (lw_J_mov hJ) _ _ hI.2.1) hI.2.1.1.1 hI.2.1.2.2.1.1 rfl tw_1057 cy_Mod_move ⟨(Nat.le_of_ble_eq_true rfl), (Nat.le_of_ble_eq_true rfl)⟩ rfl hl.1 rfl (Nat.le_of_ble_eq_true rfl) ⟨by show _ ≤ 601024; omega, by show _ ≤ 7293034; omega⟩ d_Law_law_500 (fun x9 N2 L2 f3 H1 locs1 hL2 hp hM => ?_)
  obtain ⟨hN2, v', A', B', ⟨hx9, hv', hA', hB'⟩, hm⟩ := hp
  subst hx9
  rw [hN2, List.append_nil] at hL2
  rw [hL2] at hM
  have hI := hI.mod h3 hm
  refine W.eq (g2 := F0 m 503 ls [_, _]) rfl ?_
  refine lv_icmp_eq (tgt := 570) C.1 C.2.1 d_Law_law_503 (by decide) (fun _ => ?_) (fun h => False.elim (h rfl))
  rw [hv', hA'] at hI
  exact lw_go kk hI (hJ.v0 0) (eqC_0 v A 0) rfl rfl rfl rfl rfl hM hl (Nat.le_trans (Nat.le_of_eq (by omega)) (lwC_up (a := 0) (v := v) (k := k) rfl rfl (Nat.le_of_ble_eq_true rfl))) (Nat.le_trans (Nat.le_of_eq (by omega)) (lwS_up (a := 0) (v := v) (k := k) rfl rfl (Nat.le_of_ble_eq_true rfl)))
theorem lw_taskOf {p : Program} {l : Launch} {e : Env} {s : State} {m : MethodId} {below : List Frame} {meth : Method} {c : Code} {b Lx i : Nat} {xs : Nat → Int32} {G : GG} {o mo ou : Nat} {r : Nat → Nat} {L PC : List Nat} {D : Nat → Nat → Nat} {C9 : Nat → Nat} {f : Nat → va_E} {v : Nat → Int32} {A : Nat → Nat → Int32} {B : Nat → Nat → Int64} {k : KS} {H : Heap} {locs : List Loc} {ls : Array Slot} (C : CallFix p m c c_Law_law 7 s #[Value.ref b] bg "FleetFloorLaw") (hE : ev G (pgA [] s.heap.size) s s.heap) (hX : va_X b Lx xs s s.heap) (hbl : b < s.heap.size) (hL : Lx ≤ 2048) (hi : 4 * i + 4 ≤ Lx) (hI : LI G L f o (v, A, k) PC D C9 mo r v A B ou) (hJ : JI v A k) (hM : pgS G (pgA [] s.heap.size) s.heap L f H locs) (hl : lo ls (lwV b o mo ou i)) (kk : lwK p l e s m below meth c b G o mo r ou i) : W p l e room_1 s m #[Value.ref b] below meth c H locs (lwC i v k) (lwS i v k) (lw_Z below #[Value.ref b] s) (F0 m 508 ls []) := by
  have hbA : ¬ pgA [] s.heap.size b := fun z => z.elim (fun z => absurd z List.not_mem_nil) (fun z => absurd hbl (Nat.not_lt.mpr z))
  obtain ⟨hw1, hw2⟩ := lwC_le (i := i) (v := v) (k := k) (by omega) hJ.np
  have h3 := ids_ne hE
  refine lv_aload_n C.1 C.2.1 d_Law_law_508 rfl (lo_at hl 1 rfl) ?_
  refine lw_arg C hX hbl hbA hM.2.2.1 hl rfl rfl hi hL 1 (Nat.le_of_ble_eq_true rfl) (by decide) d_Law_law_509 d_Law_law_510 d_Law_law_512 d_Law_law_513 d_Law_law_514 ?_
  refine lw_arg C hX hbl hbA hM.2.2.1 hl rfl rfl hi hL 2 (Nat.le_of_ble_eq_true rfl) (by decide) d_Law_law_515 d_Law_law_516 d_Law_law_518 d_Law_law_519 d_Law_law_520 ?_
  refine cg_callVA C hE hM (ct_sub (k_FF_taskOf l G hI.1 hJ _ _) hI.sub hI.2.2.1) hI.at.1 hI.at.2 rfl tw_299 cy_FF_taskOf ⟨(Nat.le_of_ble_eq_true rfl), (Nat.le_of_ble_eq_true rfl)⟩ rfl hl.1 rfl (Nat.le_of_ble_eq_true rfl) ⟨by show _ ≤ 601024; omega, by show _ ≤ 7293034; omega⟩ d_Law_law_521 (fun x9 N1 L1 f2 H1 locs1 hL1 hp hM => ?_)
  obtain ⟨f1, ⟨hN1, hx9, hf1⟩, h1, h2⟩ := hp
  subst hx9
  have hS : cS G (PC ++ N1) f1 o D C9 (v, A, k) := by rw [hN1, List.append_nil, hf1]; exact hI.1
  have hnd := va_D.nd hM.2.1
  rw [hL1] at hnd
  have hI := hI.cls h3 hnd h1 h2 hS
  rw [← hL1] at hI
  refine W.eq (g2 := F0 m 524 ls [_]) rfl ?_
  refine lv_aload_n C.1 C.2.1 d_Law_law_524 rfl (lo_at hl 2 rfl) ?_
  refine lw_arg C hX hbl hbA hM.2.2.1 hl rfl rfl hi hL 1 (Nat.le_of_ble_eq_true rfl) (by decide) d_Law_law_525 d_Law_law_526 d_Law_law_528 d_Law_law_529 d_Law_law_530 ?_
  refine lw_arg C hX hbl hbA hM.2.2.1 hl rfl rfl hi hL 2 (Nat.le_of_ble_eq_true rfl) (by decide) d_Law_law_531 d_Law_law_532 d_Law_law_534 d_Law_law_535 d_Law_law_536 ?_
  refine cg_callVA C hE hM (k_Mod_taskOf l G mo r v A B _ _ hJ.n2.2 hJ.n2.1 _ _ hI.2.1) hI.2.1.1.1 hI.2.1.2.2.1.1 rfl tw_1061 cy_Mod_taskOf ⟨(Nat.le_of_ble_eq_true rfl), (Nat.le_of_ble_eq_true rfl)⟩ rfl hl.1 rfl (Nat.le_of_ble_eq_true rfl) ⟨by show _ ≤ 601024; omega, by show _ ≤ 7293034; omega⟩ d_Law_law_537 (fun x9 N2 L2 f3 H1 locs1 hL2 hp hM => ?_)
  obtain ⟨hN2, v', A', B', ⟨hx9, hv', hA', hB'⟩, hm⟩ := hp
  subst hx9
  rw [hN2, List.append_nil] at hL2
  rw [hL2] at hM
  have hI := hI.mod h3 hm
  refine W.eq (g2 := F0 m 540 ls [_, _]) rfl ?_
  refine lv_icmp_eq (tgt := 570) C.1 C.2.1 d_Law_law_540 (by decide) (fun _ => ?_) (fun h => False.elim (h rfl))
  rw [hv', hA'] at hI
  exact lw_go kk hI (hJ.v0 0) (eqC_0 v A 0) rfl rfl rfl rfl rfl hM hl (Nat.le_trans (Nat.le_of_eq (by omega)) (lwC_up (a := 0) (v := v) (k := k) rfl rfl (Nat.le_of_ble_eq_true rfl))) (Nat.le_trans (Nat.le_of_eq (by omega)) (lwS_up (a := 0) (v := v) (k := k) rfl rfl (Nat.le_of_ble_eq_true rfl)))
theorem lw_count {p : Program} {l : Launch} {e : Env} {s : State} {m : MethodId} {below : List Frame} {meth : Method} {c : Code} {b Lx i : Nat} {xs : Nat → Int32} {G : GG} {o mo ou : Nat} {r : Nat → Nat} {L PC : List Nat} {D : Nat → Nat → Nat} {C9 : Nat → Nat} {f : Nat → va_E} {v : Nat → Int32} {A : Nat → Nat → Int32} {B : Nat → Nat → Int64} {k : KS} {H : Heap} {locs : List Loc} {ls : Array Slot} (C : CallFix p m c c_Law_law 7 s #[Value.ref b] bg "FleetFloorLaw") (hE : ev G (pgA [] s.heap.size) s s.heap) (hX : va_X b Lx xs s s.heap) (hbl : b < s.heap.size) (hL : Lx ≤ 2048) (hi : 4 * i + 4 ≤ Lx) (hI : LI G L f o (v, A, k) PC D C9 mo r v A B ou) (hJ : JI v A k) (hM : pgS G (pgA [] s.heap.size) s.heap L f H locs) (hl : lo ls (lwV b o mo ou i)) (kk : lwK p l e s m below meth c b G o mo r ou i) : W p l e room_1 s m #[Value.ref b] below meth c H locs (lwC i v k) (lwS i v k) (lw_Z below #[Value.ref b] s) (F0 m 545 ls []) := by
  have hbA : ¬ pgA [] s.heap.size b := fun z => z.elim (fun z => absurd z List.not_mem_nil) (fun z => absurd hbl (Nat.not_lt.mpr z))
  obtain ⟨hw1, hw2⟩ := lwC_le (i := i) (v := v) (k := k) (by omega) hJ.np
  have h3 := ids_ne hE
  refine lv_aload_n C.1 C.2.1 d_Law_law_545 rfl (lo_at hl 1 rfl) ?_
  refine lw_arg C hX hbl hbA hM.2.2.1 hl rfl rfl hi hL 1 (Nat.le_of_ble_eq_true rfl) (by decide) d_Law_law_546 d_Law_law_547 d_Law_law_549 d_Law_law_550 d_Law_law_551 ?_
  refine cg_callVA C hE hM (ct_sub (k_FF_count l G hI.1 hJ _) hI.sub hI.2.2.1) hI.at.1 hI.at.2 rfl tw_304 cy_FF_count ⟨(Nat.le_of_ble_eq_true rfl), (Nat.le_of_ble_eq_true rfl)⟩ rfl hl.1 rfl (Nat.le_of_ble_eq_true rfl) ⟨by show _ ≤ 601024; omega, by show _ ≤ 7293034; omega⟩ d_Law_law_552 (fun x9 N1 L1 f2 H1 locs1 hL1 hp hM => ?_)
  obtain ⟨f1, ⟨hN1, hx9, hf1⟩, h1, h2⟩ := hp
  subst hx9
  have hS : cS G (PC ++ N1) f1 o D C9 (v, A, k) := by rw [hN1, List.append_nil, hf1]; exact hI.1
  have hnd := va_D.nd hM.2.1
  rw [hL1] at hnd
  have hI := hI.cls h3 hnd h1 h2 hS
  rw [← hL1] at hI
  refine W.eq (g2 := F0 m 555 ls [_]) rfl ?_
  refine lv_aload_n C.1 C.2.1 d_Law_law_555 rfl (lo_at hl 2 rfl) ?_
  refine lw_arg C hX hbl hbA hM.2.2.1 hl rfl rfl hi hL 1 (Nat.le_of_ble_eq_true rfl) (by decide) d_Law_law_556 d_Law_law_557 d_Law_law_559 d_Law_law_560 d_Law_law_561 ?_
  refine cg_callVA C hE hM (k_Mod_count l G mo r v A B _ _ _ hI.2.1) hI.2.1.1.1 hI.2.1.2.2.1.1 rfl tw_1065 cy_Mod_count ⟨(Nat.le_of_ble_eq_true rfl), (Nat.le_of_ble_eq_true rfl)⟩ rfl hl.1 rfl (Nat.le_of_ble_eq_true rfl) ⟨by show _ ≤ 601024; omega, by show _ ≤ 7293034; omega⟩ d_Law_law_562 (fun x9 N2 L2 f3 H1 locs1 hL2 hp hM => ?_)
  obtain ⟨hN2, v', A', B', ⟨hx9, hv', hA', hB'⟩, hm⟩ := hp
  subst hx9
  rw [hN2, List.append_nil] at hL2
  rw [hL2] at hM
  have hI := hI.mod h3 hm
  refine W.eq (g2 := F0 m 565 ls [_, _]) rfl ?_
  refine lv_icmp_eq (tgt := 570) C.1 C.2.1 d_Law_law_565 (by decide) (fun _ => ?_) (fun h => False.elim (h rfl))
  rw [hv', hA'] at hI
  exact lw_go kk hI (hJ.v0 0) (eqC_0 v A 0) rfl rfl rfl rfl rfl hM hl (Nat.le_trans (Nat.le_of_eq (by omega)) (lwC_up (a := 0) (v := v) (k := k) rfl rfl (Nat.le_of_ble_eq_true rfl))) (Nat.le_trans (Nat.le_of_eq (by omega)) (lwS_up (a := 0) (v := v) (k := k) rfl rfl (Nat.le_of_ble_eq_true rfl)))
