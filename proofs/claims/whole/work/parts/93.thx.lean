theorem x_FF_tick (l : Launch) (G : GG) (hfl : l.flags = flags0) {P : List Nat} {f : Nat → va_E} {o : Nat} {D : Nat → Nat → Nat} {C9 : Nat → Nat} {T : TS} (hS : cS G P f o D C9 T) (hv : T.v 1 = 0) : ctX l G y_FF_tick c_FF_tick 2 (some .int) 9 216 1 6 [.ref o] P f xS := by
  refine ctX_intro (by decide) [some (.ref o), none] rfl rfl (Nat.le_of_ble_eq_true rfl) ?_
  intro p e s m below meth c ls C hlk hx0 hE hM hl
  have hnd : va_D (fun _ => True) (va_pl P f) := hM.2.1.weaken (fun _ _ _ _ => trivial)
  refine lv_aload_n C.1 C.2.1 d_FF_tick_0 rfl (lo_at hl 0 rfl) ?_
  refine cg_callV C hE hM (k_FF_isOpen l G hS) hS.ff.1 hS.ff.2 rfl tw_117 cy_FF_isOpen ⟨(Nat.le_of_ble_eq_true rfl), (Nat.le_of_ble_eq_true rfl)⟩ rfl hl.1 rfl (Nat.le_of_ble_eq_true rfl) ⟨by (try show _ ≤ 1); omega, by (try show _ ≤ 6); omega⟩ d_FF_tick_1 (fun x9 f11 H1 locs1 hp hM => ?_)
  obtain ⟨rfl, h9⟩ := hp
  rw [h9] at hM
  clear h9
  refine W.eq (g2 := F0 m 4 ls [_]) rfl ?_
  refine lv_if_ne (tgt := 17) C.1 C.2.1 d_FF_tick_4 (by decide) (fun hc4 => False.elim (bz_1.mp hc4 hv)) (fun hc4 => ?_)
  exact pg_thr C hlk hx0 hE hM (fun q h => h) hnd (fun q _ => rfl) hfl (fun s' A' C' hE' => own_okS C' hE') (by decide +kernel) tw_317 tw_318 tw_11 (List.mem_of_getElem? (i := 4) rfl) hl.1 ⟨(Nat.le_of_ble_eq_true rfl), (Nat.le_of_ble_eq_true rfl), (Nat.le_of_ble_eq_true rfl), (Nat.le_of_ble_eq_true rfl)⟩ (Nat.le_of_ble_eq_true rfl) (Nat.le_of_ble_eq_true rfl) d_FF_tick_7 d_FF_tick_10 d_FF_tick_11 d_FF_tick_13 d_FF_tick_16
theorem x_FF_taskS (l : Launch) (G : GG) (hfl : l.flags = flags0) {P : List Nat} {f : Nat → va_E} {o : Nat} {D : Nat → Nat → Nat} {C9 : Nat → Nat} {T : TS} (hS : cS G P f o D C9 T) (hv : T.v 1 = 0 ∨ ¬ T.k.N 2 < 24) (hn2 : T.k.N 2 ≤ 24) (a b : Int32) : ctX l G y_FF_task c_FF_task 3 (some .int) 7 171 1 6 [.ref o, .int a, .int b] P f xS := by
  refine ctX_intro (by decide) [some (.ref o), some (.int a), some (.int b)] rfl rfl (Nat.le_of_ble_eq_true rfl) ?_
  intro p e s m below meth c ls C hlk hx0 hE hM hl
  have hnd : va_D (fun _ => True) (va_pl P f) := hM.2.1.weaken (fun _ _ _ _ => trivial)
  refine lv_aload_n C.1 C.2.1 d_FF_task_0 rfl (lo_at hl 0 rfl) ?_
  refine cg_callV C hE hM (k_FF_isOpen l G hS) hS.ff.1 hS.ff.2 rfl tw_117 cy_FF_isOpen ⟨(Nat.le_of_ble_eq_true rfl), (Nat.le_of_ble_eq_true rfl)⟩ rfl hl.1 rfl (Nat.le_of_ble_eq_true rfl) ⟨by (try show _ ≤ 1); omega, by (try show _ ≤ 6); omega⟩ d_FF_task_1 (fun x9 f11 H1 locs1 hp hM => ?_)
  obtain ⟨rfl, h9⟩ := hp
  rw [h9] at hM
  clear h9
  refine W.eq (g2 := F0 m 4 ls [_]) rfl ?_
  refine lv_if_eq (tgt := 19) C.1 C.2.1 d_FF_task_4 (by decide) (fun hc4 => ?_) (fun hc4 => ?_)
  · exact pg_thr C hlk hx0 hE hM (fun q h => h) hnd (fun q _ => rfl) hfl (fun s' A' C' hE' => own_okS C' hE') (by decide +kernel) tw_317 tw_318 tw_11 (List.mem_of_getElem? (i := 2) rfl) hl.1 ⟨(Nat.le_of_ble_eq_true rfl), (Nat.le_of_ble_eq_true rfl), (Nat.le_of_ble_eq_true rfl), (Nat.le_of_ble_eq_true rfl)⟩ (Nat.le_of_ble_eq_true rfl) (Nat.le_of_ble_eq_true rfl) d_FF_task_19 d_FF_task_22 d_FF_task_23 d_FF_task_25 d_FF_task_28
  · have hv0 := bz_1.mp hc4
    have hn := hv.resolve_left hv0
    refine lv_aload_n C.1 C.2.1 d_FF_task_7 rfl (lo_at hl 0 rfl) ?_
    refine pg_get C hE hM hS.ff.1 hS.ff.2 rfl in_FF 2 (Nat.le_of_ble_eq_true rfl) tw_87 rfl rfl d_FF_task_8 ?_
    obtain ⟨_, _, hc_tl⟩ := hS.tl.cell
    refine cg_callV C hE hM (q_size l G hS.tl) hS.tl.1 hc_tl rfl tw_287 cy_AL_size ⟨(Nat.le_of_ble_eq_true rfl), (Nat.le_of_ble_eq_true rfl)⟩ rfl hl.1 rfl (Nat.le_of_ble_eq_true rfl) ⟨by (try show _ ≤ 1); omega, by (try show _ ≤ 6); omega⟩ d_FF_task_11 (fun x9 f12 H1 locs1 hp hM => ?_)
    obtain ⟨rfl, h9⟩ := hp
    rw [h9] at hM
    clear h9
    refine W.eq (g2 := F0 m 14 ls [_]) rfl ?_
    refine lv_bipush (v := 24) C.1 C.2.1 d_FF_task_14 (by decide) ?_
    rw [show (24 : Int32) = nI 24 from rfl]
    refine lv_icmp_lt (tgt := 29) C.1 C.2.1 d_FF_task_16 (by decide) (fun hc16 => False.elim (hn ((nI_ltI (by omega) (by omega)).mp hc16))) (fun hc16 => ?_)
    exact pg_thr C hlk hx0 hE hM (fun q h => h) hnd (fun q _ => rfl) hfl (fun s' A' C' hE' => own_okS C' hE') (by decide +kernel) tw_317 tw_318 tw_11 (List.mem_of_getElem? (i := 2) rfl) hl.1 ⟨(Nat.le_of_ble_eq_true rfl), (Nat.le_of_ble_eq_true rfl), (Nat.le_of_ble_eq_true rfl), (Nat.le_of_ble_eq_true rfl)⟩ (Nat.le_of_ble_eq_true rfl) (Nat.le_of_ble_eq_true rfl) d_FF_task_19 d_FF_task_22 d_FF_task_23 d_FF_task_25 d_FF_task_28
theorem x_FF_taskI (l : Launch) (G : GG) (hfl : l.flags = flags0) {P : List Nat} {f : Nat → va_E} {o : Nat} {D : Nat → Nat → Nat} {C9 : Nat → Nat} {T : TS} (hS : cS G P f o D C9 T) (hv : T.v 1 = 1) (hn2 : T.k.N 2 < 24) (hn3 : T.k.N 3 ≤ 96) (h3 : T.v 3 = nI (T.k.N 3)) (a b : Int32) (hab : ¬ (inb a 0 (T.v 3 - 1) ∧ inb b 0 (T.v 3 - 1))) : ctX l G y_FF_task c_FF_task 3 (some .int) 7 171 1 6 [.ref o, .int a, .int b] P f xI := by
  refine ctX_intro (by decide) [some (.ref o), some (.int a), some (.int b)] rfl rfl (Nat.le_of_ble_eq_true rfl) ?_
  intro p e s m below meth c ls C hlk hx0 hE hM hl
  have hnd : va_D (fun _ => True) (va_pl P f) := hM.2.1.weaken (fun _ _ _ _ => trivial)
  have hv0 : ¬ T.v 1 = 0 := by rw [hv]; decide
  refine lv_aload_n C.1 C.2.1 d_FF_task_0 rfl (lo_at hl 0 rfl) ?_
  refine cg_callV C hE hM (k_FF_isOpen l G hS) hS.ff.1 hS.ff.2 rfl tw_117 cy_FF_isOpen ⟨(Nat.le_of_ble_eq_true rfl), (Nat.le_of_ble_eq_true rfl)⟩ rfl hl.1 rfl (Nat.le_of_ble_eq_true rfl) ⟨by (try show _ ≤ 1); omega, by (try show _ ≤ 6); omega⟩ d_FF_task_1 (fun x9 f11 H1 locs1 hp hM => ?_)
  obtain ⟨rfl, h9⟩ := hp
  rw [h9] at hM
  clear h9
  refine W.eq (g2 := F0 m 4 ls [_]) rfl ?_
  refine lv_if_eq (tgt := 19) C.1 C.2.1 d_FF_task_4 (by decide) (fun hc4 => False.elim (bz_0.mp hc4 hv0)) (fun hc4 => ?_)
  refine lv_aload_n C.1 C.2.1 d_FF_task_7 rfl (lo_at hl 0 rfl) ?_
  refine pg_get C hE hM hS.ff.1 hS.ff.2 rfl in_FF 2 (Nat.le_of_ble_eq_true rfl) tw_87 rfl rfl d_FF_task_8 ?_
  obtain ⟨_, _, hc_tl⟩ := hS.tl.cell
  refine cg_callV C hE hM (q_size l G hS.tl) hS.tl.1 hc_tl rfl tw_287 cy_AL_size ⟨(Nat.le_of_ble_eq_true rfl), (Nat.le_of_ble_eq_true rfl)⟩ rfl hl.1 rfl (Nat.le_of_ble_eq_true rfl) ⟨by (try show _ ≤ 1); omega, by (try show _ ≤ 6); omega⟩ d_FF_task_11 (fun x9 f12 H1 locs1 hp hM => ?_)
  obtain ⟨rfl, h9⟩ := hp
  rw [h9] at hM
  clear h9
  refine W.eq (g2 := F0 m 14 ls [_]) rfl ?_
  refine lv_bipush (v := 24) C.1 C.2.1 d_FF_task_14 (by decide) ?_
  rw [show (24 : Int32) = nI 24 from rfl]
  refine lv_icmp_lt (tgt := 29) C.1 C.2.1 d_FF_task_16 (by decide) (fun hc16 => ?_) (fun hc16 => False.elim (hc16 ((nI_ltI (by omega) (by omega)).mpr hn2)))
  refine lv_aload_n C.1 C.2.1 d_FF_task_29 rfl (lo_at hl 0 rfl) ?_
  refine lv_iload_n C.1 C.2.1 d_FF_task_30 rfl (lo_at hl 1 rfl) ?_
  refine cg_callV C hE hM (k_FF_isStation l G hS hn3 h3 _) hS.ff.1 hS.ff.2 rfl tw_577 cy_FF_isStation ⟨(Nat.le_of_ble_eq_true rfl), (Nat.le_of_ble_eq_true rfl)⟩ rfl hl.1 rfl (Nat.le_of_ble_eq_true rfl) ⟨by (try show _ ≤ 1); omega, by (try show _ ≤ 6); omega⟩ d_FF_task_31 (fun x9 f13 H1 locs1 hp hM => ?_)
  obtain ⟨rfl, h9⟩ := hp
  rw [h9] at hM
  clear h9
  refine W.eq (g2 := F0 m 34 ls [_]) rfl ?_
  refine lv_if_eq (tgt := 45) C.1 C.2.1 d_FF_task_34 (by decide) (fun hc34 => ?_) (fun hc34 => ?_)
  · exact pg_thr C hlk hx0 hE hM (fun q h => h) hnd (fun q _ => rfl) hfl (fun s' A' C' hE' => own_okI C' hE') (by decide +kernel) tw_447 tw_448 tw_13 (List.mem_of_getElem? (i := 3) rfl) hl.1 ⟨(Nat.le_of_ble_eq_true rfl), (Nat.le_of_ble_eq_true rfl), (Nat.le_of_ble_eq_true rfl), (Nat.le_of_ble_eq_true rfl)⟩ (Nat.le_of_ble_eq_true rfl) (Nat.le_of_ble_eq_true rfl) d_FF_task_45 d_FF_task_48 d_FF_task_49 d_FF_task_51 d_FF_task_54
  · refine lv_aload_n C.1 C.2.1 d_FF_task_37 rfl (lo_at hl 0 rfl) ?_
    refine lv_iload_n C.1 C.2.1 d_FF_task_38 rfl (lo_at hl 2 rfl) ?_
    refine cg_callV C hE hM (k_FF_isStation l G hS hn3 h3 _) hS.ff.1 hS.ff.2 rfl tw_577 cy_FF_isStation ⟨(Nat.le_of_ble_eq_true rfl), (Nat.le_of_ble_eq_true rfl)⟩ rfl hl.1 rfl (Nat.le_of_ble_eq_true rfl) ⟨by (try show _ ≤ 1); omega, by (try show _ ≤ 6); omega⟩ d_FF_task_39 (fun x9 f14 H1 locs1 hp hM => ?_)
    obtain ⟨rfl, h9⟩ := hp
    rw [h9] at hM
    clear h9
    refine W.eq (g2 := F0 m 42 ls [_]) rfl ?_
    refine lv_if_ne (tgt := 55) C.1 C.2.1 d_FF_task_42 (by decide) (fun hc42 => False.elim (hab ⟨bz_1.mp hc34, bz_1.mp hc42⟩)) (fun hc42 => ?_)
    exact pg_thr C hlk hx0 hE hM (fun q h => h) hnd (fun q _ => rfl) hfl (fun s' A' C' hE' => own_okI C' hE') (by decide +kernel) tw_447 tw_448 tw_13 (List.mem_of_getElem? (i := 3) rfl) hl.1 ⟨(Nat.le_of_ble_eq_true rfl), (Nat.le_of_ble_eq_true rfl), (Nat.le_of_ble_eq_true rfl), (Nat.le_of_ble_eq_true rfl)⟩ (Nat.le_of_ble_eq_true rfl) (Nat.le_of_ble_eq_true rfl) d_FF_task_45 d_FF_task_48 d_FF_task_49 d_FF_task_51 d_FF_task_54
theorem x_FF_openS (l : Launch) (G : GG) (hfl : l.flags = flags0) {P : List Nat} {f : Nat → va_E} {o : Nat} {D : Nat → Nat → Nat} {C9 : Nat → Nat} {T : TS} (hS : cS G P f o D C9 T) (hv : ¬ T.v 1 = 0) : ctX l G y_FF_open c_FF_open 3 (some .int) 7 116 1 6 [.ref o] P f xS := by
  refine ctX_intro (by decide) [some (.ref o), none, none] rfl rfl (Nat.le_of_ble_eq_true rfl) ?_
  intro p e s m below meth c ls C hlk hx0 hE hM hl
  have hnd : va_D (fun _ => True) (va_pl P f) := hM.2.1.weaken (fun _ _ _ _ => trivial)
  refine lv_aload_n C.1 C.2.1 d_FF_open_0 rfl (lo_at hl 0 rfl) ?_
  refine cg_callV C hE hM (k_FF_isOpen l G hS) hS.ff.1 hS.ff.2 rfl tw_117 cy_FF_isOpen ⟨(Nat.le_of_ble_eq_true rfl), (Nat.le_of_ble_eq_true rfl)⟩ rfl hl.1 rfl (Nat.le_of_ble_eq_true rfl) ⟨by (try show _ ≤ 1); omega, by (try show _ ≤ 6); omega⟩ d_FF_open_1 (fun x9 f11 H1 locs1 hp hM => ?_)
  obtain ⟨rfl, h9⟩ := hp
  rw [h9] at hM
  clear h9
  refine W.eq (g2 := F0 m 4 ls [_]) rfl ?_
  refine lv_if_eq (tgt := 17) C.1 C.2.1 d_FF_open_4 (by decide) (fun hc4 => False.elim (bz_0.mp hc4 hv)) (fun hc4 => ?_)
  exact pg_thr C hlk hx0 hE hM (fun q h => h) hnd (fun q _ => rfl) hfl (fun s' A' C' hE' => own_okS C' hE') (by decide +kernel) tw_317 tw_318 tw_11 (List.mem_of_getElem? (i := 0) rfl) hl.1 ⟨(Nat.le_of_ble_eq_true rfl), (Nat.le_of_ble_eq_true rfl), (Nat.le_of_ble_eq_true rfl), (Nat.le_of_ble_eq_true rfl)⟩ (Nat.le_of_ble_eq_true rfl) (Nat.le_of_ble_eq_true rfl) d_FF_open_7 d_FF_open_10 d_FF_open_11 d_FF_open_13 d_FF_open_16
theorem x_FF_openI (l : Launch) (G : GG) (hfl : l.flags = flags0) {P : List Nat} {f : Nat → va_E} {o : Nat} {D : Nat → Nat → Nat} {C9 : Nat → Nat} {T : TS} (hS : cS G P f o D C9 T) (hv : T.v 1 = 0) (hK : kOk (T.A 2)) (hg : ¬ good (T.A 2)) : ctX l G y_FF_open c_FF_open 3 (some .int) 7 116 195 394 [.ref o] P f xI := by
  refine ctX_intro (by decide) [some (.ref o), none, none] rfl rfl (Nat.le_of_ble_eq_true rfl) ?_
  intro p e s m below meth c ls C hlk hx0 hE hM hl
  have hnd : va_D (fun _ => True) (va_pl P f) := hM.2.1.weaken (fun _ _ _ _ => trivial)
  refine lv_aload_n C.1 C.2.1 d_FF_open_0 rfl (lo_at hl 0 rfl) ?_
  refine cg_callV C hE hM (k_FF_isOpen l G hS) hS.ff.1 hS.ff.2 rfl tw_117 cy_FF_isOpen ⟨(Nat.le_of_ble_eq_true rfl), (Nat.le_of_ble_eq_true rfl)⟩ rfl hl.1 rfl (Nat.le_of_ble_eq_true rfl) ⟨by (try show _ ≤ 195); omega, by (try show _ ≤ 394); omega⟩ d_FF_open_1 (fun x9 f11 H1 locs1 hp hM => ?_)
  obtain ⟨rfl, h9⟩ := hp
  rw [h9] at hM
  clear h9
  refine W.eq (g2 := F0 m 4 ls [_]) rfl ?_
  have hc_o := hS.ff.2
  rw [ffF_0 hv] at hc_o
  refine lv_if_eq (tgt := 17) C.1 C.2.1 d_FF_open_4 (by decide) (fun hc4 => ?_) (fun hc4 => False.elim (bz_1.mp hc4 hv))
  refine lv_aload_n C.1 C.2.1 d_FF_open_17 rfl (lo_at hl 0 rfl) ?_
  refine pg_get C hE hM hS.ff.1 hc_o rfl in_FF 0 (Nat.le_of_ble_eq_true rfl) tw_85 rfl rfl d_FF_open_18 ?_
  refine cg_callVA C hE hM (ct_drop (k_Map_isGood l G _ _ _ hS.mp.1 hS.mp.2 hS.kd.1 hS.kd.2 hK)) hS.mp.1 hS.mp.2 rfl tw_384 cy_Map_isGood ⟨(Nat.le_of_ble_eq_true rfl), (Nat.le_of_ble_eq_true rfl)⟩ rfl hl.1 rfl (Nat.le_of_ble_eq_true rfl) ⟨by (try show _ ≤ 195); omega, by (try show _ ≤ 394); omega⟩ d_FF_open_21 (fun x9 N1 P1 f12 H1 locs1 hP1 hp hM => ?_)
  obtain ⟨hN9, N9, qs9, -, z9, hx9, hz9, hkp⟩ := hp
  subst hx9
  subst hN9
  have hPe : P1 = P := by rw [hP1, List.append_nil]
  subst hPe
  refine W.eq (g2 := F0 m 24 ls [_]) rfl ?_
  refine lv_if_ne (tgt := 37) C.1 C.2.1 d_FF_open_24 (by decide) (fun hc24 => False.elim (hg (hz9.mp (bz_1.mp hc24)))) (fun hc24 => ?_)
  exact pg_thr C hlk hx0 hE hM (fun q h => h) hnd (fun q h => hkp q h) hfl (fun s' A' C' hE' => own_okI C' hE') (by decide +kernel) tw_447 tw_448 tw_13 (List.mem_of_getElem? (i := 1) rfl) hl.1 ⟨(Nat.le_of_ble_eq_true rfl), (Nat.le_of_ble_eq_true rfl), (Nat.le_of_ble_eq_true rfl), (Nat.le_of_ble_eq_true rfl)⟩ (Nat.le_of_ble_eq_true rfl) (Nat.le_of_ble_eq_true rfl) d_FF_open_27 d_FF_open_30 d_FF_open_31 d_FF_open_33 d_FF_open_36
