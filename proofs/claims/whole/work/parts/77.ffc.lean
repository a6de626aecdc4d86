section LOA
variable {p : Program} {l : Launch} {e : Env} {R : Room} {s : State} {m : MethodId} {args : Array Value} {below : List Frame} {meth : Method} {c : Code} {H : Heap} {locs : List Loc} {cells slots : Nat} {Q : State → Prop}
variable {cc : ByteArray} {pc nL : Nat} {ls : Array Slot} {rest : List Value} {G : GG} {A : Nat → Prop} {a : Nat} {H0 : Heap} {L P : List Nat} {f : Nat → va_E} {own : String} {vs : List (Option Value)}
theorem lo_astoreN (C : CallFix p m c cc nL s args bg own) (hl : lo ls vs) {k : Nat} (hdg : decode cc pc = .ok (.astore k, 2)) (hn : k < vs.length) (h1 : lo1 vs = true) (kk : ∀ ls' : Array Slot, lo ls' (vs.set k (some .null)) → W p l e R s m args below meth c H locs cells slots Q (F0 m (pc + 2) ls' rest)) : W p l e R s m args below meth c H locs cells slots Q (F0 m pc ls (.null :: rest)) :=
  lv_astoreN C.1 C.2.1 hdg hl hn rfl (fun ls' h => kk ls' (lo_set1 (ls := ls) hn (lo1_at h1) h))
end LOA
theorem cS.dlv {G : GG} {P : List Nat} {f f1 : Nat → va_E} {o : Nat} {D : Nat → Nat → Nat} {C : Nat → Nat} {T : TS} (h : cS G P f o D C T) (h35 : G.2.1 3 ≠ G.2.1 5) (h45 : G.2.1 4 ≠ G.2.1 5) {i u : Nat} (hi : i < 1000) (hu : u < T.k.N 0) (hu6 : u < 1000) (hw : T.A 33 i = nI u) (hf : f1 = va_up f (D 1 u) (if T.A 32 i = 0 then .inr (8, [.int (nI u), .int (T.A 6 u), .ref (D 2 u), .int (T.A 23 u), .int (mx (T.A 24 u) (T.A 34 i)), .int (T.A 25 u), .int (T.A 26 u), .int (T.A 28 u), .int (T.k.X 0 u), .int (T.k.X 1 u)]) else .inr (8, [.int (nI u), .int (T.A 6 u), .ref (D 2 u), .int (T.A 23 u), .int (T.A 24 u), .int (mx (T.A 25 u) (T.A 34 i)), .int (T.A 26 u), .int (T.A 28 u), .int (T.k.X 0 u), .int (T.k.X 1 u)]))) : cS G P f1 o D C (T.v, dlvA T.A (nI i), T.k) := by
  have e1 : ix (nI i) = i := nI_clamp (by omega)
  have e2 : ix (nI u) = u := nI_clamp (by omega)
  by_cases q : T.A 32 i = 0
  · rw [if_pos q] at hf
    have hA : dlvA T.A (nI i) = va_up T.A 24 (upd (T.A 24) u (mx (T.A 34 i) (T.A 24 u))) := by unfold dlvA; rw [e1, if_pos q, hw, e2]
    rw [hA]
    refine h.veh (wr_x hf (h.vh u hu).2 (by decide) h.lw) h35 h45 hu rfl (fun j _ _ h4 _ _ _ => va_up_ne _ _ h4) rfl rfl rfl rfl (fun x hx => ?_) ?_
    · show vhF D (T.v, va_up T.A 24 (upd (T.A 24) u (mx (T.A 34 i) (T.A 24 u))), T.k) x = vhF D T x
      unfold vhF
      show [_, _, _, _, Value.int (upd (T.A 24) u _ x), _, _, _, _, _] = _
      rw [upd_ne _ _ hx]
      rfl
    · rw [hf, va_up_self, mx_comm]
      show _ = Sum.inr (8, [_, _, _, _, Value.int (upd (T.A 24) u (mx (T.A 34 i) (T.A 24 u)) u), _, _, _, _, _])
      rw [upd_self]
      rfl
  · rw [if_neg q] at hf
    have hA : dlvA T.A (nI i) = va_up T.A 25 (upd (T.A 25) u (mx (T.A 34 i) (T.A 25 u))) := by unfold dlvA; rw [e1, if_neg q, hw, e2]
    rw [hA]
    refine h.veh (wr_x hf (h.vh u hu).2 (by decide) h.lw) h35 h45 hu rfl (fun j _ _ _ h5 _ _ => va_up_ne _ _ h5) rfl rfl rfl rfl (fun x hx => ?_) ?_
    · show vhF D (T.v, va_up T.A 25 (upd (T.A 25) u (mx (T.A 34 i) (T.A 25 u))), T.k) x = vhF D T x
      unfold vhF
      show [_, _, _, _, _, Value.int (upd (T.A 25) u _ x), _, _, _, _] = _
      rw [upd_ne _ _ hx]
      rfl
    · rw [hf, va_up_self, mx_comm]
      show _ = Sum.inr (8, [_, _, _, _, _, Value.int (upd (T.A 25) u (mx (T.A 34 i) (T.A 25 u)) u), _, _, _, _])
      rw [upd_self]
      rfl
set_option maxHeartbeats 4000000 in
set_option maxRecDepth 100000 in
theorem k_FF_deliver (l : Launch) (G : GG) {P : List Nat} {f : Nat → va_E} {o : Nat} {D : Nat → Nat → Nat} {C9 : Nat → Nat} {T : TS} (hS : cS G P f o D C9 T) (hJ : JI T.v T.A T.k) (k0 : Int32)  : ct0 l G y_FF_deliver c_FF_deliver 4 (some .boolean) 4 107 [.ref o, .int k0] P f (fun x f1 => x = some (.int (bz (isLt T.v k0))) ∧ ∃ D' C', cS G P f1 o D' C' (if isLt T.v k0 then kRem (T.v, dlvA T.A k0, T.k) (ix k0) else T)) := by
  refine ct_intro (by decide) [some (.ref o), some (.int k0), none, none] rfl rfl (Nat.le_of_ble_eq_true rfl) ?_
  intro p e s m below meth c ls C hr hlk hnm hE hM hl
  have hb1 := hJ.n1.2
  refine lv_aload_n C.1 C.2.1 d_FF_deliver_0 rfl (lo_at hl 0 rfl) ?_
  refine pg_get C hE hM hS.ff.1 hS.ff.2 rfl in_FF 1 (Nat.le_of_ble_eq_true rfl) tw_86 rfl rfl d_FF_deliver_1 ?_
  refine lv_iload_n C.1 C.2.1 d_FF_deliver_4 rfl (lo_at hl 1 rfl) ?_
  refine cg_callV C hE hM (k_Air_look l G _ _ hS.ar.1 hS.ar.2 _ _ _ hS.al (fun i hi => ⟨(hS.lt i hi).1, _, (hS.lt i hi).2⟩) (by omega) k0) hS.ar.1 hS.ar.2 rfl tw_141 cy_Air_look ⟨(Nat.le_of_ble_eq_true rfl), (Nat.le_of_ble_eq_true rfl)⟩ rfl hl.1 rfl (Nat.le_of_ble_eq_true rfl) ⟨Nat.zero_le _, Nat.zero_le _⟩ d_FF_deliver_5 (fun x9 f11 H1 locs1 hp hM => ?_)
  obtain ⟨hp, h9⟩ := hp; rw [h9] at hM; clear h9; rcases hp with ⟨i, hk, hi, hx9⟩ | ⟨hk, hx9⟩
  · subst hx9
    subst hk
    refine W.eq (g2 := F0 m 8 ls [_]) rfl ?_
    refine lo_astore_n C hl d_FF_deliver_8 (Nat.le_of_ble_eq_true rfl) rfl (fun ls hl => ?_)
    refine lv_aload_n C.1 C.2.1 d_FF_deliver_9 rfl (lo_at hl 2 rfl) ?_
    refine lv_ifnonnull (tgt := 15) C.1 C.2.1 d_FF_deliver_10 (by decide) ?_
    obtain ⟨w, n0, hw, hw0, hn, -⟩ := hJ.lt i hi
    refine lv_aload_n C.1 C.2.1 d_FF_deliver_15 rfl (lo_at hl 0 rfl) ?_
    refine lv_aload_n C.1 C.2.1 d_FF_deliver_16 rfl (lo_at hl 2 rfl) ?_
    refine cg_callV C hE hM (k_Let_owner l G _ _ _ _ (hS.lt i hi).1 (hS.lt i hi).2) (hS.lt i hi).1 (hS.lt i hi).2 rfl tw_164 cy_Let_owner ⟨(Nat.le_of_ble_eq_true rfl), (Nat.le_of_ble_eq_true rfl)⟩ rfl hl.1 rfl (Nat.le_of_ble_eq_true rfl) ⟨Nat.zero_le _, Nat.zero_le _⟩ d_FF_deliver_17 (fun x9 f12 H1 locs1 hp hM => ?_)
    obtain ⟨rfl, h9⟩ := hp
    rw [h9] at hM
    clear h9
    refine W.eq (g2 := F0 m 20 ls [_, _]) rfl ?_
    refine cg_callV C hE hM (k_FF_vehicleNumbered l G hS hJ.n0.2 _) hS.ff.1 hS.ff.2 rfl tw_176 cy_FF_vehicleNumbered ⟨(Nat.le_of_ble_eq_true rfl), (Nat.le_of_ble_eq_true rfl)⟩ rfl hl.1 rfl (Nat.le_of_ble_eq_true rfl) ⟨Nat.zero_le _, Nat.zero_le _⟩ d_FF_deliver_20 (fun x9 f13 H1 locs1 hp hM => ?_)
    obtain ⟨hp, h9⟩ := hp; rw [h9] at hM; clear h9; rcases hp with ⟨u, hu9, hu, hx9⟩ | ⟨hu9, hx9⟩
    · subst hx9
      refine W.eq (g2 := F0 m 23 ls [_]) rfl ?_
      refine lo_astore_n C hl d_FF_deliver_23 (Nat.le_of_ble_eq_true rfl) rfl (fun ls hl => ?_)
      refine lv_aload_n C.1 C.2.1 d_FF_deliver_24 rfl (lo_at hl 3 rfl) ?_
      refine lv_ifnull C.1 C.2.1 d_FF_deliver_25 ?_
      refine lv_aload_n C.1 C.2.1 d_FF_deliver_28 rfl (lo_at hl 3 rfl) ?_
      refine lv_aload_n C.1 C.2.1 d_FF_deliver_29 rfl (lo_at hl 2 rfl) ?_
      refine cg_callV C hE hM (k_Veh_take l G _ _ _ _ _ _ _ _ _ _ _ (hS.vh u hu).1 (hS.vh u hu).2 _ _ _ (hS.vl u hu) _ _ _ _ (hS.lt i hi).1 (hS.lt i hi).2) (hS.vh u hu).1 (hS.vh u hu).2 rfl tw_180 cy_Veh_take ⟨(Nat.le_of_ble_eq_true rfl), (Nat.le_of_ble_eq_true rfl)⟩ rfl hl.1 rfl (Nat.le_of_ble_eq_true rfl) ⟨Nat.zero_le _, Nat.zero_le _⟩ d_FF_deliver_30 (fun x9 f14 H1 locs1 hp hM => ?_)
      obtain ⟨hx9, hf9⟩ := hp
      subst hx9
      have hn0 := hJ.n0.2
      have hS := hS.dlv (ids_ne hE).1 (ids_ne hE).2 (by omega) hu (by omega) hu9 hf9
      refine W.eq (g2 := F0 m 33 ls []) rfl ?_
      refine lv_aload_n C.1 C.2.1 d_FF_deliver_33 rfl (lo_at hl 0 rfl) ?_
      refine pg_get C hE hM hS.ff.1 hS.ff.2 rfl in_FF 1 (Nat.le_of_ble_eq_true rfl) tw_86 rfl rfl d_FF_deliver_34 ?_
      refine lv_iload_n C.1 C.2.1 d_FF_deliver_37 rfl (lo_at hl 1 rfl) ?_
      refine cg_callV C hE hM (k_Air_remove l G _ _ hS.ar.1 hS.ar.2 _ _ _ hS.al hS.lw (fun i hi => oOk_let (hS.lt i hi).1 (hS.lt i hi).2) (by show T.k.N 1 < 60000; omega) (nI i)) hS.ar.1 hS.ar.2 rfl tw_189 cy_Air_remove ⟨(Nat.le_of_ble_eq_true rfl), (Nat.le_of_ble_eq_true rfl)⟩ rfl hl.1 rfl (Nat.le_of_ble_eq_true rfl) ⟨Nat.zero_le _, Nat.zero_le _⟩ d_FF_deliver_38 (fun x9 f15 H1 locs1 hp hM => ?_)
      rcases hp with ⟨i2, hk, hi2, hx9, hl9, hf9⟩ | ⟨hk, hx9, hf9⟩
      · subst hx9
        replace hi2 : i2 < T.k.N 1 := hi2
        have hii : i = i2 := nI_inj (by omega) (by omega) hk
        subst hii
        refine W.eq (g2 := F0 m 41 ls [_]) rfl ?_
        refine cg_zret C hr hlk hM d_FF_deliver_41 (by decide) ?_
        have hn : isLt T.v (nI i) := (isLt_iff hJ.n1.2 hJ.n1.1).mpr ⟨i, rfl, hi⟩
        rw [bz_T hn, if_pos hn, show ix (nI i) = i from nI_clamp (by omega)]
        exact ⟨rfl, hS.rem (ids_ne hE).1 (ids_ne hE).2 hi hl9 hf9⟩
      · exact absurd ⟨i, rfl, hi⟩ hk
    · exact absurd ⟨w, hw, hw0⟩ hu9
  · subst hx9
    refine W.eq (g2 := F0 m 8 ls [_]) rfl ?_
    refine lo_astore_nN C hl d_FF_deliver_8 (Nat.le_of_ble_eq_true rfl) rfl (fun ls hl => ?_)
    refine lv_aload_nN C.1 C.2.1 d_FF_deliver_9 rfl (lo_at hl 2 rfl) ?_
    refine lv_ifnonnullN C.1 C.2.1 d_FF_deliver_10 ?_
    refine lv_iconst (v := 0) C.1 C.2.1 d_FF_deliver_13 (by decide) ?_
    refine cg_zret C hr hlk hM d_FF_deliver_14 (by decide) ?_
    have hn : ¬ isLt T.v k0 := fun z => hk ((isLt_iff hJ.n1.2 hJ.n1.1).mp z)
    rw [bz_F hn, if_neg hn]
    exact ⟨rfl, D, C9, hS⟩
set_option maxHeartbeats 4000000 in
set_option maxRecDepth 100000 in
theorem k_FF_vehicle (l : Launch) (G : GG) {P : List Nat} {f : Nat → va_E} {o : Nat} {D : Nat → Nat → Nat} {C9 : Nat → Nat} {T : TS} (hS : cS G P f o D C9 T) (hJ : JI T.v T.A T.k) (u0 w0 : Int32)  : ct0 l G y_FF_vehicle c_FF_vehicle 4 (some .int) 4 85 [.ref o, .int u0, .int w0] P f (fun x f1 => x = some (.int (veh T.v T.A u0 w0)) ∧ f1 = f) := by
  refine ct_intro (by decide) [some (.ref o), some (.int u0), some (.int w0), none] rfl rfl (Nat.le_of_ble_eq_true rfl) ?_
  intro p e s m below meth c ls C hr hlk hnm hE hM hl
  have hb0 := hJ.n0.2
  refine lv_aload_n C.1 C.2.1 d_FF_vehicle_0 rfl (lo_at hl 0 rfl) ?_
  refine lv_iload_n C.1 C.2.1 d_FF_vehicle_1 rfl (lo_at hl 1 rfl) ?_
  refine cg_callV C hE hM (k_FF_vehicleNumbered l G hS hJ.n0.2 _) hS.ff.1 hS.ff.2 rfl tw_176 cy_FF_vehicleNumbered ⟨(Nat.le_of_ble_eq_true rfl), (Nat.le_of_ble_eq_true rfl)⟩ rfl hl.1 rfl (Nat.le_of_ble_eq_true rfl) ⟨Nat.zero_le _, Nat.zero_le _⟩ d_FF_vehicle_2 (fun x9 f11 H1 locs1 hp hM => ?_)
  obtain ⟨hp, h9⟩ := hp; rw [h9] at hM; clear h9; rcases hp with ⟨u, hu9, hu, hx9⟩ | ⟨hu9, hx9⟩
  · subst hx9
    subst hu9
    refine W.eq (g2 := F0 m 5 ls [_]) rfl ?_
    refine lo_astore_n C hl d_FF_vehicle_5 (Nat.le_of_ble_eq_true rfl) rfl (fun ls hl => ?_)
    refine lv_aload_n C.1 C.2.1 d_FF_vehicle_6 rfl (lo_at hl 3 rfl) ?_
    refine lv_ifnonnull (tgt := 12) C.1 C.2.1 d_FF_vehicle_7 (by decide) ?_
    refine lv_iload_n C.1 C.2.1 d_FF_vehicle_12 rfl (lo_at hl 2 rfl) ?_
    refine lv_topi (fun sx1 he1 => ?_)
    by_cases hs1_0 : sx1 = 0
    · subst hs1_0
      refine lv_tableIn (tgt := 56) C.1 C.2.1 d_FF_vehicle_13 (by decide) (by decide) rfl (by decide) ?_
      refine lv_aload_n C.1 C.2.1 d_FF_vehicle_56 rfl (lo_at hl 3 rfl) ?_
      refine lv_aload_n C.1 C.2.1 d_FF_vehicle_57 rfl (lo_at hl 3 rfl) ?_
      refine pg_getN C hE hM (hS.vh u hu).1 (hS.vh u hu).2 rfl in_Veh 3 (Nat.le_of_ble_eq_true rfl) nw_482 rfl rfl d_FF_vehicle_58 ?_
      refine cg_callV C hE hM (k_Veh_placeAfter l G _ _ _ _ _ _ _ _ _ _ _ (hS.vh u hu).1 (hS.vh u hu).2 _ _ _ (hS.vl u hu) _ _ (hS.mv u hu) (by have := hJ.qb hu; omega) _) (hS.vh u hu).1 (hS.vh u hu).2 rfl tw_276 cy_Veh_placeAfter ⟨(Nat.le_of_ble_eq_true rfl), (Nat.le_of_ble_eq_true rfl)⟩ rfl hl.1 rfl (Nat.le_of_ble_eq_true rfl) ⟨Nat.zero_le _, Nat.zero_le _⟩ d_FF_vehicle_61 (fun x9 f12 H1 locs1 hp hM => ?_)
      obtain ⟨rfl, h9⟩ := hp
      rw [h9] at hM
      clear h9
      refine W.eq (g2 := F0 m 64 ls [_]) rfl ?_
      refine cg_iret C hr hlk hM d_FF_vehicle_64 ?_
      refine ⟨?_, rfl⟩
      unfold veh
      rw [if_pos ((inb_iff (by omega) hJ.n0.1).mpr ⟨u, rfl, hu⟩), show ix (nI u) = u from nI_clamp (by omega)]
      subst he1
      have hq := hJ.cn u hu
      have hqb := hJ.qb hu
      have h22 := hJ.att u hu
      have hv22 : plA (T.A 6 u) (fun i => nI (T.k.ce u i)) (T.k.q 1 u) (T.A 23 u) = T.A 22 u := by
        rw [(hJ.pk u hu).1, hq.1.2.1, plA_cel (by omega) (by omega) (fun _ _ => rfl), h22]
      exact congrArg (fun z => some (Value.int z)) hv22
    by_cases hs1_1 : sx1 = 1
    · subst hs1_1
      refine lv_tableIn (tgt := 65) C.1 C.2.1 d_FF_vehicle_13 (by decide) (by decide) rfl (by decide) ?_
      refine lv_aload_n C.1 C.2.1 d_FF_vehicle_65 rfl (lo_at hl 3 rfl) ?_
      refine pg_getN C hE hM (hS.vh u hu).1 (hS.vh u hu).2 rfl in_Veh 3 (Nat.le_of_ble_eq_true rfl) nw_482 rfl rfl d_FF_vehicle_66 ?_
      refine cg_iret C hr hlk hM d_FF_vehicle_69 ?_
      refine ⟨?_, rfl⟩
      unfold veh
      rw [if_pos ((inb_iff (by omega) hJ.n0.1).mpr ⟨u, rfl, hu⟩), show ix (nI u) = u from nI_clamp (by omega)]
      subst he1
      rfl
    by_cases hs1_2 : sx1 = 2
    · subst hs1_2
      refine lv_tableIn (tgt := 70) C.1 C.2.1 d_FF_vehicle_13 (by decide) (by decide) rfl (by decide) ?_
      refine lv_aload_n C.1 C.2.1 d_FF_vehicle_70 rfl (lo_at hl 3 rfl) ?_
      refine pg_getN C hE hM (hS.vh u hu).1 (hS.vh u hu).2 rfl in_Veh 4 (Nat.le_of_ble_eq_true rfl) nw_484 rfl rfl d_FF_vehicle_71 ?_
      refine cg_iret C hr hlk hM d_FF_vehicle_74 ?_
      refine ⟨?_, rfl⟩
      unfold veh
      rw [if_pos ((inb_iff (by omega) hJ.n0.1).mpr ⟨u, rfl, hu⟩), show ix (nI u) = u from nI_clamp (by omega)]
      subst he1
      rfl
    by_cases hs1_3 : sx1 = 3
    · subst hs1_3
      refine lv_tableIn (tgt := 75) C.1 C.2.1 d_FF_vehicle_13 (by decide) (by decide) rfl (by decide) ?_
      refine lv_aload_n C.1 C.2.1 d_FF_vehicle_75 rfl (lo_at hl 3 rfl) ?_
      refine pg_getN C hE hM (hS.vh u hu).1 (hS.vh u hu).2 rfl in_Veh 5 (Nat.le_of_ble_eq_true rfl) nw_486 rfl rfl d_FF_vehicle_76 ?_
      refine cg_iret C hr hlk hM d_FF_vehicle_79 ?_
      refine ⟨?_, rfl⟩
      unfold veh
      rw [if_pos ((inb_iff (by omega) hJ.n0.1).mpr ⟨u, rfl, hu⟩), show ix (nI u) = u from nI_clamp (by omega)]
      subst he1
      rfl
    by_cases hs1_4 : sx1 = 4
    · subst hs1_4
      refine lv_tableIn (tgt := 80) C.1 C.2.1 d_FF_vehicle_13 (by decide) (by decide) rfl (by decide) ?_
      refine lv_aload_n C.1 C.2.1 d_FF_vehicle_80 rfl (lo_at hl 3 rfl) ?_
      refine pg_getN C hE hM (hS.vh u hu).1 (hS.vh u hu).2 rfl in_Veh 6 (Nat.le_of_ble_eq_true rfl) nw_488 rfl rfl d_FF_vehicle_81 ?_
      refine cg_iret C hr hlk hM d_FF_vehicle_84 ?_
      refine ⟨?_, rfl⟩
      unfold veh
      rw [if_pos ((inb_iff (by omega) hJ.n0.1).mpr ⟨u, rfl, hu⟩), show ix (nI u) = u from nI_clamp (by omega)]
      subst he1
      rfl
    by_cases hs1_5 : sx1 = 5
    · subst hs1_5
      refine lv_tableIn (tgt := 85) C.1 C.2.1 d_FF_vehicle_13 (by decide) (by decide) rfl (by decide) ?_
      refine lv_aload_n C.1 C.2.1 d_FF_vehicle_85 rfl (lo_at hl 3 rfl) ?_
      refine pg_getN C hE hM (hS.vh u hu).1 (hS.vh u hu).2 rfl in_Veh 2 (Nat.le_of_ble_eq_true rfl) nw_480 rfl rfl d_FF_vehicle_86 ?_
      obtain ⟨_, _, hc_vl⟩ := (hS.vl u hu).cell
      refine cg_callV C hE hM (q_size l G (hS.vl u hu)) (hS.vl u hu).1 hc_vl rfl tw_287 cy_AL_size ⟨(Nat.le_of_ble_eq_true rfl), (Nat.le_of_ble_eq_true rfl)⟩ rfl hl.1 rfl (Nat.le_of_ble_eq_true rfl) ⟨Nat.zero_le _, Nat.zero_le _⟩ d_FF_vehicle_89 (fun x9 f13 H1 locs1 hp hM => ?_)
      obtain ⟨rfl, h9⟩ := hp
      rw [h9] at hM
      clear h9
      refine W.eq (g2 := F0 m 92 ls [_]) rfl ?_
      refine cg_iret C hr hlk hM d_FF_vehicle_92 ?_
      refine ⟨?_, rfl⟩
      unfold veh
      rw [if_pos ((inb_iff (by omega) hJ.n0.1).mpr ⟨u, rfl, hu⟩), show ix (nI u) = u from nI_clamp (by omega)]
      subst he1
      exact congrArg (fun z => some (Value.int z)) (hJ.cn u hu).1.1.symm
    by_cases hs1_6 : sx1 = 6
    · subst hs1_6
      refine lv_tableIn (tgt := 93) C.1 C.2.1 d_FF_vehicle_13 (by decide) (by decide) rfl (by decide) ?_
      refine lv_aload_n C.1 C.2.1 d_FF_vehicle_93 rfl (lo_at hl 3 rfl) ?_
      refine pg_getN C hE hM (hS.vh u hu).1 (hS.vh u hu).2 rfl in_Veh 7 (Nat.le_of_ble_eq_true rfl) nw_490 rfl rfl d_FF_vehicle_94 ?_
      refine cg_iret C hr hlk hM d_FF_vehicle_97 ?_
      refine ⟨?_, rfl⟩
      unfold veh
      rw [if_pos ((inb_iff (by omega) hJ.n0.1).mpr ⟨u, rfl, hu⟩), show ix (nI u) = u from nI_clamp (by omega)]
      subst he1
      rfl
    refine lv_tableOut (tgt := 98) C.1 C.2.1 d_FF_vehicle_13 (sw_out7 hs1_0 hs1_1 hs1_2 hs1_3 hs1_4 hs1_5 hs1_6) (by decide) ?_
    refine lv_iconst (v := (-1)) C.1 C.2.1 d_FF_vehicle_98 (by decide) ?_
    refine cg_iret C hr hlk hM d_FF_vehicle_99 ?_
    refine ⟨?_, rfl⟩
    unfold veh
    rw [if_pos ((inb_iff (by omega) hJ.n0.1).mpr ⟨u, rfl, hu⟩), show ix (nI u) = u from nI_clamp (by omega)]
    rw [he1] at hs1_0 hs1_1 hs1_2 hs1_3 hs1_4 hs1_5 hs1_6
    rw [if_neg hs1_0, if_neg hs1_1, if_neg hs1_2, if_neg hs1_3, if_neg hs1_4, if_neg hs1_5, if_neg hs1_6]
  · subst hx9
    refine W.eq (g2 := F0 m 5 ls [_]) rfl ?_
    refine lo_astore_nN C hl d_FF_vehicle_5 (Nat.le_of_ble_eq_true rfl) rfl (fun ls hl => ?_)
    refine lv_aload_nN C.1 C.2.1 d_FF_vehicle_6 rfl (lo_at hl 3 rfl) ?_
    refine lv_ifnonnullN C.1 C.2.1 d_FF_vehicle_7 ?_
    refine lv_iconst (v := (-1)) C.1 C.2.1 d_FF_vehicle_10 (by decide) ?_
    refine cg_iret C hr hlk hM d_FF_vehicle_11 ?_
    refine ⟨?_, rfl⟩
    unfold veh
    rw [if_neg (fun z => hu9 ((inb_iff (by omega) hJ.n0.1).mp z))]
set_option maxHeartbeats 4000000 in
set_option maxRecDepth 100000 in
theorem k_FF_move (l : Launch) (G : GG) {P : List Nat} {f : Nat → va_E} {o : Nat} {D : Nat → Nat → Nat} {C9 : Nat → Nat} {T : TS} (hS : cS G P f o D C9 T) (hJ : JI T.v T.A T.k) (u0 i0 w0 : Int32)  : ct0 l G y_FF_move c_FF_move 6 (some .int) 3 64 [.ref o, .int u0, .int i0, .int w0] P f (fun x f1 => x = some (.int (mov T.v T.A u0 i0 w0)) ∧ f1 = f) := by
  refine ct_intro (by decide) [some (.ref o), some (.int u0), some (.int i0), some (.int w0), none, none] rfl rfl (Nat.le_of_ble_eq_true rfl) ?_
  intro p e s m below meth c ls C hr hlk hnm hE hM hl
  have hb0 := hJ.n0.2
  refine lv_aload_n C.1 C.2.1 d_FF_move_0 rfl (lo_at hl 0 rfl) ?_
  refine lv_iload_n C.1 C.2.1 d_FF_move_1 rfl (lo_at hl 1 rfl) ?_
  refine cg_callV C hE hM (k_FF_vehicleNumbered l G hS hJ.n0.2 _) hS.ff.1 hS.ff.2 rfl tw_176 cy_FF_vehicleNumbered ⟨(Nat.le_of_ble_eq_true rfl), (Nat.le_of_ble_eq_true rfl)⟩ rfl hl.1 rfl (Nat.le_of_ble_eq_true rfl) ⟨Nat.zero_le _, Nat.zero_le _⟩ d_FF_move_2 (fun x9 f11 H1 locs1 hp hM => ?_)
  obtain ⟨hp, h9⟩ := hp; rw [h9] at hM; clear h9; rcases hp with ⟨u, hu9, hu, hx9⟩ | ⟨hu9, hx9⟩
  · subst hx9
    subst hu9
    refine W.eq (g2 := F0 m 5 ls [_]) rfl ?_
    refine lo_astore C hl d_FF_move_5 (Nat.le_of_ble_eq_true rfl) rfl (fun ls hl => ?_)
    refine lv_aload C.1 C.2.1 d_FF_move_7 (lo_at hl 4 rfl) ?_
    refine lv_ifnull C.1 C.2.1 d_FF_move_9 ?_
    refine lv_iload_n C.1 C.2.1 d_FF_move_12 rfl (lo_at hl 2 rfl) ?_
    refine lv_if_lt (tgt := 28) C.1 C.2.1 d_FF_move_13 (by decide) (fun hc13 => ?_) (fun hc13 => ?_)
    · refine lv_iconst (v := (-1)) C.1 C.2.1 d_FF_move_28 (by decide) ?_
      refine cg_iret C hr hlk hM d_FF_move_29 ?_
      refine ⟨?_, rfl⟩
      unfold mov
      rw [if_neg (fun z => z.2.1.1 hc13)]
    · refine lv_iload_n C.1 C.2.1 d_FF_move_16 rfl (lo_at hl 2 rfl) ?_
      refine lv_aload C.1 C.2.1 d_FF_move_17 (lo_at hl 4 rfl) ?_
      refine pg_getN C hE hM (hS.vh u hu).1 (hS.vh u hu).2 rfl in_Veh 2 (Nat.le_of_ble_eq_true rfl) nw_480 rfl rfl d_FF_move_19 ?_
      obtain ⟨_, _, hc_vl⟩ := (hS.vl u hu).cell
      refine cg_callV C hE hM (q_size l G (hS.vl u hu)) (hS.vl u hu).1 hc_vl rfl tw_287 cy_AL_size ⟨(Nat.le_of_ble_eq_true rfl), (Nat.le_of_ble_eq_true rfl)⟩ rfl hl.1 rfl (Nat.le_of_ble_eq_true rfl) ⟨Nat.zero_le _, Nat.zero_le _⟩ d_FF_move_22 (fun x9 f12 H1 locs1 hp hM => ?_)
      obtain ⟨rfl, h9⟩ := hp
      rw [h9] at hM
      clear h9
      refine W.eq (g2 := F0 m 25 ls [_, _]) rfl ?_
      refine lv_icmp_lt (tgt := 30) C.1 C.2.1 d_FF_move_25 (by decide) (fun hc25 => ?_) (fun hc25 => ?_)
      · have hqb := hJ.qb hu
        obtain ⟨i, rfl, hi⟩ : ∃ i : Nat, i0 = nI i ∧ i < T.k.q 1 u := by
          have h1 : ¬ i0.toInt < 0 := fun q => hc13 (Int32.lt_iff_toInt_lt.mpr q)
          have h2 := Int32.lt_iff_toInt_lt.mp hc25
          rw [nI_toInt (by omega)] at h2
          exact nI_ex (by omega) (by omega)
        refine lv_aload C.1 C.2.1 d_FF_move_30 (lo_at hl 4 rfl) ?_
        refine pg_getN C hE hM (hS.vh u hu).1 (hS.vh u hu).2 rfl in_Veh 2 (Nat.le_of_ble_eq_true rfl) nw_480 rfl rfl d_FF_move_32 ?_
        refine lv_iload_n C.1 C.2.1 d_FF_move_35 rfl (lo_at hl 2 rfl) ?_
        obtain ⟨_, _, hc_vl⟩ := (hS.vl u hu).cell
        refine cg_callV C hE hM (q_get l G (hS.vl u hu) i hi) (hS.vl u hu).1 hc_vl rfl tw_292 cy_AL_get ⟨(Nat.le_of_ble_eq_true rfl), (Nat.le_of_ble_eq_true rfl)⟩ rfl hl.1 rfl (Nat.le_of_ble_eq_true rfl) ⟨Nat.zero_le _, Nat.zero_le _⟩ d_FF_move_36 (fun x9 f13 H1 locs1 hp hM => ?_)
        obtain ⟨rfl, h9⟩ := hp
        rw [h9] at hM
        clear h9
        refine W.eq (g2 := F0 m 39 ls [_]) rfl ?_
        refine cg_cast C hE hM (hS.mv u hu i hi).1 (hS.mv u hu i hi).2 rfl tw_293 d_FF_move_39 ?_
        refine lo_astore C hl d_FF_move_42 (Nat.le_of_ble_eq_true rfl) rfl (fun ls hl => ?_)
        refine lv_iload_n C.1 C.2.1 d_FF_move_44 rfl (lo_at hl 3 rfl) ?_
        refine lv_topi (fun sx1 he1 => ?_)
        by_cases hs1_0 : sx1 = 0
        · subst hs1_0
          refine lv_lookup (tgt := 72) C.1 C.2.1 d_FF_move_45 (by decide) rfl (by decide) ?_
          refine lv_aload C.1 C.2.1 d_FF_move_72 (lo_at hl 5 rfl) ?_
          refine cg_callV C hE hM (k_Mov_place l G _ _ _ (hS.mv u hu i hi).1 (hS.mv u hu i hi).2) (hS.mv u hu i hi).1 (hS.mv u hu i hi).2 rfl tw_294 cy_Mov_place ⟨(Nat.le_of_ble_eq_true rfl), (Nat.le_of_ble_eq_true rfl)⟩ rfl hl.1 rfl (Nat.le_of_ble_eq_true rfl) ⟨Nat.zero_le _, Nat.zero_le _⟩ d_FF_move_74 (fun x9 f14 H1 locs1 hp hM => ?_)
          obtain ⟨rfl, h9⟩ := hp
          rw [h9] at hM
          clear h9
          refine W.eq (g2 := F0 m 77 ls [_]) rfl ?_
          refine cg_iret C hr hlk hM d_FF_move_77 ?_
          refine ⟨?_, rfl⟩
          unfold mov
          subst he1
          have hm : movQ T.v T.A (nI u) (nI i) 0 := ⟨(inb_iff (by omega) hJ.n0.1).mpr ⟨u, rfl, hu⟩, by rw [show ix (nI u) = u from nI_clamp (by omega), (hJ.cn u hu).1.1]; exact (inb_iff (by omega) rfl).mpr ⟨i, rfl, hi⟩, by decide⟩
          obtain ⟨-, h20, h21⟩ := hJ.vin hu hi
          rw [if_pos hm, if_pos rfl, h20]
        by_cases hs1_1 : sx1 = 1
        · subst hs1_1
          refine lv_lookup (tgt := 78) C.1 C.2.1 d_FF_move_45 (by decide) rfl (by decide) ?_
          refine lv_aload C.1 C.2.1 d_FF_move_78 (lo_at hl 5 rfl) ?_
          refine cg_callV C hE hM (k_Mov_time l G _ _ _ (hS.mv u hu i hi).1 (hS.mv u hu i hi).2) (hS.mv u hu i hi).1 (hS.mv u hu i hi).2 rfl tw_295 cy_Mov_time ⟨(Nat.le_of_ble_eq_true rfl), (Nat.le_of_ble_eq_true rfl)⟩ rfl hl.1 rfl (Nat.le_of_ble_eq_true rfl) ⟨Nat.zero_le _, Nat.zero_le _⟩ d_FF_move_80 (fun x9 f14 H1 locs1 hp hM => ?_)
          obtain ⟨rfl, h9⟩ := hp
          rw [h9] at hM
          clear h9
          refine W.eq (g2 := F0 m 83 ls [_]) rfl ?_
          refine cg_iret C hr hlk hM d_FF_move_83 ?_
          refine ⟨?_, rfl⟩
          unfold mov
          subst he1
          have hm : movQ T.v T.A (nI u) (nI i) 1 := ⟨(inb_iff (by omega) hJ.n0.1).mpr ⟨u, rfl, hu⟩, by rw [show ix (nI u) = u from nI_clamp (by omega), (hJ.cn u hu).1.1]; exact (inb_iff (by omega) rfl).mpr ⟨i, rfl, hi⟩, by decide⟩
          obtain ⟨-, h20, h21⟩ := hJ.vin hu hi
          rw [if_pos hm, if_neg (by decide), h21]
        refine lv_lookup (off := 39) (tgt := 84) C.1 C.2.1 d_FF_move_45 (by decide) (((lv_osw hs1_0 (by decide)).trans ((lv_osw hs1_1 (by decide)).trans rfl))) (by decide) ?_
        refine lv_iconst (v := (-1)) C.1 C.2.1 d_FF_move_84 (by decide) ?_
        refine cg_iret C hr hlk hM d_FF_move_85 ?_
        refine ⟨?_, rfl⟩
        unfold mov
        rw [he1] at hs1_0 hs1_1
        rw [if_neg (fun z => ?_)]
        obtain ⟨y1, y2⟩ := z.2.2
        rw [Int32.lt_iff_toInt_lt] at y1 y2
        have e0 : (0 : Int32).toInt = 0 := by decide
        have e1 : (1 : Int32).toInt = 1 := by decide
        rw [e0] at y1
        rw [e1] at y2
        rcases (show w0.toInt = 0 ∨ w0.toInt = 1 by omega) with y | y
        · exact hs1_0 (Int32.toInt_inj.mp (y.trans e0.symm))
        · exact hs1_1 (Int32.toInt_inj.mp (y.trans e1.symm))
      · refine lv_iconst (v := (-1)) C.1 C.2.1 d_FF_move_28 (by decide) ?_
        refine cg_iret C hr hlk hM d_FF_move_29 ?_
        refine ⟨?_, rfl⟩
        unfold mov
        rw [if_neg (fun z => hc25 ?_)]
        have hqb := hJ.qb hu
        have z2 := z.2.1
        rw [show ix (nI u) = u from nI_clamp (by omega), (hJ.cn u hu).1.1] at z2
        obtain ⟨i, rfl, hi⟩ := (inb_iff (by omega) rfl).mp z2
        exact (nI_ltI (by omega) (by omega)).mpr hi
  · subst hx9
    refine W.eq (g2 := F0 m 5 ls [_]) rfl ?_
    refine lo_astoreN C hl d_FF_move_5 (Nat.le_of_ble_eq_true rfl) rfl (fun ls hl => ?_)
    refine lv_aloadN C.1 C.2.1 d_FF_move_7 (lo_at hl 4 rfl) ?_
    refine lv_ifnullN (tgt := 28) C.1 C.2.1 d_FF_move_9 (by decide) ?_
    refine lv_iconst (v := (-1)) C.1 C.2.1 d_FF_move_28 (by decide) ?_
    refine cg_iret C hr hlk hM d_FF_move_29 ?_
    refine ⟨?_, rfl⟩
    unfold mov
    rw [if_neg (fun z => hu9 ((inb_iff (by omega) hJ.n0.1).mp z.1))]
set_option maxHeartbeats 4000000 in
set_option maxRecDepth 100000 in
theorem k_FF_taskOf (l : Launch) (G : GG) {P : List Nat} {f : Nat → va_E} {o : Nat} {D : Nat → Nat → Nat} {C9 : Nat → Nat} {T : TS} (hS : cS G P f o D C9 T) (hJ : JI T.v T.A T.k) (t0 w0 : Int32)  : ct0 l G y_FF_taskOf c_FF_taskOf 4 (some .int) 3 64 [.ref o, .int t0, .int w0] P f (fun x f1 => x = some (.int (tko T.v T.A t0 w0)) ∧ f1 = f) := by
  refine ct_intro (by decide) [some (.ref o), some (.int t0), some (.int w0), none] rfl rfl (Nat.le_of_ble_eq_true rfl) ?_
  intro p e s m below meth c ls C hr hlk hnm hE hM hl
  have hb2 := hJ.n2.2
  refine lv_iload_n C.1 C.2.1 d_FF_taskOf_0 rfl (lo_at hl 1 rfl) ?_
  refine lv_if_lt (tgt := 15) C.1 C.2.1 d_FF_taskOf_1 (by decide) (fun hc1 => ?_) (fun hc1 => ?_)
  · refine lv_iconst (v := (-1)) C.1 C.2.1 d_FF_taskOf_15 (by decide) ?_
    refine cg_iret C hr hlk hM d_FF_taskOf_16 ?_
    refine ⟨?_, rfl⟩
    unfold tko
    rw [if_neg (fun z => z.1 hc1)]
  · refine lv_iload_n C.1 C.2.1 d_FF_taskOf_4 rfl (lo_at hl 1 rfl) ?_
    refine lv_aload_n C.1 C.2.1 d_FF_taskOf_5 rfl (lo_at hl 0 rfl) ?_
    refine pg_get C hE hM hS.ff.1 hS.ff.2 rfl in_FF 2 (Nat.le_of_ble_eq_true rfl) tw_87 rfl rfl d_FF_taskOf_6 ?_
    obtain ⟨_, _, hc_tl⟩ := hS.tl.cell
    refine cg_callV C hE hM (q_size l G hS.tl) hS.tl.1 hc_tl rfl tw_287 cy_AL_size ⟨(Nat.le_of_ble_eq_true rfl), (Nat.le_of_ble_eq_true rfl)⟩ rfl hl.1 rfl (Nat.le_of_ble_eq_true rfl) ⟨Nat.zero_le _, Nat.zero_le _⟩ d_FF_taskOf_9 (fun x9 f11 H1 locs1 hp hM => ?_)
    obtain ⟨rfl, h9⟩ := hp
    rw [h9] at hM
    clear h9
    refine W.eq (g2 := F0 m 12 ls [_, _]) rfl ?_
    refine lv_icmp_lt (tgt := 17) C.1 C.2.1 d_FF_taskOf_12 (by decide) (fun hc12 => ?_) (fun hc12 => ?_)
    · obtain ⟨t, rfl, ht⟩ : ∃ i : Nat, t0 = nI i ∧ i < T.k.N 2 := by
        have h1 : ¬ t0.toInt < 0 := fun q => hc1 (Int32.lt_iff_toInt_lt.mpr q)
        have h2 := Int32.lt_iff_toInt_lt.mp hc12
        rw [nI_toInt (by omega)] at h2
        exact nI_ex (by omega) (by omega)
      refine lv_aload_n C.1 C.2.1 d_FF_taskOf_17 rfl (lo_at hl 0 rfl) ?_
      refine pg_get C hE hM hS.ff.1 hS.ff.2 rfl in_FF 2 (Nat.le_of_ble_eq_true rfl) tw_87 rfl rfl d_FF_taskOf_18 ?_
      refine lv_iload_n C.1 C.2.1 d_FF_taskOf_21 rfl (lo_at hl 1 rfl) ?_
      obtain ⟨_, _, hc_tl⟩ := hS.tl.cell
      refine cg_callV C hE hM (q_get l G hS.tl t ht) hS.tl.1 hc_tl rfl tw_292 cy_AL_get ⟨(Nat.le_of_ble_eq_true rfl), (Nat.le_of_ble_eq_true rfl)⟩ rfl hl.1 rfl (Nat.le_of_ble_eq_true rfl) ⟨Nat.zero_le _, Nat.zero_le _⟩ d_FF_taskOf_22 (fun x9 f12 H1 locs1 hp hM => ?_)
      obtain ⟨rfl, h9⟩ := hp
      rw [h9] at hM
      clear h9
      refine W.eq (g2 := F0 m 25 ls [_]) rfl ?_
      refine cg_cast C hE hM (hS.tk t ht).1 (hS.tk t ht).2 rfl tw_303 d_FF_taskOf_25 ?_
      refine lo_astore_n C hl d_FF_taskOf_28 (Nat.le_of_ble_eq_true rfl) rfl (fun ls hl => ?_)
      refine lv_iload_n C.1 C.2.1 d_FF_taskOf_29 rfl (lo_at hl 2 rfl) ?_
      refine lv_topi (fun sx1 he1 => ?_)
      by_cases hs1_0 : sx1 = 0
      · subst hs1_0
        refine lv_lookup (tgt := 56) C.1 C.2.1 d_FF_taskOf_30 (by decide) rfl (by decide) ?_
        refine lv_aload_n C.1 C.2.1 d_FF_taskOf_56 rfl (lo_at hl 3 rfl) ?_
        refine pg_getN C hE hM (hS.tk t ht).1 (hS.tk t ht).2 rfl in_Tsk 2 (Nat.le_of_ble_eq_true rfl) nw_592 rfl rfl d_FF_taskOf_57 ?_
        refine cg_iret C hr hlk hM d_FF_taskOf_60 ?_
        refine ⟨?_, rfl⟩
        unfold tko
        rw [if_pos ((inb_iff (by omega) hJ.n2.1).mpr ⟨t, rfl, ht⟩), show ix (nI t) = t from nI_clamp (by omega)]
        subst he1
        rfl
      by_cases hs1_1 : sx1 = 1
      · subst hs1_1
        refine lv_lookup (tgt := 61) C.1 C.2.1 d_FF_taskOf_30 (by decide) rfl (by decide) ?_
        refine lv_aload_n C.1 C.2.1 d_FF_taskOf_61 rfl (lo_at hl 3 rfl) ?_
        refine pg_getN C hE hM (hS.tk t ht).1 (hS.tk t ht).2 rfl in_Tsk 3 (Nat.le_of_ble_eq_true rfl) nw_594 rfl rfl d_FF_taskOf_62 ?_
        refine cg_iret C hr hlk hM d_FF_taskOf_65 ?_
        refine ⟨?_, rfl⟩
        unfold tko
        rw [if_pos ((inb_iff (by omega) hJ.n2.1).mpr ⟨t, rfl, ht⟩), show ix (nI t) = t from nI_clamp (by omega)]
        subst he1
        rfl
      refine lv_lookup (off := 36) (tgt := 66) C.1 C.2.1 d_FF_taskOf_30 (by decide) (((lv_osw hs1_0 (by decide)).trans ((lv_osw hs1_1 (by decide)).trans rfl))) (by decide) ?_
      refine lv_iconst (v := (-1)) C.1 C.2.1 d_FF_taskOf_66 (by decide) ?_
      refine cg_iret C hr hlk hM d_FF_taskOf_67 ?_
      refine ⟨?_, rfl⟩
      unfold tko
      rw [if_pos ((inb_iff (by omega) hJ.n2.1).mpr ⟨t, rfl, ht⟩), show ix (nI t) = t from nI_clamp (by omega)]
      rw [he1] at hs1_0 hs1_1
      rw [if_neg hs1_0, if_neg hs1_1]
    · refine lv_iconst (v := (-1)) C.1 C.2.1 d_FF_taskOf_15 (by decide) ?_
      refine cg_iret C hr hlk hM d_FF_taskOf_16 ?_
      refine ⟨?_, rfl⟩
      unfold tko
      rw [if_neg (fun z => hc12 ?_)]
      obtain ⟨i, rfl, hi⟩ := (inb_iff (by omega) hJ.n2.1).mp z
      exact (nI_ltI (by omega) (by omega)).mpr hi
set_option maxHeartbeats 4000000 in
set_option maxRecDepth 100000 in
theorem k_FF_count (l : Launch) (G : GG) {P : List Nat} {f : Nat → va_E} {o : Nat} {D : Nat → Nat → Nat} {C9 : Nat → Nat} {T : TS} (hS : cS G P f o D C9 T) (hJ : JI T.v T.A T.k) (w0 : Int32)  : ct0 l G y_FF_count c_FF_count 2 (some .int) 1 20 [.ref o, .int w0] P f (fun x f1 => x = some (.int (cnt T.v w0)) ∧ f1 = f) := by
  refine ct_intro (by decide) [some (.ref o), some (.int w0)] rfl rfl (Nat.le_of_ble_eq_true rfl) ?_
  intro p e s m below meth c ls C hr hlk hnm hE hM hl
  obtain ⟨hm_sa, gS, hc_sa, hgS⟩ := hS.sa
  refine lv_aload_n C.1 C.2.1 d_FF_count_0 rfl (lo_at hl 0 rfl) ?_
  refine cg_callV C hE hM (k_FF_isOpen l G hS) hS.ff.1 hS.ff.2 rfl tw_117 cy_FF_isOpen ⟨(Nat.le_of_ble_eq_true rfl), (Nat.le_of_ble_eq_true rfl)⟩ rfl hl.1 rfl (Nat.le_of_ble_eq_true rfl) ⟨Nat.zero_le _, Nat.zero_le _⟩ d_FF_count_1 (fun x9 f11 H1 locs1 hp hM => ?_)
  obtain ⟨rfl, h9⟩ := hp
  rw [h9] at hM
  clear h9
  refine W.eq (g2 := F0 m 4 ls [_]) rfl ?_
  refine lv_if_ne (tgt := 9) C.1 C.2.1 d_FF_count_4 (by decide) (fun hc4 => ?_) (fun hc4 => ?_)
  · replace hc4 := bz_1.mp hc4
    refine lv_iload_n C.1 C.2.1 d_FF_count_9 rfl (lo_at hl 1 rfl) ?_
    refine lv_topi (fun sx1 he1 => ?_)
    by_cases hs1_0 : sx1 = 0
    · subst hs1_0
      refine lv_tableIn (tgt := 44) C.1 C.2.1 d_FF_count_10 (by decide) (by decide) rfl (by decide) ?_
      refine lv_aload_n C.1 C.2.1 d_FF_count_44 rfl (lo_at hl 0 rfl) ?_
      refine pg_get C hE hM hS.ff.1 hS.ff.2 rfl in_FF 2 (Nat.le_of_ble_eq_true rfl) tw_87 rfl rfl d_FF_count_45 ?_
      obtain ⟨_, _, hc_tl⟩ := hS.tl.cell
      refine cg_callV C hE hM (q_size l G hS.tl) hS.tl.1 hc_tl rfl tw_287 cy_AL_size ⟨(Nat.le_of_ble_eq_true rfl), (Nat.le_of_ble_eq_true rfl)⟩ rfl hl.1 rfl (Nat.le_of_ble_eq_true rfl) ⟨Nat.zero_le _, Nat.zero_le _⟩ d_FF_count_48 (fun x9 f12 H1 locs1 hp hM => ?_)
      obtain ⟨rfl, h9⟩ := hp
      rw [h9] at hM
      clear h9
      refine W.eq (g2 := F0 m 51 ls [_]) rfl ?_
      refine lv_aload_n C.1 C.2.1 d_FF_count_51 rfl (lo_at hl 0 rfl) ?_
      refine pg_get C hE hM hS.ff.1 hS.ff.2 rfl in_FF 6 (Nat.le_of_ble_eq_true rfl) tw_91 rfl rfl d_FF_count_52 ?_
      refine lv_isub C.1 C.2.1 d_FF_count_55 ?_
      refine cg_iret C hr hlk hM d_FF_count_56 ?_
      refine ⟨?_, rfl⟩
      unfold cnt
      rw [if_neg hc4]
      subst he1
      exact congrArg (fun z => some (Value.int (z - T.v 10))) hJ.n2.1.symm
    by_cases hs1_1 : sx1 = 1
    · subst hs1_1
      refine lv_tableIn (tgt := 57) C.1 C.2.1 d_FF_count_10 (by decide) (by decide) rfl (by decide) ?_
      refine lv_aload_n C.1 C.2.1 d_FF_count_57 rfl (lo_at hl 0 rfl) ?_
      refine pg_get C hE hM hS.ff.1 hS.ff.2 rfl in_FF 2 (Nat.le_of_ble_eq_true rfl) tw_87 rfl rfl d_FF_count_58 ?_
      obtain ⟨_, _, hc_tl⟩ := hS.tl.cell
      refine cg_callV C hE hM (q_size l G hS.tl) hS.tl.1 hc_tl rfl tw_287 cy_AL_size ⟨(Nat.le_of_ble_eq_true rfl), (Nat.le_of_ble_eq_true rfl)⟩ rfl hl.1 rfl (Nat.le_of_ble_eq_true rfl) ⟨Nat.zero_le _, Nat.zero_le _⟩ d_FF_count_61 (fun x9 f13 H1 locs1 hp hM => ?_)
      obtain ⟨rfl, h9⟩ := hp
      rw [h9] at hM
      clear h9
      refine W.eq (g2 := F0 m 64 ls [_]) rfl ?_
      refine cg_iret C hr hlk hM d_FF_count_64 ?_
      refine ⟨?_, rfl⟩
      unfold cnt
      rw [if_neg hc4]
      subst he1
      exact congrArg (fun z => some (Value.int z)) hJ.n2.1.symm
    by_cases hs1_2 : sx1 = 2
    · subst hs1_2
      refine lv_tableIn (tgt := 65) C.1 C.2.1 d_FF_count_10 (by decide) (by decide) rfl (by decide) ?_
      refine lv_aload_n C.1 C.2.1 d_FF_count_65 rfl (lo_at hl 0 rfl) ?_
      refine pg_get C hE hM hS.ff.1 hS.ff.2 rfl in_FF 7 (Nat.le_of_ble_eq_true rfl) tw_92 rfl rfl d_FF_count_66 ?_
      refine cg_iret C hr hlk hM d_FF_count_69 ?_
      refine ⟨?_, rfl⟩
      unfold cnt
      rw [if_neg hc4]
      subst he1
      rfl
    by_cases hs1_3 : sx1 = 3
    · subst hs1_3
      refine lv_tableIn (tgt := 70) C.1 C.2.1 d_FF_count_10 (by decide) (by decide) rfl (by decide) ?_
      refine lv_aload_n C.1 C.2.1 d_FF_count_70 rfl (lo_at hl 0 rfl) ?_
      refine pg_get C hE hM hS.ff.1 hS.ff.2 rfl in_FF 8 (Nat.le_of_ble_eq_true rfl) tw_93 rfl rfl d_FF_count_71 ?_
      refine cg_iret C hr hlk hM d_FF_count_74 ?_
      refine ⟨?_, rfl⟩
      unfold cnt
      rw [if_neg hc4]
      subst he1
      rfl
    by_cases hs1_4 : sx1 = 4
    · subst hs1_4
      refine lv_tableIn (tgt := 75) C.1 C.2.1 d_FF_count_10 (by decide) (by decide) rfl (by decide) ?_
      refine lv_aload_n C.1 C.2.1 d_FF_count_75 rfl (lo_at hl 0 rfl) ?_
      refine pg_get C hE hM hS.ff.1 hS.ff.2 rfl in_FF 4 (Nat.le_of_ble_eq_true rfl) tw_89 rfl rfl d_FF_count_76 ?_
      refine pg_alen C hE hM hm_sa (t0 := 0) (Nat.le_of_ble_eq_true rfl) hc_sa d_FF_count_79 ?_
      refine cg_iret C hr hlk hM d_FF_count_80 ?_
      refine ⟨?_, rfl⟩
      unfold cnt
      rw [if_neg hc4]
      subst he1
      exact congrArg (fun z => some (Value.int z)) hJ.n3.1.symm
    refine lv_tableOut (tgt := 81) C.1 C.2.1 d_FF_count_10 (sw_out5 hs1_0 hs1_1 hs1_2 hs1_3 hs1_4) (by decide) ?_
    refine lv_iconst (v := (-1)) C.1 C.2.1 d_FF_count_81 (by decide) ?_
    refine cg_iret C hr hlk hM d_FF_count_82 ?_
    refine ⟨?_, rfl⟩
    unfold cnt
    rw [if_neg hc4]
    rw [he1] at hs1_0 hs1_1 hs1_2 hs1_3 hs1_4
    rw [if_neg hs1_0, if_neg hs1_1, if_neg hs1_2, if_neg hs1_3, if_neg hs1_4]
  · replace hc4 := bz_0.mp hc4
    refine lv_iconst (v := (-1)) C.1 C.2.1 d_FF_count_7 (by decide) ?_
    refine cg_iret C hr hlk hM d_FF_count_8 ?_
    refine ⟨?_, rfl⟩
    unfold cnt
    rw [if_pos (Decidable.not_not.mp hc4)]
