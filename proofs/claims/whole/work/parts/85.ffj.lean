theorem tk_k (T : TS) : (snL (T.k.N 0) (moL (T.k.N 0) T)).k.N 4 = T.k.N 4 ∧ (snL (T.k.N 0) (moL (T.k.N 0) T)).k.N 0 = T.k.N 0 ∧ (snL (T.k.N 0) (moL (T.k.N 0) T)).v 30 = T.v 30 := by
  obtain ⟨a1, a2, a3, a4⟩ := snL_k (moL (T.k.N 0) T) (T.k.N 0)
  obtain ⟨b1, b2, b3, b4⟩ := moL_k T (T.k.N 0)
  exact ⟨by rw [a1 4 (by decide), b1], by rw [a1 0 (by decide), b1], by rw [a4, b4]⟩
theorem tkT_N4 (T : TS) : (tkT T).k.N 4 = (tkPl (snL (T.k.N 0) (moL (T.k.N 0) T))).k.N 4 := (grL2_k _ _).1 4 (by decide) (by decide)
theorem snd_v1 (v : Nat → Int32) : sndV v 1 = v 1 := by
  unfold sndV
  split
  · rfl
  · exact upd_ne _ _ (by decide)
theorem snL_v1 (T : TS) : ∀ u, (snL u T).v 1 = T.v 1 := by
  intro u
  induction u with
  | zero => rfl
  | succ u ih =>
    show (snD (snL u T) u).v 1 = _
    unfold snD
    split
    · exact (snd_v1 _).trans ih
    · exact ih
theorem moL_v1 (T : TS) (u : Nat) : (moL u T).v 1 = T.v 1 := by rw [(moL_k T u).2.2.2]
set_option maxHeartbeats 4000000 in
set_option maxRecDepth 100000 in
theorem k_FF_tick (l : Launch) (G : GG) {P : List Nat} {f : Nat → va_E} {o : Nat} {D : Nat → Nat → Nat} {C9 : Nat → Nat} {T : TS} (hS : cS G P f o D C9 T) {v : Nat → Int32} {A : Nat → Nat → Int32} (hJ : JI v A T.k) (hq : eqC v A T.v T.A) (hvo : T.v 1 = 1)  : ct l G y_FF_tick c_FF_tick 2 (some .int) 9 216 (24 + ((tkT T).k.N 4 - T.k.N 4) * 300) (3300 + ((tkT T).k.N 4 - T.k.N 4) * 30000) [.ref o] P f (fun x N f1 => x = some (.int (nI (moN T (T.k.N 0)))) ∧ ∃ D' C', cS G (P ++ N) f1 o D' C' (tkT T)) := by
  refine ct_intro (by decide) [some (.ref o), none] rfl rfl (Nat.le_of_ble_eq_true rfl) ?_
  intro p e s m below meth c ls C hr hlk hnm hE hM hl
  have hv0 : ¬ T.v 1 = 0 := by rw [hvo]; decide
  have hPN : P = P ++ [] := (List.append_nil P).symm
  refine lv_aload_n C.1 C.2.1 d_FF_tick_0 rfl (lo_at hl 0 rfl) ?_
  refine cg_callV C hE hM (k_FF_isOpen l G hS) hS.ff.1 hS.ff.2 rfl tw_117 cy_FF_isOpen ⟨(Nat.le_of_ble_eq_true rfl), (Nat.le_of_ble_eq_true rfl)⟩ rfl hl.1 rfl (Nat.le_of_ble_eq_true rfl) ⟨by (try show _ ≤ 24 + ((tkT T).k.N 4 - T.k.N 4) * 300); omega, by (try show _ ≤ 3300 + ((tkT T).k.N 4 - T.k.N 4) * 30000); omega⟩ d_FF_tick_1 (fun x9 f11 H1 locs1 hp hM => ?_)
  obtain ⟨rfl, h9⟩ := hp
  rw [h9] at hM
  clear h9
  refine W.eq (g2 := F0 m 4 ls [_]) rfl ?_
  refine lv_if_ne (tgt := 17) C.1 C.2.1 d_FF_tick_4 (by decide) (fun hc4 => ?_) (fun hc4 => False.elim (bz_0.mp hc4 hv0))
  refine lv_aload_n C.1 C.2.1 d_FF_tick_17 rfl (lo_at hl 0 rfl) ?_
  refine cg_callV C hE hM (k_FF_makeMoves l G hS hJ hq) hS.ff.1 hS.ff.2 rfl tw_613 cy_FF_makeMoves ⟨(Nat.le_of_ble_eq_true rfl), (Nat.le_of_ble_eq_true rfl)⟩ rfl hl.1 rfl (Nat.le_of_ble_eq_true rfl) ⟨by (try show _ ≤ 24 + ((tkT T).k.N 4 - T.k.N 4) * 300); omega, by (try show _ ≤ 3300 + ((tkT T).k.N 4 - T.k.N 4) * 30000); omega⟩ d_FF_tick_18 (fun x9 f12 H1 locs1 hp hM => ?_)
  obtain ⟨hx9, hS⟩ := hp
  subst hx9
  obtain ⟨v1, A1, hJ1, hq1⟩ := moL_KJ hJ hq (T.k.N 0) (Nat.le_refl _)
  obtain ⟨T1, hT1⟩ : ∃ T1, T1 = moL (T.k.N 0) T := ⟨_, rfl⟩
  have hX := moL_X T (T.k.N 0)
  have hN1 := (moL_k T (T.k.N 0)).1
  rw [← hT1] at hS hJ1 hq1 hX hN1
  have hv1 : T1.v 1 = 1 := by rw [hT1, moL_v1]; exact hvo
  refine W.eq (g2 := F0 m 21 ls [_]) rfl ?_
  refine lo_istore_n C hl d_FF_tick_21 (Nat.le_of_ble_eq_true rfl) rfl (fun ls hl => ?_)
  refine lv_aload_n C.1 C.2.1 d_FF_tick_22 rfl (lo_at hl 0 rfl) ?_
  refine cg_callVA C hE hM (k_FF_sendDones l G hS hJ1 hq1 (by rw [hN1]; exact hX)) hS.ff.1 hS.ff.2 rfl tw_625 cy_FF_sendDones ⟨(Nat.le_of_ble_eq_true rfl), (Nat.le_of_ble_eq_true rfl)⟩ rfl hl.1 rfl (Nat.le_of_ble_eq_true rfl) ⟨by (try show _ ≤ 24 + ((tkT T).k.N 4 - T.k.N 4) * 300); omega, by (try show _ ≤ 3300 + ((tkT T).k.N 4 - T.k.N 4) * 30000); omega⟩ d_FF_tick_23 (fun x9 N1 P1 f13 H1 locs1 hP1 hp hM => ?_)
  obtain ⟨hx9, D2, C2, hS⟩ := hp
  subst hx9
  rw [← hP1] at hS
  obtain ⟨v2, A2, hJ2, hq2⟩ := snL_KJ hJ1 hq1 (T1.k.N 0) (Nat.le_refl _)
  obtain ⟨T2, hT2⟩ : ∃ T2, T2 = snL (T1.k.N 0) T1 := ⟨_, rfl⟩
  have hT2e : T2 = snL (T.k.N 0) (moL (T.k.N 0) T) := by rw [hT2, hN1, hT1]
  have hN2 : T2.k.N 0 = T.k.N 0 := by rw [hT2e]; exact (tk_k T).2.1
  have hN24 : T2.k.N 4 = T.k.N 4 := by rw [hT2e]; exact (tk_k T).1
  have hv2 : T2.v 1 = 1 := by rw [hT2, snL_v1]; exact hv1
  have hK := tkT_N4 T
  rw [← hT2e] at hK
  rw [← hT2] at hS hJ2 hq2
  have hcs0 : T2.k.N 4 ≤ (tkPl T2).k.N 4 := (tkPl_k T2).2.2
  have hPN := hPN_app hPN hP1
  refine W.eq (g2 := F0 m 26 ls []) rfl ?_
  refine lv_aload_n C.1 C.2.1 d_FF_tick_26 rfl (lo_at hl 0 rfl) ?_
  refine pg_get C hE hM hS.ff.1 hS.ff.2 rfl in_FF 7 (Nat.le_of_ble_eq_true rfl) tw_92 rfl rfl d_FF_tick_27 ?_
  refine lv_iconst (v := 4) C.1 C.2.1 d_FF_tick_30 (by decide) ?_
  refine lv_irem C.1 C.2.1 d_FF_tick_31 (by decide) ?_
  refine lv_if_ne (tgt := 39) C.1 C.2.1 d_FF_tick_32 (by decide) (fun hc32 => ?_) (fun hc32 => ?_)
  · have hT3e : T2 = tkPl T2 := by unfold tkPl; exact (if_neg hc32).symm
    obtain ⟨T3, hT3⟩ : ∃ T3, T3 = T2 := ⟨_, rfl⟩
    rw [← hT3] at hS hJ2 hq2
    have hJ3 := hJ2
    have hq3 := hq2
    have hN3 : T3.k.N 0 = T.k.N 0 := by rw [hT3]; exact hN2
    replace hT3e : T3 = tkPl T2 := hT3.trans hT3e
    refine lv_aload_n C.1 C.2.1 d_FF_tick_39 rfl (lo_at hl 0 rfl) ?_
    refine cg_callVA C hE hM (k_FF_grantMoves l G hS hJ3 hq3) hS.ff.1 hS.ff.2 rfl tw_763 cy_FF_grantMoves ⟨(Nat.le_of_ble_eq_true rfl), (Nat.le_of_ble_eq_true rfl)⟩ rfl hl.1 rfl (Nat.le_of_ble_eq_true rfl) ⟨by (try show _ ≤ 24 + ((tkT T).k.N 4 - T.k.N 4) * 300); omega, by (try show _ ≤ 3300 + ((tkT T).k.N 4 - T.k.N 4) * 30000); omega⟩ d_FF_tick_40 (fun x9 N2 P2 f14 H1 locs1 hP2 hp hM => ?_)
    obtain ⟨hx9, D4, C4, hS⟩ := hp
    subst hx9
    rw [← hP2, hN3] at hS
    have hT4 : tkT T = (upd (grL2 (T.k.N 0) T3).v 30 ((grL2 (T.k.N 0) T3).v 30 + 1), (grL2 (T.k.N 0) T3).A, (grL2 (T.k.N 0) T3).k) := by rw [hT3e, hT2e]; rfl
    obtain ⟨T4, hT4e⟩ : ∃ T4, T4 = grL2 (T.k.N 0) T3 := ⟨_, rfl⟩
    rw [← hT4e] at hS hT4
    have hPN := hPN_app hPN hP2
    refine W.eq (g2 := F0 m 43 ls []) rfl ?_
    refine lv_aload_n C.1 C.2.1 d_FF_tick_43 rfl (lo_at hl 0 rfl) ?_
    refine lv_dup C.1 C.2.1 d_FF_tick_44 rfl ?_
    refine pg_get C hE hM hS.ff.1 hS.ff.2 rfl in_FF 7 (Nat.le_of_ble_eq_true rfl) tw_92 rfl rfl d_FF_tick_45 ?_
    refine lv_iconst (v := 1) C.1 C.2.1 d_FF_tick_48 (by decide) ?_
    refine lv_iadd C.1 C.2.1 d_FF_tick_49 ?_
    refine cg_put C hE hM hS.ff.1 hS.ff.2 rfl in_FF ok_FF n_FF 7 (Nat.le_of_ble_eq_true rfl) tw_92 rfl rfl rfl rfl rfl (Nat.le_of_ble_eq_true rfl) d_FF_tick_50 (fun f15 H1 locs1 hf15 hM => ?_)
    have hS := hS.put30 (y := T4.v 30 + 1) (ids_ne hE).1 (ids_ne hE).2 hf15
    rw [← hT4] at hS
    refine lv_iload_n C.1 C.2.1 d_FF_tick_53 rfl (lo_at hl 1 rfl) ?_
    refine pg_iret C hr hlk hM hPN (by omega) (by omega) d_FF_tick_54 ?_
    exact ⟨rfl, D4, C4, hPN ▸ hS⟩
  · refine lv_aload_n C.1 C.2.1 d_FF_tick_35 rfl (lo_at hl 0 rfl) ?_
    have hplE : tkPl T2 = plL (T2.k.N 2 - T2.k.N 4) T2 := by unfold tkPl; exact if_pos hc32
    rw [hplE] at hK hcs0
    refine cg_callVA C hE hM (k_FF_makePlans l G hS hJ2 hq2 hv2) hS.ff.1 hS.ff.2 rfl tw_652 cy_FF_makePlans ⟨(Nat.le_of_ble_eq_true rfl), (Nat.le_of_ble_eq_true rfl)⟩ rfl hl.1 rfl (Nat.le_of_ble_eq_true rfl) ⟨by show _ + ((plL (T2.k.N 2 - T2.k.N 4) T2).k.N 4 - T2.k.N 4) * 300 ≤ 24 + ((tkT T).k.N 4 - T.k.N 4) * 300; omega, by show _ + ((plL (T2.k.N 2 - T2.k.N 4) T2).k.N 4 - T2.k.N 4) * 30000 ≤ 3300 + ((tkT T).k.N 4 - T.k.N 4) * 30000; omega⟩ d_FF_tick_36 (fun x9 N2 P2 f14 H1 locs1 hP2 hp hM => ?_)
    obtain ⟨hx9, D3, C3, hS⟩ := hp
    subst hx9
    rw [← hP2] at hS
    obtain ⟨v3, A3, hJ3, hq3⟩ := plL_KJ (T2.k.N 2 - T2.k.N 4) T2 ⟨v2, A2, hJ2, hq2⟩
    obtain ⟨T3, hT3⟩ : ∃ T3, T3 = plL (T2.k.N 2 - T2.k.N 4) T2 := ⟨_, rfl⟩
    rw [← hT3] at hS hJ3 hq3
    have hT3e : T3 = tkPl T2 := by rw [hT3]; unfold tkPl; exact (if_pos hc32).symm
    have hN3 : T3.k.N 0 = T.k.N 0 := by rw [hT3e, (tkPl_k T2).1]; exact hN2
    have hPN := hPN_app hPN hP2
    refine W.eq (g2 := F0 m 39 ls []) rfl ?_
    refine lv_aload_n C.1 C.2.1 d_FF_tick_39 rfl (lo_at hl 0 rfl) ?_
    refine cg_callVA C hE hM (k_FF_grantMoves l G hS hJ3 hq3) hS.ff.1 hS.ff.2 rfl tw_763 cy_FF_grantMoves ⟨(Nat.le_of_ble_eq_true rfl), (Nat.le_of_ble_eq_true rfl)⟩ rfl hl.1 rfl (Nat.le_of_ble_eq_true rfl) ⟨by (try show _ ≤ 24 + ((tkT T).k.N 4 - T.k.N 4) * 300); omega, by (try show _ ≤ 3300 + ((tkT T).k.N 4 - T.k.N 4) * 30000); omega⟩ d_FF_tick_40 (fun x9 N3 P3 f15 H1 locs1 hP3 hp hM => ?_)
    obtain ⟨hx9, D4, C4, hS⟩ := hp
    subst hx9
    rw [← hP3, hN3] at hS
    have hT4 : tkT T = (upd (grL2 (T.k.N 0) T3).v 30 ((grL2 (T.k.N 0) T3).v 30 + 1), (grL2 (T.k.N 0) T3).A, (grL2 (T.k.N 0) T3).k) := by rw [hT3e, hT2e]; rfl
    obtain ⟨T4, hT4e⟩ : ∃ T4, T4 = grL2 (T.k.N 0) T3 := ⟨_, rfl⟩
    rw [← hT4e] at hS hT4
    have hPN := hPN_app hPN hP3
    refine W.eq (g2 := F0 m 43 ls []) rfl ?_
    refine lv_aload_n C.1 C.2.1 d_FF_tick_43 rfl (lo_at hl 0 rfl) ?_
    refine lv_dup C.1 C.2.1 d_FF_tick_44 rfl ?_
    refine pg_get C hE hM hS.ff.1 hS.ff.2 rfl in_FF 7 (Nat.le_of_ble_eq_true rfl) tw_92 rfl rfl d_FF_tick_45 ?_
    refine lv_iconst (v := 1) C.1 C.2.1 d_FF_tick_48 (by decide) ?_
    refine lv_iadd C.1 C.2.1 d_FF_tick_49 ?_
    refine cg_put C hE hM hS.ff.1 hS.ff.2 rfl in_FF ok_FF n_FF 7 (Nat.le_of_ble_eq_true rfl) tw_92 rfl rfl rfl rfl rfl (Nat.le_of_ble_eq_true rfl) d_FF_tick_50 (fun f16 H1 locs1 hf16 hM => ?_)
    have hS := hS.put30 (y := T4.v 30 + 1) (ids_ne hE).1 (ids_ne hE).2 hf16
    rw [← hT4] at hS
    refine lv_iload_n C.1 C.2.1 d_FF_tick_53 rfl (lo_at hl 1 rfl) ?_
    refine pg_iret C hr hlk hM hPN (by omega) (by omega) d_FF_tick_54 ?_
    exact ⟨rfl, D4, C4, hPN ▸ hS⟩
