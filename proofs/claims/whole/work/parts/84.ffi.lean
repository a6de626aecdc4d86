set_option maxHeartbeats 4000000 in
set_option maxRecDepth 100000 in
theorem k_FF_makePlans (l : Launch) (G : GG) {P : List Nat} {f : Nat → va_E} {o : Nat} {D : Nat → Nat → Nat} {C9 : Nat → Nat} {T : TS} (hS : cS G P f o D C9 T) {v : Nat → Int32} {A : Nat → Nat → Int32} (hJ : JI v A T.k) (hq : eqC v A T.v T.A) (hvo : T.v 1 = 1)  : ct l G y_FF_makePlans c_FF_makePlans 3 none 8 194 (((plL (T.k.N 2 - T.k.N 4) T).k.N 4 - T.k.N 4) * 300) (((plL (T.k.N 2 - T.k.N 4) T).k.N 4 - T.k.N 4) * 30000) [.ref o] P f (fun x N f1 => x = none ∧ ∃ D' C', cS G (P ++ N) f1 o D' C' (plL (T.k.N 2 - T.k.N 4) T)) := by
  refine ct_intro (by decide) [some (.ref o), none, none] rfl rfl (Nat.le_of_ble_eq_true rfl) ?_
  intro p e s m below meth c ls C hr hlk hnm hE hM hl
  have hcO := hS.ff.2
  have h10T : T.v 10 = nI (T.k.N 4) := by rw [← hq.1 10 rfl]; exact hJ.n4.1
  have hPN : P = P ++ [] := (List.append_nil P).symm
  refine lv_aload_n C.1 C.2.1 d_FF_makePlans_0 rfl (lo_at hl 0 rfl) ?_
  refine pg_get C hE hM hS.ff.1 hcO rfl in_FF 6 (Nat.le_of_ble_eq_true rfl) tw_91 rfl rfl d_FF_makePlans_1 ?_
  rw [h10T]
  refine lo_istore_n C hl d_FF_makePlans_4 (Nat.le_of_ble_eq_true rfl) rfl (fun ls hl => ?_)
  refine W.widen (k := (T.k.N 4 - T.k.N 4) * 300) (n := (T.k.N 4 - T.k.N 4) * 30000) (Nat.zero_le _) (Nat.zero_le _) ?_
  refine W.loop (α := (Nat) × (TS) × (Nat → Nat → Nat) × (Nat → Nat) × (Array Slot) × (List Nat) × (Heap) × (List Loc) × (Nat → va_E)) (fun zz => 25 - zz.1) (fun zz => (zz.1 = (zz.2.1).k.N 4) ∧ (T.k.N 4 ≤ zz.1) ∧ ((zz.2.1).v 1 = 1) ∧ (KJ (zz.2.1)) ∧ (plL ((zz.2.1).k.N 2 - (zz.2.1).k.N 4) (zz.2.1) = plL (T.k.N 2 - T.k.N 4) T) ∧ ((zz.2.1).k.N 2 = T.k.N 2) ∧ (cS G (P ++ zz.2.2.2.2.2.1) zz.2.2.2.2.2.2.2.2 o zz.2.2.1 zz.2.2.2.1 zz.2.1) ∧ lo zz.2.2.2.2.1 [some (.ref o), some (.int (nI zz.1)), none] ∧ pgS G (pgA P s.heap.size) s.heap (P ++ zz.2.2.2.2.2.1) zz.2.2.2.2.2.2.2.2 zz.2.2.2.2.2.2.1 zz.2.2.2.2.2.2.2.1) (fun zz => zz.2.2.2.2.2.2.1) (fun zz => zz.2.2.2.2.2.2.2.1) (fun zz => (zz.1 - T.k.N 4) * 300) (fun zz => (zz.1 - T.k.N 4) * 30000) (fun zz => F0 m 5 zz.2.2.2.2.1 []) ?_ ((T.k.N 4), T, D, C9, ls, _, s.heap, [], f) ⟨rfl, Nat.le_refl _, hvo, ⟨_, _, hJ, hq⟩, rfl, rfl, (show cS G (P ++ []) f o D C9 T from (List.append_nil P).symm ▸ hS), lo_weak hl ⟨rfl, rfl, trivial⟩, (hPN ▸ hM)⟩
  rintro ⟨n, Tc, D1, C1, ls, N1, H1, locs1, f1⟩ ⟨hn, hnT, hv1, hKJ, hpl, hN2, hS, hl, hM⟩ ih5
  dsimp only at hn hnT hv1 hKJ hpl hN2 hS hl hM
  show W _ _ _ _ _ _ _ _ _ _ _ _ ((n - T.k.N 4) * 300) ((n - T.k.N 4) * 30000) _ (F0 m 5 ls [])
  have hPN : P ++ N1 = P ++ N1 := rfl
  have hcO := hS.ff.2
  have hkk := (plL_k (Tc.k.N 2 - Tc.k.N 4) Tc).2.2.2
  rw [hpl, ← hn] at hkk
  refine lv_iload_n C.1 C.2.1 d_FF_makePlans_5 rfl (lo_at hl 1 rfl) ?_
  refine lv_aload_n C.1 C.2.1 d_FF_makePlans_6 rfl (lo_at hl 0 rfl) ?_
  refine pg_get C hE hM hS.ff.1 hcO rfl in_FF 2 (Nat.le_of_ble_eq_true rfl) tw_87 rfl rfl d_FF_makePlans_7 ?_
  obtain ⟨_, _, hc_tl⟩ := hS.tl.cell
  refine cg_callV C hE hM (q_size l G hS.tl) hS.tl.1 hc_tl rfl tw_287 cy_AL_size ⟨(Nat.le_of_ble_eq_true rfl), (Nat.le_of_ble_eq_true rfl)⟩ rfl hl.1 rfl (Nat.le_of_ble_eq_true rfl) ⟨by (try show _ ≤ ((plL (T.k.N 2 - T.k.N 4) T).k.N 4 - T.k.N 4) * 300); omega, by (try show _ ≤ ((plL (T.k.N 2 - T.k.N 4) T).k.N 4 - T.k.N 4) * 30000); omega⟩ d_FF_makePlans_10 (fun x9 f11 H1 locs1 hp hM => ?_)
  obtain ⟨rfl, h9⟩ := hp
  rw [h9] at hM
  clear h9
  refine W.eq (g2 := F0 m 13 ls [_, _]) rfl ?_
  refine lv_icmp_ge (tgt := 107) C.1 C.2.1 d_FF_makePlans_13 (by decide) (fun hc13 => ?_) (fun hc13 => ?_)
  · refine pg_vret C hr hlk hM hPN (by omega) (by omega) d_FF_makePlans_107 ?_
    obtain ⟨v2, A2, hJ2, hq2⟩ := hKJ
    have hn9 : Tc.k.N 2 ≤ n := nI_leN (by have := hJ2.n2.2; omega) (by have := hJ2.np; omega) hc13
    have hend : plL (T.k.N 2 - T.k.N 4) T = Tc := hpl.symm.trans (plL_e (fun T' z => by have := z.1; omega))
    rw [hend]
    exact ⟨rfl, D1, C1, hS⟩
  · obtain ⟨v2, A2, hJ2, hq2⟩ := hKJ
    have hn2 : n < Tc.k.N 2 := nI_ltN (by have := hJ2.np; have := hn; omega) (by have := hJ2.n2.2; omega) hc13
    have hnp : Tc.k.N 4 < Tc.k.N 2 := by omega
    refine lv_aload_n C.1 C.2.1 d_FF_makePlans_16 rfl (lo_at hl 0 rfl) ?_
    refine cg_callV C hE hM (k_FF_lowestIdle l G hS hJ2 hq2) hS.ff.1 hcO rfl tw_656 cy_FF_lowestIdle ⟨(Nat.le_of_ble_eq_true rfl), (Nat.le_of_ble_eq_true rfl)⟩ rfl hl.1 rfl (Nat.le_of_ble_eq_true rfl) ⟨by (try show _ ≤ ((plL (T.k.N 2 - T.k.N 4) T).k.N 4 - T.k.N 4) * 300); omega, by (try show _ ≤ ((plL (T.k.N 2 - T.k.N 4) T).k.N 4 - T.k.N 4) * 30000); omega⟩ d_FF_makePlans_17 (fun x9 f12 H1 locs1 hp hM => ?_)
    obtain ⟨hp, h9⟩ := hp; rw [h9] at hM; clear h9; rcases hp with ⟨w, hid, hx9⟩ | ⟨hid, hx9⟩
    · subst hx9
      have hw := hid.1
      refine W.eq (g2 := F0 m 20 ls [_]) rfl ?_
      refine lo_astore_n C hl d_FF_makePlans_20 (Nat.le_of_ble_eq_true rfl) rfl (fun ls hl => ?_)
      have hv0 : ¬ Tc.v 1 = 0 := by rw [hv1]; decide
      have hcO := hS.ff.2
      rw [ffF_1 hv0] at hcO
      obtain ⟨S, Wy, F, hP, hS0⟩ := (hS.pl.resolve_left hv0).2
      refine lv_aload_n C.1 C.2.1 d_FF_makePlans_21 rfl (lo_at hl 0 rfl) ?_
      refine pg_get C hE hM hS.ff.1 hcO rfl in_FF 5 (Nat.le_of_ble_eq_true rfl) tw_90 rfl rfl d_FF_makePlans_22 ?_
      refine lv_ifnull C.1 C.2.1 d_FF_makePlans_25 ?_
      refine lv_aload_n C.1 C.2.1 d_FF_makePlans_28 rfl (lo_at hl 2 rfl) ?_
      refine lv_ifnull C.1 C.2.1 d_FF_makePlans_29 ?_
      obtain ⟨g1f, g2f, f3, f4, f5, f6⟩ := hJ2.fsn hq2 hnp
      have hcl : Tc.k.N 6 < 1000000 := by have := hJ2.n6.2; have := hJ2.np; omega
      have h29 : Tc.v 29 = nI (Tc.k.N 6) := by rw [← hq2.1 29 rfl]; exact hJ2.n6.1
      have hct : f1 (D1 4 n) = .inr (7, [.int (nI (tfs Tc)), .int (nI (tsn Tc)), .int (Tc.A 13 n), .int (Tc.A 18 n)]) := by rw [← g1f, ← g2f, hq2.2 11 rfl, hq2.2 12 rfl, ← hn]; exact (hS.tk n hn2).2
      refine lv_aload_n C.1 C.2.1 d_FF_makePlans_32 rfl (lo_at hl 0 rfl) ?_
      refine pg_get C hE hM hS.ff.1 hcO rfl in_FF 5 (Nat.le_of_ble_eq_true rfl) tw_90 rfl rfl d_FF_makePlans_33 ?_
      refine lv_aload_n C.1 C.2.1 d_FF_makePlans_36 rfl (lo_at hl 2 rfl) ?_
      refine lv_aload_n C.1 C.2.1 d_FF_makePlans_37 rfl (lo_at hl 0 rfl) ?_
      refine pg_get C hE hM hS.ff.1 hcO rfl in_FF 2 (Nat.le_of_ble_eq_true rfl) tw_87 rfl rfl d_FF_makePlans_38 ?_
      refine lv_iload_n C.1 C.2.1 d_FF_makePlans_41 rfl (lo_at hl 1 rfl) ?_
      obtain ⟨_, _, hc_tl⟩ := hS.tl.cell
      refine cg_callV C hE hM (q_get l G hS.tl n hn2) hS.tl.1 hc_tl rfl tw_292 cy_AL_get ⟨(Nat.le_of_ble_eq_true rfl), (Nat.le_of_ble_eq_true rfl)⟩ rfl hl.1 rfl (Nat.le_of_ble_eq_true rfl) ⟨by (try show _ ≤ ((plL (T.k.N 2 - T.k.N 4) T).k.N 4 - T.k.N 4) * 300); omega, by (try show _ ≤ ((plL (T.k.N 2 - T.k.N 4) T).k.N 4 - T.k.N 4) * 30000); omega⟩ d_FF_makePlans_42 (fun x9 f13 H1 locs1 hp hM => ?_)
      obtain ⟨rfl, h9⟩ := hp
      rw [h9] at hM
      clear h9
      refine W.eq (g2 := F0 m 45 ls [_, _, _]) rfl ?_
      refine cg_cast C hE hM (hS.tk n hn2).1 (hS.tk n hn2).2 rfl tw_303 d_FF_makePlans_45 ?_
      refine lv_aload_n C.1 C.2.1 d_FF_makePlans_48 rfl (lo_at hl 0 rfl) ?_
      refine pg_get C hE hM hS.ff.1 hcO rfl in_FF 8 (Nat.le_of_ble_eq_true rfl) tw_93 rfl rfl d_FF_makePlans_49 ?_
      rw [h29]
      refine cg_callV C hE hM (k_Pln_find l G hP w (Tc.k.N 0) (D1 1) (Tc.k.q 0) (D1 2) (fun u => C1 (10 + u)) (Tc.k.q 1) (fun u => D1 (10 + u)) Tc.k.ce Tc.k.tm (nqC (Tc.k.N 6) (Tc.k.q 1) Tc.k.tm) (Tc.k.N 6) hcl hw hJ2.n0.2 hS.va.2 hS.vj (fun u hu => hS.one hJ2 hq2 hu) (fun u hu => hJ2.vPurex hu) (hcomC hJ2 hq2 hS0 hw) (hJ2.pk w hw).2.1 (D1 4 n) (tfs Tc) (tsn Tc) _ _ f3 f4 (hS.tk n hn2).1 hct) hP.1.1 hP.2.2.1.1 rfl tw_664 cy_Pln_find ⟨(Nat.le_of_ble_eq_true rfl), (Nat.le_of_ble_eq_true rfl)⟩ rfl hl.1 rfl (Nat.le_of_ble_eq_true rfl) ⟨by (try show _ ≤ ((plL (T.k.N 2 - T.k.N 4) T).k.N 4 - T.k.N 4) * 300); omega, by (try show _ ≤ ((plL (T.k.N 2 - T.k.N 4) T).k.N 4 - T.k.N 4) * 30000); omega⟩ d_FF_makePlans_52 (fun x9 f14 H1 locs1 hp hM => ?_)
      rcases hp with ⟨hx9, S2, hl2, hno, S3, W3, F3, hS3, hP3⟩ | ⟨hx9, e, he1, he2, S2, S4, hl2, hyes, W1, hW1, hS4, hP4⟩
      · subst hx9
        have hS := hS.fnd (ids_ne hE).1 hv1 hJ2.n3.2 hP hP3 (fun k hk => by rw [hS3 k hk]; exact hS0 k hk)
        refine W.eq (g2 := F0 m 55 ls [_]) rfl ?_
        refine lv_if_ne (tgt := 59) C.1 C.2.1 d_FF_makePlans_55 (by decide) (fun hc55 => False.elim (hc55 rfl)) (fun hc55 => ?_)
        refine pg_vret C hr hlk hM hPN (by omega) (by omega) d_FF_makePlans_58 ?_
        have hend : plL (T.k.N 2 - T.k.N 4) T = Tc := hpl.symm.trans (plL_e (fun T' ⟨_, w', e, h1, h2, _⟩ => by
          have := idK_uniq h1 hid
          subst this
          exact fd_no hl2 hS0 f3 f4 (hJ2.pk w' hw).2.1 hno e h2))
        rw [hend]
        exact ⟨rfl, D1, C1, hS⟩
      · subst hx9
        have hS := hS.fnd (ids_ne hE).1 hv1 hJ2.n3.2 hP hP4 (fun k hk => by rw [hS4 k hk]; exact hS0 k hk)
        have hP := hP4.self
        have hS5 : ∀ k, k < 96 → (S4 0 k = true ↔ (Tc.A 2 k = 1 ∨ Tc.A 2 k = 2)) := fun k hk => by rw [hS4 k hk]; exact hS0 k hk
        obtain ⟨hpe, hX⟩ := fd_yes hl2 hS0 f3 f4 (hJ2.pk w hw).2.1 he1 he2 hyes
        obtain ⟨hwf, hfn⟩ := fd_wf hX (F := upd (upd (upd (upd F 0 (nI (tfs Tc))) 1 (nI (tsn Tc))) 2 (nI (Tc.k.q 0 w))) 3 (nI e)) rfl rfl f3 f4 (hJ2.pk w hw).2.1
        have hcO := hS.ff.2
        rw [ffF_1 hv0] at hcO
        refine W.eq (g2 := F0 m 55 ls [_]) rfl ?_
        refine lv_if_ne (tgt := 59) C.1 C.2.1 d_FF_makePlans_55 (by decide) (fun hc55 => ?_) (fun hc55 => False.elim (absurd hc55 (by decide)))
        refine lv_aload_n C.1 C.2.1 d_FF_makePlans_59 rfl (lo_at hl 0 rfl) ?_
        refine pg_get C hE hM hS.ff.1 hcO rfl in_FF 5 (Nat.le_of_ble_eq_true rfl) tw_90 rfl rfl d_FF_makePlans_60 ?_
        refine lv_aload_n C.1 C.2.1 d_FF_makePlans_63 rfl (lo_at hl 2 rfl) ?_
        refine lv_aload_n C.1 C.2.1 d_FF_makePlans_64 rfl (lo_at hl 0 rfl) ?_
        refine pg_get C hE hM hS.ff.1 hcO rfl in_FF 8 (Nat.le_of_ble_eq_true rfl) tw_93 rfl rfl d_FF_makePlans_65 ?_
        rw [h29]
        have hgw := plL_s (n := Tc.k.N 2 - Tc.k.N 4 - 1) (show plN Tc (plT Tc w e) from ⟨hnp, w, e, hid, hpe, rfl⟩)
        rw [show Tc.k.N 2 - Tc.k.N 4 - 1 + 1 = Tc.k.N 2 - Tc.k.N 4 by omega, hpl] at hgw
        have hk4 := (plL_k (Tc.k.N 2 - Tc.k.N 4 - 1) (plT Tc w e)).2.2.2
        have e4 : (plT Tc w e).k.N 4 = Tc.k.N 4 + 1 := rfl
        rw [← hgw, e4] at hk4
        refine cg_callVA C hE hM (k_Pln_append l G hP (D1 1 w) _ _ _ _ _ _ _ _ _ _ (hS.vh w hw).1 (hS.vh w hw).2 _ _ (D1 (10 + w)) (Tc.k.ce w) (Tc.k.tm w) (hS.vl w hw) (hS.mv w hw) hS.lw (hS.cp.2.2 w hw) (by have := (hJ2.cn w hw).2.2.2.2.2; have := hJ2.n2.2; omega) (Tc.k.N 6) e he2 (tWy Tc w e) (fun i hi => by rw [hW1 i hi, (hwf i hi).1]) (fun i hi => (hwf i hi).2) rfl) hP.1.1 hP.2.2.1.1 rfl tw_746 cy_Pln_append ⟨(Nat.le_of_ble_eq_true rfl), (Nat.le_of_ble_eq_true rfl)⟩ rfl hl.1 rfl (Nat.le_of_ble_eq_true rfl) ⟨by show (n - T.k.N 4) * 300 + 300 ≤ ((plL (T.k.N 2 - T.k.N 4) T).k.N 4 - T.k.N 4) * 300; omega, by show (n - T.k.N 4) * 30000 + 30000 ≤ ((plL (T.k.N 2 - T.k.N 4) T).k.N 4 - T.k.N 4) * 30000; omega⟩ d_FF_makePlans_68 (fun x9 N1 P1 f15 H1 locs1 hP1 hp hM => ?_)
        obtain ⟨hx9, cap1, g1, cc1, tt1, hcap, hl9, hm9, hM9, hg9, hf9, hF9, hP9⟩ := hp
        subst hx9
        rw [← hP1] at hl9 hm9 hF9 hP9
        obtain ⟨T1, hT1, hS⟩ : ∃ T1 : TS, T1 = apT1 Tc w e (tWy Tc w e) (finF (fnF (prX (tE Tc w) (tB Tc w) (tfs Tc) (tsn Tc) (Tc.k.q 0 w) e) (dlg (tfs Tc) (tsn Tc)) (Tc.k.q 0 w) e) (Tc.k.X 0 w) (Tc.k.q 1 w) (tWy Tc w e) e) ∧ cS G P1 f15 o (va_up D1 (10 + w) g1) (va_up C1 (10 + w) cap1) T1 := ⟨_, rfl, hS.apd (ids_ne hE).1 hw hv1 hcap.2 hl9 hm9 hM9 (by rw [← hfn]; exact hf9) hF9 hP9 hS5⟩
        have hd : ∀ j, j < 10 → va_up D1 (10 + w) g1 j = D1 j := fun j hj => va_up_ne _ _ (by omega)
        obtain ⟨D2, hD2⟩ : ∃ D2, D2 = va_up D1 (10 + w) g1 := ⟨_, rfl⟩
        obtain ⟨C2, hC2⟩ : ∃ C2, C2 = va_up C1 (10 + w) cap1 := ⟨_, rfl⟩
        rw [← hD2, ← hC2] at hS
        rw [← hD2] at hd
        have hd0 := hd 0 (by decide)
        have hd1 := hd 1 (by decide)
        have hd4 := hd 4 (by decide)
        have hwT := hw
        replace hw : w < T1.k.N 0 := by rw [hT1]; exact hw
        replace hn2 : n < T1.k.N 2 := by rw [hT1]; exact hn2
        rw [← hd1] at hl
        have hPN := hPN_app hPN hP1
        refine W.eq (g2 := F0 m 71 ls []) rfl ?_
        refine W.widen (k := (n + 1 - T.k.N 4) * 300) (n := (n + 1 - T.k.N 4) * 30000) (by omega) (by omega) ?_
        refine lv_aload_n C.1 C.2.1 d_FF_makePlans_71 rfl (lo_at hl 2 rfl) ?_
        refine lv_iload_n C.1 C.2.1 d_FF_makePlans_72 rfl (lo_at hl 1 rfl) ?_
        refine cg_putN C hE hM (hS.vh w hw).1 (hS.vh w hw).2 rfl in_Veh ok_Veh n_Veh 7 (Nat.le_of_ble_eq_true rfl) nw_490 rfl rfl rfl rfl rfl (Nat.le_of_ble_eq_true rfl) d_FF_makePlans_73 (fun f16 H1 locs1 hf16 hM => ?_)
        obtain ⟨T2, hT2, hS⟩ : ∃ T2 : TS, T2 = (T1.v, va_up T1.A 28 (upd (T1.A 28) w (nI (Tc.k.N 4))), T1.k) ∧ cS G P1 f16 o D2 C2 T2 := ⟨_, rfl, hS.put7 (ids_ne hE).1 (ids_ne hE).2 hw (by rw [← hn]; exact hf16)⟩
        replace hw : w < T2.k.N 0 := by rw [hT2]; exact hw
        replace hn2 : n < T2.k.N 2 := by rw [hT2]; exact hn2
        have hcO := hS.ff.2
        rw [ffF_1 (by rw [hT2, hT1]; exact hv0)] at hcO
        refine lv_aload_n C.1 C.2.1 d_FF_makePlans_76 rfl (lo_at hl 0 rfl) ?_
        refine pg_get C hE hM hS.ff.1 hcO rfl in_FF 2 (Nat.le_of_ble_eq_true rfl) tw_87 rfl rfl d_FF_makePlans_77 ?_
        refine lv_iload_n C.1 C.2.1 d_FF_makePlans_80 rfl (lo_at hl 1 rfl) ?_
        obtain ⟨_, _, hc_tl⟩ := hS.tl.cell
        refine cg_callV C hE hM (q_get l G hS.tl n hn2) hS.tl.1 hc_tl rfl tw_292 cy_AL_get ⟨(Nat.le_of_ble_eq_true rfl), (Nat.le_of_ble_eq_true rfl)⟩ rfl hl.1 rfl (Nat.le_of_ble_eq_true rfl) ⟨by (try show _ ≤ ((plL (T.k.N 2 - T.k.N 4) T).k.N 4 - T.k.N 4) * 300); omega, by (try show _ ≤ ((plL (T.k.N 2 - T.k.N 4) T).k.N 4 - T.k.N 4) * 30000); omega⟩ d_FF_makePlans_81 (fun x9 f17 H1 locs1 hp hM => ?_)
        obtain ⟨rfl, h9⟩ := hp
        rw [h9] at hM
        clear h9
        refine W.eq (g2 := F0 m 84 ls [_]) rfl ?_
        refine cg_cast C hE hM (hS.tk n hn2).1 (hS.tk n hn2).2 rfl tw_303 d_FF_makePlans_84 ?_
        refine lv_aload_n C.1 C.2.1 d_FF_makePlans_87 rfl (lo_at hl 2 rfl) ?_
        refine pg_getN C hE hM (hS.vh w hw).1 (hS.vh w hw).2 rfl in_Veh 0 (Nat.le_of_ble_eq_true rfl) nw_475 rfl rfl d_FF_makePlans_88 ?_
        refine cg_putN C hE hM (hS.tk n hn2).1 (hS.tk n hn2).2 rfl in_Tsk ok_Tsk n_Tsk 2 (Nat.le_of_ble_eq_true rfl) nw_592 rfl rfl rfl rfl rfl (Nat.le_of_ble_eq_true rfl) d_FF_makePlans_91 (fun f18 H1 locs1 hf18 hM => ?_)
        obtain ⟨T3, hT3, hS⟩ : ∃ T3 : TS, T3 = (T2.v, va_up (va_up T2.A 13 (upd (T2.A 13) (Tc.k.N 4) (nI w))) 18 (upd (T2.A 18) (Tc.k.N 4) (T2.A 18 (Tc.k.N 4))), T2.k) ∧ cS G P1 f18 o D2 C2 T3 := ⟨_, rfl, by rw [← hn]; exact hS.tput (ids_ne hE).1 (ids_ne hE).2 hn2 hf18⟩
        have hcO := hS.ff.2
        have hv3 : ¬ T3.v 1 = 0 := by rw [hT3, hT2, hT1]; exact hv0
        rw [ffF_1 hv3] at hcO
        refine lv_aload_n C.1 C.2.1 d_FF_makePlans_94 rfl (lo_at hl 0 rfl) ?_
        refine lv_iload_n C.1 C.2.1 d_FF_makePlans_95 rfl (lo_at hl 1 rfl) ?_
        refine lv_iconst (v := 1) C.1 C.2.1 d_FF_makePlans_96 (by decide) ?_
        refine lv_iadd C.1 C.2.1 d_FF_makePlans_97 ?_
        refine cg_put C hE hM hS.ff.1 hcO rfl in_FF ok_FF n_FF 6 (Nat.le_of_ble_eq_true rfl) tw_91 rfl rfl rfl rfl rfl (Nat.le_of_ble_eq_true rfl) d_FF_makePlans_98 (fun f19 H1 locs1 hf19 hM => ?_)
        have hS : cS G P1 f19 o D2 C2 (upd T3.v 10 (nI (Tc.k.N 4) + 1), T3.A, T3.k) := hS.put10 (ids_ne hE).1 (ids_ne hE).2 (by rw [ffF_1 (v := upd T3.v 10 (nI (Tc.k.N 4) + 1)) hv3, ← hn]; exact hf19)
        have h10 : Tc.v 10 = nI (Tc.k.N 4) := by rw [← hq2.1 10 rfl]; exact hJ2.n4.1
        have hS := hS.pltx hT1 hT2 hT3 h10
        refine lo_iinc C hl d_FF_makePlans_101 rfl rfl (fun ls hl => ?_)
        refine lv_goto (tgt := 5) C.1 C.2.1 d_FF_makePlans_104 (by decide) ?_
        have hKn : KJ (plT Tc w e) := plN_KJ ⟨v2, A2, hJ2, hq2⟩ ⟨hnp, w, e, hid, hpe, rfl⟩
        have hpn : plL ((plT Tc w e).k.N 2 - (plT Tc w e).k.N 4) (plT Tc w e) = plL (T.k.N 2 - T.k.N 4) T := by rw [hgw, e4]; rfl
        have h9 := hl
        rw [nI_pl] at h9
        exact ih5 (n + 1, (plT Tc w e), D2, C2, ls, _, H1, locs1, f19) ⟨(by show n + 1 = (plT Tc w e).k.N 4; rw [e4, hn]), by (try dsimp only); omega, hv1, hKn, hpn, hN2, (hPN ▸ hS), lo_weak h9 ⟨rfl, rfl, trivial⟩, (hPN ▸ hM)⟩ (by show 25 - (n + 1) < 25 - n; have := hJ2.n2.2; omega)
    · subst hx9
      refine W.eq (g2 := F0 m 20 ls [_]) rfl ?_
      refine lo_astore_nN C hl d_FF_makePlans_20 (Nat.le_of_ble_eq_true rfl) rfl (fun ls hl => ?_)
      have hv0 : ¬ Tc.v 1 = 0 := by rw [hv1]; decide
      have hcO := hS.ff.2
      rw [ffF_1 hv0] at hcO
      obtain ⟨S, Wy, F, hP, hS0⟩ := (hS.pl.resolve_left hv0).2
      refine lv_aload_n C.1 C.2.1 d_FF_makePlans_21 rfl (lo_at hl 0 rfl) ?_
      refine pg_get C hE hM hS.ff.1 hcO rfl in_FF 5 (Nat.le_of_ble_eq_true rfl) tw_90 rfl rfl d_FF_makePlans_22 ?_
      refine lv_ifnull C.1 C.2.1 d_FF_makePlans_25 ?_
      refine lv_aload_nN C.1 C.2.1 d_FF_makePlans_28 rfl (lo_at hl 2 rfl) ?_
      refine lv_ifnullN (tgt := 58) C.1 C.2.1 d_FF_makePlans_29 (by decide) ?_
      refine pg_vret C hr hlk hM hPN (by omega) (by omega) d_FF_makePlans_58 ?_
      have hend : plL (T.k.N 2 - T.k.N 4) T = Tc := hpl.symm.trans (plL_e (fun T' ⟨_, w, e, h1, _⟩ => hid w h1))
      rw [hend]
      exact ⟨rfl, D1, C1, hS⟩
