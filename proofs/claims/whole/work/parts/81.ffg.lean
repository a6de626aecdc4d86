theorem snL_k (T : TS) : ∀ u, (∀ j, j ≠ 1 → (snL u T).k.N j = T.k.N j) ∧ (snL u T).k.q = T.k.q ∧ (snL u T).k.X = T.k.X ∧ (snL u T).v 30 = T.v 30 := by
  intro u
  induction u with
  | zero => exact ⟨fun _ _ => rfl, rfl, rfl, rfl⟩
  | succ u ih =>
    obtain ⟨h1, h2, h3, h4⟩ := ih
    obtain ⟨s1, s2, s3, s4⟩ := snD_k (snL u T) u
    exact ⟨fun j hj => (s1 j hj).trans (h1 j hj), s2.trans h2, s3.trans h3, s4.trans h4⟩
theorem snL_KJ {v : Nat → Int32} {A : Nat → Nat → Int32} {T : TS} (hJ : JI v A T.k) (hq : eqC v A T.v T.A) : ∀ u, u ≤ T.k.N 0 → ∃ v' A', JI v' A' (snL u T).k ∧ eqC v' A' (snL u T).v (snL u T).A := by
  intro u
  induction u with
  | zero => exact fun _ => ⟨v, A, hJ, hq⟩
  | succ u ih =>
    intro hu
    obtain ⟨v', A', h1, h2⟩ := ih (by omega)
    have hu' : u < (snL u T).k.N 0 := by rw [(snL_k T u).1 0 (by decide)]; omega
    obtain ⟨m1, m2⟩ := h1.sD h2 hu'
    by_cases c : (snL u T).k.X 1 u = 1 ∨ isTn v' (nI u)
    · exact ⟨_, _, m1 c⟩
    · exact ⟨_, _, m2 c⟩
theorem cS.sn60 {G : GG} {P : List Nat} {f : Nat → va_E} {o : Nat} {D : Nat → Nat → Nat} {C : Nat → Nat} {T : TS} (h : cS G P f o D C T) (hn : T.k.N 1 = 60) (h31 : T.v 31 = nI (T.k.N 1)) (a b c : Int32) : cS G P f o D C (sndV T.v, sndA T.v T.A a b c, kSn T.k) := by
  have q2 : T.v 31 = 60 := by rw [h31, hn]; rfl
  unfold sndV sndA kSn
  rw [if_pos q2, if_pos q2, if_pos hn, va_same hn]
  exact h
/-- a letter is sent -/
theorem cS.snd {G : GG} {P P1 N : List Nat} {f f1 : Nat → va_E} {o : Nat} {D : Nat → Nat → Nat} {C : Nat → Nat} {T : TS} (h : cS G P f o D C T) (h35 : G.2.1 3 ≠ G.2.1 5) (h45 : G.2.1 4 ≠ G.2.1 5) (hb : T.k.N 1 ≤ 60) (h31 : T.v 31 = nI (T.k.N 1)) {x : Option Value} {y : Nat} {a b c : Int32} (hP : P1 = P ++ N) (hp : (T.k.N 1 < 60 ∧ x = some (.int 1) ∧ N.length ≤ 1 ∧ lsS G (P ++ N) f1 (D 0 3) (nc (C 0) (T.k.N 1)) (T.k.N 1 + 1) (va_up (D 3) (T.k.N 1) y) ∧ frL G P f (P ++ N) f1 (D 0 3)) ∨ (¬ T.k.N 1 < 60 ∧ x = some (.int 0) ∧ N = [] ∧ f1 = f)) (hy : y ∈ P) (hfy : f y = .inr (5, [.int a, .int b, .int c])) : (∃ z, x = some (.int z)) ∧ ∃ D' C', cS G P1 f1 o D' C' (sndV T.v, sndA T.v T.A a b c, kSn T.k) := by
  subst hP
  rcases hp with ⟨p1, p2, -, p4, p5⟩ | ⟨p1, p2, p3, p4⟩
  · exact ⟨⟨_, p2⟩, h.sn h35 h45 (fun y hy => List.mem_append_left _ hy) p1 h31 p4 p5 hy hfy⟩
  · subst p3; subst p4
    rw [List.append_nil]
    exact ⟨⟨_, p2⟩, D, C, h.sn60 (by omega) h31 a b c⟩
theorem nw2_x {G : GG} {P P1 : List Nat} {f f1 f2 : Nat → va_E} {q : Nat} {e e2 : va_E} (hf : f1 = va_up f q e) (hf2 : f2 = va_up f1 q e2) (hq : q ∉ P) (hP : P1 = P ++ [q]) (hw : lsW G P1 f2) : frX G P f P1 f2 (fun _ => False) :=
  kp_x (fun y h => by rw [hP]; exact List.mem_append_left _ h) (fun y hy => by rw [hf2, hf, va_up_ne _ _ (fun z : y = q => hq (z ▸ hy)), va_up_ne _ _ (fun z : y = q => hq (z ▸ hy))]) hw
set_option maxHeartbeats 4000000 in
set_option maxRecDepth 100000 in
theorem k_FF_sendDones (l : Launch) (G : GG) {P : List Nat} {f : Nat → va_E} {o : Nat} {D : Nat → Nat → Nat} {C9 : Nat → Nat} {T : TS} (hS : cS G P f o D C9 T) {v : Nat → Int32} {A : Nat → Nat → Int32} (hJ : JI v A T.k) (hq : eqC v A T.v T.A) (hX : ∀ u, u < T.k.N 0 → T.k.X 1 u = 0 ∨ T.k.X 1 u = 1)  : ct l G y_FF_sendDones c_FF_sendDones 3 none 8 192 (12) (1650) [.ref o] P f (fun x N f1 => x = none ∧ ∃ D' C', cS G (P ++ N) f1 o D' C' (snL (T.k.N 0) T)) := by
  refine ct_intro (by decide) [some (.ref o), none, none] rfl rfl (Nat.le_of_ble_eq_true rfl) ?_
  intro p e s m below meth c ls C hr hlk hnm hE hM hl
  have hPN : P = P ++ [] := (List.append_nil P).symm
  refine lv_iconst (v := 0) C.1 C.2.1 d_FF_sendDones_0 (by decide) ?_
  refine lo_istore_n C hl d_FF_sendDones_1 (Nat.le_of_ble_eq_true rfl) rfl (fun ls hl => ?_)
  refine W.loop (α := (Nat) × (Nat → Nat → Nat) × (Nat → Nat) × (Array Slot) × (List Nat) × (Heap) × (List Loc) × (Nat → va_E)) (fun zz => 6 - zz.1) (fun zz => (zz.1 ≤ T.k.N 0) ∧ (cS G (P ++ zz.2.2.2.2.1) zz.2.2.2.2.2.2.2 o zz.2.1 zz.2.2.1 (snL zz.1 T)) ∧ lo zz.2.2.2.1 [some (.ref o), some (.int (nI zz.1)), none] ∧ pgS G (pgA P s.heap.size) s.heap (P ++ zz.2.2.2.2.1) zz.2.2.2.2.2.2.2 zz.2.2.2.2.2.1 zz.2.2.2.2.2.2.1) (fun zz => zz.2.2.2.2.2.1) (fun zz => zz.2.2.2.2.2.2.1) (fun zz => zz.1 * 2) (fun zz => zz.1 * 275) (fun zz => F0 m 2 zz.2.2.2.1 []) ?_ (0, D, C9, ls, _, s.heap, [], f) ⟨Nat.zero_le _, (show cS G (P ++ []) f o D C9 (snL 0 T) from (List.append_nil P).symm ▸ hS), lo_weak hl ⟨rfl, rfl, trivial⟩, (hPN ▸ hM)⟩
  rintro ⟨u, D1, C1, ls, N1, H1, locs1, f1⟩ ⟨hu2, hS, hl, hM⟩ ih2
  dsimp only at hu2 hS hl hM
  show W _ _ _ _ _ _ _ _ _ _ _ _ (u * 2) (u * 275) _ (F0 m 2 ls [])
  have hPN : P ++ N1 = P ++ N1 := rfl
  have hb6 := hJ.n0.2
  have hbN : (snL u T).k.N 0 = T.k.N 0 := (snL_k T u).1 0 (by decide)
  refine lv_iload_n C.1 C.2.1 d_FF_sendDones_2 rfl (lo_at hl 1 rfl) ?_
  refine lv_aload_n C.1 C.2.1 d_FF_sendDones_3 rfl (lo_at hl 0 rfl) ?_
  refine pg_get C hE hM hS.ff.1 hS.ff.2 rfl in_FF 3 (Nat.le_of_ble_eq_true rfl) tw_88 rfl rfl d_FF_sendDones_4 ?_
  refine pg_alen C hE hM hS.va.1 (t0 := 3) (Nat.le_of_ble_eq_true rfl) hS.va.2 d_FF_sendDones_7 ?_
  refine lv_icmp_ge (tgt := 63) C.1 C.2.1 d_FF_sendDones_8 (by decide) (fun hc8 => ?_) (fun hc8 => ?_)
  · refine pg_vret C hr hlk hM hPN (by omega) (by omega) d_FF_sendDones_63 ?_
    have hu9 : (snL u T).k.N 0 ≤ u := nI_leN (by omega) (by omega) hc8
    have hue : u = T.k.N 0 := by omega
    subst hue
    exact ⟨rfl, D1, C1, hS⟩
  · have hu : u < (snL u T).k.N 0 := nI_ltN (by omega) (by omega) hc8
    have huN : u < T.k.N 0 := by omega
    obtain ⟨v', A', hJ', hq'⟩ := snL_KJ hJ hq u (by omega)
    have hg9 := gz_200 hS.cp.1 hS.al
    have hb60 := hJ'.n1.2
    have h31 : (snL u T).v 31 = nI ((snL u T).k.N 1) := by rw [← hq'.1 31 rfl]; exact hJ'.n1.1
    refine lv_aload_n C.1 C.2.1 d_FF_sendDones_11 rfl (lo_at hl 0 rfl) ?_
    refine pg_get C hE hM hS.ff.1 hS.ff.2 rfl in_FF 3 (Nat.le_of_ble_eq_true rfl) tw_88 rfl rfl d_FF_sendDones_12 ?_
    refine lv_iload_n C.1 C.2.1 d_FF_sendDones_15 rfl (lo_at hl 1 rfl) ?_
    refine cg_aald C hE hM hS.va.1 hS.va.2 rfl u rfl hu (by omega) rfl d_FF_sendDones_16 ?_
    refine lo_astore_n C hl d_FF_sendDones_17 (Nat.le_of_ble_eq_true rfl) rfl (fun ls hl => ?_)
    refine lv_aload_n C.1 C.2.1 d_FF_sendDones_18 rfl (lo_at hl 2 rfl) ?_
    refine pg_getN C hE hM (hS.vh u hu).1 (hS.vh u hu).2 rfl in_Veh 9 (Nat.le_of_ble_eq_true rfl) nw_495 rfl rfl d_FF_sendDones_19 ?_
    refine lv_if_ne (tgt := 33) C.1 C.2.1 d_FF_sendDones_22 (by decide) (fun hc22 => ?_) (fun hc22 => ?_)
    · refine lv_aload_n C.1 C.2.1 d_FF_sendDones_33 rfl (lo_at hl 0 rfl) ?_
      refine pg_get C hE hM hS.ff.1 hS.ff.2 rfl in_FF 1 (Nat.le_of_ble_eq_true rfl) tw_86 rfl rfl d_FF_sendDones_34 ?_
      refine cg_new C hE hM (ci := 5) (fs := [.int 0, .int 0, .int 0]) rfl in_Let ok_Let tw_633 tw_634 tw_24 (by decide) (by (try show _ ≤ 12); omega) (by (try show _ ≤ 1650); omega) d_FF_sendDones_37 (fun q9 P1 f11 H1 hq9 hP1 hf11 hM => ?_)
      have hm_q9 : q9 ∈ P1 := by rw [hP1]; exact List.mem_append_right _ (List.mem_singleton.mpr rfl)
      have hc_q9 := (congrFun hf11 q9).trans (va_up_self _ _ _)
      have hPN := hPN_new hPN hP1
      have hS0 := hS
      have hlw0 := hS.lw
      have hS := hS0.nw (nw_x hf11 hq9 hP1 (fun z => cg_z0P hE hM (z ▸ hm_q9)) (by intros _ _ _ z; cases z) hlw0) (ids_ne hE).1 (ids_ne hE).2
      have hf0 := hf11
      have hP9 := hP1
      refine lv_dup C.1 C.2.1 d_FF_sendDones_40 rfl ?_
      refine lv_iconst (v := 1) C.1 C.2.1 d_FF_sendDones_41 (by decide) ?_
      refine lv_aload_n C.1 C.2.1 d_FF_sendDones_42 rfl (lo_at hl 2 rfl) ?_
      refine pg_getN C hE hM (hS.vh u hu).1 (hS.vh u hu).2 rfl in_Veh 0 (Nat.le_of_ble_eq_true rfl) nw_475 rfl rfl d_FF_sendDones_43 ?_
      refine lv_aload_n C.1 C.2.1 d_FF_sendDones_46 rfl (lo_at hl 2 rfl) ?_
      refine pg_getN C hE hM (hS.vh u hu).1 (hS.vh u hu).2 rfl in_Veh 3 (Nat.le_of_ble_eq_true rfl) nw_482 rfl rfl d_FF_sendDones_47 ?_
      refine cg_callIN C hE hM (k_Let_init l G _ _ _ _ hm_q9 hc_q9) nw_635 cy_Let_init ⟨(Nat.le_of_ble_eq_true rfl), (Nat.le_of_ble_eq_true rfl)⟩ rfl hl.1 rfl (Nat.le_of_ble_eq_true rfl) ⟨by (try show _ ≤ 12); omega, by (try show _ ≤ 1650); omega⟩ d_FF_sendDones_50 (fun x9 f12 H1 locs1 hp hM => ?_)
      obtain ⟨hx9, hf9⟩ := hp
      subst hx9
      have hS := hS0.nw (nw2_x hf0 hf9 hq9 hP9 (hS.lw.wr hf9 hc_q9 (by decide))) (ids_ne hE).1 (ids_ne hE).2
      have hc_q9 := (congrFun hf9 q9).trans (va_up_self _ _ _)
      refine W.eq (g2 := F0 m 53 ls [_, _]) rfl ?_
      refine cg_callVA C hE hM (k_Air_send l G _ _ hS.ar.1 hS.ar.2 _ _ _ hS.al hS.lw (fun i hi => oOk_let (hS.lt i hi).1 (hS.lt i hi).2) (by omega) (by have := hS.cp.1; omega) _ (oOk_let hm_q9 hc_q9)) hS.ar.1 hS.ar.2 rfl tw_212 cy_Air_send ⟨(Nat.le_of_ble_eq_true rfl), (Nat.le_of_ble_eq_true rfl)⟩ rfl hl.1 rfl (Nat.le_of_ble_eq_true rfl) ⟨by (try show _ ≤ 12); omega, by (try show _ ≤ 1650); omega⟩ d_FF_sendDones_53 (fun x9 N2 P2 f13 H1 locs1 hP2 hp hM => ?_)
      have hsn := hS.snd (ids_ne hE).1 (ids_ne hE).2 hb60 h31 hP2 hp hm_q9 hc_q9
      obtain ⟨⟨z9, hx9⟩, D2, C2, hS⟩ := hsn
      subst hx9
      have hPN := hPN_app hPN hP2
      refine W.eq (g2 := F0 m 56 ls [_]) rfl ?_
      refine lv_pop C.1 C.2.1 d_FF_sendDones_56 rfl ?_
      refine lo_iinc C hl d_FF_sendDones_57 rfl rfl (fun ls hl => ?_)
      refine lv_goto (tgt := 2) C.1 C.2.1 d_FF_sendDones_60 (by decide) ?_
      refine W.widen (k := (u + 1) * 2) (n := (u + 1) * 275) (by omega) (by omega) ?_
      have hn : (snL u T).k.X 1 u = 1 ∨ isTn (snL u T).v (nI u) := Or.inl (by have h7 := hX u huN; rw [← (snL_k T u).2.2.1] at h7; exact h7.resolve_left hc22)
      have h23 : (snL u T).A 23 u = nI ((snL u T).k.q 2 u) := by rw [← hq'.2 23 rfl]; exact (hJ'.cn u hu).1.2.1
      have hS : cS G P2 f13 o D2 C2 (snL (u + 1) T) := by show cS _ _ _ _ _ _ (snD (snL u T) u); unfold snD snT; rw [if_pos hn, ← h23]; exact hS
      have h9 := hl
      rw [nI_pl] at h9
      exact ih2 (u + 1, D2, C2, ls, _, H1, locs1, f13) ⟨by (try dsimp only); omega, (hPN ▸ hS), lo_weak h9 ⟨rfl, rfl, trivial⟩, (hPN ▸ hM)⟩ (by show 6 - (u + 1) < 6 - u; omega)
    · refine lv_aload_n C.1 C.2.1 d_FF_sendDones_25 rfl (lo_at hl 0 rfl) ?_
      refine lv_aload_n C.1 C.2.1 d_FF_sendDones_26 rfl (lo_at hl 2 rfl) ?_
      refine cg_callV C hE hM (k_FF_reportsNow l G hS u hu) hS.ff.1 hS.ff.2 rfl tw_629 cy_FF_reportsNow ⟨(Nat.le_of_ble_eq_true rfl), (Nat.le_of_ble_eq_true rfl)⟩ rfl hl.1 rfl (Nat.le_of_ble_eq_true rfl) ⟨by (try show _ ≤ 12); omega, by (try show _ ≤ 1650); omega⟩ d_FF_sendDones_27 (fun x9 f11 H1 locs1 hp hM => ?_)
      obtain ⟨rfl, h9⟩ := hp
      rw [h9] at hM
      clear h9
      refine W.eq (g2 := F0 m 30 ls [_]) rfl ?_
      refine lv_if_eq (tgt := 57) C.1 C.2.1 d_FF_sendDones_30 (by decide) (fun hc30 => ?_) (fun hc30 => ?_)
      · replace hc30 := bz_0.mp hc30
        refine lo_iinc C hl d_FF_sendDones_57 rfl rfl (fun ls hl => ?_)
        refine lv_goto (tgt := 2) C.1 C.2.1 d_FF_sendDones_60 (by decide) ?_
        refine W.widen (k := (u + 1) * 2) (n := (u + 1) * 275) (by omega) (by omega) ?_
        have hn : ¬ ((snL u T).k.X 1 u = 1 ∨ isTn (snL u T).v (nI u)) := fun z => z.elim (fun y => absurd (y.symm.trans hc22) (by decide)) hc30
        have hS : cS G (P ++ N1) f1 o D1 C1 (snL (u + 1) T) := by show cS _ _ _ _ _ _ (snD (snL u T) u); unfold snD; rw [if_neg hn]; exact hS
        have h9 := hl
        rw [nI_pl] at h9
        exact ih2 (u + 1, D1, C1, ls, _, H1, locs1, f1) ⟨by (try dsimp only); omega, (hPN ▸ hS), lo_weak h9 ⟨rfl, rfl, trivial⟩, (hPN ▸ hM)⟩ (by show 6 - (u + 1) < 6 - u; omega)
      · replace hc30 := bz_1.mp hc30
        refine lv_aload_n C.1 C.2.1 d_FF_sendDones_33 rfl (lo_at hl 0 rfl) ?_
        refine pg_get C hE hM hS.ff.1 hS.ff.2 rfl in_FF 1 (Nat.le_of_ble_eq_true rfl) tw_86 rfl rfl d_FF_sendDones_34 ?_
        refine cg_new C hE hM (ci := 5) (fs := [.int 0, .int 0, .int 0]) rfl in_Let ok_Let tw_633 tw_634 tw_24 (by decide) (by (try show _ ≤ 12); omega) (by (try show _ ≤ 1650); omega) d_FF_sendDones_37 (fun q9 P1 f12 H1 hq9 hP1 hf12 hM => ?_)
        have hm_q9 : q9 ∈ P1 := by rw [hP1]; exact List.mem_append_right _ (List.mem_singleton.mpr rfl)
        have hc_q9 := (congrFun hf12 q9).trans (va_up_self _ _ _)
        have hPN := hPN_new hPN hP1
        have hS0 := hS
        have hlw0 := hS.lw
        have hS := hS0.nw (nw_x hf12 hq9 hP1 (fun z => cg_z0P hE hM (z ▸ hm_q9)) (by intros _ _ _ z; cases z) hlw0) (ids_ne hE).1 (ids_ne hE).2
        have hf0 := hf12
        have hP9 := hP1
        refine lv_dup C.1 C.2.1 d_FF_sendDones_40 rfl ?_
        refine lv_iconst (v := 1) C.1 C.2.1 d_FF_sendDones_41 (by decide) ?_
        refine lv_aload_n C.1 C.2.1 d_FF_sendDones_42 rfl (lo_at hl 2 rfl) ?_
        refine pg_getN C hE hM (hS.vh u hu).1 (hS.vh u hu).2 rfl in_Veh 0 (Nat.le_of_ble_eq_true rfl) nw_475 rfl rfl d_FF_sendDones_43 ?_
        refine lv_aload_n C.1 C.2.1 d_FF_sendDones_46 rfl (lo_at hl 2 rfl) ?_
        refine pg_getN C hE hM (hS.vh u hu).1 (hS.vh u hu).2 rfl in_Veh 3 (Nat.le_of_ble_eq_true rfl) nw_482 rfl rfl d_FF_sendDones_47 ?_
        refine cg_callIN C hE hM (k_Let_init l G _ _ _ _ hm_q9 hc_q9) nw_635 cy_Let_init ⟨(Nat.le_of_ble_eq_true rfl), (Nat.le_of_ble_eq_true rfl)⟩ rfl hl.1 rfl (Nat.le_of_ble_eq_true rfl) ⟨by (try show _ ≤ 12); omega, by (try show _ ≤ 1650); omega⟩ d_FF_sendDones_50 (fun x9 f13 H1 locs1 hp hM => ?_)
        obtain ⟨hx9, hf9⟩ := hp
        subst hx9
        have hS := hS0.nw (nw2_x hf0 hf9 hq9 hP9 (hS.lw.wr hf9 hc_q9 (by decide))) (ids_ne hE).1 (ids_ne hE).2
        have hc_q9 := (congrFun hf9 q9).trans (va_up_self _ _ _)
        refine W.eq (g2 := F0 m 53 ls [_, _]) rfl ?_
        refine cg_callVA C hE hM (k_Air_send l G _ _ hS.ar.1 hS.ar.2 _ _ _ hS.al hS.lw (fun i hi => oOk_let (hS.lt i hi).1 (hS.lt i hi).2) (by omega) (by have := hS.cp.1; omega) _ (oOk_let hm_q9 hc_q9)) hS.ar.1 hS.ar.2 rfl tw_212 cy_Air_send ⟨(Nat.le_of_ble_eq_true rfl), (Nat.le_of_ble_eq_true rfl)⟩ rfl hl.1 rfl (Nat.le_of_ble_eq_true rfl) ⟨by (try show _ ≤ 12); omega, by (try show _ ≤ 1650); omega⟩ d_FF_sendDones_53 (fun x9 N2 P2 f14 H1 locs1 hP2 hp hM => ?_)
        have hsn := hS.snd (ids_ne hE).1 (ids_ne hE).2 hb60 h31 hP2 hp hm_q9 hc_q9
        obtain ⟨⟨z9, hx9⟩, D2, C2, hS⟩ := hsn
        subst hx9
        have hPN := hPN_app hPN hP2
        refine W.eq (g2 := F0 m 56 ls [_]) rfl ?_
        refine lv_pop C.1 C.2.1 d_FF_sendDones_56 rfl ?_
        refine lo_iinc C hl d_FF_sendDones_57 rfl rfl (fun ls hl => ?_)
        refine lv_goto (tgt := 2) C.1 C.2.1 d_FF_sendDones_60 (by decide) ?_
        refine W.widen (k := (u + 1) * 2) (n := (u + 1) * 275) (by omega) (by omega) ?_
        have hn : (snL u T).k.X 1 u = 1 ∨ isTn (snL u T).v (nI u) := Or.inr hc30
        have h23 : (snL u T).A 23 u = nI ((snL u T).k.q 2 u) := by rw [← hq'.2 23 rfl]; exact (hJ'.cn u hu).1.2.1
        have hS : cS G P2 f14 o D2 C2 (snL (u + 1) T) := by show cS _ _ _ _ _ _ (snD (snL u T) u); unfold snD snT; rw [if_pos hn, ← h23]; exact hS
        have h9 := hl
        rw [nI_pl] at h9
        exact ih2 (u + 1, D2, C2, ls, _, H1, locs1, f14) ⟨by (try dsimp only); omega, (hPN ▸ hS), lo_weak h9 ⟨rfl, rfl, trivial⟩, (hPN ▸ hM)⟩ (by show 6 - (u + 1) < 6 - u; omega)
