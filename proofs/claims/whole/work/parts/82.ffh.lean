theorem cS.congrN {G : GG} {P : List Nat} {f : Nat → va_E} {o : Nat} {D : Nat → Nat → Nat} {C : Nat → Nat} {T T' : TS} (h : cS G P f o D C T) (hq : eqC T.v T.A T'.v T'.A) (hN : ∀ j, j < 4 → T'.k.N j = T.k.N j) (hq1 : T'.k.q 1 = T.k.q 1) (hce : T'.k.ce = T.k.ce) (htm : T'.k.tm = T.k.tm) (hX : T'.k.X = T.k.X) : cS G P f o D C T' := by
  have h1 : cS G P f o D C (T'.v, T'.A, KS.mk T.k.N T'.k.q T'.k.ce T'.k.tm T'.k.X) := h.congr hq rfl hq1 hce htm hX
  have n0 := hN 0 (by decide)
  have n1 := hN 1 (by decide)
  have n2 := hN 2 (by decide)
  have n3 := hN 3 (by decide)
  apply cS.mk
  case ff => exact h1.ff
  case mp => exact h1.mp
  case kd => exact h1.kd
  case ar => exact h1.ar
  case al => rw [n1]; exact h1.al
  case lt => rw [n1]; exact h1.lt
  case tl => rw [n2]; exact h1.tl
  case tk => rw [n2]; exact h1.tk
  case va => rw [n0]; exact h1.va
  case vh => rw [n0]; exact h1.vh
  case vl => rw [n0]; exact h1.vl
  case mv => rw [n0]; exact h1.mv
  case sa => rw [n3]; exact h1.sa
  case vj => rw [n0]; exact h1.vj
  case lj => rw [n0]; exact h1.lj
  case l0 => rw [n0]; exact h1.l0
  case tj => rw [n2]; exact h1.tj
  case cp => rw [n0]; exact h1.cp
  case lw => exact h1.lw
  case pl => exact h1.pl
/-- moves of u are granted one by one, from the state Tu on -/
def grI (Tu Tc : TS) (u i : Nat) : Prop := (Tc.v = upd Tu.v 29 (nI (Tc.k.N 6)) ∧ Tc.A = va_up Tu.A 26 (upd (Tu.A 26) u (nI (Tc.k.q 5 u)))) ∧ (grK u (Tc.k.q 1 u - Tc.k.q 5 u) Tc.k = grK u (Tu.k.q 1 u - Tu.k.q 5 u) Tu.k) ∧ (Tc.k.q 1 = Tu.k.q 1 ∧ Tc.k.N 0 = Tu.k.N 0 ∧ Tu.k.q 5 u ≤ Tc.k.q 5 u ∧ Tc.k.q 5 u ≤ Tc.k.q 1 u ∧ i = Tc.k.q 5 u) ∧ ∃ v' A', JI v' A' Tc.k ∧ eqC v' A' Tc.v Tc.A
def gr1T (T : TS) (u : Nat) : TS := (upd T.v 29 (nI (max (T.k.tm u (T.k.q 5 u)) (T.k.N 6))), va_up T.A 26 (upd (T.A 26) u (nI (T.k.q 5 u + 1))), gr1 T.k u)
theorem grI_0 {Tu : TS} {u : Nat} {v : Nat → Int32} {A : Nat → Nat → Int32} (hJ : JI v A Tu.k) (hq : eqC v A Tu.v Tu.A) (hu : u < Tu.k.N 0) : grI Tu Tu u (Tu.k.q 5 u) := by
  have hc := hJ.cn u hu
  refine ⟨⟨(upd_same (by rw [← hq.1 29 rfl]; exact hJ.n6.1)).symm, ?_⟩, rfl, ⟨rfl, rfl, Nat.le_refl _, by omega, rfl⟩, v, A, hJ, hq⟩
  rw [upd_same (by rw [← hq.2 26 rfl]; exact hc.1.2.2.2.2)]
  exact (va_same rfl).symm
theorem grI_s {Tu Tc : TS} {u i : Nat} (h : grI Tu Tc u i) (hu : u < Tu.k.N 0) (hf : freeK Tc.k u i) (hi : i < Tc.k.q 1 u) : grI Tu (gr1T Tc u) u (i + 1) := by
  obtain ⟨⟨h1, h2⟩, h3, ⟨h4, h5, h6, h7, h8⟩, v', A', h9, h10⟩ := h
  subst h8
  have q5 : (gr1 Tc.k u).q 5 u = Tc.k.q 5 u + 1 := by show va_up (Tc.k.q 5) u _ u = _; rw [va_up_self]
  have n6 : (gr1 Tc.k u).N 6 = max (Tc.k.tm u (Tc.k.q 5 u)) (Tc.k.N 6) := by show va_up Tc.k.N 6 (max (Tc.k.tm u (Tc.k.q 5 u)) (Tc.k.N 6)) 6 = _; rw [va_up_self]
  refine ⟨⟨?_, ?_⟩, ?_, ⟨h4, h5, ?_, ?_, q5.symm⟩, _, _, h9.gr1x (by rw [h5]; exact hu) hi, eqC.updA (h10.updV 29 rfl) 26 (by rw [h10.2 26 rfl])⟩
  · show upd Tc.v 29 _ = upd Tu.v 29 (nI ((gr1 Tc.k u).N 6))
    rw [n6, h1, upd_upd]
  · show va_up Tc.A 26 (upd (Tc.A 26) u _) = va_up Tu.A 26 (upd (Tu.A 26) u (nI ((gr1 Tc.k u).q 5 u)))
    rw [q5, h2, va_upup, va_up_self, upd_upd]
  · show grK u (Tc.k.q 1 u - (gr1 Tc.k u).q 5 u) (gr1 Tc.k u) = _
    rw [q5, ← h3]
    obtain ⟨m, hm⟩ : ∃ m, Tc.k.q 1 u - Tc.k.q 5 u = m + 1 := ⟨Tc.k.q 1 u - Tc.k.q 5 u - 1, by omega⟩
    rw [hm, grK_t hf, show Tc.k.q 1 u - (Tc.k.q 5 u + 1) = m by omega]
  · show _ ≤ (gr1 Tc.k u).q 5 u
    rw [q5]; omega
  · show (gr1 Tc.k u).q 5 u ≤ Tc.k.q 1 u
    rw [q5]; omega
theorem grI_e {Tu Tc : TS} {u i : Nat} (h : grI Tu Tc u i) (he : ¬ i < Tc.k.q 1 u ∨ ¬ freeK Tc.k u i) : Tc = grE1 Tu u := by
  obtain ⟨⟨h1, h2⟩, h3, ⟨h4, h5, h6, h7, h8⟩, -⟩ := h
  subst h8
  have hk : grK u (Tc.k.q 1 u - Tc.k.q 5 u) Tc.k = Tc.k := by
    cases q : Tc.k.q 1 u - Tc.k.q 5 u with
    | zero => rfl
    | succ n => exact grK_f (he.resolve_left (fun z => z (by omega)))
  have e : Tc.k = grK u (Tu.k.q 1 u - Tu.k.q 5 u) Tu.k := hk.symm.trans h3
  unfold grE1
  rw [← e]
  exact Prod.ext h1 (Prod.ext h2 rfl)
theorem cS.gr1 {G : GG} {P : List Nat} {f : Nat → va_E} {o : Nat} {D : Nat → Nat → Nat} {C : Nat → Nat} {T T1 : TS} {u : Nat} {x y : Int32} (hT1 : T1 = (T.v, va_up T.A 26 (upd (T.A 26) u x), T.k)) (h : cS G P f o D C (upd T1.v 29 y, T1.A, T1.k)) (hx : x = nI (T.k.q 5 u + 1)) (hy : y = nI (max (T.k.tm u (T.k.q 5 u)) (T.k.N 6))) : cS G P f o D C (gr1T T u) := by
  subst hT1; subst hx; subst hy
  exact h.congrN ⟨fun _ _ => rfl, fun _ _ => rfl⟩ (fun j hj => va_up_ne _ _ (by omega)) rfl rfl rfl rfl
theorem grL2_KJ {v : Nat → Int32} {A : Nat → Nat → Int32} {T : TS} (hJ : JI v A T.k) (hq : eqC v A T.v T.A) : ∀ u, u ≤ T.k.N 0 → ∃ v' A', JI v' A' (grL2 u T).k ∧ eqC v' A' (grL2 u T).v (grL2 u T).A := by
  intro u
  induction u with
  | zero => exact fun _ => ⟨v, A, hJ, hq⟩
  | succ u ih =>
    intro hu
    obtain ⟨v', A', h1, h2⟩ := ih (by omega)
    have hu' : u < (grL2 u T).k.N 0 := by rw [(grL2_k T u).1 0 (by decide) (by decide)]; omega
    exact ⟨_, _, h1.gC h2 hu'⟩
theorem ffF_put8 {D : Nat → Nat → Nat} {v : Nat → Int32} {y : Int32} : ffF D (upd v 29 y) = (ffF D v).set 8 (.int y) := rfl
theorem cS.put29 {G : GG} {P : List Nat} {f f1 : Nat → va_E} {o : Nat} {D : Nat → Nat → Nat} {C : Nat → Nat} {T : TS} (h : cS G P f o D C T) (h35 : G.2.1 3 ≠ G.2.1 5) (h45 : G.2.1 4 ≠ G.2.1 5) {y : Int32} (hf : f1 = va_up f o (.inr (0, ffF D (upd T.v 29 y)))) : cS G P f1 o D C (upd T.v 29 y, T.A, T.k) :=
  h.own (wr_x hf h.ff.2 (by decide) h.lw) h35 h45 rfl (by rw [hf, va_up_self])
set_option maxHeartbeats 4000000 in
set_option maxRecDepth 100000 in
theorem k_FF_grantMoves (l : Launch) (G : GG) {P : List Nat} {f : Nat → va_E} {o : Nat} {D : Nat → Nat → Nat} {C9 : Nat → Nat} {T : TS} (hS : cS G P f o D C9 T) {v : Nat → Int32} {A : Nat → Nat → Int32} (hJ : JI v A T.k) (hq : eqC v A T.v T.A)  : ct l G y_FF_grantMoves c_FF_grantMoves 5 none 8 192 (12) (1650) [.ref o] P f (fun x N f1 => x = none ∧ ∃ D' C', cS G (P ++ N) f1 o D' C' (grL2 (T.k.N 0) T)) := by
  refine ct_intro (by decide) [some (.ref o), none, none, none, none] rfl rfl (Nat.le_of_ble_eq_true rfl) ?_
  intro p e s m below meth c ls C hr hlk hnm hE hM hl
  have hPN : P = P ++ [] := (List.append_nil P).symm
  refine lv_iconst (v := 0) C.1 C.2.1 d_FF_grantMoves_0 (by decide) ?_
  refine lo_istore_n C hl d_FF_grantMoves_1 (Nat.le_of_ble_eq_true rfl) rfl (fun ls hl => ?_)
  refine W.loop (α := (Nat) × (Nat → Nat → Nat) × (Nat → Nat) × (Array Slot) × (List Nat) × (Heap) × (List Loc) × (Nat → va_E)) (fun zz => 6 - zz.1) (fun zz => (zz.1 ≤ T.k.N 0) ∧ (cS G (P ++ zz.2.2.2.2.1) zz.2.2.2.2.2.2.2 o zz.2.1 zz.2.2.1 (grL2 zz.1 T)) ∧ lo zz.2.2.2.1 [some (.ref o), some (.int (nI zz.1)), none, none, none] ∧ pgS G (pgA P s.heap.size) s.heap (P ++ zz.2.2.2.2.1) zz.2.2.2.2.2.2.2 zz.2.2.2.2.2.1 zz.2.2.2.2.2.2.1) (fun zz => zz.2.2.2.2.2.1) (fun zz => zz.2.2.2.2.2.2.1) (fun zz => zz.1 * 2) (fun zz => zz.1 * 275) (fun zz => F0 m 2 zz.2.2.2.1 []) ?_ (0, D, C9, ls, _, s.heap, [], f) ⟨Nat.zero_le _, (show cS G (P ++ []) f o D C9 (grL2 0 T) from (List.append_nil P).symm ▸ hS), lo_weak hl ⟨rfl, rfl, trivial⟩, (hPN ▸ hM)⟩
  rintro ⟨u, D1, C1, ls, N1, H1, locs1, f1⟩ ⟨hu2, hS, hl, hM⟩ ih2
  dsimp only at hu2 hS hl hM
  show W _ _ _ _ _ _ _ _ _ _ _ _ (u * 2) (u * 275) _ (F0 m 2 ls [])
  have hPN : P ++ N1 = P ++ N1 := rfl
  have hb6 := hJ.n0.2
  have hbN : (grL2 u T).k.N 0 = T.k.N 0 := (grL2_k T u).1 0 (by decide) (by decide)
  refine lv_iload_n C.1 C.2.1 d_FF_grantMoves_2 rfl (lo_at hl 1 rfl) ?_
  refine lv_aload_n C.1 C.2.1 d_FF_grantMoves_3 rfl (lo_at hl 0 rfl) ?_
  refine pg_get C hE hM hS.ff.1 hS.ff.2 rfl in_FF 3 (Nat.le_of_ble_eq_true rfl) tw_88 rfl rfl d_FF_grantMoves_4 ?_
  refine pg_alen C hE hM hS.va.1 (t0 := 3) (Nat.le_of_ble_eq_true rfl) hS.va.2 d_FF_grantMoves_7 ?_
  refine lv_icmp_ge (tgt := 144) C.1 C.2.1 d_FF_grantMoves_8 (by decide) (fun hc8 => ?_) (fun hc8 => ?_)
  · refine pg_vret C hr hlk hM hPN (by omega) (by omega) d_FF_grantMoves_144 ?_
    have hu9 : (grL2 u T).k.N 0 ≤ u := nI_leN (by omega) (by omega) hc8
    have hue : u = T.k.N 0 := by omega
    subst hue
    exact ⟨rfl, D1, C1, hS⟩
  · have hu : u < (grL2 u T).k.N 0 := nI_ltN (by omega) (by omega) hc8
    have huN : u < T.k.N 0 := by omega
    obtain ⟨v', A', hJ', hq'⟩ := grL2_KJ hJ hq u (by omega)
    have h26 : (grL2 u T).A 26 u = nI ((grL2 u T).k.q 5 u) := by rw [← hq'.2 26 rfl]; exact (hJ'.cn u hu).1.2.2.2.2
    have hcu := hJ'.cn u hu
    have hqbu := hJ'.qb hu
    have hTu : ∃ Tu : TS, Tu = grL2 u T := ⟨_, rfl⟩
    obtain ⟨Tu, hTu⟩ := hTu
    rw [← hTu] at hS hu hJ' hq' h26 hcu hqbu
    refine lv_aload_n C.1 C.2.1 d_FF_grantMoves_11 rfl (lo_at hl 0 rfl) ?_
    refine pg_get C hE hM hS.ff.1 hS.ff.2 rfl in_FF 3 (Nat.le_of_ble_eq_true rfl) tw_88 rfl rfl d_FF_grantMoves_12 ?_
    refine lv_iload_n C.1 C.2.1 d_FF_grantMoves_15 rfl (lo_at hl 1 rfl) ?_
    refine cg_aald C hE hM hS.va.1 hS.va.2 rfl u rfl hu (by omega) rfl d_FF_grantMoves_16 ?_
    refine lo_astore_n C hl d_FF_grantMoves_17 (Nat.le_of_ble_eq_true rfl) rfl (fun ls hl => ?_)
    refine lv_aload_n C.1 C.2.1 d_FF_grantMoves_18 rfl (lo_at hl 2 rfl) ?_
    refine pg_getN C hE hM (hS.vh u hu).1 (hS.vh u hu).2 rfl in_Veh 6 (Nat.le_of_ble_eq_true rfl) nw_488 rfl rfl d_FF_grantMoves_19 ?_
    rw [h26]
    refine lo_istore_n C hl d_FF_grantMoves_22 (Nat.le_of_ble_eq_true rfl) rfl (fun ls hl => ?_)
    refine lv_iload_n C.1 C.2.1 d_FF_grantMoves_23 rfl (lo_at hl 3 rfl) ?_
    refine lo_istore C hl d_FF_grantMoves_24 (Nat.le_of_ble_eq_true rfl) rfl (fun ls hl => ?_)
    refine W.loop (α := (Nat) × (TS) × (Array Slot) × (Heap) × (List Loc) × (Nat → va_E)) (fun zz => (Tu.k.q 1 u) - zz.1) (fun zz => (grI Tu zz.2.1 u zz.1) ∧ (cS G (P ++ N1) zz.2.2.2.2.2 o D1 C1 zz.2.1) ∧ lo zz.2.2.1 [some (.ref o), some (.int (nI u)), some (.ref (D1 1 u)), some (.int (nI (Tu.k.q 5 u))), some (.int (nI zz.1))] ∧ pgS G (pgA P s.heap.size) s.heap (P ++ N1) zz.2.2.2.2.2 zz.2.2.2.1 zz.2.2.2.2.1) (fun zz => zz.2.2.2.1) (fun zz => zz.2.2.2.2.1) (fun zz => u * 2) (fun zz => u * 275) (fun zz => F0 m 26 zz.2.2.1 []) ?_ (((Tu).k.q 5 u), Tu, ls, H1, locs1, f1) ⟨(grI_0 hJ' hq' hu), hS, lo_weak hl ⟨rfl, rfl, rfl, rfl, rfl, trivial⟩, hM⟩
    rintro ⟨i, Tc, ls, H1, locs1, f1⟩ ⟨hIi, hS, hl, hM⟩ ih26
    dsimp only at hIi hS hl hM
    show W _ _ _ _ _ _ _ _ _ _ _ _ (u * 2) (u * 275) _ (F0 m 26 ls [])
    have hq1e := congrFun hIi.2.2.1.1 u
    have hN0e := hIi.2.2.1.2.1
    have hi7 := hIi.2.2.1.2.2.2.1
    have hi8 := hIi.2.2.1.2.2.2.2
    have huTu := hu
    replace hu : u < Tc.k.N 0 := by rw [hN0e]; exact hu
    refine lv_iload C.1 C.2.1 d_FF_grantMoves_26 (lo_at hl 4 rfl) ?_
    refine lv_aload_n C.1 C.2.1 d_FF_grantMoves_28 rfl (lo_at hl 2 rfl) ?_
    refine pg_getN C hE hM (hS.vh u hu).1 (hS.vh u hu).2 rfl in_Veh 2 (Nat.le_of_ble_eq_true rfl) nw_480 rfl rfl d_FF_grantMoves_29 ?_
    obtain ⟨_, _, hc_vl⟩ := (hS.vl u hu).cell
    refine cg_callV C hE hM (q_size l G (hS.vl u hu)) (hS.vl u hu).1 hc_vl rfl tw_287 cy_AL_size ⟨(Nat.le_of_ble_eq_true rfl), (Nat.le_of_ble_eq_true rfl)⟩ rfl hl.1 rfl (Nat.le_of_ble_eq_true rfl) ⟨by (try show _ ≤ 12); omega, by (try show _ ≤ 1650); omega⟩ d_FF_grantMoves_32 (fun x9 f11 H1 locs1 hp hM => ?_)
    obtain ⟨rfl, h9⟩ := hp
    rw [h9] at hM
    clear h9
    refine W.eq (g2 := F0 m 35 ls [_, _]) rfl ?_
    refine lv_icmp_ge (tgt := 98) C.1 C.2.1 d_FF_grantMoves_35 (by decide) (fun hc35 => ?_) (fun hc35 => ?_)
    · have hTg : Tc = grE1 Tu u := grI_e hIi (Or.inl (fun z => absurd hc35 (by rw [Int32.not_le]; exact (nI_ltI (by omega) (by omega)).mpr z)))
      obtain ⟨-, -, -, v3, A3, hJ3, hq3⟩ := hIi
      have h26c : Tc.A 26 u = nI (Tc.k.q 5 u) := by rw [← hq3.2 26 rfl]; exact (hJ3.cn u hu).1.2.2.2.2
      have h26g : (grE1 Tu u).A 26 u = nI ((grE1 Tu u).k.q 5 u) := by rw [← hTg]; exact h26c
      have hq5g : (grE1 Tu u).k.q 5 u ≤ 3600 := by rw [← hTg]; have := hJ3.qb hu; omega
      have hg9 := gz_200 hS.cp.1 hS.al
      have hb60 := hJ3.n1.2
      have h31 : Tc.v 31 = nI (Tc.k.N 1) := by rw [← hq3.1 31 rfl]; exact hJ3.n1.1
      have hqbc := hJ3.qb hu
      refine lv_aload_n C.1 C.2.1 d_FF_grantMoves_98 rfl (lo_at hl 2 rfl) ?_
      refine pg_getN C hE hM (hS.vh u hu).1 (hS.vh u hu).2 rfl in_Veh 6 (Nat.le_of_ble_eq_true rfl) nw_488 rfl rfl d_FF_grantMoves_99 ?_
      refine lv_iload_n C.1 C.2.1 d_FF_grantMoves_102 rfl (lo_at hl 3 rfl) ?_
      refine lv_icmp_gt (tgt := 114) C.1 C.2.1 d_FF_grantMoves_103 (by decide) (fun hc103 => ?_) (fun hc103 => ?_)
      · refine lv_aload_n C.1 C.2.1 d_FF_grantMoves_114 rfl (lo_at hl 0 rfl) ?_
        refine pg_get C hE hM hS.ff.1 hS.ff.2 rfl in_FF 1 (Nat.le_of_ble_eq_true rfl) tw_86 rfl rfl d_FF_grantMoves_115 ?_
        refine cg_new C hE hM (ci := 5) (fs := [.int 0, .int 0, .int 0]) rfl in_Let ok_Let tw_633 tw_634 tw_24 (by decide) (by (try show _ ≤ 12); omega) (by (try show _ ≤ 1650); omega) d_FF_grantMoves_118 (fun q9 P1 f12 H1 hq9 hP1 hf12 hM => ?_)
        have hm_q9 : q9 ∈ P1 := by rw [hP1]; exact List.mem_append_right _ (List.mem_singleton.mpr rfl)
        have hc_q9 := (congrFun hf12 q9).trans (va_up_self _ _ _)
        have hPN := hPN_new hPN hP1
        have hS0 := hS
        have hlw0 := hS.lw
        have hS := hS0.nw (nw_x hf12 hq9 hP1 (fun z => cg_z0P hE hM (z ▸ hm_q9)) (by intros _ _ _ z; cases z) hlw0) (ids_ne hE).1 (ids_ne hE).2
        have hf0 := hf12
        have hP9 := hP1
        refine lv_dup C.1 C.2.1 d_FF_grantMoves_121 rfl ?_
        refine lv_iconst (v := 0) C.1 C.2.1 d_FF_grantMoves_122 (by decide) ?_
        refine lv_aload_n C.1 C.2.1 d_FF_grantMoves_123 rfl (lo_at hl 2 rfl) ?_
        refine pg_getN C hE hM (hS.vh u hu).1 (hS.vh u hu).2 rfl in_Veh 0 (Nat.le_of_ble_eq_true rfl) nw_475 rfl rfl d_FF_grantMoves_124 ?_
        refine lv_aload_n C.1 C.2.1 d_FF_grantMoves_127 rfl (lo_at hl 2 rfl) ?_
        refine pg_getN C hE hM (hS.vh u hu).1 (hS.vh u hu).2 rfl in_Veh 6 (Nat.le_of_ble_eq_true rfl) nw_488 rfl rfl d_FF_grantMoves_128 ?_
        refine cg_callIN C hE hM (k_Let_init l G _ _ _ _ hm_q9 hc_q9) nw_635 cy_Let_init ⟨(Nat.le_of_ble_eq_true rfl), (Nat.le_of_ble_eq_true rfl)⟩ rfl hl.1 rfl (Nat.le_of_ble_eq_true rfl) ⟨by (try show _ ≤ 12); omega, by (try show _ ≤ 1650); omega⟩ d_FF_grantMoves_131 (fun x9 f13 H1 locs1 hp hM => ?_)
        obtain ⟨hx9, hf9⟩ := hp
        subst hx9
        have hS := hS0.nw (nw2_x hf0 hf9 hq9 hP9 (hS.lw.wr hf9 hc_q9 (by decide))) (ids_ne hE).1 (ids_ne hE).2
        have hc_q9 := (congrFun hf9 q9).trans (va_up_self _ _ _)
        refine W.eq (g2 := F0 m 134 ls [_, _]) rfl ?_
        refine cg_callVA C hE hM (k_Air_send l G _ _ hS.ar.1 hS.ar.2 _ _ _ hS.al hS.lw (fun i hi => oOk_let (hS.lt i hi).1 (hS.lt i hi).2) (by omega) (by have := hS.cp.1; omega) _ (oOk_let hm_q9 hc_q9)) hS.ar.1 hS.ar.2 rfl tw_212 cy_Air_send ⟨(Nat.le_of_ble_eq_true rfl), (Nat.le_of_ble_eq_true rfl)⟩ rfl hl.1 rfl (Nat.le_of_ble_eq_true rfl) ⟨by (try show _ ≤ 12); omega, by (try show _ ≤ 1650); omega⟩ d_FF_grantMoves_134 (fun x9 N2 P2 f14 H1 locs1 hP2 hp hM => ?_)
        have hsn := hS.snd (ids_ne hE).1 (ids_ne hE).2 hb60 h31 hP2 hp hm_q9 hc_q9
        obtain ⟨⟨z9, hx9⟩, D2, C2, hS⟩ := hsn
        subst hx9
        have hPN := hPN_app hPN hP2
        refine W.eq (g2 := F0 m 137 ls [_]) rfl ?_
        refine lv_pop C.1 C.2.1 d_FF_grantMoves_137 rfl ?_
        refine lo_iinc C hl d_FF_grantMoves_138 rfl rfl (fun ls hl => ?_)
        refine lv_goto (tgt := 2) C.1 C.2.1 d_FF_grantMoves_141 (by decide) ?_
        refine W.widen (k := (u + 1) * 2) (n := (u + 1) * 275) (by omega) (by omega) ?_
        have hn : Tu.k.q 5 u < (grE1 Tu u).k.q 5 u ∨ isTn Tu.v (nI u) := Or.inl (by have h9 := hc103; rw [hTg, h26g] at h9; exact (nI_ltI (by omega) (by omega)).mp h9)
        have hS : cS G P2 f14 o D2 C2 (grL2 (u + 1) T) := by
          show cS _ _ _ _ _ _ (grC (grL2 u T) u)
          rw [← hTu]
          unfold grC snT
          rw [if_pos hn, ← h26g]
          rw [hTg] at hS
          exact hS
        have h9 := hl
        rw [nI_pl] at h9
        exact ih2 (u + 1, D2, C2, ls, _, H1, locs1, f14) ⟨by (try dsimp only); omega, (hPN ▸ hS), lo_weak h9 ⟨rfl, rfl, trivial⟩, (hPN ▸ hM)⟩ (by show 6 - (u + 1) < 6 - u; omega)
      · refine lv_aload_n C.1 C.2.1 d_FF_grantMoves_106 rfl (lo_at hl 0 rfl) ?_
        refine lv_aload_n C.1 C.2.1 d_FF_grantMoves_107 rfl (lo_at hl 2 rfl) ?_
        refine cg_callV C hE hM (k_FF_reportsNow l G hS u hu) hS.ff.1 hS.ff.2 rfl tw_629 cy_FF_reportsNow ⟨(Nat.le_of_ble_eq_true rfl), (Nat.le_of_ble_eq_true rfl)⟩ rfl hl.1 rfl (Nat.le_of_ble_eq_true rfl) ⟨by (try show _ ≤ 12); omega, by (try show _ ≤ 1650); omega⟩ d_FF_grantMoves_108 (fun x9 f12 H1 locs1 hp hM => ?_)
        obtain ⟨rfl, h9⟩ := hp
        rw [h9] at hM
        clear h9
        refine W.eq (g2 := F0 m 111 ls [_]) rfl ?_
        refine lv_if_eq (tgt := 138) C.1 C.2.1 d_FF_grantMoves_111 (by decide) (fun hc111 => ?_) (fun hc111 => ?_)
        · replace hc111 := bz_0.mp hc111
          refine lo_iinc C hl d_FF_grantMoves_138 rfl rfl (fun ls hl => ?_)
          refine lv_goto (tgt := 2) C.1 C.2.1 d_FF_grantMoves_141 (by decide) ?_
          refine W.widen (k := (u + 1) * 2) (n := (u + 1) * 275) (by omega) (by omega) ?_
          have hn : ¬ (Tu.k.q 5 u < (grE1 Tu u).k.q 5 u ∨ isTn Tu.v (nI u)) := by
            rintro (z | z)
            · refine hc103 ?_
              rw [hTg, h26g]
              exact (nI_ltI (by omega) (by omega)).mpr z
            · refine hc111 ?_
              rw [hTg]
              exact z
          have hS : cS G (P ++ N1) f1 o D1 C1 (grL2 (u + 1) T) := by
            show cS _ _ _ _ _ _ (grC (grL2 u T) u)
            rw [← hTu]
            unfold grC
            rw [if_neg hn]
            rw [hTg] at hS
            exact hS
          have h9 := hl
          rw [nI_pl] at h9
          exact ih2 (u + 1, D1, C1, ls, _, H1, locs1, f1) ⟨by (try dsimp only); omega, (hPN ▸ hS), lo_weak h9 ⟨rfl, rfl, trivial⟩, (hPN ▸ hM)⟩ (by show 6 - (u + 1) < 6 - u; omega)
        · replace hc111 := bz_1.mp hc111
          refine lv_aload_n C.1 C.2.1 d_FF_grantMoves_114 rfl (lo_at hl 0 rfl) ?_
          refine pg_get C hE hM hS.ff.1 hS.ff.2 rfl in_FF 1 (Nat.le_of_ble_eq_true rfl) tw_86 rfl rfl d_FF_grantMoves_115 ?_
          refine cg_new C hE hM (ci := 5) (fs := [.int 0, .int 0, .int 0]) rfl in_Let ok_Let tw_633 tw_634 tw_24 (by decide) (by (try show _ ≤ 12); omega) (by (try show _ ≤ 1650); omega) d_FF_grantMoves_118 (fun q9 P1 f13 H1 hq9 hP1 hf13 hM => ?_)
          have hm_q9 : q9 ∈ P1 := by rw [hP1]; exact List.mem_append_right _ (List.mem_singleton.mpr rfl)
          have hc_q9 := (congrFun hf13 q9).trans (va_up_self _ _ _)
          have hPN := hPN_new hPN hP1
          have hS0 := hS
          have hlw0 := hS.lw
          have hS := hS0.nw (nw_x hf13 hq9 hP1 (fun z => cg_z0P hE hM (z ▸ hm_q9)) (by intros _ _ _ z; cases z) hlw0) (ids_ne hE).1 (ids_ne hE).2
          have hf0 := hf13
          have hP9 := hP1
          refine lv_dup C.1 C.2.1 d_FF_grantMoves_121 rfl ?_
          refine lv_iconst (v := 0) C.1 C.2.1 d_FF_grantMoves_122 (by decide) ?_
          refine lv_aload_n C.1 C.2.1 d_FF_grantMoves_123 rfl (lo_at hl 2 rfl) ?_
          refine pg_getN C hE hM (hS.vh u hu).1 (hS.vh u hu).2 rfl in_Veh 0 (Nat.le_of_ble_eq_true rfl) nw_475 rfl rfl d_FF_grantMoves_124 ?_
          refine lv_aload_n C.1 C.2.1 d_FF_grantMoves_127 rfl (lo_at hl 2 rfl) ?_
          refine pg_getN C hE hM (hS.vh u hu).1 (hS.vh u hu).2 rfl in_Veh 6 (Nat.le_of_ble_eq_true rfl) nw_488 rfl rfl d_FF_grantMoves_128 ?_
          refine cg_callIN C hE hM (k_Let_init l G _ _ _ _ hm_q9 hc_q9) nw_635 cy_Let_init ⟨(Nat.le_of_ble_eq_true rfl), (Nat.le_of_ble_eq_true rfl)⟩ rfl hl.1 rfl (Nat.le_of_ble_eq_true rfl) ⟨by (try show _ ≤ 12); omega, by (try show _ ≤ 1650); omega⟩ d_FF_grantMoves_131 (fun x9 f14 H1 locs1 hp hM => ?_)
          obtain ⟨hx9, hf9⟩ := hp
          subst hx9
          have hS := hS0.nw (nw2_x hf0 hf9 hq9 hP9 (hS.lw.wr hf9 hc_q9 (by decide))) (ids_ne hE).1 (ids_ne hE).2
          have hc_q9 := (congrFun hf9 q9).trans (va_up_self _ _ _)
          refine W.eq (g2 := F0 m 134 ls [_, _]) rfl ?_
          refine cg_callVA C hE hM (k_Air_send l G _ _ hS.ar.1 hS.ar.2 _ _ _ hS.al hS.lw (fun i hi => oOk_let (hS.lt i hi).1 (hS.lt i hi).2) (by omega) (by have := hS.cp.1; omega) _ (oOk_let hm_q9 hc_q9)) hS.ar.1 hS.ar.2 rfl tw_212 cy_Air_send ⟨(Nat.le_of_ble_eq_true rfl), (Nat.le_of_ble_eq_true rfl)⟩ rfl hl.1 rfl (Nat.le_of_ble_eq_true rfl) ⟨by (try show _ ≤ 12); omega, by (try show _ ≤ 1650); omega⟩ d_FF_grantMoves_134 (fun x9 N2 P2 f15 H1 locs1 hP2 hp hM => ?_)
          have hsn := hS.snd (ids_ne hE).1 (ids_ne hE).2 hb60 h31 hP2 hp hm_q9 hc_q9
          obtain ⟨⟨z9, hx9⟩, D2, C2, hS⟩ := hsn
          subst hx9
          have hPN := hPN_app hPN hP2
          refine W.eq (g2 := F0 m 137 ls [_]) rfl ?_
          refine lv_pop C.1 C.2.1 d_FF_grantMoves_137 rfl ?_
          refine lo_iinc C hl d_FF_grantMoves_138 rfl rfl (fun ls hl => ?_)
          refine lv_goto (tgt := 2) C.1 C.2.1 d_FF_grantMoves_141 (by decide) ?_
          refine W.widen (k := (u + 1) * 2) (n := (u + 1) * 275) (by omega) (by omega) ?_
          have hn : Tu.k.q 5 u < (grE1 Tu u).k.q 5 u ∨ isTn Tu.v (nI u) := Or.inr (by have h9 := hc111; rw [hTg] at h9; exact h9)
          have hS : cS G P2 f15 o D2 C2 (grL2 (u + 1) T) := by
            show cS _ _ _ _ _ _ (grC (grL2 u T) u)
            rw [← hTu]
            unfold grC snT
            rw [if_pos hn, ← h26g]
            rw [hTg] at hS
            exact hS
          have h9 := hl
          rw [nI_pl] at h9
          exact ih2 (u + 1, D2, C2, ls, _, H1, locs1, f15) ⟨by (try dsimp only); omega, (hPN ▸ hS), lo_weak h9 ⟨rfl, rfl, trivial⟩, (hPN ▸ hM)⟩ (by show 6 - (u + 1) < 6 - u; omega)
    · have hi : i < Tc.k.q 1 u := nI_ltN (by omega) (by omega) hc35
      have hI := hIi
      obtain ⟨-, -, -, v2, A2, hJ2, hq2⟩ := hI
      refine lv_aload_n C.1 C.2.1 d_FF_grantMoves_38 rfl (lo_at hl 0 rfl) ?_
      refine lv_aload_n C.1 C.2.1 d_FF_grantMoves_39 rfl (lo_at hl 2 rfl) ?_
      refine lv_aload_n C.1 C.2.1 d_FF_grantMoves_40 rfl (lo_at hl 2 rfl) ?_
      refine pg_getN C hE hM (hS.vh u hu).1 (hS.vh u hu).2 rfl in_Veh 2 (Nat.le_of_ble_eq_true rfl) nw_480 rfl rfl d_FF_grantMoves_41 ?_
      refine lv_iload C.1 C.2.1 d_FF_grantMoves_44 (lo_at hl 4 rfl) ?_
      obtain ⟨_, _, hc_vl⟩ := (hS.vl u hu).cell
      refine cg_callV C hE hM (q_get l G (hS.vl u hu) i hi) (hS.vl u hu).1 hc_vl rfl tw_292 cy_AL_get ⟨(Nat.le_of_ble_eq_true rfl), (Nat.le_of_ble_eq_true rfl)⟩ rfl hl.1 rfl (Nat.le_of_ble_eq_true rfl) ⟨by (try show _ ≤ 12); omega, by (try show _ ≤ 1650); omega⟩ d_FF_grantMoves_46 (fun x9 f12 H1 locs1 hp hM => ?_)
      obtain ⟨rfl, h9⟩ := hp
      rw [h9] at hM
      clear h9
      refine W.eq (g2 := F0 m 49 ls [_, _, _]) rfl ?_
      refine cg_cast C hE hM (hS.mv u hu i hi).1 (hS.mv u hu i hi).2 rfl tw_293 d_FF_grantMoves_49 ?_
      refine cg_callV C hE hM (k_FF_isFree l G hS hJ2 hq2 u i hu hi) hS.ff.1 hS.ff.2 rfl tw_767 cy_FF_isFree ⟨(Nat.le_of_ble_eq_true rfl), (Nat.le_of_ble_eq_true rfl)⟩ rfl hl.1 rfl (Nat.le_of_ble_eq_true rfl) ⟨by (try show _ ≤ 12); omega, by (try show _ ≤ 1650); omega⟩ d_FF_grantMoves_52 (fun x9 f13 H1 locs1 hp hM => ?_)
      obtain ⟨z9, hx9, hz9, hf9⟩ := hp
      subst hx9
      rw [hf9] at hM
      refine W.eq (g2 := F0 m 55 ls [_]) rfl ?_
      refine lv_if_eq (tgt := 98) C.1 C.2.1 d_FF_grantMoves_55 (by decide) (fun hc55 => ?_) (fun hc55 => ?_)
      · replace hc55 := bz_0.mp hc55
        have hTg : Tc = grE1 Tu u := grI_e hIi (Or.inr (fun z => hc55 (hz9.mpr z)))
        obtain ⟨-, -, -, v3, A3, hJ3, hq3⟩ := hIi
        have h26c : Tc.A 26 u = nI (Tc.k.q 5 u) := by rw [← hq3.2 26 rfl]; exact (hJ3.cn u hu).1.2.2.2.2
        have h26g : (grE1 Tu u).A 26 u = nI ((grE1 Tu u).k.q 5 u) := by rw [← hTg]; exact h26c
        have hq5g : (grE1 Tu u).k.q 5 u ≤ 3600 := by rw [← hTg]; have := hJ3.qb hu; omega
        have hg9 := gz_200 hS.cp.1 hS.al
        have hb60 := hJ3.n1.2
        have h31 : Tc.v 31 = nI (Tc.k.N 1) := by rw [← hq3.1 31 rfl]; exact hJ3.n1.1
        have hqbc := hJ3.qb hu
        refine lv_aload_n C.1 C.2.1 d_FF_grantMoves_98 rfl (lo_at hl 2 rfl) ?_
        refine pg_getN C hE hM (hS.vh u hu).1 (hS.vh u hu).2 rfl in_Veh 6 (Nat.le_of_ble_eq_true rfl) nw_488 rfl rfl d_FF_grantMoves_99 ?_
        refine lv_iload_n C.1 C.2.1 d_FF_grantMoves_102 rfl (lo_at hl 3 rfl) ?_
        refine lv_icmp_gt (tgt := 114) C.1 C.2.1 d_FF_grantMoves_103 (by decide) (fun hc103 => ?_) (fun hc103 => ?_)
        · refine lv_aload_n C.1 C.2.1 d_FF_grantMoves_114 rfl (lo_at hl 0 rfl) ?_
          refine pg_get C hE hM hS.ff.1 hS.ff.2 rfl in_FF 1 (Nat.le_of_ble_eq_true rfl) tw_86 rfl rfl d_FF_grantMoves_115 ?_
          refine cg_new C hE hM (ci := 5) (fs := [.int 0, .int 0, .int 0]) rfl in_Let ok_Let tw_633 tw_634 tw_24 (by decide) (by (try show _ ≤ 12); omega) (by (try show _ ≤ 1650); omega) d_FF_grantMoves_118 (fun q9 P1 f14 H1 hq9 hP1 hf14 hM => ?_)
          have hm_q9 : q9 ∈ P1 := by rw [hP1]; exact List.mem_append_right _ (List.mem_singleton.mpr rfl)
          have hc_q9 := (congrFun hf14 q9).trans (va_up_self _ _ _)
          have hPN := hPN_new hPN hP1
          have hS0 := hS
          have hlw0 := hS.lw
          have hS := hS0.nw (nw_x hf14 hq9 hP1 (fun z => cg_z0P hE hM (z ▸ hm_q9)) (by intros _ _ _ z; cases z) hlw0) (ids_ne hE).1 (ids_ne hE).2
          have hf0 := hf14
          have hP9 := hP1
          refine lv_dup C.1 C.2.1 d_FF_grantMoves_121 rfl ?_
          refine lv_iconst (v := 0) C.1 C.2.1 d_FF_grantMoves_122 (by decide) ?_
          refine lv_aload_n C.1 C.2.1 d_FF_grantMoves_123 rfl (lo_at hl 2 rfl) ?_
          refine pg_getN C hE hM (hS.vh u hu).1 (hS.vh u hu).2 rfl in_Veh 0 (Nat.le_of_ble_eq_true rfl) nw_475 rfl rfl d_FF_grantMoves_124 ?_
          refine lv_aload_n C.1 C.2.1 d_FF_grantMoves_127 rfl (lo_at hl 2 rfl) ?_
          refine pg_getN C hE hM (hS.vh u hu).1 (hS.vh u hu).2 rfl in_Veh 6 (Nat.le_of_ble_eq_true rfl) nw_488 rfl rfl d_FF_grantMoves_128 ?_
          refine cg_callIN C hE hM (k_Let_init l G _ _ _ _ hm_q9 hc_q9) nw_635 cy_Let_init ⟨(Nat.le_of_ble_eq_true rfl), (Nat.le_of_ble_eq_true rfl)⟩ rfl hl.1 rfl (Nat.le_of_ble_eq_true rfl) ⟨by (try show _ ≤ 12); omega, by (try show _ ≤ 1650); omega⟩ d_FF_grantMoves_131 (fun x9 f15 H1 locs1 hp hM => ?_)
          obtain ⟨hx9, hf9⟩ := hp
          subst hx9
          have hS := hS0.nw (nw2_x hf0 hf9 hq9 hP9 (hS.lw.wr hf9 hc_q9 (by decide))) (ids_ne hE).1 (ids_ne hE).2
          have hc_q9 := (congrFun hf9 q9).trans (va_up_self _ _ _)
          refine W.eq (g2 := F0 m 134 ls [_, _]) rfl ?_
          refine cg_callVA C hE hM (k_Air_send l G _ _ hS.ar.1 hS.ar.2 _ _ _ hS.al hS.lw (fun i hi => oOk_let (hS.lt i hi).1 (hS.lt i hi).2) (by omega) (by have := hS.cp.1; omega) _ (oOk_let hm_q9 hc_q9)) hS.ar.1 hS.ar.2 rfl tw_212 cy_Air_send ⟨(Nat.le_of_ble_eq_true rfl), (Nat.le_of_ble_eq_true rfl)⟩ rfl hl.1 rfl (Nat.le_of_ble_eq_true rfl) ⟨by (try show _ ≤ 12); omega, by (try show _ ≤ 1650); omega⟩ d_FF_grantMoves_134 (fun x9 N2 P2 f16 H1 locs1 hP2 hp hM => ?_)
          have hsn := hS.snd (ids_ne hE).1 (ids_ne hE).2 hb60 h31 hP2 hp hm_q9 hc_q9
          obtain ⟨⟨z9, hx9⟩, D2, C2, hS⟩ := hsn
          subst hx9
          have hPN := hPN_app hPN hP2
          refine W.eq (g2 := F0 m 137 ls [_]) rfl ?_
          refine lv_pop C.1 C.2.1 d_FF_grantMoves_137 rfl ?_
          refine lo_iinc C hl d_FF_grantMoves_138 rfl rfl (fun ls hl => ?_)
          refine lv_goto (tgt := 2) C.1 C.2.1 d_FF_grantMoves_141 (by decide) ?_
          refine W.widen (k := (u + 1) * 2) (n := (u + 1) * 275) (by omega) (by omega) ?_
          have hn : Tu.k.q 5 u < (grE1 Tu u).k.q 5 u ∨ isTn Tu.v (nI u) := Or.inl (by have h9 := hc103; rw [hTg, h26g] at h9; exact (nI_ltI (by omega) (by omega)).mp h9)
          have hS : cS G P2 f16 o D2 C2 (grL2 (u + 1) T) := by
            show cS _ _ _ _ _ _ (grC (grL2 u T) u)
            rw [← hTu]
            unfold grC snT
            rw [if_pos hn, ← h26g]
            rw [hTg] at hS
            exact hS
          have h9 := hl
          rw [nI_pl] at h9
          exact ih2 (u + 1, D2, C2, ls, _, H1, locs1, f16) ⟨by (try dsimp only); omega, (hPN ▸ hS), lo_weak h9 ⟨rfl, rfl, trivial⟩, (hPN ▸ hM)⟩ (by show 6 - (u + 1) < 6 - u; omega)
        · refine lv_aload_n C.1 C.2.1 d_FF_grantMoves_106 rfl (lo_at hl 0 rfl) ?_
          refine lv_aload_n C.1 C.2.1 d_FF_grantMoves_107 rfl (lo_at hl 2 rfl) ?_
          refine cg_callV C hE hM (k_FF_reportsNow l G hS u hu) hS.ff.1 hS.ff.2 rfl tw_629 cy_FF_reportsNow ⟨(Nat.le_of_ble_eq_true rfl), (Nat.le_of_ble_eq_true rfl)⟩ rfl hl.1 rfl (Nat.le_of_ble_eq_true rfl) ⟨by (try show _ ≤ 12); omega, by (try show _ ≤ 1650); omega⟩ d_FF_grantMoves_108 (fun x9 f14 H1 locs1 hp hM => ?_)
          obtain ⟨rfl, h9⟩ := hp
          rw [h9] at hM
          clear h9
          refine W.eq (g2 := F0 m 111 ls [_]) rfl ?_
          refine lv_if_eq (tgt := 138) C.1 C.2.1 d_FF_grantMoves_111 (by decide) (fun hc111 => ?_) (fun hc111 => ?_)
          · replace hc111 := bz_0.mp hc111
            refine lo_iinc C hl d_FF_grantMoves_138 rfl rfl (fun ls hl => ?_)
            refine lv_goto (tgt := 2) C.1 C.2.1 d_FF_grantMoves_141 (by decide) ?_
            refine W.widen (k := (u + 1) * 2) (n := (u + 1) * 275) (by omega) (by omega) ?_
            have hn : ¬ (Tu.k.q 5 u < (grE1 Tu u).k.q 5 u ∨ isTn Tu.v (nI u)) := by
              rintro (z | z)
              · refine hc103 ?_
                rw [hTg, h26g]
                exact (nI_ltI (by omega) (by omega)).mpr z
              · refine hc111 ?_
                rw [hTg]
                exact z
            have hS : cS G (P ++ N1) f1 o D1 C1 (grL2 (u + 1) T) := by
              show cS _ _ _ _ _ _ (grC (grL2 u T) u)
              rw [← hTu]
              unfold grC
              rw [if_neg hn]
              rw [hTg] at hS
              exact hS
            have h9 := hl
            rw [nI_pl] at h9
            exact ih2 (u + 1, D1, C1, ls, _, H1, locs1, f1) ⟨by (try dsimp only); omega, (hPN ▸ hS), lo_weak h9 ⟨rfl, rfl, trivial⟩, (hPN ▸ hM)⟩ (by show 6 - (u + 1) < 6 - u; omega)
          · replace hc111 := bz_1.mp hc111
            refine lv_aload_n C.1 C.2.1 d_FF_grantMoves_114 rfl (lo_at hl 0 rfl) ?_
            refine pg_get C hE hM hS.ff.1 hS.ff.2 rfl in_FF 1 (Nat.le_of_ble_eq_true rfl) tw_86 rfl rfl d_FF_grantMoves_115 ?_
            refine cg_new C hE hM (ci := 5) (fs := [.int 0, .int 0, .int 0]) rfl in_Let ok_Let tw_633 tw_634 tw_24 (by decide) (by (try show _ ≤ 12); omega) (by (try show _ ≤ 1650); omega) d_FF_grantMoves_118 (fun q9 P1 f15 H1 hq9 hP1 hf15 hM => ?_)
            have hm_q9 : q9 ∈ P1 := by rw [hP1]; exact List.mem_append_right _ (List.mem_singleton.mpr rfl)
            have hc_q9 := (congrFun hf15 q9).trans (va_up_self _ _ _)
            have hPN := hPN_new hPN hP1
            have hS0 := hS
            have hlw0 := hS.lw
            have hS := hS0.nw (nw_x hf15 hq9 hP1 (fun z => cg_z0P hE hM (z ▸ hm_q9)) (by intros _ _ _ z; cases z) hlw0) (ids_ne hE).1 (ids_ne hE).2
            have hf0 := hf15
            have hP9 := hP1
            refine lv_dup C.1 C.2.1 d_FF_grantMoves_121 rfl ?_
            refine lv_iconst (v := 0) C.1 C.2.1 d_FF_grantMoves_122 (by decide) ?_
            refine lv_aload_n C.1 C.2.1 d_FF_grantMoves_123 rfl (lo_at hl 2 rfl) ?_
            refine pg_getN C hE hM (hS.vh u hu).1 (hS.vh u hu).2 rfl in_Veh 0 (Nat.le_of_ble_eq_true rfl) nw_475 rfl rfl d_FF_grantMoves_124 ?_
            refine lv_aload_n C.1 C.2.1 d_FF_grantMoves_127 rfl (lo_at hl 2 rfl) ?_
            refine pg_getN C hE hM (hS.vh u hu).1 (hS.vh u hu).2 rfl in_Veh 6 (Nat.le_of_ble_eq_true rfl) nw_488 rfl rfl d_FF_grantMoves_128 ?_
            refine cg_callIN C hE hM (k_Let_init l G _ _ _ _ hm_q9 hc_q9) nw_635 cy_Let_init ⟨(Nat.le_of_ble_eq_true rfl), (Nat.le_of_ble_eq_true rfl)⟩ rfl hl.1 rfl (Nat.le_of_ble_eq_true rfl) ⟨by (try show _ ≤ 12); omega, by (try show _ ≤ 1650); omega⟩ d_FF_grantMoves_131 (fun x9 f16 H1 locs1 hp hM => ?_)
            obtain ⟨hx9, hf9⟩ := hp
            subst hx9
            have hS := hS0.nw (nw2_x hf0 hf9 hq9 hP9 (hS.lw.wr hf9 hc_q9 (by decide))) (ids_ne hE).1 (ids_ne hE).2
            have hc_q9 := (congrFun hf9 q9).trans (va_up_self _ _ _)
            refine W.eq (g2 := F0 m 134 ls [_, _]) rfl ?_
            refine cg_callVA C hE hM (k_Air_send l G _ _ hS.ar.1 hS.ar.2 _ _ _ hS.al hS.lw (fun i hi => oOk_let (hS.lt i hi).1 (hS.lt i hi).2) (by omega) (by have := hS.cp.1; omega) _ (oOk_let hm_q9 hc_q9)) hS.ar.1 hS.ar.2 rfl tw_212 cy_Air_send ⟨(Nat.le_of_ble_eq_true rfl), (Nat.le_of_ble_eq_true rfl)⟩ rfl hl.1 rfl (Nat.le_of_ble_eq_true rfl) ⟨by (try show _ ≤ 12); omega, by (try show _ ≤ 1650); omega⟩ d_FF_grantMoves_134 (fun x9 N2 P2 f17 H1 locs1 hP2 hp hM => ?_)
            have hsn := hS.snd (ids_ne hE).1 (ids_ne hE).2 hb60 h31 hP2 hp hm_q9 hc_q9
            obtain ⟨⟨z9, hx9⟩, D2, C2, hS⟩ := hsn
            subst hx9
            have hPN := hPN_app hPN hP2
            refine W.eq (g2 := F0 m 137 ls [_]) rfl ?_
            refine lv_pop C.1 C.2.1 d_FF_grantMoves_137 rfl ?_
            refine lo_iinc C hl d_FF_grantMoves_138 rfl rfl (fun ls hl => ?_)
            refine lv_goto (tgt := 2) C.1 C.2.1 d_FF_grantMoves_141 (by decide) ?_
            refine W.widen (k := (u + 1) * 2) (n := (u + 1) * 275) (by omega) (by omega) ?_
            have hn : Tu.k.q 5 u < (grE1 Tu u).k.q 5 u ∨ isTn Tu.v (nI u) := Or.inr (by have h9 := hc111; rw [hTg] at h9; exact h9)
            have hS : cS G P2 f17 o D2 C2 (grL2 (u + 1) T) := by
              show cS _ _ _ _ _ _ (grC (grL2 u T) u)
              rw [← hTu]
              unfold grC snT
              rw [if_pos hn, ← h26g]
              rw [hTg] at hS
              exact hS
            have h9 := hl
            rw [nI_pl] at h9
            exact ih2 (u + 1, D2, C2, ls, _, H1, locs1, f17) ⟨by (try dsimp only); omega, (hPN ▸ hS), lo_weak h9 ⟨rfl, rfl, trivial⟩, (hPN ▸ hM)⟩ (by show 6 - (u + 1) < 6 - u; omega)
      · replace hc55 := bz_1.mp hc55
        refine lv_aload_n C.1 C.2.1 d_FF_grantMoves_58 rfl (lo_at hl 2 rfl) ?_
        refine lv_iload C.1 C.2.1 d_FF_grantMoves_59 (lo_at hl 4 rfl) ?_
        refine lv_iconst (v := 1) C.1 C.2.1 d_FF_grantMoves_61 (by decide) ?_
        refine lv_iadd C.1 C.2.1 d_FF_grantMoves_62 ?_
        refine cg_putN C hE hM (hS.vh u hu).1 (hS.vh u hu).2 rfl in_Veh ok_Veh n_Veh 6 (Nat.le_of_ble_eq_true rfl) nw_488 rfl rfl rfl rfl rfl (Nat.le_of_ble_eq_true rfl) d_FF_grantMoves_63 (fun f14 H1 locs1 hf14 hM => ?_)
        obtain ⟨T1, hT1, hS⟩ : ∃ T1 : TS, T1 = (Tc.v, va_up Tc.A 26 (upd (Tc.A 26) u (nI i + 1)), Tc.k) ∧ cS G (P ++ N1) f14 o D1 C1 T1 := ⟨_, rfl, hS.put6 (ids_ne hE).1 (ids_ne hE).2 hu hf14⟩
        replace hu : u < T1.k.N 0 := by rw [hT1]; exact hu
        have hif := hz9.mp hc55
        have hi1 := hi
        replace hi : i < T1.k.q 1 u := by rw [hT1]; exact hi
        refine lv_aload_n C.1 C.2.1 d_FF_grantMoves_66 rfl (lo_at hl 0 rfl) ?_
        refine lv_aload_n C.1 C.2.1 d_FF_grantMoves_67 rfl (lo_at hl 0 rfl) ?_
        refine pg_get C hE hM hS.ff.1 hS.ff.2 rfl in_FF 8 (Nat.le_of_ble_eq_true rfl) tw_93 rfl rfl d_FF_grantMoves_68 ?_
        refine lv_aload_n C.1 C.2.1 d_FF_grantMoves_71 rfl (lo_at hl 2 rfl) ?_
        refine pg_getN C hE hM (hS.vh u hu).1 (hS.vh u hu).2 rfl in_Veh 2 (Nat.le_of_ble_eq_true rfl) nw_480 rfl rfl d_FF_grantMoves_72 ?_
        refine lv_iload C.1 C.2.1 d_FF_grantMoves_75 (lo_at hl 4 rfl) ?_
        obtain ⟨_, _, hc_vl⟩ := (hS.vl u hu).cell
        refine cg_callV C hE hM (q_get l G (hS.vl u hu) i hi) (hS.vl u hu).1 hc_vl rfl tw_292 cy_AL_get ⟨(Nat.le_of_ble_eq_true rfl), (Nat.le_of_ble_eq_true rfl)⟩ rfl hl.1 rfl (Nat.le_of_ble_eq_true rfl) ⟨by (try show _ ≤ 12); omega, by (try show _ ≤ 1650); omega⟩ d_FF_grantMoves_77 (fun x9 f15 H1 locs1 hp hM => ?_)
        obtain ⟨rfl, h9⟩ := hp
        rw [h9] at hM
        clear h9
        refine W.eq (g2 := F0 m 80 ls [_, _, _]) rfl ?_
        refine cg_cast C hE hM (hS.mv u hu i hi).1 (hS.mv u hu i hi).2 rfl tw_293 d_FF_grantMoves_80 ?_
        refine cg_callV C hE hM (k_Mov_time l G _ _ _ (hS.mv u hu i hi).1 (hS.mv u hu i hi).2) (hS.mv u hu i hi).1 (hS.mv u hu i hi).2 rfl tw_295 cy_Mov_time ⟨(Nat.le_of_ble_eq_true rfl), (Nat.le_of_ble_eq_true rfl)⟩ rfl hl.1 rfl (Nat.le_of_ble_eq_true rfl) ⟨by (try show _ ≤ 12); omega, by (try show _ ≤ 1650); omega⟩ d_FF_grantMoves_83 (fun x9 f16 H1 locs1 hp hM => ?_)
        obtain ⟨rfl, h9⟩ := hp
        rw [h9] at hM
        clear h9
        refine W.eq (g2 := F0 m 86 ls [_, _, _]) rfl ?_
        have h29 : T1.v 29 = nI (Tc.k.N 6) := by rw [hT1, ← hq2.1 29 rfl]; exact hJ2.n6.1
        rw [h29]
        refine cg_callS C hE hM (k_Mth_max l G _ _) tw_775 cy_Mth_max ⟨(Nat.le_of_ble_eq_true rfl), (Nat.le_of_ble_eq_true rfl)⟩ rfl hl.1 rfl (Nat.le_of_ble_eq_true rfl) ⟨by (try show _ ≤ 12); omega, by (try show _ ≤ 1650); omega⟩ d_FF_grantMoves_86 (fun x9 f17 H1 locs1 hp hM => ?_)
        obtain ⟨rfl, h9⟩ := hp
        rw [h9] at hM
        clear h9
        refine W.eq (g2 := F0 m 89 ls [_, _]) rfl ?_
        refine cg_put C hE hM hS.ff.1 hS.ff.2 rfl in_FF ok_FF n_FF 8 (Nat.le_of_ble_eq_true rfl) tw_93 rfl rfl rfl rfl rfl (Nat.le_of_ble_eq_true rfl) d_FF_grantMoves_89 (fun f18 H1 locs1 hf18 hM => ?_)
        have hS := hS.put29 (y := mx (nI (Tc.k.N 6)) (nI (T1.k.tm u i))) (ids_ne hE).1 (ids_ne hE).2 hf18
        refine lo_iinc C hl d_FF_grantMoves_92 rfl rfl (fun ls hl => ?_)
        refine lv_goto (tgt := 26) C.1 C.2.1 d_FF_grantMoves_95 (by decide) ?_
        have hi5 : i = Tc.k.q 5 u := hIi.2.2.1.2.2.2.2
        have hnp := hJ2.np
        have hmt := ((hJ2.mv u (by rw [hT1] at hu; exact hu)).1 i hi1).2.2.1
        have hn6 := hJ2.n6.2
        have htm : T1.k.tm = Tc.k.tm := by rw [hT1]
        rw [htm] at hS
        have hS : cS G (P ++ N1) f18 o D1 C1 (gr1T Tc u) := hS.gr1 hT1 (by rw [← hi5, show (1 : Int32) = nI 1 from rfl, nI_add]) (by rw [mx_nI (by omega) (by omega), ← hi5, Nat.max_comm])
        have hIn := grI_s hIi (by rw [hTu]; omega) hif hi1
        have h9 := hl
        rw [nI_pl] at h9
        exact ih26 (i + 1, (gr1T Tc u), ls, H1, locs1, f18) ⟨hIn, hS, lo_weak h9 ⟨rfl, rfl, rfl, rfl, rfl, trivial⟩, hM⟩ (by show (Tu.k.q 1 u) - (i + 1) < (Tu.k.q 1 u) - i; have := hIi.2.2.1.1; have e9 := congrFun this u; omega)
