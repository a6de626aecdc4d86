theorem ti_go {v : Nat → Int32} {A : Nat → Nat → Int32} {T : TS} {u : Nat} (hJ : JI v A (tiL u T).k) (hq : eqC v A (tiL u T).v (tiL u T).A) (hu : u < (tiL u T).k.N 0) (hm : (tiL u T).k.q 2 u < (tiL u T).k.q 3 u) : JI (sndV v) (sndA v (goA v A u) 1 (nI u) (goA v A u 23 u)) (tiL (u + 1) T).k ∧ eqC (sndV v) (sndA v (goA v A u) 1 (nI u) (goA v A u 23 u)) (tiL (u + 1) T).v (tiL (u + 1) T).A := by
  obtain ⟨h1, h2⟩ := (hJ.mo hq hu).1 hm
  have hu' : u < (moT (tiL u T) u).k.N 0 := by rw [(moT_k (tiL u T) u).1]; exact hu
  have hX : (moT (tiL u T) u).k.X 1 u = 1 := by
    unfold moT; rw [if_pos hm]; exact va_up_self _ _ _
  exact (h1.sD h2 hu').1 (Or.inl hX)
theorem ti_no {v : Nat → Int32} {A : Nat → Nat → Int32} {T : TS} {u : Nat} (hJ : JI v A (tiL u T).k) (hq : eqC v A (tiL u T).v (tiL u T).A) (hu : u < (tiL u T).k.N 0) (hm : ¬ (tiL u T).k.q 2 u < (tiL u T).k.q 3 u) : (isTn v (nI u) → JI (sndV v) (sndA v A 1 (nI u) (A 23 u)) (tiL (u + 1) T).k ∧ eqC (sndV v) (sndA v A 1 (nI u) (A 23 u)) (tiL (u + 1) T).v (tiL (u + 1) T).A) ∧ (¬ isTn v (nI u) → JI v A (tiL (u + 1) T).k ∧ eqC v A (tiL (u + 1) T).v (tiL (u + 1) T).A) := by
  obtain ⟨h1, h2⟩ := (hJ.mo hq hu).2 hm
  have hu' : u < (moT (tiL u T) u).k.N 0 := by rw [(moT_k (tiL u T) u).1]; exact hu
  have hX : ¬ (moT (tiL u T) u).k.X 1 u = 1 := by
    have e : (moT (tiL u T) u).k.X 1 u = 0 := by unfold moT; rw [if_neg hm]; exact va_up_self _ _ _
    rw [e]; decide
  exact ⟨fun c => (h1.sD h2 hu').1 (Or.inr c), fun c => (h1.sD h2 hu').2 (fun z => z.elim hX c)⟩
theorem snd_v0 (v : Nat → Int32) : sndV v 0 = v 0 := by
  unfold sndV
  split
  · rfl
  · exact upd_ne _ _ (by decide)
theorem gr_v0 {w np : Nat} : ∀ n (v : Nat → Int32) (A : Nat → Nat → Int32), (grL w np n v A).1 0 = v 0 := by
  intro n
  induction n with
  | zero => intro v A; rfl
  | succ n ih =>
    intro v A
    rw [grL]
    split
    · rw [ih]; exact upd_ne _ _ (by decide)
    · rfl
theorem grT_v0 (v : Nat → Int32) (A : Nat → Nat → Int32) (w np : Nat) : (grT v A w np).1 0 = v 0 := by
  unfold grT
  split
  · exact (snd_v0 _).trans (gr_v0 _ _ _)
  · exact gr_v0 _ _ _
set_option maxHeartbeats 4000000 in
set_option maxRecDepth 100000 in
theorem k_Mod_tick (l : Launch) (G : GG) (o : Nat) (r : Nat → Nat) (v : Nat → Int32) (A : Nat → Nat → Int32) (B : Nat → Nat → Int64)  {T : TS} (hJ : JI v A T.k) (hq : eqC v A T.v T.A) (hvo : v 1 = 1) : mct l G y_Mod_tick c_Mod_tick 4 (some .int) 6 144 [.ref o] o r v A B (fun x v1 A1 B1 => x = some (.int (nI (moN T (T.k.N 0)))) ∧ JI v1 A1 (tkT T).k ∧ eqC v1 A1 (tkT T).v (tkT T).A ∧ v1 0 = 0) := by
  refine mct_intro (by decide) [some (.ref o), none, none, none] rfl rfl (Nat.le_of_ble_eq_true rfl) ?_
  intro p e s m below meth c ls P f C hr hlk hE hM hm hl
  have hvo0 : ¬ v 1 = 0 := by rw [hvo]; decide
  refine lv_aload_n C.1 C.2.1 d_Mod_tick_0 rfl (lo_at hl 0 rfl) ?_
  refine lv_aload_n C.1 C.2.1 d_Mod_tick_1 rfl (lo_at hl 0 rfl) ?_
  refine md_get C hE hM hm 1 (Nat.le_of_ble_eq_true rfl) tw_783 rfl rfl d_Mod_tick_2 ?_
  refine lv_if_ne (tgt := 12) C.1 C.2.1 d_Mod_tick_5 (by decide) (fun hc5 => ?_) (fun hc5 => False.elim (hvo0 hc5))
  refine lv_iconst (v := 0) C.1 C.2.1 d_Mod_tick_12 (by decide) ?_
  refine lv_iconst (v := 0) C.1 C.2.1 d_Mod_tick_13 (by decide) ?_
  refine md_callV C hE hM hm (k_Mod_throwing l G o r _ _ _ _ _) rfl tw_930 cy_Mod_throwing ⟨(Nat.le_of_ble_eq_true rfl), (Nat.le_of_ble_eq_true rfl)⟩ rfl hl.1 rfl (Nat.le_of_ble_eq_true rfl) ⟨Nat.zero_le _, Nat.zero_le _⟩ d_Mod_tick_14 (fun x9 f1 H1 locs1 v9 A9 B9 hp hM hm => ?_)
  obtain ⟨hx9, hv9, hA9, hB9⟩ := hp
  subst hx9
  rw [hv9, hA9, hB9] at hm
  refine W.eq (g2 := F0 m 17 ls (_ :: _)) rfl ?_
  refine lv_if_eq (tgt := 22) C.1 C.2.1 d_Mod_tick_17 (by decide) (fun hc17 => ?_) (fun hc17 => False.elim (bz_1.mp hc17 rfl))
  refine lv_iconst (v := 0) C.1 C.2.1 d_Mod_tick_22 (by decide) ?_
  refine lo_istore_n C hl d_Mod_tick_23 (Nat.le_of_ble_eq_true rfl) rfl (fun ls hl => ?_)
  refine lv_iconst (v := 0) C.1 C.2.1 d_Mod_tick_24 (by decide) ?_
  refine lo_istore_n C hl d_Mod_tick_25 (Nat.le_of_ble_eq_true rfl) rfl (fun ls hl => ?_)
  refine W.loop (α := (Nat) × (Nat → Int32) × (Nat → Nat → Int32) × (Array Slot) × (Heap) × (List Loc) × (Nat → va_E)) (fun a => 6 - a.1) (fun a => (a.1 ≤ T.k.N 0) ∧ (JI (a.2.1) (a.2.2.1) (tiL a.1 T).k) ∧ (eqC (a.2.1) (a.2.2.1) (tiL a.1 T).v (tiL a.1 T).A) ∧ ((a.2.1) 0 = 0) ∧ lo a.2.2.2.1 [some (.ref o), some (.int (nI (moN T a.1))), some (.int (nI a.1)), none] ∧ pgS G (pgA P s.heap.size) s.heap P a.2.2.2.2.2.2 a.2.2.2.2.1 a.2.2.2.2.2.1 ∧ mdS G o r P f a.2.2.2.2.2.2 (a.2.1) (a.2.2.1) (B)) (fun a => a.2.2.2.2.1) (fun a => a.2.2.2.2.2.1) (fun _ => 0) (fun _ => 0) (fun a => F0 m 26 a.2.2.2.1 []) ?_ (0, (upd v 0 0), A, ls, H1, locs1, f1) ⟨Nat.zero_le _, (hJ.v0 0), (hq.upV 0 rfl), (show upd v 0 0 0 = 0 from upd_self _ _ _), lo_weak hl ⟨rfl, rfl, rfl, trivial⟩, hM, hm⟩
  rintro ⟨u, vc, Ac, ls, H1, locs1, f1⟩ ⟨hu2, hJ1, hq1, hv0, hl, hM, hm⟩ ih26
  dsimp only at hu2 hJ1 hq1 hv0 hl hM hm
  show W _ _ _ _ _ _ _ _ _ _ _ _ _ _ _ (F0 m 26 ls [])
  have hb6 := hJ.n0.2
  obtain ⟨mk1, mk2, mk3, mk4⟩ := tiL_k T u
  have hN0 : (tiL u T).k.N 0 = T.k.N 0 := mk1 0 (by decide)
  refine lv_iload_n C.1 C.2.1 d_Mod_tick_26 rfl (lo_at hl 2 rfl) ?_
  refine lv_aload_n C.1 C.2.1 d_Mod_tick_27 rfl (lo_at hl 0 rfl) ?_
  refine md_get C hE hM hm 4 (Nat.le_of_ble_eq_true rfl) tw_786 rfl rfl d_Mod_tick_28 ?_
  refine lv_icmp_ge (tgt := 106) C.1 C.2.1 d_Mod_tick_31 (by decide) (fun hc31 => ?_) (fun hc31 => ?_)
  · have hu9 : T.k.N 0 ≤ u := by have h9 := hc31; rw [hJ1.n0.1] at h9; have := nI_leN (by omega) (by omega) h9; omega
    have hue : u = T.k.N 0 := by omega
    subst hue
    obtain ⟨T2, hT2⟩ : ∃ T2, T2 = tiL (T.k.N 0) T := ⟨_, rfl⟩
    rw [← hT2] at hJ1 hq1
    have hN2 : T2.k.N 0 = T.k.N 0 := by rw [hT2]; exact mk1 0 (by decide)
    have h30 : vc 30 = T2.v 30 := hq1.1 30 rfl
    refine lv_aload_n C.1 C.2.1 d_Mod_tick_106 rfl (lo_at hl 0 rfl) ?_
    refine md_get C hE hM hm 30 (Nat.le_of_ble_eq_true rfl) tw_812 rfl rfl d_Mod_tick_107 ?_
    refine lv_iconst (v := 4) C.1 C.2.1 d_Mod_tick_110 (by decide) ?_
    refine lv_irem C.1 C.2.1 d_Mod_tick_111 (by decide) ?_
    refine lv_if_ne (tgt := 119) C.1 C.2.1 d_Mod_tick_112 (by decide) (fun hc112 => ?_) (fun hc112 => ?_)
    · obtain ⟨T3, hT3⟩ : ∃ T3, T3 = tkPl T2 := ⟨_, rfl⟩
      have hT3e : T3 = T2 := by rw [hT3]; unfold tkPl; exact if_neg (by rw [← h30]; exact hc112)
      obtain ⟨vz, hvz⟩ : ∃ vz, vz = vc := ⟨_, rfl⟩
      obtain ⟨Az, hAz⟩ : ∃ Az, Az = Ac := ⟨_, rfl⟩
      obtain ⟨Bz, hBz⟩ : ∃ Bz, Bz = B := ⟨_, rfl⟩
      have hJ3 : JI vz Az T3.k := by rw [hT3e, hvz, hAz]; exact hJ1
      have hq3 : eqC vz Az T3.v T3.A := by rw [hT3e, hvz, hAz]; exact hq1
      have hv03 : vz 0 = 0 := by rw [hvz]; exact hv0
      rw [← hvz, ← hAz, ← hBz] at hm
      have hN3 : T3.k.N 0 = T.k.N 0 := by rw [hT3e]; exact hN2
      refine lv_iconst (v := 0) C.1 C.2.1 d_Mod_tick_119 (by decide) ?_
      refine lo_istore_n C hl d_Mod_tick_120 (Nat.le_of_ble_eq_true rfl) rfl (fun ls hl => ?_)
      refine W.loop (α := (Nat) × (Nat → Int32) × (Nat → Nat → Int32) × (Array Slot) × (Heap) × (List Loc) × (Nat → va_E)) (fun a => 6 - a.1) (fun a => (a.1 ≤ T.k.N 0) ∧ (JI (a.2.1) (a.2.2.1) (grL2 a.1 T3).k) ∧ (eqC (a.2.1) (a.2.2.1) (grL2 a.1 T3).v (grL2 a.1 T3).A) ∧ ((a.2.1) 0 = 0) ∧ lo a.2.2.2.1 [some (.ref o), some (.int (nI (moN T (T.k.N 0)))), some (.int (nI a.1)), none] ∧ pgS G (pgA P s.heap.size) s.heap P a.2.2.2.2.2.2 a.2.2.2.2.1 a.2.2.2.2.2.1 ∧ mdS G o r P f a.2.2.2.2.2.2 (a.2.1) (a.2.2.1) (Bz)) (fun a => a.2.2.2.2.1) (fun a => a.2.2.2.2.2.1) (fun _ => 0) (fun _ => 0) (fun a => F0 m 121 a.2.2.2.1 []) ?_ (0, vz, Az, ls, H1, locs1, f1) ⟨Nat.zero_le _, hJ3, hq3, hv03, lo_weak hl ⟨rfl, rfl, rfl, trivial⟩, hM, hm⟩
      rintro ⟨u, vc, Ac, ls, H1, locs1, f1⟩ ⟨hu2, hJ4, hq4, hv0, hl, hM, hm⟩ ih121
      dsimp only at hu2 hJ4 hq4 hv0 hl hM hm
      show W _ _ _ _ _ _ _ _ _ _ _ _ _ _ _ (F0 m 121 ls [])
      have hb6 := hJ.n0.2
      have hN0 : (grL2 u T3).k.N 0 = T.k.N 0 := ((grL2_k T3 u).1 0 (by decide) (by decide)).trans hN3
      refine lv_iload_n C.1 C.2.1 d_Mod_tick_121 rfl (lo_at hl 2 rfl) ?_
      refine lv_aload_n C.1 C.2.1 d_Mod_tick_122 rfl (lo_at hl 0 rfl) ?_
      refine md_get C hE hM hm 4 (Nat.le_of_ble_eq_true rfl) tw_786 rfl rfl d_Mod_tick_123 ?_
      refine lv_icmp_ge (tgt := 140) C.1 C.2.1 d_Mod_tick_126 (by decide) (fun hc126 => ?_) (fun hc126 => ?_)
      · have hu9 : T.k.N 0 ≤ u := by have h9 := hc126; rw [hJ4.n0.1] at h9; have := nI_leN (by omega) (by omega) h9; omega
        have hue : u = T.k.N 0 := by omega
        subst hue
        have hT4 : tkT T = (upd (grL2 (T.k.N 0) T3).v 30 ((grL2 (T.k.N 0) T3).v 30 + 1), (grL2 (T.k.N 0) T3).A, (grL2 (T.k.N 0) T3).k) := by rw [hT3, hT2, tiL_eq]; rfl
        refine lv_aload_n C.1 C.2.1 d_Mod_tick_140 rfl (lo_at hl 0 rfl) ?_
        refine lv_dup C.1 C.2.1 d_Mod_tick_141 rfl ?_
        refine md_get C hE hM hm 30 (Nat.le_of_ble_eq_true rfl) tw_812 rfl rfl d_Mod_tick_142 ?_
        refine lv_iconst (v := 1) C.1 C.2.1 d_Mod_tick_145 (by decide) ?_
        refine lv_iadd C.1 C.2.1 d_Mod_tick_146 ?_
        refine md_put C hE hM hm 30 (Nat.le_of_ble_eq_true rfl) tw_812 rfl rfl rfl rfl rfl d_Mod_tick_147 (fun f1 H1 locs1 hM hm => ?_)
        refine lv_iload_n C.1 C.2.1 d_Mod_tick_150 rfl (lo_at hl 1 rfl) ?_
        refine md_iret C hr hlk hM hm d_Mod_tick_151 ?_
        refine ⟨rfl, ?_, ?_, ?_⟩
        · rw [hT4]; exact hJ4.v30 _
        · rw [hT4]; exact hq4.updV 30 (by rw [hq4.1 30 rfl])
        · rw [upd_ne _ _ (by decide)]; exact hv0
      · have hu : u < (grL2 u T3).k.N 0 := by have h9 := hc126; rw [hJ4.n0.1] at h9; exact nI_ltN (by omega) (by omega) h9
        have hcu := hJ4.cn u hu
        have hqbu := hJ4.qb hu
        refine lv_aload_n C.1 C.2.1 d_Mod_tick_129 rfl (lo_at hl 0 rfl) ?_
        refine lv_iload_n C.1 C.2.1 d_Mod_tick_130 rfl (lo_at hl 2 rfl) ?_
        refine md_callV C hE hM hm (k_Mod_grant l G o r _ _ _ u (by omega) hJ4.np hJ4.n4.1 hJ4.n1.2 hJ4.n1.1 hJ4.plOkx hcu.1.2.2.2.2 hcu.1.1 (by omega) (by omega) (fun i hi => (hJ4.vin hu hi).1)) rfl tw_1045 cy_Mod_grant ⟨(Nat.le_of_ble_eq_true rfl), (Nat.le_of_ble_eq_true rfl)⟩ rfl hl.1 rfl (Nat.le_of_ble_eq_true rfl) ⟨Nat.zero_le _, Nat.zero_le _⟩ d_Mod_tick_131 (fun x9 f1 H1 locs1 v9 A9 B9 hp hM hm => ?_)
        obtain ⟨hx9, hv9, hA9, hB9⟩ := hp
        subst hx9
        rw [hv9, hA9, hB9] at hm
        refine W.eq (g2 := F0 m 134 ls _) rfl ?_
        refine lo_iinc C hl d_Mod_tick_134 rfl rfl (fun ls hl => ?_)
        refine lv_goto (tgt := 121) C.1 C.2.1 d_Mod_tick_137 (by decide) ?_
        have h9 := hl
        rw [nI_pl] at h9
        exact ih121 (u + 1, (grT vc Ac u ((grL2 u T3).k.N 4)).1, (grT vc Ac u ((grL2 u T3).k.N 4)).2, ls, H1, locs1, f1) ⟨by (try dsimp only); omega, (hJ4.gC hq4 hu).1, (hJ4.gC hq4 hu).2, ((grT_v0 _ _ _ _).trans hv0), lo_weak h9 ⟨rfl, rfl, rfl, trivial⟩, hM, hm⟩ (by show 6 - (u + 1) < 6 - u; omega)
    · refine lv_aload_n C.1 C.2.1 d_Mod_tick_115 rfl (lo_at hl 0 rfl) ?_
      refine md_callV C hE hM hm (k_Mod_planAll l G o r _ _ _ hJ1 hq1) rfl tw_986 cy_Mod_planAll ⟨(Nat.le_of_ble_eq_true rfl), (Nat.le_of_ble_eq_true rfl)⟩ rfl hl.1 rfl (Nat.le_of_ble_eq_true rfl) ⟨Nat.zero_le _, Nat.zero_le _⟩ d_Mod_tick_116 (fun x9 f1 H1 locs1 v9 A9 B9 hp hM hm => ?_)
      have hx9 := hp.1
      subst hx9
      refine W.eq (g2 := F0 m 119 ls _) rfl ?_
      obtain ⟨T3, hT3⟩ : ∃ T3, T3 = tkPl T2 := ⟨_, rfl⟩
      have hT3e : T3 = plL (T2.k.N 2 - T2.k.N 4) T2 := by rw [hT3]; unfold tkPl; exact if_pos (by rw [← h30]; exact hc112)
      obtain ⟨vz, hvz⟩ : ∃ vz, vz = v9 := ⟨_, rfl⟩
      obtain ⟨Az, hAz⟩ : ∃ Az, Az = A9 := ⟨_, rfl⟩
      obtain ⟨Bz, hBz⟩ : ∃ Bz, Bz = B9 := ⟨_, rfl⟩
      have hJ3 : JI vz Az T3.k := by rw [hT3e, hvz, hAz]; exact hp.2.1
      have hq3 : eqC vz Az T3.v T3.A := by rw [hT3e, hvz, hAz]; exact hp.2.2.1
      have hv03 : vz 0 = 0 := by rw [hvz, hp.2.2.2]; exact hv0
      rw [← hvz, ← hAz, ← hBz] at hm
      have hN3 : T3.k.N 0 = T.k.N 0 := by rw [hT3, (tkPl_k T2).1]; exact hN2
      refine lv_iconst (v := 0) C.1 C.2.1 d_Mod_tick_119 (by decide) ?_
      refine lo_istore_n C hl d_Mod_tick_120 (Nat.le_of_ble_eq_true rfl) rfl (fun ls hl => ?_)
      refine W.loop (α := (Nat) × (Nat → Int32) × (Nat → Nat → Int32) × (Array Slot) × (Heap) × (List Loc) × (Nat → va_E)) (fun a => 6 - a.1) (fun a => (a.1 ≤ T.k.N 0) ∧ (JI (a.2.1) (a.2.2.1) (grL2 a.1 T3).k) ∧ (eqC (a.2.1) (a.2.2.1) (grL2 a.1 T3).v (grL2 a.1 T3).A) ∧ ((a.2.1) 0 = 0) ∧ lo a.2.2.2.1 [some (.ref o), some (.int (nI (moN T (T.k.N 0)))), some (.int (nI a.1)), none] ∧ pgS G (pgA P s.heap.size) s.heap P a.2.2.2.2.2.2 a.2.2.2.2.1 a.2.2.2.2.2.1 ∧ mdS G o r P f a.2.2.2.2.2.2 (a.2.1) (a.2.2.1) (Bz)) (fun a => a.2.2.2.2.1) (fun a => a.2.2.2.2.2.1) (fun _ => 0) (fun _ => 0) (fun a => F0 m 121 a.2.2.2.1 []) ?_ (0, vz, Az, ls, H1, locs1, f1) ⟨Nat.zero_le _, hJ3, hq3, hv03, lo_weak hl ⟨rfl, rfl, rfl, trivial⟩, hM, hm⟩
      rintro ⟨u, vc, Ac, ls, H1, locs1, f1⟩ ⟨hu2, hJ4, hq4, hv0, hl, hM, hm⟩ ih121
      dsimp only at hu2 hJ4 hq4 hv0 hl hM hm
      show W _ _ _ _ _ _ _ _ _ _ _ _ _ _ _ (F0 m 121 ls [])
      have hb6 := hJ.n0.2
      have hN0 : (grL2 u T3).k.N 0 = T.k.N 0 := ((grL2_k T3 u).1 0 (by decide) (by decide)).trans hN3
      refine lv_iload_n C.1 C.2.1 d_Mod_tick_121 rfl (lo_at hl 2 rfl) ?_
      refine lv_aload_n C.1 C.2.1 d_Mod_tick_122 rfl (lo_at hl 0 rfl) ?_
      refine md_get C hE hM hm 4 (Nat.le_of_ble_eq_true rfl) tw_786 rfl rfl d_Mod_tick_123 ?_
      refine lv_icmp_ge (tgt := 140) C.1 C.2.1 d_Mod_tick_126 (by decide) (fun hc126 => ?_) (fun hc126 => ?_)
      · have hu9 : T.k.N 0 ≤ u := by have h9 := hc126; rw [hJ4.n0.1] at h9; have := nI_leN (by omega) (by omega) h9; omega
        have hue : u = T.k.N 0 := by omega
        subst hue
        have hT4 : tkT T = (upd (grL2 (T.k.N 0) T3).v 30 ((grL2 (T.k.N 0) T3).v 30 + 1), (grL2 (T.k.N 0) T3).A, (grL2 (T.k.N 0) T3).k) := by rw [hT3, hT2, tiL_eq]; rfl
        refine lv_aload_n C.1 C.2.1 d_Mod_tick_140 rfl (lo_at hl 0 rfl) ?_
        refine lv_dup C.1 C.2.1 d_Mod_tick_141 rfl ?_
        refine md_get C hE hM hm 30 (Nat.le_of_ble_eq_true rfl) tw_812 rfl rfl d_Mod_tick_142 ?_
        refine lv_iconst (v := 1) C.1 C.2.1 d_Mod_tick_145 (by decide) ?_
        refine lv_iadd C.1 C.2.1 d_Mod_tick_146 ?_
        refine md_put C hE hM hm 30 (Nat.le_of_ble_eq_true rfl) tw_812 rfl rfl rfl rfl rfl d_Mod_tick_147 (fun f1 H1 locs1 hM hm => ?_)
        refine lv_iload_n C.1 C.2.1 d_Mod_tick_150 rfl (lo_at hl 1 rfl) ?_
        refine md_iret C hr hlk hM hm d_Mod_tick_151 ?_
        refine ⟨rfl, ?_, ?_, ?_⟩
        · rw [hT4]; exact hJ4.v30 _
        · rw [hT4]; exact hq4.updV 30 (by rw [hq4.1 30 rfl])
        · rw [upd_ne _ _ (by decide)]; exact hv0
      · have hu : u < (grL2 u T3).k.N 0 := by have h9 := hc126; rw [hJ4.n0.1] at h9; exact nI_ltN (by omega) (by omega) h9
        have hcu := hJ4.cn u hu
        have hqbu := hJ4.qb hu
        refine lv_aload_n C.1 C.2.1 d_Mod_tick_129 rfl (lo_at hl 0 rfl) ?_
        refine lv_iload_n C.1 C.2.1 d_Mod_tick_130 rfl (lo_at hl 2 rfl) ?_
        refine md_callV C hE hM hm (k_Mod_grant l G o r _ _ _ u (by omega) hJ4.np hJ4.n4.1 hJ4.n1.2 hJ4.n1.1 hJ4.plOkx hcu.1.2.2.2.2 hcu.1.1 (by omega) (by omega) (fun i hi => (hJ4.vin hu hi).1)) rfl tw_1045 cy_Mod_grant ⟨(Nat.le_of_ble_eq_true rfl), (Nat.le_of_ble_eq_true rfl)⟩ rfl hl.1 rfl (Nat.le_of_ble_eq_true rfl) ⟨Nat.zero_le _, Nat.zero_le _⟩ d_Mod_tick_131 (fun x9 f1 H1 locs1 v9 A9 B9 hp hM hm => ?_)
        obtain ⟨hx9, hv9, hA9, hB9⟩ := hp
        subst hx9
        rw [hv9, hA9, hB9] at hm
        refine W.eq (g2 := F0 m 134 ls _) rfl ?_
        refine lo_iinc C hl d_Mod_tick_134 rfl rfl (fun ls hl => ?_)
        refine lv_goto (tgt := 121) C.1 C.2.1 d_Mod_tick_137 (by decide) ?_
        have h9 := hl
        rw [nI_pl] at h9
        exact ih121 (u + 1, (grT vc Ac u ((grL2 u T3).k.N 4)).1, (grT vc Ac u ((grL2 u T3).k.N 4)).2, ls, H1, locs1, f1) ⟨by (try dsimp only); omega, (hJ4.gC hq4 hu).1, (hJ4.gC hq4 hu).2, ((grT_v0 _ _ _ _).trans hv0), lo_weak h9 ⟨rfl, rfl, rfl, trivial⟩, hM, hm⟩ (by show 6 - (u + 1) < 6 - u; omega)
  · have hu : u < (tiL u T).k.N 0 := by have h9 := hc31; rw [hJ1.n0.1] at h9; exact nI_ltN (by omega) (by omega) h9
    have hcu := hJ1.cn u hu
    have hqbu := hJ1.qb hu
    have hcmI : Ac 24 u ≤ Ac 23 u ↔ ¬ (tiL u T).k.q 2 u < (tiL u T).k.q 3 u := by rw [hcu.1.2.1, hcu.1.2.2.1, nI_leI (by omega) (by omega)]; omega
    refine lv_aload_n C.1 C.2.1 d_Mod_tick_34 rfl (lo_at hl 0 rfl) ?_
    refine md_get C hE hM hm 23 (Nat.le_of_ble_eq_true rfl) tw_805 rfl rfl d_Mod_tick_35 ?_
    refine lv_iload_n C.1 C.2.1 d_Mod_tick_38 rfl (lo_at hl 2 rfl) ?_
    refine md_ialdN C hE hM hm 23 rfl u rfl (show u < 6 by omega) d_Mod_tick_39 ?_
    refine lv_aload_n C.1 C.2.1 d_Mod_tick_40 rfl (lo_at hl 0 rfl) ?_
    refine md_get C hE hM hm 24 (Nat.le_of_ble_eq_true rfl) tw_806 rfl rfl d_Mod_tick_41 ?_
    refine lv_iload_n C.1 C.2.1 d_Mod_tick_44 rfl (lo_at hl 2 rfl) ?_
    refine md_ialdN C hE hM hm 24 rfl u rfl (show u < 6 by omega) d_Mod_tick_45 ?_
    refine lv_icmp_ge (tgt := 53) C.1 C.2.1 d_Mod_tick_46 (by decide) (fun hc46 => ?_) (fun hc46 => ?_)
    · have hcm : ¬ (tiL u T).k.q 2 u < (tiL u T).k.q 3 u := hcmI.mp hc46
      refine lv_iconst (v := 0) C.1 C.2.1 d_Mod_tick_53 (by decide) ?_
      refine lo_istore_n C hl d_Mod_tick_54 (Nat.le_of_ble_eq_true rfl) rfl (fun ls hl => ?_)
      refine lv_iload_n C.1 C.2.1 d_Mod_tick_55 rfl (lo_at hl 3 rfl) ?_
      refine lv_if_eq (tgt := 64) C.1 C.2.1 d_Mod_tick_56 (by decide) (fun hc56 => ?_) (fun hc56 => False.elim (hc56 rfl))
      refine lv_iload_n C.1 C.2.1 d_Mod_tick_64 rfl (lo_at hl 3 rfl) ?_
      refine lv_if_ne (tgt := 76) C.1 C.2.1 d_Mod_tick_65 (by decide) (fun hc65 => False.elim (hc65 rfl)) (fun hc65 => ?_)
      refine lv_aload_n C.1 C.2.1 d_Mod_tick_68 rfl (lo_at hl 0 rfl) ?_
      refine lv_iload_n C.1 C.2.1 d_Mod_tick_69 rfl (lo_at hl 2 rfl) ?_
      refine md_callV C hE hM hm (k_Mod_isTurn l G o r _ _ _ _) rfl tw_982 cy_Mod_isTurn ⟨(Nat.le_of_ble_eq_true rfl), (Nat.le_of_ble_eq_true rfl)⟩ rfl hl.1 rfl (Nat.le_of_ble_eq_true rfl) ⟨Nat.zero_le _, Nat.zero_le _⟩ d_Mod_tick_70 (fun x9 f1 H1 locs1 v9 A9 B9 hp hM hm => ?_)
      obtain ⟨hx9, hv9, hA9, hB9⟩ := hp
      subst hx9
      rw [hv9, hA9, hB9] at hm
      refine W.eq (g2 := F0 m 73 ls (_ :: _)) rfl ?_
      refine lv_if_eq (tgt := 88) C.1 C.2.1 d_Mod_tick_73 (by decide) (fun hc73 => ?_) (fun hc73 => ?_)
      · replace hc73 := bz_0.mp hc73
        refine lv_iload_n C.1 C.2.1 d_Mod_tick_88 rfl (lo_at hl 1 rfl) ?_
        refine lv_iload_n C.1 C.2.1 d_Mod_tick_89 rfl (lo_at hl 3 rfl) ?_
        refine lv_if_eq (tgt := 97) C.1 C.2.1 d_Mod_tick_90 (by decide) (fun hc90 => ?_) (fun hc90 => False.elim (hc90 rfl))
        refine lv_iconst (v := 0) C.1 C.2.1 d_Mod_tick_97 (by decide) ?_
        refine lv_iadd C.1 C.2.1 d_Mod_tick_98 ?_
        refine lo_istore_n C hl d_Mod_tick_99 (Nat.le_of_ble_eq_true rfl) rfl (fun ls hl => ?_)
        refine lo_iinc C hl d_Mod_tick_100 rfl rfl (fun ls hl => ?_)
        refine lv_goto (tgt := 26) C.1 C.2.1 d_Mod_tick_103 (by decide) ?_
        obtain ⟨hJn, hqn⟩ := (ti_no hJ1 hq1 hu hcm).2 hc73
        have hmN : moN T (u + 1) = moN T u + 0 := by
          show moN T u + _ = _
          rw [if_neg]
          rw [← mk2, ← mk3 u (Nat.le_refl _)]; exact hcm
        have h9 := hl
        rw [nI_pl] at h9
        rw [show nI (moN T u) + 0 = nI (moN T (u + 1)) by rw [hmN, show (0 : Int32) = nI 0 from rfl, nI_add]] at h9
        exact ih26 (u + 1, vc, Ac, ls, H1, locs1, f1) ⟨by (try dsimp only); omega, hJn, hqn, hv0, lo_weak h9 ⟨rfl, rfl, rfl, trivial⟩, hM, hm⟩ (by show 6 - (u + 1) < 6 - u; omega)
      · replace hc73 := bz_1.mp hc73
        refine lv_aload_n C.1 C.2.1 d_Mod_tick_76 rfl (lo_at hl 0 rfl) ?_
        refine lv_iconst (v := 1) C.1 C.2.1 d_Mod_tick_77 (by decide) ?_
        refine lv_iload_n C.1 C.2.1 d_Mod_tick_78 rfl (lo_at hl 2 rfl) ?_
        refine lv_aload_n C.1 C.2.1 d_Mod_tick_79 rfl (lo_at hl 0 rfl) ?_
        refine md_get C hE hM hm 23 (Nat.le_of_ble_eq_true rfl) tw_805 rfl rfl d_Mod_tick_80 ?_
        refine lv_iload_n C.1 C.2.1 d_Mod_tick_83 rfl (lo_at hl 2 rfl) ?_
        refine md_ialdN C hE hM hm 23 rfl u rfl (show u < 6 by omega) d_Mod_tick_84 ?_
        refine md_callV C hE hM hm (k_Mod_send l G o r _ _ _ _ _ _ hJ1.n1.2 hJ1.n1.1) rfl tw_966 cy_Mod_send ⟨(Nat.le_of_ble_eq_true rfl), (Nat.le_of_ble_eq_true rfl)⟩ rfl hl.1 rfl (Nat.le_of_ble_eq_true rfl) ⟨Nat.zero_le _, Nat.zero_le _⟩ d_Mod_tick_85 (fun x9 f1 H1 locs1 v9 A9 B9 hp hM hm => ?_)
        obtain ⟨hx9, hv9, hA9, hB9⟩ := hp
        subst hx9
        rw [hv9, hA9, hB9] at hm
        refine W.eq (g2 := F0 m 88 ls _) rfl ?_
        refine lv_iload_n C.1 C.2.1 d_Mod_tick_88 rfl (lo_at hl 1 rfl) ?_
        refine lv_iload_n C.1 C.2.1 d_Mod_tick_89 rfl (lo_at hl 3 rfl) ?_
        refine lv_if_eq (tgt := 97) C.1 C.2.1 d_Mod_tick_90 (by decide) (fun hc90 => ?_) (fun hc90 => False.elim (hc90 rfl))
        refine lv_iconst (v := 0) C.1 C.2.1 d_Mod_tick_97 (by decide) ?_
        refine lv_iadd C.1 C.2.1 d_Mod_tick_98 ?_
        refine lo_istore_n C hl d_Mod_tick_99 (Nat.le_of_ble_eq_true rfl) rfl (fun ls hl => ?_)
        refine lo_iinc C hl d_Mod_tick_100 rfl rfl (fun ls hl => ?_)
        refine lv_goto (tgt := 26) C.1 C.2.1 d_Mod_tick_103 (by decide) ?_
        obtain ⟨hJn, hqn⟩ := (ti_no hJ1 hq1 hu hcm).1 hc73
        have hmN : moN T (u + 1) = moN T u + 0 := by
          show moN T u + _ = _
          rw [if_neg]
          rw [← mk2, ← mk3 u (Nat.le_refl _)]; exact hcm
        have h9 := hl
        rw [nI_pl] at h9
        rw [show nI (moN T u) + 0 = nI (moN T (u + 1)) by rw [hmN, show (0 : Int32) = nI 0 from rfl, nI_add]] at h9
        exact ih26 (u + 1, (sndV vc), (sndA vc Ac 1 (nI u) (Ac 23 u)), ls, H1, locs1, f1) ⟨by (try dsimp only); omega, hJn, hqn, ((snd_v0 _).trans hv0), lo_weak h9 ⟨rfl, rfl, rfl, trivial⟩, hM, hm⟩ (by show 6 - (u + 1) < 6 - u; omega)
    · have hcm : (tiL u T).k.q 2 u < (tiL u T).k.q 3 u := Decidable.not_not.mp (fun z => hc46 (hcmI.mpr z))
      refine lv_iconst (v := 1) C.1 C.2.1 d_Mod_tick_49 (by decide) ?_
      refine lv_goto (tgt := 54) C.1 C.2.1 d_Mod_tick_50 (by decide) ?_
      refine lo_istore_n C hl d_Mod_tick_54 (Nat.le_of_ble_eq_true rfl) rfl (fun ls hl => ?_)
      refine lv_iload_n C.1 C.2.1 d_Mod_tick_55 rfl (lo_at hl 3 rfl) ?_
      refine lv_if_eq (tgt := 64) C.1 C.2.1 d_Mod_tick_56 (by decide) (fun hc56 => False.elim (absurd hc56 (by decide))) (fun hc56 => ?_)
      refine lv_aload_n C.1 C.2.1 d_Mod_tick_59 rfl (lo_at hl 0 rfl) ?_
      refine lv_iload_n C.1 C.2.1 d_Mod_tick_60 rfl (lo_at hl 2 rfl) ?_
      refine md_callV C hE hM hm (k_Mod_go l G o r _ _ _ u (by omega) hJ1.np hJ1.n4.1 (by rw [hcu.1.2.1]; exact (hJ1.vin hu (by omega)).1)) rfl tw_974 cy_Mod_go ⟨(Nat.le_of_ble_eq_true rfl), (Nat.le_of_ble_eq_true rfl)⟩ rfl hl.1 rfl (Nat.le_of_ble_eq_true rfl) ⟨Nat.zero_le _, Nat.zero_le _⟩ d_Mod_tick_61 (fun x9 f1 H1 locs1 v9 A9 B9 hp hM hm => ?_)
      obtain ⟨hx9, hv9, hA9, hB9⟩ := hp
      subst hx9
      rw [hv9, hA9, hB9] at hm
      refine W.eq (g2 := F0 m 64 ls _) rfl ?_
      refine lv_iload_n C.1 C.2.1 d_Mod_tick_64 rfl (lo_at hl 3 rfl) ?_
      refine lv_if_ne (tgt := 76) C.1 C.2.1 d_Mod_tick_65 (by decide) (fun hc65 => ?_) (fun hc65 => False.elim (absurd hc65 (by decide)))
      refine lv_aload_n C.1 C.2.1 d_Mod_tick_76 rfl (lo_at hl 0 rfl) ?_
      refine lv_iconst (v := 1) C.1 C.2.1 d_Mod_tick_77 (by decide) ?_
      refine lv_iload_n C.1 C.2.1 d_Mod_tick_78 rfl (lo_at hl 2 rfl) ?_
      refine lv_aload_n C.1 C.2.1 d_Mod_tick_79 rfl (lo_at hl 0 rfl) ?_
      refine md_get C hE hM hm 23 (Nat.le_of_ble_eq_true rfl) tw_805 rfl rfl d_Mod_tick_80 ?_
      refine lv_iload_n C.1 C.2.1 d_Mod_tick_83 rfl (lo_at hl 2 rfl) ?_
      refine md_ialdN C hE hM hm 23 rfl u rfl (show u < 6 by omega) d_Mod_tick_84 ?_
      refine md_callV C hE hM hm (k_Mod_send l G o r _ _ _ _ _ _ hJ1.n1.2 hJ1.n1.1) rfl tw_966 cy_Mod_send ⟨(Nat.le_of_ble_eq_true rfl), (Nat.le_of_ble_eq_true rfl)⟩ rfl hl.1 rfl (Nat.le_of_ble_eq_true rfl) ⟨Nat.zero_le _, Nat.zero_le _⟩ d_Mod_tick_85 (fun x9 f1 H1 locs1 v9 A9 B9 hp hM hm => ?_)
      obtain ⟨hx9, hv9, hA9, hB9⟩ := hp
      subst hx9
      rw [hv9, hA9, hB9] at hm
      refine W.eq (g2 := F0 m 88 ls _) rfl ?_
      refine lv_iload_n C.1 C.2.1 d_Mod_tick_88 rfl (lo_at hl 1 rfl) ?_
      refine lv_iload_n C.1 C.2.1 d_Mod_tick_89 rfl (lo_at hl 3 rfl) ?_
      refine lv_if_eq (tgt := 97) C.1 C.2.1 d_Mod_tick_90 (by decide) (fun hc90 => False.elim (absurd hc90 (by decide))) (fun hc90 => ?_)
      refine lv_iconst (v := 1) C.1 C.2.1 d_Mod_tick_93 (by decide) ?_
      refine lv_goto (tgt := 98) C.1 C.2.1 d_Mod_tick_94 (by decide) ?_
      refine lv_iadd C.1 C.2.1 d_Mod_tick_98 ?_
      refine lo_istore_n C hl d_Mod_tick_99 (Nat.le_of_ble_eq_true rfl) rfl (fun ls hl => ?_)
      refine lo_iinc C hl d_Mod_tick_100 rfl rfl (fun ls hl => ?_)
      refine lv_goto (tgt := 26) C.1 C.2.1 d_Mod_tick_103 (by decide) ?_
      obtain ⟨hJn, hqn⟩ := ti_go hJ1 hq1 hu hcm
      have hmN : moN T (u + 1) = moN T u + 1 := by
        show moN T u + _ = _
        rw [if_pos]
        rw [← mk2, ← mk3 u (Nat.le_refl _)]; exact hcm
      have h9 := hl
      rw [nI_pl] at h9
      rw [show nI (moN T u) + 1 = nI (moN T (u + 1)) by rw [hmN, show (1 : Int32) = nI 1 from rfl, nI_add]] at h9
      exact ih26 (u + 1, (sndV vc), (sndA vc (goA vc Ac u) 1 (nI u) (goA vc Ac u 23 u)), ls, H1, locs1, f1) ⟨by (try dsimp only); omega, hJn, hqn, ((snd_v0 _).trans hv0), lo_weak h9 ⟨rfl, rfl, rfl, trivial⟩, hM, hm⟩ (by show 6 - (u + 1) < 6 - u; omega)
