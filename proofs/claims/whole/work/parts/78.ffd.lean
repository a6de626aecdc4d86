set_option maxHeartbeats 4000000 in
set_option maxRecDepth 100000 in
theorem k_FF_isStation (l : Launch) (G : GG) {P : List Nat} {f : Nat → va_E} {o : Nat} {D : Nat → Nat → Nat} {C9 : Nat → Nat} {T : TS} (hS : cS G P f o D C9 T) (hn3 : T.k.N 3 ≤ 96) (h3 : T.v 3 = nI (T.k.N 3)) (z0 : Int32)  : ct0 l G y_FF_isStation c_FF_isStation 2 (some .boolean) 0 0 [.ref o, .int z0] P f (fun x f1 => x = some (.int (bz (inb z0 0 (T.v 3 - 1)))) ∧ f1 = f) := by
  refine ct_intro (by decide) [some (.ref o), some (.int z0)] rfl rfl (Nat.le_of_ble_eq_true rfl) ?_
  intro p e s m below meth c ls C hr hlk hnm hE hM hl
  obtain ⟨hm_sa, gS, hc_sa, hgS⟩ := hS.sa
  refine lv_iload_n C.1 C.2.1 d_FF_isStation_0 rfl (lo_at hl 1 rfl) ?_
  refine lv_if_lt (tgt := 17) C.1 C.2.1 d_FF_isStation_1 (by decide) (fun hc1 => ?_) (fun hc1 => ?_)
  · refine lv_iconst (v := 0) C.1 C.2.1 d_FF_isStation_17 (by decide) ?_
    refine cg_zret C hr hlk hM d_FF_isStation_18 (by decide) ?_
    have hn : ¬ ∃ i : Nat, z0 = nI i ∧ i < T.k.N 3 := fun ⟨i, h1, h2⟩ => nI_nn (by omega) (h1 ▸ hc1)
    rw [bz_F (fun z => hn ((inb_iff (by omega) h3).mp z))]
    exact ⟨rfl, rfl⟩
  · refine lv_iload_n C.1 C.2.1 d_FF_isStation_4 rfl (lo_at hl 1 rfl) ?_
    refine lv_aload_n C.1 C.2.1 d_FF_isStation_5 rfl (lo_at hl 0 rfl) ?_
    refine pg_get C hE hM hS.ff.1 hS.ff.2 rfl in_FF 4 (Nat.le_of_ble_eq_true rfl) tw_89 rfl rfl d_FF_isStation_6 ?_
    refine pg_alen C hE hM hm_sa (t0 := 0) (Nat.le_of_ble_eq_true rfl) hc_sa d_FF_isStation_9 ?_
    refine lv_icmp_ge (tgt := 17) C.1 C.2.1 d_FF_isStation_10 (by decide) (fun hc10 => ?_) (fun hc10 => ?_)
    · refine lv_iconst (v := 0) C.1 C.2.1 d_FF_isStation_17 (by decide) ?_
      refine cg_zret C hr hlk hM d_FF_isStation_18 (by decide) ?_
      have hn : ¬ ∃ i : Nat, z0 = nI i ∧ i < T.k.N 3 := fun ⟨i, h1, h2⟩ => absurd hc10 (by rw [h1, Int32.not_le]; exact (nI_ltI (by omega) (by omega)).mpr h2)
      rw [bz_F (fun z => hn ((inb_iff (by omega) h3).mp z))]
      exact ⟨rfl, rfl⟩
    · refine lv_iconst (v := 1) C.1 C.2.1 d_FF_isStation_13 (by decide) ?_
      refine lv_goto (tgt := 18) C.1 C.2.1 d_FF_isStation_14 (by decide) ?_
      refine cg_zret C hr hlk hM d_FF_isStation_18 (by decide) ?_
      obtain ⟨i, rfl, hi⟩ : ∃ i : Nat, z0 = nI i ∧ i < T.k.N 3 := by
        have h1 : ¬ z0.toInt < 0 := fun q => hc1 (Int32.lt_iff_toInt_lt.mpr q)
        have h2 : ¬ (nI (T.k.N 3)).toInt ≤ z0.toInt := fun q => hc10 (Int32.le_iff_toInt_le.mpr q)
        rw [nI_toInt (by omega)] at h2
        exact nI_ex (by omega) (by omega)
      rw [bz_T ((inb_iff (by omega) h3).mpr ⟨i, rfl, hi⟩)]
      exact ⟨rfl, rfl⟩
set_option maxHeartbeats 4000000 in
set_option maxRecDepth 100000 in
theorem k_FF_reportsNow (l : Launch) (G : GG) {P : List Nat} {f : Nat → va_E} {o : Nat} {D : Nat → Nat → Nat} {C9 : Nat → Nat} {T : TS} (hS : cS G P f o D C9 T) (u : Nat) (hu : u < T.k.N 0)  : ct0 l G y_FF_reportsNow c_FF_reportsNow 2 (some .boolean) 0 0 [.ref o, .ref (D 1 u)] P f (fun x f1 => x = some (.int (bz (isTn T.v (nI u)))) ∧ f1 = f) := by
  refine ct_intro (by decide) [some (.ref o), some (.ref (D 1 u))] rfl rfl (Nat.le_of_ble_eq_true rfl) ?_
  intro p e s m below meth c ls C hr hlk hnm hE hM hl
  refine lv_aload_n C.1 C.2.1 d_FF_reportsNow_0 rfl (lo_at hl 0 rfl) ?_
  refine pg_get C hE hM hS.ff.1 hS.ff.2 rfl in_FF 7 (Nat.le_of_ble_eq_true rfl) tw_92 rfl rfl d_FF_reportsNow_1 ?_
  refine lv_bipush (v := 8) C.1 C.2.1 d_FF_reportsNow_4 (by decide) ?_
  refine lv_irem C.1 C.2.1 d_FF_reportsNow_6 (by decide) ?_
  refine lv_aload_n C.1 C.2.1 d_FF_reportsNow_7 rfl (lo_at hl 1 rfl) ?_
  refine pg_getN C hE hM (hS.vh u hu).1 (hS.vh u hu).2 rfl in_Veh 0 (Nat.le_of_ble_eq_true rfl) nw_475 rfl rfl d_FF_reportsNow_8 ?_
  refine lv_bipush (v := 8) C.1 C.2.1 d_FF_reportsNow_11 (by decide) ?_
  refine lv_irem C.1 C.2.1 d_FF_reportsNow_13 (by decide) ?_
  refine lv_icmp_ne (tgt := 21) C.1 C.2.1 d_FF_reportsNow_14 (by decide) (fun hc14 => ?_) (fun hc14 => ?_)
  · refine lv_iconst (v := 0) C.1 C.2.1 d_FF_reportsNow_21 (by decide) ?_
    refine cg_zret C hr hlk hM d_FF_reportsNow_22 (by decide) ?_
    rw [bz_F hc14]
    exact ⟨rfl, rfl⟩
  · refine lv_iconst (v := 1) C.1 C.2.1 d_FF_reportsNow_17 (by decide) ?_
    refine lv_goto (tgt := 22) C.1 C.2.1 d_FF_reportsNow_18 (by decide) ?_
    refine cg_zret C hr hlk hM d_FF_reportsNow_22 (by decide) ?_
    rw [bz_T hc14]
    exact ⟨rfl, rfl⟩
set_option maxHeartbeats 4000000 in
set_option maxRecDepth 100000 in
theorem k_FF_lowestIdle (l : Launch) (G : GG) {P : List Nat} {f : Nat → va_E} {o : Nat} {D : Nat → Nat → Nat} {C9 : Nat → Nat} {T : TS} (hS : cS G P f o D C9 T) {v : Nat → Int32} {A : Nat → Nat → Int32} (hJ : JI v A T.k) (hq : eqC v A T.v T.A)  : ct0 l G y_FF_lowestIdle c_FF_lowestIdle 2 (some (.object "FleetFloor$Vehicle")) 2 40 [.ref o] P f (fun x f1 => ((∃ w, idK T.k w ∧ x = some (.ref (D 1 w))) ∨ ((∀ w, ¬ idK T.k w) ∧ x = some .null)) ∧ f1 = f) := by
  refine ct_intro (by decide) [some (.ref o), none] rfl rfl (Nat.le_of_ble_eq_true rfl) ?_
  intro p e s m below meth c ls C hr hlk hnm hE hM hl
  have hb0 := hJ.n0.2
  refine lv_iconst (v := 0) C.1 C.2.1 d_FF_lowestIdle_0 (by decide) ?_
  refine lo_istore_n C hl d_FF_lowestIdle_1 (Nat.le_of_ble_eq_true rfl) rfl (fun ls hl => ?_)
  refine W.loop (α := (Nat) × (Array Slot) × (Heap) × (List Loc)) (fun zz => 6 - zz.1) (fun zz => (zz.1 ≤ 6) ∧ (∀ x, x < zz.1 → x < T.k.N 0 → T.k.q 4 x ≠ T.k.q 1 x) ∧ lo zz.2.1 [some (.ref o), some (.int (nI zz.1))] ∧ pgS G (pgA P s.heap.size) s.heap P f zz.2.2.1 zz.2.2.2) (fun zz => zz.2.2.1) (fun zz => zz.2.2.2) (fun zz => 0) (fun zz => 0) (fun zz => F0 m 2 zz.2.1 []) ?_ (0, ls, s.heap, []) ⟨Nat.zero_le _, fun x h => absurd h (Nat.not_lt_zero _), lo_weak hl ⟨rfl, rfl, trivial⟩, hM⟩
  rintro ⟨u, ls, H1, locs1⟩ ⟨hu1, hno, hl, hM⟩ ih2
  dsimp only at hu1 hno hl hM
  show W _ _ _ _ _ _ _ _ _ _ _ _ _ _ _ (F0 m 2 ls [])
  refine lv_iload_n C.1 C.2.1 d_FF_lowestIdle_2 rfl (lo_at hl 1 rfl) ?_
  refine lv_aload_n C.1 C.2.1 d_FF_lowestIdle_3 rfl (lo_at hl 0 rfl) ?_
  refine pg_get C hE hM hS.ff.1 hS.ff.2 rfl in_FF 3 (Nat.le_of_ble_eq_true rfl) tw_88 rfl rfl d_FF_lowestIdle_4 ?_
  refine pg_alen C hE hM hS.va.1 (t0 := 3) (Nat.le_of_ble_eq_true rfl) hS.va.2 d_FF_lowestIdle_7 ?_
  refine lv_icmp_ge (tgt := 36) C.1 C.2.1 d_FF_lowestIdle_8 (by decide) (fun hc8 => ?_) (fun hc8 => ?_)
  · refine lv_null C.1 C.2.1 d_FF_lowestIdle_36 ?_
    refine cg_aret C hr (Or.inl ⟨_, rfl⟩) hlk (Or.inl rfl) hM d_FF_lowestIdle_37 ?_
    have hu9 : T.k.N 0 ≤ u := nI_leN (by omega) (by omega) hc8
    exact ⟨Or.inr ⟨fun w hw => hno w (by have := hw.1; omega) hw.1 hw.2.1, rfl⟩, rfl⟩
  · have hu : u < T.k.N 0 := nI_ltN (by omega) (by omega) hc8
    refine lv_aload_n C.1 C.2.1 d_FF_lowestIdle_11 rfl (lo_at hl 0 rfl) ?_
    refine pg_get C hE hM hS.ff.1 hS.ff.2 rfl in_FF 3 (Nat.le_of_ble_eq_true rfl) tw_88 rfl rfl d_FF_lowestIdle_12 ?_
    refine lv_iload_n C.1 C.2.1 d_FF_lowestIdle_15 rfl (lo_at hl 1 rfl) ?_
    refine cg_aald C hE hM hS.va.1 hS.va.2 rfl u rfl hu (by omega) rfl d_FF_lowestIdle_16 ?_
    refine cg_callV C hE hM (k_Veh_isIdle l G _ _ _ _ _ _ _ _ _ _ _ (hS.vh u hu).1 (hS.vh u hu).2 _ _ _ (hS.vl u hu)) (hS.vh u hu).1 (hS.vh u hu).2 rfl tw_660 cy_Veh_isIdle ⟨(Nat.le_of_ble_eq_true rfl), (Nat.le_of_ble_eq_true rfl)⟩ rfl hl.1 rfl (Nat.le_of_ble_eq_true rfl) ⟨Nat.zero_le _, Nat.zero_le _⟩ d_FF_lowestIdle_17 (fun x9 f11 H1 locs1 hp hM => ?_)
    obtain ⟨rfl, h9⟩ := hp
    rw [h9] at hM
    clear h9
    refine W.eq (g2 := F0 m 20 ls [_]) rfl ?_
    refine lv_if_eq (tgt := 30) C.1 C.2.1 d_FF_lowestIdle_20 (by decide) (fun hc20 => ?_) (fun hc20 => ?_)
    · replace hc20 := bz_0.mp hc20
      refine lo_iinc C hl d_FF_lowestIdle_30 rfl rfl (fun ls hl => ?_)
      refine lv_goto (tgt := 2) C.1 C.2.1 d_FF_lowestIdle_33 (by decide) ?_
      have hid : T.A 25 u = nI (T.k.q 1 u) ↔ T.k.q 4 u = T.k.q 1 u := by
        rw [← hq.2 25 rfl, (hJ.cn u hu).1.2.2.2.1]
        have hb := hJ.qb hu
        have hcu := hJ.cn u hu
        exact ⟨fun z => nI_inj (by omega) (by omega) z, fun z => by rw [z]⟩
      have h9 := hl
      rw [nI_pl] at h9
      exact ih2 (u + 1, ls, H1, locs1) ⟨by have := hJ.n0.2; omega, fun x h1 h2 => by
      by_cases e : x = u
      · rw [e]; exact fun z => hc20 (hid.mpr z)
      · exact hno x (by omega) h2, lo_weak h9 ⟨rfl, rfl, trivial⟩, hM⟩ (by show 6 - (u + 1) < 6 - u; have := hJ.n0.2; omega)
    · replace hc20 := bz_1.mp hc20
      refine lv_aload_n C.1 C.2.1 d_FF_lowestIdle_23 rfl (lo_at hl 0 rfl) ?_
      refine pg_get C hE hM hS.ff.1 hS.ff.2 rfl in_FF 3 (Nat.le_of_ble_eq_true rfl) tw_88 rfl rfl d_FF_lowestIdle_24 ?_
      refine lv_iload_n C.1 C.2.1 d_FF_lowestIdle_27 rfl (lo_at hl 1 rfl) ?_
      refine cg_aald C hE hM hS.va.1 hS.va.2 rfl u rfl hu (by omega) rfl d_FF_lowestIdle_28 ?_
      refine cg_aret C hr (Or.inl ⟨_, rfl⟩) hlk (Or.inr ⟨_, rfl⟩) hM d_FF_lowestIdle_29 ?_
      have hid : T.A 25 u = nI (T.k.q 1 u) ↔ T.k.q 4 u = T.k.q 1 u := by
        rw [← hq.2 25 rfl, (hJ.cn u hu).1.2.2.2.1]
        have hb := hJ.qb hu
        have hcu := hJ.cn u hu
        exact ⟨fun z => nI_inj (by omega) (by omega) z, fun z => by rw [z]⟩
      exact ⟨Or.inl ⟨u, ⟨hu, hid.mp hc20, fun x hx => hno x hx (by omega)⟩, rfl⟩, rfl⟩
set_option maxHeartbeats 4000000 in
set_option maxRecDepth 100000 in
theorem k_FF_isFree (l : Launch) (G : GG) {P : List Nat} {f : Nat → va_E} {o : Nat} {D : Nat → Nat → Nat} {C9 : Nat → Nat} {T : TS} (hS : cS G P f o D C9 T) {v : Nat → Int32} {A : Nat → Nat → Int32} (hJ : JI v A T.k) (hq : eqC v A T.v T.A) (u i : Nat) (hu : u < T.k.N 0) (hi : i < T.k.q 1 u)  : ct0 l G y_FF_isFree c_FF_isFree 4 (some .boolean) 4 87 [.ref o, .ref (D 1 u), .ref (D (10 + u) i)] P f (fun x f1 => ∃ z : Bool, x = some (.int (bz (z = true))) ∧ (z = true ↔ freeK T.k u i) ∧ f1 = f) := by
  refine ct_intro (by decide) [some (.ref o), some (.ref (D 1 u)), some (.ref (D (10 + u) i)), none] rfl rfl (Nat.le_of_ble_eq_true rfl) ?_
  intro p e s m below meth c ls C hr hlk hnm hE hM hl
  have hb0 := hJ.n0.2
  refine lv_iconst (v := 0) C.1 C.2.1 d_FF_isFree_0 (by decide) ?_
  refine lo_istore_n C hl d_FF_isFree_1 (Nat.le_of_ble_eq_true rfl) rfl (fun ls hl => ?_)
  refine W.loop (α := (Nat) × (Array Slot) × (Heap) × (List Loc)) (fun zz => 6 - zz.1) (fun zz => (zz.1 ≤ 6) ∧ (∀ x, x < zz.1 → x < T.k.N 0 → x ≠ u → ∀ j, j < T.k.q 1 x → T.k.q 4 x - 1 ≤ j → ¬ (T.k.ce x j = T.k.ce u i ∧ T.k.tm x j < T.k.tm u i)) ∧ lo zz.2.1 [some (.ref o), some (.ref (D 1 u)), some (.ref (D (10 + u) i)), some (.int (nI zz.1))] ∧ pgS G (pgA P s.heap.size) s.heap P f zz.2.2.1 zz.2.2.2) (fun zz => zz.2.2.1) (fun zz => zz.2.2.2) (fun zz => 0) (fun zz => 0) (fun zz => F0 m 2 zz.2.1 []) ?_ (0, ls, s.heap, []) ⟨Nat.zero_le _, fun x h => absurd h (Nat.not_lt_zero _), lo_weak hl ⟨rfl, rfl, rfl, rfl, trivial⟩, hM⟩
  rintro ⟨y, ls, H1, locs1⟩ ⟨hy1, hno, hl, hM⟩ ih2
  dsimp only at hy1 hno hl hM
  show W _ _ _ _ _ _ _ _ _ _ _ _ _ _ _ (F0 m 2 ls [])
  refine lv_iload_n C.1 C.2.1 d_FF_isFree_2 rfl (lo_at hl 3 rfl) ?_
  refine lv_aload_n C.1 C.2.1 d_FF_isFree_3 rfl (lo_at hl 0 rfl) ?_
  refine pg_get C hE hM hS.ff.1 hS.ff.2 rfl in_FF 3 (Nat.le_of_ble_eq_true rfl) tw_88 rfl rfl d_FF_isFree_4 ?_
  refine pg_alen C hE hM hS.va.1 (t0 := 3) (Nat.le_of_ble_eq_true rfl) hS.va.2 d_FF_isFree_7 ?_
  refine lv_icmp_ge (tgt := 42) C.1 C.2.1 d_FF_isFree_8 (by decide) (fun hc8 => ?_) (fun hc8 => ?_)
  · refine lv_iconst (v := 1) C.1 C.2.1 d_FF_isFree_42 (by decide) ?_
    refine cg_zret C hr hlk hM d_FF_isFree_43 (by decide) ?_
    have hy9 : T.k.N 0 ≤ y := nI_leN (by omega) (by omega) hc8
    exact ⟨true, rfl, ⟨fun _ x h1 h2 j h3 h4 => hno x (by omega) h1 h2 j h3 h4, fun _ => rfl⟩, rfl⟩
  · have hy : y < T.k.N 0 := nI_ltN (by omega) (by omega) hc8
    refine lv_aload_n C.1 C.2.1 d_FF_isFree_11 rfl (lo_at hl 0 rfl) ?_
    refine pg_get C hE hM hS.ff.1 hS.ff.2 rfl in_FF 3 (Nat.le_of_ble_eq_true rfl) tw_88 rfl rfl d_FF_isFree_12 ?_
    refine lv_iload_n C.1 C.2.1 d_FF_isFree_15 rfl (lo_at hl 3 rfl) ?_
    refine cg_aald C hE hM hS.va.1 hS.va.2 rfl y rfl hy (by omega) rfl d_FF_isFree_16 ?_
    refine lv_aload_n C.1 C.2.1 d_FF_isFree_17 rfl (lo_at hl 1 rfl) ?_
    refine cg_acmp_eq (tgt := 36) C d_FF_isFree_18 (by decide) (fun hc18 => ?_) (fun hc18 => ?_)
    · refine lo_iinc C hl d_FF_isFree_36 rfl rfl (fun ls hl => ?_)
      refine lv_goto (tgt := 2) C.1 C.2.1 d_FF_isFree_39 (by decide) ?_
      have hno2 : ∀ x, x < y + 1 → x < T.k.N 0 → x ≠ u → ∀ j, j < T.k.q 1 x → T.k.q 4 x - 1 ≤ j → ¬ (T.k.ce x j = T.k.ce u i ∧ T.k.tm x j < T.k.tm u i) := by
        intro x h1 h2 h3 j h4 h5 h6
        by_cases e : x = y
        · exact h3 (e.trans (hS.vj y u hy hu hc18))
        · exact hno x (by omega) h2 h3 j h4 h5 h6
      have h9 := hl
      rw [nI_pl] at h9
      exact ih2 (y + 1, ls, H1, locs1) ⟨by have := hJ.n0.2; omega, hno2, lo_weak h9 ⟨rfl, rfl, rfl, rfl, trivial⟩, hM⟩ (by show 6 - (y + 1) < 6 - y; have := hJ.n0.2; omega)
    · have hyu : y ≠ u := fun z => hc18 (by rw [z])
      have hkn : T.A 25 y = nI (T.k.q 4 y) := by rw [← hq.2 25 rfl]; exact (hJ.cn y hy).1.2.2.2.1
      have hcy := hJ.cn y hy
      have hqy := hJ.qb hy
      have hvy : f (D 1 y) = .inr (8, [.int (nI y), .int (T.A 6 y), .ref (D 2 y), .int (T.A 23 y), .int (T.A 24 y), .int (nI (T.k.q 4 y)), .int (T.A 26 y), .int (T.A 28 y), .int (T.k.X 0 y), .int (T.k.X 1 y)]) := by rw [← hkn]; exact (hS.vh y hy).2
      refine lv_aload_n C.1 C.2.1 d_FF_isFree_21 rfl (lo_at hl 0 rfl) ?_
      refine pg_get C hE hM hS.ff.1 hS.ff.2 rfl in_FF 3 (Nat.le_of_ble_eq_true rfl) tw_88 rfl rfl d_FF_isFree_22 ?_
      refine lv_iload_n C.1 C.2.1 d_FF_isFree_25 rfl (lo_at hl 3 rfl) ?_
      refine cg_aald C hE hM hS.va.1 hS.va.2 rfl y rfl hy (by omega) rfl d_FF_isFree_26 ?_
      refine lv_aload_n C.1 C.2.1 d_FF_isFree_27 rfl (lo_at hl 2 rfl) ?_
      refine cg_callV C hE hM (k_Veh_comesBefore l G (T.k.q 4 y) _ _ _ _ _ _ _ _ _ _ (hS.vh y hy).1 hvy _ _ _ (hS.vl y hy) _ _ (hS.mv y hy) (by omega) (by omega) _ _ _ (hS.mv u hu i hi).1 (hS.mv u hu i hi).2) (hS.vh y hy).1 (hS.vh y hy).2 rfl tw_771 cy_Veh_comesBefore ⟨(Nat.le_of_ble_eq_true rfl), (Nat.le_of_ble_eq_true rfl)⟩ rfl hl.1 rfl (Nat.le_of_ble_eq_true rfl) ⟨Nat.zero_le _, Nat.zero_le _⟩ d_FF_isFree_28 (fun x9 f11 H1 locs1 hp hM => ?_)
      obtain ⟨z9, hx9, hz9, hf9⟩ := hp
      subst hx9
      rw [hf9] at hM
      refine W.eq (g2 := F0 m 31 ls [_]) rfl ?_
      refine lv_if_eq (tgt := 36) C.1 C.2.1 d_FF_isFree_31 (by decide) (fun hc31 => ?_) (fun hc31 => ?_)
      · replace hc31 := bz_0.mp hc31
        refine lo_iinc C hl d_FF_isFree_36 rfl rfl (fun ls hl => ?_)
        refine lv_goto (tgt := 2) C.1 C.2.1 d_FF_isFree_39 (by decide) ?_
        have hno2 : ∀ x, x < y + 1 → x < T.k.N 0 → x ≠ u → ∀ j, j < T.k.q 1 x → T.k.q 4 x - 1 ≤ j → ¬ (T.k.ce x j = T.k.ce u i ∧ T.k.tm x j < T.k.tm u i) := by
          intro x h1 h2 h3 j h4 h5 h6
          by_cases e : x = y
          · subst e
            refine hc31 (hz9.mpr ⟨j, h5, h4, by rw [h6.1], ?_⟩)
            have hmj := ((hJ.mv x hy).1 j h4).2.2.1
            have hmi := ((hJ.mv u hu).1 i hi).2.2.1
            have hnp := hJ.np
            exact (nI_ltI (by omega) (by omega)).mpr h6.2
          · exact hno x (by omega) h2 h3 j h4 h5 h6
        have h9 := hl
        rw [nI_pl] at h9
        exact ih2 (y + 1, ls, H1, locs1) ⟨by have := hJ.n0.2; omega, hno2, lo_weak h9 ⟨rfl, rfl, rfl, rfl, trivial⟩, hM⟩ (by show 6 - (y + 1) < 6 - y; have := hJ.n0.2; omega)
      · replace hc31 := bz_1.mp hc31
        refine lv_iconst (v := 0) C.1 C.2.1 d_FF_isFree_34 (by decide) ?_
        refine cg_zret C hr hlk hM d_FF_isFree_35 (by decide) ?_
        obtain ⟨j, h1, h2, h3, h4⟩ := hz9.mp hc31
        refine ⟨false, rfl, ⟨fun z => absurd z (by decide), fun z => ?_⟩, rfl⟩
        have hmj := (hJ.mv y hy).1 j h2
        have hmi := (hJ.mv u hu).1 i hi
        have hnp := hJ.np
        exact absurd ⟨nI_inj (by omega) (by omega) h3, (nI_ltI (by omega) (by omega)).mp h4⟩ (z y hy hyu j h2 h1)
