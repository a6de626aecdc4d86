theorem ffF_0 {D : Nat → Nat → Nat} {v : Nat → Int32} (h : v 1 = 0) : ffF D v = [.ref (D 0 0), .ref (D 0 2), .ref (D 0 4), .ref (D 0 5), .ref (D 0 6), .null, .int (v 10), .int (v 30), .int (v 29)] := by unfold ffF; rw [if_pos h]
theorem ffF_1 {D : Nat → Nat → Nat} {v : Nat → Int32} (h : ¬ v 1 = 0) : ffF D v = [.ref (D 0 0), .ref (D 0 2), .ref (D 0 4), .ref (D 0 5), .ref (D 0 6), .ref (D 0 7), .int (v 10), .int (v 30), .int (v 29)] := by unfold ffF; rw [if_neg h]
theorem bz_T {p : Prop} [Decidable p] (h : p) : bz p = 1 := if_pos h
theorem bz_F {p : Prop} [Decidable p] (h : ¬ p) : bz p = 0 := if_neg h
set_option maxHeartbeats 4000000 in
set_option maxRecDepth 100000 in
theorem k_FF_isOpen (l : Launch) (G : GG) {P : List Nat} {f : Nat → va_E} {o : Nat} {D : Nat → Nat → Nat} {C9 : Nat → Nat} {T : TS} (hS : cS G P f o D C9 T)   : ct0 l G y_FF_isOpen c_FF_isOpen 1 (some .boolean) 0 0 [.ref o] P f (fun x f1 => x = some (.int (bz (¬ T.v 1 = 0))) ∧ f1 = f) := by
  refine ct_intro (by decide) [some (.ref o)] rfl rfl (Nat.le_of_ble_eq_true rfl) ?_
  intro p e s m below meth c ls C hr hlk hnm hE hM hl
  by_cases h1 : T.v 1 = 0
  · have hcO := hS.ff.2
    rw [ffF_0 h1] at hcO
    refine lv_aload_n C.1 C.2.1 d_FF_isOpen_0 rfl (lo_at hl 0 rfl) ?_
    refine pg_get C hE hM hS.ff.1 hcO rfl in_FF 5 (Nat.le_of_ble_eq_true rfl) tw_90 rfl rfl d_FF_isOpen_1 ?_
    refine lv_ifnullN (tgt := 11) C.1 C.2.1 d_FF_isOpen_4 (by decide) ?_
    refine lv_iconst (v := 0) C.1 C.2.1 d_FF_isOpen_11 (by decide) ?_
    refine cg_zret C hr hlk hM d_FF_isOpen_12 (by decide) ?_
    refine ⟨?_, rfl⟩
    rw [bz_F (fun z => z h1)]
  · have hcO := hS.ff.2
    rw [ffF_1 h1] at hcO
    refine lv_aload_n C.1 C.2.1 d_FF_isOpen_0 rfl (lo_at hl 0 rfl) ?_
    refine pg_get C hE hM hS.ff.1 hcO rfl in_FF 5 (Nat.le_of_ble_eq_true rfl) tw_90 rfl rfl d_FF_isOpen_1 ?_
    refine lv_ifnull C.1 C.2.1 d_FF_isOpen_4 ?_
    refine lv_iconst (v := 1) C.1 C.2.1 d_FF_isOpen_7 (by decide) ?_
    refine lv_goto (tgt := 12) C.1 C.2.1 d_FF_isOpen_8 (by decide) ?_
    refine cg_zret C hr hlk hM d_FF_isOpen_12 (by decide) ?_
    refine ⟨?_, rfl⟩
    rw [bz_T h1]
set_option maxHeartbeats 4000000 in
set_option maxRecDepth 100000 in
theorem k_FF_vehicleNumbered (l : Launch) (G : GG) {P : List Nat} {f : Nat → va_E} {o : Nat} {D : Nat → Nat → Nat} {C9 : Nat → Nat} {T : TS} (hS : cS G P f o D C9 T) (hn0 : T.k.N 0 ≤ 6) (z0 : Int32)  : ct0 l G y_FF_vehicleNumbered c_FF_vehicleNumbered 2 (some (.object "FleetFloor$Vehicle")) 0 0 [.ref o, .int z0] P f (fun x f1 => ((∃ u : Nat, z0 = nI u ∧ u < T.k.N 0 ∧ x = some (.ref (D 1 u))) ∨ ((¬ ∃ u : Nat, z0 = nI u ∧ u < T.k.N 0) ∧ x = some .null)) ∧ f1 = f) := by
  refine ct_intro (by decide) [some (.ref o), some (.int z0)] rfl rfl (Nat.le_of_ble_eq_true rfl) ?_
  intro p e s m below meth c ls C hr hlk hnm hE hM hl
  refine lv_iload_n C.1 C.2.1 d_FF_vehicleNumbered_0 rfl (lo_at hl 1 rfl) ?_
  refine lv_if_lt (tgt := 22) C.1 C.2.1 d_FF_vehicleNumbered_1 (by decide) (fun hc1 => ?_) (fun hc1 => ?_)
  · refine lv_null C.1 C.2.1 d_FF_vehicleNumbered_22 ?_
    refine cg_aret C hr (Or.inl ⟨_, rfl⟩) hlk (Or.inl rfl) hM d_FF_vehicleNumbered_23 ?_
    exact ⟨Or.inr ⟨fun ⟨i, h1, h2⟩ => nI_nn (by omega) (h1 ▸ hc1), rfl⟩, rfl⟩
  · refine lv_iload_n C.1 C.2.1 d_FF_vehicleNumbered_4 rfl (lo_at hl 1 rfl) ?_
    refine lv_aload_n C.1 C.2.1 d_FF_vehicleNumbered_5 rfl (lo_at hl 0 rfl) ?_
    refine pg_get C hE hM hS.ff.1 hS.ff.2 rfl in_FF 3 (Nat.le_of_ble_eq_true rfl) tw_88 rfl rfl d_FF_vehicleNumbered_6 ?_
    refine pg_alen C hE hM hS.va.1 (t0 := 3) (Nat.le_of_ble_eq_true rfl) hS.va.2 d_FF_vehicleNumbered_9 ?_
    refine lv_icmp_ge (tgt := 22) C.1 C.2.1 d_FF_vehicleNumbered_10 (by decide) (fun hc10 => ?_) (fun hc10 => ?_)
    · refine lv_null C.1 C.2.1 d_FF_vehicleNumbered_22 ?_
      refine cg_aret C hr (Or.inl ⟨_, rfl⟩) hlk (Or.inl rfl) hM d_FF_vehicleNumbered_23 ?_
      exact ⟨Or.inr ⟨fun ⟨i, h1, h2⟩ => absurd hc10 (by rw [h1, Int32.not_le]; exact (nI_ltI (by omega) (by omega)).mpr h2), rfl⟩, rfl⟩
    · obtain ⟨u, rfl, hu⟩ : ∃ i : Nat, z0 = nI i ∧ i < T.k.N 0 := by
        have h1 : ¬ z0.toInt < 0 := fun q => hc1 (Int32.lt_iff_toInt_lt.mpr q)
        have h2 : ¬ (nI (T.k.N 0)).toInt ≤ z0.toInt := fun q => hc10 (Int32.le_iff_toInt_le.mpr q)
        rw [nI_toInt (by omega)] at h2
        exact nI_ex (by omega) (by omega)
      refine lv_aload_n C.1 C.2.1 d_FF_vehicleNumbered_13 rfl (lo_at hl 0 rfl) ?_
      refine pg_get C hE hM hS.ff.1 hS.ff.2 rfl in_FF 3 (Nat.le_of_ble_eq_true rfl) tw_88 rfl rfl d_FF_vehicleNumbered_14 ?_
      refine lv_iload_n C.1 C.2.1 d_FF_vehicleNumbered_17 rfl (lo_at hl 1 rfl) ?_
      refine cg_aald C hE hM hS.va.1 hS.va.2 rfl u rfl hu (by omega) rfl d_FF_vehicleNumbered_18 ?_
      refine lv_goto (tgt := 23) C.1 C.2.1 d_FF_vehicleNumbered_19 (by decide) ?_
      refine cg_aret C hr (Or.inl ⟨_, rfl⟩) hlk (Or.inr ⟨_, rfl⟩) hM d_FF_vehicleNumbered_23 ?_
      exact ⟨Or.inl ⟨u, rfl, hu, rfl⟩, rfl⟩
theorem mx_comm (a b : Int32) : mx a b = mx b a := by
  unfold mx
  by_cases h1 : a ≤ b
  · by_cases h2 : b ≤ a
    · rw [if_pos h1, if_pos h2]; exact Int32.le_antisymm h2 h1
    · rw [if_pos h1, if_neg h2]
  · have h2 : b ≤ a := (Int32.le_total a b).resolve_left h1
    rw [if_neg h1, if_pos h2]
theorem inb_iff {k : Int32} {x : Int32} {n : Nat} (hn : n < 100000) (h : x = nI n) : inb k 0 (x - 1) ↔ ∃ i : Nat, k = nI i ∧ i < n := by
  rw [h]
  constructor
  · rintro ⟨h1, h2⟩
    rw [Int32.lt_iff_toInt_lt] at h1 h2
    have e0 : (0 : Int32).toInt = 0 := by decide
    have e1 : (nI n - 1).toInt = (n : Int) - 1 := by
      have := pk_sub_toInt (a := n) (b := 1) (by omega) (by decide)
      exact this
    rw [e0] at h1
    rw [e1] at h2
    exact nI_ex (by omega) (by omega)
  · rintro ⟨i, rfl, hi⟩
    refine ⟨nI_nn (by omega), fun z => ?_⟩
    rw [Int32.lt_iff_toInt_lt] at z
    have e1 : (nI n - 1).toInt = (n : Int) - 1 := pk_sub_toInt (a := n) (b := 1) (by omega) (by decide)
    rw [e1, nI_toInt (by omega)] at z
    omega
theorem isLt_iff {v : Nat → Int32} {k : Int32} {nl : Nat} (hn : nl ≤ 60) (h : v 31 = nI nl) : isLt v k ↔ ∃ i : Nat, k = nI i ∧ i < nl := inb_iff (by omega) h
set_option maxHeartbeats 4000000 in
set_option maxRecDepth 100000 in
theorem k_FF_cell (l : Launch) (G : GG) {P : List Nat} {f : Nat → va_E} {o : Nat} {D : Nat → Nat → Nat} {C9 : Nat → Nat} {T : TS} (hS : cS G P f o D C9 T) (hop : T.v 1 = 0 → T.k.N 3 = 0) (c0 k0 : Int32)  : ct0 l G y_FF_cell c_FF_cell 3 (some .boolean) 1 22 [.ref o, .int c0, .int k0] P f (fun x f1 => x = some (.int (bz (okCell T.v c0 k0))) ∧ cS G P f1 o D C9 (T.v, (if okCell T.v c0 k0 then va_up T.A 2 (upd (T.A 2) (ix c0) k0) else T.A), T.k)) := by
  refine ct_intro (by decide) [some (.ref o), some (.int c0), some (.int k0)] rfl rfl (Nat.le_of_ble_eq_true rfl) ?_
  intro p e s m below meth c ls C hr hlk hnm hE hM hl
  refine lv_aload_n C.1 C.2.1 d_FF_cell_0 rfl (lo_at hl 0 rfl) ?_
  refine cg_callV C hE hM (k_FF_isOpen l G hS) hS.ff.1 hS.ff.2 rfl tw_117 cy_FF_isOpen ⟨(Nat.le_of_ble_eq_true rfl), (Nat.le_of_ble_eq_true rfl)⟩ rfl hl.1 rfl (Nat.le_of_ble_eq_true rfl) ⟨Nat.zero_le _, Nat.zero_le _⟩ d_FF_cell_1 (fun x9 f11 H1 locs1 hp hM => ?_)
  obtain ⟨rfl, h9⟩ := hp
  rw [h9] at hM
  clear h9
  refine W.eq (g2 := F0 m 4 ls [_]) rfl ?_
  refine lv_if_ne (tgt := 23) C.1 C.2.1 d_FF_cell_4 (by decide) (fun hc4 => ?_) (fun hc4 => ?_)
  · replace hc4 := bz_1.mp hc4
    refine lv_iconst (v := 0) C.1 C.2.1 d_FF_cell_23 (by decide) ?_
    refine cg_zret C hr hlk hM d_FF_cell_24 (by decide) ?_
    have hn : ¬ okCell T.v c0 k0 := fun z => hc4 z.1
    rw [bz_F hn, if_neg hn]
    exact ⟨rfl, hS⟩
  · replace hc4 := bz_0.mp hc4
    refine lv_aload_n C.1 C.2.1 d_FF_cell_7 rfl (lo_at hl 0 rfl) ?_
    refine pg_get C hE hM hS.ff.1 hS.ff.2 rfl in_FF 0 (Nat.le_of_ble_eq_true rfl) tw_85 rfl rfl d_FF_cell_8 ?_
    refine lv_iload_n C.1 C.2.1 d_FF_cell_11 rfl (lo_at hl 1 rfl) ?_
    refine lv_iload_n C.1 C.2.1 d_FF_cell_12 rfl (lo_at hl 2 rfl) ?_
    refine cg_callV C hE hM (k_Map_change l G _ _ _ hS.mp.1 hS.mp.2 hS.kd.1 hS.kd.2 c0 k0) hS.mp.1 hS.mp.2 rfl tw_121 cy_Map_change ⟨(Nat.le_of_ble_eq_true rfl), (Nat.le_of_ble_eq_true rfl)⟩ rfl hl.1 rfl (Nat.le_of_ble_eq_true rfl) ⟨Nat.zero_le _, Nat.zero_le _⟩ d_FF_cell_13 (fun x9 f12 H1 locs1 hp hM => ?_)
    rcases hp with ⟨hok, hx9, j, rfl, hj, hf9⟩ | ⟨hok, hx9, hf9⟩
    · subst hx9
      have hv1 : T.v 1 = 0 := Decidable.not_not.mp hc4
      have hS1 := hS.map (ids_ne hE).1 hv1 (hop hv1) hf9
      refine W.eq (g2 := F0 m 16 ls [_]) rfl ?_
      refine lv_if_eq (tgt := 23) C.1 C.2.1 d_FF_cell_16 (by decide) (fun hc16 => False.elim (absurd hc16 (by decide))) (fun hc16 => ?_)
      refine lv_iconst (v := 1) C.1 C.2.1 d_FF_cell_19 (by decide) ?_
      refine lv_goto (tgt := 24) C.1 C.2.1 d_FF_cell_20 (by decide) ?_
      refine cg_zret C hr hlk hM d_FF_cell_24 (by decide) ?_
      have hn : okCell T.v (nI j) k0 := ⟨hv1, hok⟩
      rw [bz_T hn, if_pos hn, show ix (nI j) = j from nI_clamp (by omega)]
      exact ⟨rfl, hS1⟩
    · subst hx9
      rw [hf9] at hM
      refine W.eq (g2 := F0 m 16 ls [_]) rfl ?_
      refine lv_if_eq (tgt := 23) C.1 C.2.1 d_FF_cell_16 (by decide) (fun hc16 => ?_) (fun hc16 => False.elim (hc16 rfl))
      refine lv_iconst (v := 0) C.1 C.2.1 d_FF_cell_23 (by decide) ?_
      refine cg_zret C hr hlk hM d_FF_cell_24 (by decide) ?_
      have hn : ¬ okCell T.v c0 k0 := fun z => hok z.2
      rw [bz_F hn, if_neg hn]
      exact ⟨rfl, hS⟩
set_option maxHeartbeats 4000000 in
set_option maxRecDepth 100000 in
theorem k_FF_letters (l : Launch) (G : GG) {P : List Nat} {f : Nat → va_E} {o : Nat} {D : Nat → Nat → Nat} {C9 : Nat → Nat} {T : TS} (hS : cS G P f o D C9 T)   : ct0 l G y_FF_letters c_FF_letters 1 (some .int) 2 40 [.ref o] P f (fun x f1 => x = some (.int (nI (T.k.N 1))) ∧ f1 = f) := by
  refine ct_intro (by decide) [some (.ref o)] rfl rfl (Nat.le_of_ble_eq_true rfl) ?_
  intro p e s m below meth c ls C hr hlk hnm hE hM hl
  refine lv_aload_n C.1 C.2.1 d_FF_letters_0 rfl (lo_at hl 0 rfl) ?_
  refine pg_get C hE hM hS.ff.1 hS.ff.2 rfl in_FF 1 (Nat.le_of_ble_eq_true rfl) tw_86 rfl rfl d_FF_letters_1 ?_
  refine cg_callV C hE hM (k_Air_size l G _ _ hS.ar.1 hS.ar.2 _ _ _ hS.al) hS.ar.1 hS.ar.2 rfl tw_129 cy_Air_size ⟨(Nat.le_of_ble_eq_true rfl), (Nat.le_of_ble_eq_true rfl)⟩ rfl hl.1 rfl (Nat.le_of_ble_eq_true rfl) ⟨Nat.zero_le _, Nat.zero_le _⟩ d_FF_letters_4 (fun x9 f11 H1 locs1 hp hM => ?_)
  obtain ⟨rfl, h9⟩ := hp
  rw [h9] at hM
  clear h9
  refine W.eq (g2 := F0 m 7 ls [_]) rfl ?_
  refine cg_iret C hr hlk hM d_FF_letters_7 ?_
  exact ⟨rfl, rfl⟩
set_option maxHeartbeats 4000000 in
set_option maxRecDepth 100000 in
theorem k_FF_letter (l : Launch) (G : GG) {P : List Nat} {f : Nat → va_E} {o : Nat} {D : Nat → Nat → Nat} {C9 : Nat → Nat} {T : TS} (hS : cS G P f o D C9 T) (hn1 : T.k.N 1 ≤ 60) (h31 : T.v 31 = nI (T.k.N 1)) (k0 w0 : Int32)  : ct0 l G y_FF_letter c_FF_letter 4 (some .int) 4 85 [.ref o, .int k0, .int w0] P f (fun x f1 => x = some (.int (lett T.v T.A k0 w0)) ∧ f1 = f) := by
  refine ct_intro (by decide) [some (.ref o), some (.int k0), some (.int w0), none] rfl rfl (Nat.le_of_ble_eq_true rfl) ?_
  intro p e s m below meth c ls C hr hlk hnm hE hM hl
  refine lv_aload_n C.1 C.2.1 d_FF_letter_0 rfl (lo_at hl 0 rfl) ?_
  refine pg_get C hE hM hS.ff.1 hS.ff.2 rfl in_FF 1 (Nat.le_of_ble_eq_true rfl) tw_86 rfl rfl d_FF_letter_1 ?_
  refine lv_iload_n C.1 C.2.1 d_FF_letter_4 rfl (lo_at hl 1 rfl) ?_
  refine cg_callV C hE hM (k_Air_look l G _ _ hS.ar.1 hS.ar.2 _ _ _ hS.al (fun i hi => ⟨(hS.lt i hi).1, _, (hS.lt i hi).2⟩) (by omega) k0) hS.ar.1 hS.ar.2 rfl tw_141 cy_Air_look ⟨(Nat.le_of_ble_eq_true rfl), (Nat.le_of_ble_eq_true rfl)⟩ rfl hl.1 rfl (Nat.le_of_ble_eq_true rfl) ⟨Nat.zero_le _, Nat.zero_le _⟩ d_FF_letter_5 (fun x9 f11 H1 locs1 hp hM => ?_)
  obtain ⟨hp, h9⟩ := hp; rw [h9] at hM; clear h9; rcases hp with ⟨i, hk, hi, hx9⟩ | ⟨hk, hx9⟩
  · subst hx9
    subst hk
    refine W.eq (g2 := F0 m 8 ls [_]) rfl ?_
    refine lo_astore_n C hl d_FF_letter_8 (Nat.le_of_ble_eq_true rfl) rfl (fun ls hl => ?_)
    refine lv_aload_n C.1 C.2.1 d_FF_letter_9 rfl (lo_at hl 3 rfl) ?_
    refine lv_ifnonnull (tgt := 15) C.1 C.2.1 d_FF_letter_10 (by decide) ?_
    refine lv_iload_n C.1 C.2.1 d_FF_letter_15 rfl (lo_at hl 2 rfl) ?_
    refine lv_topi (fun sx1 he1 => ?_)
    by_cases hs1_0 : sx1 = 0
    · subst hs1_0
      refine lv_tableIn (tgt := 44) C.1 C.2.1 d_FF_letter_16 (by decide) (by decide) rfl (by decide) ?_
      refine lv_aload_n C.1 C.2.1 d_FF_letter_44 rfl (lo_at hl 3 rfl) ?_
      refine cg_callV C hE hM (k_Let_kind l G _ _ _ _ (hS.lt i hi).1 (hS.lt i hi).2) (hS.lt i hi).1 (hS.lt i hi).2 rfl tw_160 cy_Let_kind ⟨(Nat.le_of_ble_eq_true rfl), (Nat.le_of_ble_eq_true rfl)⟩ rfl hl.1 rfl (Nat.le_of_ble_eq_true rfl) ⟨Nat.zero_le _, Nat.zero_le _⟩ d_FF_letter_45 (fun x9 f12 H1 locs1 hp hM => ?_)
      obtain ⟨rfl, h9⟩ := hp
      rw [h9] at hM
      clear h9
      refine W.eq (g2 := F0 m 48 ls [_]) rfl ?_
      refine cg_iret C hr hlk hM d_FF_letter_48 ?_
      refine ⟨?_, rfl⟩
      unfold lett
      rw [if_pos ((isLt_iff hn1 h31).mpr ⟨i, rfl, hi⟩), show ix (nI i) = i from nI_clamp (by omega)]
      subst he1
      rfl
    by_cases hs1_1 : sx1 = 1
    · subst hs1_1
      refine lv_tableIn (tgt := 49) C.1 C.2.1 d_FF_letter_16 (by decide) (by decide) rfl (by decide) ?_
      refine lv_aload_n C.1 C.2.1 d_FF_letter_49 rfl (lo_at hl 3 rfl) ?_
      refine cg_callV C hE hM (k_Let_owner l G _ _ _ _ (hS.lt i hi).1 (hS.lt i hi).2) (hS.lt i hi).1 (hS.lt i hi).2 rfl tw_164 cy_Let_owner ⟨(Nat.le_of_ble_eq_true rfl), (Nat.le_of_ble_eq_true rfl)⟩ rfl hl.1 rfl (Nat.le_of_ble_eq_true rfl) ⟨Nat.zero_le _, Nat.zero_le _⟩ d_FF_letter_50 (fun x9 f13 H1 locs1 hp hM => ?_)
      obtain ⟨rfl, h9⟩ := hp
      rw [h9] at hM
      clear h9
      refine W.eq (g2 := F0 m 53 ls [_]) rfl ?_
      refine cg_iret C hr hlk hM d_FF_letter_53 ?_
      refine ⟨?_, rfl⟩
      unfold lett
      rw [if_pos ((isLt_iff hn1 h31).mpr ⟨i, rfl, hi⟩), show ix (nI i) = i from nI_clamp (by omega)]
      subst he1
      rfl
    by_cases hs1_2 : sx1 = 2
    · subst hs1_2
      refine lv_tableIn (tgt := 54) C.1 C.2.1 d_FF_letter_16 (by decide) (by decide) rfl (by decide) ?_
      refine lv_aload_n C.1 C.2.1 d_FF_letter_54 rfl (lo_at hl 3 rfl) ?_
      refine cg_callV C hE hM (k_Let_number l G _ _ _ _ (hS.lt i hi).1 (hS.lt i hi).2) (hS.lt i hi).1 (hS.lt i hi).2 rfl tw_168 cy_Let_number ⟨(Nat.le_of_ble_eq_true rfl), (Nat.le_of_ble_eq_true rfl)⟩ rfl hl.1 rfl (Nat.le_of_ble_eq_true rfl) ⟨Nat.zero_le _, Nat.zero_le _⟩ d_FF_letter_55 (fun x9 f14 H1 locs1 hp hM => ?_)
      obtain ⟨rfl, h9⟩ := hp
      rw [h9] at hM
      clear h9
      refine W.eq (g2 := F0 m 58 ls [_]) rfl ?_
      refine cg_iret C hr hlk hM d_FF_letter_58 ?_
      refine ⟨?_, rfl⟩
      unfold lett
      rw [if_pos ((isLt_iff hn1 h31).mpr ⟨i, rfl, hi⟩), show ix (nI i) = i from nI_clamp (by omega)]
      subst he1
      rfl
    refine lv_tableOut (tgt := 59) C.1 C.2.1 d_FF_letter_16 (sw_out3 hs1_0 hs1_1 hs1_2) (by decide) ?_
    refine lv_iconst (v := (-1)) C.1 C.2.1 d_FF_letter_59 (by decide) ?_
    refine cg_iret C hr hlk hM d_FF_letter_60 ?_
    refine ⟨?_, rfl⟩
    unfold lett
    rw [if_pos ((isLt_iff hn1 h31).mpr ⟨i, rfl, hi⟩), show ix (nI i) = i from nI_clamp (by omega)]
    rw [he1] at hs1_0 hs1_1 hs1_2
    rw [if_neg hs1_0, if_neg hs1_1, if_neg hs1_2]
  · subst hx9
    refine W.eq (g2 := F0 m 8 ls [_]) rfl ?_
    refine lo_astore_nN C hl d_FF_letter_8 (Nat.le_of_ble_eq_true rfl) rfl (fun ls hl => ?_)
    refine lv_aload_nN C.1 C.2.1 d_FF_letter_9 rfl (lo_at hl 3 rfl) ?_
    refine lv_ifnonnullN C.1 C.2.1 d_FF_letter_10 ?_
    refine lv_iconst (v := (-1)) C.1 C.2.1 d_FF_letter_13 (by decide) ?_
    refine cg_iret C hr hlk hM d_FF_letter_14 ?_
    refine ⟨?_, rfl⟩
    unfold lett
    rw [if_neg (fun z => hk ((isLt_iff hn1 h31).mp z))]
