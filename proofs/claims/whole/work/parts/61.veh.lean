/-! vehicles' moves; letters -/
theorem mx_pred {k : Nat} (h : k < 100000) : mx 0 (nI k - 1) = nI (k - 1) := by
  cases k with
  | zero => decide
  | succ k =>
    rw [show (1 : Int32) = nI 1 from rfl, pk_sub (by omega), show (0 : Int32) = nI 0 from rfl, mx_nI (by omega) (by omega)]
    congr 1
set_option maxHeartbeats 4000000 in
set_option maxRecDepth 100000 in
theorem k_Veh_movesUpTo (l : Launch) (G : GG) {P : List Nat} {f : Nat → va_E} (a : Nat) (num park made alw knw grt lat fin jm : Int32) (mv : Nat) (hm_a : a ∈ P) (hc_a : f a = .inr (8, [.int num, .int park, .ref mv, .int made, .int alw, .int knw, .int grt, .int lat, .int fin, .int jm])) (cap n : Nat) (g : Nat → Nat) (hL : lsS G P f mv cap n g) (mc mt : Nat → Int32) (hmv : ∀ i, i < n → g i ∈ P ∧ f (g i) = .inr (6, [.int (mc i), .int (mt i)])) (hn : n < 60000) (tm : Int32)  : ct0 l G y_Veh_movesUpTo c_Veh_movesUpTo 3 (some .int) 3 64 [.ref a, .int tm] P f (fun x f1 => ∃ k : Nat, x = some (.int (nI k)) ∧ k ≤ n ∧ (∀ i, k ≤ i → i < n → tm < mt i) ∧ (0 < k → mt (k - 1) ≤ tm) ∧ f1 = f) := by
  refine ct_intro (by decide) [some (.ref a), some (.int tm), none] rfl rfl (Nat.le_of_ble_eq_true rfl) ?_
  intro p e s m below meth c ls C hr hlk hnm hE hM hl
  refine lv_aload_n C.1 C.2.1 d_Veh_movesUpTo_0 rfl (lo_at hl 0 rfl) ?_
  refine pg_get C hE hM hm_a hc_a rfl in_Veh 2 (Nat.le_of_ble_eq_true rfl) tw_478 rfl rfl d_Veh_movesUpTo_1 ?_
  obtain ⟨_, _, hc_mv⟩ := hL.cell
  refine cg_callV C hE hM (q_size l G hL) hL.1 hc_mv rfl tw_280 cy_AL_size ⟨(Nat.le_of_ble_eq_true rfl), (Nat.le_of_ble_eq_true rfl)⟩ rfl hl.1 rfl (Nat.le_of_ble_eq_true rfl) ⟨Nat.zero_le _, Nat.zero_le _⟩ d_Veh_movesUpTo_4 (fun x9 f11 H1 locs1 hp hM => ?_)
  obtain ⟨rfl, h9⟩ := hp
  rw [h9] at hM
  clear h9
  refine W.eq (g2 := F0 m 7 ls [_]) rfl ?_
  refine lo_istore_n C hl d_Veh_movesUpTo_7 (Nat.le_of_ble_eq_true rfl) rfl (fun ls hl => ?_)
  refine W.loop (α := (Nat) × (Array Slot) × (Heap) × (List Loc)) (fun zz => zz.1) (fun zz => (zz.1 ≤ n) ∧ (∀ i, zz.1 ≤ i → i < n → tm < mt i) ∧ lo zz.2.1 [some (.ref a), some (.int tm), some (.int (nI zz.1))] ∧ pgS G (pgA P s.heap.size) s.heap P f zz.2.2.1 zz.2.2.2) (fun zz => zz.2.2.1) (fun zz => zz.2.2.2) (fun zz => 0) (fun zz => 0) (fun zz => F0 m 8 zz.2.1 []) ?_ (n, ls, H1, locs1) ⟨Nat.le_refl _, fun i h1 h2 => absurd h1 (by omega), lo_weak hl ⟨rfl, rfl, rfl, trivial⟩, hM⟩
  rintro ⟨k, ls, H1, locs1⟩ ⟨hk, hgt, hl, hM⟩ ih8
  dsimp only at hk hgt hl hM
  show W _ _ _ _ _ _ _ _ _ _ _ _ _ _ _ (F0 m 8 ls [])
  refine lv_iload_n C.1 C.2.1 d_Veh_movesUpTo_8 rfl (lo_at hl 2 rfl) ?_
  refine lv_if_le (tgt := 38) C.1 C.2.1 d_Veh_movesUpTo_9 (by decide) (fun hc9 => ?_) (fun hc9 => ?_)
  · refine lv_iload_n C.1 C.2.1 d_Veh_movesUpTo_38 rfl (lo_at hl 2 rfl) ?_
    refine cg_iret C hr hlk hM d_Veh_movesUpTo_39 ?_
    refine ⟨k, rfl, hk, hgt, ?_, rfl⟩
    intro h
    have : k = 0 := by
      rcases Nat.eq_zero_or_pos k with h | h
      · exact h
      · exfalso
        have := Int32.le_iff_toInt_le.mp hc9
        rw [nI_toInt (by omega), show (0 : Int32).toInt = 0 from by decide] at this
        omega
    omega
  · have hk9 : 0 < k := by
      rcases Nat.eq_zero_or_pos k with h | h
      · rw [h] at hc9; exact absurd (by decide) hc9
      · exact h
    obtain ⟨hm_g, hc_g⟩ := hmv (k - 1) (by omega)
    refine lv_aload_n C.1 C.2.1 d_Veh_movesUpTo_12 rfl (lo_at hl 0 rfl) ?_
    refine pg_get C hE hM hm_a hc_a rfl in_Veh 2 (Nat.le_of_ble_eq_true rfl) tw_478 rfl rfl d_Veh_movesUpTo_13 ?_
    refine lv_iload_n C.1 C.2.1 d_Veh_movesUpTo_16 rfl (lo_at hl 2 rfl) ?_
    refine lv_iconst (v := 1) C.1 C.2.1 d_Veh_movesUpTo_17 (by decide) ?_
    refine lv_isub C.1 C.2.1 d_Veh_movesUpTo_18 ?_
    rw [show (1 : Int32) = nI 1 from rfl, pk_sub (by omega)]
    obtain ⟨_, _, hc_mv⟩ := hL.cell
    refine cg_callV C hE hM (q_get l G hL (k - 1) (by omega)) hL.1 hc_mv rfl tw_281 cy_AL_get ⟨(Nat.le_of_ble_eq_true rfl), (Nat.le_of_ble_eq_true rfl)⟩ rfl hl.1 rfl (Nat.le_of_ble_eq_true rfl) ⟨Nat.zero_le _, Nat.zero_le _⟩ d_Veh_movesUpTo_19 (fun x9 f12 H1 locs1 hp hM => ?_)
    obtain ⟨rfl, h9⟩ := hp
    rw [h9] at hM
    clear h9
    refine W.eq (g2 := F0 m 22 ls [_]) rfl ?_
    refine cg_cast C hE hM hm_g hc_g rfl tw_282 d_Veh_movesUpTo_22 ?_
    refine cg_callV C hE hM (k_Mov_time l G _ _ _ hm_g hc_g) hm_g hc_g rfl tw_685 cy_Mov_time ⟨(Nat.le_of_ble_eq_true rfl), (Nat.le_of_ble_eq_true rfl)⟩ rfl hl.1 rfl (Nat.le_of_ble_eq_true rfl) ⟨Nat.zero_le _, Nat.zero_le _⟩ d_Veh_movesUpTo_25 (fun x9 f13 H1 locs1 hp hM => ?_)
    obtain ⟨rfl, h9⟩ := hp
    rw [h9] at hM
    clear h9
    refine W.eq (g2 := F0 m 28 ls [_]) rfl ?_
    refine lv_iload_n C.1 C.2.1 d_Veh_movesUpTo_28 rfl (lo_at hl 1 rfl) ?_
    refine lv_icmp_le (tgt := 38) C.1 C.2.1 d_Veh_movesUpTo_29 (by decide) (fun hc29 => ?_) (fun hc29 => ?_)
    · refine lv_iload_n C.1 C.2.1 d_Veh_movesUpTo_38 rfl (lo_at hl 2 rfl) ?_
      refine cg_iret C hr hlk hM d_Veh_movesUpTo_39 ?_
      refine ⟨k, rfl, hk, hgt, ?_, rfl⟩
      exact fun _ => Int32.not_lt.mp (Int32.not_lt.mpr hc29)
    · refine lo_iinc C hl d_Veh_movesUpTo_32 rfl rfl (fun ls hl => ?_)
      refine lv_goto (tgt := 8) C.1 C.2.1 d_Veh_movesUpTo_35 (by decide) ?_
      have hgn : ∀ i, k - 1 ≤ i → i < n → tm < mt i := fun i h1 h2 => by
        by_cases e : i = k - 1
        · rw [e]; exact Int32.not_le.mp hc29
        · exact hgt i (by omega) h2
      have h9 := hl
      rw [show nI k + Int32.ofInt (-1) = nI (k - 1) from by rw [show k = (k - 1) + 1 by omega]; exact pk_m1 (k - 1)] at h9
      exact ih8 (k - 1, ls, H1, locs1) ⟨by (try dsimp only); omega, hgn, lo_weak h9 ⟨rfl, rfl, rfl, trivial⟩, hM⟩ (by show (k - 1) < k; omega)
set_option maxHeartbeats 4000000 in
set_option maxRecDepth 100000 in
theorem k_Veh_comesBefore (l : Launch) (G : GG) {P : List Nat} {f : Nat → va_E} (kn a : Nat) (num park made alw grt lat fin jm : Int32) (mv : Nat) (hm_a : a ∈ P) (hc_a : f a = .inr (8, [.int num, .int park, .ref mv, .int made, .int alw, .int (nI kn), .int grt, .int lat, .int fin, .int jm])) (cap n : Nat) (g : Nat → Nat) (hL : lsS G P f mv cap n g) (mc mt : Nat → Int32) (hmv : ∀ i, i < n → g i ∈ P ∧ f (g i) = .inr (6, [.int (mc i), .int (mt i)])) (hn : n < 59999) (hkn : kn < 59999) (t : Nat) (pl tm : Int32) (hm_t : t ∈ P) (hc_t : f t = .inr (6, [.int pl, .int tm]))  : ct0 l G y_Veh_comesBefore c_Veh_comesBefore 4 (some .boolean) 3 64 [.ref a, .ref t] P f (fun x f1 => ∃ z : Bool, x = some (.int (bz (z = true))) ∧ (z = true ↔ ∃ j, kn - 1 ≤ j ∧ j < n ∧ mc j = pl ∧ mt j < tm) ∧ f1 = f) := by
  refine ct_intro (by decide) [some (.ref a), some (.ref t), none, none] rfl rfl (Nat.le_of_ble_eq_true rfl) ?_
  intro p e s m below meth c ls C hr hlk hnm hE hM hl
  refine lv_iconst (v := 0) C.1 C.2.1 d_Veh_comesBefore_0 (by decide) ?_
  refine lv_aload_n C.1 C.2.1 d_Veh_comesBefore_1 rfl (lo_at hl 0 rfl) ?_
  refine pg_get C hE hM hm_a hc_a rfl in_Veh 5 (Nat.le_of_ble_eq_true rfl) tw_485 rfl rfl d_Veh_comesBefore_2 ?_
  refine lv_iconst (v := 1) C.1 C.2.1 d_Veh_comesBefore_5 (by decide) ?_
  refine lv_isub C.1 C.2.1 d_Veh_comesBefore_6 ?_
  refine cg_callS C hE hM (k_Mth_max l G _ _) tw_186 cy_Mth_max ⟨(Nat.le_of_ble_eq_true rfl), (Nat.le_of_ble_eq_true rfl)⟩ rfl hl.1 rfl (Nat.le_of_ble_eq_true rfl) ⟨Nat.zero_le _, Nat.zero_le _⟩ d_Veh_comesBefore_7 (fun x9 f11 H1 locs1 hp hM => ?_)
  obtain ⟨rfl, h9⟩ := hp
  rw [h9] at hM
  clear h9
  refine W.eq (g2 := F0 m 10 ls [_]) rfl ?_
  rw [mx_pred (by omega)]
  refine lo_istore_n C hl d_Veh_comesBefore_10 (Nat.le_of_ble_eq_true rfl) rfl (fun ls hl => ?_)
  refine W.loop (α := (Nat) × (Array Slot) × (Heap) × (List Loc)) (fun zz => n - zz.1) (fun zz => (kn - 1 ≤ zz.1) ∧ (zz.1 < 60000) ∧ (∀ i, kn - 1 ≤ i → i < zz.1 → ¬ (mc i = pl ∧ mt i < tm)) ∧ lo zz.2.1 [some (.ref a), some (.ref t), some (.int (nI zz.1)), none] ∧ pgS G (pgA P s.heap.size) s.heap P f zz.2.2.1 zz.2.2.2) (fun zz => zz.2.2.1) (fun zz => zz.2.2.2) (fun zz => 0) (fun zz => 0) (fun zz => F0 m 11 zz.2.1 []) ?_ (kn - 1, ls, H1, locs1) ⟨Nat.le_refl _, by (try dsimp only); omega, fun i h1 h2 => absurd h1 (by omega), lo_weak hl ⟨rfl, rfl, rfl, trivial⟩, hM⟩
  rintro ⟨j, ls, H1, locs1⟩ ⟨hj, hj2, hno, hl, hM⟩ ih11
  dsimp only at hj hj2 hno hl hM
  show W _ _ _ _ _ _ _ _ _ _ _ _ _ _ _ (F0 m 11 ls [])
  refine lv_iload_n C.1 C.2.1 d_Veh_comesBefore_11 rfl (lo_at hl 2 rfl) ?_
  refine lv_aload_n C.1 C.2.1 d_Veh_comesBefore_12 rfl (lo_at hl 0 rfl) ?_
  refine pg_get C hE hM hm_a hc_a rfl in_Veh 2 (Nat.le_of_ble_eq_true rfl) tw_478 rfl rfl d_Veh_comesBefore_13 ?_
  obtain ⟨_, _, hc_mv⟩ := hL.cell
  refine cg_callV C hE hM (q_size l G hL) hL.1 hc_mv rfl tw_280 cy_AL_size ⟨(Nat.le_of_ble_eq_true rfl), (Nat.le_of_ble_eq_true rfl)⟩ rfl hl.1 rfl (Nat.le_of_ble_eq_true rfl) ⟨Nat.zero_le _, Nat.zero_le _⟩ d_Veh_comesBefore_16 (fun x9 f12 H1 locs1 hp hM => ?_)
  obtain ⟨rfl, h9⟩ := hp
  rw [h9] at hM
  clear h9
  refine W.eq (g2 := F0 m 19 ls [_, _]) rfl ?_
  refine lv_icmp_ge (tgt := 64) C.1 C.2.1 d_Veh_comesBefore_19 (by decide) (fun hc19 => ?_) (fun hc19 => ?_)
  · refine lv_iconst (v := 0) C.1 C.2.1 d_Veh_comesBefore_64 (by decide) ?_
    refine cg_zret C hr hlk hM d_Veh_comesBefore_65 (by decide) ?_
    refine ⟨false, rfl, ⟨fun z => absurd z (by decide), fun ⟨i, h1, h2, h3⟩ => ?_⟩, rfl⟩
    have hj9 : n ≤ j := nI_leN (by omega) (by omega) hc19
    exact absurd h3 (hno i h1 (by omega))
  · have hj9 : j < n := nI_ltN (by omega) (by omega) hc19
    obtain ⟨hm_g, hc_g⟩ := hmv j hj9
    refine lv_aload_n C.1 C.2.1 d_Veh_comesBefore_22 rfl (lo_at hl 0 rfl) ?_
    refine pg_get C hE hM hm_a hc_a rfl in_Veh 2 (Nat.le_of_ble_eq_true rfl) tw_478 rfl rfl d_Veh_comesBefore_23 ?_
    refine lv_iload_n C.1 C.2.1 d_Veh_comesBefore_26 rfl (lo_at hl 2 rfl) ?_
    obtain ⟨_, _, hc_mv⟩ := hL.cell
    refine cg_callV C hE hM (q_get l G hL j hj9) hL.1 hc_mv rfl tw_281 cy_AL_get ⟨(Nat.le_of_ble_eq_true rfl), (Nat.le_of_ble_eq_true rfl)⟩ rfl hl.1 rfl (Nat.le_of_ble_eq_true rfl) ⟨Nat.zero_le _, Nat.zero_le _⟩ d_Veh_comesBefore_27 (fun x9 f13 H1 locs1 hp hM => ?_)
    obtain ⟨rfl, h9⟩ := hp
    rw [h9] at hM
    clear h9
    refine W.eq (g2 := F0 m 30 ls [_]) rfl ?_
    refine cg_cast C hE hM hm_g hc_g rfl tw_282 d_Veh_comesBefore_30 ?_
    refine lo_astore_n C hl d_Veh_comesBefore_33 (Nat.le_of_ble_eq_true rfl) rfl (fun ls hl => ?_)
    refine lv_aload_n C.1 C.2.1 d_Veh_comesBefore_34 rfl (lo_at hl 3 rfl) ?_
    refine cg_callV C hE hM (k_Mov_place l G _ _ _ hm_g hc_g) hm_g hc_g rfl tw_283 cy_Mov_place ⟨(Nat.le_of_ble_eq_true rfl), (Nat.le_of_ble_eq_true rfl)⟩ rfl hl.1 rfl (Nat.le_of_ble_eq_true rfl) ⟨Nat.zero_le _, Nat.zero_le _⟩ d_Veh_comesBefore_35 (fun x9 f14 H1 locs1 hp hM => ?_)
    obtain ⟨rfl, h9⟩ := hp
    rw [h9] at hM
    clear h9
    refine W.eq (g2 := F0 m 38 ls [_]) rfl ?_
    refine lv_aload_n C.1 C.2.1 d_Veh_comesBefore_38 rfl (lo_at hl 1 rfl) ?_
    refine cg_callV C hE hM (k_Mov_place l G _ _ _ hm_t hc_t) hm_t hc_t rfl tw_283 cy_Mov_place ⟨(Nat.le_of_ble_eq_true rfl), (Nat.le_of_ble_eq_true rfl)⟩ rfl hl.1 rfl (Nat.le_of_ble_eq_true rfl) ⟨Nat.zero_le _, Nat.zero_le _⟩ d_Veh_comesBefore_39 (fun x9 f15 H1 locs1 hp hM => ?_)
    obtain ⟨rfl, h9⟩ := hp
    rw [h9] at hM
    clear h9
    refine W.eq (g2 := F0 m 42 ls [_, _]) rfl ?_
    refine lv_icmp_ne (tgt := 58) C.1 C.2.1 d_Veh_comesBefore_42 (by decide) (fun hc42 => ?_) (fun hc42 => ?_)
    · refine lo_iinc C hl d_Veh_comesBefore_58 rfl rfl (fun ls hl => ?_)
      refine lv_goto (tgt := 11) C.1 C.2.1 d_Veh_comesBefore_61 (by decide) ?_
      have hnn : ∀ i, kn - 1 ≤ i → i < j + 1 → ¬ (mc i = pl ∧ mt i < tm) := fun i h1 h2 h3 => by
        by_cases e : i = j
        · rw [e] at h3; exact hc42 h3.1
        · exact hno i h1 (by omega) h3
      have h9 := hl
      rw [nI_pl] at h9
      exact ih11 (j + 1, ls, H1, locs1) ⟨by (try dsimp only); omega, by (try dsimp only); omega, hnn, lo_weak h9 ⟨rfl, rfl, rfl, trivial⟩, hM⟩ (by show n - (j + 1) < n - j; omega)
    · refine lv_aload_n C.1 C.2.1 d_Veh_comesBefore_45 rfl (lo_at hl 3 rfl) ?_
      refine cg_callV C hE hM (k_Mov_time l G _ _ _ hm_g hc_g) hm_g hc_g rfl tw_685 cy_Mov_time ⟨(Nat.le_of_ble_eq_true rfl), (Nat.le_of_ble_eq_true rfl)⟩ rfl hl.1 rfl (Nat.le_of_ble_eq_true rfl) ⟨Nat.zero_le _, Nat.zero_le _⟩ d_Veh_comesBefore_46 (fun x9 f16 H1 locs1 hp hM => ?_)
      obtain ⟨rfl, h9⟩ := hp
      rw [h9] at hM
      clear h9
      refine W.eq (g2 := F0 m 49 ls [_]) rfl ?_
      refine lv_aload_n C.1 C.2.1 d_Veh_comesBefore_49 rfl (lo_at hl 1 rfl) ?_
      refine cg_callV C hE hM (k_Mov_time l G _ _ _ hm_t hc_t) hm_t hc_t rfl tw_685 cy_Mov_time ⟨(Nat.le_of_ble_eq_true rfl), (Nat.le_of_ble_eq_true rfl)⟩ rfl hl.1 rfl (Nat.le_of_ble_eq_true rfl) ⟨Nat.zero_le _, Nat.zero_le _⟩ d_Veh_comesBefore_50 (fun x9 f17 H1 locs1 hp hM => ?_)
      obtain ⟨rfl, h9⟩ := hp
      rw [h9] at hM
      clear h9
      refine W.eq (g2 := F0 m 53 ls [_, _]) rfl ?_
      refine lv_icmp_ge (tgt := 58) C.1 C.2.1 d_Veh_comesBefore_53 (by decide) (fun hc53 => ?_) (fun hc53 => ?_)
      · refine lo_iinc C hl d_Veh_comesBefore_58 rfl rfl (fun ls hl => ?_)
        refine lv_goto (tgt := 11) C.1 C.2.1 d_Veh_comesBefore_61 (by decide) ?_
        have hnn : ∀ i, kn - 1 ≤ i → i < j + 1 → ¬ (mc i = pl ∧ mt i < tm) := fun i h1 h2 h3 => by
          by_cases e : i = j
          · rw [e] at h3; exact absurd h3.2 (Int32.not_lt.mpr hc53)
          · exact hno i h1 (by omega) h3
        have h9 := hl
        rw [nI_pl] at h9
        exact ih11 (j + 1, ls, H1, locs1) ⟨by (try dsimp only); omega, by (try dsimp only); omega, hnn, lo_weak h9 ⟨rfl, rfl, rfl, trivial⟩, hM⟩ (by show n - (j + 1) < n - j; omega)
      · refine lv_iconst (v := 1) C.1 C.2.1 d_Veh_comesBefore_56 (by decide) ?_
        refine cg_zret C hr hlk hM d_Veh_comesBefore_57 (by decide) ?_
        exact ⟨true, rfl, ⟨fun _ => ⟨j, hj, hj9, hc42, Int32.not_le.mp hc53⟩, fun _ => rfl⟩, rfl⟩
set_option maxHeartbeats 4000000 in
set_option maxRecDepth 100000 in
theorem k_Veh_init (l : Launch) (G : GG) {P : List Nat} {f : Nat → va_E} (a : Nat) (num park : Int32) (hm_a : a ∈ P) (hc_a : f a = .inr (8, [.int 0, .int 0, .null, .int 0, .int 0, .int 0, .int 0, .int 0, .int 0, .int 0]))  : ct l G y_Veh_init c_Veh_init 3 none 4 80 (1) (3) [.ref a, .int num, .int park] P f (fun x N f1 => x = none ∧ ∃ q, N = [q] ∧ q ∉ P ∧ (∀ y, y ∈ P → y ≠ a → f1 y = f y) ∧ f1 a = .inr (8, [.int num, .int park, .ref q, .int 0, .int 0, .int 0, .int 0, .int (-1), .int (-1), .int 0]) ∧ f1 q = .inr (3, [.ref G.2.2, .int 0, .int 0])) := by
  refine ct_intro (by decide) [some (.ref a), some (.int num), some (.int park)] rfl rfl (Nat.le_of_ble_eq_true rfl) ?_
  intro p e s m below meth c ls C hr hlk hnm hE hM hl
  have hPN : P = P ++ [] := (List.append_nil P).symm
  have hfr : ∀ y, y ∈ P → y ≠ a → f y = f y := fun y _ _ => rfl
  refine lv_aload_n C.1 C.2.1 d_Veh_init_0 rfl (lo_at hl 0 rfl) ?_
  refine W.objInit C.1 C.2.1 C.2.2.2.1 (C.2.2.2.2 _ tw_471) (C.2.2.2.2 _ tw_32) (C.2.2.2.2 _ tw_33) rfl (by rw [C.2.2.1]; exact hl.1) rfl d_Veh_init_1 (Nat.le_of_ble_eq_true rfl) (Nat.le_of_ble_eq_true rfl) ?_
  refine W.eq (g2 := F0 m 4 ls []) rfl ?_
  refine lv_aload_n C.1 C.2.1 d_Veh_init_4 rfl (lo_at hl 0 rfl) ?_
  refine lv_iload_n C.1 C.2.1 d_Veh_init_5 rfl (lo_at hl 1 rfl) ?_
  refine cg_putF C hE hM hm_a hc_a rfl in_Veh ok_Veh n_Veh 0 (Nat.le_of_ble_eq_true rfl) tw_474 rfl rfl hnm rfl rfl rfl rfl (Nat.le_of_ble_eq_true rfl) d_Veh_init_6 (fun f11 H1 locs1 hf11 hM => ?_)
  have hc_a := (congrFun hf11 a).trans (va_up_self _ _ _)
  have hfr : ∀ y, y ∈ P → y ≠ a → f11 y = f y := fun y k0 k1 => ((congrFun hf11 y).trans (va_up_ne _ _ (k1))).trans (hfr y k0 k1)
  refine lv_aload_n C.1 C.2.1 d_Veh_init_9 rfl (lo_at hl 0 rfl) ?_
  refine lv_iload_n C.1 C.2.1 d_Veh_init_10 rfl (lo_at hl 2 rfl) ?_
  refine cg_putF C hE hM hm_a hc_a rfl in_Veh ok_Veh n_Veh 1 (Nat.le_of_ble_eq_true rfl) tw_476 rfl rfl hnm rfl rfl rfl rfl (Nat.le_of_ble_eq_true rfl) d_Veh_init_11 (fun f12 H1 locs1 hf12 hM => ?_)
  have hc_a := (congrFun hf12 a).trans (va_up_self _ _ _)
  have hfr : ∀ y, y ∈ P → y ≠ a → f12 y = f y := fun y k0 k1 => ((congrFun hf12 y).trans (va_up_ne _ _ (k1))).trans (hfr y k0 k1)
  refine lv_aload_n C.1 C.2.1 d_Veh_init_14 rfl (lo_at hl 0 rfl) ?_
  refine cg_new C hE hM (ci := 3) (fs := [.null, .int 0, .int 0]) rfl in_AL ok_AL tw_472 tw_52 tw_6 (by decide) (Nat.le_of_ble_eq_true rfl) (Nat.le_of_ble_eq_true rfl) d_Veh_init_15 (fun q P1 f13 H1 hq hP1 hf13 hM => ?_)
  have hc_a := ((congrFun hf13 a).trans (va_up_ne _ _ (fun z => hq (z ▸ hm_a)))).trans hc_a
  have hm_a := (show a ∈ P1 by rw [hP1]; exact List.mem_append_left _ hm_a)
  have hm_q : q ∈ P1 := by rw [hP1]; exact List.mem_append_right _ (List.mem_singleton.mpr rfl)
  have hc_q := (congrFun hf13 q).trans (va_up_self _ _ _)
  have hfr : ∀ y, y ∈ P → y ≠ a → f13 y = f y := fun y k0 k1 => ((congrFun hf13 y).trans (va_up_ne _ _ (fun z => hq (z ▸ k0)))).trans (hfr y k0 k1)
  have hPN := hPN_new hPN hP1
  refine W.widen (k := 1) (n := 3) (by omega) (by omega) ?_
  refine lv_dup C.1 C.2.1 d_Veh_init_18 rfl ?_
  refine cg_callI C hE hM (k_AL_init l G q hm_q hc_q) tw_473 cy_AL_init ⟨(Nat.le_of_ble_eq_true rfl), (Nat.le_of_ble_eq_true rfl)⟩ rfl hl.1 rfl (Nat.le_of_ble_eq_true rfl) ⟨by (try show _ ≤ 1); omega, by (try show _ ≤ 3); omega⟩ d_Veh_init_19 (fun x9 f14 H1 locs1 hp hM => ?_)
  have hx9 := hp.1
  subst hx9
  have hf14 := hp.2
  have hc_a := ((congrFun hf14 a).trans (va_up_ne _ _ (ob_ne hc_a hc_q (by decide)))).trans hc_a
  have hc_q := (congrFun hf14 q).trans (va_up_self _ _ _)
  have hfr : ∀ y, y ∈ P → y ≠ a → f14 y = f y := fun y k0 k1 => ((congrFun hf14 y).trans (va_up_ne _ _ (fun z => hq (z ▸ k0)))).trans (hfr y k0 k1)
  refine W.eq (g2 := F0 m 22 ls [_, _]) rfl ?_
  refine cg_putF C hE hM hm_a hc_a rfl in_Veh ok_Veh n_Veh 2 (Nat.le_of_ble_eq_true rfl) tw_478 rfl rfl hnm rfl rfl rfl rfl (Nat.le_of_ble_eq_true rfl) d_Veh_init_22 (fun f15 H1 locs1 hf15 hM => ?_)
  have hc_q := ((congrFun hf15 q).trans (va_up_ne _ _ (ob_ne hc_q hc_a (by decide)))).trans hc_q
  have hc_a := (congrFun hf15 a).trans (va_up_self _ _ _)
  have hfr : ∀ y, y ∈ P → y ≠ a → f15 y = f y := fun y k0 k1 => ((congrFun hf15 y).trans (va_up_ne _ _ (k1))).trans (hfr y k0 k1)
  refine lv_aload_n C.1 C.2.1 d_Veh_init_25 rfl (lo_at hl 0 rfl) ?_
  refine lv_iconst (v := 0) C.1 C.2.1 d_Veh_init_26 (by decide) ?_
  refine cg_put C hE hM hm_a hc_a rfl in_Veh ok_Veh n_Veh 3 (Nat.le_of_ble_eq_true rfl) tw_481 rfl rfl rfl rfl rfl (Nat.le_of_ble_eq_true rfl) d_Veh_init_27 (fun f16 H1 locs1 hf16 hM => ?_)
  have hc_q := ((congrFun hf16 q).trans (va_up_ne _ _ (ob_ne hc_q hc_a (by decide)))).trans hc_q
  have hc_a := (congrFun hf16 a).trans (va_up_self _ _ _)
  have hfr : ∀ y, y ∈ P → y ≠ a → f16 y = f y := fun y k0 k1 => ((congrFun hf16 y).trans (va_up_ne _ _ (k1))).trans (hfr y k0 k1)
  refine lv_aload_n C.1 C.2.1 d_Veh_init_30 rfl (lo_at hl 0 rfl) ?_
  refine lv_iconst (v := 0) C.1 C.2.1 d_Veh_init_31 (by decide) ?_
  refine cg_put C hE hM hm_a hc_a rfl in_Veh ok_Veh n_Veh 4 (Nat.le_of_ble_eq_true rfl) tw_483 rfl rfl rfl rfl rfl (Nat.le_of_ble_eq_true rfl) d_Veh_init_32 (fun f17 H1 locs1 hf17 hM => ?_)
  have hc_q := ((congrFun hf17 q).trans (va_up_ne _ _ (ob_ne hc_q hc_a (by decide)))).trans hc_q
  have hc_a := (congrFun hf17 a).trans (va_up_self _ _ _)
  have hfr : ∀ y, y ∈ P → y ≠ a → f17 y = f y := fun y k0 k1 => ((congrFun hf17 y).trans (va_up_ne _ _ (k1))).trans (hfr y k0 k1)
  refine lv_aload_n C.1 C.2.1 d_Veh_init_35 rfl (lo_at hl 0 rfl) ?_
  refine lv_iconst (v := 0) C.1 C.2.1 d_Veh_init_36 (by decide) ?_
  refine cg_put C hE hM hm_a hc_a rfl in_Veh ok_Veh n_Veh 5 (Nat.le_of_ble_eq_true rfl) tw_485 rfl rfl rfl rfl rfl (Nat.le_of_ble_eq_true rfl) d_Veh_init_37 (fun f18 H1 locs1 hf18 hM => ?_)
  have hc_q := ((congrFun hf18 q).trans (va_up_ne _ _ (ob_ne hc_q hc_a (by decide)))).trans hc_q
  have hc_a := (congrFun hf18 a).trans (va_up_self _ _ _)
  have hfr : ∀ y, y ∈ P → y ≠ a → f18 y = f y := fun y k0 k1 => ((congrFun hf18 y).trans (va_up_ne _ _ (k1))).trans (hfr y k0 k1)
  refine lv_aload_n C.1 C.2.1 d_Veh_init_40 rfl (lo_at hl 0 rfl) ?_
  refine lv_iconst (v := 0) C.1 C.2.1 d_Veh_init_41 (by decide) ?_
  refine cg_put C hE hM hm_a hc_a rfl in_Veh ok_Veh n_Veh 6 (Nat.le_of_ble_eq_true rfl) tw_487 rfl rfl rfl rfl rfl (Nat.le_of_ble_eq_true rfl) d_Veh_init_42 (fun f19 H1 locs1 hf19 hM => ?_)
  have hc_q := ((congrFun hf19 q).trans (va_up_ne _ _ (ob_ne hc_q hc_a (by decide)))).trans hc_q
  have hc_a := (congrFun hf19 a).trans (va_up_self _ _ _)
  have hfr : ∀ y, y ∈ P → y ≠ a → f19 y = f y := fun y k0 k1 => ((congrFun hf19 y).trans (va_up_ne _ _ (k1))).trans (hfr y k0 k1)
  refine lv_aload_n C.1 C.2.1 d_Veh_init_45 rfl (lo_at hl 0 rfl) ?_
  refine lv_iconst (v := (-1)) C.1 C.2.1 d_Veh_init_46 (by decide) ?_
  refine cg_put C hE hM hm_a hc_a rfl in_Veh ok_Veh n_Veh 7 (Nat.le_of_ble_eq_true rfl) tw_489 rfl rfl rfl rfl rfl (Nat.le_of_ble_eq_true rfl) d_Veh_init_47 (fun f20 H1 locs1 hf20 hM => ?_)
  have hc_q := ((congrFun hf20 q).trans (va_up_ne _ _ (ob_ne hc_q hc_a (by decide)))).trans hc_q
  have hc_a := (congrFun hf20 a).trans (va_up_self _ _ _)
  have hfr : ∀ y, y ∈ P → y ≠ a → f20 y = f y := fun y k0 k1 => ((congrFun hf20 y).trans (va_up_ne _ _ (k1))).trans (hfr y k0 k1)
  refine lv_aload_n C.1 C.2.1 d_Veh_init_50 rfl (lo_at hl 0 rfl) ?_
  refine lv_iconst (v := (-1)) C.1 C.2.1 d_Veh_init_51 (by decide) ?_
  refine cg_put C hE hM hm_a hc_a rfl in_Veh ok_Veh n_Veh 8 (Nat.le_of_ble_eq_true rfl) tw_491 rfl rfl rfl rfl rfl (Nat.le_of_ble_eq_true rfl) d_Veh_init_52 (fun f21 H1 locs1 hf21 hM => ?_)
  have hc_q := ((congrFun hf21 q).trans (va_up_ne _ _ (ob_ne hc_q hc_a (by decide)))).trans hc_q
  have hc_a := (congrFun hf21 a).trans (va_up_self _ _ _)
  have hfr : ∀ y, y ∈ P → y ≠ a → f21 y = f y := fun y k0 k1 => ((congrFun hf21 y).trans (va_up_ne _ _ (k1))).trans (hfr y k0 k1)
  refine lv_aload_n C.1 C.2.1 d_Veh_init_55 rfl (lo_at hl 0 rfl) ?_
  refine lv_iconst (v := 0) C.1 C.2.1 d_Veh_init_56 (by decide) ?_
  refine cg_put C hE hM hm_a hc_a rfl in_Veh ok_Veh n_Veh 9 (Nat.le_of_ble_eq_true rfl) tw_494 rfl rfl rfl rfl rfl (Nat.le_of_ble_eq_true rfl) d_Veh_init_57 (fun f22 H1 locs1 hf22 hM => ?_)
  have hc_q := ((congrFun hf22 q).trans (va_up_ne _ _ (ob_ne hc_q hc_a (by decide)))).trans hc_q
  have hc_a := (congrFun hf22 a).trans (va_up_self _ _ _)
  have hfr : ∀ y, y ∈ P → y ≠ a → f22 y = f y := fun y k0 k1 => ((congrFun hf22 y).trans (va_up_ne _ _ (k1))).trans (hfr y k0 k1)
  refine pg_vret C hr hlk hM hPN (by omega) (by omega) d_Veh_init_60 ?_
  exact ⟨rfl, q, rfl, hq, hfr, hc_a, hc_q⟩
set_option maxHeartbeats 4000000 in
set_option maxRecDepth 100000 in
theorem k_Air_init (l : Launch) (G : GG) {P : List Nat} {f : Nat → va_E} (a : Nat) (hm_a : a ∈ P) (hc_a : f a = .inr (2, [.null]))  : ct l G y_Air_init c_Air_init 1 none 4 80 (1) (3) [.ref a] P f (fun x N f1 => x = none ∧ ∃ q, N = [q] ∧ q ∉ P ∧ (∀ y, y ∈ P → y ≠ a → f1 y = f y) ∧ f1 a = .inr (2, [.ref q]) ∧ f1 q = .inr (3, [.ref G.2.2, .int 0, .int 0])) := by
  refine ct_intro (by decide) [some (.ref a)] rfl rfl (Nat.le_of_ble_eq_true rfl) ?_
  intro p e s m below meth c ls C hr hlk hnm hE hM hl
  have hPN : P = P ++ [] := (List.append_nil P).symm
  have hfr : ∀ y, y ∈ P → y ≠ a → f y = f y := fun y _ _ => rfl
  refine lv_aload_n C.1 C.2.1 d_Air_init_0 rfl (lo_at hl 0 rfl) ?_
  refine W.objInit C.1 C.2.1 C.2.2.2.1 (C.2.2.2.2 _ tw_50) (C.2.2.2.2 _ tw_32) (C.2.2.2.2 _ tw_33) rfl (by rw [C.2.2.1]; exact hl.1) rfl d_Air_init_1 (Nat.le_of_ble_eq_true rfl) (Nat.le_of_ble_eq_true rfl) ?_
  refine W.eq (g2 := F0 m 4 ls []) rfl ?_
  refine lv_aload_n C.1 C.2.1 d_Air_init_4 rfl (lo_at hl 0 rfl) ?_
  refine cg_new C hE hM (ci := 3) (fs := [.null, .int 0, .int 0]) rfl in_AL ok_AL tw_51 tw_52 tw_6 (by decide) (Nat.le_of_ble_eq_true rfl) (Nat.le_of_ble_eq_true rfl) d_Air_init_5 (fun q P1 f11 H1 hq hP1 hf11 hM => ?_)
  have hc_a := ((congrFun hf11 a).trans (va_up_ne _ _ (fun z => hq (z ▸ hm_a)))).trans hc_a
  have hm_a := (show a ∈ P1 by rw [hP1]; exact List.mem_append_left _ hm_a)
  have hm_q : q ∈ P1 := by rw [hP1]; exact List.mem_append_right _ (List.mem_singleton.mpr rfl)
  have hc_q := (congrFun hf11 q).trans (va_up_self _ _ _)
  have hfr : ∀ y, y ∈ P → y ≠ a → f11 y = f y := fun y k0 k1 => ((congrFun hf11 y).trans (va_up_ne _ _ (fun z => hq (z ▸ k0)))).trans (hfr y k0 k1)
  have hPN := hPN_new hPN hP1
  refine W.widen (k := 1) (n := 3) (by omega) (by omega) ?_
  refine lv_dup C.1 C.2.1 d_Air_init_8 rfl ?_
  refine cg_callI C hE hM (k_AL_init l G q hm_q hc_q) tw_53 cy_AL_init ⟨(Nat.le_of_ble_eq_true rfl), (Nat.le_of_ble_eq_true rfl)⟩ rfl hl.1 rfl (Nat.le_of_ble_eq_true rfl) ⟨by (try show _ ≤ 1); omega, by (try show _ ≤ 3); omega⟩ d_Air_init_9 (fun x9 f12 H1 locs1 hp hM => ?_)
  have hx9 := hp.1
  subst hx9
  have hf12 := hp.2
  have hc_a := ((congrFun hf12 a).trans (va_up_ne _ _ (ob_ne hc_a hc_q (by decide)))).trans hc_a
  have hc_q := (congrFun hf12 q).trans (va_up_self _ _ _)
  have hfr : ∀ y, y ∈ P → y ≠ a → f12 y = f y := fun y k0 k1 => ((congrFun hf12 y).trans (va_up_ne _ _ (fun z => hq (z ▸ k0)))).trans (hfr y k0 k1)
  refine W.eq (g2 := F0 m 12 ls [_, _]) rfl ?_
  refine cg_putF C hE hM hm_a hc_a rfl in_Air ok_Air n_Air 0 (Nat.le_of_ble_eq_true rfl) tw_77 rfl rfl hnm rfl rfl rfl rfl (Nat.le_of_ble_eq_true rfl) d_Air_init_12 (fun f13 H1 locs1 hf13 hM => ?_)
  have hc_q := ((congrFun hf13 q).trans (va_up_ne _ _ (ob_ne hc_q hc_a (by decide)))).trans hc_q
  have hc_a := (congrFun hf13 a).trans (va_up_self _ _ _)
  have hfr : ∀ y, y ∈ P → y ≠ a → f13 y = f y := fun y k0 k1 => ((congrFun hf13 y).trans (va_up_ne _ _ (k1))).trans (hfr y k0 k1)
  refine pg_vret C hr hlk hM hPN (by omega) (by omega) d_Air_init_15 ?_
  exact ⟨rfl, q, rfl, hq, hfr, hc_a, hc_q⟩
set_option maxHeartbeats 4000000 in
set_option maxRecDepth 100000 in
theorem k_Air_size (l : Launch) (G : GG) {P : List Nat} {f : Nat → va_E} (a fl : Nat) (hm_a : a ∈ P) (hc_a : f a = .inr (2, [.ref fl])) (cap n : Nat) (g : Nat → Nat) (hL : lsS G P f fl cap n g)  : ct0 l G y_Air_size c_Air_size 1 (some .int) 1 20 [.ref a] P f (fun x f1 => x = some (.int (nI n)) ∧ f1 = f) := by
  refine ct_intro (by decide) [some (.ref a)] rfl rfl (Nat.le_of_ble_eq_true rfl) ?_
  intro p e s m below meth c ls C hr hlk hnm hE hM hl
  refine lv_aload_n C.1 C.2.1 d_Air_size_0 rfl (lo_at hl 0 rfl) ?_
  refine pg_get C hE hM hm_a hc_a rfl in_Air 0 (Nat.le_of_ble_eq_true rfl) tw_77 rfl rfl d_Air_size_1 ?_
  obtain ⟨_, _, hc_fl⟩ := hL.cell
  refine cg_callV C hE hM (q_size l G hL) hL.1 hc_fl rfl tw_133 cy_AL_size ⟨(Nat.le_of_ble_eq_true rfl), (Nat.le_of_ble_eq_true rfl)⟩ rfl hl.1 rfl (Nat.le_of_ble_eq_true rfl) ⟨Nat.zero_le _, Nat.zero_le _⟩ d_Air_size_4 (fun x9 f1 H1 locs1 hp hM => ?_)
  obtain ⟨rfl, h9⟩ := hp
  rw [h9] at hM
  clear h9
  refine W.eq (g2 := F0 m 7 ls [_]) rfl ?_
  refine cg_iret C hr hlk hM d_Air_size_7 ?_
  exact ⟨rfl, rfl⟩
set_option maxHeartbeats 4000000 in
set_option maxRecDepth 100000 in
theorem k_Air_look (l : Launch) (G : GG) {P : List Nat} {f : Nat → va_E} (a fl : Nat) (hm_a : a ∈ P) (hc_a : f a = .inr (2, [.ref fl])) (cap n : Nat) (g : Nat → Nat) (hL : lsS G P f fl cap n g) (hlt : ∀ i, i < n → g i ∈ P ∧ ∃ fs, f (g i) = .inr (5, fs)) (hn : n < 60000) (k : Int32)  : ct0 l G y_Air_look c_Air_look 2 (some (.object "FleetFloor$Letter")) 3 64 [.ref a, .int k] P f (fun x f1 => ((∃ i : Nat, k = nI i ∧ i < n ∧ x = some (.ref (g i))) ∨ ((¬ ∃ i : Nat, k = nI i ∧ i < n) ∧ x = some .null)) ∧ f1 = f) := by
  refine ct_intro (by decide) [some (.ref a), some (.int k)] rfl rfl (Nat.le_of_ble_eq_true rfl) ?_
  intro p e s m below meth c ls C hr hlk hnm hE hM hl
  refine lv_iload_n C.1 C.2.1 d_Air_look_0 rfl (lo_at hl 1 rfl) ?_
  refine lv_if_lt (tgt := 29) C.1 C.2.1 d_Air_look_1 (by decide) (fun hc1 => ?_) (fun hc1 => ?_)
  · refine lv_null C.1 C.2.1 d_Air_look_29 ?_
    refine cg_aret C hr (Or.inl ⟨_, rfl⟩) hlk (Or.inl rfl) hM d_Air_look_30 ?_
    exact ⟨Or.inr ⟨fun ⟨i, h1, h2⟩ => nI_nn (by omega) (h1 ▸ hc1), rfl⟩, rfl⟩
  · refine lv_iload_n C.1 C.2.1 d_Air_look_4 rfl (lo_at hl 1 rfl) ?_
    refine lv_aload_n C.1 C.2.1 d_Air_look_5 rfl (lo_at hl 0 rfl) ?_
    refine pg_get C hE hM hm_a hc_a rfl in_Air 0 (Nat.le_of_ble_eq_true rfl) tw_77 rfl rfl d_Air_look_6 ?_
    obtain ⟨_, _, hc_fl⟩ := hL.cell
    refine cg_callV C hE hM (q_size l G hL) hL.1 hc_fl rfl tw_133 cy_AL_size ⟨(Nat.le_of_ble_eq_true rfl), (Nat.le_of_ble_eq_true rfl)⟩ rfl hl.1 rfl (Nat.le_of_ble_eq_true rfl) ⟨Nat.zero_le _, Nat.zero_le _⟩ d_Air_look_9 (fun x9 f1 H1 locs1 hp hM => ?_)
    obtain ⟨rfl, h9⟩ := hp
    rw [h9] at hM
    clear h9
    refine W.eq (g2 := F0 m 12 ls [_, _]) rfl ?_
    refine lv_icmp_ge (tgt := 29) C.1 C.2.1 d_Air_look_12 (by decide) (fun hc12 => ?_) (fun hc12 => ?_)
    · refine lv_null C.1 C.2.1 d_Air_look_29 ?_
      refine cg_aret C hr (Or.inl ⟨_, rfl⟩) hlk (Or.inl rfl) hM d_Air_look_30 ?_
      exact ⟨Or.inr ⟨fun ⟨i, h1, h2⟩ => absurd hc12 (by rw [h1, Int32.not_le]; exact (nI_ltI (by omega) (by omega)).mpr h2), rfl⟩, rfl⟩
    · obtain ⟨i, rfl, hi⟩ : ∃ i : Nat, k = nI i ∧ i < n := by
        have h1 : ¬ k.toInt < 0 := fun q => hc1 (Int32.lt_iff_toInt_lt.mpr q)
        have h2 : ¬ (nI n).toInt ≤ k.toInt := fun q => hc12 (Int32.le_iff_toInt_le.mpr q)
        rw [nI_toInt (by omega)] at h2
        exact nI_ex (by omega) (by omega)
      obtain ⟨hm_g, fs9, hc_g⟩ := hlt i hi
      refine lv_aload_n C.1 C.2.1 d_Air_look_15 rfl (lo_at hl 0 rfl) ?_
      refine pg_get C hE hM hm_a hc_a rfl in_Air 0 (Nat.le_of_ble_eq_true rfl) tw_77 rfl rfl d_Air_look_16 ?_
      refine lv_iload_n C.1 C.2.1 d_Air_look_19 rfl (lo_at hl 1 rfl) ?_
      obtain ⟨_, _, hc_fl⟩ := hL.cell
      refine cg_callV C hE hM (q_get l G hL i hi) hL.1 hc_fl rfl tw_145 cy_AL_get ⟨(Nat.le_of_ble_eq_true rfl), (Nat.le_of_ble_eq_true rfl)⟩ rfl hl.1 rfl (Nat.le_of_ble_eq_true rfl) ⟨Nat.zero_le _, Nat.zero_le _⟩ d_Air_look_20 (fun x9 f2 H1 locs1 hp hM => ?_)
      obtain ⟨rfl, h9⟩ := hp
      rw [h9] at hM
      clear h9
      refine W.eq (g2 := F0 m 23 ls [_]) rfl ?_
      refine cg_cast C hE hM hm_g hc_g rfl tw_159 d_Air_look_23 ?_
      refine lv_goto (tgt := 30) C.1 C.2.1 d_Air_look_26 (by decide) ?_
      refine cg_aret C hr (Or.inl ⟨_, rfl⟩) hlk (Or.inr ⟨_, rfl⟩) hM d_Air_look_30 ?_
      exact ⟨Or.inl ⟨i, rfl, hi, rfl⟩, rfl⟩
set_option maxHeartbeats 4000000 in
set_option maxRecDepth 100000 in
theorem k_Air_remove (l : Launch) (G : GG) {P : List Nat} {f : Nat → va_E} (a fl : Nat) (hm_a : a ∈ P) (hc_a : f a = .inr (2, [.ref fl])) (cap n : Nat) (g : Nat → Nat) (hL : lsS G P f fl cap n g) (hW : lsW G P f) (hel : ∀ i, i < n → oOk P f (g i)) (hn : n < 60000) (k : Int32)  : ct0 l G y_Air_remove c_Air_remove 2 (some .boolean) 3 86 [.ref a, .int k] P f (fun x f1 => (∃ i : Nat, k = nI i ∧ i < n ∧ x = some (.int 1) ∧ lsS G P f1 fl cap (n - 1) (fun j => if j < i then g j else g (j + 1)) ∧ frL G P f P f1 fl) ∨ ((¬ ∃ i : Nat, k = nI i ∧ i < n) ∧ x = some (.int 0) ∧ f1 = f)) := by
  refine ct_intro (by decide) [some (.ref a), some (.int k)] rfl rfl (Nat.le_of_ble_eq_true rfl) ?_
  intro p e s m below meth c ls C hr hlk hnm hE hM hl
  refine lv_iload_n C.1 C.2.1 d_Air_remove_0 rfl (lo_at hl 1 rfl) ?_
  refine lv_if_lt (tgt := 15) C.1 C.2.1 d_Air_remove_1 (by decide) (fun hc1 => ?_) (fun hc1 => ?_)
  · refine lv_iconst (v := 0) C.1 C.2.1 d_Air_remove_15 (by decide) ?_
    refine cg_zret C hr hlk hM d_Air_remove_16 (by decide) ?_
    exact Or.inr ⟨fun ⟨i, h1, h2⟩ => nI_nn (by omega) (h1 ▸ hc1), rfl, rfl⟩
  · refine lv_iload_n C.1 C.2.1 d_Air_remove_4 rfl (lo_at hl 1 rfl) ?_
    refine lv_aload_n C.1 C.2.1 d_Air_remove_5 rfl (lo_at hl 0 rfl) ?_
    refine pg_get C hE hM hm_a hc_a rfl in_Air 0 (Nat.le_of_ble_eq_true rfl) tw_77 rfl rfl d_Air_remove_6 ?_
    obtain ⟨_, _, hc_fl⟩ := hL.cell
    refine cg_callV C hE hM (q_size l G hL) hL.1 hc_fl rfl tw_133 cy_AL_size ⟨(Nat.le_of_ble_eq_true rfl), (Nat.le_of_ble_eq_true rfl)⟩ rfl hl.1 rfl (Nat.le_of_ble_eq_true rfl) ⟨Nat.zero_le _, Nat.zero_le _⟩ d_Air_remove_9 (fun x9 f1 H1 locs1 hp hM => ?_)
    obtain ⟨rfl, h9⟩ := hp
    rw [h9] at hM
    clear h9
    refine W.eq (g2 := F0 m 12 ls [_, _]) rfl ?_
    refine lv_icmp_lt (tgt := 17) C.1 C.2.1 d_Air_remove_12 (by decide) (fun hc12 => ?_) (fun hc12 => ?_)
    · obtain ⟨i, rfl, hi⟩ : ∃ i : Nat, k = nI i ∧ i < n := by
        have h1 : ¬ k.toInt < 0 := fun q => hc1 (Int32.lt_iff_toInt_lt.mpr q)
        have h2 := Int32.lt_iff_toInt_lt.mp hc12
        rw [nI_toInt (by omega)] at h2
        exact nI_ex (by omega) (by omega)
      refine lv_aload_n C.1 C.2.1 d_Air_remove_17 rfl (lo_at hl 0 rfl) ?_
      refine pg_get C hE hM hm_a hc_a rfl in_Air 0 (Nat.le_of_ble_eq_true rfl) tw_77 rfl rfl d_Air_remove_18 ?_
      refine lv_iload_n C.1 C.2.1 d_Air_remove_21 rfl (lo_at hl 1 rfl) ?_
      obtain ⟨_, _, hc_fl⟩ := hL.cell
      refine cg_callV C hE hM (q_remove l G hL hW hel i hi) hL.1 hc_fl rfl tw_193 cy_AL_remove ⟨(Nat.le_of_ble_eq_true rfl), (Nat.le_of_ble_eq_true rfl)⟩ rfl hl.1 rfl (Nat.le_of_ble_eq_true rfl) ⟨Nat.zero_le _, Nat.zero_le _⟩ d_Air_remove_22 (fun x9 f2 H1 locs1 hp hM => ?_)
      obtain ⟨hx9, h9⟩ := hp
      subst hx9
      refine W.eq (g2 := F0 m 25 ls [_]) rfl ?_
      refine lv_pop C.1 C.2.1 d_Air_remove_25 rfl ?_
      refine lv_iconst (v := 1) C.1 C.2.1 d_Air_remove_26 (by decide) ?_
      refine cg_zret C hr hlk hM d_Air_remove_27 (by decide) ?_
      exact Or.inl ⟨i, rfl, hi, rfl, h9⟩
    · refine lv_iconst (v := 0) C.1 C.2.1 d_Air_remove_15 (by decide) ?_
      refine cg_zret C hr hlk hM d_Air_remove_16 (by decide) ?_
      exact Or.inr ⟨fun ⟨i, h1, h2⟩ => hc12 (by rw [h1]; exact (nI_ltI (by omega) (by omega)).mpr h2), rfl, rfl⟩
theorem nI_lt2 {a b : Nat} (ha : a < 2147483648) (hb : b < 2147483648) (h : nI a < nI b) : a < b := (nI_ltI ha hb).mp h
set_option maxHeartbeats 4000000 in
set_option maxRecDepth 100000 in
theorem k_Air_send (l : Launch) (G : GG) {P : List Nat} {f : Nat → va_E} (a fl : Nat) (hm_a : a ∈ P) (hc_a : f a = .inr (2, [.ref fl])) (cap n : Nat) (g : Nat → Nat) (hL : lsS G P f fl cap n g) (hW : lsW G P f) (hel : ∀ i, i < n → oOk P f (g i)) (hn : n < 60000) (hcap : cap < 30000) (y : Nat) (hy : oOk P f y)  : ct l G y_Air_send c_Air_send 2 (some .boolean) 7 171 (1) (gzc cap n) [.ref a, .ref y] P f (fun x N f1 => (n < 60 ∧ x = some (.int 1) ∧ N.length ≤ 1 ∧ lsS G (P ++ N) f1 fl (nc cap n) (n + 1) (va_up g n y) ∧ frL G P f (P ++ N) f1 fl) ∨ (¬ n < 60 ∧ x = some (.int 0) ∧ N = [] ∧ f1 = f)) := by
  refine ct_intro (by decide) [some (.ref a), some (.ref y)] rfl rfl (Nat.le_of_ble_eq_true rfl) ?_
  intro p e s m below meth c ls C hr hlk hnm hE hM hl
  have hy0 := hy.1
  have hPN : P = P ++ [] := (List.append_nil P).symm
  refine lv_aload_n C.1 C.2.1 d_Air_send_0 rfl (lo_at hl 0 rfl) ?_
  refine pg_get C hE hM hm_a hc_a rfl in_Air 0 (Nat.le_of_ble_eq_true rfl) tw_77 rfl rfl d_Air_send_1 ?_
  obtain ⟨_, _, hc_fl⟩ := hL.cell
  refine cg_callV C hE hM (q_size l G hL) hL.1 hc_fl rfl tw_133 cy_AL_size ⟨(Nat.le_of_ble_eq_true rfl), (Nat.le_of_ble_eq_true rfl)⟩ rfl hl.1 rfl (Nat.le_of_ble_eq_true rfl) ⟨by (try show _ ≤ 1); omega, by (try show _ ≤ gzc cap n); omega⟩ d_Air_send_4 (fun x9 f1 H1 locs1 hp hM => ?_)
  obtain ⟨rfl, h9⟩ := hp
  rw [h9] at hM
  clear h9
  refine W.eq (g2 := F0 m 7 ls [_]) rfl ?_
  refine lv_bipush (v := 60) C.1 C.2.1 d_Air_send_7 (by decide) ?_
  rw [show (60 : Int32) = nI 60 from rfl]
  refine lv_icmp_lt (tgt := 14) C.1 C.2.1 d_Air_send_9 (by decide) (fun hc9 => ?_) (fun hc9 => ?_)
  · refine lv_aload_n C.1 C.2.1 d_Air_send_14 rfl (lo_at hl 0 rfl) ?_
    refine pg_get C hE hM hm_a hc_a rfl in_Air 0 (Nat.le_of_ble_eq_true rfl) tw_77 rfl rfl d_Air_send_15 ?_
    refine lv_aload_n C.1 C.2.1 d_Air_send_18 rfl (lo_at hl 1 rfl) ?_
    obtain ⟨_, _, hc_fl⟩ := hL.cell
    refine cg_callVA C hE hM (q_add l G hL hW hel y hy hcap) hL.1 hc_fl rfl tw_216 cy_AL_add ⟨(Nat.le_of_ble_eq_true rfl), (Nat.le_of_ble_eq_true rfl)⟩ rfl hl.1 rfl (Nat.le_of_ble_eq_true rfl) ⟨by show _ ≤ 1; omega, by show _ ≤ gzc cap n; omega⟩ d_Air_send_19 (fun x9 N1 P1 f2 H1 locs1 hP1 hp hM => ?_)
    obtain ⟨hx9, hN9, h9⟩ := hp
    subst hx9
    have hm_a := (show a ∈ P1 by rw [hP1]; exact List.mem_append_left _ hm_a)
    have hy0 := (show y ∈ P1 by rw [hP1]; exact List.mem_append_left _ hy0)
    have hPN := hPN_app hPN hP1
    refine W.eq (g2 := F0 m 22 ls [_]) rfl ?_
    refine W.widen (k := 1) (n := gzc cap n) (by omega) (by omega) ?_
    refine lv_pop C.1 C.2.1 d_Air_send_22 rfl ?_
    refine lv_iconst (v := 1) C.1 C.2.1 d_Air_send_23 (by decide) ?_
    refine pg_zret C hr hlk hM hPN (by omega) (by omega) d_Air_send_24 (by decide) ?_
    exact Or.inl ⟨nI_lt2 (by omega) (by omega) hc9, rfl, hN9, h9⟩
  · refine lv_iconst (v := 0) C.1 C.2.1 d_Air_send_12 (by decide) ?_
    refine pg_zret C hr hlk hM hPN (by omega) (by omega) d_Air_send_13 (by decide) ?_
    exact Or.inr ⟨fun h => hc9 ((nI_ltI (by omega) (by omega)).mpr h), rfl, rfl, rfl⟩
