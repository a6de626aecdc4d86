/-! the small objects -/
set_option maxHeartbeats 4000000 in
set_option maxRecDepth 100000 in
theorem k_Let_kind (l : Launch) (G : GG) {P : List Nat} {f : Nat → va_E} (a : Nat) (x0 x1 x2 : Int32) (hm_a : a ∈ P) (hc_a : f a = .inr (5, [.int x0, .int x1, .int x2]))  : ct0 l G y_Let_kind c_Let_kind 1 (some .int) 0 0 [.ref a] P f (fun x f1 => x = some (.int x0) ∧ f1 = f) := by
  refine ct_intro (by decide) [some (.ref a)] rfl rfl (Nat.le_of_ble_eq_true rfl) ?_
  intro p e s m below meth c ls C hr hlk hnm hE hM hl
  refine lv_aload_n C.1 C.2.1 d_Let_kind_0 rfl (lo_at hl 0 rfl) ?_
  refine pg_get C hE hM hm_a hc_a rfl in_Let 0 (Nat.le_of_ble_eq_true rfl) tw_642 rfl rfl d_Let_kind_1 ?_
  refine cg_iret C hr hlk hM d_Let_kind_4 ?_
  exact ⟨rfl, rfl⟩
set_option maxHeartbeats 4000000 in
set_option maxRecDepth 100000 in
theorem k_Let_owner (l : Launch) (G : GG) {P : List Nat} {f : Nat → va_E} (a : Nat) (x0 x1 x2 : Int32) (hm_a : a ∈ P) (hc_a : f a = .inr (5, [.int x0, .int x1, .int x2]))  : ct0 l G y_Let_owner c_Let_owner 1 (some .int) 0 0 [.ref a] P f (fun x f1 => x = some (.int x1) ∧ f1 = f) := by
  refine ct_intro (by decide) [some (.ref a)] rfl rfl (Nat.le_of_ble_eq_true rfl) ?_
  intro p e s m below meth c ls C hr hlk hnm hE hM hl
  refine lv_aload_n C.1 C.2.1 d_Let_owner_0 rfl (lo_at hl 0 rfl) ?_
  refine pg_get C hE hM hm_a hc_a rfl in_Let 1 (Nat.le_of_ble_eq_true rfl) tw_643 rfl rfl d_Let_owner_1 ?_
  refine cg_iret C hr hlk hM d_Let_owner_4 ?_
  exact ⟨rfl, rfl⟩
set_option maxHeartbeats 4000000 in
set_option maxRecDepth 100000 in
theorem k_Let_number (l : Launch) (G : GG) {P : List Nat} {f : Nat → va_E} (a : Nat) (x0 x1 x2 : Int32) (hm_a : a ∈ P) (hc_a : f a = .inr (5, [.int x0, .int x1, .int x2]))  : ct0 l G y_Let_number c_Let_number 1 (some .int) 0 0 [.ref a] P f (fun x f1 => x = some (.int x2) ∧ f1 = f) := by
  refine ct_intro (by decide) [some (.ref a)] rfl rfl (Nat.le_of_ble_eq_true rfl) ?_
  intro p e s m below meth c ls C hr hlk hnm hE hM hl
  refine lv_aload_n C.1 C.2.1 d_Let_number_0 rfl (lo_at hl 0 rfl) ?_
  refine pg_get C hE hM hm_a hc_a rfl in_Let 2 (Nat.le_of_ble_eq_true rfl) tw_644 rfl rfl d_Let_number_1 ?_
  refine cg_iret C hr hlk hM d_Let_number_4 ?_
  exact ⟨rfl, rfl⟩
set_option maxHeartbeats 4000000 in
set_option maxRecDepth 100000 in
theorem k_Let_init (l : Launch) (G : GG) {P : List Nat} {f : Nat → va_E} (a : Nat) (x0 x1 x2 : Int32) (hm_a : a ∈ P) (hc_a : f a = .inr (5, [.int 0, .int 0, .int 0]))  : ct0 l G y_Let_init c_Let_init 4 none 2 40 [.ref a, .int x0, .int x1, .int x2] P f (fun x f1 => x = none ∧ f1 = va_up f a (.inr (5, [.int x0, .int x1, .int x2]))) := by
  refine ct_intro (by decide) [some (.ref a), some (.int x0), some (.int x1), some (.int x2)] rfl rfl (Nat.le_of_ble_eq_true rfl) ?_
  intro p e s m below meth c ls C hr hlk hnm hE hM hl
  refine lv_aload_n C.1 C.2.1 d_Let_init_0 rfl (lo_at hl 0 rfl) ?_
  refine cg_callI C hE hM (k_Rec_init l G a) tw_638 cy_Rec_init ⟨(Nat.le_of_ble_eq_true rfl), (Nat.le_of_ble_eq_true rfl)⟩ rfl hl.1 rfl (Nat.le_of_ble_eq_true rfl) ⟨Nat.zero_le _, Nat.zero_le _⟩ d_Let_init_1 (fun x9 f1 H1 locs1 hp hM => ?_)
  obtain ⟨rfl, h9⟩ := hp
  rw [h9] at hM
  clear h9
  refine W.eq (g2 := F0 m 4 ls []) rfl ?_
  refine lv_aload_n C.1 C.2.1 d_Let_init_4 rfl (lo_at hl 0 rfl) ?_
  refine lv_iload_n C.1 C.2.1 d_Let_init_5 rfl (lo_at hl 1 rfl) ?_
  refine cg_putF C hE hM hm_a hc_a rfl in_Let ok_Let n_Let 0 (Nat.le_of_ble_eq_true rfl) tw_642 rfl rfl hnm rfl rfl rfl rfl (Nat.le_of_ble_eq_true rfl) d_Let_init_6 (fun f2 H1 locs1 hf2 hM => ?_)
  have hc_a := (congrFun hf2 a).trans (va_up_self _ _ _)
  refine lv_aload_n C.1 C.2.1 d_Let_init_9 rfl (lo_at hl 0 rfl) ?_
  refine lv_iload_n C.1 C.2.1 d_Let_init_10 rfl (lo_at hl 2 rfl) ?_
  refine cg_putF C hE hM hm_a hc_a rfl in_Let ok_Let n_Let 1 (Nat.le_of_ble_eq_true rfl) tw_643 rfl rfl hnm rfl rfl rfl rfl (Nat.le_of_ble_eq_true rfl) d_Let_init_11 (fun f3 H1 locs1 hf3 hM => ?_)
  have hc_a := (congrFun hf3 a).trans (va_up_self _ _ _)
  refine lv_aload_n C.1 C.2.1 d_Let_init_14 rfl (lo_at hl 0 rfl) ?_
  refine lv_iload_n C.1 C.2.1 d_Let_init_15 rfl (lo_at hl 3 rfl) ?_
  refine cg_putF C hE hM hm_a hc_a rfl in_Let ok_Let n_Let 2 (Nat.le_of_ble_eq_true rfl) tw_644 rfl rfl hnm rfl rfl rfl rfl (Nat.le_of_ble_eq_true rfl) d_Let_init_16 (fun f4 H1 locs1 hf4 hM => ?_)
  have hc_a := (congrFun hf4 a).trans (va_up_self _ _ _)
  refine cg_vret C hr hlk hM d_Let_init_19 ?_
  refine ⟨rfl, ?_⟩
  rw [hf4, hf3, hf2]; simp only [bx_uu]; rfl
set_option maxHeartbeats 4000000 in
set_option maxRecDepth 100000 in
theorem k_Mov_place (l : Launch) (G : GG) {P : List Nat} {f : Nat → va_E} (a : Nat) (x0 x1 : Int32) (hm_a : a ∈ P) (hc_a : f a = .inr (6, [.int x0, .int x1]))  : ct0 l G y_Mov_place c_Mov_place 1 (some .int) 0 0 [.ref a] P f (fun x f1 => x = some (.int x0) ∧ f1 = f) := by
  refine ct_intro (by decide) [some (.ref a)] rfl rfl (Nat.le_of_ble_eq_true rfl) ?_
  intro p e s m below meth c ls C hr hlk hnm hE hM hl
  refine lv_aload_n C.1 C.2.1 d_Mov_place_0 rfl (lo_at hl 0 rfl) ?_
  refine pg_get C hE hM hm_a hc_a rfl in_Mov 0 (Nat.le_of_ble_eq_true rfl) tw_755 rfl rfl d_Mov_place_1 ?_
  refine cg_iret C hr hlk hM d_Mov_place_4 ?_
  exact ⟨rfl, rfl⟩
set_option maxHeartbeats 4000000 in
set_option maxRecDepth 100000 in
theorem k_Mov_time (l : Launch) (G : GG) {P : List Nat} {f : Nat → va_E} (a : Nat) (x0 x1 : Int32) (hm_a : a ∈ P) (hc_a : f a = .inr (6, [.int x0, .int x1]))  : ct0 l G y_Mov_time c_Mov_time 1 (some .int) 0 0 [.ref a] P f (fun x f1 => x = some (.int x1) ∧ f1 = f) := by
  refine ct_intro (by decide) [some (.ref a)] rfl rfl (Nat.le_of_ble_eq_true rfl) ?_
  intro p e s m below meth c ls C hr hlk hnm hE hM hl
  refine lv_aload_n C.1 C.2.1 d_Mov_time_0 rfl (lo_at hl 0 rfl) ?_
  refine pg_get C hE hM hm_a hc_a rfl in_Mov 1 (Nat.le_of_ble_eq_true rfl) tw_756 rfl rfl d_Mov_time_1 ?_
  refine cg_iret C hr hlk hM d_Mov_time_4 ?_
  exact ⟨rfl, rfl⟩
set_option maxHeartbeats 4000000 in
set_option maxRecDepth 100000 in
theorem k_Mov_init (l : Launch) (G : GG) {P : List Nat} {f : Nat → va_E} (a : Nat) (x0 x1 : Int32) (hm_a : a ∈ P) (hc_a : f a = .inr (6, [.int 0, .int 0]))  : ct0 l G y_Mov_init c_Mov_init 3 none 2 40 [.ref a, .int x0, .int x1] P f (fun x f1 => x = none ∧ f1 = va_up f a (.inr (6, [.int x0, .int x1]))) := by
  refine ct_intro (by decide) [some (.ref a), some (.int x0), some (.int x1)] rfl rfl (Nat.le_of_ble_eq_true rfl) ?_
  intro p e s m below meth c ls C hr hlk hnm hE hM hl
  refine lv_aload_n C.1 C.2.1 d_Mov_init_0 rfl (lo_at hl 0 rfl) ?_
  refine cg_callI C hE hM (k_Rec_init l G a) tw_754 cy_Rec_init ⟨(Nat.le_of_ble_eq_true rfl), (Nat.le_of_ble_eq_true rfl)⟩ rfl hl.1 rfl (Nat.le_of_ble_eq_true rfl) ⟨Nat.zero_le _, Nat.zero_le _⟩ d_Mov_init_1 (fun x9 f1 H1 locs1 hp hM => ?_)
  obtain ⟨rfl, h9⟩ := hp
  rw [h9] at hM
  clear h9
  refine W.eq (g2 := F0 m 4 ls []) rfl ?_
  refine lv_aload_n C.1 C.2.1 d_Mov_init_4 rfl (lo_at hl 0 rfl) ?_
  refine lv_iload_n C.1 C.2.1 d_Mov_init_5 rfl (lo_at hl 1 rfl) ?_
  refine cg_putF C hE hM hm_a hc_a rfl in_Mov ok_Mov n_Mov 0 (Nat.le_of_ble_eq_true rfl) tw_755 rfl rfl hnm rfl rfl rfl rfl (Nat.le_of_ble_eq_true rfl) d_Mov_init_6 (fun f2 H1 locs1 hf2 hM => ?_)
  have hc_a := (congrFun hf2 a).trans (va_up_self _ _ _)
  refine lv_aload_n C.1 C.2.1 d_Mov_init_9 rfl (lo_at hl 0 rfl) ?_
  refine lv_iload_n C.1 C.2.1 d_Mov_init_10 rfl (lo_at hl 2 rfl) ?_
  refine cg_putF C hE hM hm_a hc_a rfl in_Mov ok_Mov n_Mov 1 (Nat.le_of_ble_eq_true rfl) tw_756 rfl rfl hnm rfl rfl rfl rfl (Nat.le_of_ble_eq_true rfl) d_Mov_init_11 (fun f3 H1 locs1 hf3 hM => ?_)
  have hc_a := (congrFun hf3 a).trans (va_up_self _ _ _)
  refine cg_vret C hr hlk hM d_Mov_init_14 ?_
  refine ⟨rfl, ?_⟩
  rw [hf3, hf2]; simp only [bx_uu]; rfl
set_option maxHeartbeats 4000000 in
set_option maxRecDepth 100000 in
theorem k_Tsk_init (l : Launch) (G : GG) {P : List Nat} {f : Nat → va_E} (a : Nat) (u y : Int32) (hm_a : a ∈ P) (hc_a : f a = .inr (7, [.int 0, .int 0, .int 0, .int 0]))  : ct0 l G y_Tsk_init c_Tsk_init 3 none 1 20 [.ref a, .int u, .int y] P f (fun x f1 => x = none ∧ f1 = va_up f a (.inr (7, [.int u, .int y, .int (-1), .int (-1)]))) := by
  refine ct_intro (by decide) [some (.ref a), some (.int u), some (.int y)] rfl rfl (Nat.le_of_ble_eq_true rfl) ?_
  intro p e s m below meth c ls C hr hlk hnm hE hM hl
  refine lv_aload_n C.1 C.2.1 d_Tsk_init_0 rfl (lo_at hl 0 rfl) ?_
  refine W.objInit C.1 C.2.1 C.2.2.2.1 (C.2.2.2.2 _ tw_586) (C.2.2.2.2 _ tw_32) (C.2.2.2.2 _ tw_33) rfl (by rw [C.2.2.1]; exact hl.1) rfl d_Tsk_init_1 (Nat.le_of_ble_eq_true rfl) (Nat.le_of_ble_eq_true rfl) ?_
  refine W.eq (g2 := F0 m 4 ls []) rfl ?_
  refine lv_aload_n C.1 C.2.1 d_Tsk_init_4 rfl (lo_at hl 0 rfl) ?_
  refine lv_iload_n C.1 C.2.1 d_Tsk_init_5 rfl (lo_at hl 1 rfl) ?_
  refine cg_putF C hE hM hm_a hc_a rfl in_Tsk ok_Tsk n_Tsk 0 (Nat.le_of_ble_eq_true rfl) tw_587 rfl rfl hnm rfl rfl rfl rfl (Nat.le_of_ble_eq_true rfl) d_Tsk_init_6 (fun f1 H1 locs1 hf1 hM => ?_)
  have hc_a := (congrFun hf1 a).trans (va_up_self _ _ _)
  refine lv_aload_n C.1 C.2.1 d_Tsk_init_9 rfl (lo_at hl 0 rfl) ?_
  refine lv_iload_n C.1 C.2.1 d_Tsk_init_10 rfl (lo_at hl 2 rfl) ?_
  refine cg_putF C hE hM hm_a hc_a rfl in_Tsk ok_Tsk n_Tsk 1 (Nat.le_of_ble_eq_true rfl) tw_589 rfl rfl hnm rfl rfl rfl rfl (Nat.le_of_ble_eq_true rfl) d_Tsk_init_11 (fun f2 H1 locs1 hf2 hM => ?_)
  have hc_a := (congrFun hf2 a).trans (va_up_self _ _ _)
  refine lv_aload_n C.1 C.2.1 d_Tsk_init_14 rfl (lo_at hl 0 rfl) ?_
  refine lv_iconst (v := (-1)) C.1 C.2.1 d_Tsk_init_15 (by decide) ?_
  refine cg_put C hE hM hm_a hc_a rfl in_Tsk ok_Tsk n_Tsk 2 (Nat.le_of_ble_eq_true rfl) tw_591 rfl rfl rfl rfl rfl (Nat.le_of_ble_eq_true rfl) d_Tsk_init_16 (fun f3 H1 locs1 hf3 hM => ?_)
  have hc_a := (congrFun hf3 a).trans (va_up_self _ _ _)
  refine lv_aload_n C.1 C.2.1 d_Tsk_init_19 rfl (lo_at hl 0 rfl) ?_
  refine lv_iconst (v := (-1)) C.1 C.2.1 d_Tsk_init_20 (by decide) ?_
  refine cg_put C hE hM hm_a hc_a rfl in_Tsk ok_Tsk n_Tsk 3 (Nat.le_of_ble_eq_true rfl) tw_593 rfl rfl rfl rfl rfl (Nat.le_of_ble_eq_true rfl) d_Tsk_init_21 (fun f4 H1 locs1 hf4 hM => ?_)
  have hc_a := (congrFun hf4 a).trans (va_up_self _ _ _)
  refine cg_vret C hr hlk hM d_Tsk_init_24 ?_
  refine ⟨rfl, ?_⟩
  rw [hf4, hf3, hf2, hf1]; simp only [bx_uu]; rfl
set_option maxHeartbeats 4000000 in
set_option maxRecDepth 100000 in
theorem k_Veh_isIdle (l : Launch) (G : GG) {P : List Nat} {f : Nat → va_E} (a : Nat) (num park made alw knw grt lat fin jm : Int32) (mv : Nat) (hm_a : a ∈ P) (hc_a : f a = .inr (8, [.int num, .int park, .ref mv, .int made, .int alw, .int knw, .int grt, .int lat, .int fin, .int jm])) (cap n : Nat) (g : Nat → Nat) (hL : lsS G P f mv cap n g)  : ct0 l G y_Veh_isIdle c_Veh_isIdle 1 (some .boolean) 1 20 [.ref a] P f (fun x f1 => x = some (.int (bz (knw = nI n))) ∧ f1 = f) := by
  refine ct_intro (by decide) [some (.ref a)] rfl rfl (Nat.le_of_ble_eq_true rfl) ?_
  intro p e s m below meth c ls C hr hlk hnm hE hM hl
  refine lv_aload_n C.1 C.2.1 d_Veh_isIdle_0 rfl (lo_at hl 0 rfl) ?_
  refine pg_get C hE hM hm_a hc_a rfl in_Veh 5 (Nat.le_of_ble_eq_true rfl) tw_485 rfl rfl d_Veh_isIdle_1 ?_
  refine lv_aload_n C.1 C.2.1 d_Veh_isIdle_4 rfl (lo_at hl 0 rfl) ?_
  refine pg_get C hE hM hm_a hc_a rfl in_Veh 2 (Nat.le_of_ble_eq_true rfl) tw_478 rfl rfl d_Veh_isIdle_5 ?_
  obtain ⟨_, _, hc_mv⟩ := hL.cell
  refine cg_callV C hE hM (q_size l G hL) hL.1 hc_mv rfl tw_280 cy_AL_size ⟨(Nat.le_of_ble_eq_true rfl), (Nat.le_of_ble_eq_true rfl)⟩ rfl hl.1 rfl (Nat.le_of_ble_eq_true rfl) ⟨Nat.zero_le _, Nat.zero_le _⟩ d_Veh_isIdle_8 (fun x9 f1 H1 locs1 hp hM => ?_)
  obtain ⟨rfl, h9⟩ := hp
  rw [h9] at hM
  clear h9
  refine W.eq (g2 := F0 m 11 ls [_, _]) rfl ?_
  refine lv_icmp_ne (tgt := 18) C.1 C.2.1 d_Veh_isIdle_11 (by decide) (fun hc11 => ?_) (fun hc11 => ?_)
  · refine lv_iconst (v := 0) C.1 C.2.1 d_Veh_isIdle_18 (by decide) ?_
    refine cg_zret C hr hlk hM d_Veh_isIdle_19 (by decide) ?_
    exact ⟨by rw [bz, if_neg hc11], rfl⟩
  · refine lv_iconst (v := 1) C.1 C.2.1 d_Veh_isIdle_14 (by decide) ?_
    refine lv_goto (tgt := 19) C.1 C.2.1 d_Veh_isIdle_15 (by decide) ?_
    refine cg_zret C hr hlk hM d_Veh_isIdle_19 (by decide) ?_
    exact ⟨by rw [bz, if_pos hc11], rfl⟩
set_option maxHeartbeats 4000000 in
set_option maxRecDepth 100000 in
theorem k_Veh_canMove (l : Launch) (G : GG) {P : List Nat} {f : Nat → va_E} (a : Nat) (num park made alw knw grt lat fin jm : Int32) (mv : Nat) (hm_a : a ∈ P) (hc_a : f a = .inr (8, [.int num, .int park, .ref mv, .int made, .int alw, .int knw, .int grt, .int lat, .int fin, .int jm])) (cap n : Nat) (g : Nat → Nat) (hL : lsS G P f mv cap n g)  : ct0 l G y_Veh_canMove c_Veh_canMove 1 (some .boolean) 1 20 [.ref a] P f (fun x f1 => x = some (.int (bz (made < alw ∧ made < nI n))) ∧ f1 = f) := by
  refine ct_intro (by decide) [some (.ref a)] rfl rfl (Nat.le_of_ble_eq_true rfl) ?_
  intro p e s m below meth c ls C hr hlk hnm hE hM hl
  refine lv_aload_n C.1 C.2.1 d_Veh_canMove_0 rfl (lo_at hl 0 rfl) ?_
  refine pg_get C hE hM hm_a hc_a rfl in_Veh 3 (Nat.le_of_ble_eq_true rfl) tw_481 rfl rfl d_Veh_canMove_1 ?_
  refine lv_aload_n C.1 C.2.1 d_Veh_canMove_4 rfl (lo_at hl 0 rfl) ?_
  refine pg_get C hE hM hm_a hc_a rfl in_Veh 4 (Nat.le_of_ble_eq_true rfl) tw_483 rfl rfl d_Veh_canMove_5 ?_
  refine lv_icmp_ge (tgt := 29) C.1 C.2.1 d_Veh_canMove_8 (by decide) (fun hc8 => ?_) (fun hc8 => ?_)
  · refine lv_iconst (v := 0) C.1 C.2.1 d_Veh_canMove_29 (by decide) ?_
    refine cg_zret C hr hlk hM d_Veh_canMove_30 (by decide) ?_
    refine ⟨?_, rfl⟩
    rw [bz, if_neg (fun h => absurd h.1 (Int32.not_lt.mpr hc8))]
  · refine lv_aload_n C.1 C.2.1 d_Veh_canMove_11 rfl (lo_at hl 0 rfl) ?_
    refine pg_get C hE hM hm_a hc_a rfl in_Veh 3 (Nat.le_of_ble_eq_true rfl) tw_481 rfl rfl d_Veh_canMove_12 ?_
    refine lv_aload_n C.1 C.2.1 d_Veh_canMove_15 rfl (lo_at hl 0 rfl) ?_
    refine pg_get C hE hM hm_a hc_a rfl in_Veh 2 (Nat.le_of_ble_eq_true rfl) tw_478 rfl rfl d_Veh_canMove_16 ?_
    obtain ⟨_, _, hc_mv⟩ := hL.cell
    refine cg_callV C hE hM (q_size l G hL) hL.1 hc_mv rfl tw_280 cy_AL_size ⟨(Nat.le_of_ble_eq_true rfl), (Nat.le_of_ble_eq_true rfl)⟩ rfl hl.1 rfl (Nat.le_of_ble_eq_true rfl) ⟨Nat.zero_le _, Nat.zero_le _⟩ d_Veh_canMove_19 (fun x9 f1 H1 locs1 hp hM => ?_)
    obtain ⟨rfl, h9⟩ := hp
    rw [h9] at hM
    clear h9
    refine W.eq (g2 := F0 m 22 ls [_, _]) rfl ?_
    refine lv_icmp_ge (tgt := 29) C.1 C.2.1 d_Veh_canMove_22 (by decide) (fun hc22 => ?_) (fun hc22 => ?_)
    · refine lv_iconst (v := 0) C.1 C.2.1 d_Veh_canMove_29 (by decide) ?_
      refine cg_zret C hr hlk hM d_Veh_canMove_30 (by decide) ?_
      refine ⟨?_, rfl⟩
      rw [bz, if_neg (fun h => absurd h.2 (Int32.not_lt.mpr hc22))]
    · refine lv_iconst (v := 1) C.1 C.2.1 d_Veh_canMove_25 (by decide) ?_
      refine lv_goto (tgt := 30) C.1 C.2.1 d_Veh_canMove_26 (by decide) ?_
      refine cg_zret C hr hlk hM d_Veh_canMove_30 (by decide) ?_
      refine ⟨?_, rfl⟩
      rw [bz, if_pos ⟨Int32.not_le.mp hc8, Int32.not_le.mp hc22⟩]
/-- where a vehicle is behind z of its moves -/
def plA (park : Int32) (mc : Nat → Int32) (n : Nat) (z : Int32) : Int32 := if ¬ z < 1 ∧ ¬ nI n < z then mc (z.toNatClampNeg - 1) else park
set_option maxHeartbeats 4000000 in
set_option maxRecDepth 100000 in
theorem k_Veh_placeAfter (l : Launch) (G : GG) {P : List Nat} {f : Nat → va_E} (a : Nat) (num park made alw knw grt lat fin jm : Int32) (mv : Nat) (hm_a : a ∈ P) (hc_a : f a = .inr (8, [.int num, .int park, .ref mv, .int made, .int alw, .int knw, .int grt, .int lat, .int fin, .int jm])) (cap n : Nat) (g : Nat → Nat) (hL : lsS G P f mv cap n g) (mc mt : Nat → Int32) (hmv : ∀ i, i < n → g i ∈ P ∧ f (g i) = .inr (6, [.int (mc i), .int (mt i)])) (hn : n < 60000) (z : Int32)  : ct0 l G y_Veh_placeAfter c_Veh_placeAfter 2 (some .int) 3 64 [.ref a, .int z] P f (fun x f1 => x = some (.int (plA park mc n z)) ∧ f1 = f) := by
  refine ct_intro (by decide) [some (.ref a), some (.int z)] rfl rfl (Nat.le_of_ble_eq_true rfl) ?_
  intro p e s m below meth c ls C hr hlk hnm hE hM hl
  refine lv_iload_n C.1 C.2.1 d_Veh_placeAfter_0 rfl (lo_at hl 1 rfl) ?_
  refine lv_iconst (v := 1) C.1 C.2.1 d_Veh_placeAfter_1 (by decide) ?_
  refine lv_icmp_lt (tgt := 35) C.1 C.2.1 d_Veh_placeAfter_2 (by decide) (fun hc2 => ?_) (fun hc2 => ?_)
  · refine lv_aload_n C.1 C.2.1 d_Veh_placeAfter_35 rfl (lo_at hl 0 rfl) ?_
    refine pg_get C hE hM hm_a hc_a rfl in_Veh 1 (Nat.le_of_ble_eq_true rfl) tw_476 rfl rfl d_Veh_placeAfter_36 ?_
    refine cg_iret C hr hlk hM d_Veh_placeAfter_39 ?_
    refine ⟨?_, rfl⟩
    unfold plA
    rw [if_neg (fun h => h.1 hc2)]
  · refine lv_iload_n C.1 C.2.1 d_Veh_placeAfter_5 rfl (lo_at hl 1 rfl) ?_
    refine lv_aload_n C.1 C.2.1 d_Veh_placeAfter_6 rfl (lo_at hl 0 rfl) ?_
    refine pg_get C hE hM hm_a hc_a rfl in_Veh 2 (Nat.le_of_ble_eq_true rfl) tw_478 rfl rfl d_Veh_placeAfter_7 ?_
    obtain ⟨_, _, hc_mv⟩ := hL.cell
    refine cg_callV C hE hM (q_size l G hL) hL.1 hc_mv rfl tw_280 cy_AL_size ⟨(Nat.le_of_ble_eq_true rfl), (Nat.le_of_ble_eq_true rfl)⟩ rfl hl.1 rfl (Nat.le_of_ble_eq_true rfl) ⟨Nat.zero_le _, Nat.zero_le _⟩ d_Veh_placeAfter_10 (fun x9 f1 H1 locs1 hp hM => ?_)
    obtain ⟨rfl, h9⟩ := hp
    rw [h9] at hM
    clear h9
    refine W.eq (g2 := F0 m 13 ls [_, _]) rfl ?_
    refine lv_icmp_gt (tgt := 35) C.1 C.2.1 d_Veh_placeAfter_13 (by decide) (fun hc13 => ?_) (fun hc13 => ?_)
    · refine lv_aload_n C.1 C.2.1 d_Veh_placeAfter_35 rfl (lo_at hl 0 rfl) ?_
      refine pg_get C hE hM hm_a hc_a rfl in_Veh 1 (Nat.le_of_ble_eq_true rfl) tw_476 rfl rfl d_Veh_placeAfter_36 ?_
      refine cg_iret C hr hlk hM d_Veh_placeAfter_39 ?_
      refine ⟨?_, rfl⟩
      unfold plA
      rw [if_neg (fun h => h.2 hc13)]
    · have hk : ∃ k : Nat, z = nI (k + 1) ∧ k < n := by
        have h1 : 1 ≤ z.toInt := by have := Int32.le_iff_toInt_le.mp (Int32.not_lt.mp hc2); rwa [show (1 : Int32).toInt = 1 from by decide] at this
        have h2 : z.toInt ≤ n := by have := Int32.le_iff_toInt_le.mp (Int32.not_lt.mp hc13); rwa [nI_toInt (by omega)] at this
        obtain ⟨c, rfl, hc⟩ := nI_ex (x := z) (n := n + 1) (by omega) (by omega)
        rw [nI_toInt (by omega)] at h1
        exact ⟨c - 1, by rw [show c - 1 + 1 = c by omega], by omega⟩
      obtain ⟨k, rfl, hk⟩ := hk
      obtain ⟨hm_g, hc_g⟩ := hmv k hk
      refine lv_aload_n C.1 C.2.1 d_Veh_placeAfter_16 rfl (lo_at hl 0 rfl) ?_
      refine pg_get C hE hM hm_a hc_a rfl in_Veh 2 (Nat.le_of_ble_eq_true rfl) tw_478 rfl rfl d_Veh_placeAfter_17 ?_
      refine lv_iload_n C.1 C.2.1 d_Veh_placeAfter_20 rfl (lo_at hl 1 rfl) ?_
      refine lv_iconst (v := 1) C.1 C.2.1 d_Veh_placeAfter_21 (by decide) ?_
      refine lv_isub C.1 C.2.1 d_Veh_placeAfter_22 ?_
      rw [show (1 : Int32) = nI 1 from rfl, pk_sub (by omega), Nat.add_sub_cancel]
      obtain ⟨_, _, hc_mv⟩ := hL.cell
      refine cg_callV C hE hM (q_get l G hL k hk) hL.1 hc_mv rfl tw_281 cy_AL_get ⟨(Nat.le_of_ble_eq_true rfl), (Nat.le_of_ble_eq_true rfl)⟩ rfl hl.1 rfl (Nat.le_of_ble_eq_true rfl) ⟨Nat.zero_le _, Nat.zero_le _⟩ d_Veh_placeAfter_23 (fun x9 f2 H1 locs1 hp hM => ?_)
      obtain ⟨rfl, h9⟩ := hp
      rw [h9] at hM
      clear h9
      refine W.eq (g2 := F0 m 26 ls [_]) rfl ?_
      refine cg_cast C hE hM hm_g hc_g rfl tw_282 d_Veh_placeAfter_26 ?_
      refine cg_callV C hE hM (k_Mov_place l G _ _ _ hm_g hc_g) hm_g hc_g rfl tw_283 cy_Mov_place ⟨(Nat.le_of_ble_eq_true rfl), (Nat.le_of_ble_eq_true rfl)⟩ rfl hl.1 rfl (Nat.le_of_ble_eq_true rfl) ⟨Nat.zero_le _, Nat.zero_le _⟩ d_Veh_placeAfter_29 (fun x9 f3 H1 locs1 hp hM => ?_)
      obtain ⟨rfl, h9⟩ := hp
      rw [h9] at hM
      clear h9
      refine W.eq (g2 := F0 m 32 ls [_]) rfl ?_
      refine lv_goto (tgt := 39) C.1 C.2.1 d_Veh_placeAfter_32 (by decide) ?_
      refine cg_iret C hr hlk hM d_Veh_placeAfter_39 ?_
      refine ⟨?_, rfl⟩
      unfold plA
      rw [if_pos ⟨hc2, hc13⟩, nI_clamp (by omega), Nat.add_sub_cancel]
set_option maxHeartbeats 4000000 in
set_option maxRecDepth 100000 in
theorem k_Veh_take (l : Launch) (G : GG) {P : List Nat} {f : Nat → va_E} (a : Nat) (num park made alw knw grt lat fin jm : Int32) (mv : Nat) (hm_a : a ∈ P) (hc_a : f a = .inr (8, [.int num, .int park, .ref mv, .int made, .int alw, .int knw, .int grt, .int lat, .int fin, .int jm])) (cap n : Nat) (g : Nat → Nat) (hL : lsS G P f mv cap n g) (t : Nat) (k ow nu : Int32) (hm_t : t ∈ P) (hc_t : f t = .inr (5, [.int k, .int ow, .int nu]))  : ct0 l G y_Veh_take c_Veh_take 2 none 1 21 [.ref a, .ref t] P f (fun x f1 => x = none ∧ f1 = va_up f a (if k = 0 then .inr (8, [.int num, .int park, .ref mv, .int made, .int (mx alw nu), .int knw, .int grt, .int lat, .int fin, .int jm]) else .inr (8, [.int num, .int park, .ref mv, .int made, .int alw, .int (mx knw nu), .int grt, .int lat, .int fin, .int jm]))) := by
  refine ct_intro (by decide) [some (.ref a), some (.ref t)] rfl rfl (Nat.le_of_ble_eq_true rfl) ?_
  intro p e s m below meth c ls C hr hlk hnm hE hM hl
  refine lv_aload_n C.1 C.2.1 d_Veh_take_0 rfl (lo_at hl 1 rfl) ?_
  refine cg_callV C hE hM (k_Let_kind l G _ _ _ _ hm_t hc_t) hm_t hc_t rfl tw_184 cy_Let_kind ⟨(Nat.le_of_ble_eq_true rfl), (Nat.le_of_ble_eq_true rfl)⟩ rfl hl.1 rfl (Nat.le_of_ble_eq_true rfl) ⟨Nat.zero_le _, Nat.zero_le _⟩ d_Veh_take_1 (fun x9 f1 H1 locs1 hp hM => ?_)
  obtain ⟨rfl, h9⟩ := hp
  rw [h9] at hM
  clear h9
  refine W.eq (g2 := F0 m 4 ls [_]) rfl ?_
  refine lv_if_ne (tgt := 25) C.1 C.2.1 d_Veh_take_4 (by decide) (fun hc4 => ?_) (fun hc4 => ?_)
  · refine lv_aload_n C.1 C.2.1 d_Veh_take_25 rfl (lo_at hl 0 rfl) ?_
    refine lv_aload_n C.1 C.2.1 d_Veh_take_26 rfl (lo_at hl 0 rfl) ?_
    refine pg_get C hE hM hm_a hc_a rfl in_Veh 5 (Nat.le_of_ble_eq_true rfl) tw_485 rfl rfl d_Veh_take_27 ?_
    refine lv_aload_n C.1 C.2.1 d_Veh_take_30 rfl (lo_at hl 1 rfl) ?_
    refine cg_callV C hE hM (k_Let_number l G _ _ _ _ hm_t hc_t) hm_t hc_t rfl tw_185 cy_Let_number ⟨(Nat.le_of_ble_eq_true rfl), (Nat.le_of_ble_eq_true rfl)⟩ rfl hl.1 rfl (Nat.le_of_ble_eq_true rfl) ⟨Nat.zero_le _, Nat.zero_le _⟩ d_Veh_take_31 (fun x9 f2 H1 locs1 hp hM => ?_)
    obtain ⟨rfl, h9⟩ := hp
    rw [h9] at hM
    clear h9
    refine W.eq (g2 := F0 m 34 ls [_, _, _]) rfl ?_
    refine cg_callS C hE hM (k_Mth_max l G _ _) tw_186 cy_Mth_max ⟨(Nat.le_of_ble_eq_true rfl), (Nat.le_of_ble_eq_true rfl)⟩ rfl hl.1 rfl (Nat.le_of_ble_eq_true rfl) ⟨Nat.zero_le _, Nat.zero_le _⟩ d_Veh_take_34 (fun x9 f3 H1 locs1 hp hM => ?_)
    obtain ⟨rfl, h9⟩ := hp
    rw [h9] at hM
    clear h9
    refine W.eq (g2 := F0 m 37 ls [_, _]) rfl ?_
    refine cg_put C hE hM hm_a hc_a rfl in_Veh ok_Veh n_Veh 5 (Nat.le_of_ble_eq_true rfl) tw_485 rfl rfl rfl rfl rfl (Nat.le_of_ble_eq_true rfl) d_Veh_take_37 (fun f4 H1 locs1 hf4 hM => ?_)
    have hL := hL.wr hf4 hc_a (by decide)
    have hc_t := ((congrFun hf4 t).trans (va_up_ne _ _ (ob_ne hc_t hc_a (by decide)))).trans hc_t
    have hc_a := (congrFun hf4 a).trans (va_up_self _ _ _)
    refine cg_vret C hr hlk hM d_Veh_take_40 ?_
    refine ⟨rfl, ?_⟩
    rw [if_neg hc4, hf4]; rfl
  · refine lv_aload_n C.1 C.2.1 d_Veh_take_7 rfl (lo_at hl 0 rfl) ?_
    refine lv_aload_n C.1 C.2.1 d_Veh_take_8 rfl (lo_at hl 0 rfl) ?_
    refine pg_get C hE hM hm_a hc_a rfl in_Veh 4 (Nat.le_of_ble_eq_true rfl) tw_483 rfl rfl d_Veh_take_9 ?_
    refine lv_aload_n C.1 C.2.1 d_Veh_take_12 rfl (lo_at hl 1 rfl) ?_
    refine cg_callV C hE hM (k_Let_number l G _ _ _ _ hm_t hc_t) hm_t hc_t rfl tw_185 cy_Let_number ⟨(Nat.le_of_ble_eq_true rfl), (Nat.le_of_ble_eq_true rfl)⟩ rfl hl.1 rfl (Nat.le_of_ble_eq_true rfl) ⟨Nat.zero_le _, Nat.zero_le _⟩ d_Veh_take_13 (fun x9 f2 H1 locs1 hp hM => ?_)
    obtain ⟨rfl, h9⟩ := hp
    rw [h9] at hM
    clear h9
    refine W.eq (g2 := F0 m 16 ls [_, _, _]) rfl ?_
    refine cg_callS C hE hM (k_Mth_max l G _ _) tw_186 cy_Mth_max ⟨(Nat.le_of_ble_eq_true rfl), (Nat.le_of_ble_eq_true rfl)⟩ rfl hl.1 rfl (Nat.le_of_ble_eq_true rfl) ⟨Nat.zero_le _, Nat.zero_le _⟩ d_Veh_take_16 (fun x9 f3 H1 locs1 hp hM => ?_)
    obtain ⟨rfl, h9⟩ := hp
    rw [h9] at hM
    clear h9
    refine W.eq (g2 := F0 m 19 ls [_, _]) rfl ?_
    refine cg_put C hE hM hm_a hc_a rfl in_Veh ok_Veh n_Veh 4 (Nat.le_of_ble_eq_true rfl) tw_483 rfl rfl rfl rfl rfl (Nat.le_of_ble_eq_true rfl) d_Veh_take_19 (fun f4 H1 locs1 hf4 hM => ?_)
    have hL := hL.wr hf4 hc_a (by decide)
    have hc_t := ((congrFun hf4 t).trans (va_up_ne _ _ (ob_ne hc_t hc_a (by decide)))).trans hc_t
    have hc_a := (congrFun hf4 a).trans (va_up_self _ _ _)
    refine lv_goto (tgt := 40) C.1 C.2.1 d_Veh_take_22 (by decide) ?_
    refine cg_vret C hr hlk hM d_Veh_take_40 ?_
    refine ⟨rfl, ?_⟩
    rw [if_pos hc4, hf4]; rfl
