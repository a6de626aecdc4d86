/-! lists: add, remove -/
set_option maxHeartbeats 4000000 in
set_option maxRecDepth 100000 in
theorem k_AL_add0 (l : Launch) (G : GG) {P : List Nat} {f : Nat → va_E} (b d : Nat) (m0 : Int32) (n : Nat) (hm_b : b ∈ P) (hc_b : f b = .inr (3, [.ref d, .int (nI n), .int m0])) (cap : Nat) (h : Nat → Option Nat) (hm_d : d ∈ P) (hc_d : f d = arR G 5 cap h) (hcap : cap < 100000) (hnc : n < cap) (y : Nat) (hy : oOk P f y)  : ct l G y_AL_add c_AL_add 2 (some .boolean) 6 150 (1) (0) [.ref b, .ref y] P f (fun x N f1 => N = [] ∧ x = some (.int 1) ∧ f1 = va_up (va_up f d (arR G 5 cap (va_up h n (some y)))) b (.inr (3, [.ref d, .int (nI (n + 1)), .int (m0 + 1)]))) := by
  refine ct_intro (by decide) [some (.ref b), some (.ref y)] rfl rfl (Nat.le_of_ble_eq_true rfl) ?_
  intro p e s m below meth c ls C hr hlk hnm hE hM hl
  have hb0 := hc_b
  have hb1 := hm_b
  have hd0 := hc_d
  have hPN : P = P ++ [] := (List.append_nil P).symm
  refine lv_aload_n C.1 C.2.1 d_AL_add_0 rfl (lo_at hl 0 rfl) ?_
  refine lv_dup C.1 C.2.1 d_AL_add_1 rfl ?_
  refine cg_getM C hE hM hm_b hc_b rfl rfl d_AL_add_2 ?_
  refine lv_iconst (v := 1) C.1 C.2.1 d_AL_add_5 (by decide) ?_
  refine lv_iadd C.1 C.2.1 d_AL_add_6 ?_
  refine cg_putM C hE hM hm_b hc_b rfl rfl (Nat.le_of_ble_eq_true rfl) d_AL_add_7 (fun f11 H1 locs1 hf11 hM => ?_)
  have hc_d := ((congrFun hf11 d).trans (va_up_ne _ _ (ar_ne hc_d hc_b))).trans hc_d
  have hc_b := (congrFun hf11 b).trans (va_up_self _ _ _)
  have hy1 : oOk P f11 y := hy.mv (by rw [hf11, va_up_ne _ _ (hy.ne hb0)]) hy.1
  have hyb := hy.ne hb0
  refine lv_aload_n C.1 C.2.1 d_AL_add_10 rfl (lo_at hl 0 rfl) ?_
  refine lv_aload_n C.1 C.2.1 d_AL_add_11 rfl (lo_at hl 1 rfl) ?_
  refine lv_aload_n C.1 C.2.1 d_AL_add_12 rfl (lo_at hl 0 rfl) ?_
  refine pg_get C hE hM hm_b hc_b rfl in_AL 0 (Nat.le_of_ble_eq_true rfl) tw_65 rfl rfl d_AL_add_13 ?_
  refine lv_aload_n C.1 C.2.1 d_AL_add_16 rfl (lo_at hl 0 rfl) ?_
  refine pg_get C hE hM hm_b hc_b rfl in_AL 1 (Nat.le_of_ble_eq_true rfl) tw_66 rfl rfl d_AL_add_17 ?_
  refine cg_callVA C hE hM (k_AL_addA0 l G b d (m0 + 1) n hm_b hc_b cap h hm_d hc_d hcap hnc y hy1 hyb) hm_b hc_b rfl tw_220 cy_AL_addA ⟨(Nat.le_of_ble_eq_true rfl), (Nat.le_of_ble_eq_true rfl)⟩ rfl hl.1 rfl (Nat.le_of_ble_eq_true rfl) ⟨by show _ ≤ 1; omega, by show _ ≤ 0; omega⟩ d_AL_add_20 (fun x9 N1 P1 f12 H1 locs1 hP1 hp hM => ?_)
  obtain ⟨hN9, hx9, hf9⟩ := hp
  subst hx9
  have hm_b := (show b ∈ P1 by rw [hP1]; exact List.mem_append_left _ hm_b)
  have hm_d := (show d ∈ P1 by rw [hP1]; exact List.mem_append_left _ hm_d)
  have hPN := hPN_app hPN hP1
  refine W.eq (g2 := F0 m 23 ls []) rfl ?_
  refine W.widen (k := 1) (n := 0) (by omega) (by omega) ?_
  refine lv_iconst (v := 1) C.1 C.2.1 d_AL_add_23 (by decide) ?_
  refine pg_zret C hr hlk hM hPN (by omega) (by omega) d_AL_add_24 (by decide) ?_
  refine ⟨by rw [hN9]; rfl, rfl, ?_⟩
  rw [hf9, hf11, va_up_up_ne _ _ _ (ar_ne hd0 hb0).symm, bx_uu]
set_option maxHeartbeats 4000000 in
set_option maxRecDepth 100000 in
theorem k_AL_addG (l : Launch) (G : GG) {P : List Nat} {f : Nat → va_E} (b d : Nat) (m0 : Int32) (n : Nat) (hm_b : b ∈ P) (hc_b : f b = .inr (3, [.ref d, .int (nI n), .int m0])) (cap : Nat) (h : Nat → Option Nat) (hm_d : d ∈ P) (hc_d : f d = arR G 5 cap h) (hcap : cap < 100000) (hcp : 0 < cap) (hcq : cap < 60000) (hn : n = cap) (hel : ∀ i, i < cap → ∀ y, h i = some y → oOk P f y) (y : Nat) (hy : oOk P f y)  : ct l G y_AL_add c_AL_add 2 (some .boolean) 6 150 (1) (ncap cap) [.ref b, .ref y] P f (fun x N f1 => ∃ q, N = [q] ∧ x = some (.int 1) ∧ q ∉ P ∧ ∃ h', f1 = va_up (va_up f q (arR G 5 (ncap cap) (va_up h' n (some y)))) b (.inr (3, [.ref q, .int (nI (n + 1)), .int (m0 + 1)])) ∧ ∀ i, i < cap → h' i = h i) := by
  refine ct_intro (by decide) [some (.ref b), some (.ref y)] rfl rfl (Nat.le_of_ble_eq_true rfl) ?_
  intro p e s m below meth c ls C hr hlk hnm hE hM hl
  have hb0 := hc_b
  have hb1 := hm_b
  have hPN : P = P ++ [] := (List.append_nil P).symm
  refine lv_aload_n C.1 C.2.1 d_AL_add_0 rfl (lo_at hl 0 rfl) ?_
  refine lv_dup C.1 C.2.1 d_AL_add_1 rfl ?_
  refine cg_getM C hE hM hm_b hc_b rfl rfl d_AL_add_2 ?_
  refine lv_iconst (v := 1) C.1 C.2.1 d_AL_add_5 (by decide) ?_
  refine lv_iadd C.1 C.2.1 d_AL_add_6 ?_
  refine cg_putM C hE hM hm_b hc_b rfl rfl (Nat.le_of_ble_eq_true rfl) d_AL_add_7 (fun f11 H1 locs1 hf11 hM => ?_)
  have hc_d := ((congrFun hf11 d).trans (va_up_ne _ _ (ar_ne hc_d hc_b))).trans hc_d
  have hc_b := (congrFun hf11 b).trans (va_up_self _ _ _)
  have hy1 : oOk P f11 y := hy.mv (by rw [hf11, va_up_ne _ _ (hy.ne hb0)]) hy.1
  have hyb := hy.ne hb0
  have hel1 : ∀ i, i < cap → ∀ z, h i = some z → oOk P f11 z := fun i hi z hz => (hel i hi z hz).mv (by rw [hf11, va_up_ne _ _ ((hel i hi z hz).ne hb0)]) (hel i hi z hz).1
  refine lv_aload_n C.1 C.2.1 d_AL_add_10 rfl (lo_at hl 0 rfl) ?_
  refine lv_aload_n C.1 C.2.1 d_AL_add_11 rfl (lo_at hl 1 rfl) ?_
  refine lv_aload_n C.1 C.2.1 d_AL_add_12 rfl (lo_at hl 0 rfl) ?_
  refine pg_get C hE hM hm_b hc_b rfl in_AL 0 (Nat.le_of_ble_eq_true rfl) tw_65 rfl rfl d_AL_add_13 ?_
  refine lv_aload_n C.1 C.2.1 d_AL_add_16 rfl (lo_at hl 0 rfl) ?_
  refine pg_get C hE hM hm_b hc_b rfl in_AL 1 (Nat.le_of_ble_eq_true rfl) tw_66 rfl rfl d_AL_add_17 ?_
  refine cg_callVA C hE hM (k_AL_addA1 l G b d (m0 + 1) n hm_b hc_b cap h hm_d hc_d hcap hcp hcq hn hel1 y hy1 hyb) hm_b hc_b rfl tw_220 cy_AL_addA ⟨(Nat.le_of_ble_eq_true rfl), (Nat.le_of_ble_eq_true rfl)⟩ rfl hl.1 rfl (Nat.le_of_ble_eq_true rfl) ⟨by show _ ≤ 1; omega, by show _ ≤ ncap cap; omega⟩ d_AL_add_20 (fun x9 N1 P1 f12 H1 locs1 hP1 hp hM => ?_)
  obtain ⟨q, hN9, hx9, hq, h9, hf9, hh9⟩ := hp
  subst hx9
  have hm_b := (show b ∈ P1 by rw [hP1]; exact List.mem_append_left _ hm_b)
  have hm_d := (show d ∈ P1 by rw [hP1]; exact List.mem_append_left _ hm_d)
  have hPN := hPN_app hPN hP1
  refine W.eq (g2 := F0 m 23 ls []) rfl ?_
  refine W.widen (k := 1) (n := ncap cap) (by omega) (by omega) ?_
  refine lv_iconst (v := 1) C.1 C.2.1 d_AL_add_23 (by decide) ?_
  refine pg_zret C hr hlk hM hPN (by omega) (by omega) d_AL_add_24 (by decide) ?_
  refine ⟨q, by rw [hN9]; rfl, rfl, hq, h9, ?_, hh9⟩
  rw [hf9, hf11, va_up_up_ne _ _ _ (fun z : b = q => hq (z ▸ hb1)), bx_uu]
set_option maxHeartbeats 4000000 in
set_option maxRecDepth 100000 in
theorem k_AL_addB (l : Launch) (G : GG) {P : List Nat} {f : Nat → va_E} (b : Nat) (m0 : Int32) (hm_b : b ∈ P) (hc_b : f b = .inr (3, [.ref G.2.2, .int (nI 0), .int m0])) (y : Nat) (hy : oOk P f y)  : ct l G y_AL_add c_AL_add 2 (some .boolean) 6 150 (1) (10) [.ref b, .ref y] P f (fun x N f1 => ∃ q, N = [q] ∧ x = some (.int 1) ∧ q ∉ P ∧ f1 = va_up (va_up f q (arR G 5 10 (va_up (fun _ => none) 0 (some y)))) b (.inr (3, [.ref q, .int (nI 1), .int (m0 + 1)]))) := by
  refine ct_intro (by decide) [some (.ref b), some (.ref y)] rfl rfl (Nat.le_of_ble_eq_true rfl) ?_
  intro p e s m below meth c ls C hr hlk hnm hE hM hl
  have hb0 := hc_b
  have hb1 := hm_b
  have hPN : P = P ++ [] := (List.append_nil P).symm
  refine lv_aload_n C.1 C.2.1 d_AL_add_0 rfl (lo_at hl 0 rfl) ?_
  refine lv_dup C.1 C.2.1 d_AL_add_1 rfl ?_
  refine cg_getM C hE hM hm_b hc_b rfl rfl d_AL_add_2 ?_
  refine lv_iconst (v := 1) C.1 C.2.1 d_AL_add_5 (by decide) ?_
  refine lv_iadd C.1 C.2.1 d_AL_add_6 ?_
  refine cg_putM C hE hM hm_b hc_b rfl rfl (Nat.le_of_ble_eq_true rfl) d_AL_add_7 (fun f11 H1 locs1 hf11 hM => ?_)
  have hc_b := (congrFun hf11 b).trans (va_up_self _ _ _)
  have hy1 : oOk P f11 y := hy.mv (by rw [hf11, va_up_ne _ _ (hy.ne hb0)]) hy.1
  have hyb := hy.ne hb0
  refine lv_aload_n C.1 C.2.1 d_AL_add_10 rfl (lo_at hl 0 rfl) ?_
  refine lv_aload_n C.1 C.2.1 d_AL_add_11 rfl (lo_at hl 1 rfl) ?_
  refine lv_aload_n C.1 C.2.1 d_AL_add_12 rfl (lo_at hl 0 rfl) ?_
  refine pg_get C hE hM hm_b hc_b rfl in_AL 0 (Nat.le_of_ble_eq_true rfl) tw_65 rfl rfl d_AL_add_13 ?_
  refine lv_aload_n C.1 C.2.1 d_AL_add_16 rfl (lo_at hl 0 rfl) ?_
  refine pg_get C hE hM hm_b hc_b rfl in_AL 1 (Nat.le_of_ble_eq_true rfl) tw_66 rfl rfl d_AL_add_17 ?_
  refine cg_callVA C hE hM (k_AL_addAB l G b (m0 + 1) hm_b hc_b y hy1 hyb) hm_b hc_b rfl tw_220 cy_AL_addA ⟨(Nat.le_of_ble_eq_true rfl), (Nat.le_of_ble_eq_true rfl)⟩ rfl hl.1 rfl (Nat.le_of_ble_eq_true rfl) ⟨by show _ ≤ 1; omega, by show _ ≤ 10; omega⟩ d_AL_add_20 (fun x9 N1 P1 f12 H1 locs1 hP1 hp hM => ?_)
  obtain ⟨q, hN9, hx9, hq, hf9⟩ := hp
  subst hx9
  have hm_b := (show b ∈ P1 by rw [hP1]; exact List.mem_append_left _ hm_b)
  have hPN := hPN_app hPN hP1
  refine W.eq (g2 := F0 m 23 ls []) rfl ?_
  refine W.widen (k := 1) (n := 10) (by omega) (by omega) ?_
  refine lv_iconst (v := 1) C.1 C.2.1 d_AL_add_23 (by decide) ?_
  refine pg_zret C hr hlk hM hPN (by omega) (by omega) d_AL_add_24 (by decide) ?_
  refine ⟨q, by rw [hN9]; rfl, rfl, hq, ?_⟩
  rw [hf9, hf11, va_up_up_ne _ _ _ (fun z : b = q => hq (z ▸ hb1)), bx_uu]
set_option maxHeartbeats 4000000 in
set_option maxRecDepth 100000 in
theorem k_AL_fastRemove (l : Launch) (G : GG) {P : List Nat} {f : Nat → va_E} (b d : Nat) (m0 : Int32) (n : Nat) (hm_b : b ∈ P) (hc_b : f b = .inr (3, [.ref d, .int (nI n), .int m0])) (cap : Nat) (h : Nat → Option Nat) (hm_d : d ∈ P) (hc_d : f d = arR G 5 cap h) (hcap : cap < 100000) (i : Nat) (hi : i < n) (hnc : n ≤ cap) (hel : ∀ j, j < n → ∀ y, h j = some y → oOk P f y)  : ct0 l G y_AL_fastRemove c_AL_fastRemove 4 none 1 40 [.ref b, .ref d, .int (nI i)] P f (fun x f1 => x = none ∧ ∃ h', f1 = va_up (va_up f d (arR G 5 cap h')) b (.inr (3, [.ref d, .int (nI (n - 1)), .int (m0 + 1)])) ∧ ∀ j, j < n - 1 → h' j = (if j < i then h j else h (j + 1))) := by
  refine ct_intro (by decide) [some (.ref b), some (.ref d), some (.int (nI i)), none] rfl rfl (Nat.le_of_ble_eq_true rfl) ?_
  intro p e s m below meth c ls C hr hlk hnm hE hM hl
  have hb0 := hc_b
  have hb1 := hm_b
  have hbd : b ≠ d := (ar_ne hc_d hc_b).symm
  refine lv_aload_n C.1 C.2.1 d_AL_fastRemove_0 rfl (lo_at hl 0 rfl) ?_
  refine lv_dup C.1 C.2.1 d_AL_fastRemove_1 rfl ?_
  refine cg_getM C hE hM hm_b hc_b rfl rfl d_AL_fastRemove_2 ?_
  refine lv_iconst (v := 1) C.1 C.2.1 d_AL_fastRemove_5 (by decide) ?_
  refine lv_iadd C.1 C.2.1 d_AL_fastRemove_6 ?_
  refine cg_putM C hE hM hm_b hc_b rfl rfl (Nat.le_of_ble_eq_true rfl) d_AL_fastRemove_7 (fun f11 H1 locs1 hf11 hM => ?_)
  have hc_d := ((congrFun hf11 d).trans (va_up_ne _ _ (ar_ne hc_d hc_b))).trans hc_d
  have hc_b := (congrFun hf11 b).trans (va_up_self _ _ _)
  have hel1 : ∀ j, j < n → ∀ z, h j = some z → oOk P f11 z := fun j hj z hz => (hel j hj z hz).mv (by rw [hf11, va_up_ne _ _ ((hel j hj z hz).ne hb0)]) (hel j hj z hz).1
  refine lv_aload_n C.1 C.2.1 d_AL_fastRemove_10 rfl (lo_at hl 0 rfl) ?_
  refine pg_get C hE hM hm_b hc_b rfl in_AL 1 (Nat.le_of_ble_eq_true rfl) tw_66 rfl rfl d_AL_fastRemove_11 ?_
  refine lv_iconst (v := 1) C.1 C.2.1 d_AL_fastRemove_14 (by decide) ?_
  refine lv_isub C.1 C.2.1 d_AL_fastRemove_15 ?_
  rw [show (1 : Int32) = nI 1 from rfl, pk_sub (by omega)]
  refine lv_dup C.1 C.2.1 d_AL_fastRemove_16 rfl ?_
  refine lo_istore_n C hl d_AL_fastRemove_17 (Nat.le_of_ble_eq_true rfl) rfl (fun ls hl => ?_)
  refine lv_iload_n C.1 C.2.1 d_AL_fastRemove_18 rfl (lo_at hl 2 rfl) ?_
  refine lv_icmp_le (tgt := 34) C.1 C.2.1 d_AL_fastRemove_19 (by decide) (fun hc19 => ?_) (fun hc19 => ?_)
  · refine lv_aload_n C.1 C.2.1 d_AL_fastRemove_34 rfl (lo_at hl 1 rfl) ?_
    refine lv_aload_n C.1 C.2.1 d_AL_fastRemove_35 rfl (lo_at hl 0 rfl) ?_
    refine lv_iload_n C.1 C.2.1 d_AL_fastRemove_36 rfl (lo_at hl 3 rfl) ?_
    refine lv_dup_x1 C.1 C.2.1 d_AL_fastRemove_37 rfl rfl ?_
    refine cg_put C hE hM hm_b hc_b rfl in_AL ok_AL n_AL 1 (Nat.le_of_ble_eq_true rfl) tw_66 rfl rfl rfl rfl rfl (Nat.le_of_ble_eq_true rfl) d_AL_fastRemove_38 (fun f12 H1 locs1 hf12 hM => ?_)
    have hc_d := ((congrFun hf12 d).trans (va_up_ne _ _ (ar_ne hc_d hc_b))).trans hc_d
    have hc_b := (congrFun hf12 b).trans (va_up_self _ _ _)
    refine lv_null C.1 C.2.1 d_AL_fastRemove_41 ?_
    refine cg_aastN C hE hM hm_d hc_d rfl (n - 1) rfl (by omega) (by omega) d_AL_fastRemove_42 (fun f13 H1 locs1 hf13 hM => ?_)
    have hc_b := ((congrFun hf13 b).trans (va_up_ne _ _ ((ar_ne hc_d hc_b).symm))).trans hc_b
    have hc_d := (congrFun hf13 d).trans (va_up_self _ _ _)
    refine cg_vret C hr hlk hM d_AL_fastRemove_43 ?_
    have hge : n - 1 ≤ i := nI_leN (by omega) (by omega) hc19
    refine ⟨rfl, va_up h (n - 1) none, ?_, fun j hj => ?_⟩
    · rw [hf13, hf12, hf11, bx_uu, va_up_up_ne _ _ _ hbd]; rfl
    · rw [va_up_ne _ _ (by omega), if_pos (by omega)]
  · have hgt : i < n - 1 := nI_ltN (by omega) (by omega) hc19
    refine lv_aload_n C.1 C.2.1 d_AL_fastRemove_22 rfl (lo_at hl 1 rfl) ?_
    refine lv_iload_n C.1 C.2.1 d_AL_fastRemove_23 rfl (lo_at hl 2 rfl) ?_
    refine lv_iconst (v := 1) C.1 C.2.1 d_AL_fastRemove_24 (by decide) ?_
    refine lv_iadd C.1 C.2.1 d_AL_fastRemove_25 ?_
    refine lv_aload_n C.1 C.2.1 d_AL_fastRemove_26 rfl (lo_at hl 1 rfl) ?_
    refine lv_iload_n C.1 C.2.1 d_AL_fastRemove_27 rfl (lo_at hl 2 rfl) ?_
    refine lv_iload_n C.1 C.2.1 d_AL_fastRemove_28 rfl (lo_at hl 3 rfl) ?_
    refine lv_iload_n C.1 C.2.1 d_AL_fastRemove_29 rfl (lo_at hl 2 rfl) ?_
    refine lv_isub C.1 C.2.1 d_AL_fastRemove_30 ?_
    rw [show (1 : Int32) = nI 1 from rfl, nI_add, pk_sub (by omega)]
    refine cg_copy C hE hM hm_d hc_d hm_d hc_d (i + 1) i (n - 1 - i) rfl rfl rfl (by omega) (by omega) ⟨hcap, hcap⟩ (fun j hj z hz => hel1 _ (by omega) z hz) tw_201 hl.1 (Nat.le_of_ble_eq_true rfl) (Nat.le_of_ble_eq_true rfl) (Nat.le_of_ble_eq_true rfl) d_AL_fastRemove_31 (fun f12 H1 locs1 hf12 hM => ?_)
    have hc_b := ((congrFun hf12 b).trans (va_up_ne _ _ ((ar_ne hc_d hc_b).symm))).trans hc_b
    have hc_d := (congrFun hf12 d).trans (va_up_self _ _ _)
    refine lv_aload_n C.1 C.2.1 d_AL_fastRemove_34 rfl (lo_at hl 1 rfl) ?_
    refine lv_aload_n C.1 C.2.1 d_AL_fastRemove_35 rfl (lo_at hl 0 rfl) ?_
    refine lv_iload_n C.1 C.2.1 d_AL_fastRemove_36 rfl (lo_at hl 3 rfl) ?_
    refine lv_dup_x1 C.1 C.2.1 d_AL_fastRemove_37 rfl rfl ?_
    refine cg_put C hE hM hm_b hc_b rfl in_AL ok_AL n_AL 1 (Nat.le_of_ble_eq_true rfl) tw_66 rfl rfl rfl rfl rfl (Nat.le_of_ble_eq_true rfl) d_AL_fastRemove_38 (fun f13 H1 locs1 hf13 hM => ?_)
    have hc_d := ((congrFun hf13 d).trans (va_up_ne _ _ (ar_ne hc_d hc_b))).trans hc_d
    have hc_b := (congrFun hf13 b).trans (va_up_self _ _ _)
    refine lv_null C.1 C.2.1 d_AL_fastRemove_41 ?_
    refine cg_aastN C hE hM hm_d hc_d rfl (n - 1) rfl (by omega) (by omega) d_AL_fastRemove_42 (fun f14 H1 locs1 hf14 hM => ?_)
    have hc_b := ((congrFun hf14 b).trans (va_up_ne _ _ ((ar_ne hc_d hc_b).symm))).trans hc_b
    have hc_d := (congrFun hf14 d).trans (va_up_self _ _ _)
    refine cg_vret C hr hlk hM d_AL_fastRemove_43 ?_
    refine ⟨rfl, va_up (va_cpy h h (i + 1) i (n - 1 - i)) (n - 1) none, ?_, fun j hj => ?_⟩
    · rw [hf14, hf13, hf12, hf11, va_up_up_ne _ _ _ hbd, bx_uu, va_up_up_ne _ _ _ hbd, bx_uu]; rfl
    · rw [va_up_ne _ _ (by omega)]
      by_cases e : j < i
      · rw [pk_cpy_out (Or.inl e), if_pos e]
      · rw [pk_cpy_in (by omega) (by omega), if_neg e, show i + 1 + (j - i) = j + 1 by omega]
set_option maxHeartbeats 4000000 in
set_option maxRecDepth 100000 in
theorem k_AL_remove (l : Launch) (G : GG) {P : List Nat} {f : Nat → va_E} (b d : Nat) (m0 : Int32) (n : Nat) (hm_b : b ∈ P) (hc_b : f b = .inr (3, [.ref d, .int (nI n), .int m0])) (cap : Nat) (h : Nat → Option Nat) (hm_d : d ∈ P) (hc_d : f d = arR G 5 cap h) (hcap : cap < 100000) (i y : Nat) (hi : i < n) (hnc : n ≤ cap) (hy : h i = some y) (hel : ∀ j, j < n → ∀ y, h j = some y → oOk P f y)  : ct0 l G y_AL_remove c_AL_remove 4 (some (.object "java/lang/Object")) 2 63 [.ref b, .int (nI i)] P f (fun x f1 => x = some (.ref y) ∧ ∃ h', f1 = va_up (va_up f d (arR G 5 cap h')) b (.inr (3, [.ref d, .int (nI (n - 1)), .int (m0 + 1)])) ∧ ∀ j, j < n - 1 → h' j = (if j < i then h j else h (j + 1))) := by
  refine ct_intro (by decide) [some (.ref b), some (.int (nI i)), none, none] rfl rfl (Nat.le_of_ble_eq_true rfl) ?_
  intro p e s m below meth c ls C hr hlk hnm hE hM hl
  refine lv_iload_n C.1 C.2.1 d_AL_remove_0 rfl (lo_at hl 1 rfl) ?_
  refine lv_aload_n C.1 C.2.1 d_AL_remove_1 rfl (lo_at hl 0 rfl) ?_
  refine pg_get C hE hM hm_b hc_b rfl in_AL 1 (Nat.le_of_ble_eq_true rfl) tw_66 rfl rfl d_AL_remove_2 ?_
  refine cg_callS C hE hM (k_Obs_checkIndex l G i n hi (by omega)) tw_149 cy_Obs_checkIndex ⟨(Nat.le_of_ble_eq_true rfl), (Nat.le_of_ble_eq_true rfl)⟩ rfl hl.1 rfl (Nat.le_of_ble_eq_true rfl) ⟨Nat.zero_le _, Nat.zero_le _⟩ d_AL_remove_5 (fun x9 f11 H1 locs1 hp hM => ?_)
  obtain ⟨rfl, h9⟩ := hp
  rw [h9] at hM
  clear h9
  refine W.eq (g2 := F0 m 8 ls [_]) rfl ?_
  refine lv_pop C.1 C.2.1 d_AL_remove_8 rfl ?_
  refine lv_aload_n C.1 C.2.1 d_AL_remove_9 rfl (lo_at hl 0 rfl) ?_
  refine pg_get C hE hM hm_b hc_b rfl in_AL 0 (Nat.le_of_ble_eq_true rfl) tw_65 rfl rfl d_AL_remove_10 ?_
  refine lo_astore_n C hl d_AL_remove_13 (Nat.le_of_ble_eq_true rfl) rfl (fun ls hl => ?_)
  refine lv_aload_n C.1 C.2.1 d_AL_remove_14 rfl (lo_at hl 2 rfl) ?_
  refine lv_iload_n C.1 C.2.1 d_AL_remove_15 rfl (lo_at hl 1 rfl) ?_
  refine cg_aald C hE hM hm_d hc_d rfl i rfl (by omega) (by omega) hy d_AL_remove_16 ?_
  refine lo_astore_n C hl d_AL_remove_17 (Nat.le_of_ble_eq_true rfl) rfl (fun ls hl => ?_)
  refine lv_aload_n C.1 C.2.1 d_AL_remove_18 rfl (lo_at hl 0 rfl) ?_
  refine lv_aload_n C.1 C.2.1 d_AL_remove_19 rfl (lo_at hl 2 rfl) ?_
  refine lv_iload_n C.1 C.2.1 d_AL_remove_20 rfl (lo_at hl 1 rfl) ?_
  refine cg_callV C hE hM (k_AL_fastRemove l G b d m0 n hm_b hc_b cap h hm_d hc_d hcap i hi hnc hel) hm_b hc_b rfl tw_197 cy_AL_fastRemove ⟨(Nat.le_of_ble_eq_true rfl), (Nat.le_of_ble_eq_true rfl)⟩ rfl hl.1 rfl (Nat.le_of_ble_eq_true rfl) ⟨Nat.zero_le _, Nat.zero_le _⟩ d_AL_remove_21 (fun x9 f12 H1 locs1 hp hM => ?_)
  obtain ⟨hx9, hf9⟩ := hp
  subst hx9
  refine W.eq (g2 := F0 m 24 ls []) rfl ?_
  refine lv_aload_n C.1 C.2.1 d_AL_remove_24 rfl (lo_at hl 3 rfl) ?_
  refine cg_aret C hr (Or.inl ⟨_, rfl⟩) hlk (Or.inr ⟨_, rfl⟩) hM d_AL_remove_25 ?_
  exact ⟨rfl, hf9⟩
