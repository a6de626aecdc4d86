/-! lists that grow -/
def ncap (cap : Nat) : Nat := if cap = 0 then 10 else cap + max 1 (cap / 2)
theorem nI_eqN {a b : Nat} (ha : a < 2147483648) (hb : b < 2147483648) (h : nI a = nI b) : a = b := by
  have := congrArg Int32.toInt h
  rw [nI_toInt ha, nI_toInt hb] at this
  omega
theorem nI_half {n : Nat} (h : n < 100000) : nI n >>> ((1 : Int32) &&& 31) = nI (n / 2) := by
  rw [pk_shrN (n := n) (by omega) ((1 : Int32) &&& 31) 1 (by decide)]
set_option maxHeartbeats 4000000 in
set_option maxRecDepth 100000 in
theorem k_AL_growIA (l : Launch) (G : GG) {P : List Nat} {f : Nat → va_E} (b d : Nat) (m0 : Int32) (n : Nat) (hm_b : b ∈ P) (hc_b : f b = .inr (3, [.ref d, .int (nI n), .int m0])) (cap : Nat) (h : Nat → Option Nat) (hm_d : d ∈ P) (hc_d : f d = arR G 5 cap h) (hcap : cap < 100000) (hcp : 0 < cap) (hcq : cap < 60000) (hel : ∀ i, i < cap → ∀ y, h i = some y → oOk P f y)  : ct l G y_AL_growI c_AL_growI 4 (some (.array (.object "java/lang/Object"))) 3 84 (1) (ncap cap) [.ref b, .int (nI (cap + 1))] P f (fun x N f1 => ∃ q, N = [q] ∧ x = some (.ref q) ∧ q ∉ P ∧ ∃ h', f1 = va_up (va_up f q (arR G 5 (ncap cap) h')) b (.inr (3, [.ref q, .int (nI n), .int m0])) ∧ ∀ i, i < cap → h' i = h i) := by
  refine ct_intro (by decide) [some (.ref b), some (.int (nI (cap + 1))), none, none] rfl rfl (Nat.le_of_ble_eq_true rfl) ?_
  intro p e s m below meth c ls C hr hlk hnm hE hM hl
  have hd0 := hm_d
  have hnc : ncap cap = cap + max 1 (cap / 2) := if_neg (by omega)
  have hPN : P = P ++ [] := (List.append_nil P).symm
  refine lv_aload_n C.1 C.2.1 d_AL_growI_0 rfl (lo_at hl 0 rfl) ?_
  refine pg_get C hE hM hm_b hc_b rfl in_AL 0 (Nat.le_of_ble_eq_true rfl) tw_65 rfl rfl d_AL_growI_1 ?_
  refine pg_alen C hE hM hm_d (t0 := 5) (Nat.le_of_ble_eq_true rfl) hc_d d_AL_growI_4 ?_
  refine lo_istore_n C hl d_AL_growI_5 (Nat.le_of_ble_eq_true rfl) rfl (fun ls hl => ?_)
  refine lv_iload_n C.1 C.2.1 d_AL_growI_6 rfl (lo_at hl 2 rfl) ?_
  refine lv_if_gt (tgt := 20) C.1 C.2.1 d_AL_growI_7 (by decide) (fun hc7 => ?_) (fun hc7 => False.elim (hc7 (by rw [show (0 : Int32) = nI 0 from rfl]; exact (nI_ltI (by omega) (by omega)).mpr hcp)))
  refine lv_iload_n C.1 C.2.1 d_AL_growI_20 rfl (lo_at hl 2 rfl) ?_
  refine lv_iload_n C.1 C.2.1 d_AL_growI_21 rfl (lo_at hl 1 rfl) ?_
  refine lv_iload_n C.1 C.2.1 d_AL_growI_22 rfl (lo_at hl 2 rfl) ?_
  refine lv_isub C.1 C.2.1 d_AL_growI_23 ?_
  rw [pk_sub (by omega), show cap + 1 - cap = 1 by omega]
  refine lv_iload_n C.1 C.2.1 d_AL_growI_24 rfl (lo_at hl 2 rfl) ?_
  refine lv_iconst (v := 1) C.1 C.2.1 d_AL_growI_25 (by decide) ?_
  refine lv_ishr C.1 C.2.1 d_AL_growI_26 ?_
  rw [nI_half hcap]
  refine cg_callS C hE hM (k_ASu_newLength l G cap 1 (cap / 2) hcap (by omega) (by omega) hcp) tw_232 cy_ASu_newLength ⟨(Nat.le_of_ble_eq_true rfl), (Nat.le_of_ble_eq_true rfl)⟩ rfl hl.1 rfl (Nat.le_of_ble_eq_true rfl) ⟨by (try show _ ≤ 1); omega, by (try show _ ≤ ncap cap); omega⟩ d_AL_growI_27 (fun x9 f1 H1 locs1 hp hM => ?_)
  obtain ⟨rfl, h9⟩ := hp
  rw [h9] at hM
  clear h9
  refine W.eq (g2 := F0 m 30 ls [_]) rfl ?_
  refine lo_istore_n C hl d_AL_growI_30 (Nat.le_of_ble_eq_true rfl) rfl (fun ls hl => ?_)
  refine lv_aload_n C.1 C.2.1 d_AL_growI_31 rfl (lo_at hl 0 rfl) ?_
  refine lv_aload_n C.1 C.2.1 d_AL_growI_32 rfl (lo_at hl 0 rfl) ?_
  refine pg_get C hE hM hm_b hc_b rfl in_AL 0 (Nat.le_of_ble_eq_true rfl) tw_65 rfl rfl d_AL_growI_33 ?_
  refine lv_iload_n C.1 C.2.1 d_AL_growI_36 rfl (lo_at hl 3 rfl) ?_
  refine cg_callSA C hE hM (k_Ars_copyOf l G d cap h hm_d hc_d hcap (cap + max 1 (cap / 2)) (by omega) (by omega) hel) tw_240 cy_Ars_copyOf ⟨(Nat.le_of_ble_eq_true rfl), (Nat.le_of_ble_eq_true rfl)⟩ rfl hl.1 rfl (Nat.le_of_ble_eq_true rfl) ⟨by show _ ≤ 1; omega, by show _ ≤ ncap cap; rw [hnc]; omega⟩ d_AL_growI_37 (fun x9 N1 P1 f2 H1 locs1 hP1 hp hM => ?_)
  obtain ⟨q, hN9, hx9, hq, h9, hf9, hh9⟩ := hp
  subst hx9
  have hkp : kp P f f2 := fun y hy => by rw [hf9, va_up_ne _ _ (fun z : y = q => hq (z ▸ hy))]
  have hc_b := (hkp b hm_b).trans hc_b
  have hm_b := (show b ∈ P1 by rw [hP1]; exact List.mem_append_left _ hm_b)
  have hc_d := (hkp d hm_d).trans hc_d
  have hm_d := (show d ∈ P1 by rw [hP1]; exact List.mem_append_left _ hm_d)
  have hPN := hPN_app hPN hP1
  have hm_q : q ∈ P1 := by rw [hP1, hN9]; exact List.mem_append_right _ (List.mem_singleton.mpr rfl)
  have hc_q := (congrFun hf9 q).trans (va_up_self _ _ _)
  refine W.eq (g2 := F0 m 40 ls [_, _]) rfl ?_
  refine W.widen (k := 1) (n := ncap cap) (by omega) (by rw [hnc]; omega) ?_
  refine lv_dup_x1 C.1 C.2.1 d_AL_growI_40 rfl rfl ?_
  refine cg_put C hE hM hm_b hc_b rfl in_AL ok_AL n_AL 0 (Nat.le_of_ble_eq_true rfl) tw_65 rfl rfl rfl rfl rfl (Nat.le_of_ble_eq_true rfl) d_AL_growI_41 (fun f3 H1 locs1 hf3 hM => ?_)
  have hc_d := ((congrFun hf3 d).trans (va_up_ne _ _ (ar_ne hc_d hc_b))).trans hc_d
  have hc_q := ((congrFun hf3 q).trans (va_up_ne _ _ (ar_ne hc_q hc_b))).trans hc_q
  have hc_b := (congrFun hf3 b).trans (va_up_self _ _ _)
  refine pg_aret C hr (Or.inr ⟨_, rfl⟩) hlk (Or.inr ⟨_, rfl⟩) hM hPN (by omega) (by omega) d_AL_growI_44 ?_
  refine ⟨q, by rw [hN9]; rfl, rfl, hq, h9, ?_, hh9⟩
  rw [hf3, hf9, hnc]; rfl
set_option maxHeartbeats 4000000 in
set_option maxRecDepth 100000 in
theorem k_AL_growIB (l : Launch) (G : GG) {P : List Nat} {f : Nat → va_E} (b : Nat) (m0 : Int32) (hm_b : b ∈ P) (hc_b : f b = .inr (3, [.ref G.2.2, .int (nI 0), .int m0]))  : ct l G y_AL_growI c_AL_growI 4 (some (.array (.object "java/lang/Object"))) 3 84 (1) (10) [.ref b, .int (nI 1)] P f (fun x N f1 => ∃ q, N = [q] ∧ x = some (.ref q) ∧ q ∉ P ∧ f1 = va_up (va_up f q (arR G 5 10 (fun _ => none))) b (.inr (3, [.ref q, .int (nI 0), .int m0]))) := by
  refine ct_intro (by decide) [some (.ref b), some (.int (nI 1)), none, none] rfl rfl (Nat.le_of_ble_eq_true rfl) ?_
  intro p e s m below meth c ls C hr hlk hnm hE hM hl
  have hPN : P = P ++ [] := (List.append_nil P).symm
  refine lv_aload_n C.1 C.2.1 d_AL_growI_0 rfl (lo_at hl 0 rfl) ?_
  refine pg_get C hE hM hm_b hc_b rfl in_AL 0 (Nat.le_of_ble_eq_true rfl) tw_65 rfl rfl d_AL_growI_1 ?_
  refine cg_z0len C hE hM d_AL_growI_4 ?_
  refine lo_istore_n C hl d_AL_growI_5 (Nat.le_of_ble_eq_true rfl) rfl (fun ls hl => ?_)
  refine lv_iload_n C.1 C.2.1 d_AL_growI_6 rfl (lo_at hl 2 rfl) ?_
  refine lv_if_gt (tgt := 20) C.1 C.2.1 d_AL_growI_7 (by decide) (fun hc7 => False.elim (absurd hc7 (by decide))) (fun hc7 => ?_)
  refine lv_aload_n C.1 C.2.1 d_AL_growI_10 rfl (lo_at hl 0 rfl) ?_
  refine pg_get C hE hM hm_b hc_b rfl in_AL 0 (Nat.le_of_ble_eq_true rfl) tw_65 rfl rfl d_AL_growI_11 ?_
  refine cg_z0 C hE hM tw_63 d_AL_growI_14 ?_
  refine cg_acmp_eq (tgt := 45) C d_AL_growI_17 (by decide) (fun hc17 => ?_) (fun hc17 => False.elim (hc17 rfl))
  refine lv_aload_n C.1 C.2.1 d_AL_growI_45 rfl (lo_at hl 0 rfl) ?_
  refine lv_bipush (v := 10) C.1 C.2.1 d_AL_growI_46 (by decide) ?_
  refine lv_iload_n C.1 C.2.1 d_AL_growI_48 rfl (lo_at hl 1 rfl) ?_
  refine cg_callS C hE hM (k_Mth_max l G _ _) tw_270 cy_Mth_max ⟨(Nat.le_of_ble_eq_true rfl), (Nat.le_of_ble_eq_true rfl)⟩ rfl hl.1 rfl (Nat.le_of_ble_eq_true rfl) ⟨by (try show _ ≤ 1); omega, by (try show _ ≤ 10); omega⟩ d_AL_growI_49 (fun x9 f1 H1 locs1 hp hM => ?_)
  obtain ⟨rfl, h9⟩ := hp
  rw [h9] at hM
  clear h9
  refine W.eq (g2 := F0 m 52 ls [_, _]) rfl ?_
  refine cg_newR C hE hM (t0 := 5) rfl hE.1.2.2.2.2 tw_271 10 (by decide) (by decide) (by show _ ≤ 1; omega) (by show _ ≤ 10; omega) d_AL_growI_52 (fun q P1 f2 H1 hq hP1 hf2 hM => ?_)
  have hc_b := ((congrFun hf2 b).trans (va_up_ne _ _ (fun z => hq (z ▸ hm_b)))).trans hc_b
  have hm_b := (show b ∈ P1 by rw [hP1]; exact List.mem_append_left _ hm_b)
  have hm_q : q ∈ P1 := by rw [hP1]; exact List.mem_append_right _ (List.mem_singleton.mpr rfl)
  have hc_q := (congrFun hf2 q).trans (va_up_self _ _ _)
  have hPN := hPN_new hPN hP1
  refine W.widen (k := 1) (n := 10) (by omega) (by omega) ?_
  refine lv_dup_x1 C.1 C.2.1 d_AL_growI_55 rfl rfl ?_
  refine cg_put C hE hM hm_b hc_b rfl in_AL ok_AL n_AL 0 (Nat.le_of_ble_eq_true rfl) tw_65 rfl rfl rfl rfl rfl (Nat.le_of_ble_eq_true rfl) d_AL_growI_56 (fun f3 H1 locs1 hf3 hM => ?_)
  have hc_q := ((congrFun hf3 q).trans (va_up_ne _ _ (ar_ne hc_q hc_b))).trans hc_q
  have hc_b := (congrFun hf3 b).trans (va_up_self _ _ _)
  refine pg_aret C hr (Or.inr ⟨_, rfl⟩) hlk (Or.inr ⟨_, rfl⟩) hM hPN (by omega) (by omega) d_AL_growI_59 ?_
  refine ⟨q, rfl, rfl, hq, ?_⟩
  rw [hf3, hf2]; rfl
set_option maxHeartbeats 4000000 in
set_option maxRecDepth 100000 in
theorem k_AL_grow0A (l : Launch) (G : GG) {P : List Nat} {f : Nat → va_E} (b d : Nat) (m0 : Int32) (n : Nat) (hm_b : b ∈ P) (hc_b : f b = .inr (3, [.ref d, .int (nI n), .int m0])) (cap : Nat) (h : Nat → Option Nat) (hm_d : d ∈ P) (hc_d : f d = arR G 5 cap h) (hcap : cap < 100000) (hcp : 0 < cap) (hcq : cap < 60000) (hn : n = cap) (hel : ∀ i, i < cap → ∀ y, h i = some y → oOk P f y)  : ct l G y_AL_grow0 c_AL_grow0 1 (some (.array (.object "java/lang/Object"))) 4 107 (1) (ncap cap) [.ref b] P f (fun x N f1 => ∃ q, N = [q] ∧ x = some (.ref q) ∧ q ∉ P ∧ ∃ h', f1 = va_up (va_up f q (arR G 5 (ncap cap) h')) b (.inr (3, [.ref q, .int (nI n), .int m0])) ∧ ∀ i, i < cap → h' i = h i) := by
  refine ct_intro (by decide) [some (.ref b)] rfl rfl (Nat.le_of_ble_eq_true rfl) ?_
  intro p e s m below meth c ls C hr hlk hnm hE hM hl
  have hPN : P = P ++ [] := (List.append_nil P).symm
  refine lv_aload_n C.1 C.2.1 d_AL_grow0_0 rfl (lo_at hl 0 rfl) ?_
  refine lv_aload_n C.1 C.2.1 d_AL_grow0_1 rfl (lo_at hl 0 rfl) ?_
  refine pg_get C hE hM hm_b hc_b rfl in_AL 1 (Nat.le_of_ble_eq_true rfl) tw_66 rfl rfl d_AL_grow0_2 ?_
  refine lv_iconst (v := 1) C.1 C.2.1 d_AL_grow0_5 (by decide) ?_
  refine lv_iadd C.1 C.2.1 d_AL_grow0_6 ?_
  rw [show (1 : Int32) = nI 1 from rfl, nI_add, show nI (n + 1) = nI (cap + 1) from by rw [hn]]
  refine cg_callVA C hE hM (k_AL_growIA l G b d m0 n hm_b hc_b cap h hm_d hc_d hcap hcp hcq hel) hm_b hc_b rfl tw_228 cy_AL_growI ⟨(Nat.le_of_ble_eq_true rfl), (Nat.le_of_ble_eq_true rfl)⟩ rfl hl.1 rfl (Nat.le_of_ble_eq_true rfl) ⟨by show _ ≤ 1; omega, by show _ ≤ ncap cap; omega⟩ d_AL_grow0_7 (fun x9 N1 P1 f1 H1 locs1 hP1 hp hM => ?_)
  obtain ⟨q, hN9, hx9, hq, h9, hf9, hh9⟩ := hp
  subst hx9
  have hkp : kp [] f f1 := fun y hy => absurd hy List.not_mem_nil
  have hm_b := (show b ∈ P1 by rw [hP1]; exact List.mem_append_left _ hm_b)
  have hm_d := (show d ∈ P1 by rw [hP1]; exact List.mem_append_left _ hm_d)
  have hPN := hPN_app hPN hP1
  refine W.eq (g2 := F0 m 10 ls [_]) rfl ?_
  refine W.widen (k := 1) (n := ncap cap) (by omega) (by omega) ?_
  refine pg_aret C hr (Or.inr ⟨_, rfl⟩) hlk (Or.inr ⟨_, rfl⟩) hM hPN (by omega) (by omega) d_AL_grow0_10 ?_
  exact ⟨q, by rw [hN9]; rfl, rfl, hq, h9, hf9, hh9⟩
set_option maxHeartbeats 4000000 in
set_option maxRecDepth 100000 in
theorem k_AL_grow0B (l : Launch) (G : GG) {P : List Nat} {f : Nat → va_E} (b : Nat) (m0 : Int32) (hm_b : b ∈ P) (hc_b : f b = .inr (3, [.ref G.2.2, .int (nI 0), .int m0]))  : ct l G y_AL_grow0 c_AL_grow0 1 (some (.array (.object "java/lang/Object"))) 4 107 (1) (10) [.ref b] P f (fun x N f1 => ∃ q, N = [q] ∧ x = some (.ref q) ∧ q ∉ P ∧ f1 = va_up (va_up f q (arR G 5 10 (fun _ => none))) b (.inr (3, [.ref q, .int (nI 0), .int m0]))) := by
  refine ct_intro (by decide) [some (.ref b)] rfl rfl (Nat.le_of_ble_eq_true rfl) ?_
  intro p e s m below meth c ls C hr hlk hnm hE hM hl
  have hPN : P = P ++ [] := (List.append_nil P).symm
  refine lv_aload_n C.1 C.2.1 d_AL_grow0_0 rfl (lo_at hl 0 rfl) ?_
  refine lv_aload_n C.1 C.2.1 d_AL_grow0_1 rfl (lo_at hl 0 rfl) ?_
  refine pg_get C hE hM hm_b hc_b rfl in_AL 1 (Nat.le_of_ble_eq_true rfl) tw_66 rfl rfl d_AL_grow0_2 ?_
  refine lv_iconst (v := 1) C.1 C.2.1 d_AL_grow0_5 (by decide) ?_
  refine lv_iadd C.1 C.2.1 d_AL_grow0_6 ?_
  rw [show (1 : Int32) = nI 1 from rfl, nI_add]
  rw [show 0 + 1 = 1 from rfl]
  refine cg_callVA C hE hM (k_AL_growIB l G b m0 hm_b hc_b) hm_b hc_b rfl tw_228 cy_AL_growI ⟨(Nat.le_of_ble_eq_true rfl), (Nat.le_of_ble_eq_true rfl)⟩ rfl hl.1 rfl (Nat.le_of_ble_eq_true rfl) ⟨by show _ ≤ 1; omega, by show _ ≤ 10; omega⟩ d_AL_grow0_7 (fun x9 N1 P1 f1 H1 locs1 hP1 hp hM => ?_)
  obtain ⟨q, hN9, hx9, hq, hf9⟩ := hp
  subst hx9
  have hm_b := (show b ∈ P1 by rw [hP1]; exact List.mem_append_left _ hm_b)
  have hPN := hPN_app hPN hP1
  refine W.eq (g2 := F0 m 10 ls [_]) rfl ?_
  refine W.widen (k := 1) (n := 10) (by omega) (by omega) ?_
  refine pg_aret C hr (Or.inr ⟨_, rfl⟩) hlk (Or.inr ⟨_, rfl⟩) hM hPN (by omega) (by omega) d_AL_grow0_10 ?_
  exact ⟨q, by rw [hN9]; rfl, rfl, hq, hf9⟩
set_option maxHeartbeats 4000000 in
set_option maxRecDepth 100000 in
theorem k_AL_addA0 (l : Launch) (G : GG) {P : List Nat} {f : Nat → va_E} (b d : Nat) (m0 : Int32) (n : Nat) (hm_b : b ∈ P) (hc_b : f b = .inr (3, [.ref d, .int (nI n), .int m0])) (cap : Nat) (h : Nat → Option Nat) (hm_d : d ∈ P) (hc_d : f d = arR G 5 cap h) (hcap : cap < 100000) (hnc : n < cap) (y : Nat) (hy : oOk P f y) (hyb : y ≠ b)  : ct l G y_AL_addA c_AL_addA 4 none 5 127 (1) (0) [.ref b, .ref y, .ref d, .int (nI n)] P f (fun x N f1 => N = [] ∧ x = none ∧ f1 = va_up (va_up f d (arR G 5 cap (va_up h n (some y)))) b (.inr (3, [.ref d, .int (nI (n + 1)), .int m0]))) := by
  refine ct_intro (by decide) [some (.ref b), some (.ref y), some (.ref d), some (.int (nI n))] rfl rfl (Nat.le_of_ble_eq_true rfl) ?_
  intro p e s m below meth c ls C hr hlk hnm hE hM hl
  obtain ⟨hm_y, ci, fs, r, hc_y, hcl, hca, hci3⟩ := hy
  have hPN : P = P ++ [] := (List.append_nil P).symm
  refine lv_iload_n C.1 C.2.1 d_AL_addA_0 rfl (lo_at hl 3 rfl) ?_
  refine lv_aload_n C.1 C.2.1 d_AL_addA_1 rfl (lo_at hl 2 rfl) ?_
  refine pg_alen C hE hM hm_d (t0 := 5) (Nat.le_of_ble_eq_true rfl) hc_d d_AL_addA_2 ?_
  refine lv_icmp_ne (tgt := 11) C.1 C.2.1 d_AL_addA_3 (by decide) (fun hc3 => ?_) (fun hc3 => False.elim (by have := nI_eqN (a := n) (b := cap) (by omega) (by omega) hc3; omega))
  refine lv_aload_n C.1 C.2.1 d_AL_addA_11 rfl (lo_at hl 2 rfl) ?_
  refine lv_iload_n C.1 C.2.1 d_AL_addA_12 rfl (lo_at hl 3 rfl) ?_
  refine lv_aload_n C.1 C.2.1 d_AL_addA_13 rfl (lo_at hl 1 rfl) ?_
  refine cg_aast C hE hM hm_d hc_d rfl hm_y hc_y hcl (Or.inr hca) n rfl hnc (by omega) d_AL_addA_14 (fun f1 H1 locs1 hf1 hM => ?_)
  have hc_b := ((congrFun hf1 b).trans (va_up_ne _ _ ((ar_ne hc_d hc_b).symm))).trans hc_b
  have hc_y := ((congrFun hf1 y).trans (va_up_ne _ _ ((ar_ne hc_d hc_y).symm))).trans hc_y
  have hc_d := (congrFun hf1 d).trans (va_up_self _ _ _)
  refine lv_aload_n C.1 C.2.1 d_AL_addA_15 rfl (lo_at hl 0 rfl) ?_
  refine lv_iload_n C.1 C.2.1 d_AL_addA_16 rfl (lo_at hl 3 rfl) ?_
  refine lv_iconst (v := 1) C.1 C.2.1 d_AL_addA_17 (by decide) ?_
  refine lv_iadd C.1 C.2.1 d_AL_addA_18 ?_
  rw [show (1 : Int32) = nI 1 from rfl, nI_add]
  refine cg_put C hE hM hm_b hc_b rfl in_AL ok_AL n_AL 1 (Nat.le_of_ble_eq_true rfl) tw_66 rfl rfl rfl rfl rfl (Nat.le_of_ble_eq_true rfl) d_AL_addA_19 (fun f2 H1 locs1 hf2 hM => ?_)
  have hc_d := ((congrFun hf2 d).trans (va_up_ne _ _ (ar_ne hc_d hc_b))).trans hc_d
  have hc_y := ((congrFun hf2 y).trans (va_up_ne _ _ (hyb))).trans hc_y
  have hc_b := (congrFun hf2 b).trans (va_up_self _ _ _)
  refine pg_vret C hr hlk hM hPN (by omega) (by omega) d_AL_addA_22 ?_
  refine ⟨rfl, rfl, ?_⟩
  rw [hf2, hf1]; rfl
theorem va_up_up_ne {α : Type} (f : Nat → α) {a b : Nat} (x y : α) (h : a ≠ b) : va_up (va_up f a x) b y = va_up (va_up f b y) a x := by
  funext z
  by_cases e : z = b
  · subst e; rw [va_up_self, va_up_ne _ _ (Ne.symm h), va_up_self]
  · rw [va_up_ne _ _ e]
    by_cases e2 : z = a
    · subst e2; rw [va_up_self, va_up_self]
    · rw [va_up_ne _ _ e2, va_up_ne _ _ e2, va_up_ne _ _ e]
set_option maxHeartbeats 4000000 in
set_option maxRecDepth 100000 in
theorem k_AL_addA1 (l : Launch) (G : GG) {P : List Nat} {f : Nat → va_E} (b d : Nat) (m0 : Int32) (n : Nat) (hm_b : b ∈ P) (hc_b : f b = .inr (3, [.ref d, .int (nI n), .int m0])) (cap : Nat) (h : Nat → Option Nat) (hm_d : d ∈ P) (hc_d : f d = arR G 5 cap h) (hcap : cap < 100000) (hcp : 0 < cap) (hcq : cap < 60000) (hn : n = cap) (hel : ∀ i, i < cap → ∀ y, h i = some y → oOk P f y) (y : Nat) (hy : oOk P f y) (hyb : y ≠ b)  : ct l G y_AL_addA c_AL_addA 4 none 5 127 (1) (ncap cap) [.ref b, .ref y, .ref d, .int (nI n)] P f (fun x N f1 => ∃ q, N = [q] ∧ x = none ∧ q ∉ P ∧ ∃ h', f1 = va_up (va_up f q (arR G 5 (ncap cap) (va_up h' n (some y)))) b (.inr (3, [.ref q, .int (nI (n + 1)), .int (m0)])) ∧ ∀ i, i < cap → h' i = h i) := by
  refine ct_intro (by decide) [some (.ref b), some (.ref y), some (.ref d), some (.int (nI n))] rfl rfl (Nat.le_of_ble_eq_true rfl) ?_
  intro p e s m below meth c ls C hr hlk hnm hE hM hl
  obtain ⟨hm_y, ci, fs, r, hc_y, hcl, hca, hci3⟩ := hy
  have hnc : ncap cap = cap + max 1 (cap / 2) := if_neg (by omega)
  have hPN : P = P ++ [] := (List.append_nil P).symm
  refine lv_iload_n C.1 C.2.1 d_AL_addA_0 rfl (lo_at hl 3 rfl) ?_
  refine lv_aload_n C.1 C.2.1 d_AL_addA_1 rfl (lo_at hl 2 rfl) ?_
  refine pg_alen C hE hM hm_d (t0 := 5) (Nat.le_of_ble_eq_true rfl) hc_d d_AL_addA_2 ?_
  refine lv_icmp_ne (tgt := 11) C.1 C.2.1 d_AL_addA_3 (by decide) (fun hc3 => False.elim (hc3 (by rw [hn]))) (fun hc3 => ?_)
  refine lv_aload_n C.1 C.2.1 d_AL_addA_6 rfl (lo_at hl 0 rfl) ?_
  refine cg_callVA C hE hM (k_AL_grow0A l G b d m0 n hm_b hc_b cap h hm_d hc_d hcap hcp hcq hn hel) hm_b hc_b rfl tw_224 cy_AL_grow0 ⟨(Nat.le_of_ble_eq_true rfl), (Nat.le_of_ble_eq_true rfl)⟩ rfl hl.1 rfl (Nat.le_of_ble_eq_true rfl) ⟨by show _ ≤ 1; omega, by show _ ≤ ncap cap; omega⟩ d_AL_addA_7 (fun x9 N1 P1 f1 H1 locs1 hP1 hp hM => ?_)
  obtain ⟨q, hN9, hx9, hq, h9, hf9, hh9⟩ := hp
  subst hx9
  have hqb : q ≠ b := fun z => hq (z ▸ hm_b)
  have hkp : f1 y = f y := by rw [hf9, va_up_ne _ _ hyb, va_up_ne _ _ (fun z : y = q => hq (z ▸ hm_y))]
  have hc_y := hkp.trans hc_y
  have hc_b := (congrFun hf9 b).trans (va_up_self _ _ _)
  have hc_q := ((congrFun hf9 q).trans (va_up_ne _ _ hqb)).trans (va_up_self _ _ _)
  have hm_b := (show b ∈ P1 by rw [hP1]; exact List.mem_append_left _ hm_b)
  have hm_d := (show d ∈ P1 by rw [hP1]; exact List.mem_append_left _ hm_d)
  have hm_y := (show y ∈ P1 by rw [hP1]; exact List.mem_append_left _ hm_y)
  have hPN := hPN_app hPN hP1
  have hm_q : q ∈ P1 := by rw [hP1, hN9]; exact List.mem_append_right _ (List.mem_singleton.mpr rfl)
  refine W.eq (g2 := F0 m 10 ls [_]) rfl ?_
  refine W.widen (k := 1) (n := ncap cap) (by omega) (by omega) ?_
  refine lo_astore_n C hl d_AL_addA_10 (Nat.le_of_ble_eq_true rfl) rfl (fun ls hl => ?_)
  refine lv_aload_n C.1 C.2.1 d_AL_addA_11 rfl (lo_at hl 2 rfl) ?_
  refine lv_iload_n C.1 C.2.1 d_AL_addA_12 rfl (lo_at hl 3 rfl) ?_
  refine lv_aload_n C.1 C.2.1 d_AL_addA_13 rfl (lo_at hl 1 rfl) ?_
  refine cg_aast C hE hM hm_q hc_q rfl hm_y hc_y hcl (Or.inr hca) n rfl (by rw [hnc, hn]; omega) (by rw [hnc]; omega) d_AL_addA_14 (fun f2 H1 locs1 hf2 hM => ?_)
  have hc_b := ((congrFun hf2 b).trans (va_up_ne _ _ ((ar_ne hc_q hc_b).symm))).trans hc_b
  have hc_y := ((congrFun hf2 y).trans (va_up_ne _ _ ((ar_ne hc_q hc_y).symm))).trans hc_y
  have hc_q := (congrFun hf2 q).trans (va_up_self _ _ _)
  refine lv_aload_n C.1 C.2.1 d_AL_addA_15 rfl (lo_at hl 0 rfl) ?_
  refine lv_iload_n C.1 C.2.1 d_AL_addA_16 rfl (lo_at hl 3 rfl) ?_
  refine lv_iconst (v := 1) C.1 C.2.1 d_AL_addA_17 (by decide) ?_
  refine lv_iadd C.1 C.2.1 d_AL_addA_18 ?_
  rw [show (1 : Int32) = nI 1 from rfl, nI_add]
  refine cg_put C hE hM hm_b hc_b rfl in_AL ok_AL n_AL 1 (Nat.le_of_ble_eq_true rfl) tw_66 rfl rfl rfl rfl rfl (Nat.le_of_ble_eq_true rfl) d_AL_addA_19 (fun f3 H1 locs1 hf3 hM => ?_)
  have hc_y := ((congrFun hf3 y).trans (va_up_ne _ _ (hyb))).trans hc_y
  have hc_q := ((congrFun hf3 q).trans (va_up_ne _ _ (ar_ne hc_q hc_b))).trans hc_q
  have hc_b := (congrFun hf3 b).trans (va_up_self _ _ _)
  refine pg_vret C hr hlk hM hPN (by omega) (by omega) d_AL_addA_22 ?_
  refine ⟨q, by rw [hN9]; rfl, rfl, hq, h9, ?_, hh9⟩
  rw [hf3, hf2, hf9, va_up_up_ne _ _ _ (Ne.symm hqb), bx_uu, bx_uu]; rfl
set_option maxHeartbeats 4000000 in
set_option maxRecDepth 100000 in
theorem k_AL_addAB (l : Launch) (G : GG) {P : List Nat} {f : Nat → va_E} (b : Nat) (m0 : Int32) (hm_b : b ∈ P) (hc_b : f b = .inr (3, [.ref G.2.2, .int (nI 0), .int m0])) (y : Nat) (hy : oOk P f y) (hyb : y ≠ b)  : ct l G y_AL_addA c_AL_addA 4 none 5 127 (1) (10) [.ref b, .ref y, .ref G.2.2, .int (nI 0)] P f (fun x N f1 => ∃ q, N = [q] ∧ x = none ∧ q ∉ P ∧ f1 = va_up (va_up f q (arR G 5 10 (va_up (fun _ => none) 0 (some y)))) b (.inr (3, [.ref q, .int (nI 1), .int (m0)]))) := by
  refine ct_intro (by decide) [some (.ref b), some (.ref y), some (.ref G.2.2), some (.int (nI 0))] rfl rfl (Nat.le_of_ble_eq_true rfl) ?_
  intro p e s m below meth c ls C hr hlk hnm hE hM hl
  obtain ⟨hm_y, ci, fs, r, hc_y, hcl, hca, hci3⟩ := hy
  have hPN : P = P ++ [] := (List.append_nil P).symm
  refine lv_iload_n C.1 C.2.1 d_AL_addA_0 rfl (lo_at hl 3 rfl) ?_
  refine lv_aload_n C.1 C.2.1 d_AL_addA_1 rfl (lo_at hl 2 rfl) ?_
  refine cg_z0len C hE hM d_AL_addA_2 ?_
  refine lv_icmp_ne (tgt := 11) C.1 C.2.1 d_AL_addA_3 (by decide) (fun hc3 => False.elim (absurd hc3 (by decide))) (fun hc3 => ?_)
  refine lv_aload_n C.1 C.2.1 d_AL_addA_6 rfl (lo_at hl 0 rfl) ?_
  refine cg_callVA C hE hM (k_AL_grow0B l G b m0 hm_b hc_b) hm_b hc_b rfl tw_224 cy_AL_grow0 ⟨(Nat.le_of_ble_eq_true rfl), (Nat.le_of_ble_eq_true rfl)⟩ rfl hl.1 rfl (Nat.le_of_ble_eq_true rfl) ⟨by show _ ≤ 1; omega, by show _ ≤ 10; omega⟩ d_AL_addA_7 (fun x9 N1 P1 f1 H1 locs1 hP1 hp hM => ?_)
  obtain ⟨q, hN9, hx9, hq, hf9⟩ := hp
  subst hx9
  have hqb : q ≠ b := fun z => hq (z ▸ hm_b)
  have hkp : f1 y = f y := by rw [hf9, va_up_ne _ _ hyb, va_up_ne _ _ (fun z : y = q => hq (z ▸ hm_y))]
  have hc_y := hkp.trans hc_y
  have hc_b := (congrFun hf9 b).trans (va_up_self _ _ _)
  have hc_q := ((congrFun hf9 q).trans (va_up_ne _ _ hqb)).trans (va_up_self _ _ _)
  have hm_b := (show b ∈ P1 by rw [hP1]; exact List.mem_append_left _ hm_b)
  have hm_y := (show y ∈ P1 by rw [hP1]; exact List.mem_append_left _ hm_y)
  have hPN := hPN_app hPN hP1
  have hm_q : q ∈ P1 := by rw [hP1, hN9]; exact List.mem_append_right _ (List.mem_singleton.mpr rfl)
  refine W.eq (g2 := F0 m 10 ls [_]) rfl ?_
  refine W.widen (k := 1) (n := 10) (by omega) (by omega) ?_
  refine lo_astore_n C hl d_AL_addA_10 (Nat.le_of_ble_eq_true rfl) rfl (fun ls hl => ?_)
  refine lv_aload_n C.1 C.2.1 d_AL_addA_11 rfl (lo_at hl 2 rfl) ?_
  refine lv_iload_n C.1 C.2.1 d_AL_addA_12 rfl (lo_at hl 3 rfl) ?_
  refine lv_aload_n C.1 C.2.1 d_AL_addA_13 rfl (lo_at hl 1 rfl) ?_
  refine cg_aast C hE hM hm_q hc_q rfl hm_y hc_y hcl (Or.inr hca) 0 rfl (by decide) (by decide) d_AL_addA_14 (fun f2 H1 locs1 hf2 hM => ?_)
  have hc_b := ((congrFun hf2 b).trans (va_up_ne _ _ ((ar_ne hc_q hc_b).symm))).trans hc_b
  have hc_y := ((congrFun hf2 y).trans (va_up_ne _ _ ((ar_ne hc_q hc_y).symm))).trans hc_y
  have hc_q := (congrFun hf2 q).trans (va_up_self _ _ _)
  refine lv_aload_n C.1 C.2.1 d_AL_addA_15 rfl (lo_at hl 0 rfl) ?_
  refine lv_iload_n C.1 C.2.1 d_AL_addA_16 rfl (lo_at hl 3 rfl) ?_
  refine lv_iconst (v := 1) C.1 C.2.1 d_AL_addA_17 (by decide) ?_
  refine lv_iadd C.1 C.2.1 d_AL_addA_18 ?_
  rw [show (1 : Int32) = nI 1 from rfl, nI_add]
  refine cg_put C hE hM hm_b hc_b rfl in_AL ok_AL n_AL 1 (Nat.le_of_ble_eq_true rfl) tw_66 rfl rfl rfl rfl rfl (Nat.le_of_ble_eq_true rfl) d_AL_addA_19 (fun f3 H1 locs1 hf3 hM => ?_)
  have hc_y := ((congrFun hf3 y).trans (va_up_ne _ _ (hyb))).trans hc_y
  have hc_q := ((congrFun hf3 q).trans (va_up_ne _ _ (ar_ne hc_q hc_b))).trans hc_q
  have hc_b := (congrFun hf3 b).trans (va_up_self _ _ _)
  refine pg_vret C hr hlk hM hPN (by omega) (by omega) d_AL_addA_22 ?_
  refine ⟨q, by rw [hN9]; rfl, rfl, hq, ?_⟩
  rw [hf3, hf2, hf9, va_up_up_ne _ _ _ (Ne.symm hqb), bx_uu, bx_uu]; rfl
