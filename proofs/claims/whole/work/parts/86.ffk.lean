theorem vV_Tsk : ∀ j, j < 4 → defaultValue (ty_Tsk j) = vp_V [.int 0, .int 0, .int 0, .int 0] j := fun j hj => match j, hj with
  | 0, _ => rfl
  | 1, _ => rfl
  | 2, _ => rfl
  | 3, _ => rfl
  | j + 4, h => absurd h (by omega)
theorem vV_Veh : ∀ j, j < 10 → defaultValue (ty_Veh j) = vp_V [.int 0, .int 0, .null, .int 0, .int 0, .int 0, .int 0, .int 0, .int 0, .int 0] j := fun j hj => match j, hj with
  | 0, _ => rfl
  | 1, _ => rfl
  | 2, _ => rfl
  | 3, _ => rfl
  | 4, _ => rfl
  | 5, _ => rfl
  | 6, _ => rfl
  | 7, _ => rfl
  | 8, _ => rfl
  | 9, _ => rfl
  | j + 10, h => absurd h (by omega)
theorem vV_Pln : ∀ j, j < 13 → defaultValue (ty_Pln j) = vp_V [.null, .null, .null, .null, .null, .null, .null, .null, .int 0, .int 0, .int 0, .int 0, .int 0] j := fun j hj => match j, hj with
  | 0, _ => rfl
  | 1, _ => rfl
  | 2, _ => rfl
  | 3, _ => rfl
  | 4, _ => rfl
  | 5, _ => rfl
  | 6, _ => rfl
  | 7, _ => rfl
  | 8, _ => rfl
  | 9, _ => rfl
  | 10, _ => rfl
  | 11, _ => rfl
  | 12, _ => rfl
  | j + 13, h => absurd h (by omega)
theorem vV_FF : ∀ j, j < 9 → defaultValue (ty_FF j) = vp_V [.null, .null, .null, .null, .null, .null, .int 0, .int 0, .int 0] j := fun j hj => match j, hj with
  | 0, _ => rfl
  | 1, _ => rfl
  | 2, _ => rfl
  | 3, _ => rfl
  | 4, _ => rfl
  | 5, _ => rfl
  | 6, _ => rfl
  | 7, _ => rfl
  | 8, _ => rfl
  | j + 9, h => absurd h (by omega)
theorem nc_58 {cap n : Nat} (h : cap ≤ 58) (hn : n < 24) (hc : n ≤ cap) : nc cap n ≤ 58 := by
  unfold nc
  by_cases q : n < cap
  · rw [if_pos q]; exact h
  · have := nc_le (cap := cap) (n := n) (by omega) hc
    unfold nc at this
    rw [if_neg q] at this ⊢
    omega
theorem gz_130 {G : GG} {P : List Nat} {f : Nat → va_E} {b cap n : Nat} {g : Nat → Nat} (h : cap ≤ 58) (_hl : lsS G P f b cap n g) : gzc cap n ≤ 272 := by
  unfold gzc
  split
  · omega
  · exact ncap_le (by omega)
def kTsk (T : TS) (a b : Int32) : TS := (upd T.v 9 (T.v 9 + 1), tskA T.v T.A a b, KS.mk (va_up T.k.N 2 (T.k.N 2 + 1)) T.k.q T.k.ce T.k.tm T.k.X)
theorem cS.tsa {G : GG} {P P1 : List Nat} {f f1 : Nat → va_E} {o : Nat} {D : Nat → Nat → Nat} {C : Nat → Nat} {T : TS} (h : cS G P f o D C T) (h35 : G.2.1 3 ≠ G.2.1 5) (h45 : G.2.1 4 ≠ G.2.1 5) (hs : ∀ y, y ∈ P → y ∈ P1) (hn : T.k.N 2 < 24) (h9 : T.v 9 = nI (T.k.N 2)) {y a b : Nat} (ha : a < 1000) (hb : b < 1000) (hl : lsS G P1 f1 (D 0 4) (nc (C 1) (T.k.N 2)) (T.k.N 2 + 1) (va_up (D 4) (T.k.N 2) y)) (hfr : frL G P f P1 f1 (D 0 4)) (hy : y ∈ P) (hfy : f y = .inr (7, [.int (T.A 5 a), .int (T.A 5 b), .int (-1), .int (-1)])) (hyn : ∀ t, t < T.k.N 2 → D 4 t ≠ y) : ∃ D' C', cS G P1 f1 o D' C' (kTsk T (nI a) (nI b)) := by
  have e9 : ix (T.v 9) = T.k.N 2 := by rw [h9]; exact nI_clamp (by omega)
  have ea : ix (nI a) = a := nI_clamp (by omega)
  have eb : ix (nI b) = b := nI_clamp (by omega)
  have t11 : tskA T.v T.A (nI a) (nI b) 11 = upd (T.A 11) (T.k.N 2) (T.A 5 a) := by
    unfold tskA; rw [e9, ea]; rfl
  have t12 : tskA T.v T.A (nI a) (nI b) 12 = upd (T.A 12) (T.k.N 2) (T.A 5 b) := by
    unfold tskA; rw [e9, eb]; rfl
  have t13 : tskA T.v T.A (nI a) (nI b) 13 = upd (T.A 13) (T.k.N 2) (-1) := by
    unfold tskA; rw [e9]; rfl
  have t18 : tskA T.v T.A (nI a) (nI b) 18 = upd (T.A 18) (T.k.N 2) (-1) := by
    unfold tskA; rw [e9]; rfl
  have hle : T.k.N 2 ≤ C 1 := by obtain ⟨-, d, m0, -, h2, -⟩ := h.tl; exact h2
  obtain ⟨fs, hbc⟩ := h.tl.cel
  refine ⟨_, _, h.tad (T' := kTsk T (nI a) (nI b)) (y := y) (hfr.x hs) h35 h45 (fun j hj => upd_ne _ _ hj) (fun j _ a1 b1 c1 d1 => ?_) (va_up_self T.k.N 2 (T.k.N 2 + 1)) (fun j hj => va_up_ne _ _ hj) rfl rfl rfl rfl (nc_58 h.cp.2.1 hn hle) hl (fun t ht => ?_) ?_ hyn⟩
  · show tskA T.v T.A (nI a) (nI b) j = T.A j
    unfold tskA
    rw [va_up_ne _ _ d1, va_up_ne _ _ c1, va_up_ne _ _ b1, va_up_ne _ _ a1]
  · show tskA T.v T.A (nI a) (nI b) 11 t = _ ∧ tskA T.v T.A (nI a) (nI b) 12 t = _ ∧ tskA T.v T.A (nI a) (nI b) 13 t = _ ∧ tskA T.v T.A (nI a) (nI b) 18 t = _
    rw [t11, t12, t13, t18, upd_ne _ _ (by omega), upd_ne _ _ (by omega), upd_ne _ _ (by omega), upd_ne _ _ (by omega)]
    exact ⟨rfl, rfl, rfl, rfl⟩
  · show y ∈ P1 ∧ f1 y = .inr (7, [.int (tskA T.v T.A (nI a) (nI b) 11 (T.k.N 2)), .int (tskA T.v T.A (nI a) (nI b) 12 (T.k.N 2)), .int (tskA T.v T.A (nI a) (nI b) 13 (T.k.N 2)), .int (tskA T.v T.A (nI a) (nI b) 18 (T.k.N 2))])
    rw [t11, t12, t13, t18, upd_self, upd_self, upd_self, upd_self]
    exact ⟨hs _ hy, hfr.ob hy (ob_ne hfy hbc (by decide)) hfy⟩
set_option maxHeartbeats 4000000 in
set_option maxRecDepth 100000 in
theorem k_FF_task (l : Launch) (G : GG) {P : List Nat} {f : Nat → va_E} {o : Nat} {D : Nat → Nat → Nat} {C9 : Nat → Nat} {T : TS} (hS : cS G P f o D C9 T) (hvo : T.v 1 = 1) (hn2 : T.k.N 2 < 24) (h9 : T.v 9 = nI (T.k.N 2)) (hn3 : T.k.N 3 ≤ 96) (h3 : T.v 3 = nI (T.k.N 3)) (a b : Nat) (ha : a < T.k.N 3) (hb : b < T.k.N 3)  : ct l G y_FF_task c_FF_task 3 (some .int) 7 171 (2) (276) [.ref o, .int (nI a), .int (nI b)] P f (fun x N f1 => x = some (.int (nI (T.k.N 2))) ∧ ∃ D' C', cS G (P ++ N) f1 o D' C' (kTsk T (nI a) (nI b))) := by
  refine ct_intro (by decide) [some (.ref o), some (.int (nI a)), some (.int (nI b))] rfl rfl (Nat.le_of_ble_eq_true rfl) ?_
  intro p e s m below meth c ls C hr hlk hnm hE hM hl
  have hv0 : ¬ T.v 1 = 0 := by rw [hvo]; decide
  obtain ⟨hm_sa, gS, hc_sa, hgS⟩ := hS.sa
  have hm_sa0 := hm_sa
  have hc_sa0 := hc_sa
  have hg9 := gz_130 hS.cp.2.1 hS.tl
  have hPN : P = P ++ [] := (List.append_nil P).symm
  refine lv_aload_n C.1 C.2.1 d_FF_task_0 rfl (lo_at hl 0 rfl) ?_
  refine cg_callV C hE hM (k_FF_isOpen l G hS) hS.ff.1 hS.ff.2 rfl tw_117 cy_FF_isOpen ⟨(Nat.le_of_ble_eq_true rfl), (Nat.le_of_ble_eq_true rfl)⟩ rfl hl.1 rfl (Nat.le_of_ble_eq_true rfl) ⟨by (try show _ ≤ 2); omega, by (try show _ ≤ 276); omega⟩ d_FF_task_1 (fun x9 f11 H1 locs1 hp hM => ?_)
  obtain ⟨rfl, h9⟩ := hp
  rw [h9] at hM
  clear h9
  refine W.eq (g2 := F0 m 4 ls [_]) rfl ?_
  refine lv_if_eq (tgt := 19) C.1 C.2.1 d_FF_task_4 (by decide) (fun hc4 => False.elim (bz_0.mp hc4 hv0)) (fun hc4 => ?_)
  refine lv_aload_n C.1 C.2.1 d_FF_task_7 rfl (lo_at hl 0 rfl) ?_
  refine pg_get C hE hM hS.ff.1 hS.ff.2 rfl in_FF 2 (Nat.le_of_ble_eq_true rfl) tw_87 rfl rfl d_FF_task_8 ?_
  obtain ⟨_, _, hc_tl⟩ := hS.tl.cell
  refine cg_callV C hE hM (q_size l G hS.tl) hS.tl.1 hc_tl rfl tw_287 cy_AL_size ⟨(Nat.le_of_ble_eq_true rfl), (Nat.le_of_ble_eq_true rfl)⟩ rfl hl.1 rfl (Nat.le_of_ble_eq_true rfl) ⟨by (try show _ ≤ 2); omega, by (try show _ ≤ 276); omega⟩ d_FF_task_11 (fun x9 f12 H1 locs1 hp hM => ?_)
  obtain ⟨rfl, h9⟩ := hp
  rw [h9] at hM
  clear h9
  refine W.eq (g2 := F0 m 14 ls [_]) rfl ?_
  refine lv_bipush (v := 24) C.1 C.2.1 d_FF_task_14 (by decide) ?_
  rw [show (24 : Int32) = nI 24 from rfl]
  refine lv_icmp_lt (tgt := 29) C.1 C.2.1 d_FF_task_16 (by decide) (fun hc16 => ?_) (fun hc16 => False.elim (hc16 ((nI_ltI (by omega) (by omega)).mpr hn2)))
  refine lv_aload_n C.1 C.2.1 d_FF_task_29 rfl (lo_at hl 0 rfl) ?_
  refine lv_iload_n C.1 C.2.1 d_FF_task_30 rfl (lo_at hl 1 rfl) ?_
  refine cg_callV C hE hM (k_FF_isStation l G hS hn3 h3 _) hS.ff.1 hS.ff.2 rfl tw_577 cy_FF_isStation ⟨(Nat.le_of_ble_eq_true rfl), (Nat.le_of_ble_eq_true rfl)⟩ rfl hl.1 rfl (Nat.le_of_ble_eq_true rfl) ⟨by (try show _ ≤ 2); omega, by (try show _ ≤ 276); omega⟩ d_FF_task_31 (fun x9 f13 H1 locs1 hp hM => ?_)
  obtain ⟨rfl, h9⟩ := hp
  rw [h9] at hM
  clear h9
  refine W.eq (g2 := F0 m 34 ls [_]) rfl ?_
  refine lv_if_eq (tgt := 45) C.1 C.2.1 d_FF_task_34 (by decide) (fun hc34 => False.elim (bz_0.mp hc34 ((inb_iff (by omega) h3).mpr ⟨a, rfl, ha⟩))) (fun hc34 => ?_)
  refine lv_aload_n C.1 C.2.1 d_FF_task_37 rfl (lo_at hl 0 rfl) ?_
  refine lv_iload_n C.1 C.2.1 d_FF_task_38 rfl (lo_at hl 2 rfl) ?_
  refine cg_callV C hE hM (k_FF_isStation l G hS hn3 h3 _) hS.ff.1 hS.ff.2 rfl tw_577 cy_FF_isStation ⟨(Nat.le_of_ble_eq_true rfl), (Nat.le_of_ble_eq_true rfl)⟩ rfl hl.1 rfl (Nat.le_of_ble_eq_true rfl) ⟨by (try show _ ≤ 2); omega, by (try show _ ≤ 276); omega⟩ d_FF_task_39 (fun x9 f14 H1 locs1 hp hM => ?_)
  obtain ⟨rfl, h9⟩ := hp
  rw [h9] at hM
  clear h9
  refine W.eq (g2 := F0 m 42 ls [_]) rfl ?_
  refine lv_if_ne (tgt := 55) C.1 C.2.1 d_FF_task_42 (by decide) (fun hc42 => ?_) (fun hc42 => False.elim (bz_0.mp hc42 ((inb_iff (by omega) h3).mpr ⟨b, rfl, hb⟩)))
  refine lv_aload_n C.1 C.2.1 d_FF_task_55 rfl (lo_at hl 0 rfl) ?_
  refine pg_get C hE hM hS.ff.1 hS.ff.2 rfl in_FF 2 (Nat.le_of_ble_eq_true rfl) tw_87 rfl rfl d_FF_task_56 ?_
  refine cg_new C hE hM (ci := 7) (fs := [.int 0, .int 0, .int 0, .int 0]) rfl in_Tsk ok_Tsk tw_303 tw_582 tw_16 (vV_Tsk) (Nat.le_of_ble_eq_true rfl) (Nat.le_of_ble_eq_true rfl) d_FF_task_59 (fun q9 P1 f15 H1 hq9 hP1 hf15 hM => ?_)
  have hm_q9 : q9 ∈ P1 := by rw [hP1]; exact List.mem_append_right _ (List.mem_singleton.mpr rfl)
  have hc_q9 := (congrFun hf15 q9).trans (va_up_self _ _ _)
  have hPN := hPN_new hPN hP1
  have hS0 := hS
  have hlw0 := hS.lw
  have hS := hS0.nw (nw_x hf15 hq9 hP1 (fun z => cg_z0P hE hM (z ▸ hm_q9)) (by intros _ _ _ z; cases z) hlw0) (ids_ne hE).1 (ids_ne hE).2
  have hf0 := hf15
  have hP9 := hP1
  obtain ⟨hm_sa, gS2, hc_sa2, hgS2⟩ := hS.sa
  have hc_sa : f15 (D 0 6) = .inl (G.2.1 0, T.k.N 3, .inl gS) := by rw [hf0, va_up_ne _ _ (fun z : D 0 6 = q9 => hq9 (z ▸ hm_sa0))]; exact hc_sa0
  refine lv_dup C.1 C.2.1 d_FF_task_62 rfl ?_
  refine lv_aload_n C.1 C.2.1 d_FF_task_63 rfl (lo_at hl 0 rfl) ?_
  refine pg_get C hE hM hS.ff.1 hS.ff.2 rfl in_FF 4 (Nat.le_of_ble_eq_true rfl) tw_89 rfl rfl d_FF_task_64 ?_
  refine lv_iload_n C.1 C.2.1 d_FF_task_67 rfl (lo_at hl 1 rfl) ?_
  refine cg_iald C hE hM hm_sa hc_sa a rfl ha (by omega) d_FF_task_68 ?_
  refine lv_aload_n C.1 C.2.1 d_FF_task_69 rfl (lo_at hl 0 rfl) ?_
  refine pg_get C hE hM hS.ff.1 hS.ff.2 rfl in_FF 4 (Nat.le_of_ble_eq_true rfl) tw_89 rfl rfl d_FF_task_70 ?_
  refine lv_iload_n C.1 C.2.1 d_FF_task_73 rfl (lo_at hl 2 rfl) ?_
  refine cg_iald C hE hM hm_sa hc_sa b rfl hb (by omega) d_FF_task_74 ?_
  refine cg_callI C hE hM (k_Tsk_init l G _ _ _ hm_q9 hc_q9) tw_583 cy_Tsk_init ⟨(Nat.le_of_ble_eq_true rfl), (Nat.le_of_ble_eq_true rfl)⟩ rfl hl.1 rfl (Nat.le_of_ble_eq_true rfl) ⟨by (try show _ ≤ 2); omega, by (try show _ ≤ 276); omega⟩ d_FF_task_75 (fun x9 f16 H1 locs1 hp hM => ?_)
  obtain ⟨hx9, hf9⟩ := hp
  subst hx9
  have hS := hS0.nw (nw2_x hf0 hf9 hq9 hP9 (hS.lw.wr hf9 hc_q9 (by decide))) (ids_ne hE).1 (ids_ne hE).2
  have hc_q9 := (congrFun hf9 q9).trans (va_up_self _ _ _)
  rw [hgS a ha, hgS b hb] at hc_q9
  refine W.eq (g2 := F0 m 78 ls [_, _]) rfl ?_
  obtain ⟨_, _, hc_tl⟩ := hS.tl.cell
  refine cg_callVA C hE hM (q_add l G hS.tl hS.lw (fun i hi => oOk_tsk (hS.tk i hi).1 (hS.tk i hi).2) q9 (oOk_tsk hm_q9 hc_q9) (by have := hS.cp.2.1; omega)) hS.tl.1 hc_tl rfl tw_604 cy_AL_add ⟨(Nat.le_of_ble_eq_true rfl), (Nat.le_of_ble_eq_true rfl)⟩ rfl hl.1 rfl (Nat.le_of_ble_eq_true rfl) ⟨by (try show _ ≤ 2); omega, by (try show _ ≤ 276); omega⟩ d_FF_task_78 (fun x9 N2 P2 f17 H1 locs1 hP2 hp hM => ?_)
  obtain ⟨hx9, hN9, hl9, hf9⟩ := hp
  subst hx9
  rw [← hP2] at hl9 hf9
  obtain ⟨D2, C2, hS⟩ := hS.tsa (ids_ne hE).1 (ids_ne hE).2 (fun y hy => by rw [hP2]; exact List.mem_append_left _ hy) hn2 h9 (by omega) (by omega) hl9 hf9 hm_q9 hc_q9 (fun t ht z => hq9 (z ▸ (hS0.tk t ht).1))
  have hPN := hPN_app hPN hP2
  refine W.eq (g2 := F0 m 81 ls [_]) rfl ?_
  refine lv_pop C.1 C.2.1 d_FF_task_81 rfl ?_
  refine lv_aload_n C.1 C.2.1 d_FF_task_82 rfl (lo_at hl 0 rfl) ?_
  refine pg_get C hE hM hS.ff.1 hS.ff.2 rfl in_FF 2 (Nat.le_of_ble_eq_true rfl) tw_87 rfl rfl d_FF_task_83 ?_
  obtain ⟨_, _, hc_tl⟩ := hS.tl.cell
  refine cg_callV C hE hM (q_size l G hS.tl) hS.tl.1 hc_tl rfl tw_287 cy_AL_size ⟨(Nat.le_of_ble_eq_true rfl), (Nat.le_of_ble_eq_true rfl)⟩ rfl hl.1 rfl (Nat.le_of_ble_eq_true rfl) ⟨by (try show _ ≤ 2); omega, by (try show _ ≤ 276); omega⟩ d_FF_task_86 (fun x9 f18 H1 locs1 hp hM => ?_)
  obtain ⟨rfl, h9⟩ := hp
  rw [h9] at hM
  clear h9
  refine W.eq (g2 := F0 m 89 ls [_]) rfl ?_
  refine lv_iconst (v := 1) C.1 C.2.1 d_FF_task_89 (by decide) ?_
  refine lv_isub C.1 C.2.1 d_FF_task_90 ?_
  refine pg_iret C hr hlk hM hPN (by omega) (by omega) d_FF_task_91 ?_
  refine ⟨?_, D2, C2, hPN ▸ hS⟩
  have e : (kTsk T (nI a) (nI b)).k.N 2 = T.k.N 2 + 1 := va_up_self T.k.N 2 (T.k.N 2 + 1)
  rw [e, show (1 : Int32) = nI 1 from rfl, pk_sub (by omega), Nat.add_sub_cancel]
