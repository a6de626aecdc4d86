def kRem (T : TS) (i : Nat) : TS := (upd T.v 31 (nI (T.k.N 1 - 1)), rmL (T.k.N 1 - 1 - i) i T.A, KS.mk (va_up T.k.N 1 (T.k.N 1 - 1)) T.k.q T.k.ce T.k.tm T.k.X)
theorem cS.rem {G : GG} {P : List Nat} {f f1 : Nat → va_E} {o : Nat} {D : Nat → Nat → Nat} {C : Nat → Nat} {T : TS} (h : cS G P f o D C T) (h35 : G.2.1 3 ≠ G.2.1 5) (h45 : G.2.1 4 ≠ G.2.1 5) {i : Nat} (hi : i < T.k.N 1) (hl : lsS G P f1 (D 0 3) (C 0) (T.k.N 1 - 1) (fun j => if j < i then D 3 j else D 3 (j + 1))) (hfr : frL G P f P f1 (D 0 3)) : ∃ D' C', cS G P f1 o D' C' (kRem T i) := by
  obtain ⟨e0, e1⟩ := rmL_at (T.k.N 1 - 1 - i) i T.A
  refine ⟨_, _, h.air (T' := kRem T i) (hfr.x (fun _ h => h)) h35 h45 (fun j hj => upd_ne _ _ hj) (fun j _ a b c => e0 j a b c) (fun j hj => va_up_ne _ _ hj) rfl rfl rfl rfl h.cp.1 hl (fun j hj => ?_)⟩
  have hj' : j < T.k.N 1 - 1 := hj
  show (if j < i then D 3 j else D 3 (j + 1)) ∈ P ∧ f1 (if j < i then D 3 j else D 3 (j + 1)) = .inr (5, [.int (rmL (T.k.N 1 - 1 - i) i T.A 32 j), .int (rmL (T.k.N 1 - 1 - i) i T.A 33 j), .int (rmL (T.k.N 1 - 1 - i) i T.A 34 j)])
  rw [e1 32 (by decide), e1 33 (by decide), e1 34 (by decide)]
  obtain ⟨fs, hb⟩ := h.al.cel
  by_cases q : j < i
  · rw [if_pos q, if_neg (by omega), if_neg (by omega), if_neg (by omega)]
    have := h.lt j (by omega)
    exact ⟨this.1, hfr.ob this.1 (ob_ne this.2 hb (by decide)) this.2⟩
  · rw [if_neg q, if_pos (by omega), if_pos (by omega), if_pos (by omega)]
    have := h.lt (j + 1) (by omega)
    exact ⟨this.1, hfr.ob this.1 (ob_ne this.2 hb (by decide)) this.2⟩
theorem nc_130 {cap n : Nat} (h : cap ≤ 130) (hn : n < 60) (hc : n ≤ cap) : nc cap n ≤ 130 ∧ gzc cap n ≤ 130 := by
  have h1 := nc_le (cap := cap) (n := n)
  unfold nc gzc
  by_cases q : n < cap
  · rw [if_pos q, if_pos q]; exact ⟨h, by omega⟩
  · have e : cap = n := by omega
    have := nc_le (cap := cap) (n := n) (by omega) hc
    unfold nc at this
    rw [if_neg q] at this ⊢
    rw [if_neg q]
    omega
theorem cS.sn {G : GG} {P P1 : List Nat} {f f1 : Nat → va_E} {o : Nat} {D : Nat → Nat → Nat} {C : Nat → Nat} {T : TS} (h : cS G P f o D C T) (h35 : G.2.1 3 ≠ G.2.1 5) (h45 : G.2.1 4 ≠ G.2.1 5) (hs : ∀ y, y ∈ P → y ∈ P1) (hn : T.k.N 1 < 60) (h31 : T.v 31 = nI (T.k.N 1)) {y : Nat} {a b c : Int32} (hl : lsS G P1 f1 (D 0 3) (nc (C 0) (T.k.N 1)) (T.k.N 1 + 1) (va_up (D 3) (T.k.N 1) y)) (hfr : frL G P f P1 f1 (D 0 3)) (hy : y ∈ P) (hfy : f y = .inr (5, [.int a, .int b, .int c])) : ∃ D' C', cS G P1 f1 o D' C' (sndV T.v, sndA T.v T.A a b c, kSn T.k) := by
  have q2 : ¬ T.v 31 = 60 := by
    rw [h31]
    intro z
    have := nI_inj (by omega) (by decide) (z.trans (show (60 : Int32) = nI 60 from rfl))
    omega
  have q : ¬ T.k.N 1 = 60 := by omega
  have hix : ix (T.v 31) = T.k.N 1 := by rw [h31]; exact nI_clamp (by omega)
  have hle : T.k.N 1 ≤ C 0 := by obtain ⟨-, d, m0, -, h2, -⟩ := h.al; exact h2
  obtain ⟨fs, hb⟩ := h.al.cel
  have eN : (kSn T.k).N 1 = T.k.N 1 + 1 := by show va_up T.k.N 1 (if T.k.N 1 = 60 then 60 else T.k.N 1 + 1) 1 = _; rw [va_up_self, if_neg q]
  refine ⟨_, _, h.air (T' := (sndV T.v, sndA T.v T.A a b c, kSn T.k)) (c0 := nc (C 0) (T.k.N 1)) (g1 := va_up (D 3) (T.k.N 1) y) (hfr.x hs) h35 h45 (fun j hj => ?_) (fun j _ a1 b1 c1 => ?_) (fun j hj => va_up_ne _ _ hj) rfl rfl rfl rfl (nc_130 h.cp.1 hn hle).1 (by rw [eN]; exact hl) (fun j hj => ?_)⟩
  · show sndV T.v j = T.v j
    unfold sndV
    rw [if_neg q2]
    exact upd_ne _ _ hj
  · show sndA T.v T.A a b c j = T.A j
    unfold sndA
    rw [if_neg q2, va_up_ne _ _ c1, va_up_ne _ _ b1, va_up_ne _ _ a1]
  · rw [eN] at hj
    show va_up (D 3) (T.k.N 1) y j ∈ P1 ∧ f1 (va_up (D 3) (T.k.N 1) y j) = .inr (5, [.int (sndA T.v T.A a b c 32 j), .int (sndA T.v T.A a b c 33 j), .int (sndA T.v T.A a b c 34 j)])
    have s32 : sndA T.v T.A a b c 32 = upd (T.A 32) (T.k.N 1) a := by unfold sndA; rw [if_neg q2, hix, va_up_ne _ _ (by decide), va_up_ne _ _ (by decide), va_up_self]
    have s33 : sndA T.v T.A a b c 33 = upd (T.A 33) (T.k.N 1) b := by unfold sndA; rw [if_neg q2, hix, va_up_ne _ _ (by decide), va_up_self]
    have s34 : sndA T.v T.A a b c 34 = upd (T.A 34) (T.k.N 1) c := by unfold sndA; rw [if_neg q2, hix, va_up_self]
    rw [s32, s33, s34]
    by_cases e : j = T.k.N 1
    · rw [e, va_up_self, upd_self, upd_self, upd_self]
      exact ⟨hs _ hy, hfr.ob hy (ob_ne hfy hb (by decide)) hfy⟩
    · rw [va_up_ne _ _ e, upd_ne _ _ e, upd_ne _ _ e, upd_ne _ _ e]
      have := h.lt j (by omega)
      exact ⟨hs _ this.1, hfr.ob this.1 (ob_ne this.2 hb (by decide)) this.2⟩
set_option maxHeartbeats 4000000 in
set_option maxRecDepth 100000 in
theorem k_FF_lose (l : Launch) (G : GG) {P : List Nat} {f : Nat → va_E} {o : Nat} {D : Nat → Nat → Nat} {C9 : Nat → Nat} {T : TS} (hS : cS G P f o D C9 T) (hn1 : T.k.N 1 ≤ 60) (h31 : T.v 31 = nI (T.k.N 1)) (k0 : Int32)  : ct0 l G y_FF_lose c_FF_lose 2 (some .boolean) 4 107 [.ref o, .int k0] P f (fun x f1 => x = some (.int (bz (isLt T.v k0))) ∧ ∃ D' C', cS G P f1 o D' C' (if isLt T.v k0 then kRem T (ix k0) else T)) := by
  refine ct_intro (by decide) [some (.ref o), some (.int k0)] rfl rfl (Nat.le_of_ble_eq_true rfl) ?_
  intro p e s m below meth c ls C hr hlk hnm hE hM hl
  refine lv_aload_n C.1 C.2.1 d_FF_lose_0 rfl (lo_at hl 0 rfl) ?_
  refine pg_get C hE hM hS.ff.1 hS.ff.2 rfl in_FF 1 (Nat.le_of_ble_eq_true rfl) tw_86 rfl rfl d_FF_lose_1 ?_
  refine lv_iload_n C.1 C.2.1 d_FF_lose_4 rfl (lo_at hl 1 rfl) ?_
  refine cg_callV C hE hM (k_Air_remove l G _ _ hS.ar.1 hS.ar.2 _ _ _ hS.al hS.lw (fun i hi => oOk_let (hS.lt i hi).1 (hS.lt i hi).2) (by omega) k0) hS.ar.1 hS.ar.2 rfl tw_189 cy_Air_remove ⟨(Nat.le_of_ble_eq_true rfl), (Nat.le_of_ble_eq_true rfl)⟩ rfl hl.1 rfl (Nat.le_of_ble_eq_true rfl) ⟨Nat.zero_le _, Nat.zero_le _⟩ d_FF_lose_5 (fun x9 f11 H1 locs1 hp hM => ?_)
  rcases hp with ⟨i, hk, hi, hx9, hl9, hf9⟩ | ⟨hk, hx9, hf9⟩
  · subst hx9
    subst hk
    refine W.eq (g2 := F0 m 8 ls [_]) rfl ?_
    refine cg_zret C hr hlk hM d_FF_lose_8 (by decide) ?_
    have hn : isLt T.v (nI i) := (isLt_iff hn1 h31).mpr ⟨i, rfl, hi⟩
    rw [bz_T hn, if_pos hn, show ix (nI i) = i from nI_clamp (by omega)]
    exact ⟨rfl, hS.rem (ids_ne hE).1 (ids_ne hE).2 hi hl9 hf9⟩
  · subst hx9
    rw [hf9] at hM
    refine W.eq (g2 := F0 m 8 ls [_]) rfl ?_
    refine cg_zret C hr hlk hM d_FF_lose_8 (by decide) ?_
    have hn : ¬ isLt T.v k0 := fun z => hk ((isLt_iff hn1 h31).mp z)
    rw [bz_F hn, if_neg hn]
    exact ⟨rfl, D, C9, hS⟩
theorem ncap_le {cap : Nat} (h : cap ≤ 130) : ncap cap ≤ 272 := by
  have hc := nc_le (cap := cap) (n := cap) (by omega) (Nat.le_refl _)
  unfold nc at hc
  rw [if_neg (Nat.lt_irrefl _)] at hc
  omega
theorem gz_200 {G : GG} {P : List Nat} {f : Nat → va_E} {b cap n : Nat} {g : Nat → Nat} (h : cap ≤ 130) (_hl : lsS G P f b cap n g) : gzc cap n ≤ 272 := by
  unfold gzc
  split
  · omega
  · exact ncap_le h
set_option maxHeartbeats 4000000 in
set_option maxRecDepth 100000 in
theorem k_FF_twin (l : Launch) (G : GG) {P : List Nat} {f : Nat → va_E} {o : Nat} {D : Nat → Nat → Nat} {C9 : Nat → Nat} {T : TS} (hS : cS G P f o D C9 T) (hn1 : T.k.N 1 ≤ 60) (h31 : T.v 31 = nI (T.k.N 1)) (k0 : Int32)  : ct l G y_FF_twin c_FF_twin 3 (some .boolean) 8 192 (1) (272) [.ref o, .int k0] P f (fun x N f1 => x = some (.int (bz (isLt T.v k0 ∧ ¬ T.v 31 = 60))) ∧ N.length ≤ 1 ∧ ∃ D' C', cS G (P ++ N) f1 o D' C' (if isLt T.v k0 ∧ ¬ T.v 31 = 60 then (sndV T.v, sndA T.v T.A (T.A 32 (ix k0)) (T.A 33 (ix k0)) (T.A 34 (ix k0)), kSn T.k) else T)) := by
  refine ct_intro (by decide) [some (.ref o), some (.int k0), none] rfl rfl (Nat.le_of_ble_eq_true rfl) ?_
  intro p e s m below meth c ls C hr hlk hnm hE hM hl
  have hg9 := gz_200 hS.cp.1 hS.al
  have hPN : P = P ++ [] := (List.append_nil P).symm
  refine lv_aload_n C.1 C.2.1 d_FF_twin_0 rfl (lo_at hl 0 rfl) ?_
  refine pg_get C hE hM hS.ff.1 hS.ff.2 rfl in_FF 1 (Nat.le_of_ble_eq_true rfl) tw_86 rfl rfl d_FF_twin_1 ?_
  refine lv_iload_n C.1 C.2.1 d_FF_twin_4 rfl (lo_at hl 1 rfl) ?_
  refine cg_callV C hE hM (k_Air_look l G _ _ hS.ar.1 hS.ar.2 _ _ _ hS.al (fun i hi => ⟨(hS.lt i hi).1, _, (hS.lt i hi).2⟩) (by omega) k0) hS.ar.1 hS.ar.2 rfl tw_141 cy_Air_look ⟨(Nat.le_of_ble_eq_true rfl), (Nat.le_of_ble_eq_true rfl)⟩ rfl hl.1 rfl (Nat.le_of_ble_eq_true rfl) ⟨by (try show _ ≤ 1); omega, by (try show _ ≤ 272); omega⟩ d_FF_twin_5 (fun x9 f11 H1 locs1 hp hM => ?_)
  obtain ⟨hp, h9⟩ := hp; rw [h9] at hM; clear h9; rcases hp with ⟨i, hk, hi, hx9⟩ | ⟨hk, hx9⟩
  · subst hx9
    subst hk
    refine W.eq (g2 := F0 m 8 ls [_]) rfl ?_
    refine lo_astore_n C hl d_FF_twin_8 (Nat.le_of_ble_eq_true rfl) rfl (fun ls hl => ?_)
    refine lv_aload_n C.1 C.2.1 d_FF_twin_9 rfl (lo_at hl 2 rfl) ?_
    refine lv_ifnull C.1 C.2.1 d_FF_twin_10 ?_
    refine lv_aload_n C.1 C.2.1 d_FF_twin_13 rfl (lo_at hl 0 rfl) ?_
    refine pg_get C hE hM hS.ff.1 hS.ff.2 rfl in_FF 1 (Nat.le_of_ble_eq_true rfl) tw_86 rfl rfl d_FF_twin_14 ?_
    refine lv_aload_n C.1 C.2.1 d_FF_twin_17 rfl (lo_at hl 2 rfl) ?_
    refine cg_callVA C hE hM (k_Air_send l G _ _ hS.ar.1 hS.ar.2 _ _ _ hS.al hS.lw (fun i hi => oOk_let (hS.lt i hi).1 (hS.lt i hi).2) (by omega) (by have := hS.cp.1; omega) _ (oOk_let (hS.lt i hi).1 (hS.lt i hi).2)) hS.ar.1 hS.ar.2 rfl tw_212 cy_Air_send ⟨(Nat.le_of_ble_eq_true rfl), (Nat.le_of_ble_eq_true rfl)⟩ rfl hl.1 rfl (Nat.le_of_ble_eq_true rfl) ⟨by (try show _ ≤ 1); omega, by show 0 + gzc (C9 0) (T.k.N 1) ≤ 272; have := gz_200 hS.cp.1 hS.al; omega⟩ d_FF_twin_18 (fun x9 N1 P1 f12 H1 locs1 hP1 hp hM => ?_)
    rcases hp with ⟨hn6, hx9, hN9, hl9, hf9⟩ | ⟨hn6, hx9, hN9, hf9⟩
    · subst hx9
      rw [hP1] at hM
      have hPN : P ++ N1 = P ++ N1 := rfl
      refine W.eq (g2 := F0 m 21 ls [_]) rfl ?_
      refine lv_if_eq (tgt := 28) C.1 C.2.1 d_FF_twin_21 (by decide) (fun hc21 => False.elim (absurd hc21 (by decide))) (fun hc21 => ?_)
      refine lv_iconst (v := 1) C.1 C.2.1 d_FF_twin_24 (by decide) ?_
      refine lv_goto (tgt := 29) C.1 C.2.1 d_FF_twin_25 (by decide) ?_
      refine pg_zret C hr hlk hM hPN (by omega) (by omega) d_FF_twin_29 (by decide) ?_
      have hn : isLt T.v (nI i) ∧ ¬ T.v 31 = 60 := ⟨(isLt_iff hn1 h31).mpr ⟨i, rfl, hi⟩, fun z => by rw [h31] at z; have := nI_inj (by omega) (by decide) (z.trans (show (60 : Int32) = nI 60 from rfl)); omega⟩
      rw [bz_T hn, if_pos hn, show ix (nI i) = i from nI_clamp (by omega)]
      exact ⟨rfl, hN9, hS.sn (ids_ne hE).1 (ids_ne hE).2 (fun y hy => List.mem_append_left _ hy) hn6 h31 hl9 hf9 (hS.lt i hi).1 (hS.lt i hi).2⟩
    · subst hx9
      rw [hP1, hN9, List.append_nil, hf9] at hM
      refine W.eq (g2 := F0 m 21 ls [_]) rfl ?_
      refine lv_if_eq (tgt := 28) C.1 C.2.1 d_FF_twin_21 (by decide) (fun hc21 => ?_) (fun hc21 => False.elim (hc21 rfl))
      refine lv_iconst (v := 0) C.1 C.2.1 d_FF_twin_28 (by decide) ?_
      refine pg_zret C hr hlk hM hPN (by omega) (by omega) d_FF_twin_29 (by decide) ?_
      have hn : ¬ (isLt T.v (nI i) ∧ ¬ T.v 31 = 60) := fun z => z.2 (by rw [h31, show T.k.N 1 = 60 by omega]; rfl)
      rw [bz_F hn, if_neg hn]
      exact ⟨rfl, by simp, D, C9, by rw [List.append_nil]; exact hS⟩
  · subst hx9
    refine W.eq (g2 := F0 m 8 ls [_]) rfl ?_
    refine lo_astore_nN C hl d_FF_twin_8 (Nat.le_of_ble_eq_true rfl) rfl (fun ls hl => ?_)
    refine lv_aload_nN C.1 C.2.1 d_FF_twin_9 rfl (lo_at hl 2 rfl) ?_
    refine lv_ifnullN (tgt := 28) C.1 C.2.1 d_FF_twin_10 (by decide) ?_
    refine lv_iconst (v := 0) C.1 C.2.1 d_FF_twin_28 (by decide) ?_
    refine pg_zret C hr hlk hM hPN (by omega) (by omega) d_FF_twin_29 (by decide) ?_
    have hn : ¬ (isLt T.v k0 ∧ ¬ T.v 31 = 60) := fun z => hk ((isLt_iff hn1 h31).mp z.1)
    rw [bz_F hn, if_neg hn]
    exact ⟨rfl, by simp, D, C9, by rw [List.append_nil]; exact hS⟩
