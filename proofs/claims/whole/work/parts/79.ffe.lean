section CSP
variable {G : GG} {P : List Nat} {f f1 : Nat → va_E} {o : Nat} {D : Nat → Nat → Nat} {C : Nat → Nat} {T T' : TS}
theorem cS.vput (h : cS G P f o D C T) (h35 : G.2.1 3 ≠ G.2.1 5) (h45 : G.2.1 4 ≠ G.2.1 5) {u : Nat} (hu : u < T.k.N 0) (hv : T'.v = T.v) (hA : ∀ j, crA j = true → j ≠ 23 → j ≠ 24 → j ≠ 25 → j ≠ 26 → j ≠ 28 → T'.A j = T.A j) (hN : T'.k.N = T.k.N) (hq1 : T'.k.q 1 = T.k.q 1) (hce : T'.k.ce = T.k.ce) (htm : T'.k.tm = T.k.tm) (hxo : ∀ x, x ≠ u → vhF D T' x = vhF D T x) (hf : f1 = va_up f (D 1 u) (.inr (8, vhF D T' u))) : cS G P f1 o D C T' :=
  h.veh (wr_x hf (h.vh u hu).2 (by decide) h.lw) h35 h45 hu hv hA hN hq1 hce htm hxo (by rw [hf, va_up_self])
/-- it has just moved, or not -/
theorem cS.put9 (h : cS G P f o D C T) (h35 : G.2.1 3 ≠ G.2.1 5) (h45 : G.2.1 4 ≠ G.2.1 5) {u : Nat} (hu : u < T.k.N 0) {x : Int32} (hf : f1 = va_up f (D 1 u) (.inr (8, [.int (nI u), .int (T.A 6 u), .ref (D 2 u), .int (T.A 23 u), .int (T.A 24 u), .int (T.A 25 u), .int (T.A 26 u), .int (T.A 28 u), .int (T.k.X 0 u), .int x]))) : cS G P f1 o D C (T.v, T.A, KS.mk T.k.N T.k.q T.k.ce T.k.tm (va_up T.k.X 1 (va_up (T.k.X 1) u x))) := by
  refine h.vput h35 h45 hu rfl (fun _ _ _ _ _ _ _ => rfl) rfl rfl rfl rfl (fun y hy => ?_) ?_
  · show [_, _, _, _, _, _, _, _, _, Value.int (va_up (T.k.X 1) u x y)] = _
    rw [va_up_ne _ _ hy]
    rfl
  · rw [hf]
    show _ = va_up f (D 1 u) (.inr (8, [_, _, _, _, _, _, _, _, _, Value.int (va_up (T.k.X 1) u x u)]))
    rw [va_up_self]
    rfl
theorem cS.put3 (h : cS G P f o D C T) (h35 : G.2.1 3 ≠ G.2.1 5) (h45 : G.2.1 4 ≠ G.2.1 5) {u : Nat} (hu : u < T.k.N 0) {x : Int32} (hf : f1 = va_up f (D 1 u) (.inr (8, [.int (nI u), .int (T.A 6 u), .ref (D 2 u), .int x, .int (T.A 24 u), .int (T.A 25 u), .int (T.A 26 u), .int (T.A 28 u), .int (T.k.X 0 u), .int (T.k.X 1 u)]))) : cS G P f1 o D C (T.v, va_up T.A 23 (upd (T.A 23) u x), T.k) := by
  refine h.vput h35 h45 hu rfl (fun j _ hj _ _ _ _ => va_up_ne _ _ hj) rfl rfl rfl rfl (fun y hy => ?_) ?_
  · show [_, _, _, Value.int (upd (T.A 23) u x y), _, _, _, _, _, _] = _
    rw [upd_ne _ _ hy]
    rfl
  · rw [hf]
    show _ = va_up f (D 1 u) (.inr (8, [_, _, _, Value.int (upd (T.A 23) u x u), _, _, _, _, _, _]))
    rw [upd_self]
    rfl
theorem cS.put6 (h : cS G P f o D C T) (h35 : G.2.1 3 ≠ G.2.1 5) (h45 : G.2.1 4 ≠ G.2.1 5) {u : Nat} (hu : u < T.k.N 0) {x : Int32} (hf : f1 = va_up f (D 1 u) (.inr (8, [.int (nI u), .int (T.A 6 u), .ref (D 2 u), .int (T.A 23 u), .int (T.A 24 u), .int (T.A 25 u), .int x, .int (T.A 28 u), .int (T.k.X 0 u), .int (T.k.X 1 u)]))) : cS G P f1 o D C (T.v, va_up T.A 26 (upd (T.A 26) u x), T.k) := by
  refine h.vput h35 h45 hu rfl (fun j _ _ _ _ hj _ => va_up_ne _ _ hj) rfl rfl rfl rfl (fun y hy => ?_) ?_
  · show [_, _, _, _, _, _, Value.int (upd (T.A 26) u x y), _, _, _] = _
    rw [upd_ne _ _ hy]
    rfl
  · rw [hf]
    show _ = va_up f (D 1 u) (.inr (8, [_, _, _, _, _, _, Value.int (upd (T.A 26) u x u), _, _, _]))
    rw [upd_self]
    rfl
theorem cS.put7 (h : cS G P f o D C T) (h35 : G.2.1 3 ≠ G.2.1 5) (h45 : G.2.1 4 ≠ G.2.1 5) {u : Nat} (hu : u < T.k.N 0) {x : Int32} (hf : f1 = va_up f (D 1 u) (.inr (8, [.int (nI u), .int (T.A 6 u), .ref (D 2 u), .int (T.A 23 u), .int (T.A 24 u), .int (T.A 25 u), .int (T.A 26 u), .int x, .int (T.k.X 0 u), .int (T.k.X 1 u)]))) : cS G P f1 o D C (T.v, va_up T.A 28 (upd (T.A 28) u x), T.k) := by
  refine h.vput h35 h45 hu rfl (fun j _ _ _ _ _ hj => va_up_ne _ _ hj) rfl rfl rfl rfl (fun y hy => ?_) ?_
  · show [_, _, _, _, _, _, _, Value.int (upd (T.A 28) u x y), _, _] = _
    rw [upd_ne _ _ hy]
    rfl
  · rw [hf]
    show _ = va_up f (D 1 u) (.inr (8, [_, _, _, _, _, _, _, Value.int (upd (T.A 28) u x u), _, _]))
    rw [upd_self]
    rfl
/-- a task's carrier, its end -/
theorem cS.tput (h : cS G P f o D C T) (h35 : G.2.1 3 ≠ G.2.1 5) (h45 : G.2.1 4 ≠ G.2.1 5) {t : Nat} (ht : t < T.k.N 2) {x y : Int32} (hf : f1 = va_up f (D 4 t) (.inr (7, [.int (T.A 11 t), .int (T.A 12 t), .int x, .int y]))) : cS G P f1 o D C (T.v, va_up (va_up T.A 13 (upd (T.A 13) t x)) 18 (upd (T.A 18) t y), T.k) := by
  refine h.tsk (wr_x hf (h.tk t ht).2 (by decide) h.lw) h35 h45 ht rfl (fun j _ h13 h18 => ?_) rfl (fun z hz => ?_) ?_
  · show va_up (va_up T.A 13 _) 18 _ j = _
    rw [va_up_ne _ _ h18, va_up_ne _ _ h13]
  · show upd (T.A 13) t x z = _ ∧ upd (T.A 18) t y z = _
    rw [upd_ne _ _ hz, upd_ne _ _ hz]
    exact ⟨rfl, rfl⟩
  · rw [hf, va_up_self]
    show _ = Sum.inr (7, [_, _, Value.int (upd (T.A 13) t x t), Value.int (upd (T.A 18) t y t)])
    rw [upd_self, upd_self]
    rfl
end CSP
def finA (T : TS) (u : Nat) : Nat → Int32 := fun t => if t < T.k.N 4 ∧ T.A 28 u = nI t ∧ T.k.X 0 u = T.A 23 u then T.v 30 else T.A 18 t
set_option maxHeartbeats 4000000 in
set_option maxRecDepth 100000 in
theorem k_FF_noteFinish (l : Launch) (G : GG) {P : List Nat} {f : Nat → va_E} {o : Nat} {D : Nat → Nat → Nat} {C9 : Nat → Nat} {T : TS} (hS : cS G P f o D C9 T) (u : Nat) (hu : u < T.k.N 0) (hla : T.A 28 u = -1 ∨ ∃ t, t < T.k.N 4 ∧ T.A 28 u = nI t) (hn4 : T.k.N 4 ≤ T.k.N 2) (hn2 : T.k.N 2 ≤ 24)  : ct0 l G y_FF_noteFinish c_FF_noteFinish 2 none 3 64 [.ref o, .ref (D 1 u)] P f (fun x f1 => x = none ∧ cS G P f1 o D C9 (T.v, va_up T.A 18 (finA T u), T.k)) := by
  refine ct_intro (by decide) [some (.ref o), some (.ref (D 1 u))] rfl rfl (Nat.le_of_ble_eq_true rfl) ?_
  intro p e s m below meth c ls C hr hlk hnm hE hM hl
  refine lv_aload_n C.1 C.2.1 d_FF_noteFinish_0 rfl (lo_at hl 1 rfl) ?_
  refine pg_getN C hE hM (hS.vh u hu).1 (hS.vh u hu).2 rfl in_Veh 3 (Nat.le_of_ble_eq_true rfl) nw_482 rfl rfl d_FF_noteFinish_1 ?_
  refine lv_aload_n C.1 C.2.1 d_FF_noteFinish_4 rfl (lo_at hl 1 rfl) ?_
  refine pg_getN C hE hM (hS.vh u hu).1 (hS.vh u hu).2 rfl in_Veh 8 (Nat.le_of_ble_eq_true rfl) nw_493 rfl rfl d_FF_noteFinish_5 ?_
  refine lv_icmp_ne (tgt := 53) C.1 C.2.1 d_FF_noteFinish_8 (by decide) (fun hc8 => ?_) (fun hc8 => ?_)
  · refine cg_vret C hr hlk hM d_FF_noteFinish_53 ?_
    refine ⟨rfl, ?_⟩
    have e : finA T u = T.A 18 := by
      funext t
      exact if_neg (fun z => hc8 z.2.2.symm)
    rw [e, va_same rfl]
    exact hS
  · refine lv_aload_n C.1 C.2.1 d_FF_noteFinish_11 rfl (lo_at hl 1 rfl) ?_
    refine pg_getN C hE hM (hS.vh u hu).1 (hS.vh u hu).2 rfl in_Veh 7 (Nat.le_of_ble_eq_true rfl) nw_490 rfl rfl d_FF_noteFinish_12 ?_
    refine lv_if_lt (tgt := 53) C.1 C.2.1 d_FF_noteFinish_15 (by decide) (fun hc15 => ?_) (fun hc15 => ?_)
    · refine cg_vret C hr hlk hM d_FF_noteFinish_53 ?_
      refine ⟨rfl, ?_⟩
      have e : finA T u = T.A 18 := by
        funext t
        refine if_neg (fun z => ?_)
        rw [z.2.1] at hc15
        exact nI_nn (by have := z.1; omega) hc15
      rw [e, va_same rfl]
      exact hS
    · obtain ⟨t, ht4, h28⟩ : ∃ t, t < T.k.N 4 ∧ T.A 28 u = nI t := hla.resolve_left (fun z => by rw [z] at hc15; exact hc15 (by decide))
      have ht : t < T.k.N 2 := by omega
      have hgt : nI t < nI (T.k.N 2) := (nI_ltI (by omega) (by omega)).mpr ht
      refine lv_aload_n C.1 C.2.1 d_FF_noteFinish_18 rfl (lo_at hl 1 rfl) ?_
      refine pg_getN C hE hM (hS.vh u hu).1 (hS.vh u hu).2 rfl in_Veh 7 (Nat.le_of_ble_eq_true rfl) nw_490 rfl rfl d_FF_noteFinish_19 ?_
      refine lv_aload_n C.1 C.2.1 d_FF_noteFinish_22 rfl (lo_at hl 0 rfl) ?_
      refine pg_get C hE hM hS.ff.1 hS.ff.2 rfl in_FF 2 (Nat.le_of_ble_eq_true rfl) tw_87 rfl rfl d_FF_noteFinish_23 ?_
      obtain ⟨_, _, hc_tl⟩ := hS.tl.cell
      refine cg_callV C hE hM (q_size l G hS.tl) hS.tl.1 hc_tl rfl tw_287 cy_AL_size ⟨(Nat.le_of_ble_eq_true rfl), (Nat.le_of_ble_eq_true rfl)⟩ rfl hl.1 rfl (Nat.le_of_ble_eq_true rfl) ⟨Nat.zero_le _, Nat.zero_le _⟩ d_FF_noteFinish_26 (fun x9 f11 H1 locs1 hp hM => ?_)
      obtain ⟨rfl, h9⟩ := hp
      rw [h9] at hM
      clear h9
      refine W.eq (g2 := F0 m 29 ls [_, _]) rfl ?_
      refine lv_icmp_ge (tgt := 53) C.1 C.2.1 d_FF_noteFinish_29 (by decide) (fun hc29 => False.elim (absurd hc29 (by rw [h28, Int32.not_le]; exact hgt))) (fun hc29 => ?_)
      refine lv_aload_n C.1 C.2.1 d_FF_noteFinish_32 rfl (lo_at hl 0 rfl) ?_
      refine pg_get C hE hM hS.ff.1 hS.ff.2 rfl in_FF 2 (Nat.le_of_ble_eq_true rfl) tw_87 rfl rfl d_FF_noteFinish_33 ?_
      refine lv_aload_n C.1 C.2.1 d_FF_noteFinish_36 rfl (lo_at hl 1 rfl) ?_
      refine pg_getN C hE hM (hS.vh u hu).1 (hS.vh u hu).2 rfl in_Veh 7 (Nat.le_of_ble_eq_true rfl) nw_490 rfl rfl d_FF_noteFinish_37 ?_
      rw [h28]
      obtain ⟨_, _, hc_tl⟩ := hS.tl.cell
      refine cg_callV C hE hM (q_get l G hS.tl t ht) hS.tl.1 hc_tl rfl tw_292 cy_AL_get ⟨(Nat.le_of_ble_eq_true rfl), (Nat.le_of_ble_eq_true rfl)⟩ rfl hl.1 rfl (Nat.le_of_ble_eq_true rfl) ⟨Nat.zero_le _, Nat.zero_le _⟩ d_FF_noteFinish_40 (fun x9 f12 H1 locs1 hp hM => ?_)
      obtain ⟨rfl, h9⟩ := hp
      rw [h9] at hM
      clear h9
      refine W.eq (g2 := F0 m 43 ls [_]) rfl ?_
      refine cg_cast C hE hM (hS.tk t ht).1 (hS.tk t ht).2 rfl tw_303 d_FF_noteFinish_43 ?_
      refine lv_aload_n C.1 C.2.1 d_FF_noteFinish_46 rfl (lo_at hl 0 rfl) ?_
      refine pg_get C hE hM hS.ff.1 hS.ff.2 rfl in_FF 7 (Nat.le_of_ble_eq_true rfl) tw_92 rfl rfl d_FF_noteFinish_47 ?_
      refine cg_putN C hE hM (hS.tk t ht).1 (hS.tk t ht).2 rfl in_Tsk ok_Tsk n_Tsk 3 (Nat.le_of_ble_eq_true rfl) nw_594 rfl rfl rfl rfl rfl (Nat.le_of_ble_eq_true rfl) d_FF_noteFinish_50 (fun f13 H1 locs1 hf13 hM => ?_)
      have hS := hS.tput (ids_ne hE).1 (ids_ne hE).2 ht hf13
      refine cg_vret C hr hlk hM d_FF_noteFinish_53 ?_
      refine ⟨rfl, ?_⟩
      have e : finA T u = upd (T.A 18) t (T.v 30) := by
        funext s
        unfold finA
        by_cases q : s = t
        · subst q
          rw [if_pos ⟨ht4, h28, hc8.symm⟩, upd_self]
        · rw [upd_ne _ _ q, if_neg (fun z => q (nI_inj (by omega) (by omega) (z.2.1.symm.trans h28)))]
      rw [e]
      have e2 : va_up T.A 13 (upd (T.A 13) t (T.A 13 t)) = T.A := by rw [upd_same rfl]; exact va_same rfl
      rw [e2] at hS
      exact hS
