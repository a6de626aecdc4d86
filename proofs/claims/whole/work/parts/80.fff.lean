theorem moL_KJ {v : Nat → Int32} {A : Nat → Nat → Int32} {T : TS} (hJ : JI v A T.k) (hq : eqC v A T.v T.A) : ∀ u, u ≤ T.k.N 0 → ∃ v' A', JI v' A' (moL u T).k ∧ eqC v' A' (moL u T).v (moL u T).A := by
  intro u
  induction u with
  | zero => exact fun _ => ⟨v, A, hJ, hq⟩
  | succ u ih =>
    intro hu
    obtain ⟨v', A', h1, h2⟩ := ih (by omega)
    have hN := (moL_k T u).1
    have hu' : u < (moL u T).k.N 0 := by rw [hN]; omega
    obtain ⟨m1, m2⟩ := h1.mo h2 hu'
    by_cases c : (moL u T).k.q 2 u < (moL u T).k.q 3 u
    · exact ⟨_, _, m1 c⟩
    · exact ⟨_, _, m2 c⟩
theorem moL_X (T : TS) : ∀ n u, u < n → (moL n T).k.X 1 u = 0 ∨ (moL n T).k.X 1 u = 1 := by
  intro n
  induction n with
  | zero => intro u h; omega
  | succ n ih =>
    intro u hu
    show (moT (moL n T) n).k.X 1 u = 0 ∨ (moT (moL n T) n).k.X 1 u = 1
    by_cases c : (moL n T).k.q 2 n < (moL n T).k.q 3 n
    · have e : (moT (moL n T) n).k.X 1 = va_up ((moL n T).k.X 1) n 1 := by unfold moT; rw [if_pos c]; rfl
      rw [e]
      by_cases q : u = n
      · subst q; rw [va_up_self]; exact Or.inr rfl
      · rw [va_up_ne _ _ q]; exact ih u (by omega)
    · have e : (moT (moL n T) n).k.X 1 = va_up ((moL n T).k.X 1) n 0 := by unfold moT; rw [if_neg c]; rfl
      rw [e]
      by_cases q : u = n
      · subst q; rw [va_up_self]; exact Or.inl rfl
      · rw [va_up_ne _ _ q]; exact ih u (by omega)
theorem cS.mo1 {G : GG} {P : List Nat} {f : Nat → va_E} {o : Nat} {D : Nat → Nat → Nat} {C : Nat → Nat} {T T1 T2 : TS} {u : Nat} {x : Int32} (hT1 : T1 = (T.v, T.A, KS.mk T.k.N T.k.q T.k.ce T.k.tm (va_up T.k.X 1 (va_up (T.k.X 1) u x)))) (hx : x = 1) (hT2 : T2 = (T1.v, va_up T1.A 23 (upd (T1.A 23) u (T1.A 23 u + 1)), T1.k)) (h : cS G P f o D C (T2.v, va_up T2.A 18 (finA T2 u), T2.k)) (hm : T.k.q 2 u < T.k.q 3 u) (hA : T.A 23 u = nI (T.k.q 2 u)) : cS G P f o D C (moT T u) := by
  subst hT1; subst hT2; subst hx
  have e : moT T u = (T.v, va_up (va_up T.A 18 (fin18 (T.v 30) (T.k.N 4) (T.k.X 0 u) (T.k.q 2 u) (T.A 28 u) (T.A 18))) 23 (upd (T.A 23) u (nI (T.k.q 2 u + 1))), KS.mk T.k.N (va_up T.k.q 2 (va_up (T.k.q 2) u (T.k.q 2 u + 1))) T.k.ce T.k.tm (va_up T.k.X 1 (va_up (T.k.X 1) u 1))) := by unfold moT; rw [if_pos hm]
  rw [e]
  have e1 : T.A 23 u + 1 = nI (T.k.q 2 u + 1) := by rw [hA, show (1 : Int32) = nI 1 from rfl, nI_add]
  refine h.congr ⟨fun _ _ => rfl, fun j _ => ?_⟩ rfl rfl rfl rfl rfl
  show va_up (va_up T.A 23 (upd (T.A 23) u (T.A 23 u + 1))) 18 (finA (T.v, va_up T.A 23 (upd (T.A 23) u (T.A 23 u + 1)), KS.mk T.k.N T.k.q T.k.ce T.k.tm (va_up T.k.X 1 (va_up (T.k.X 1) u 1))) u) j = va_up (va_up T.A 18 (fin18 (T.v 30) (T.k.N 4) (T.k.X 0 u) (T.k.q 2 u) (T.A 28 u) (T.A 18))) 23 (upd (T.A 23) u (nI (T.k.q 2 u + 1))) j
  have e2 : finA (T.v, va_up T.A 23 (upd (T.A 23) u (T.A 23 u + 1)), KS.mk T.k.N T.k.q T.k.ce T.k.tm (va_up T.k.X 1 (va_up (T.k.X 1) u 1))) u = fin18 (T.v 30) (T.k.N 4) (T.k.X 0 u) (T.k.q 2 u) (T.A 28 u) (T.A 18) := by
    funext t
    unfold finA fin18
    show (if t < T.k.N 4 ∧ T.A 28 u = nI t ∧ T.k.X 0 u = upd (T.A 23) u (T.A 23 u + 1) u then T.v 30 else T.A 18 t) = _
    simp only [upd_self, e1]
  rw [e2, e1, va_comm T.A _ _ (show (23 : Nat) ≠ 18 by decide)]
theorem cS.mo0 {G : GG} {P : List Nat} {f : Nat → va_E} {o : Nat} {D : Nat → Nat → Nat} {C : Nat → Nat} {T T1 : TS} {u : Nat} {x : Int32} (hT1 : T1 = (T.v, T.A, KS.mk T.k.N T.k.q T.k.ce T.k.tm (va_up T.k.X 1 (va_up (T.k.X 1) u x)))) (hx : x = 0) (h : cS G P f o D C T1) (hm : ¬ T.k.q 2 u < T.k.q 3 u) : cS G P f o D C (moT T u) := by
  subst hT1; subst hx
  have e : moT T u = (T.v, T.A, KS.mk T.k.N T.k.q T.k.ce T.k.tm (va_up T.k.X 1 (va_up (T.k.X 1) u 0))) := by unfold moT; rw [if_neg hm]
  rw [e]
  exact h
set_option maxHeartbeats 4000000 in
set_option maxRecDepth 100000 in
theorem k_FF_makeMoves (l : Launch) (G : GG) {P : List Nat} {f : Nat → va_E} {o : Nat} {D : Nat → Nat → Nat} {C9 : Nat → Nat} {T : TS} (hS : cS G P f o D C9 T) {v : Nat → Int32} {A : Nat → Nat → Int32} (hJ : JI v A T.k) (hq : eqC v A T.v T.A)  : ct0 l G y_FF_makeMoves c_FF_makeMoves 4 (some .int) 4 85 [.ref o] P f (fun x f1 => x = some (.int (nI (moN T (T.k.N 0)))) ∧ cS G P f1 o D C9 (moL (T.k.N 0) T)) := by
  refine ct_intro (by decide) [some (.ref o), none, none, none] rfl rfl (Nat.le_of_ble_eq_true rfl) ?_
  intro p e s m below meth c ls C hr hlk hnm hE hM hl
  refine lv_iconst (v := 0) C.1 C.2.1 d_FF_makeMoves_0 (by decide) ?_
  refine lo_istore_n C hl d_FF_makeMoves_1 (Nat.le_of_ble_eq_true rfl) rfl (fun ls hl => ?_)
  refine lv_iconst (v := 0) C.1 C.2.1 d_FF_makeMoves_2 (by decide) ?_
  refine lo_istore_n C hl d_FF_makeMoves_3 (Nat.le_of_ble_eq_true rfl) rfl (fun ls hl => ?_)
  refine W.loop (α := (Nat) × (Array Slot) × (Heap) × (List Loc) × (Nat → va_E)) (fun zz => 6 - zz.1) (fun zz => (zz.1 ≤ 6) ∧ (cS G P zz.2.2.2.2 o D C9 (moL zz.1 T)) ∧ (zz.1 ≤ T.k.N 0) ∧ lo zz.2.1 [some (.ref o), some (.int (nI (moN T zz.1))), some (.int (nI zz.1)), none] ∧ pgS G (pgA P s.heap.size) s.heap P zz.2.2.2.2 zz.2.2.1 zz.2.2.2.1) (fun zz => zz.2.2.1) (fun zz => zz.2.2.2.1) (fun zz => 0) (fun zz => 0) (fun zz => F0 m 4 zz.2.1 []) ?_ (0, ls, s.heap, [], f) ⟨Nat.zero_le _, hS, Nat.zero_le _, lo_weak hl ⟨rfl, rfl, rfl, trivial⟩, hM⟩
  rintro ⟨u, ls, H1, locs1, f1⟩ ⟨hu1, hS, hu2, hl, hM⟩ ih4
  dsimp only at hu1 hS hu2 hl hM
  show W _ _ _ _ _ _ _ _ _ _ _ _ _ _ _ (F0 m 4 ls [])
  have hb6 := hJ.n0.2
  have hbN : (moL u T).k.N 0 ≤ 6 := by rw [(moL_k T u).1]; exact hb6
  refine lv_iload_n C.1 C.2.1 d_FF_makeMoves_4 rfl (lo_at hl 2 rfl) ?_
  refine lv_aload_n C.1 C.2.1 d_FF_makeMoves_5 rfl (lo_at hl 0 rfl) ?_
  refine pg_get C hE hM hS.ff.1 hS.ff.2 rfl in_FF 3 (Nat.le_of_ble_eq_true rfl) tw_88 rfl rfl d_FF_makeMoves_6 ?_
  refine pg_alen C hE hM hS.va.1 (t0 := 3) (Nat.le_of_ble_eq_true rfl) hS.va.2 d_FF_makeMoves_9 ?_
  refine lv_icmp_ge (tgt := 59) C.1 C.2.1 d_FF_makeMoves_10 (by decide) (fun hc10 => ?_) (fun hc10 => ?_)
  · refine lv_iload_n C.1 C.2.1 d_FF_makeMoves_59 rfl (lo_at hl 1 rfl) ?_
    refine cg_iret C hr hlk hM d_FF_makeMoves_60 ?_
    have hu9 : (moL u T).k.N 0 ≤ u := nI_leN (by omega) (by omega) hc10
    rw [(moL_k T u).1] at hu9
    have hue : u = T.k.N 0 := by omega
    subst hue
    exact ⟨rfl, hS⟩
  · obtain ⟨v', A', hJ', hq'⟩ := moL_KJ hJ hq u (by have := nI_ltN (by omega) (by omega) hc10; rw [(moL_k T u).1] at this; omega)
    have hu : u < (moL u T).k.N 0 := nI_ltN (by omega) (by omega) hc10
    refine lv_aload_n C.1 C.2.1 d_FF_makeMoves_13 rfl (lo_at hl 0 rfl) ?_
    refine pg_get C hE hM hS.ff.1 hS.ff.2 rfl in_FF 3 (Nat.le_of_ble_eq_true rfl) tw_88 rfl rfl d_FF_makeMoves_14 ?_
    refine lv_iload_n C.1 C.2.1 d_FF_makeMoves_17 rfl (lo_at hl 2 rfl) ?_
    refine cg_aald C hE hM hS.va.1 hS.va.2 rfl u rfl hu (by omega) rfl d_FF_makeMoves_18 ?_
    refine lo_astore_n C hl d_FF_makeMoves_19 (Nat.le_of_ble_eq_true rfl) rfl (fun ls hl => ?_)
    refine lv_aload_n C.1 C.2.1 d_FF_makeMoves_20 rfl (lo_at hl 3 rfl) ?_
    refine lv_aload_n C.1 C.2.1 d_FF_makeMoves_21 rfl (lo_at hl 3 rfl) ?_
    refine cg_callV C hE hM (k_Veh_canMove l G _ _ _ _ _ _ _ _ _ _ _ (hS.vh u hu).1 (hS.vh u hu).2 _ _ _ (hS.vl u hu)) (hS.vh u hu).1 (hS.vh u hu).2 rfl tw_617 cy_Veh_canMove ⟨(Nat.le_of_ble_eq_true rfl), (Nat.le_of_ble_eq_true rfl)⟩ rfl hl.1 rfl (Nat.le_of_ble_eq_true rfl) ⟨Nat.zero_le _, Nat.zero_le _⟩ d_FF_makeMoves_22 (fun x9 f11 H1 locs1 hp hM => ?_)
    obtain ⟨rfl, h9⟩ := hp
    rw [h9] at hM
    clear h9
    refine W.eq (g2 := F0 m 25 ls [_, _]) rfl ?_
    refine cg_putN C hE hM (hS.vh u hu).1 (hS.vh u hu).2 rfl in_Veh ok_Veh n_Veh 9 (Nat.le_of_ble_eq_true rfl) nw_495 rfl rfl rfl (by unfold bz; split <;> rfl) (by unfold bz; split <;> rfl) (Nat.le_of_ble_eq_true rfl) d_FF_makeMoves_25 (fun f12 H1 locs1 hf12 hM => ?_)
    obtain ⟨T1, hT1, hS⟩ : ∃ T1 : TS, T1 = ((moL u T).v, (moL u T).A, KS.mk (moL u T).k.N (moL u T).k.q (moL u T).k.ce (moL u T).k.tm (va_up (moL u T).k.X 1 (va_up ((moL u T).k.X 1) u (bz ((moL u T).A 23 u < (moL u T).A 24 u ∧ (moL u T).A 23 u < nI ((moL u T).k.q 1 u)))))) ∧ cS G P f12 o D C9 T1 := ⟨_, rfl, hS.put9 (ids_ne hE).1 (ids_ne hE).2 hu hf12⟩
    have hX1 : T1.k.X 1 u = bz ((moL u T).A 23 u < (moL u T).A 24 u ∧ (moL u T).A 23 u < nI ((moL u T).k.q 1 u)) := by rw [hT1]; exact va_up_self _ _ _
    have huT := hu
    replace hu : u < T1.k.N 0 := by rw [hT1]; exact hu
    have hcu := hJ'.cn u huT
    have hcm : ((moL u T).A 23 u < (moL u T).A 24 u ∧ (moL u T).A 23 u < nI ((moL u T).k.q 1 u)) ↔ (moL u T).k.q 2 u < (moL u T).k.q 3 u := by
      have hb := hJ'.qb huT
      rw [← hq'.2 23 rfl, ← hq'.2 24 rfl, hcu.1.2.1, hcu.1.2.2.1, nI_ltI (by omega) (by omega), nI_ltI (by omega) (by omega)]
      omega
    obtain ⟨mk1, mk2, mk3, mk4⟩ := moL_k T u
    refine lv_aload_n C.1 C.2.1 d_FF_makeMoves_28 rfl (lo_at hl 3 rfl) ?_
    refine pg_getN C hE hM (hS.vh u hu).1 (hS.vh u hu).2 rfl in_Veh 9 (Nat.le_of_ble_eq_true rfl) nw_495 rfl rfl d_FF_makeMoves_29 ?_
    rw [hX1]
    refine lv_if_eq (tgt := 53) C.1 C.2.1 d_FF_makeMoves_32 (by decide) (fun hc32 => ?_) (fun hc32 => ?_)
    · replace hc32 := bz_0.mp hc32
      refine lo_iinc C hl d_FF_makeMoves_53 rfl rfl (fun ls hl => ?_)
      refine lv_goto (tgt := 4) C.1 C.2.1 d_FF_makeMoves_56 (by decide) ?_
      have hm : ¬ (moL u T).k.q 2 u < (moL u T).k.q 3 u := fun z => hc32 (hcm.mpr z)
      have hS := hS.mo0 hT1 (bz_F hc32) hm
      have hmN : moN T (u + 1) = moN T u := by
        show moN T u + _ = _
        rw [if_neg]; rfl
        rw [← mk2, ← mk3 u (Nat.le_refl _)]; exact hm
      have h9 := hl
      rw [nI_pl, ← hmN] at h9
      exact ih4 (u + 1, ls, H1, locs1, f12) ⟨by have := hJ'.n0.2; omega, hS, by have := huT; rw [mk1] at this; omega, lo_weak h9 ⟨rfl, rfl, rfl, trivial⟩, hM⟩ (by show 6 - (u + 1) < 6 - u; have := hJ'.n0.2; omega)
    · replace hc32 := bz_1.mp hc32
      refine lo_iinc C hl d_FF_makeMoves_35 rfl rfl (fun ls hl => ?_)
      refine lv_aload_n C.1 C.2.1 d_FF_makeMoves_38 rfl (lo_at hl 3 rfl) ?_
      refine lv_dup C.1 C.2.1 d_FF_makeMoves_39 rfl ?_
      refine pg_getN C hE hM (hS.vh u hu).1 (hS.vh u hu).2 rfl in_Veh 3 (Nat.le_of_ble_eq_true rfl) nw_482 rfl rfl d_FF_makeMoves_40 ?_
      refine lv_iconst (v := 1) C.1 C.2.1 d_FF_makeMoves_43 (by decide) ?_
      refine lv_iadd C.1 C.2.1 d_FF_makeMoves_44 ?_
      refine cg_putN C hE hM (hS.vh u hu).1 (hS.vh u hu).2 rfl in_Veh ok_Veh n_Veh 3 (Nat.le_of_ble_eq_true rfl) nw_482 rfl rfl rfl rfl rfl (Nat.le_of_ble_eq_true rfl) d_FF_makeMoves_45 (fun f13 H1 locs1 hf13 hM => ?_)
      obtain ⟨T2, hT2, hS⟩ : ∃ T2 : TS, T2 = (T1.v, va_up T1.A 23 (upd (T1.A 23) u (T1.A 23 u + 1)), T1.k) ∧ cS G P f13 o D C9 T2 := ⟨_, rfl, hS.put3 (ids_ne hE).1 (ids_ne hE).2 hu hf13⟩
      replace hu : u < T2.k.N 0 := by rw [hT2]; exact hu
      have hla : T2.A 28 u = -1 ∨ ∃ t, t < T2.k.N 4 ∧ T2.A 28 u = nI t := by
        have e28 : T2.A 28 u = A' 28 u := by rw [hT2, hT1, hq'.2 28 rfl]; rfl
        have e4 : T2.k.N 4 = (moL u T).k.N 4 := by rw [hT2, hT1]
        rw [e28, e4]
        rcases hJ'.la u huT with z | ⟨t, z1, z2, -⟩
        · exact Or.inl z.1
        · exact Or.inr ⟨t, z1, z2⟩
      have hn4 : T2.k.N 4 ≤ T2.k.N 2 := by rw [hT2, hT1]; exact hJ'.n4.2
      have hn2 : T2.k.N 2 ≤ 24 := by rw [hT2, hT1]; exact hJ'.n2.2
      refine lv_aload_n C.1 C.2.1 d_FF_makeMoves_48 rfl (lo_at hl 0 rfl) ?_
      refine lv_aload_n C.1 C.2.1 d_FF_makeMoves_49 rfl (lo_at hl 3 rfl) ?_
      refine cg_callV C hE hM (k_FF_noteFinish l G hS u hu hla hn4 hn2) hS.ff.1 hS.ff.2 rfl tw_621 cy_FF_noteFinish ⟨(Nat.le_of_ble_eq_true rfl), (Nat.le_of_ble_eq_true rfl)⟩ rfl hl.1 rfl (Nat.le_of_ble_eq_true rfl) ⟨Nat.zero_le _, Nat.zero_le _⟩ d_FF_makeMoves_50 (fun x9 f14 H1 locs1 hp hM => ?_)
      obtain ⟨hx9, hS⟩ := hp
      subst hx9
      refine W.eq (g2 := F0 m 53 ls []) rfl ?_
      refine lo_iinc C hl d_FF_makeMoves_53 rfl rfl (fun ls hl => ?_)
      refine lv_goto (tgt := 4) C.1 C.2.1 d_FF_makeMoves_56 (by decide) ?_
      have hm : (moL u T).k.q 2 u < (moL u T).k.q 3 u := hcm.mp hc32
      have hS := hS.mo1 hT1 (bz_T hc32) hT2 hm (by rw [← hq'.2 23 rfl]; exact hcu.1.2.1)
      have hmN : moN T (u + 1) = moN T u + 1 := by
        show moN T u + _ = _
        rw [if_pos]
        rw [← mk2, ← mk3 u (Nat.le_refl _)]; exact hm
      have h9 := hl
      rw [nI_pl, nI_pl, ← hmN] at h9
      exact ih4 (u + 1, ls, H1, locs1, f14) ⟨by have := hJ'.n0.2; omega, hS, by have := huT; rw [mk1] at this; omega, lo_weak h9 ⟨rfl, rfl, rfl, trivial⟩, hM⟩ (by show 6 - (u + 1) < 6 - u; have := hJ'.n0.2; omega)
