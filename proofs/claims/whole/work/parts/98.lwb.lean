theorem tkT_v1 (T : TS) : (tkT T).v 1 = T.v 1 := by
  have hgr : ∀ T u, (grC T u).v 1 = T.v 1 := fun T u => by
    have h2 : (grE1 T u).v 1 = T.v 1 := by show upd T.v 29 (nI ((grK u (T.k.q 1 u - T.k.q 5 u) T.k).N 6)) 1 = T.v 1; exact upd_ne _ _ (by decide)
    unfold grC
    split
    · exact (snd_v1 _).trans h2
    · exact h2
  have hgL : ∀ T u, (grL2 u T).v 1 = T.v 1 := fun T u => by
    induction u with
    | zero => rfl
    | succ u ih => exact (hgr _ _).trans ih
  have hpl : ∀ n T, (plL n T).v 1 = T.v 1 := fun n => by
    induction n with
    | zero => intro T; rfl
    | succ n ih =>
      intro T
      by_cases c : ∃ T', plN T T'
      · obtain ⟨T', hT⟩ := c
        rw [plL_s hT, ih T']
        obtain ⟨-, w, e, -, -, rfl⟩ := hT
        show upd T.v 10 (T.v 10 + 1) 1 = T.v 1
        exact upd_ne _ _ (by decide)
      · rw [plL_e (fun T' z => c ⟨T', z⟩)]
  have htp : ∀ T, (tkPl T).v 1 = T.v 1 := fun T => by
    unfold tkPl
    split
    · exact hpl _ _
    · rfl
  have e : (tkT T).v = upd (grL2 (T.k.N 0) (tkPl (snL (T.k.N 0) (moL (T.k.N 0) T)))).v 30 ((grL2 (T.k.N 0) (tkPl (snL (T.k.N 0) (moL (T.k.N 0) T)))).v 30 + 1) := rfl
  rw [e, upd_ne _ _ (by decide), hgL, htp, snL_v1, moL_v1]
theorem tkT_KJ {T : TS} (hJ : JI T.v T.A T.k) : (tkT T).k.N 4 ≤ 24 ∧ T.k.N 4 ≤ (tkT T).k.N 4 := by
  obtain ⟨v1, A1, hJ1, hq1⟩ := moL_KJ hJ (eqC.refl _ _) (T.k.N 0) (Nat.le_refl _)
  obtain ⟨v2, A2, hJ2, hq2⟩ := snL_KJ hJ1 hq1 (T.k.N 0) (by rw [(moL_k T (T.k.N 0)).1]; exact Nat.le_refl _)
  have hK : KJ (tkPl (snL (T.k.N 0) (moL (T.k.N 0) T))) := by
    unfold tkPl
    split
    · exact plL_KJ _ _ ⟨v2, A2, hJ2, hq2⟩
    · exact ⟨v2, A2, hJ2, hq2⟩
  obtain ⟨v3, A3, hJ3, -⟩ := hK
  rw [tkT_N4]
  refine ⟨hJ3.np, ?_⟩
  have h := (tkPl_k (snL (T.k.N 0) (moL (T.k.N 0) T))).2.2
  rw [(tk_k T).1] at h
  exact h
theorem eqC.symm {v v' : Nat → Int32} {A A' : Nat → Nat → Int32} (h : eqC v A v' A') : eqC v' A' v A := ⟨fun j hj => (h.1 j hj).symm, fun j hj => (h.2 j hj).symm⟩
theorem lw_N1 {v : Nat → Int32} {A : Nat → Nat → Int32} {k : KS} (hJ : JI v A k) (hv : v 1 = 0) : k.N 0 = 0 ∧ k.N 1 = 0 ∧ k.N 2 = 0 ∧ k.N 3 = 0 ∧ ∀ u, u < 6 → A 23 u = 0 ∧ A 24 u = 0 ∧ A 25 u = 0 ∧ A 26 u = 0 := by
  rcases hJ.op with h | h
  · refine ⟨h.2.1, ?_, h.2.2.1, h.2.2.2.1, fun u hu => ⟨(h.2.2.2.2 u hu).1, (h.2.2.2.2 u hu).2.1, (h.2.2.2.2 u hu).2.2.1, (h.2.2.2.2 u hu).2.2.2.1⟩⟩
    by_cases z : k.N 1 = 0
    · exact z
    · obtain ⟨w, n, -, hw, -⟩ := hJ.lt 0 (by omega)
      rw [h.2.1] at hw
      exact absurd hw (Nat.not_lt_zero _)
  · rw [h.1] at hv; cases hv
theorem JI.a78 {v : Nat → Int32} {A : Nat → Nat → Int32} {k : KS} (h : JI v A k) (x : Int32) (g pl : Nat → Int32) : JI (upd v 0 x) (va_up (va_up A 7 g) 8 pl) k := ⟨h.n0, h.n1, h.n2, h.n3, h.n4, h.n5, h.n6, h.op, h.kd, h.pk, h.pj, h.st, h.tk, h.cn, h.att, h.mv, h.gt, h.lt, h.t1, h.t2, h.la⟩
theorem eqC_78 (v : Nat → Int32) (A : Nat → Nat → Int32) (x : Int32) (g pl : Nat → Int32) : eqC v A (upd v 0 x) (va_up (va_up A 7 g) 8 pl) := ⟨fun j hj => (upd_ne _ _ (by rintro rfl; cases hj)).symm, fun j hj => by rw [va_up_ne _ _ (by rintro rfl; cases hj), va_up_ne _ _ (by rintro rfl; cases hj)]⟩
theorem lw_lift {l : Launch} {G : GG} {y : MethodName} {cc : ByteArray} {nL : Nat} {rt : Option FieldType} {fr lc mc ms : Nat} {av : List Value} {L PC : List Nat} {f : Nat → va_E} {x0 : Int32} {Ψ : List Nat → (Nat → va_E) → Prop} {o mo ou : Nat} {r : Nat → Nat} {T : TS} {D : Nat → Nat → Nat} {C9 : Nat → Nat} {v : Nat → Int32} {A : Nat → Nat → Int32} {B : Nat → Nat → Int64} {g : Nat → Int64} (hI : LI G L f o T PC D C9 mo r v A B ou) (hg : f ou = .inl (G.2.1 1, 1, .inr (.inl g))) (hc : ct l G y cc nL rt fr lc mc ms av PC f (fun x N f1 => x = some (.int x0) ∧ Ψ N f1)) : ct l G y cc nL rt fr lc mc ms av L f (fun x N f2 => x = some (.int x0) ∧ (∃ f1, Ψ N f1 ∧ (∀ q, q ∈ PC ∨ q ∈ N → f2 q = f1 q) ∧ ∀ q ∈ L, q ∉ PC → f2 q = f q) ∧ f2 ou = .inl (G.2.1 1, 1, .inr (.inl g))) :=
  ct_imp (ct_sub hc hI.sub hI.2.2.1) (fun x N f2 h => by
    obtain ⟨f1, ⟨a1, a2⟩, a3, a4⟩ := h
    exact ⟨a1, ⟨f1, a2, a3, a4⟩, (a4 ou hI.2.2.2.2.1.1 (fun z => (hI.2.2.2.1 ou z).2.2.2 rfl)).trans hg⟩)
theorem lw_tsk0 {v : Nat → Int32} {A : Nat → Nat → Int32} {k : KS} (hJ : JI v A k) (hv : v 1 = 1) (hn2 : k.N 2 < 24) {a b : Nat} (ha : a < k.N 3) (hb : b < k.N 3) : tskT v (nI a) (nI b) = 0 := by
  have h3 := hJ.n3.2
  have e1 : ¬ tsk1 v := by
    rintro (h | h)
    · rw [hv] at h; cases h
    · rw [hJ.n2.1] at h
      have := congrArg (fun z : Int32 => z.toNatClampNeg) h
      rw [nI_clamp (by omega), show (24 : Int32).toNatClampNeg = 24 from rfl] at this
      omega
  have e2 : ¬ tsk2 v (nI a) (nI b) := by
    rintro (h | h)
    · exact h ((inb_iff (by omega) hJ.n3.1).mpr ⟨a, rfl, ha⟩)
    · exact h ((inb_iff (by omega) hJ.n3.1).mpr ⟨b, rfl, hb⟩)
  show thr (bz (tsk1 v)) (bz (tsk2 v (nI a) (nI b))) = 0
  rw [bz_0.mpr e1, bz_0.mpr e2]
  decide
theorem lw_tskS {v : Nat → Int32} {A : Nat → Nat → Int32} {k : KS} (hJ : JI v A k) (h : v 1 = 0 ∨ ¬ k.N 2 < 24) (a b : Int32) : tskT v a b = 1 := by
  have h2 := hJ.n2.2
  have e1 : tsk1 v := h.imp id (fun h => by rw [hJ.n2.1, show k.N 2 = 24 by omega]; rfl)
  show thr (bz (tsk1 v)) (bz (tsk2 v a b)) = 1
  rw [show bz (tsk1 v) = 1 from if_pos e1]
  rfl
theorem lw_tskI {v : Nat → Int32} {A : Nat → Nat → Int32} {k : KS} (hJ : JI v A k) (hv : v 1 = 1) (hn2 : k.N 2 < 24) {a b : Int32} (h : ¬ (inb a 0 (v 3 - 1) ∧ inb b 0 (v 3 - 1))) : tskT v a b = 2 := by
  have e1 : ¬ tsk1 v := by
    rintro (h | h)
    · rw [hv] at h; cases h
    · rw [hJ.n2.1] at h
      have := congrArg (fun z : Int32 => z.toNatClampNeg) h
      rw [nI_clamp (by omega), show (24 : Int32).toNatClampNeg = 24 from rfl] at this
      omega
  have e2 : tsk2 v a b := by
    by_cases h1 : inb a 0 (v 3 - 1)
    · exact Or.inr (fun h2 => h ⟨h1, h2⟩)
    · exact Or.inl h1
  show thr (bz (tsk1 v)) (bz (tsk2 v a b)) = 2
  rw [bz_0.mpr e1, show bz (tsk2 v a b) = 1 from if_pos e2]
  decide
theorem upl_0 (g : Nat → Int64) (x : Int64) : upl g x 0 = x := by unfold upl vp_updL; simp
theorem lg_cmp_self (x : Int64) : lg_cmp x x = 0 := by unfold lg_cmp; simp
theorem lw_tick_ok {p : Program} {l : Launch} {e : Env} {s : State} {m : MethodId} {below : List Frame} {meth : Method} {c : Code} {b Lx i : Nat} {xs : Nat → Int32} {G : GG} {o mo ou : Nat} {r : Nat → Nat} {L PC : List Nat} {D : Nat → Nat → Nat} {C9 : Nat → Nat} {f : Nat → va_E} {v : Nat → Int32} {A : Nat → Nat → Int32} {B : Nat → Nat → Int64} {k : KS} {H : Heap} {locs : List Loc} {ls : Array Slot} (C : CallFix p m c c_Law_law 7 s #[Value.ref b] bg "FleetFloorLaw") (hE : ev G (pgA [] s.heap.size) s s.heap) (hX : va_X b Lx xs s s.heap) (hbl : b < s.heap.size) (hL : Lx ≤ 2048) (hi : 4 * i + 4 ≤ Lx) (hI : LI G L f o (v, A, k) PC D C9 mo r v A B ou) (hJ : JI v A k) (hM : pgS G (pgA [] s.heap.size) s.heap L f H locs) (hl : lo ls (lwV b o mo ou i)) (kk : lwK p l e s m below meth c b G o mo r ou i) (hv : v 1 = 1) : W p l e room_1 s m #[Value.ref b] below meth c H locs (lwC i v k) (lwS i v k) (lw_Z below #[Value.ref b] s) (F0 m 253 ls []) := by
  have hbA : ¬ pgA [] s.heap.size b := fun z => z.elim (fun z => absurd z List.not_mem_nil) (fun z => absurd hbl (Nat.not_lt.mpr z))
  obtain ⟨hw1, hw2⟩ := lwC_le (i := i) (v := v) (k := k) (by omega) hJ.np
  have h3 := ids_ne hE
  obtain ⟨ht1, ht2⟩ := tkT_KJ (T := (v, A, k)) hJ
  have ht2 : k.N 4 ≤ (tkT (v, A, k)).k.N 4 := ht2
  obtain ⟨g0, hg0⟩ := hI.2.2.2.2.2
  refine lv_aload_n C.1 C.2.1 d_Law_law_253 rfl (lo_at hl 1 rfl) ?_
  refine lv_aload_n C.1 C.2.1 d_Law_law_254 rfl (lo_at hl 3 rfl) ?_
  refine cg_callSH C hE hM (h_tick l G (lw_lift hI hg0 (k_FF_tick l G hI.1 (v := v) (A := A) hJ (eqC.refl _ _) hv)) hI.at hI.2.2.2.2.1.1) tw_605 cy_Law_tick ⟨(Nat.le_of_ble_eq_true rfl), (Nat.le_of_ble_eq_true rfl)⟩ rfl hl.1 rfl (Nat.le_of_ble_eq_true rfl) ⟨by show _ + (24 + ((tkT (v, A, k)).k.N 4 - k.N 4) * 300) ≤ 601024; omega, by show _ + (3300 + ((tkT (v, A, k)).k.N 4 - k.N 4) * 30000) ≤ 7293034; omega⟩ d_Law_law_255 (fun x9 N1 f3 H1 locs1 hp hM => ?_)
  obtain ⟨hx9, f2, ⟨f1, hΨ, h1, h2⟩, hf3⟩ := hp
  subst hx9
  have hnd := va_D.nd hM.2.1
  obtain ⟨D1, C1, hS⟩ := hΨ
  have hI := (hI.cls h3 hnd h1 h2 hS).out h3 hf3
  have hfo : f3 ou = .inl (G.2.1 1, 1, .inr (.inl (upl g0 _))) := (congrFun hf3 ou).trans (va_up_self _ _ _)
  refine W.eq (g2 := F0 m 258 ls [_]) rfl ?_
  refine lo_istore C hl d_Law_law_258 (Nat.le_of_ble_eq_true rfl) rfl (fun ls hl => ?_)
  refine lv_aload_n C.1 C.2.1 d_Law_law_260 rfl (lo_at hl 2 rfl) ?_
  refine cg_callVA C hE hM (k_Mod_tick l G mo r v A B (T := (v, A, k)) hJ (eqC.refl _ _) hv _ _ hI.2.1) hI.2.1.1.1 hI.2.1.2.2.1.1 rfl tw_970 cy_Mod_tick ⟨(Nat.le_of_ble_eq_true rfl), (Nat.le_of_ble_eq_true rfl)⟩ rfl hl.1 rfl (Nat.le_of_ble_eq_true rfl) ⟨by show _ + (24 + ((tkT (v, A, k)).k.N 4 - k.N 4) * 300) + 0 ≤ 601024; omega, by show _ + (3300 + ((tkT (v, A, k)).k.N 4 - k.N 4) * 30000) + 0 ≤ 7293034; omega⟩ d_Law_law_261 (fun x9 N2 L2 f4 H1 locs1 hL2 hp hM => ?_)
  obtain ⟨hN2, v', A', B', ⟨hx9, hJ', hq', hv0⟩, hm⟩ := hp
  subst hx9
  rw [hN2, List.append_nil] at hL2
  rw [hL2] at hM
  have hfo : f4 ou = _ := (hm.2.2.2 ou hI.2.2.2.2.1.2.1 hI.2.2.2.2.1.2.2).trans hfo
  have hI := hI.mod h3 hm
  refine W.eq (g2 := F0 m 264 ls [_]) rfl ?_
  refine lo_istore C hl d_Law_law_264 (Nat.le_of_ble_eq_true rfl) rfl (fun ls hl => ?_)
  refine lv_aload_n C.1 C.2.1 d_Law_law_266 rfl (lo_at hl 2 rfl) ?_
  refine cg_callVA C hE hM (k_Mod_thrown l G mo r _ _ _ _ _ hI.2.1) hI.2.1.1.1 hI.2.1.2.2.1.1 rfl tw_904 cy_Mod_thrown ⟨(Nat.le_of_ble_eq_true rfl), (Nat.le_of_ble_eq_true rfl)⟩ rfl hl.1 rfl (Nat.le_of_ble_eq_true rfl) ⟨by show _ + (24 + ((tkT (v, A, k)).k.N 4 - k.N 4) * 300) + 0 + 0 ≤ 601024; omega, by show _ + (3300 + ((tkT (v, A, k)).k.N 4 - k.N 4) * 30000) + 0 + 0 ≤ 7293034; omega⟩ d_Law_law_267 (fun x9 N3 L3 f5 H1 locs1 hL3 hp hM => ?_)
  obtain ⟨hN3, v5, A5, B5, ⟨hx9, hv5, hA5, hB5⟩, hm5⟩ := hp
  subst hx9
  rw [hN3, List.append_nil] at hL3
  rw [hL3] at hM
  rw [hv5, hA5, hB5] at hm5
  have hfo : f5 ou = _ := (hm5.2.2.2 ou hI.2.2.2.2.1.2.1 hI.2.2.2.2.1.2.2).trans hfo
  have hI := hI.mod h3 hm5
  refine W.eq (g2 := F0 m 270 ls [_]) rfl ?_
  refine lv_iload C.1 C.2.1 d_Law_law_270 (lo_at hl 5 rfl) ?_
  refine lv_icmp_eq (tgt := 277) C.1 C.2.1 d_Law_law_272 (by decide) (fun _ => ?_) (fun h => False.elim (h hv0))
  refine lv_iload C.1 C.2.1 d_Law_law_277 (lo_at hl 5 rfl) ?_
  refine lv_if_ne (tgt := 294) C.1 C.2.1 d_Law_law_279 (by decide) (fun h => False.elim (h rfl)) (fun _ => ?_)
  refine lv_aload_n C.1 C.2.1 d_Law_law_282 rfl (lo_at hl 3 rfl) ?_
  refine lv_iconst (v := 0) C.1 C.2.1 d_Law_law_283 (by decide) ?_
  refine pg_lald C hE hM hI.2.2.2.2.1.1 hfo (i := 0) (by unfold vp_in; decide) d_Law_law_284 ?_
  refine lv_iload C.1 C.2.1 d_Law_law_285 (lo_at hl 6 rfl) ?_
  refine lv_i2l C.1 C.2.1 d_Law_law_287 rfl ?_
  refine W.lcmp C.1 C.2.1 d_Law_law_288 ?_
  refine lv_if_eq (tgt := 294) C.1 C.2.1 d_Law_law_289 (by decide) (fun _ => ?_) (fun h => False.elim (h (by rw [show (0 : Int32).toNatClampNeg = 0 from rfl, upl_0]; exact lg_cmp_self _)))
  refine lv_goto (tgt := 570) C.1 C.2.1 d_Law_law_294 (by decide) ?_
  have hl := lo_weak hl (vs' := lwV b o mo ou i) ⟨rfl, rfl, rfl, rfl, rfl, trivial⟩
  have hv1 : v' 1 = 1 := by rw [hq'.1 1 rfl, tkT_v1]; exact hv
  refine lw_go kk hI hJ' hq'.symm rfl rfl rfl rfl rfl hM hl ?_ ?_
  · unfold lwC
    rw [hv, hv1]
    show _ + (24 + ((tkT (v, A, k)).k.N 4 - k.N 4) * 300) + 0 + 0 ≤ _
    omega
  · unfold lwS
    rw [hv, hv1]
    show _ + (3300 + ((tkT (v, A, k)).k.N 4 - k.N 4) * 30000) + 0 + 0 ≤ _
    omega
theorem lw_tick_S {p : Program} {l : Launch} {e : Env} {s : State} {m : MethodId} {below : List Frame} {meth : Method} {c : Code} {b Lx i : Nat} {xs : Nat → Int32} {G : GG} {o mo ou : Nat} {r : Nat → Nat} {L PC : List Nat} {D : Nat → Nat → Nat} {C9 : Nat → Nat} {f : Nat → va_E} {v : Nat → Int32} {A : Nat → Nat → Int32} {B : Nat → Nat → Int64} {k : KS} {H : Heap} {locs : List Loc} {ls : Array Slot} (C : CallFix p m c c_Law_law 7 s #[Value.ref b] bg "FleetFloorLaw") (hE : ev G (pgA [] s.heap.size) s s.heap) (hX : va_X b Lx xs s s.heap) (hbl : b < s.heap.size) (hL : Lx ≤ 2048) (hi : 4 * i + 4 ≤ Lx) (hI : LI G L f o (v, A, k) PC D C9 mo r v A B ou) (hJ : JI v A k) (hM : pgS G (pgA [] s.heap.size) s.heap L f H locs) (hl : lo ls (lwV b o mo ou i)) (kk : lwK p l e s m below meth c b G o mo r ou i) (hfl : l.flags = flags0) (hv : v 1 = 0) : W p l e room_1 s m #[Value.ref b] below meth c H locs (lwC i v k) (lwS i v k) (lw_Z below #[Value.ref b] s) (F0 m 253 ls []) := by
  have hbA : ¬ pgA [] s.heap.size b := fun z => z.elim (fun z => absurd z List.not_mem_nil) (fun z => absurd hbl (Nat.not_lt.mpr z))
  obtain ⟨hw1, hw2⟩ := lwC_le (i := i) (v := v) (k := k) (by omega) hJ.np
  have h3 := ids_ne hE
  obtain ⟨g0, hg0⟩ := hI.2.2.2.2.2
  refine lv_aload_n C.1 C.2.1 d_Law_law_253 rfl (lo_at hl 1 rfl) ?_
  refine lv_aload_n C.1 C.2.1 d_Law_law_254 rfl (lo_at hl 3 rfl) ?_
  refine cg_callSH C hE hM (h_tickxS l G (ou := ou) (ctX_sub (x_FF_tick l G hfl hI.1 hv) hI.sub hI.2.2.1) hI.at) tw_605 cy_Law_tick ⟨(Nat.le_of_ble_eq_true rfl), (Nat.le_of_ble_eq_true rfl)⟩ rfl hl.1 rfl (Nat.le_of_ble_eq_true rfl) ⟨by show _ ≤ 601024; omega, by show _ ≤ 7293034; omega⟩ d_Law_law_255 (fun x9 N1 f3 H1 locs1 hp hM => ?_)
  obtain ⟨hx9, hN1, hf3⟩ := hp
  subst hx9
  rw [hN1, List.append_nil, hf3] at hM
  refine W.eq (g2 := F0 m 258 ls [_]) rfl ?_
  refine lo_istore C hl d_Law_law_258 (Nat.le_of_ble_eq_true rfl) rfl (fun ls hl => ?_)
  refine lv_aload_n C.1 C.2.1 d_Law_law_260 rfl (lo_at hl 2 rfl) ?_
  refine cg_callVA C hE hM (k_Mod_tick0 l G mo r v A B hv _ _ hI.2.1) hI.2.1.1.1 hI.2.1.2.2.1.1 rfl tw_970 cy_Mod_tick ⟨(Nat.le_of_ble_eq_true rfl), (Nat.le_of_ble_eq_true rfl)⟩ rfl hl.1 rfl (Nat.le_of_ble_eq_true rfl) ⟨by show _ ≤ 601024; omega, by show _ ≤ 7293034; omega⟩ d_Law_law_261 (fun x9 N2 L2 f4 H1 locs1 hL2 hp hM => ?_)
  obtain ⟨hN2, v', A', B', ⟨hx9, hv', hA', hB'⟩, hm⟩ := hp
  rw [hv', hA'] at hm
  subst hv'
  subst hx9
  rw [hN2, List.append_nil] at hL2
  rw [hL2] at hM
  have hI := hI.mod h3 hm
  refine W.eq (g2 := F0 m 264 ls [_]) rfl ?_
  refine lo_istore C hl d_Law_law_264 (Nat.le_of_ble_eq_true rfl) rfl (fun ls hl => ?_)
  refine lv_aload_n C.1 C.2.1 d_Law_law_266 rfl (lo_at hl 2 rfl) ?_
  refine cg_callVA C hE hM (k_Mod_thrown l G mo r _ _ _ _ _ hI.2.1) hI.2.1.1.1 hI.2.1.2.2.1.1 rfl tw_904 cy_Mod_thrown ⟨(Nat.le_of_ble_eq_true rfl), (Nat.le_of_ble_eq_true rfl)⟩ rfl hl.1 rfl (Nat.le_of_ble_eq_true rfl) ⟨by show _ ≤ 601024; omega, by show _ ≤ 7293034; omega⟩ d_Law_law_267 (fun x9 N3 L3 f5 H1 locs1 hL3 hp hM => ?_)
  obtain ⟨hN3, v5, A5, B5, ⟨hx9, hv5, hA5, hB5⟩, hm5⟩ := hp
  subst hx9
  rw [hN3, List.append_nil] at hL3
  rw [hL3] at hM
  rw [hv5, hA5, hB5] at hm5
  have hI := hI.mod h3 hm5
  refine W.eq (g2 := F0 m 270 ls [_]) rfl ?_
  refine lv_iload C.1 C.2.1 d_Law_law_270 (lo_at hl 5 rfl) ?_
  refine lv_icmp_eq (tgt := 277) C.1 C.2.1 d_Law_law_272 (by decide) (fun _ => ?_) (fun h => False.elim (h rfl))
  refine lv_iload C.1 C.2.1 d_Law_law_277 (lo_at hl 5 rfl) ?_
  refine lv_if_ne (tgt := 294) C.1 C.2.1 d_Law_law_279 (by decide) (fun _ => ?_) (fun h => by cases h)
  refine lv_goto (tgt := 570) C.1 C.2.1 d_Law_law_294 (by decide) ?_
  have hl := lo_weak hl (vs' := lwV b o mo ou i) ⟨rfl, rfl, rfl, rfl, rfl, trivial⟩
  exact lw_go kk hI (hJ.v0 1) (eqC_0 v A 1) rfl rfl rfl rfl rfl hM hl (Nat.le_trans (Nat.le_of_eq (by omega)) (lwC_up (a := 1) (v := v) (k := k) rfl rfl (Nat.le_of_ble_eq_true rfl))) (Nat.le_trans (Nat.le_of_eq (by omega)) (lwS_up (a := 6) (v := v) (k := k) rfl rfl (Nat.le_of_ble_eq_true rfl)))
theorem lw_task_ok {p : Program} {l : Launch} {e : Env} {s : State} {m : MethodId} {below : List Frame} {meth : Method} {c : Code} {b Lx i : Nat} {xs : Nat → Int32} {G : GG} {o mo ou : Nat} {r : Nat → Nat} {L PC : List Nat} {D : Nat → Nat → Nat} {C9 : Nat → Nat} {f : Nat → va_E} {v : Nat → Int32} {A : Nat → Nat → Int32} {B : Nat → Nat → Int64} {k : KS} {H : Heap} {locs : List Loc} {ls : Array Slot} (C : CallFix p m c c_Law_law 7 s #[Value.ref b] bg "FleetFloorLaw") (hE : ev G (pgA [] s.heap.size) s s.heap) (hX : va_X b Lx xs s s.heap) (hbl : b < s.heap.size) (hL : Lx ≤ 2048) (hi : 4 * i + 4 ≤ Lx) (hI : LI G L f o (v, A, k) PC D C9 mo r v A B ou) (hJ : JI v A k) (hM : pgS G (pgA [] s.heap.size) s.heap L f H locs) (hl : lo ls (lwV b o mo ou i)) (kk : lwK p l e s m below meth c b G o mo r ou i) (hv : v 1 = 1) (hn2 : k.N 2 < 24) (a b9 : Nat) (ea : xs (4 * i + 1) = nI a) (eb : xs (4 * i + 2) = nI b9) (ha : a < k.N 3) (hb : b9 < k.N 3) : W p l e room_1 s m #[Value.ref b] below meth c H locs (lwC i v k) (lwS i v k) (lw_Z below #[Value.ref b] s) (F0 m 185 ls []) := by
  have hbA : ¬ pgA [] s.heap.size b := fun z => z.elim (fun z => absurd z List.not_mem_nil) (fun z => absurd hbl (Nat.not_lt.mpr z))
  obtain ⟨hw1, hw2⟩ := lwC_le (i := i) (v := v) (k := k) (by omega) hJ.np
  have h3 := ids_ne hE
  have hT : tskT v (nI a) (nI b9) = 0 := lw_tsk0 hJ hv hn2 ha hb
  obtain ⟨g0, hg0⟩ := hI.2.2.2.2.2
  refine lv_aload_n C.1 C.2.1 d_Law_law_185 rfl (lo_at hl 1 rfl) ?_
  refine lw_arg C hX hbl hbA hM.2.2.1 hl rfl rfl hi hL 1 (Nat.le_of_ble_eq_true rfl) (by decide) d_Law_law_186 d_Law_law_187 d_Law_law_189 d_Law_law_190 d_Law_law_191 ?_
  refine lw_arg C hX hbl hbA hM.2.2.1 hl rfl rfl hi hL 2 (Nat.le_of_ble_eq_true rfl) (by decide) d_Law_law_192 d_Law_law_193 d_Law_law_195 d_Law_law_196 d_Law_law_197 ?_
  refine lv_aload_n C.1 C.2.1 d_Law_law_198 rfl (lo_at hl 3 rfl) ?_
  rw [ea, eb]
  refine cg_callSH C hE hM (h_task l G _ _ (lw_lift hI hg0 (k_FF_task l G hI.1 hv hn2 hJ.n2.1 hJ.n3.2 hJ.n3.1 a b9 ha hb)) hI.at hI.2.2.2.2.1.1) tw_569 cy_Law_task ⟨(Nat.le_of_ble_eq_true rfl), (Nat.le_of_ble_eq_true rfl)⟩ rfl hl.1 rfl (Nat.le_of_ble_eq_true rfl) ⟨by show _ ≤ 601024; omega, by show _ ≤ 7293034; omega⟩ d_Law_law_199 (fun x9 N1 f3 H1 locs1 hp hM => ?_)
  obtain ⟨hx9, f2, ⟨f1, hΨ, h1, h2⟩, hf3⟩ := hp
  subst hx9
  have hnd := va_D.nd hM.2.1
  obtain ⟨D1, C1, hS⟩ := hΨ
  have hI := (hI.cls h3 hnd h1 h2 hS).out h3 hf3
  have hfo : f3 ou = .inl (G.2.1 1, 1, .inr (.inl (upl g0 _))) := (congrFun hf3 ou).trans (va_up_self _ _ _)
  refine W.eq (g2 := F0 m 202 ls [_]) rfl ?_
  refine lo_istore C hl d_Law_law_202 (Nat.le_of_ble_eq_true rfl) rfl (fun ls hl => ?_)
  refine lv_aload_n C.1 C.2.1 d_Law_law_204 rfl (lo_at hl 2 rfl) ?_
  refine lw_arg C hX hbl hbA hM.2.2.1 hl rfl rfl hi hL 1 (Nat.le_of_ble_eq_true rfl) (by decide) d_Law_law_205 d_Law_law_206 d_Law_law_208 d_Law_law_209 d_Law_law_210 ?_
  refine lw_arg C hX hbl hbA hM.2.2.1 hl rfl rfl hi hL 2 (Nat.le_of_ble_eq_true rfl) (by decide) d_Law_law_211 d_Law_law_212 d_Law_law_214 d_Law_law_215 d_Law_law_216 ?_
  rw [ea, eb]
  refine cg_callVA C hE hM (k_Mod_task l G mo r v A B _ _ hJ.n2.2 hJ.n2.1 hJ.n3.2 hJ.n3.1 _ _ hI.2.1) hI.2.1.1.1 hI.2.1.2.2.1.1 rfl tw_934 cy_Mod_task ⟨(Nat.le_of_ble_eq_true rfl), (Nat.le_of_ble_eq_true rfl)⟩ rfl hl.1 rfl (Nat.le_of_ble_eq_true rfl) ⟨by show _ ≤ 601024; omega, by show _ ≤ 7293034; omega⟩ d_Law_law_217 (fun x9 N2 L2 f4 H1 locs1 hL2 hp hM => ?_)
  obtain ⟨hN2, v', A', B', ⟨hx9, hv', hA', hB'⟩, hm⟩ := hp
  rw [if_pos hT] at hx9 hv' hA'
  rw [hJ.n2.1] at hx9
  rw [hv', hA'] at hm
  subst hv'
  subst hx9
  rw [hN2, List.append_nil] at hL2
  rw [hL2] at hM
  have hfo : f4 ou = _ := (hm.2.2.2 ou hI.2.2.2.2.1.2.1 hI.2.2.2.2.1.2.2).trans hfo
  have hI := hI.mod h3 hm
  refine W.eq (g2 := F0 m 220 ls [_]) rfl ?_
  refine lo_istore C hl d_Law_law_220 (Nat.le_of_ble_eq_true rfl) rfl (fun ls hl => ?_)
  refine lv_aload_n C.1 C.2.1 d_Law_law_222 rfl (lo_at hl 2 rfl) ?_
  refine cg_callVA C hE hM (k_Mod_thrown l G mo r _ _ _ _ _ hI.2.1) hI.2.1.1.1 hI.2.1.2.2.1.1 rfl tw_904 cy_Mod_thrown ⟨(Nat.le_of_ble_eq_true rfl), (Nat.le_of_ble_eq_true rfl)⟩ rfl hl.1 rfl (Nat.le_of_ble_eq_true rfl) ⟨by show _ ≤ 601024; omega, by show _ ≤ 7293034; omega⟩ d_Law_law_223 (fun x9 N3 L3 f5 H1 locs1 hL3 hp hM => ?_)
  obtain ⟨hN3, v5, A5, B5, ⟨hx9, hv5, hA5, hB5⟩, hm5⟩ := hp
  subst hx9
  rw [hN3, List.append_nil] at hL3
  rw [hL3] at hM
  rw [hv5, hA5, hB5] at hm5
  have hfo : f5 ou = _ := (hm5.2.2.2 ou hI.2.2.2.2.1.2.1 hI.2.2.2.2.1.2.2).trans hfo
  have hI := hI.mod h3 hm5
  refine W.eq (g2 := F0 m 226 ls [_]) rfl ?_
  refine lv_iload C.1 C.2.1 d_Law_law_226 (lo_at hl 5 rfl) ?_
  refine lv_icmp_eq (tgt := 233) C.1 C.2.1 d_Law_law_228 (by decide) (fun _ => ?_) (fun h => False.elim (h rfl))
  refine lv_iload C.1 C.2.1 d_Law_law_233 (lo_at hl 5 rfl) ?_
  refine lv_if_ne (tgt := 250) C.1 C.2.1 d_Law_law_235 (by decide) (fun h => False.elim (h rfl)) (fun _ => ?_)
  refine lv_aload_n C.1 C.2.1 d_Law_law_238 rfl (lo_at hl 3 rfl) ?_
  refine lv_iconst (v := 0) C.1 C.2.1 d_Law_law_239 (by decide) ?_
  refine pg_lald C hE hM hI.2.2.2.2.1.1 hfo (i := 0) (by unfold vp_in; decide) d_Law_law_240 ?_
  refine lv_iload C.1 C.2.1 d_Law_law_241 (lo_at hl 6 rfl) ?_
  refine lv_i2l C.1 C.2.1 d_Law_law_243 rfl ?_
  refine W.lcmp C.1 C.2.1 d_Law_law_244 ?_
  refine lv_if_eq (tgt := 250) C.1 C.2.1 d_Law_law_245 (by decide) (fun _ => ?_) (fun h => False.elim (h (by rw [show (0 : Int32).toNatClampNeg = 0 from rfl, upl_0]; exact lg_cmp_self _)))
  refine lv_goto (tgt := 570) C.1 C.2.1 d_Law_law_250 (by decide) ?_
  have hl := lo_weak hl (vs' := lwV b o mo ou i) ⟨rfl, rfl, rfl, rfl, rfl, trivial⟩
  exact lw_go kk hI ((hJ.v0 0).tsk ha hb hn2 hv) ((eqC_0 v _ 0).updV 9 rfl) rfl rfl rfl rfl rfl hM hl (Nat.le_trans (Nat.le_of_eq (by omega)) (lwC_up (a := 2) (v := v) (k := k) rfl rfl (Nat.le_of_ble_eq_true rfl))) (Nat.le_trans (Nat.le_of_eq (by omega)) (lwS_up (a := 276) (v := v) (k := k) rfl rfl (Nat.le_of_ble_eq_true rfl)))
theorem lw_task_S {p : Program} {l : Launch} {e : Env} {s : State} {m : MethodId} {below : List Frame} {meth : Method} {c : Code} {b Lx i : Nat} {xs : Nat → Int32} {G : GG} {o mo ou : Nat} {r : Nat → Nat} {L PC : List Nat} {D : Nat → Nat → Nat} {C9 : Nat → Nat} {f : Nat → va_E} {v : Nat → Int32} {A : Nat → Nat → Int32} {B : Nat → Nat → Int64} {k : KS} {H : Heap} {locs : List Loc} {ls : Array Slot} (C : CallFix p m c c_Law_law 7 s #[Value.ref b] bg "FleetFloorLaw") (hE : ev G (pgA [] s.heap.size) s s.heap) (hX : va_X b Lx xs s s.heap) (hbl : b < s.heap.size) (hL : Lx ≤ 2048) (hi : 4 * i + 4 ≤ Lx) (hI : LI G L f o (v, A, k) PC D C9 mo r v A B ou) (hJ : JI v A k) (hM : pgS G (pgA [] s.heap.size) s.heap L f H locs) (hl : lo ls (lwV b o mo ou i)) (kk : lwK p l e s m below meth c b G o mo r ou i) (hfl : l.flags = flags0) (hv : v 1 = 0 ∨ ¬ k.N 2 < 24) : W p l e room_1 s m #[Value.ref b] below meth c H locs (lwC i v k) (lwS i v k) (lw_Z below #[Value.ref b] s) (F0 m 185 ls []) := by
  have hbA : ¬ pgA [] s.heap.size b := fun z => z.elim (fun z => absurd z List.not_mem_nil) (fun z => absurd hbl (Nat.not_lt.mpr z))
  obtain ⟨hw1, hw2⟩ := lwC_le (i := i) (v := v) (k := k) (by omega) hJ.np
  have h3 := ids_ne hE
  have hT := lw_tskS hJ hv (xs (4 * i + 1)) (xs (4 * i + 2))
  obtain ⟨g0, hg0⟩ := hI.2.2.2.2.2
  refine lv_aload_n C.1 C.2.1 d_Law_law_185 rfl (lo_at hl 1 rfl) ?_
  refine lw_arg C hX hbl hbA hM.2.2.1 hl rfl rfl hi hL 1 (Nat.le_of_ble_eq_true rfl) (by decide) d_Law_law_186 d_Law_law_187 d_Law_law_189 d_Law_law_190 d_Law_law_191 ?_
  refine lw_arg C hX hbl hbA hM.2.2.1 hl rfl rfl hi hL 2 (Nat.le_of_ble_eq_true rfl) (by decide) d_Law_law_192 d_Law_law_193 d_Law_law_195 d_Law_law_196 d_Law_law_197 ?_
  refine lv_aload_n C.1 C.2.1 d_Law_law_198 rfl (lo_at hl 3 rfl) ?_
  refine cg_callSH C hE hM (h_taskxS l G (ou := ou) _ _ (ctX_sub (x_FF_taskS l G hfl hI.1 hv hJ.n2.2 _ _) hI.sub hI.2.2.1) hI.at) tw_569 cy_Law_task ⟨(Nat.le_of_ble_eq_true rfl), (Nat.le_of_ble_eq_true rfl)⟩ rfl hl.1 rfl (Nat.le_of_ble_eq_true rfl) ⟨by show _ ≤ 601024; omega, by show _ ≤ 7293034; omega⟩ d_Law_law_199 (fun x9 N1 f3 H1 locs1 hp hM => ?_)
  obtain ⟨hx9, hN1, hf3⟩ := hp
  subst hx9
  rw [hN1, List.append_nil, hf3] at hM
  refine W.eq (g2 := F0 m 202 ls [_]) rfl ?_
  refine lo_istore C hl d_Law_law_202 (Nat.le_of_ble_eq_true rfl) rfl (fun ls hl => ?_)
  refine lv_aload_n C.1 C.2.1 d_Law_law_204 rfl (lo_at hl 2 rfl) ?_
  refine lw_arg C hX hbl hbA hM.2.2.1 hl rfl rfl hi hL 1 (Nat.le_of_ble_eq_true rfl) (by decide) d_Law_law_205 d_Law_law_206 d_Law_law_208 d_Law_law_209 d_Law_law_210 ?_
  refine lw_arg C hX hbl hbA hM.2.2.1 hl rfl rfl hi hL 2 (Nat.le_of_ble_eq_true rfl) (by decide) d_Law_law_211 d_Law_law_212 d_Law_law_214 d_Law_law_215 d_Law_law_216 ?_
  refine cg_callVA C hE hM (k_Mod_task l G mo r v A B _ _ hJ.n2.2 hJ.n2.1 hJ.n3.2 hJ.n3.1 _ _ hI.2.1) hI.2.1.1.1 hI.2.1.2.2.1.1 rfl tw_934 cy_Mod_task ⟨(Nat.le_of_ble_eq_true rfl), (Nat.le_of_ble_eq_true rfl)⟩ rfl hl.1 rfl (Nat.le_of_ble_eq_true rfl) ⟨by show _ ≤ 601024; omega, by show _ ≤ 7293034; omega⟩ d_Law_law_217 (fun x9 N2 L2 f4 H1 locs1 hL2 hp hM => ?_)
  obtain ⟨hN2, v', A', B', ⟨hx9, hv', hA', hB'⟩, hm⟩ := hp
  rw [hT, if_neg (by decide)] at hx9 hv' hA'
  rw [hv', hA'] at hm
  subst hv'
  subst hx9
  rw [hN2, List.append_nil] at hL2
  rw [hL2] at hM
  have hI := hI.mod h3 hm
  refine W.eq (g2 := F0 m 220 ls [_]) rfl ?_
  refine lo_istore C hl d_Law_law_220 (Nat.le_of_ble_eq_true rfl) rfl (fun ls hl => ?_)
  refine lv_aload_n C.1 C.2.1 d_Law_law_222 rfl (lo_at hl 2 rfl) ?_
  refine cg_callVA C hE hM (k_Mod_thrown l G mo r _ _ _ _ _ hI.2.1) hI.2.1.1.1 hI.2.1.2.2.1.1 rfl tw_904 cy_Mod_thrown ⟨(Nat.le_of_ble_eq_true rfl), (Nat.le_of_ble_eq_true rfl)⟩ rfl hl.1 rfl (Nat.le_of_ble_eq_true rfl) ⟨by show _ ≤ 601024; omega, by show _ ≤ 7293034; omega⟩ d_Law_law_223 (fun x9 N3 L3 f5 H1 locs1 hL3 hp hM => ?_)
  obtain ⟨hN3, v5, A5, B5, ⟨hx9, hv5, hA5, hB5⟩, hm5⟩ := hp
  subst hx9
  rw [hN3, List.append_nil] at hL3
  rw [hL3] at hM
  rw [hv5, hA5, hB5] at hm5
  have hI := hI.mod h3 hm5
  refine W.eq (g2 := F0 m 226 ls [_]) rfl ?_
  refine lv_iload C.1 C.2.1 d_Law_law_226 (lo_at hl 5 rfl) ?_
  refine lv_icmp_eq (tgt := 233) C.1 C.2.1 d_Law_law_228 (by decide) (fun _ => ?_) (fun h => False.elim (h rfl))
  refine lv_iload C.1 C.2.1 d_Law_law_233 (lo_at hl 5 rfl) ?_
  refine lv_if_ne (tgt := 250) C.1 C.2.1 d_Law_law_235 (by decide) (fun _ => ?_) (fun h => by cases h)
  refine lv_goto (tgt := 570) C.1 C.2.1 d_Law_law_250 (by decide) ?_
  have hl := lo_weak hl (vs' := lwV b o mo ou i) ⟨rfl, rfl, rfl, rfl, rfl, trivial⟩
  exact lw_go kk hI (hJ.v0 1) (eqC_0 v A 1) rfl rfl rfl rfl rfl hM hl (Nat.le_trans (Nat.le_of_eq (by omega)) (lwC_up (a := 1) (v := v) (k := k) rfl rfl (Nat.le_of_ble_eq_true rfl))) (Nat.le_trans (Nat.le_of_eq (by omega)) (lwS_up (a := 6) (v := v) (k := k) rfl rfl (Nat.le_of_ble_eq_true rfl)))
theorem lw_task_I {p : Program} {l : Launch} {e : Env} {s : State} {m : MethodId} {below : List Frame} {meth : Method} {c : Code} {b Lx i : Nat} {xs : Nat → Int32} {G : GG} {o mo ou : Nat} {r : Nat → Nat} {L PC : List Nat} {D : Nat → Nat → Nat} {C9 : Nat → Nat} {f : Nat → va_E} {v : Nat → Int32} {A : Nat → Nat → Int32} {B : Nat → Nat → Int64} {k : KS} {H : Heap} {locs : List Loc} {ls : Array Slot} (C : CallFix p m c c_Law_law 7 s #[Value.ref b] bg "FleetFloorLaw") (hE : ev G (pgA [] s.heap.size) s s.heap) (hX : va_X b Lx xs s s.heap) (hbl : b < s.heap.size) (hL : Lx ≤ 2048) (hi : 4 * i + 4 ≤ Lx) (hI : LI G L f o (v, A, k) PC D C9 mo r v A B ou) (hJ : JI v A k) (hM : pgS G (pgA [] s.heap.size) s.heap L f H locs) (hl : lo ls (lwV b o mo ou i)) (kk : lwK p l e s m below meth c b G o mo r ou i) (hfl : l.flags = flags0) (hv : v 1 = 1) (hn2 : k.N 2 < 24) (hab : ¬ (inb (xs (4 * i + 1)) 0 (v 3 - 1) ∧ inb (xs (4 * i + 2)) 0 (v 3 - 1))) : W p l e room_1 s m #[Value.ref b] below meth c H locs (lwC i v k) (lwS i v k) (lw_Z below #[Value.ref b] s) (F0 m 185 ls []) := by
  have hbA : ¬ pgA [] s.heap.size b := fun z => z.elim (fun z => absurd z List.not_mem_nil) (fun z => absurd hbl (Nat.not_lt.mpr z))
  obtain ⟨hw1, hw2⟩ := lwC_le (i := i) (v := v) (k := k) (by omega) hJ.np
  have h3 := ids_ne hE
  have hT := lw_tskI hJ hv hn2 hab
  obtain ⟨g0, hg0⟩ := hI.2.2.2.2.2
  refine lv_aload_n C.1 C.2.1 d_Law_law_185 rfl (lo_at hl 1 rfl) ?_
  refine lw_arg C hX hbl hbA hM.2.2.1 hl rfl rfl hi hL 1 (Nat.le_of_ble_eq_true rfl) (by decide) d_Law_law_186 d_Law_law_187 d_Law_law_189 d_Law_law_190 d_Law_law_191 ?_
  refine lw_arg C hX hbl hbA hM.2.2.1 hl rfl rfl hi hL 2 (Nat.le_of_ble_eq_true rfl) (by decide) d_Law_law_192 d_Law_law_193 d_Law_law_195 d_Law_law_196 d_Law_law_197 ?_
  refine lv_aload_n C.1 C.2.1 d_Law_law_198 rfl (lo_at hl 3 rfl) ?_
  refine cg_callSH C hE hM (h_taskxI l G (ou := ou) _ _ (ctX_sub (x_FF_taskI l G hfl hI.1 hv hn2 hJ.n3.2 hJ.n3.1 _ _ hab) hI.sub hI.2.2.1) hI.at) tw_569 cy_Law_task ⟨(Nat.le_of_ble_eq_true rfl), (Nat.le_of_ble_eq_true rfl)⟩ rfl hl.1 rfl (Nat.le_of_ble_eq_true rfl) ⟨by show _ ≤ 601024; omega, by show _ ≤ 7293034; omega⟩ d_Law_law_199 (fun x9 N1 f3 H1 locs1 hp hM => ?_)
  obtain ⟨hx9, hN1, hf3⟩ := hp
  subst hx9
  rw [hN1, List.append_nil, hf3] at hM
  refine W.eq (g2 := F0 m 202 ls [_]) rfl ?_
  refine lo_istore C hl d_Law_law_202 (Nat.le_of_ble_eq_true rfl) rfl (fun ls hl => ?_)
  refine lv_aload_n C.1 C.2.1 d_Law_law_204 rfl (lo_at hl 2 rfl) ?_
  refine lw_arg C hX hbl hbA hM.2.2.1 hl rfl rfl hi hL 1 (Nat.le_of_ble_eq_true rfl) (by decide) d_Law_law_205 d_Law_law_206 d_Law_law_208 d_Law_law_209 d_Law_law_210 ?_
  refine lw_arg C hX hbl hbA hM.2.2.1 hl rfl rfl hi hL 2 (Nat.le_of_ble_eq_true rfl) (by decide) d_Law_law_211 d_Law_law_212 d_Law_law_214 d_Law_law_215 d_Law_law_216 ?_
  refine cg_callVA C hE hM (k_Mod_task l G mo r v A B _ _ hJ.n2.2 hJ.n2.1 hJ.n3.2 hJ.n3.1 _ _ hI.2.1) hI.2.1.1.1 hI.2.1.2.2.1.1 rfl tw_934 cy_Mod_task ⟨(Nat.le_of_ble_eq_true rfl), (Nat.le_of_ble_eq_true rfl)⟩ rfl hl.1 rfl (Nat.le_of_ble_eq_true rfl) ⟨by show _ ≤ 601024; omega, by show _ ≤ 7293034; omega⟩ d_Law_law_217 (fun x9 N2 L2 f4 H1 locs1 hL2 hp hM => ?_)
  obtain ⟨hN2, v', A', B', ⟨hx9, hv', hA', hB'⟩, hm⟩ := hp
  rw [hT, if_neg (by decide)] at hx9 hv' hA'
  rw [hv', hA'] at hm
  subst hv'
  subst hx9
  rw [hN2, List.append_nil] at hL2
  rw [hL2] at hM
  have hI := hI.mod h3 hm
  refine W.eq (g2 := F0 m 220 ls [_]) rfl ?_
  refine lo_istore C hl d_Law_law_220 (Nat.le_of_ble_eq_true rfl) rfl (fun ls hl => ?_)
  refine lv_aload_n C.1 C.2.1 d_Law_law_222 rfl (lo_at hl 2 rfl) ?_
  refine cg_callVA C hE hM (k_Mod_thrown l G mo r _ _ _ _ _ hI.2.1) hI.2.1.1.1 hI.2.1.2.2.1.1 rfl tw_904 cy_Mod_thrown ⟨(Nat.le_of_ble_eq_true rfl), (Nat.le_of_ble_eq_true rfl)⟩ rfl hl.1 rfl (Nat.le_of_ble_eq_true rfl) ⟨by show _ ≤ 601024; omega, by show _ ≤ 7293034; omega⟩ d_Law_law_223 (fun x9 N3 L3 f5 H1 locs1 hL3 hp hM => ?_)
  obtain ⟨hN3, v5, A5, B5, ⟨hx9, hv5, hA5, hB5⟩, hm5⟩ := hp
  subst hx9
  rw [hN3, List.append_nil] at hL3
  rw [hL3] at hM
  rw [hv5, hA5, hB5] at hm5
  have hI := hI.mod h3 hm5
  refine W.eq (g2 := F0 m 226 ls [_]) rfl ?_
  refine lv_iload C.1 C.2.1 d_Law_law_226 (lo_at hl 5 rfl) ?_
  refine lv_icmp_eq (tgt := 233) C.1 C.2.1 d_Law_law_228 (by decide) (fun _ => ?_) (fun h => False.elim (h rfl))
  refine lv_iload C.1 C.2.1 d_Law_law_233 (lo_at hl 5 rfl) ?_
  refine lv_if_ne (tgt := 250) C.1 C.2.1 d_Law_law_235 (by decide) (fun _ => ?_) (fun h => by cases h)
  refine lv_goto (tgt := 570) C.1 C.2.1 d_Law_law_250 (by decide) ?_
  have hl := lo_weak hl (vs' := lwV b o mo ou i) ⟨rfl, rfl, rfl, rfl, rfl, trivial⟩
  exact lw_go kk hI (hJ.v0 2) (eqC_0 v A 2) rfl rfl rfl rfl rfl hM hl (Nat.le_trans (Nat.le_of_eq (by omega)) (lwC_up (a := 1) (v := v) (k := k) rfl rfl (Nat.le_of_ble_eq_true rfl))) (Nat.le_trans (Nat.le_of_eq (by omega)) (lwS_up (a := 6) (v := v) (k := k) rfl rfl (Nat.le_of_ble_eq_true rfl)))
theorem lw_open_T {p : Program} {l : Launch} {e : Env} {s : State} {m : MethodId} {below : List Frame} {meth : Method} {c : Code} {b Lx i : Nat} {xs : Nat → Int32} {G : GG} {o mo ou : Nat} {r : Nat → Nat} {L PC : List Nat} {D : Nat → Nat → Nat} {C9 : Nat → Nat} {f : Nat → va_E} {B : Nat → Nat → Int64} {T : TS} {H : Heap} {locs : List Loc} {ls : Array Slot} (C : CallFix p m c c_Law_law 7 s #[Value.ref b] bg "FleetFloorLaw") (hE : ev G (pgA [] s.heap.size) s s.heap) (hX : va_X b Lx xs s s.heap) (hbl : b < s.heap.size) (hL : Lx ≤ 2048) (hi : 4 * i + 4 ≤ Lx) (hI : LI G L f o T PC D C9 mo r T.v T.A B ou) (hJ : JI T.v T.A T.k) (hM : pgS G (pgA [] s.heap.size) s.heap L f H locs) (hl : lo ls (lwV b o mo ou i)) (kk : lwK p l e s m below meth c b G o mo r ou i) (hv : T.v 1 = 0) (hg : good (T.A 2)) : W p l e room_1 s m #[Value.ref b] below meth c H locs (lwC i T.v T.k) (lwS i T.v T.k) (lw_Z below #[Value.ref b] s) (F0 m 141 ls []) := by
  have hbA : ¬ pgA [] s.heap.size b := fun z => z.elim (fun z => absurd z List.not_mem_nil) (fun z => absurd hbl (Nat.not_lt.mpr z))
  obtain ⟨hw1, hw2⟩ := lwC_le (i := i) (v := T.v) (k := T.k) (by omega) hJ.np
  have h3 := ids_ne hE
  obtain ⟨hN0, hN1, hN2, hN3, hz⟩ := lw_N1 hJ hv
  have hcn : cn (T.A 2) 3 96 ≤ 6 := hg.1.1.2
  have hop := fun g pl => opn_JI hJ hv hg hcn g pl
  have h4 : T.k.N 4 = 0 := by have := hJ.n4.2; omega
  obtain ⟨g0, hg0⟩ := hI.2.2.2.2.2
  refine lv_aload_n C.1 C.2.1 d_Law_law_141 rfl (lo_at hl 1 rfl) ?_
  refine lv_aload_n C.1 C.2.1 d_Law_law_142 rfl (lo_at hl 3 rfl) ?_
  refine cg_callSH C hE hM (h_open l G (lw_lift hI hg0 (k_FF_open l G hI.1 hv hJ.kd hg hcn hN1 hN2 hz (fun g pl => (hop g pl).2))) hI.at hI.2.2.2.2.1.1) tw_308 cy_Law_open ⟨(Nat.le_of_ble_eq_true rfl), (Nat.le_of_ble_eq_true rfl)⟩ rfl hl.1 rfl (Nat.le_of_ble_eq_true rfl) ⟨by show _ ≤ 601024; omega, by show _ ≤ 7293034; omega⟩ d_Law_law_143 (fun x9 N1 f3 H1 locs1 hp hM => ?_)
  obtain ⟨hx9, f2, ⟨f1, hΨ, h1, h2⟩, hf3⟩ := hp
  subst hx9
  have hnd := va_D.nd hM.2.1
  obtain ⟨D1, C1, hS⟩ := hΨ
  have hI := fun g pl => (hI.cls h3 hnd h1 h2 (hS g pl)).out h3 hf3
  have hfo : f3 ou = .inl (G.2.1 1, 1, .inr (.inl (upl g0 _))) := (congrFun hf3 ou).trans (va_up_self _ _ _)
  refine W.eq (g2 := F0 m 146 ls [_]) rfl ?_
  refine lo_istore C hl d_Law_law_146 (Nat.le_of_ble_eq_true rfl) rfl (fun ls hl => ?_)
  refine lv_aload_n C.1 C.2.1 d_Law_law_148 rfl (lo_at hl 2 rfl) ?_
  refine cg_callVA C hE hM (k_Mod_open l G mo r T.v T.A B (fun hv => ⟨by rw [hJ.n3.1, (lw_N1 hJ hv).2.2.2.1]; rfl, by rw [hJ.n0.1, (lw_N1 hJ hv).1]; rfl⟩) _ _ (hI (fun _ => 0) (fun _ => 0)).2.1) (hI (fun _ => 0) (fun _ => 0)).2.1.1.1 (hI (fun _ => 0) (fun _ => 0)).2.1.2.2.1.1 rfl tw_915 cy_Mod_open ⟨(Nat.le_of_ble_eq_true rfl), (Nat.le_of_ble_eq_true rfl)⟩ rfl hl.1 rfl (Nat.le_of_ble_eq_true rfl) ⟨by show _ ≤ 601024; omega, by show _ ≤ 7293034; omega⟩ d_Law_law_149 (fun x9 N2 L2 f4 H1 locs1 hL2 hp hM => ?_)
  obtain ⟨hN2, v', A', B', ⟨z, hz, g, pl, hif, hB'⟩, hm⟩ := hp
  have hT : opT T.v z = 0 := by rw [show z = true from hz.mpr hg]; unfold opT; rw [hv]; decide
  rw [if_pos hT] at hif
  obtain ⟨hx9, hv', hA'⟩ := hif
  rw [(hop g pl).2.2.1] at hx9
  have hv0 : v' 0 = 0 := by rw [hv', (hop g pl).2.2.2.1 0 (by decide) (by decide)]; rfl
  have hv1 : v' 1 = 1 := by rw [hv', (hop g pl).2.2.2.1 1 (by decide) (by decide)]; rfl
  subst hx9
  rw [hN2, List.append_nil] at hL2
  rw [hL2] at hM
  have hfo : f4 ou = _ := (hm.2.2.2 ou (hI (fun _ => 0) (fun _ => 0)).2.2.2.2.1.2.1 (hI (fun _ => 0) (fun _ => 0)).2.2.2.2.1.2.2).trans hfo
  have hI := fun g pl => (hI g pl).mod h3 hm
  refine W.eq (g2 := F0 m 152 ls [_]) rfl ?_
  refine lo_istore C hl d_Law_law_152 (Nat.le_of_ble_eq_true rfl) rfl (fun ls hl => ?_)
  refine lv_aload_n C.1 C.2.1 d_Law_law_154 rfl (lo_at hl 2 rfl) ?_
  refine cg_callVA C hE hM (k_Mod_thrown l G mo r _ _ _ _ _ (hI g pl).2.1) (hI g pl).2.1.1.1 (hI g pl).2.1.2.2.1.1 rfl tw_904 cy_Mod_thrown ⟨(Nat.le_of_ble_eq_true rfl), (Nat.le_of_ble_eq_true rfl)⟩ rfl hl.1 rfl (Nat.le_of_ble_eq_true rfl) ⟨by show _ ≤ 601024; omega, by show _ ≤ 7293034; omega⟩ d_Law_law_155 (fun x9 N3 L3 f5 H1 locs1 hL3 hp hM => ?_)
  obtain ⟨hN3, v5, A5, B5, ⟨hx9, hv5, hA5, hB5⟩, hm5⟩ := hp
  subst hx9
  rw [hN3, List.append_nil] at hL3
  rw [hL3] at hM
  rw [hv5, hA5, hB5] at hm5
  have hfo : f5 ou = _ := (hm5.2.2.2 ou (hI g pl).2.2.2.2.1.2.1 (hI g pl).2.2.2.2.1.2.2).trans hfo
  have hI := (hI g pl).mod h3 hm5
  refine W.eq (g2 := F0 m 158 ls [_]) rfl ?_
  refine lv_iload C.1 C.2.1 d_Law_law_158 (lo_at hl 5 rfl) ?_
  refine lv_icmp_eq (tgt := 165) C.1 C.2.1 d_Law_law_160 (by decide) (fun _ => ?_) (fun h => False.elim (h hv0))
  refine lv_iload C.1 C.2.1 d_Law_law_165 (lo_at hl 5 rfl) ?_
  refine lv_if_ne (tgt := 182) C.1 C.2.1 d_Law_law_167 (by decide) (fun h => False.elim (h rfl)) (fun _ => ?_)
  refine lv_aload_n C.1 C.2.1 d_Law_law_170 rfl (lo_at hl 3 rfl) ?_
  refine lv_iconst (v := 0) C.1 C.2.1 d_Law_law_171 (by decide) ?_
  refine pg_lald C hE hM hI.2.2.2.2.1.1 hfo (i := 0) (by unfold vp_in; decide) d_Law_law_172 ?_
  refine lv_iload C.1 C.2.1 d_Law_law_173 (lo_at hl 6 rfl) ?_
  refine lv_i2l C.1 C.2.1 d_Law_law_175 rfl ?_
  refine W.lcmp C.1 C.2.1 d_Law_law_176 ?_
  refine lv_if_eq (tgt := 182) C.1 C.2.1 d_Law_law_177 (by decide) (fun _ => ?_) (fun h => False.elim (h (by rw [show (0 : Int32).toNatClampNeg = 0 from rfl, upl_0]; exact lg_cmp_self _)))
  refine lv_goto (tgt := 570) C.1 C.2.1 d_Law_law_182 (by decide) ?_
  have hl := lo_weak hl (vs' := lwV b o mo ou i) ⟨rfl, rfl, rfl, rfl, rfl, trivial⟩
  have hJ' := (hop g pl).1
  rw [← hv', ← hA'] at hJ' hI
  refine lw_go kk hI hJ' (eqC.refl _ _) rfl rfl rfl rfl rfl hM hl ?_ ?_
  · unfold lwC
    rw [hv, hv1]
    show 100 + i * 200 + 300 * T.k.N 4 + 0 + 2000 + 0 + 0 ≤ 100 + (i + 1) * 200 + 300 * T.k.N 4 + 2000
    omega
  · unfold lwS
    rw [hv, hv1]
    show 10000 + i * 3500 + 30000 * T.k.N 4 + 0 + 5000 + 0 + 0 ≤ 10000 + (i + 1) * 3500 + 30000 * T.k.N 4 + 5000
    omega
theorem lw_open_ok {p : Program} {l : Launch} {e : Env} {s : State} {m : MethodId} {below : List Frame} {meth : Method} {c : Code} {b Lx i : Nat} {xs : Nat → Int32} {G : GG} {o mo ou : Nat} {r : Nat → Nat} {L PC : List Nat} {D : Nat → Nat → Nat} {C9 : Nat → Nat} {f : Nat → va_E} {v : Nat → Int32} {A : Nat → Nat → Int32} {B : Nat → Nat → Int64} {k : KS} {H : Heap} {locs : List Loc} {ls : Array Slot} (C : CallFix p m c c_Law_law 7 s #[Value.ref b] bg "FleetFloorLaw") (hE : ev G (pgA [] s.heap.size) s s.heap) (hX : va_X b Lx xs s s.heap) (hbl : b < s.heap.size) (hL : Lx ≤ 2048) (hi : 4 * i + 4 ≤ Lx) (hI : LI G L f o (v, A, k) PC D C9 mo r v A B ou) (hJ : JI v A k) (hM : pgS G (pgA [] s.heap.size) s.heap L f H locs) (hl : lo ls (lwV b o mo ou i)) (kk : lwK p l e s m below meth c b G o mo r ou i) (hv : v 1 = 0) (hg : good (A 2)) : W p l e room_1 s m #[Value.ref b] below meth c H locs (lwC i v k) (lwS i v k) (lw_Z below #[Value.ref b] s) (F0 m 141 ls []) :=
  lw_open_T (T := (v, A, k)) C hE hX hbl hL hi hI hJ hM hl kk hv hg
theorem lw_open_I {p : Program} {l : Launch} {e : Env} {s : State} {m : MethodId} {below : List Frame} {meth : Method} {c : Code} {b Lx i : Nat} {xs : Nat → Int32} {G : GG} {o mo ou : Nat} {r : Nat → Nat} {L PC : List Nat} {D : Nat → Nat → Nat} {C9 : Nat → Nat} {f : Nat → va_E} {v : Nat → Int32} {A : Nat → Nat → Int32} {B : Nat → Nat → Int64} {k : KS} {H : Heap} {locs : List Loc} {ls : Array Slot} (C : CallFix p m c c_Law_law 7 s #[Value.ref b] bg "FleetFloorLaw") (hE : ev G (pgA [] s.heap.size) s s.heap) (hX : va_X b Lx xs s s.heap) (hbl : b < s.heap.size) (hL : Lx ≤ 2048) (hi : 4 * i + 4 ≤ Lx) (hI : LI G L f o (v, A, k) PC D C9 mo r v A B ou) (hJ : JI v A k) (hM : pgS G (pgA [] s.heap.size) s.heap L f H locs) (hl : lo ls (lwV b o mo ou i)) (kk : lwK p l e s m below meth c b G o mo r ou i) (hfl : l.flags = flags0) (hv : v 1 = 0) (hg : ¬ good (A 2)) : W p l e room_1 s m #[Value.ref b] below meth c H locs (lwC i v k) (lwS i v k) (lw_Z below #[Value.ref b] s) (F0 m 141 ls []) := by
  have hbA : ¬ pgA [] s.heap.size b := fun z => z.elim (fun z => absurd z List.not_mem_nil) (fun z => absurd hbl (Nat.not_lt.mpr z))
  obtain ⟨hw1, hw2⟩ := lwC_le (i := i) (v := v) (k := k) (by omega) hJ.np
  have h3 := ids_ne hE
  obtain ⟨g0, hg0⟩ := hI.2.2.2.2.2
  refine lv_aload_n C.1 C.2.1 d_Law_law_141 rfl (lo_at hl 1 rfl) ?_
  refine lv_aload_n C.1 C.2.1 d_Law_law_142 rfl (lo_at hl 3 rfl) ?_
  refine cg_callSH C hE hM (h_openxI l G (ou := ou) (ctX_sub (x_FF_openI l G hfl hI.1 hv hJ.kd hg) hI.sub hI.2.2.1) hI.at) tw_308 cy_Law_open ⟨(Nat.le_of_ble_eq_true rfl), (Nat.le_of_ble_eq_true rfl)⟩ rfl hl.1 rfl (Nat.le_of_ble_eq_true rfl) ⟨by show _ ≤ 601024; omega, by show _ ≤ 7293034; omega⟩ d_Law_law_143 (fun x9 N1 f3 H1 locs1 hp hM => ?_)
  obtain ⟨hx9, hN1, hf3⟩ := hp
  subst hx9
  rw [hN1, List.append_nil, hf3] at hM
  refine W.eq (g2 := F0 m 146 ls [_]) rfl ?_
  refine lo_istore C hl d_Law_law_146 (Nat.le_of_ble_eq_true rfl) rfl (fun ls hl => ?_)
  refine lv_aload_n C.1 C.2.1 d_Law_law_148 rfl (lo_at hl 2 rfl) ?_
  refine cg_callVA C hE hM (k_Mod_open l G mo r v A B (fun hv => ⟨by rw [hJ.n3.1, (lw_N1 hJ hv).2.2.2.1]; rfl, by rw [hJ.n0.1, (lw_N1 hJ hv).1]; rfl⟩) _ _ hI.2.1) hI.2.1.1.1 hI.2.1.2.2.1.1 rfl tw_915 cy_Mod_open ⟨(Nat.le_of_ble_eq_true rfl), (Nat.le_of_ble_eq_true rfl)⟩ rfl hl.1 rfl (Nat.le_of_ble_eq_true rfl) ⟨by show _ ≤ 601024; omega, by show _ ≤ 7293034; omega⟩ d_Law_law_149 (fun x9 N2 L2 f4 H1 locs1 hL2 hp hM => ?_)
  obtain ⟨hN2, v', A', B', ⟨z, hz, g, pl, hif, hB'⟩, hm⟩ := hp
  have hT : opT v z = 1 := by rw [show z = false from Bool.eq_false_iff.mpr (fun z => hg (hz.mp z))]; unfold opT; rw [hv]; decide
  rw [hT, if_neg (by decide)] at hif
  obtain ⟨hx9, hv', hA'⟩ := hif
  rw [hv', hA'] at hm
  subst hv'
  subst hx9
  rw [hN2, List.append_nil] at hL2
  rw [hL2] at hM
  have hI := hI.mod h3 hm
  refine W.eq (g2 := F0 m 152 ls [_]) rfl ?_
  refine lo_istore C hl d_Law_law_152 (Nat.le_of_ble_eq_true rfl) rfl (fun ls hl => ?_)
  refine lv_aload_n C.1 C.2.1 d_Law_law_154 rfl (lo_at hl 2 rfl) ?_
  refine cg_callVA C hE hM (k_Mod_thrown l G mo r _ _ _ _ _ hI.2.1) hI.2.1.1.1 hI.2.1.2.2.1.1 rfl tw_904 cy_Mod_thrown ⟨(Nat.le_of_ble_eq_true rfl), (Nat.le_of_ble_eq_true rfl)⟩ rfl hl.1 rfl (Nat.le_of_ble_eq_true rfl) ⟨by show _ ≤ 601024; omega, by show _ ≤ 7293034; omega⟩ d_Law_law_155 (fun x9 N3 L3 f5 H1 locs1 hL3 hp hM => ?_)
  obtain ⟨hN3, v5, A5, B5, ⟨hx9, hv5, hA5, hB5⟩, hm5⟩ := hp
  subst hx9
  rw [hN3, List.append_nil] at hL3
  rw [hL3] at hM
  rw [hv5, hA5, hB5] at hm5
  have hI := hI.mod h3 hm5
  refine W.eq (g2 := F0 m 158 ls [_]) rfl ?_
  refine lv_iload C.1 C.2.1 d_Law_law_158 (lo_at hl 5 rfl) ?_
  refine lv_icmp_eq (tgt := 165) C.1 C.2.1 d_Law_law_160 (by decide) (fun _ => ?_) (fun h => False.elim (h rfl))
  refine lv_iload C.1 C.2.1 d_Law_law_165 (lo_at hl 5 rfl) ?_
  refine lv_if_ne (tgt := 182) C.1 C.2.1 d_Law_law_167 (by decide) (fun _ => ?_) (fun h => by cases h)
  refine lv_goto (tgt := 570) C.1 C.2.1 d_Law_law_182 (by decide) ?_
  have hl := lo_weak hl (vs' := lwV b o mo ou i) ⟨rfl, rfl, rfl, rfl, rfl, trivial⟩
  exact lw_go kk hI (hJ.a78 1 g pl) (eqC_78 v A 1 g pl) rfl rfl rfl rfl rfl hM hl (Nat.le_trans (Nat.le_of_eq (by omega)) (lwC_up (a := 195) (v := v) (k := k) rfl rfl (Nat.le_of_ble_eq_true rfl))) (Nat.le_trans (Nat.le_of_eq (by omega)) (lwS_up (a := 394) (v := v) (k := k) rfl rfl (Nat.le_of_ble_eq_true rfl)))
theorem lw_open_S {p : Program} {l : Launch} {e : Env} {s : State} {m : MethodId} {below : List Frame} {meth : Method} {c : Code} {b Lx i : Nat} {xs : Nat → Int32} {G : GG} {o mo ou : Nat} {r : Nat → Nat} {L PC : List Nat} {D : Nat → Nat → Nat} {C9 : Nat → Nat} {f : Nat → va_E} {v : Nat → Int32} {A : Nat → Nat → Int32} {B : Nat → Nat → Int64} {k : KS} {H : Heap} {locs : List Loc} {ls : Array Slot} (C : CallFix p m c c_Law_law 7 s #[Value.ref b] bg "FleetFloorLaw") (hE : ev G (pgA [] s.heap.size) s s.heap) (hX : va_X b Lx xs s s.heap) (hbl : b < s.heap.size) (hL : Lx ≤ 2048) (hi : 4 * i + 4 ≤ Lx) (hI : LI G L f o (v, A, k) PC D C9 mo r v A B ou) (hJ : JI v A k) (hM : pgS G (pgA [] s.heap.size) s.heap L f H locs) (hl : lo ls (lwV b o mo ou i)) (kk : lwK p l e s m below meth c b G o mo r ou i) (hfl : l.flags = flags0) (hv : v 1 = 1) (hg : good (A 2)) : W p l e room_1 s m #[Value.ref b] below meth c H locs (lwC i v k) (lwS i v k) (lw_Z below #[Value.ref b] s) (F0 m 141 ls []) := by
  have hbA : ¬ pgA [] s.heap.size b := fun z => z.elim (fun z => absurd z List.not_mem_nil) (fun z => absurd hbl (Nat.not_lt.mpr z))
  obtain ⟨hw1, hw2⟩ := lwC_le (i := i) (v := v) (k := k) (by omega) hJ.np
  have h3 := ids_ne hE
  obtain ⟨g0, hg0⟩ := hI.2.2.2.2.2
  refine lv_aload_n C.1 C.2.1 d_Law_law_141 rfl (lo_at hl 1 rfl) ?_
  refine lv_aload_n C.1 C.2.1 d_Law_law_142 rfl (lo_at hl 3 rfl) ?_
  refine cg_callSH C hE hM (h_openxS l G (ou := ou) (ctX_sub (x_FF_openS l G hfl hI.1 (by show ¬ v 1 = 0; rw [hv]; decide)) hI.sub hI.2.2.1) hI.at) tw_308 cy_Law_open ⟨(Nat.le_of_ble_eq_true rfl), (Nat.le_of_ble_eq_true rfl)⟩ rfl hl.1 rfl (Nat.le_of_ble_eq_true rfl) ⟨by show _ ≤ 601024; omega, by show _ ≤ 7293034; omega⟩ d_Law_law_143 (fun x9 N1 f3 H1 locs1 hp hM => ?_)
  obtain ⟨hx9, hN1, hf3⟩ := hp
  subst hx9
  rw [hN1, List.append_nil, hf3] at hM
  refine W.eq (g2 := F0 m 146 ls [_]) rfl ?_
  refine lo_istore C hl d_Law_law_146 (Nat.le_of_ble_eq_true rfl) rfl (fun ls hl => ?_)
  refine lv_aload_n C.1 C.2.1 d_Law_law_148 rfl (lo_at hl 2 rfl) ?_
  refine cg_callVA C hE hM (k_Mod_open l G mo r v A B (fun hv => ⟨by rw [hJ.n3.1, (lw_N1 hJ hv).2.2.2.1]; rfl, by rw [hJ.n0.1, (lw_N1 hJ hv).1]; rfl⟩) _ _ hI.2.1) hI.2.1.1.1 hI.2.1.2.2.1.1 rfl tw_915 cy_Mod_open ⟨(Nat.le_of_ble_eq_true rfl), (Nat.le_of_ble_eq_true rfl)⟩ rfl hl.1 rfl (Nat.le_of_ble_eq_true rfl) ⟨by show _ ≤ 601024; omega, by show _ ≤ 7293034; omega⟩ d_Law_law_149 (fun x9 N2 L2 f4 H1 locs1 hL2 hp hM => ?_)
  obtain ⟨hN2, v', A', B', ⟨z, hz, g, pl, hif, hB'⟩, hm⟩ := hp
  have hT : opT v z = 2 := by rw [show z = true from hz.mpr hg]; unfold opT; rw [hv]; decide
  rw [hT, if_neg (by decide)] at hif
  obtain ⟨hx9, hv', hA'⟩ := hif
  rw [hv', hA'] at hm
  subst hv'
  subst hx9
  rw [hN2, List.append_nil] at hL2
  rw [hL2] at hM
  have hI := hI.mod h3 hm
  refine W.eq (g2 := F0 m 152 ls [_]) rfl ?_
  refine lo_istore C hl d_Law_law_152 (Nat.le_of_ble_eq_true rfl) rfl (fun ls hl => ?_)
  refine lv_aload_n C.1 C.2.1 d_Law_law_154 rfl (lo_at hl 2 rfl) ?_
  refine cg_callVA C hE hM (k_Mod_thrown l G mo r _ _ _ _ _ hI.2.1) hI.2.1.1.1 hI.2.1.2.2.1.1 rfl tw_904 cy_Mod_thrown ⟨(Nat.le_of_ble_eq_true rfl), (Nat.le_of_ble_eq_true rfl)⟩ rfl hl.1 rfl (Nat.le_of_ble_eq_true rfl) ⟨by show _ ≤ 601024; omega, by show _ ≤ 7293034; omega⟩ d_Law_law_155 (fun x9 N3 L3 f5 H1 locs1 hL3 hp hM => ?_)
  obtain ⟨hN3, v5, A5, B5, ⟨hx9, hv5, hA5, hB5⟩, hm5⟩ := hp
  subst hx9
  rw [hN3, List.append_nil] at hL3
  rw [hL3] at hM
  rw [hv5, hA5, hB5] at hm5
  have hI := hI.mod h3 hm5
  refine W.eq (g2 := F0 m 158 ls [_]) rfl ?_
  refine lv_iload C.1 C.2.1 d_Law_law_158 (lo_at hl 5 rfl) ?_
  refine lv_icmp_eq (tgt := 165) C.1 C.2.1 d_Law_law_160 (by decide) (fun _ => ?_) (fun h => False.elim (h rfl))
  refine lv_iload C.1 C.2.1 d_Law_law_165 (lo_at hl 5 rfl) ?_
  refine lv_if_ne (tgt := 182) C.1 C.2.1 d_Law_law_167 (by decide) (fun _ => ?_) (fun h => by cases h)
  refine lv_goto (tgt := 570) C.1 C.2.1 d_Law_law_182 (by decide) ?_
  have hl := lo_weak hl (vs' := lwV b o mo ou i) ⟨rfl, rfl, rfl, rfl, rfl, trivial⟩
  exact lw_go kk hI (hJ.a78 2 g pl) (eqC_78 v A 2 g pl) rfl rfl rfl rfl rfl hM hl (Nat.le_trans (Nat.le_of_eq (by omega)) (lwC_up (a := 1) (v := v) (k := k) rfl rfl (Nat.le_of_ble_eq_true rfl))) (Nat.le_trans (Nat.le_of_eq (by omega)) (lwS_up (a := 6) (v := v) (k := k) rfl rfl (Nat.le_of_ble_eq_true rfl)))
