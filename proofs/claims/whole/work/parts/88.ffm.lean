theorem ai_ar {G : GG} {f : Nat → va_E} {a b t n t2 n2 : Nat} {g : Nat → Int32} {h : Nat → Option Nat} (ha : f a = .inl (G.2.1 t, n, .inl g)) (hb : f b = arR G t2 n2 h) : a ≠ b := by
  rintro rfl
  rw [ha] at hb
  have := congrArg (fun q => q.2.2) (Sum.inl.inj hb)
  cases this
theorem pgR.drop {G : GG} {P N : List Nat} {f : Nat → va_E} {H : Heap} (h : pgR G (P ++ N) f H) : pgR G P f H := by
  have key : ∀ (k : Nat) (q : Nat × va_E), (va_pl P f)[k]? = some q → (va_pl (P ++ N) f)[k]? = some q := by
    intro k q hk
    have hl := (List.getElem?_eq_some_iff.mp hk).1
    unfold va_pl at hk hl ⊢
    rw [List.map_append, List.getElem?_append_left hl]
    exact hk
  exact ⟨fun k q hk => h.1 k q (key k q hk), fun i j p q hi hj hpq => h.2.1 i j p q (key i p hi) (key j q hj) hpq, fun k q hk => h.2.2 k q (key k q hk)⟩
theorem ct_drop {l : Launch} {G : GG} {y : MethodName} {cc : ByteArray} {nL : Nat} {rt : Option FieldType} {fr lc mc ms : Nat} {av : List Value} {P : List Nat} {f : Nat → va_E} {post : Option Value → List Nat → (Nat → va_E) → Prop} (h : ct l G y cc nL rt fr lc mc ms av P f post) : ct l G y cc nL rt fr lc mc ms av P f (fun x N f1 => N = [] ∧ ∃ N', post x N' f1) := by
  intro sz p e ha hc hk s m args below hf happ hPc hK
  obtain ⟨n, o, h1, h2, h3, ⟨⟨v, N, f', g1, g2, g3, g4, g5⟩, h5⟩⟩ := h sz p e ha hc hk s m args below hf happ hPc hK
  exact ⟨n, o, h1, h2, h3, ⟨v, [], f', g1, ⟨rfl, N, g2⟩, by rw [List.append_nil]; exact g3.drop, fun q hq => absurd hq (List.not_mem_nil), g5⟩, h5⟩
theorem lsW.kp {G : GG} {P : List Nat} {f f1 : Nat → va_E} (h : lsW G P f) (hk : kp P f f1) : lsW G P f1 := ⟨fun b1 b2 d n1 n2 m1 m2 hb1 hb2 h1 h2 hd => h.1 b1 b2 d n1 n2 m1 m2 hb1 hb2 ((hk b1 hb1).symm.trans h1) ((hk b2 hb2).symm.trans h2) hd, fun a d n m ha h1 => h.2 a d n m ha ((hk a ha).symm.trans h1)⟩
def vNew (j : Nat) (p : Int32) (q : Nat) : List Value := [.int (nI j), .int p, .ref q, .int 0, .int 0, .int 0, .int 0, .int (-1), .int (-1), .int 0]
def fmV (G : GG) (P0 P : List Nat) (f : Nat → va_E) (gp : Nat → Int32) (K Lq : Nat → Nat) (u : Nat) : Prop := (∀ j, j < u → (K j ∈ P ∧ f (K j) = .inr (8, vNew j (gp j) (Lq j))) ∧ (Lq j ∈ P ∧ f (Lq j) = .inr (3, [.ref G.2.2, .int 0, .int 0])) ∧ Lq j ∉ P0) ∧ (∀ i j, i < u → j < u → K i = K j → i = j) ∧ ∀ i j, i < u → j < u → Lq i = Lq j → i = j
theorem fmV.keep {G : GG} {P0 P P1 : List Nat} {f f1 : Nat → va_E} {gp : Nat → Int32} {K Lq : Nat → Nat} {u : Nat} (h : fmV G P0 P f gp K Lq u) (hs : ∀ y, y ∈ P → y ∈ P1) (hk : ∀ y ci fs, y ∈ P → f y = .inr (ci, fs) → ci = 8 ∨ ci = 3 → f1 y = f y) : fmV G P0 P1 f1 gp K Lq u := by
  refine ⟨fun j hj => ?_, h.2⟩
  obtain ⟨⟨a1, a2⟩, ⟨a3, a4⟩, a5⟩ := h.1 j hj
  exact ⟨⟨hs _ a1, (hk _ _ _ a1 a2 (Or.inl rfl)).trans a2⟩, ⟨hs _ a3, (hk _ _ _ a3 a4 (Or.inr rfl)).trans a4⟩, a5⟩
theorem fmV.step {G : GG} {P0 P : List Nat} {f : Nat → va_E} {gp : Nat → Int32} {K Lq : Nat → Nat} {u qw ql : Nat} (h : fmV G P0 P f gp K Lq u) (h1 : qw ∈ P) (h2 : f qw = .inr (8, vNew u (gp u) ql)) (h3 : ql ∈ P) (h4 : f ql = .inr (3, [.ref G.2.2, .int 0, .int 0])) (h5 : ql ∉ P0) (h6 : ∀ j, j < u → K j ≠ qw) (h7 : ∀ j, j < u → Lq j ≠ ql) : fmV G P0 P f gp (va_up K u qw) (va_up Lq u ql) (u + 1) := by
  refine ⟨fun j hj => ?_, fun i j hi hj => ?_, fun i j hi hj => ?_⟩
  · by_cases e : j = u
    · subst e; rw [va_up_self, va_up_self]; exact ⟨⟨h1, h2⟩, ⟨h3, h4⟩, h5⟩
    · rw [va_up_ne _ _ e, va_up_ne _ _ e]; exact h.1 j (by omega)
  · by_cases e1 : i = u
    · by_cases e2 : j = u
      · intro _; omega
      · rw [e1, va_up_self, va_up_ne _ _ e2]; intro z; exact absurd z.symm (h6 j (by omega))
    · by_cases e2 : j = u
      · rw [e2, va_up_self, va_up_ne _ _ e1]; intro z; exact absurd z (h6 i (by omega))
      · rw [va_up_ne _ _ e1, va_up_ne _ _ e2]; exact h.2.1 i j (by omega) (by omega)
  · by_cases e1 : i = u
    · by_cases e2 : j = u
      · intro _; omega
      · rw [e1, va_up_self, va_up_ne _ _ e2]; intro z; exact absurd z.symm (h7 j (by omega))
    · by_cases e2 : j = u
      · rw [e2, va_up_self, va_up_ne _ _ e1]; intro z; exact absurd z (h7 i (by omega))
      · rw [va_up_ne _ _ e1, va_up_ne _ _ e2]; exact h.2.2 i j (by omega) (by omega)
def cutK (K : Nat → Nat) (u : Nat) : Nat → Option Nat := fun j => if j < u then some (K j) else none
theorem cutK_s {K : Nat → Nat} {u q : Nat} : va_up (cutK K u) u (some q) = cutK (va_up K u q) (u + 1) := by
  funext j
  unfold cutK
  by_cases e : j = u
  · rw [e, va_up_self, if_pos (by omega), va_up_self]
  · rw [va_up_ne _ _ e]
    by_cases q : j < u
    · rw [if_pos q, if_pos (by omega), va_up_ne _ _ e]
    · rw [if_neg q, if_neg (by omega)]
def Dop (D : Nat → Nat → Nat) (qv qs qk : Nat) (K Lq dP cP : Nat → Nat) : Nat → Nat → Nat := fun i j => if i = 0 then (if j = 5 then qv else if j = 6 then qs else if j = 7 then qk else D 0 j) else if i = 1 then K j else if i = 2 then Lq j else if i = 5 then dP j else if i = 6 then cP j else D i j
def Cop (C : Nat → Nat) : Nat → Nat := fun i => if i < 10 then C i else 0
theorem cS_opn {G : GG} {P P1 : List Nat} {f f1 : Nat → va_E} {o : Nat} {D : Nat → Nat → Nat} {C : Nat → Nat} {T : TS} (h : cS G P f o D C T) (hN1 : T.k.N 1 = 0) (hN2 : T.k.N 2 = 0) (hz : ∀ u, u < 6 → T.A 23 u = 0 ∧ T.A 24 u = 0 ∧ T.A 25 u = 0 ∧ T.A 26 u = 0) (hcn : cn (T.A 2) 3 96 ≤ 6) (hs : ∀ y, y ∈ P → y ∈ P1) (hfr : ∀ y, y ∈ P → y ≠ o → f1 y = f y) (hW : lsW G P1 f1) {qv qs qk : Nat} {K Lq dP cP : Nat → Nat} {gs gp : Nat → Int32} (hc_o : f1 o = .inr (0, [.ref (D 0 0), .ref (D 0 2), .ref (D 0 4), .ref qv, .ref qs, .ref qk, .int (T.v 10), .int (T.v 30), .int (T.v 29)])) (hm_qs : qs ∈ P1) (hc_qs : f1 qs = .inl (G.2.1 0, cn (T.A 2) 2 96, .inl gs)) (hgs : ∀ d, d < 96 → T.A 2 d = 2 → gs (cn (T.A 2) 2 d) = nI d) (hgp : ∀ d, d < 96 → T.A 2 d = 3 → gp (cn (T.A 2) 3 d) = nI d) (hm_qv : qv ∈ P1) (hc_qv : f1 qv = arR G 3 (cn (T.A 2) 3 96) (fun u => some (K u))) (hF : fmV G P P1 f1 gp K Lq (cn (T.A 2) 3 96)) {S : Nat → Nat → Bool} {Wy F : Nat → Int32} (hP : pS G qk qv dP cP P1 f1 f1 S Wy F) (hS : ∀ k, k < 96 → (S 0 k = true ↔ (T.A 2 k = 1 ∨ T.A 2 k = 2))) {g pl : Nat → Int32} {Q : (Nat → Int32) × (Nat → Nat → Int32)} (hI : opI (T.A 2) (upd (upd T.v 0 0) 1 1) (va_up (va_up T.A 7 g) 8 pl) 96 Q.1 Q.2) : cS G P1 f1 o (Dop D qv qs qk K Lq dP cP) (Cop C) (Q.1, Q.2, kOp T.k (T.A 2) (Q.2 6)) := by
  have hv : ∀ j, j ≠ 0 → j ≠ 1 → j ≠ 3 → j ≠ 4 → Q.1 j = T.v j := fun j a b c d => by rw [hI.vo j c d, upd_ne _ _ b, upd_ne _ _ a]
  have hA : ∀ j, j ≠ 5 → j ≠ 6 → j ≠ 7 → j ≠ 8 → j ≠ 22 → j ≠ 28 → Q.2 j = T.A j := fun j a b c d e f => by rw [hI.ao j a b e f, va_up_ne _ _ d, va_up_ne _ _ c]
  have v1 : Q.1 1 = 1 := by rw [hI.vo 1 (by decide) (by decide), upd_self]
  have a2 : Q.2 2 = T.A 2 := hA 2 (by decide) (by decide) (by decide) (by decide) (by decide) (by decide)
  have ob : ∀ {y ci : Nat} {fs : List Value}, y ∈ P → f y = .inr (ci, fs) → ci ≠ 0 → y ∈ P1 ∧ f1 y = .inr (ci, fs) := fun {y ci fs} hy hf hc => ⟨hs y hy, (hfr y hy (ob_ne hf h.ff.2 hc)).trans hf⟩
  have lsk : ∀ {b cap n : Nat} {g : Nat → Nat}, lsS G P f b cap n g → lsS G P1 f1 b cap n g := fun {b cap n g} hl => by
    obtain ⟨fs, hc⟩ := hl.cel
    exact hl.keep hs (hfr b hl.1 (ob_ne hc h.ff.2 (by decide))) (fun a ha ⟨n, hh, z⟩ => hfr a ha (ar_ne z h.ff.2))
  have key : ∀ u, u < cn (T.A 2) 3 96 → gp u = Q.2 6 u ∧ Q.2 28 u = -1 := fun u hu => by
    obtain ⟨d, h1, h3, h4⟩ := cn_ex 96 u hu
    have a := hI.a6 d h1 h3
    have b := hgp d h1 h3
    rw [h4] at a b
    exact ⟨b.trans a.1.symm, a.2.2⟩
  apply cS.mk
  case ff =>
    refine ⟨hs _ h.ff.1, ?_⟩
    rw [hc_o]
    unfold ffF
    show _ = Sum.inr (0, [_, _, _, _, _, (if Q.1 1 = 0 then Value.null else Value.ref qk), Value.int (Q.1 10), Value.int (Q.1 30), Value.int (Q.1 29)])
    rw [if_neg (by rw [v1]; decide), hv 10 (by decide) (by decide) (by decide) (by decide), hv 30 (by decide) (by decide) (by decide) (by decide), hv 29 (by decide) (by decide) (by decide) (by decide)]
    rfl
  case mp => exact ob h.mp.1 h.mp.2 (by decide)
  case kd =>
    refine ⟨hs _ h.kd.1, ?_⟩
    show f1 (D 0 1) = .inl (G.2.1 0, 96, .inl (Q.2 2))
    rw [a2]
    exact (hfr _ h.kd.1 (ar_ne h.kd.2 h.ff.2)).trans h.kd.2
  case ar => exact ob h.ar.1 h.ar.2 (by decide)
  case al => exact lsk h.al
  case lt =>
    intro i hi
    replace hi : i < T.k.N 1 := hi
    omega
  case tl => exact lsk h.tl
  case tk =>
    intro i hi
    replace hi : i < T.k.N 2 := hi
    omega
  case va => exact ⟨hm_qv, hc_qv⟩
  case vh =>
    intro u hu
    replace hu : u < cn (T.A 2) 3 96 := hu
    obtain ⟨⟨b1, b2⟩, -, -⟩ := hF.1 u hu
    refine ⟨b1, b2.trans ?_⟩
    obtain ⟨k1, k2⟩ := key u hu
    have z := hz u (by omega)
    show Sum.inr (8, [Value.int (nI u), Value.int (gp u), Value.ref (Lq u), Value.int 0, Value.int 0, Value.int 0, Value.int 0, Value.int (-1), Value.int (-1), Value.int 0]) = Sum.inr (8, [Value.int (nI u), Value.int (Q.2 6 u), Value.ref (Lq u), Value.int (Q.2 23 u), Value.int (Q.2 24 u), Value.int (Q.2 25 u), Value.int (Q.2 26 u), Value.int (Q.2 28 u), Value.int (-1), Value.int 0])
    rw [k1, k2, hA 23 (by decide) (by decide) (by decide) (by decide) (by decide) (by decide), hA 24 (by decide) (by decide) (by decide) (by decide) (by decide) (by decide), hA 25 (by decide) (by decide) (by decide) (by decide) (by decide) (by decide), hA 26 (by decide) (by decide) (by decide) (by decide) (by decide) (by decide), z.1, z.2.1, z.2.2.1, z.2.2.2]
  case vl =>
    intro u hu
    replace hu : u < cn (T.A 2) 3 96 := hu
    obtain ⟨-, ⟨b1, b2⟩, -⟩ := hF.1 u hu
    have e : Cop C (10 + u) = 0 := if_neg (by omega)
    rw [e]
    exact lsS_0 b1 b2
  case mv => intro u hu i hi; exact absurd hi (Nat.not_lt_zero _)
  case sa =>
    refine ⟨hm_qs, gs, hc_qs, fun j hj => ?_⟩
    obtain ⟨d, h1, h3, h4⟩ := cn_ex 96 j hj
    have a := hI.a5 d h1 h3
    have b := hgs d h1 h3
    rw [h4] at a b
    exact b.trans a.symm
  case vj => intro u w hu hw; exact hF.2.1 u w hu hw
  case lj => intro u w hu hw; exact hF.2.2 u w hu hw
  case l0 => exact ⟨h.l0.1, fun u hu => ⟨fun z => (hF.1 u hu).2.2 (by rw [show Lq u = D 0 3 from z]; exact h.al.1), fun z => (hF.1 u hu).2.2 (by rw [show Lq u = D 0 4 from z]; exact h.tl.1)⟩⟩
  case tj =>
    intro s t hs2
    replace hs2 : s < T.k.N 2 := hs2
    omega
  case cp =>
    refine ⟨h.cp.1, h.cp.2.1, fun u hu => ?_⟩
    have e : Cop C (10 + u) = 0 := if_neg (by omega)
    rw [e]
    exact Nat.zero_le _
  case lw => exact hW
  case pl =>
    refine Or.inr ⟨v1, S, Wy, F, hP, fun k hk => ?_⟩
    show S 0 k = true ↔ (Q.2 2 k = 1 ∨ Q.2 2 k = 2)
    rw [a2]
    exact hS k hk
set_option maxHeartbeats 4000000 in
set_option maxRecDepth 100000 in
theorem k_FF_open (l : Launch) (G : GG) {P : List Nat} {f : Nat → va_E} {o : Nat} {D : Nat → Nat → Nat} {C9 : Nat → Nat} {T : TS} (hS : cS G P f o D C9 T) (hv : T.v 1 = 0) (hK : kOk (T.A 2)) (hg : good (T.A 2)) (hcn : (cn (T.A 2) 3 96) ≤ 6) (hN1 : T.k.N 1 = 0) (hN2 : T.k.N 2 = 0) (hz : ∀ u, u < 6 → T.A 23 u = 0 ∧ T.A 24 u = 0 ∧ T.A 25 u = 0 ∧ T.A 26 u = 0) (hop : ∀ g pl : Nat → Int32, opI (T.A 2) (upd (upd T.v 0 0) 1 1) (va_up (va_up T.A 7 g) 8 pl) 96 (opR T.v T.A g pl).1 (opR T.v T.A g pl).2)  : ct l G y_FF_open c_FF_open 3 (some .int) 7 116 (2000) (5000) [.ref o] P f (fun x N f1 => x = some (.int (nI (cn (T.A 2) 3 96))) ∧ ∃ D' C', ∀ g pl : Nat → Int32, cS G (P ++ N) f1 o D' C' ((opR T.v T.A g pl).1, (opR T.v T.A g pl).2, kOp T.k (T.A 2) ((opR T.v T.A g pl).2 6))) := by
  refine ct_intro (by decide) [some (.ref o), none, none] rfl rfl (Nat.le_of_ble_eq_true rfl) ?_
  intro p e s m below meth c ls C hr hlk hnm hE hM hl
  have hm_o := hS.ff.1
  have hc_o := hS.ff.2
  rw [ffF_0 hv] at hc_o
  have hm_mp := hS.mp.1
  have hc_mp := hS.mp.2
  have hm_kd := hS.kd.1
  have hc_kd := hS.kd.2
  have hW := hS.lw
  have hPN : P = P ++ [] := (List.append_nil P).symm
  have hfr : ∀ y, y ∈ P → y ≠ o → f y = f y := fun y _ _ => rfl
  refine lv_aload_n C.1 C.2.1 d_FF_open_0 rfl (lo_at hl 0 rfl) ?_
  refine cg_callV C hE hM (k_FF_isOpen l G hS) hm_o hc_o rfl tw_117 cy_FF_isOpen ⟨(Nat.le_of_ble_eq_true rfl), (Nat.le_of_ble_eq_true rfl)⟩ rfl hl.1 rfl (Nat.le_of_ble_eq_true rfl) ⟨by (try show _ ≤ 2000); omega, by (try show _ ≤ 5000); omega⟩ d_FF_open_1 (fun x9 f11 H1 locs1 hp hM => ?_)
  obtain ⟨rfl, h9⟩ := hp
  rw [h9] at hM
  clear h9
  refine W.eq (g2 := F0 m 4 ls [_]) rfl ?_
  refine lv_if_eq (tgt := 17) C.1 C.2.1 d_FF_open_4 (by decide) (fun hc4 => ?_) (fun hc4 => False.elim (bz_1.mp hc4 hv))
  refine lv_aload_n C.1 C.2.1 d_FF_open_17 rfl (lo_at hl 0 rfl) ?_
  refine pg_get C hE hM hm_o hc_o rfl in_FF 0 (Nat.le_of_ble_eq_true rfl) tw_85 rfl rfl d_FF_open_18 ?_
  refine cg_callVA C hE hM (ct_drop (k_Map_isGood l G _ _ _ hm_mp hc_mp hm_kd hc_kd hK)) hm_mp hc_mp rfl tw_384 cy_Map_isGood ⟨(Nat.le_of_ble_eq_true rfl), (Nat.le_of_ble_eq_true rfl)⟩ rfl hl.1 rfl (Nat.le_of_ble_eq_true rfl) ⟨by (try show _ ≤ 2000); omega, by (try show _ ≤ 5000); omega⟩ d_FF_open_21 (fun x9 N1 P1 f12 H1 locs1 hP1 hp hM => ?_)
  obtain ⟨hN9, N9, qs9, -, z9, hx9, hz9, hkp⟩ := hp
  subst hx9
  subst hN9
  have hW := hW.kp hkp
  have hPe : P1 = P := by rw [hP1, List.append_nil]
  rw [← hPe] at hW
  have hfr : ∀ y, y ∈ P → y ≠ o → f12 y = f y := fun y k0 k1 => (hkp y k0).trans (hfr y k0 k1)
  have hc_o := (hkp o hm_o).trans hc_o
  have hm_o := (show o ∈ P1 by rw [hP1]; exact List.mem_append_left _ hm_o)
  have hc_mp := (hkp (D 0 0) hm_mp).trans hc_mp
  have hm_mp := (show (D 0 0) ∈ P1 by rw [hP1]; exact List.mem_append_left _ hm_mp)
  have hc_kd := (hkp (D 0 1) hm_kd).trans hc_kd
  have hm_kd := (show (D 0 1) ∈ P1 by rw [hP1]; exact List.mem_append_left _ hm_kd)
  have hPN := hPN_app hPN hP1
  refine W.eq (g2 := F0 m 24 ls [_]) rfl ?_
  refine lv_if_ne (tgt := 37) C.1 C.2.1 d_FF_open_24 (by decide) (fun hc24 => ?_) (fun hc24 => False.elim ((bz_0.mp hc24) (hz9.mpr hg)))
  refine lv_aload_n C.1 C.2.1 d_FF_open_37 rfl (lo_at hl 0 rfl) ?_
  refine lv_aload_n C.1 C.2.1 d_FF_open_38 rfl (lo_at hl 0 rfl) ?_
  refine pg_get C hE hM hm_o hc_o rfl in_FF 0 (Nat.le_of_ble_eq_true rfl) tw_85 rfl rfl d_FF_open_39 ?_
  refine lv_iconst (v := 2) C.1 C.2.1 d_FF_open_42 (by decide) ?_
  refine cg_callVA C hE hM (k_Map_cellsOf l G _ _ _ hm_mp hc_mp hm_kd hc_kd _) hm_mp hc_mp rfl tw_463 cy_Map_cellsOf ⟨(Nat.le_of_ble_eq_true rfl), (Nat.le_of_ble_eq_true rfl)⟩ rfl hl.1 rfl (Nat.le_of_ble_eq_true rfl) ⟨by (try show _ ≤ 2000); omega, by (try show _ ≤ 5000); omega⟩ d_FF_open_43 (fun x9 N2 P2 f13 H1 locs1 hP2 hp hM => ?_)
  obtain ⟨qs, gs, hN9, hx9, hqs, hf9, hgs⟩ := hp
  subst hx9
  subst hN9
  have hzz := cg_z0P hE hM
  have hqsP : qs ∉ P := fun z => hqs (hPN ▸ List.mem_append_left _ z)
  have hW := hW.nw hf9 hqs hP2 (fun z => hzz (by rw [hP2, ← z]; exact List.mem_append_right _ (List.mem_singleton.mpr rfl))) (by intros _ _ _ z; cases z)
  have hc_o := ((congrFun hf9 o).trans (va_up_ne _ _ (fun z => hqs (z ▸ hm_o)))).trans hc_o
  have hc_mp := ((congrFun hf9 (D 0 0)).trans (va_up_ne _ _ (fun z => hqs (z ▸ hm_mp)))).trans hc_mp
  have hc_kd := ((congrFun hf9 (D 0 1)).trans (va_up_ne _ _ (fun z => hqs (z ▸ hm_kd)))).trans hc_kd
  have hfr : ∀ y, y ∈ P → y ≠ o → f13 y = f y := fun y k0 k1 => ((congrFun hf9 y).trans (va_up_ne _ _ (fun z => hqsP (z ▸ k0)))).trans (hfr y k0 k1)
  have hc_qs := (congrFun hf9 qs).trans (va_up_self _ _ _)
  have hm_o := (show o ∈ P2 by rw [hP2]; exact List.mem_append_left _ hm_o)
  have hm_mp := (show (D 0 0) ∈ P2 by rw [hP2]; exact List.mem_append_left _ hm_mp)
  have hm_kd := (show (D 0 1) ∈ P2 by rw [hP2]; exact List.mem_append_left _ hm_kd)
  have hPN := hPN_app hPN hP2
  have hm_qs : qs ∈ P2 := by rw [hP2]; exact List.mem_append_right _ (List.mem_singleton.mpr rfl)
  refine W.eq (g2 := F0 m 46 ls [_, _]) rfl ?_
  refine cg_put C hE hM hm_o hc_o rfl in_FF ok_FF n_FF 4 (Nat.le_of_ble_eq_true rfl) tw_89 rfl rfl rfl rfl rfl (Nat.le_of_ble_eq_true rfl) d_FF_open_46 (fun f14 H1 locs1 hf14 hM => ?_)
  have hc_mp := ((congrFun hf14 (D 0 0)).trans (va_up_ne _ _ (ob_ne hc_mp hc_o (by decide)))).trans hc_mp
  have hc_kd := ((congrFun hf14 (D 0 1)).trans (va_up_ne _ _ (ar_ne hc_kd hc_o))).trans hc_kd
  have hc_qs := ((congrFun hf14 qs).trans (va_up_ne _ _ (ar_ne hc_qs hc_o))).trans hc_qs
  have hW := hW.wr hf14 hc_o (by decide)
  have hc_o := (congrFun hf14 o).trans (va_up_self _ _ _)
  have hfr : ∀ y, y ∈ P → y ≠ o → f14 y = f y := fun y k0 k1 => ((congrFun hf14 y).trans (va_up_ne _ _ (k1))).trans (hfr y k0 k1)
  refine lv_aload_n C.1 C.2.1 d_FF_open_49 rfl (lo_at hl 0 rfl) ?_
  refine pg_get C hE hM hm_o hc_o rfl in_FF 0 (Nat.le_of_ble_eq_true rfl) tw_85 rfl rfl d_FF_open_50 ?_
  refine lv_iconst (v := 3) C.1 C.2.1 d_FF_open_53 (by decide) ?_
  refine cg_callVA C hE hM (k_Map_cellsOf l G _ _ _ hm_mp hc_mp hm_kd hc_kd _) hm_mp hc_mp rfl tw_463 cy_Map_cellsOf ⟨(Nat.le_of_ble_eq_true rfl), (Nat.le_of_ble_eq_true rfl)⟩ rfl hl.1 rfl (Nat.le_of_ble_eq_true rfl) ⟨by (try show _ ≤ 2000); omega, by (try show _ ≤ 5000); omega⟩ d_FF_open_54 (fun x9 N3 P3 f15 H1 locs1 hP3 hp hM => ?_)
  obtain ⟨qp, gp, hN9, hx9, hqp, hf9, hgp⟩ := hp
  subst hx9
  subst hN9
  have hzz := cg_z0P hE hM
  have hqpP : qp ∉ P := fun z => hqp (hPN ▸ List.mem_append_left _ z)
  have hW := hW.nw hf9 hqp hP3 (fun z => hzz (by rw [hP3, ← z]; exact List.mem_append_right _ (List.mem_singleton.mpr rfl))) (by intros _ _ _ z; cases z)
  have hc_o := ((congrFun hf9 o).trans (va_up_ne _ _ (fun z => hqp (z ▸ hm_o)))).trans hc_o
  have hc_mp := ((congrFun hf9 (D 0 0)).trans (va_up_ne _ _ (fun z => hqp (z ▸ hm_mp)))).trans hc_mp
  have hc_kd := ((congrFun hf9 (D 0 1)).trans (va_up_ne _ _ (fun z => hqp (z ▸ hm_kd)))).trans hc_kd
  have hc_qs := ((congrFun hf9 qs).trans (va_up_ne _ _ (fun z => hqp (z ▸ hm_qs)))).trans hc_qs
  have hfr : ∀ y, y ∈ P → y ≠ o → f15 y = f y := fun y k0 k1 => ((congrFun hf9 y).trans (va_up_ne _ _ (fun z => hqpP (z ▸ k0)))).trans (hfr y k0 k1)
  have hc_qp := (congrFun hf9 qp).trans (va_up_self _ _ _)
  have hm_o := (show o ∈ P3 by rw [hP3]; exact List.mem_append_left _ hm_o)
  have hm_mp := (show (D 0 0) ∈ P3 by rw [hP3]; exact List.mem_append_left _ hm_mp)
  have hm_kd := (show (D 0 1) ∈ P3 by rw [hP3]; exact List.mem_append_left _ hm_kd)
  have hm_qs := (show qs ∈ P3 by rw [hP3]; exact List.mem_append_left _ hm_qs)
  have hPN := hPN_app hPN hP3
  have hm_qp : qp ∈ P3 := by rw [hP3]; exact List.mem_append_right _ (List.mem_singleton.mpr rfl)
  refine W.eq (g2 := F0 m 57 ls [_]) rfl ?_
  refine lo_astore_n C hl d_FF_open_57 (Nat.le_of_ble_eq_true rfl) rfl (fun ls hl => ?_)
  refine lv_aload_n C.1 C.2.1 d_FF_open_58 rfl (lo_at hl 0 rfl) ?_
  refine lv_aload_n C.1 C.2.1 d_FF_open_59 rfl (lo_at hl 1 rfl) ?_
  refine pg_alen C hE hM hm_qp (t0 := 0) (Nat.le_of_ble_eq_true rfl) hc_qp d_FF_open_60 ?_
  refine cg_newR C hE hM (t0 := 3) rfl hE.1.2.2.1 tw_83 (cn (T.A 2) 3 96) rfl (by omega) (by show 0 + 194 + 1 + 1 + 1 ≤ 2000; omega) (by show 0 + 388 + 96 + 96 + (cn (T.A 2) 3 96) ≤ 5000; omega) d_FF_open_61 (fun qv P4 f16 H1 hqv hP4 hf16 hM => ?_)
  have hc_o := ((congrFun hf16 o).trans (va_up_ne _ _ (fun z => hqv (z ▸ hm_o)))).trans hc_o
  have hm_o := (show o ∈ P4 by rw [hP4]; exact List.mem_append_left _ hm_o)
  have hc_mp := ((congrFun hf16 (D 0 0)).trans (va_up_ne _ _ (fun z => hqv (z ▸ hm_mp)))).trans hc_mp
  have hm_mp := (show (D 0 0) ∈ P4 by rw [hP4]; exact List.mem_append_left _ hm_mp)
  have hc_kd := ((congrFun hf16 (D 0 1)).trans (va_up_ne _ _ (fun z => hqv (z ▸ hm_kd)))).trans hc_kd
  have hm_kd := (show (D 0 1) ∈ P4 by rw [hP4]; exact List.mem_append_left _ hm_kd)
  have hc_qs := ((congrFun hf16 qs).trans (va_up_ne _ _ (fun z => hqv (z ▸ hm_qs)))).trans hc_qs
  have hm_qs := (show qs ∈ P4 by rw [hP4]; exact List.mem_append_left _ hm_qs)
  have hc_qp := ((congrFun hf16 qp).trans (va_up_ne _ _ (fun z => hqv (z ▸ hm_qp)))).trans hc_qp
  have hm_qp := (show qp ∈ P4 by rw [hP4]; exact List.mem_append_left _ hm_qp)
  have hm_qv : qv ∈ P4 := by rw [hP4]; exact List.mem_append_right _ (List.mem_singleton.mpr rfl)
  have hc_qv := (congrFun hf16 qv).trans (va_up_self _ _ _)
  have hW := hW.nw hf16 hqv hP4 (fun z => cg_z0P hE hM (z ▸ hm_qv)) (by intros _ _ _ z; cases z)
  have hqvP : qv ∉ P := fun z => hqv (hPN ▸ List.mem_append_left _ z)
  have hfr : ∀ y, y ∈ P → y ≠ o → f16 y = f y := fun y k0 k1 => ((congrFun hf16 y).trans (va_up_ne _ _ (fun z => hqvP (z ▸ k0)))).trans (hfr y k0 k1)
  have hPN := hPN_new hPN hP4
  refine cg_put C hE hM hm_o hc_o rfl in_FF ok_FF n_FF 3 (Nat.le_of_ble_eq_true rfl) tw_88 rfl rfl rfl rfl rfl (Nat.le_of_ble_eq_true rfl) d_FF_open_64 (fun f17 H1 locs1 hf17 hM => ?_)
  have hc_mp := ((congrFun hf17 (D 0 0)).trans (va_up_ne _ _ (ob_ne hc_mp hc_o (by decide)))).trans hc_mp
  have hc_kd := ((congrFun hf17 (D 0 1)).trans (va_up_ne _ _ (ar_ne hc_kd hc_o))).trans hc_kd
  have hc_qs := ((congrFun hf17 qs).trans (va_up_ne _ _ (ar_ne hc_qs hc_o))).trans hc_qs
  have hc_qp := ((congrFun hf17 qp).trans (va_up_ne _ _ (ar_ne hc_qp hc_o))).trans hc_qp
  have hc_qv := ((congrFun hf17 qv).trans (va_up_ne _ _ (ar_ne hc_qv hc_o))).trans hc_qv
  have hW := hW.wr hf17 hc_o (by decide)
  have hc_o := (congrFun hf17 o).trans (va_up_self _ _ _)
  have hfr : ∀ y, y ∈ P → y ≠ o → f17 y = f y := fun y k0 k1 => ((congrFun hf17 y).trans (va_up_ne _ _ (k1))).trans (hfr y k0 k1)
  refine lv_iconst (v := 0) C.1 C.2.1 d_FF_open_67 (by decide) ?_
  refine lo_istore_n C hl d_FF_open_68 (Nat.le_of_ble_eq_true rfl) rfl (fun ls hl => ?_)
  refine W.widen (k := 400 + 0 * 2) (n := 1000 + 0 * 13) (by omega) (by omega) ?_
  refine W.loop (α := (Nat) × (Nat → Nat) × (Nat → Nat) × (Array Slot) × (List Nat) × (Heap) × (List Loc) × (Nat → va_E)) (fun zz => (cn (T.A 2) 3 96) - zz.1) (fun zz => (zz.1 ≤ (cn (T.A 2) 3 96)) ∧ (zz.2.2.2.2.2.2.2 o = .inr (0, [.ref (D 0 0), .ref (D 0 2), .ref (D 0 4), .ref qv, .ref qs, .null, .int (T.v 10), .int (T.v 30), .int (T.v 29)])) ∧ (zz.2.2.2.2.2.2.2 (D 0 0) = .inr (1, [.ref (D 0 1)])) ∧ (zz.2.2.2.2.2.2.2 (D 0 1) = .inl (G.2.1 0, 96, .inl (T.A 2))) ∧ (zz.2.2.2.2.2.2.2 qs = .inl (G.2.1 0, cn (T.A 2) 2 96, .inl gs)) ∧ (zz.2.2.2.2.2.2.2 qp = .inl (G.2.1 0, (cn (T.A 2) 3 96), .inl gp)) ∧ (zz.2.2.2.2.2.2.2 qv = arR G 3 (cn (T.A 2) 3 96) (cutK zz.2.1 zz.1)) ∧ (o ∈ P ++ zz.2.2.2.2.1) ∧ ((D 0 0) ∈ P ++ zz.2.2.2.2.1) ∧ ((D 0 1) ∈ P ++ zz.2.2.2.2.1) ∧ (qs ∈ P ++ zz.2.2.2.2.1) ∧ (qp ∈ P ++ zz.2.2.2.2.1) ∧ (qv ∈ P ++ zz.2.2.2.2.1) ∧ (lsW G (P ++ zz.2.2.2.2.1) zz.2.2.2.2.2.2.2) ∧ (∀ y, y ∈ P → y ≠ o → zz.2.2.2.2.2.2.2 y = f y) ∧ (fmV G P (P ++ zz.2.2.2.2.1) zz.2.2.2.2.2.2.2 gp zz.2.1 zz.2.2.1 zz.1) ∧ lo zz.2.2.2.1 [some (.ref o), some (.ref qp), some (.int (nI zz.1))] ∧ pgS G (pgA P s.heap.size) s.heap (P ++ zz.2.2.2.2.1) zz.2.2.2.2.2.2.2 zz.2.2.2.2.2.1 zz.2.2.2.2.2.2.1) (fun zz => zz.2.2.2.2.2.1) (fun zz => zz.2.2.2.2.2.2.1) (fun zz => 400 + zz.1 * 2) (fun zz => 1000 + zz.1 * 13) (fun zz => F0 m 69 zz.2.2.2.1 []) ?_ (0, (fun _ => 0), (fun _ => 0), ls, _, H1, locs1, f17) ⟨Nat.zero_le _, hc_o, hc_mp, hc_kd, hc_qs, hc_qp, hc_qv, (hPN ▸ hm_o), (hPN ▸ hm_mp), (hPN ▸ hm_kd), (hPN ▸ hm_qs), (hPN ▸ hm_qp), (hPN ▸ hm_qv), (hPN ▸ hW), hfr, ⟨fun j hj => absurd hj (Nat.not_lt_zero _), fun i j hi => absurd hi (Nat.not_lt_zero _), fun i j hi => absurd hi (Nat.not_lt_zero _)⟩, lo_weak hl ⟨rfl, rfl, rfl, trivial⟩, (hPN ▸ hM)⟩
  rintro ⟨u, K, Lq, ls, N1, H1, locs1, f1⟩ ⟨hu1, hc_o, hc_mp, hc_kd, hc_qs, hc_qp, hc_qv, hm_o, hm_mp, hm_kd, hm_qs, hm_qp, hm_qv, hW, hfr, hF, hl, hM⟩ ih69
  dsimp only at hu1 hc_o hc_mp hc_kd hc_qs hc_qp hc_qv hm_o hm_mp hm_kd hm_qs hm_qp hm_qv hW hfr hF hl hM
  show W _ _ _ _ _ _ _ _ _ _ _ _ (400 + u * 2) (1000 + u * 13) _ (F0 m 69 ls [])
  have hPN : P ++ N1 = P ++ N1 := rfl
  have hF0 := hF
  refine lv_iload_n C.1 C.2.1 d_FF_open_69 rfl (lo_at hl 2 rfl) ?_
  refine lv_aload_n C.1 C.2.1 d_FF_open_70 rfl (lo_at hl 1 rfl) ?_
  refine pg_alen C hE hM hm_qp (t0 := 0) (Nat.le_of_ble_eq_true rfl) hc_qp d_FF_open_71 ?_
  refine lv_icmp_ge (tgt := 98) C.1 C.2.1 d_FF_open_72 (by decide) (fun hc72 => ?_) (fun hc72 => ?_)
  · have hu9 : (cn (T.A 2) 3 96) ≤ u := nI_leN (by omega) (by omega) hc72
    have hue : u = (cn (T.A 2) 3 96) := by omega
    subst hue
    obtain ⟨fz, hfz⟩ : ∃ fz, fz = va_up f1 qv (arR G 3 (cn (T.A 2) 3 96) (fun u => some (K u))) := ⟨_, rfl⟩
    have hM := pg_arR hM hm_qv hc_qv (g' := fun u => some (K u)) (fun j hj => (if_pos hj).symm)
    rw [← hfz] at hM
    have hc_o := ((congrFun hfz o).trans (va_up_ne _ _ ((ar_ne hc_qv hc_o).symm))).trans hc_o
    have hc_mp := ((congrFun hfz (D 0 0)).trans (va_up_ne _ _ ((ar_ne hc_qv hc_mp).symm))).trans hc_mp
    have hc_kd := ((congrFun hfz (D 0 1)).trans (va_up_ne _ _ (ai_ar hc_kd hc_qv))).trans hc_kd
    have hc_qs := ((congrFun hfz qs).trans (va_up_ne _ _ (ai_ar hc_qs hc_qv))).trans hc_qs
    have hc_qp := ((congrFun hfz qp).trans (va_up_ne _ _ (ai_ar hc_qp hc_qv))).trans hc_qp
    have hW := hW.wa hfz hc_qv
    have hF := hF.keep (f1 := fz) (fun y hy => hy) (fun y ci fs hy hy2 _ => by rw [hfz, va_up_ne _ _ (ar_ne hc_qv hy2).symm])
    have hfr : ∀ y, y ∈ P → y ≠ o → fz y = f y := fun y k0 k1 => ((congrFun hfz y).trans (va_up_ne _ _ (fun z => hqvP (z ▸ k0)))).trans (hfr y k0 k1)
    have hc_qv := (congrFun hfz qv).trans (va_up_self _ _ _)
    refine cg_new C hE hM (ci := 4) (fs := [.long 0, .long 0]) rfl in_Cel ok_Cel tw_517 tw_397 tw_12 (by decide) (by (try show _ ≤ 2000); omega) (by (try show _ ≤ 5000); omega) d_FF_open_98 (fun qc P5 f18 H1 hqc hP5 hf18 hM => ?_)
    have hc_o := ((congrFun hf18 o).trans (va_up_ne _ _ (fun z => hqc (z ▸ hm_o)))).trans hc_o
    have hm_o := (show o ∈ P5 by rw [hP5]; exact List.mem_append_left _ hm_o)
    have hc_mp := ((congrFun hf18 (D 0 0)).trans (va_up_ne _ _ (fun z => hqc (z ▸ hm_mp)))).trans hc_mp
    have hm_mp := (show (D 0 0) ∈ P5 by rw [hP5]; exact List.mem_append_left _ hm_mp)
    have hc_kd := ((congrFun hf18 (D 0 1)).trans (va_up_ne _ _ (fun z => hqc (z ▸ hm_kd)))).trans hc_kd
    have hm_kd := (show (D 0 1) ∈ P5 by rw [hP5]; exact List.mem_append_left _ hm_kd)
    have hc_qs := ((congrFun hf18 qs).trans (va_up_ne _ _ (fun z => hqc (z ▸ hm_qs)))).trans hc_qs
    have hm_qs := (show qs ∈ P5 by rw [hP5]; exact List.mem_append_left _ hm_qs)
    have hc_qp := ((congrFun hf18 qp).trans (va_up_ne _ _ (fun z => hqc (z ▸ hm_qp)))).trans hc_qp
    have hm_qp := (show qp ∈ P5 by rw [hP5]; exact List.mem_append_left _ hm_qp)
    have hc_qv := ((congrFun hf18 qv).trans (va_up_ne _ _ (fun z => hqc (z ▸ hm_qv)))).trans hc_qv
    have hm_qv := (show qv ∈ P5 by rw [hP5]; exact List.mem_append_left _ hm_qv)
    have hm_qc : qc ∈ P5 := by rw [hP5]; exact List.mem_append_right _ (List.mem_singleton.mpr rfl)
    have hc_qc := (congrFun hf18 qc).trans (va_up_self _ _ _)
    have hW := hW.nw hf18 hqc hP5 (fun z => cg_z0P hE hM (z ▸ hm_qc)) (by intros _ _ _ z; cases z)
    have hqcP : qc ∉ P := fun z => hqc (hPN ▸ List.mem_append_left _ z)
    have hfr : ∀ y, y ∈ P → y ≠ o → f18 y = f y := fun y k0 k1 => ((congrFun hf18 y).trans (va_up_ne _ _ (fun z => hqcP (z ▸ k0)))).trans (hfr y k0 k1)
    have hPN := hPN_new hPN hP5
    have hF := hF.keep (P1 := P5) (f1 := f18) (fun y hy => by rw [hP5]; exact List.mem_append_left _ hy) (fun y ci fs hy _ _ => (congrFun hf18 y).trans (va_up_ne _ _ (fun z => hqc (z ▸ hy))))
    have hs_c := ce_0 hc_qc
    refine lv_dup C.1 C.2.1 d_FF_open_101 rfl ?_
    refine cg_callIN C hE hM (k_Cel_init l G qc) nw_518 cy_Cel_init ⟨(Nat.le_of_ble_eq_true rfl), (Nat.le_of_ble_eq_true rfl)⟩ rfl hl.1 rfl (Nat.le_of_ble_eq_true rfl) ⟨by (try show _ ≤ 2000); omega, by (try show _ ≤ 5000); omega⟩ d_FF_open_102 (fun x9 f19 H1 locs1 hp hM => ?_)
    obtain ⟨rfl, h9⟩ := hp
    rw [h9] at hM
    clear h9
    refine W.eq (g2 := F0 m 105 ls [_]) rfl ?_
    refine lo_astore_n C hl d_FF_open_105 (Nat.le_of_ble_eq_true rfl) rfl (fun ls hl => ?_)
    refine lv_aload_n C.1 C.2.1 d_FF_open_106 rfl (lo_at hl 0 rfl) ?_
    refine pg_get C hE hM hm_o hc_o rfl in_FF 0 (Nat.le_of_ble_eq_true rfl) tw_85 rfl rfl d_FF_open_107 ?_
    refine lv_iconst (v := 1) C.1 C.2.1 d_FF_open_110 (by decide) ?_
    refine lv_aload_n C.1 C.2.1 d_FF_open_111 rfl (lo_at hl 2 rfl) ?_
    refine cg_callV C hE hM (k_Map_collect l G _ _ _ hm_mp hc_mp hm_kd hc_kd _ qc _ hm_qc hs_c) hm_mp hc_mp rfl tw_519 cy_Map_collect ⟨(Nat.le_of_ble_eq_true rfl), (Nat.le_of_ble_eq_true rfl)⟩ rfl hl.1 rfl (Nat.le_of_ble_eq_true rfl) ⟨by (try show _ ≤ 2000); omega, by (try show _ ≤ 5000); omega⟩ d_FF_open_112 (fun x9 f20 H1 locs1 hp hM => ?_)
    have hcR := hp.2
    have hx9 := hp.1
    subst hx9
    have hW := lsW.ext (q := qc) (f1 := f20) hW (fun y hy => Or.inl hy) (fun y hy => hy) (fun y fs _ e h3 => by rw [hcR.1 y e] at h3; exact h3) (fun d n m h3 => by obtain ⟨_, _, h4, -⟩ := hcR.2.words; rw [h4] at h3; cases h3) (cg_z0P hE hM)
    have hF := hF.keep (f1 := f20) (fun y hy => hy) (fun y ci fs hy hy2 hc => hcR.1 y (hs_c.neO hy2 (by rcases hc with z | z <;> rw [z] <;> decide)))
    have hfr : ∀ y, y ∈ P → y ≠ o → f20 y = f y := fun y k0 k1 => (hcR.1 y (fun z => hqcP (z ▸ k0))).trans (hfr y k0 k1)
    have hc_o := (hcR.1 _ (hs_c.neO hc_o (by decide))).trans hc_o
    have hc_mp := (hcR.1 _ (hs_c.neO hc_mp (by decide))).trans hc_mp
    have hc_kd := (hcR.1 _ (hs_c.ne hc_kd)).trans hc_kd
    have hc_qs := (hcR.1 _ (hs_c.ne hc_qs)).trans hc_qs
    have hc_qp := (hcR.1 _ (hs_c.ne hc_qp)).trans hc_qp
    have hc_qv := (hcR.1 _ (hs_c.ne hc_qv)).trans hc_qv
    have hs_c := hcR.2
    refine W.eq (g2 := F0 m 115 ls []) rfl ?_
    refine lv_aload_n C.1 C.2.1 d_FF_open_115 rfl (lo_at hl 0 rfl) ?_
    refine pg_get C hE hM hm_o hc_o rfl in_FF 0 (Nat.le_of_ble_eq_true rfl) tw_85 rfl rfl d_FF_open_116 ?_
    refine lv_iconst (v := 2) C.1 C.2.1 d_FF_open_119 (by decide) ?_
    refine lv_aload_n C.1 C.2.1 d_FF_open_120 rfl (lo_at hl 2 rfl) ?_
    refine cg_callV C hE hM (k_Map_collect l G _ _ _ hm_mp hc_mp hm_kd hc_kd _ qc _ hm_qc hs_c) hm_mp hc_mp rfl tw_519 cy_Map_collect ⟨(Nat.le_of_ble_eq_true rfl), (Nat.le_of_ble_eq_true rfl)⟩ rfl hl.1 rfl (Nat.le_of_ble_eq_true rfl) ⟨by (try show _ ≤ 2000); omega, by (try show _ ≤ 5000); omega⟩ d_FF_open_121 (fun x9 f21 H1 locs1 hp hM => ?_)
    have hcR := hp.2
    have hx9 := hp.1
    subst hx9
    have hW := lsW.ext (q := qc) (f1 := f21) hW (fun y hy => Or.inl hy) (fun y hy => hy) (fun y fs _ e h3 => by rw [hcR.1 y e] at h3; exact h3) (fun d n m h3 => by obtain ⟨_, _, h4, -⟩ := hcR.2.words; rw [h4] at h3; cases h3) (cg_z0P hE hM)
    have hF := hF.keep (f1 := f21) (fun y hy => hy) (fun y ci fs hy hy2 hc => hcR.1 y (hs_c.neO hy2 (by rcases hc with z | z <;> rw [z] <;> decide)))
    have hfr : ∀ y, y ∈ P → y ≠ o → f21 y = f y := fun y k0 k1 => (hcR.1 y (fun z => hqcP (z ▸ k0))).trans (hfr y k0 k1)
    have hc_o := (hcR.1 _ (hs_c.neO hc_o (by decide))).trans hc_o
    have hc_mp := (hcR.1 _ (hs_c.neO hc_mp (by decide))).trans hc_mp
    have hc_kd := (hcR.1 _ (hs_c.ne hc_kd)).trans hc_kd
    have hc_qs := (hcR.1 _ (hs_c.ne hc_qs)).trans hc_qs
    have hc_qp := (hcR.1 _ (hs_c.ne hc_qp)).trans hc_qp
    have hc_qv := (hcR.1 _ (hs_c.ne hc_qv)).trans hc_qv
    have hs_c := hcR.2
    refine W.eq (g2 := F0 m 124 ls []) rfl ?_
    refine lv_aload_n C.1 C.2.1 d_FF_open_124 rfl (lo_at hl 0 rfl) ?_
    refine cg_new C hE hM (ci := 9) (fs := [.null, .null, .null, .null, .null, .null, .null, .null, .int 0, .int 0, .int 0, .int 0, .int 0]) rfl in_Pln ok_Pln tw_520 tw_521 tw_15 (vV_Pln) (by (try show _ ≤ 2000); omega) (by (try show _ ≤ 5000); omega) d_FF_open_125 (fun qk P6 f22 H1 hqk hP6 hf22 hM => ?_)
    have hc_o := ((congrFun hf22 o).trans (va_up_ne _ _ (fun z => hqk (z ▸ hm_o)))).trans hc_o
    have hm_o := (show o ∈ P6 by rw [hP6]; exact List.mem_append_left _ hm_o)
    have hc_mp := ((congrFun hf22 (D 0 0)).trans (va_up_ne _ _ (fun z => hqk (z ▸ hm_mp)))).trans hc_mp
    have hm_mp := (show (D 0 0) ∈ P6 by rw [hP6]; exact List.mem_append_left _ hm_mp)
    have hc_kd := ((congrFun hf22 (D 0 1)).trans (va_up_ne _ _ (fun z => hqk (z ▸ hm_kd)))).trans hc_kd
    have hm_kd := (show (D 0 1) ∈ P6 by rw [hP6]; exact List.mem_append_left _ hm_kd)
    have hc_qs := ((congrFun hf22 qs).trans (va_up_ne _ _ (fun z => hqk (z ▸ hm_qs)))).trans hc_qs
    have hm_qs := (show qs ∈ P6 by rw [hP6]; exact List.mem_append_left _ hm_qs)
    have hc_qp := ((congrFun hf22 qp).trans (va_up_ne _ _ (fun z => hqk (z ▸ hm_qp)))).trans hc_qp
    have hm_qp := (show qp ∈ P6 by rw [hP6]; exact List.mem_append_left _ hm_qp)
    have hc_qv := ((congrFun hf22 qv).trans (va_up_ne _ _ (fun z => hqk (z ▸ hm_qv)))).trans hc_qv
    have hm_qv := (show qv ∈ P6 by rw [hP6]; exact List.mem_append_left _ hm_qv)
    have hs_c := hs_c.congr ((congrFun hf22 qc).trans (va_up_ne _ _ (fun z => hqk (z ▸ hm_qc))))
    have hm_qc := (show qc ∈ P6 by rw [hP6]; exact List.mem_append_left _ hm_qc)
    have hm_qk : qk ∈ P6 := by rw [hP6]; exact List.mem_append_right _ (List.mem_singleton.mpr rfl)
    have hc_qk := (congrFun hf22 qk).trans (va_up_self _ _ _)
    have hW := hW.nw hf22 hqk hP6 (fun z => cg_z0P hE hM (z ▸ hm_qk)) (by intros _ _ _ z; cases z)
    have hqkP : qk ∉ P := fun z => hqk (hPN ▸ List.mem_append_left _ z)
    have hfr : ∀ y, y ∈ P → y ≠ o → f22 y = f y := fun y k0 k1 => ((congrFun hf22 y).trans (va_up_ne _ _ (fun z => hqkP (z ▸ k0)))).trans (hfr y k0 k1)
    have hPN := hPN_new hPN hP6
    have hfk := hf22
    have hPk := hP6
    refine lv_dup C.1 C.2.1 d_FF_open_128 rfl ?_
    refine lv_aload_n C.1 C.2.1 d_FF_open_129 rfl (lo_at hl 2 rfl) ?_
    refine lv_aload_n C.1 C.2.1 d_FF_open_130 rfl (lo_at hl 0 rfl) ?_
    refine pg_get C hE hM hm_o hc_o rfl in_FF 3 (Nat.le_of_ble_eq_true rfl) tw_88 rfl rfl d_FF_open_131 ?_
    refine cg_callIA C hE hM (k_Pln_init l G qk qc qv _ hm_qk hc_qk hm_qc hs_c hm_qv hW) tw_522 cy_Pln_init ⟨(Nat.le_of_ble_eq_true rfl), (Nat.le_of_ble_eq_true rfl)⟩ rfl hl.1 rfl (Nat.le_of_ble_eq_true rfl) ⟨by (try show _ ≤ 2000); omega, by (try show _ ≤ 5000); omega⟩ d_FF_open_134 (fun x9 N7 P7 f23 H1 locs1 hP7 hp hM => ?_)
    obtain ⟨hx9, dP, cP, hc09, hP9, hk9, hW⟩ := hp
    subst hx9
    rw [← hP7] at hP9 hW
    have hF := hF.keep (P1 := P7) (f1 := f23) (fun y hy => by rw [hP7, hPk]; exact List.mem_append_left _ (List.mem_append_left _ hy)) (fun y ci fs hy _ _ => (hk9 y (by rw [hPk]; exact List.mem_append_left _ hy) (fun z => hqk (z ▸ hy))).trans ((congrFun hfk y).trans (va_up_ne _ _ (fun z => hqk (z ▸ hy)))))
    have hfr : ∀ y, y ∈ P → y ≠ o → f23 y = f y := fun y k0 k1 => (hk9 y (by rw [hPN]; exact List.mem_append_left _ k0) (fun z => hqkP (z ▸ k0))).trans (hfr y k0 k1)
    have hc_o := (hk9 _ hm_o (ob_ne hc_o hc_qk (by decide))).trans hc_o
    have hc_mp := (hk9 _ hm_mp (ob_ne hc_mp hc_qk (by decide))).trans hc_mp
    have hc_kd := (hk9 _ hm_kd (ar_ne hc_kd hc_qk)).trans hc_kd
    have hc_qs := (hk9 _ hm_qs (ar_ne hc_qs hc_qk)).trans hc_qs
    have hc_qp := (hk9 _ hm_qp (ar_ne hc_qp hc_qk)).trans hc_qp
    have hc_qv := (hk9 _ hm_qv (ar_ne hc_qv hc_qk)).trans hc_qv
    have hm_o := (show o ∈ P7 by rw [hP7]; exact List.mem_append_left _ hm_o)
    have hm_mp := (show (D 0 0) ∈ P7 by rw [hP7]; exact List.mem_append_left _ hm_mp)
    have hm_kd := (show (D 0 1) ∈ P7 by rw [hP7]; exact List.mem_append_left _ hm_kd)
    have hm_qs := (show qs ∈ P7 by rw [hP7]; exact List.mem_append_left _ hm_qs)
    have hm_qp := (show qp ∈ P7 by rw [hP7]; exact List.mem_append_left _ hm_qp)
    have hm_qv := (show qv ∈ P7 by rw [hP7]; exact List.mem_append_left _ hm_qv)
    have hm_qc := (show qc ∈ P7 by rw [hP7]; exact List.mem_append_left _ hm_qc)
    have hm_qk := (show qk ∈ P7 by rw [hP7]; exact List.mem_append_left _ hm_qk)
    have hPN := hPN_app hPN hP7
    have hc_qk := hP9.2.2.1.1
    refine W.eq (g2 := F0 m 137 ls [_, _]) rfl ?_
    have hc_o9 := hc_o
    refine cg_put C hE hM hm_o hc_o rfl in_FF ok_FF n_FF 5 (Nat.le_of_ble_eq_true rfl) tw_90 rfl rfl rfl rfl rfl (Nat.le_of_ble_eq_true rfl) d_FF_open_137 (fun f24 H1 locs1 hf24 hM => ?_)
    have hc_mp := ((congrFun hf24 (D 0 0)).trans (va_up_ne _ _ (ob_ne hc_mp hc_o (by decide)))).trans hc_mp
    have hc_kd := ((congrFun hf24 (D 0 1)).trans (va_up_ne _ _ (ar_ne hc_kd hc_o))).trans hc_kd
    have hc_qs := ((congrFun hf24 qs).trans (va_up_ne _ _ (ar_ne hc_qs hc_o))).trans hc_qs
    have hc_qp := ((congrFun hf24 qp).trans (va_up_ne _ _ (ar_ne hc_qp hc_o))).trans hc_qp
    have hc_qv := ((congrFun hf24 qv).trans (va_up_ne _ _ (ar_ne hc_qv hc_o))).trans hc_qv
    have hc_qk := ((congrFun hf24 qk).trans (va_up_ne _ _ (ob_ne hc_qk hc_o (by decide)))).trans hc_qk
    have hW := hW.wr hf24 hc_o (by decide)
    have hc_o := (congrFun hf24 o).trans (va_up_self _ _ _)
    have hfr : ∀ y, y ∈ P → y ≠ o → f24 y = f y := fun y k0 k1 => ((congrFun hf24 y).trans (va_up_ne _ _ (k1))).trans (hfr y k0 k1)
    have hP9 := hP9.wr hf24 hc_o9 (by decide) (by decide)
    have hF := hF.keep (f1 := f24) (fun y hy => hy) (fun y ci fs hy hy2 hc => by rw [hf24, va_up_ne _ _ (ob_ne hy2 hc_o9 (by rcases hc with z | z <;> rw [z] <;> decide))])
    refine lv_aload_n C.1 C.2.1 d_FF_open_140 rfl (lo_at hl 0 rfl) ?_
    refine pg_get C hE hM hm_o hc_o rfl in_FF 3 (Nat.le_of_ble_eq_true rfl) tw_88 rfl rfl d_FF_open_141 ?_
    refine pg_alen C hE hM hm_qv (t0 := 3) (Nat.le_of_ble_eq_true rfl) hc_qv d_FF_open_144 ?_
    refine pg_iret C hr hlk hM hPN (by omega) (by omega) d_FF_open_145 ?_
    refine ⟨rfl, Dop D qv qs qk K Lq dP cP, Cop C9, fun g pl => ?_⟩
    rw [hPN] at hm_qs hm_qv hW hF hP9
    exact cS_opn hS hN1 hN2 hz hcn (fun y hy => List.mem_append_left _ hy) hfr hW hc_o hm_qs hc_qs hgs hgp hm_qv hc_qv hF hP9 (fun k hk => by simp) (hop g pl)
  · have hu : u < (cn (T.A 2) 3 96) := nI_ltN (by omega) (by omega) hc72
    refine lv_aload_n C.1 C.2.1 d_FF_open_75 rfl (lo_at hl 0 rfl) ?_
    refine pg_get C hE hM hm_o hc_o rfl in_FF 3 (Nat.le_of_ble_eq_true rfl) tw_88 rfl rfl d_FF_open_76 ?_
    refine lv_iload_n C.1 C.2.1 d_FF_open_79 rfl (lo_at hl 2 rfl) ?_
    refine cg_new C hE hM (ci := 8) (fs := [.int 0, .int 0, .null, .int 0, .int 0, .int 0, .int 0, .int 0, .int 0, .int 0]) rfl in_Veh ok_Veh tw_83 tw_467 tw_14 (vV_Veh) (by (try show _ ≤ 2000); omega) (by (try show _ ≤ 5000); omega) d_FF_open_80 (fun qw P5 f18 H1 hqw hP5 hf18 hM => ?_)
    have hc_o := ((congrFun hf18 o).trans (va_up_ne _ _ (fun z => hqw (z ▸ hm_o)))).trans hc_o
    have hm_o := (show o ∈ P5 by rw [hP5]; exact List.mem_append_left _ hm_o)
    have hc_mp := ((congrFun hf18 (D 0 0)).trans (va_up_ne _ _ (fun z => hqw (z ▸ hm_mp)))).trans hc_mp
    have hm_mp := (show (D 0 0) ∈ P5 by rw [hP5]; exact List.mem_append_left _ hm_mp)
    have hc_kd := ((congrFun hf18 (D 0 1)).trans (va_up_ne _ _ (fun z => hqw (z ▸ hm_kd)))).trans hc_kd
    have hm_kd := (show (D 0 1) ∈ P5 by rw [hP5]; exact List.mem_append_left _ hm_kd)
    have hc_qs := ((congrFun hf18 qs).trans (va_up_ne _ _ (fun z => hqw (z ▸ hm_qs)))).trans hc_qs
    have hm_qs := (show qs ∈ P5 by rw [hP5]; exact List.mem_append_left _ hm_qs)
    have hc_qp := ((congrFun hf18 qp).trans (va_up_ne _ _ (fun z => hqw (z ▸ hm_qp)))).trans hc_qp
    have hm_qp := (show qp ∈ P5 by rw [hP5]; exact List.mem_append_left _ hm_qp)
    have hc_qv := ((congrFun hf18 qv).trans (va_up_ne _ _ (fun z => hqw (z ▸ hm_qv)))).trans hc_qv
    have hm_qv := (show qv ∈ P5 by rw [hP5]; exact List.mem_append_left _ hm_qv)
    have hm_qw : qw ∈ P5 := by rw [hP5]; exact List.mem_append_right _ (List.mem_singleton.mpr rfl)
    have hc_qw := (congrFun hf18 qw).trans (va_up_self _ _ _)
    have hW := hW.nw hf18 hqw hP5 (fun z => cg_z0P hE hM (z ▸ hm_qw)) (by intros _ _ _ z; cases z)
    have hqwP : qw ∉ P := fun z => hqw (hPN ▸ List.mem_append_left _ z)
    have hfr : ∀ y, y ∈ P → y ≠ o → f18 y = f y := fun y k0 k1 => ((congrFun hf18 y).trans (va_up_ne _ _ (fun z => hqwP (z ▸ k0)))).trans (hfr y k0 k1)
    have hPN := hPN_new hPN hP5
    have hfw := hf18
    have hPw := hP5
    refine lv_dup C.1 C.2.1 d_FF_open_83 rfl ?_
    refine lv_iload_n C.1 C.2.1 d_FF_open_84 rfl (lo_at hl 2 rfl) ?_
    refine lv_aload_n C.1 C.2.1 d_FF_open_85 rfl (lo_at hl 1 rfl) ?_
    refine lv_iload_n C.1 C.2.1 d_FF_open_86 rfl (lo_at hl 2 rfl) ?_
    refine cg_iald C hE hM hm_qp hc_qp u rfl hu (by omega) d_FF_open_87 ?_
    refine cg_callIA C hE hM (k_Veh_init l G qw _ _ hm_qw hc_qw) tw_468 cy_Veh_init ⟨(Nat.le_of_ble_eq_true rfl), (Nat.le_of_ble_eq_true rfl)⟩ rfl hl.1 rfl (Nat.le_of_ble_eq_true rfl) ⟨by (try show _ ≤ 2000); omega, by (try show _ ≤ 5000); omega⟩ d_FF_open_88 (fun x9 N6 P6 f19 H1 locs1 hP6 hp hM => ?_)
    obtain ⟨hx9, ql, hN9, hql, hk9, hw9, hl9⟩ := hp
    subst hx9
    subst hN9
    have hzz := cg_z0P hE hM
    have hqlP : ql ∉ P := fun z => hql (hPN ▸ List.mem_append_left _ z)
    have hW := lsW.ext (q := ql) (f1 := f19) hW (fun y hy => by rw [hP6] at hy; exact (List.mem_append.mp hy).imp id (fun z => List.mem_singleton.mp z)) (fun y hy => by rw [hP6]; exact List.mem_append_left _ hy) (fun y fs hy _ h3 => by
        by_cases e : y = qw
        · rw [e, hw9] at h3; cases h3
        · rw [← hk9 y hy e]; exact h3) (fun d n m h3 => by rw [hl9] at h3; cases h3; rfl) hzz
    have hF := hF.keep (P1 := P6) (f1 := f19) (fun y hy => by rw [hP6, hPw]; exact List.mem_append_left _ (List.mem_append_left _ hy)) (fun y ci fs hy _ _ => (hk9 y (by rw [hPw]; exact List.mem_append_left _ hy) (fun z => hqw (z ▸ hy))).trans ((congrFun hfw y).trans (va_up_ne _ _ (fun z => hqw (z ▸ hy)))))
    have hc_o := (hk9 o hm_o (ob_ne hc_o hc_qw (by decide))).trans hc_o
    have hc_mp := (hk9 (D 0 0) hm_mp (ob_ne hc_mp hc_qw (by decide))).trans hc_mp
    have hc_kd := (hk9 (D 0 1) hm_kd (ar_ne hc_kd hc_qw)).trans hc_kd
    have hc_qs := (hk9 qs hm_qs (ar_ne hc_qs hc_qw)).trans hc_qs
    have hc_qp := (hk9 qp hm_qp (ar_ne hc_qp hc_qw)).trans hc_qp
    have hc_qv := (hk9 qv hm_qv (ar_ne hc_qv hc_qw)).trans hc_qv
    have hc_qw := hw9
    have hfr : ∀ y, y ∈ P → y ≠ o → f19 y = f y := fun y k0 k1 => (hk9 y (by rw [hPw]; exact List.mem_append_left _ (List.mem_append_left _ k0)) (fun z => hqwP (z ▸ k0))).trans (hfr y k0 k1)
    have hm_o := (show o ∈ P6 by rw [hP6]; exact List.mem_append_left _ hm_o)
    have hm_mp := (show (D 0 0) ∈ P6 by rw [hP6]; exact List.mem_append_left _ hm_mp)
    have hm_kd := (show (D 0 1) ∈ P6 by rw [hP6]; exact List.mem_append_left _ hm_kd)
    have hm_qs := (show qs ∈ P6 by rw [hP6]; exact List.mem_append_left _ hm_qs)
    have hm_qp := (show qp ∈ P6 by rw [hP6]; exact List.mem_append_left _ hm_qp)
    have hm_qv := (show qv ∈ P6 by rw [hP6]; exact List.mem_append_left _ hm_qv)
    have hm_qw := (show qw ∈ P6 by rw [hP6]; exact List.mem_append_left _ hm_qw)
    have hPN := hPN_app hPN hP6
    have hm_ql : ql ∈ P6 := by rw [hP6]; exact List.mem_append_right _ (List.mem_singleton.mpr rfl)
    refine W.eq (g2 := F0 m 91 ls [_, _, _]) rfl ?_
    refine W.widen (k := 400 + (u + 1) * 2) (n := 1000 + (u + 1) * 13) (by omega) (by omega) ?_
    have hc_qv0 := hc_qv
    refine cg_aast C hE hM hm_qv hc_qv rfl hm_qw hc_qw rfl (Or.inl rfl) u rfl hu (by omega) d_FF_open_91 (fun f20 H1 locs1 hf20 hM => ?_)
    have hc_o := ((congrFun hf20 o).trans (va_up_ne _ _ ((ar_ne hc_qv hc_o).symm))).trans hc_o
    have hc_mp := ((congrFun hf20 (D 0 0)).trans (va_up_ne _ _ ((ar_ne hc_qv hc_mp).symm))).trans hc_mp
    have hc_kd := ((congrFun hf20 (D 0 1)).trans (va_up_ne _ _ (ai_ar hc_kd hc_qv))).trans hc_kd
    have hc_qs := ((congrFun hf20 qs).trans (va_up_ne _ _ (ai_ar hc_qs hc_qv))).trans hc_qs
    have hc_qp := ((congrFun hf20 qp).trans (va_up_ne _ _ (ai_ar hc_qp hc_qv))).trans hc_qp
    have hc_qw := ((congrFun hf20 qw).trans (va_up_ne _ _ ((ar_ne hc_qv hc_qw).symm))).trans hc_qw
    have hW := hW.wa hf20 hc_qv
    have hc_qv := (congrFun hf20 qv).trans (va_up_self _ _ _)
    have hfr : ∀ y, y ∈ P → y ≠ o → f20 y = f y := fun y k0 k1 => ((congrFun hf20 y).trans (va_up_ne _ _ (fun z => hqvP (z ▸ k0)))).trans (hfr y k0 k1)
    rw [cutK_s] at hc_qv
    have hF := (hF.keep (fun y hy => hy) (fun y ci fs hy hy2 _ => by rw [hf20, va_up_ne _ _ (ar_ne hc_qv0 hy2).symm])).step hm_qw hc_qw hm_ql ((congrFun hf20 ql).trans ((va_up_ne _ _ (ar_ne hc_qv0 hl9).symm).trans hl9)) hqlP (fun j hj z => hqw (z ▸ (hF0.1 j hj).1.1)) (fun j hj z => hql (by rw [hPw, ← z]; exact List.mem_append_left _ (hF0.1 j hj).2.1.1))
    refine lo_iinc C hl d_FF_open_92 rfl rfl (fun ls hl => ?_)
    refine lv_goto (tgt := 69) C.1 C.2.1 d_FF_open_95 (by decide) ?_
    have h9 := hl
    rw [nI_pl] at h9
    exact ih69 (u + 1, (va_up K u qw), (va_up Lq u ql), ls, _, H1, locs1, f20) ⟨by (try dsimp only); omega, hc_o, hc_mp, hc_kd, hc_qs, hc_qp, hc_qv, (hPN ▸ hm_o), (hPN ▸ hm_mp), (hPN ▸ hm_kd), (hPN ▸ hm_qs), (hPN ▸ hm_qp), (hPN ▸ hm_qv), (hPN ▸ hW), hfr, (hPN ▸ hF), lo_weak h9 ⟨rfl, rfl, rfl, trivial⟩, (hPN ▸ hM)⟩ (by show (cn (T.A 2) 3 96) - (u + 1) < (cn (T.A 2) 3 96) - u; omega)
