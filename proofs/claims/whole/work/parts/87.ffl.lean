theorem lsW.ext {G : GG} {P P1 : List Nat} {f f1 : Nat → va_E} {q : Nat} (h : lsW G P f) (hs : ∀ y, y ∈ P1 → y ∈ P ∨ y = q) (hsub : ∀ y, y ∈ P → y ∈ P1) (hk : ∀ y fs, y ∈ P → y ≠ q → f1 y = .inr (3, fs) → f y = .inr (3, fs)) (hq : ∀ d n m, f1 q = .inr (3, [.ref d, n, m]) → d = G.2.2) (hz : G.2.2 ∉ P1) : lsW G P1 f1 := by
  refine ⟨fun b1 b2 d n1 n2 m1 m2 hb1 hb2 h1 h2 hd => ?_, fun a d n m ha h1 => ?_⟩
  · by_cases e1 : b1 = q
    · subst e1; exact absurd (hq _ _ _ h1 ▸ hd) hz
    · by_cases e2 : b2 = q
      · subst e2; exact absurd (hq _ _ _ h2 ▸ hd) hz
      · have p1 := (hs b1 hb1).resolve_right e1
        have p2 := (hs b2 hb2).resolve_right e2
        have g1 := hk b1 _ p1 e1 h1
        have g2 := hk b2 _ p2 e2 h2
        rcases h.2 b1 d _ _ p1 g1 with z | z
        · exact h.1 b1 b2 d _ _ _ _ p1 p2 g1 g2 z
        · exact absurd (z ▸ hd) hz
  · by_cases e : a = q
    · subst e; exact Or.inr (hq _ _ _ h1)
    · have p := (hs a ha).resolve_right e
      exact (h.2 a d _ _ p (hk a _ p e h1)).imp (hsub d) id
theorem lsS_0 {G : GG} {P : List Nat} {f : Nat → va_E} {b : Nat} {m0 : Int32} {g : Nat → Nat} (hb : b ∈ P) (hf : f b = .inr (3, [.ref G.2.2, .int 0, .int m0])) : lsS G P f b 0 0 g := ⟨hb, G.2.2, m0, hf, Nat.le_refl _, by decide, Or.inl ⟨rfl, rfl⟩⟩
def D0 (a b c d e g h : Nat) : Nat → Nat → Nat := fun i j => if i = 0 then (if j = 0 then a else if j = 1 then b else if j = 2 then c else if j = 3 then d else if j = 4 then e else if j = 5 then g else h) else 0
theorem cS_ini {G : GG} {P : List Nat} {f : Nat → va_E} {o a b c d e g h : Nat} {g0 : Nat → Int32} {k : KS} (hk : k = kIni) (ho : o ∈ P) (hfo : f o = .inr (0, [.ref a, .ref c, .ref e, .ref g, .ref h, .null, .int 0, .int 0, .int 0])) (ha : a ∈ P) (hfa : f a = .inr (1, [.ref b])) (hb : b ∈ P) (hfb : f b = .inl (G.2.1 0, 96, .inl (fun _ => 0))) (hc : c ∈ P) (hfc : f c = .inr (2, [.ref d])) (hd : d ∈ P) (hfd : f d = .inr (3, [.ref G.2.2, .int 0, .int 0])) (he : e ∈ P) (hfe : f e = .inr (3, [.ref G.2.2, .int 0, .int 0])) (hg : g ∈ P) {K : Nat → Option Nat} (hfg : f g = arR G 3 0 (fun u => some (D0 a b c d e g h 1 u))) (hh : h ∈ P) (hfh : f h = .inl (G.2.1 0, 0, .inl g0)) (hde : d ≠ e) (hw : lsW G P f) : cS G P f o (D0 a b c d e g h) (fun _ => 0) (fun _ => 0, fun _ _ => 0, k) := by
  subst hk
  apply cS.mk
  case ff => exact ⟨ho, hfo⟩
  case mp => exact ⟨ha, hfa⟩
  case kd => exact ⟨hb, hfb⟩
  case ar => exact ⟨hc, hfc⟩
  case al => exact lsS_0 hd hfd
  case lt => intro i hi; exact absurd hi (Nat.not_lt_zero _)
  case tl => exact lsS_0 he hfe
  case tk => intro i hi; exact absurd hi (Nat.not_lt_zero _)
  case va => exact ⟨hg, hfg⟩
  case vh => intro i hi; exact absurd hi (Nat.not_lt_zero _)
  case vl => intro i hi; exact absurd hi (Nat.not_lt_zero _)
  case mv => intro i hi; exact absurd hi (Nat.not_lt_zero _)
  case sa => exact ⟨hh, g0, hfh, fun j hj => absurd hj (Nat.not_lt_zero _)⟩
  case vj => intro u w hu; exact absurd hu (Nat.not_lt_zero _)
  case lj => intro u w hu; exact absurd hu (Nat.not_lt_zero _)
  case l0 => exact ⟨hde, fun u hu => absurd hu (Nat.not_lt_zero _)⟩
  case tj => intro u w hu; exact absurd hu (Nat.not_lt_zero _)
  case cp => exact ⟨by decide, by decide, fun u hu => absurd hu (Nat.not_lt_zero _)⟩
  case lw => exact hw
  case pl => exact Or.inl rfl
set_option maxHeartbeats 4000000 in
set_option maxRecDepth 100000 in
theorem k_FF_init (l : Launch) (G : GG) {P : List Nat} {f : Nat → va_E} (o : Nat) (hm_o : o ∈ P) (hc_o : f o = .inr (0, [.null, .null, .null, .null, .null, .null, .int 0, .int 0, .int 0])) (hW : lsW G P f)  : ct l G y_FF_init c_FF_init 1 none 5 100 (8) (110) [.ref o] P f (fun x N f1 => x = none ∧ ∃ D : Nat → Nat → Nat, cS G (P ++ N) f1 o D (fun _ => 0) (fun _ => 0, fun _ _ => 0, kIni)) := by
  refine ct_intro (by decide) [some (.ref o)] rfl rfl (Nat.le_of_ble_eq_true rfl) ?_
  intro p e s m below meth c ls C hr hlk hnm hE hM hl
  have hPN : P = P ++ [] := (List.append_nil P).symm
  refine lv_aload_n C.1 C.2.1 d_FF_init_0 rfl (lo_at hl 0 rfl) ?_
  refine W.objInit C.1 C.2.1 C.2.2.2.1 (C.2.2.2.2 _ tw_31) (C.2.2.2.2 _ tw_32) (C.2.2.2.2 _ tw_33) rfl (by rw [C.2.2.1]; exact hl.1) rfl d_FF_init_1 (Nat.le_of_ble_eq_true rfl) (Nat.le_of_ble_eq_true rfl) ?_
  refine W.eq (g2 := F0 m 4 ls []) rfl ?_
  refine lv_aload_n C.1 C.2.1 d_FF_init_4 rfl (lo_at hl 0 rfl) ?_
  have hm_o0 := hm_o
  refine cg_new C hE hM (ci := 1) (fs := [.null]) rfl in_Map ok_Map tw_34 tw_35 tw_2 (by decide) (Nat.le_of_ble_eq_true rfl) (Nat.le_of_ble_eq_true rfl) d_FF_init_5 (fun qa P1 f11 H1 hqa hP1 hf11 hM => ?_)
  have hc_o := ((congrFun hf11 o).trans (va_up_ne _ _ (fun z => hqa (z ▸ hm_o)))).trans hc_o
  have hm_o := (show o ∈ P1 by rw [hP1]; exact List.mem_append_left _ hm_o)
  have hm_qa : qa ∈ P1 := by rw [hP1]; exact List.mem_append_right _ (List.mem_singleton.mpr rfl)
  have hc_qa := (congrFun hf11 qa).trans (va_up_self _ _ _)
  have hW := hW.nw hf11 hqa hP1 (fun z => cg_z0P hE hM (z ▸ hm_qa)) (by intros _ _ _ z; cases z)
  have hPN := hPN_new hPN hP1
  refine lv_dup C.1 C.2.1 d_FF_init_8 rfl ?_
  refine cg_callIA C hE hM (k_Map_init l G qa hm_qa hc_qa) tw_36 cy_Map_init ⟨(Nat.le_of_ble_eq_true rfl), (Nat.le_of_ble_eq_true rfl)⟩ rfl hl.1 rfl (Nat.le_of_ble_eq_true rfl) ⟨by (try show _ ≤ 8); omega, by (try show _ ≤ 110); omega⟩ d_FF_init_9 (fun x9 N2 P2 f12 H1 locs1 hP2 hp hM => ?_)
  obtain ⟨hx9, qb, hN9, hqb, hf9⟩ := hp
  subst hx9
  subst hN9
  have hzz := cg_z0P hE hM
  rw [hP2] at hzz
  have hW := (hW.nw (f1 := va_up f11 qb (.inl (G.2.1 0, 96, .inl (fun _ => 0)))) rfl hqb hP2 (fun z => hzz (by rw [← z]; exact List.mem_append_right _ (List.mem_singleton.mpr rfl))) (by intros _ _ _ z; cases z)).wr hf9 (by rw [va_up_ne _ _ (fun z : qa = qb => hqb (z ▸ hm_qa))]; exact hc_qa) (by decide)
  have hqao : qa ≠ o := fun z => hqa (z ▸ hm_o0)
  have hc_o := ((congrFun hf9 o).trans ((va_up_ne _ _ (Ne.symm hqao)).trans (va_up_ne _ _ (fun z : o = qb => hqb (z ▸ hm_o))))).trans hc_o
  have hc_qa := (congrFun hf9 qa).trans (va_up_self _ _ _)
  have hc_qb := (congrFun hf9 qb).trans ((va_up_ne _ _ (fun z : qb = qa => hqb (z ▸ hm_qa))).trans (va_up_self _ _ _))
  have hm_o := (show o ∈ P2 by rw [hP2]; exact List.mem_append_left _ hm_o)
  have hm_qa := (show qa ∈ P2 by rw [hP2]; exact List.mem_append_left _ hm_qa)
  have hPN := hPN_app hPN hP2
  have hm_qb : qb ∈ P2 := by rw [hP2]; exact List.mem_append_right _ (List.mem_singleton.mpr rfl)
  refine W.eq (g2 := F0 m 12 ls [_, _]) rfl ?_
  refine cg_putF C hE hM hm_o hc_o rfl in_FF ok_FF n_FF 0 (Nat.le_of_ble_eq_true rfl) tw_85 rfl rfl hnm rfl rfl rfl rfl (Nat.le_of_ble_eq_true rfl) d_FF_init_12 (fun f13 H1 locs1 hf13 hM => ?_)
  have hc_qa := ((congrFun hf13 qa).trans (va_up_ne _ _ (ob_ne hc_qa hc_o (by decide)))).trans hc_qa
  have hc_qb := ((congrFun hf13 qb).trans (va_up_ne _ _ (ar_ne hc_qb hc_o))).trans hc_qb
  have hW := hW.wr hf13 hc_o (by decide)
  have hc_o := (congrFun hf13 o).trans (va_up_self _ _ _)
  refine lv_aload_n C.1 C.2.1 d_FF_init_15 rfl (lo_at hl 0 rfl) ?_
  refine cg_new C hE hM (ci := 2) (fs := [.null]) rfl in_Air ok_Air tw_45 tw_46 tw_3 (by decide) (Nat.le_of_ble_eq_true rfl) (Nat.le_of_ble_eq_true rfl) d_FF_init_16 (fun qc P3 f14 H1 hqc hP3 hf14 hM => ?_)
  have hc_o := ((congrFun hf14 o).trans (va_up_ne _ _ (fun z => hqc (z ▸ hm_o)))).trans hc_o
  have hm_o := (show o ∈ P3 by rw [hP3]; exact List.mem_append_left _ hm_o)
  have hc_qa := ((congrFun hf14 qa).trans (va_up_ne _ _ (fun z => hqc (z ▸ hm_qa)))).trans hc_qa
  have hm_qa := (show qa ∈ P3 by rw [hP3]; exact List.mem_append_left _ hm_qa)
  have hc_qb := ((congrFun hf14 qb).trans (va_up_ne _ _ (fun z => hqc (z ▸ hm_qb)))).trans hc_qb
  have hm_qb := (show qb ∈ P3 by rw [hP3]; exact List.mem_append_left _ hm_qb)
  have hm_qc : qc ∈ P3 := by rw [hP3]; exact List.mem_append_right _ (List.mem_singleton.mpr rfl)
  have hc_qc := (congrFun hf14 qc).trans (va_up_self _ _ _)
  have hW := hW.nw hf14 hqc hP3 (fun z => cg_z0P hE hM (z ▸ hm_qc)) (by intros _ _ _ z; cases z)
  have hPN := hPN_new hPN hP3
  refine lv_dup C.1 C.2.1 d_FF_init_19 rfl ?_
  refine cg_callIA C hE hM (k_Air_init l G qc hm_qc hc_qc) tw_47 cy_Air_init ⟨(Nat.le_of_ble_eq_true rfl), (Nat.le_of_ble_eq_true rfl)⟩ rfl hl.1 rfl (Nat.le_of_ble_eq_true rfl) ⟨by (try show _ ≤ 8); omega, by (try show _ ≤ 110); omega⟩ d_FF_init_20 (fun x9 N4 P4 f15 H1 locs1 hP4 hp hM => ?_)
  obtain ⟨hx9, qd, hN9, hqd, hk9, ha9, hd9⟩ := hp
  subst hx9
  subst hN9
  have hzz := cg_z0P hE hM
  have hW := lsW.ext (q := qd) (f1 := f15) hW (fun y hy => by rw [hP4] at hy; exact (List.mem_append.mp hy).imp id (fun z => List.mem_singleton.mp z)) (fun y hy => by rw [hP4]; exact List.mem_append_left _ hy) (fun y fs hy _ h3 => by
      by_cases e : y = qc
      · rw [e, ha9] at h3; cases h3
      · rw [← hk9 y hy e]; exact h3) (fun d n m h3 => by rw [hd9] at h3; cases h3; rfl) hzz
  have hc_o := (hk9 o hm_o (ob_ne hc_o hc_qc (by decide))).trans hc_o
  have hc_qa := (hk9 qa hm_qa (ob_ne hc_qa hc_qc (by decide))).trans hc_qa
  have hc_qb := (hk9 qb hm_qb (ar_ne hc_qb hc_qc)).trans hc_qb
  have hc_qc := ha9
  have hc_qd := hd9
  have hm_o := (show o ∈ P4 by rw [hP4]; exact List.mem_append_left _ hm_o)
  have hm_qa := (show qa ∈ P4 by rw [hP4]; exact List.mem_append_left _ hm_qa)
  have hm_qb := (show qb ∈ P4 by rw [hP4]; exact List.mem_append_left _ hm_qb)
  have hm_qc := (show qc ∈ P4 by rw [hP4]; exact List.mem_append_left _ hm_qc)
  have hPN := hPN_app hPN hP4
  have hm_qd : qd ∈ P4 := by rw [hP4]; exact List.mem_append_right _ (List.mem_singleton.mpr rfl)
  refine W.eq (g2 := F0 m 23 ls [_, _]) rfl ?_
  refine cg_putF C hE hM hm_o hc_o rfl in_FF ok_FF n_FF 1 (Nat.le_of_ble_eq_true rfl) tw_86 rfl rfl hnm rfl rfl rfl rfl (Nat.le_of_ble_eq_true rfl) d_FF_init_23 (fun f16 H1 locs1 hf16 hM => ?_)
  have hc_qa := ((congrFun hf16 qa).trans (va_up_ne _ _ (ob_ne hc_qa hc_o (by decide)))).trans hc_qa
  have hc_qb := ((congrFun hf16 qb).trans (va_up_ne _ _ (ar_ne hc_qb hc_o))).trans hc_qb
  have hc_qc := ((congrFun hf16 qc).trans (va_up_ne _ _ (ob_ne hc_qc hc_o (by decide)))).trans hc_qc
  have hc_qd := ((congrFun hf16 qd).trans (va_up_ne _ _ (ob_ne hc_qd hc_o (by decide)))).trans hc_qd
  have hW := hW.wr hf16 hc_o (by decide)
  have hc_o := (congrFun hf16 o).trans (va_up_self _ _ _)
  refine lv_aload_n C.1 C.2.1 d_FF_init_26 rfl (lo_at hl 0 rfl) ?_
  have hm_qd0 := hm_qd
  refine cg_new C hE hM (ci := 3) (fs := [.null, .int 0, .int 0]) rfl in_AL ok_AL tw_81 tw_52 tw_6 (by decide) (Nat.le_of_ble_eq_true rfl) (Nat.le_of_ble_eq_true rfl) d_FF_init_27 (fun qe P5 f17 H1 hqe hP5 hf17 hM => ?_)
  have hc_o := ((congrFun hf17 o).trans (va_up_ne _ _ (fun z => hqe (z ▸ hm_o)))).trans hc_o
  have hm_o := (show o ∈ P5 by rw [hP5]; exact List.mem_append_left _ hm_o)
  have hc_qa := ((congrFun hf17 qa).trans (va_up_ne _ _ (fun z => hqe (z ▸ hm_qa)))).trans hc_qa
  have hm_qa := (show qa ∈ P5 by rw [hP5]; exact List.mem_append_left _ hm_qa)
  have hc_qb := ((congrFun hf17 qb).trans (va_up_ne _ _ (fun z => hqe (z ▸ hm_qb)))).trans hc_qb
  have hm_qb := (show qb ∈ P5 by rw [hP5]; exact List.mem_append_left _ hm_qb)
  have hc_qc := ((congrFun hf17 qc).trans (va_up_ne _ _ (fun z => hqe (z ▸ hm_qc)))).trans hc_qc
  have hm_qc := (show qc ∈ P5 by rw [hP5]; exact List.mem_append_left _ hm_qc)
  have hc_qd := ((congrFun hf17 qd).trans (va_up_ne _ _ (fun z => hqe (z ▸ hm_qd)))).trans hc_qd
  have hm_qd := (show qd ∈ P5 by rw [hP5]; exact List.mem_append_left _ hm_qd)
  have hm_qe : qe ∈ P5 := by rw [hP5]; exact List.mem_append_right _ (List.mem_singleton.mpr rfl)
  have hc_qe := (congrFun hf17 qe).trans (va_up_self _ _ _)
  have hW := hW.nw hf17 hqe hP5 (fun z => cg_z0P hE hM (z ▸ hm_qe)) (by intros _ _ _ z; cases z)
  have hPN := hPN_new hPN hP5
  refine lv_dup C.1 C.2.1 d_FF_init_30 rfl ?_
  refine cg_callI C hE hM (k_AL_init l G qe hm_qe hc_qe) tw_82 cy_AL_init ⟨(Nat.le_of_ble_eq_true rfl), (Nat.le_of_ble_eq_true rfl)⟩ rfl hl.1 rfl (Nat.le_of_ble_eq_true rfl) ⟨by (try show _ ≤ 8); omega, by (try show _ ≤ 110); omega⟩ d_FF_init_31 (fun x9 f18 H1 locs1 hp hM => ?_)
  obtain ⟨hx9, hf9⟩ := hp
  subst hx9
  have hW := lsW.ext (q := qe) (f1 := f18) hW (fun y hy => Or.inl hy) (fun y hy => hy) (fun y fs _ e h3 => by rw [hf9, va_up_ne _ _ e] at h3; exact h3) (fun d n m h3 => by rw [hf9, va_up_self] at h3; cases h3; rfl) (cg_z0P hE hM)
  have hc_o := ((congrFun hf9 o).trans (va_up_ne _ _ (ob_ne hc_o hc_qe (by decide)))).trans hc_o
  have hc_qa := ((congrFun hf9 qa).trans (va_up_ne _ _ (ob_ne hc_qa hc_qe (by decide)))).trans hc_qa
  have hc_qb := ((congrFun hf9 qb).trans (va_up_ne _ _ (ar_ne hc_qb hc_qe))).trans hc_qb
  have hc_qc := ((congrFun hf9 qc).trans (va_up_ne _ _ (ob_ne hc_qc hc_qe (by decide)))).trans hc_qc
  have hc_qd := ((congrFun hf9 qd).trans (va_up_ne _ _ (Ne.symm ((fun z => hqe (z ▸ hm_qd0)))))).trans hc_qd
  have hc_qe := (congrFun hf9 qe).trans (va_up_self _ _ _)
  refine W.eq (g2 := F0 m 34 ls [_, _]) rfl ?_
  refine cg_putF C hE hM hm_o hc_o rfl in_FF ok_FF n_FF 2 (Nat.le_of_ble_eq_true rfl) tw_87 rfl rfl hnm rfl rfl rfl rfl (Nat.le_of_ble_eq_true rfl) d_FF_init_34 (fun f19 H1 locs1 hf19 hM => ?_)
  have hc_qa := ((congrFun hf19 qa).trans (va_up_ne _ _ (ob_ne hc_qa hc_o (by decide)))).trans hc_qa
  have hc_qb := ((congrFun hf19 qb).trans (va_up_ne _ _ (ar_ne hc_qb hc_o))).trans hc_qb
  have hc_qc := ((congrFun hf19 qc).trans (va_up_ne _ _ (ob_ne hc_qc hc_o (by decide)))).trans hc_qc
  have hc_qd := ((congrFun hf19 qd).trans (va_up_ne _ _ (ob_ne hc_qd hc_o (by decide)))).trans hc_qd
  have hc_qe := ((congrFun hf19 qe).trans (va_up_ne _ _ (ob_ne hc_qe hc_o (by decide)))).trans hc_qe
  have hW := hW.wr hf19 hc_o (by decide)
  have hc_o := (congrFun hf19 o).trans (va_up_self _ _ _)
  refine lv_aload_n C.1 C.2.1 d_FF_init_37 rfl (lo_at hl 0 rfl) ?_
  refine lv_iconst (v := 0) C.1 C.2.1 d_FF_init_38 (by decide) ?_
  have hm_qb0 := hm_qb
  refine cg_newR C hE hM (t0 := 3) rfl hE.1.2.2.1 tw_83 0 rfl (by decide) (Nat.le_of_ble_eq_true rfl) (Nat.le_of_ble_eq_true rfl) d_FF_init_39 (fun qg P6 f20 H1 hqg hP6 hf20 hM => ?_)
  have hc_o := ((congrFun hf20 o).trans (va_up_ne _ _ (fun z => hqg (z ▸ hm_o)))).trans hc_o
  have hm_o := (show o ∈ P6 by rw [hP6]; exact List.mem_append_left _ hm_o)
  have hc_qa := ((congrFun hf20 qa).trans (va_up_ne _ _ (fun z => hqg (z ▸ hm_qa)))).trans hc_qa
  have hm_qa := (show qa ∈ P6 by rw [hP6]; exact List.mem_append_left _ hm_qa)
  have hc_qb := ((congrFun hf20 qb).trans (va_up_ne _ _ (fun z => hqg (z ▸ hm_qb)))).trans hc_qb
  have hm_qb := (show qb ∈ P6 by rw [hP6]; exact List.mem_append_left _ hm_qb)
  have hc_qc := ((congrFun hf20 qc).trans (va_up_ne _ _ (fun z => hqg (z ▸ hm_qc)))).trans hc_qc
  have hm_qc := (show qc ∈ P6 by rw [hP6]; exact List.mem_append_left _ hm_qc)
  have hc_qd := ((congrFun hf20 qd).trans (va_up_ne _ _ (fun z => hqg (z ▸ hm_qd)))).trans hc_qd
  have hm_qd := (show qd ∈ P6 by rw [hP6]; exact List.mem_append_left _ hm_qd)
  have hc_qe := ((congrFun hf20 qe).trans (va_up_ne _ _ (fun z => hqg (z ▸ hm_qe)))).trans hc_qe
  have hm_qe := (show qe ∈ P6 by rw [hP6]; exact List.mem_append_left _ hm_qe)
  have hm_qg : qg ∈ P6 := by rw [hP6]; exact List.mem_append_right _ (List.mem_singleton.mpr rfl)
  have hc_qg := (congrFun hf20 qg).trans (va_up_self _ _ _)
  have hW := hW.nw hf20 hqg hP6 (fun z => cg_z0P hE hM (z ▸ hm_qg)) (by intros _ _ _ z; cases z)
  have hPN := hPN_new hPN hP6
  refine cg_put C hE hM hm_o hc_o rfl in_FF ok_FF n_FF 3 (Nat.le_of_ble_eq_true rfl) tw_88 rfl rfl rfl rfl rfl (Nat.le_of_ble_eq_true rfl) d_FF_init_42 (fun f21 H1 locs1 hf21 hM => ?_)
  have hc_qa := ((congrFun hf21 qa).trans (va_up_ne _ _ (ob_ne hc_qa hc_o (by decide)))).trans hc_qa
  have hc_qb := ((congrFun hf21 qb).trans (va_up_ne _ _ (ar_ne hc_qb hc_o))).trans hc_qb
  have hc_qc := ((congrFun hf21 qc).trans (va_up_ne _ _ (ob_ne hc_qc hc_o (by decide)))).trans hc_qc
  have hc_qd := ((congrFun hf21 qd).trans (va_up_ne _ _ (ob_ne hc_qd hc_o (by decide)))).trans hc_qd
  have hc_qe := ((congrFun hf21 qe).trans (va_up_ne _ _ (ob_ne hc_qe hc_o (by decide)))).trans hc_qe
  have hc_qg := ((congrFun hf21 qg).trans (va_up_ne _ _ (ar_ne hc_qg hc_o))).trans hc_qg
  have hW := hW.wr hf21 hc_o (by decide)
  have hc_o := (congrFun hf21 o).trans (va_up_self _ _ _)
  refine lv_aload_n C.1 C.2.1 d_FF_init_45 rfl (lo_at hl 0 rfl) ?_
  refine lv_iconst (v := 0) C.1 C.2.1 d_FF_init_46 (by decide) ?_
  have hm_qb1 := hm_qb
  have hm_qg1 := hm_qg
  refine cg_newI C hE hM 0 rfl (by decide) (Nat.le_of_ble_eq_true rfl) (Nat.le_of_ble_eq_true rfl) d_FF_init_47 (fun qh P7 f22 H1 hqh hP7 hf22 hM => ?_)
  have hc_o := ((congrFun hf22 o).trans (va_up_ne _ _ (fun z => hqh (z ▸ hm_o)))).trans hc_o
  have hm_o := (show o ∈ P7 by rw [hP7]; exact List.mem_append_left _ hm_o)
  have hc_qa := ((congrFun hf22 qa).trans (va_up_ne _ _ (fun z => hqh (z ▸ hm_qa)))).trans hc_qa
  have hm_qa := (show qa ∈ P7 by rw [hP7]; exact List.mem_append_left _ hm_qa)
  have hc_qb := ((congrFun hf22 qb).trans (va_up_ne _ _ (fun z => hqh (z ▸ hm_qb)))).trans hc_qb
  have hm_qb := (show qb ∈ P7 by rw [hP7]; exact List.mem_append_left _ hm_qb)
  have hc_qc := ((congrFun hf22 qc).trans (va_up_ne _ _ (fun z => hqh (z ▸ hm_qc)))).trans hc_qc
  have hm_qc := (show qc ∈ P7 by rw [hP7]; exact List.mem_append_left _ hm_qc)
  have hc_qd := ((congrFun hf22 qd).trans (va_up_ne _ _ (fun z => hqh (z ▸ hm_qd)))).trans hc_qd
  have hm_qd := (show qd ∈ P7 by rw [hP7]; exact List.mem_append_left _ hm_qd)
  have hc_qe := ((congrFun hf22 qe).trans (va_up_ne _ _ (fun z => hqh (z ▸ hm_qe)))).trans hc_qe
  have hm_qe := (show qe ∈ P7 by rw [hP7]; exact List.mem_append_left _ hm_qe)
  have hc_qg := ((congrFun hf22 qg).trans (va_up_ne _ _ (fun z => hqh (z ▸ hm_qg)))).trans hc_qg
  have hm_qg := (show qg ∈ P7 by rw [hP7]; exact List.mem_append_left _ hm_qg)
  have hm_qh : qh ∈ P7 := by rw [hP7]; exact List.mem_append_right _ (List.mem_singleton.mpr rfl)
  have hc_qh := (congrFun hf22 qh).trans (va_up_self _ _ _)
  have hW := hW.nw hf22 hqh hP7 (fun z => cg_z0P hE hM (z ▸ hm_qh)) (by intros _ _ _ z; cases z)
  have hPN := hPN_new hPN hP7
  refine cg_put C hE hM hm_o hc_o rfl in_FF ok_FF n_FF 4 (Nat.le_of_ble_eq_true rfl) tw_89 rfl rfl rfl rfl rfl (Nat.le_of_ble_eq_true rfl) d_FF_init_49 (fun f23 H1 locs1 hf23 hM => ?_)
  have hc_qa := ((congrFun hf23 qa).trans (va_up_ne _ _ (ob_ne hc_qa hc_o (by decide)))).trans hc_qa
  have hc_qb := ((congrFun hf23 qb).trans (va_up_ne _ _ (ar_ne hc_qb hc_o))).trans hc_qb
  have hc_qc := ((congrFun hf23 qc).trans (va_up_ne _ _ (ob_ne hc_qc hc_o (by decide)))).trans hc_qc
  have hc_qd := ((congrFun hf23 qd).trans (va_up_ne _ _ (ob_ne hc_qd hc_o (by decide)))).trans hc_qd
  have hc_qe := ((congrFun hf23 qe).trans (va_up_ne _ _ (ob_ne hc_qe hc_o (by decide)))).trans hc_qe
  have hc_qg := ((congrFun hf23 qg).trans (va_up_ne _ _ (ar_ne hc_qg hc_o))).trans hc_qg
  have hc_qh := ((congrFun hf23 qh).trans (va_up_ne _ _ (ar_ne hc_qh hc_o))).trans hc_qh
  have hW := hW.wr hf23 hc_o (by decide)
  have hc_o := (congrFun hf23 o).trans (va_up_self _ _ _)
  refine lv_aload_n C.1 C.2.1 d_FF_init_52 rfl (lo_at hl 0 rfl) ?_
  refine lv_null C.1 C.2.1 d_FF_init_53 ?_
  refine cg_put C hE hM hm_o hc_o rfl in_FF ok_FF n_FF 5 (Nat.le_of_ble_eq_true rfl) tw_90 rfl rfl rfl rfl rfl (Nat.le_of_ble_eq_true rfl) d_FF_init_54 (fun f24 H1 locs1 hf24 hM => ?_)
  have hc_qa := ((congrFun hf24 qa).trans (va_up_ne _ _ (ob_ne hc_qa hc_o (by decide)))).trans hc_qa
  have hc_qb := ((congrFun hf24 qb).trans (va_up_ne _ _ (ar_ne hc_qb hc_o))).trans hc_qb
  have hc_qc := ((congrFun hf24 qc).trans (va_up_ne _ _ (ob_ne hc_qc hc_o (by decide)))).trans hc_qc
  have hc_qd := ((congrFun hf24 qd).trans (va_up_ne _ _ (ob_ne hc_qd hc_o (by decide)))).trans hc_qd
  have hc_qe := ((congrFun hf24 qe).trans (va_up_ne _ _ (ob_ne hc_qe hc_o (by decide)))).trans hc_qe
  have hc_qg := ((congrFun hf24 qg).trans (va_up_ne _ _ (ar_ne hc_qg hc_o))).trans hc_qg
  have hc_qh := ((congrFun hf24 qh).trans (va_up_ne _ _ (ar_ne hc_qh hc_o))).trans hc_qh
  have hW := hW.wr hf24 hc_o (by decide)
  have hc_o := (congrFun hf24 o).trans (va_up_self _ _ _)
  refine lv_aload_n C.1 C.2.1 d_FF_init_57 rfl (lo_at hl 0 rfl) ?_
  refine lv_iconst (v := 0) C.1 C.2.1 d_FF_init_58 (by decide) ?_
  refine cg_put C hE hM hm_o hc_o rfl in_FF ok_FF n_FF 6 (Nat.le_of_ble_eq_true rfl) tw_91 rfl rfl rfl rfl rfl (Nat.le_of_ble_eq_true rfl) d_FF_init_59 (fun f25 H1 locs1 hf25 hM => ?_)
  have hc_qa := ((congrFun hf25 qa).trans (va_up_ne _ _ (ob_ne hc_qa hc_o (by decide)))).trans hc_qa
  have hc_qb := ((congrFun hf25 qb).trans (va_up_ne _ _ (ar_ne hc_qb hc_o))).trans hc_qb
  have hc_qc := ((congrFun hf25 qc).trans (va_up_ne _ _ (ob_ne hc_qc hc_o (by decide)))).trans hc_qc
  have hc_qd := ((congrFun hf25 qd).trans (va_up_ne _ _ (ob_ne hc_qd hc_o (by decide)))).trans hc_qd
  have hc_qe := ((congrFun hf25 qe).trans (va_up_ne _ _ (ob_ne hc_qe hc_o (by decide)))).trans hc_qe
  have hc_qg := ((congrFun hf25 qg).trans (va_up_ne _ _ (ar_ne hc_qg hc_o))).trans hc_qg
  have hc_qh := ((congrFun hf25 qh).trans (va_up_ne _ _ (ar_ne hc_qh hc_o))).trans hc_qh
  have hW := hW.wr hf25 hc_o (by decide)
  have hc_o := (congrFun hf25 o).trans (va_up_self _ _ _)
  refine lv_aload_n C.1 C.2.1 d_FF_init_62 rfl (lo_at hl 0 rfl) ?_
  refine lv_iconst (v := 0) C.1 C.2.1 d_FF_init_63 (by decide) ?_
  refine cg_put C hE hM hm_o hc_o rfl in_FF ok_FF n_FF 7 (Nat.le_of_ble_eq_true rfl) tw_92 rfl rfl rfl rfl rfl (Nat.le_of_ble_eq_true rfl) d_FF_init_64 (fun f26 H1 locs1 hf26 hM => ?_)
  have hc_qa := ((congrFun hf26 qa).trans (va_up_ne _ _ (ob_ne hc_qa hc_o (by decide)))).trans hc_qa
  have hc_qb := ((congrFun hf26 qb).trans (va_up_ne _ _ (ar_ne hc_qb hc_o))).trans hc_qb
  have hc_qc := ((congrFun hf26 qc).trans (va_up_ne _ _ (ob_ne hc_qc hc_o (by decide)))).trans hc_qc
  have hc_qd := ((congrFun hf26 qd).trans (va_up_ne _ _ (ob_ne hc_qd hc_o (by decide)))).trans hc_qd
  have hc_qe := ((congrFun hf26 qe).trans (va_up_ne _ _ (ob_ne hc_qe hc_o (by decide)))).trans hc_qe
  have hc_qg := ((congrFun hf26 qg).trans (va_up_ne _ _ (ar_ne hc_qg hc_o))).trans hc_qg
  have hc_qh := ((congrFun hf26 qh).trans (va_up_ne _ _ (ar_ne hc_qh hc_o))).trans hc_qh
  have hW := hW.wr hf26 hc_o (by decide)
  have hc_o := (congrFun hf26 o).trans (va_up_self _ _ _)
  refine lv_aload_n C.1 C.2.1 d_FF_init_67 rfl (lo_at hl 0 rfl) ?_
  refine lv_iconst (v := 0) C.1 C.2.1 d_FF_init_68 (by decide) ?_
  refine cg_put C hE hM hm_o hc_o rfl in_FF ok_FF n_FF 8 (Nat.le_of_ble_eq_true rfl) tw_93 rfl rfl rfl rfl rfl (Nat.le_of_ble_eq_true rfl) d_FF_init_69 (fun f27 H1 locs1 hf27 hM => ?_)
  have hc_qa := ((congrFun hf27 qa).trans (va_up_ne _ _ (ob_ne hc_qa hc_o (by decide)))).trans hc_qa
  have hc_qb := ((congrFun hf27 qb).trans (va_up_ne _ _ (ar_ne hc_qb hc_o))).trans hc_qb
  have hc_qc := ((congrFun hf27 qc).trans (va_up_ne _ _ (ob_ne hc_qc hc_o (by decide)))).trans hc_qc
  have hc_qd := ((congrFun hf27 qd).trans (va_up_ne _ _ (ob_ne hc_qd hc_o (by decide)))).trans hc_qd
  have hc_qe := ((congrFun hf27 qe).trans (va_up_ne _ _ (ob_ne hc_qe hc_o (by decide)))).trans hc_qe
  have hc_qg := ((congrFun hf27 qg).trans (va_up_ne _ _ (ar_ne hc_qg hc_o))).trans hc_qg
  have hc_qh := ((congrFun hf27 qh).trans (va_up_ne _ _ (ar_ne hc_qh hc_o))).trans hc_qh
  have hW := hW.wr hf27 hc_o (by decide)
  have hc_o := (congrFun hf27 o).trans (va_up_self _ _ _)
  obtain ⟨fz, hfz⟩ : ∃ fz, fz = va_up f27 qg (arR G 3 0 (fun u => some ((D0 qa qb qc qd qe qg qh) 1 u))) := ⟨_, rfl⟩
  have hM := pg_arR hM hm_qg hc_qg (g' := fun u => some ((D0 qa qb qc qd qe qg qh) 1 u)) (fun j hj => absurd hj (Nat.not_lt_zero _))
  rw [← hfz] at hM
  have hc_o := ((congrFun hfz o).trans (va_up_ne _ _ ((ar_ne hc_qg hc_o).symm))).trans hc_o
  have hc_qa := ((congrFun hfz qa).trans (va_up_ne _ _ ((ar_ne hc_qg hc_qa).symm))).trans hc_qa
  have hc_qb := ((congrFun hfz qb).trans (va_up_ne _ _ (fun z : qb = qg => hqg (z ▸ hm_qb0)))).trans hc_qb
  have hc_qc := ((congrFun hfz qc).trans (va_up_ne _ _ ((ar_ne hc_qg hc_qc).symm))).trans hc_qc
  have hc_qd := ((congrFun hfz qd).trans (va_up_ne _ _ ((ar_ne hc_qg hc_qd).symm))).trans hc_qd
  have hc_qe := ((congrFun hfz qe).trans (va_up_ne _ _ ((ar_ne hc_qg hc_qe).symm))).trans hc_qe
  have hc_qh := ((congrFun hfz qh).trans (va_up_ne _ _ (fun z : qh = qg => hqh (z ▸ hm_qg1)))).trans hc_qh
  have hW := hW.wa hfz hc_qg
  have hc_qg := (congrFun hfz qg).trans (va_up_self _ _ _)
  refine pg_vret C hr hlk hM hPN (by omega) (by omega) d_FF_init_72 ?_
  have hdf : qd ≠ qe := fun z => hqe (z ▸ hm_qd0)
  refine ⟨rfl, (D0 qa qb qc qd qe qg qh), ?_⟩
  rw [← hPN]
  exact cS_ini rfl hm_o hc_o hm_qa hc_qa hm_qb hc_qb hm_qc hc_qc hm_qd hc_qd hm_qe hc_qe hm_qg (K := fun _ => none) hc_qg hm_qh hc_qh hdf hW
