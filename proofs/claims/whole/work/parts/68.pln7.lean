/-! a plan is looked for -/
abbrev fwS (S : Nat → Nat → Bool) (fs sn pk : Nat) : Nat → Nat → Nat → Bool := FW (fun t => S (3 + t)) (fun t => S (156 + t)) fs sn pk
def fdN (S2 : Nat → Nat → Bool) (fs sn pk : Nat) : Prop := ∀ e, 1 ≤ e → e ≤ 150 → fwS S2 fs sn pk e 2 pk = false
def fdY (S2 S4 : Nat → Nat → Bool) (fs sn pk e : Nat) : Prop := fwS S2 fs sn pk e 2 pk = true ∧ (∀ e2, 1 ≤ e2 → e2 < e → fwS S2 fs sn pk e2 2 pk = false) ∧ ∃ S3, rwI S3 S2 fs sn pk (e + 1) ∧ prI S4 S3 fs sn pk e 0
set_option maxHeartbeats 4000000 in
set_option maxRecDepth 100000 in
theorem k_Pln_find (l : Launch) (G : GG) {P : List Nat} {f : Nat → va_E} {pl va : Nat} {da ca : Nat → Nat} {f0 : Nat → va_E} {S : Nat → Nat → Bool} {Wy F : Nat → Int32} (hP : pS G pl va da ca P f0 f S Wy F) (w nv : Nat) (vh pk mv cap n : Nat → Nat) (ga cc tt nq : Nat → Nat → Nat) (cl : Nat) (hcl : cl < 1000000) (hw : w < nv) (hnv : nv ≤ 6) (hc_va : f va = arR G 3 nv (fun u => some (vh u))) (hinj : ∀ u x, u < nv → x < nv → vh u = vh x → u = x) (hV : ∀ u, u < nv → vOne G P f (vh u) (pk u) (mv u) (cap u) (n u) (ga u) (cc u) (tt u)) (hVp : ∀ u, u < nv → vPure (n u) (pk u) cl (cc u) (tt u) (nq u)) (hcom : ∀ u, u < nv → u ≠ w → ∀ k, k < 96 → (S 0 k = true ∨ k = pk w) → k ≠ pk u) (hpw : pk w < 96) (tk fs sn : Nat) (cr fi : Int32) (hfs : fs < 96) (hsn : sn < 96) (hm_t : tk ∈ P) (hc_t : f tk = .inr (7, [.int (nI fs), .int (nI sn), .int cr, .int fi]))  : ct0 l G y_Pln_find c_Pln_find 4 (some .boolean) 6 134 [.ref pl, .ref (vh w), .ref tk, .int (nI cl)] P f (fun x f1 => (x = some (.int 0) ∧ ∃ S2, loS S2 S w nv pk cc nq ∧ fdN S2 fs sn (pk w) ∧ ∃ S' W' F', (∀ k, k < 96 → S' 0 k = S 0 k) ∧ pS G pl va da ca P f0 f1 S' W' F') ∨ (x = some (.int 1) ∧ ∃ e, 1 ≤ e ∧ e ≤ 150 ∧ ∃ S2 S4, loS S2 S w nv pk cc nq ∧ fdY S2 S4 fs sn (pk w) e ∧ ∃ W1, (∀ i, i ≤ e → W1 i = nI (wf (rowX S4) (lgN (upd (upd (upd (upd F 0 (nI fs)) 1 (nI sn)) 2 (nI (pk w))) 3 (nI e))) (pk w) i).1) ∧ (∀ k, k < 96 → S4 0 k = S 0 k) ∧ pS G pl va da ca P f0 f1 S4 W1 (upd (upd (upd (upd (upd F 0 (nI fs)) 1 (nI sn)) 2 (nI (pk w))) 3 (nI e)) 4 (fnF (rowX S4) (lgN (upd (upd (upd (upd F 0 (nI fs)) 1 (nI sn)) 2 (nI (pk w))) 3 (nI e))) (pk w) e)))) := by
  refine ct_intro (by decide) [some (.ref pl), some (.ref (vh w)), some (.ref tk), some (.int (nI cl))] rfl rfl (Nat.le_of_ble_eq_true rfl) ?_
  intro p e s m below meth c ls C hr hlk hnm hE hM hl
  have hPo := hP
  have hP0 := hPo.self
  have hP := hPo.self
  have hva0 := hc_va
  have ht0 := hc_t
  obtain ⟨hm_w, ⟨x1, x2, x3, x4, x5, x6, x7, x8, hc_w⟩, -⟩ := id (hV w hw)
  have hw0 := hc_w
  refine lv_aload_n C.1 C.2.1 d_Pln_find_0 rfl (lo_at hl 0 rfl) ?_
  refine lv_aload_n C.1 C.2.1 d_Pln_find_1 rfl (lo_at hl 2 rfl) ?_
  refine pg_getN C hE hM hm_t hc_t rfl in_Tsk 0 (Nat.le_of_ble_eq_true rfl) nw_588 rfl rfl d_Pln_find_2 ?_
  refine cg_put C hE hM hP.1.1 hP.2.2.1.1 rfl in_Pln ok_Pln n_Pln 8 (Nat.le_of_ble_eq_true rfl) tw_537 rfl rfl (fs' := plF va da ca (upd F 0 (nI fs))) rfl rfl rfl (Nat.le_of_ble_eq_true rfl) d_Pln_find_5 (fun f11 H1 locs1 hf11 hM => ?_)
  have hP := hP.setf hf11
  have hc_t := hP.oth hP0 ht0 (by decide) (by decide)
  have hc_w := hP.oth hP0 hw0 (by decide) (by decide)
  refine lv_aload_n C.1 C.2.1 d_Pln_find_8 rfl (lo_at hl 0 rfl) ?_
  refine lv_aload_n C.1 C.2.1 d_Pln_find_9 rfl (lo_at hl 2 rfl) ?_
  refine pg_getN C hE hM hm_t hc_t rfl in_Tsk 1 (Nat.le_of_ble_eq_true rfl) nw_590 rfl rfl d_Pln_find_10 ?_
  refine cg_put C hE hM hP.1.1 hP.2.2.1.1 rfl in_Pln ok_Pln n_Pln 9 (Nat.le_of_ble_eq_true rfl) tw_538 rfl rfl (fs' := plF va da ca (upd (upd F 0 (nI fs)) 1 (nI sn))) rfl rfl rfl (Nat.le_of_ble_eq_true rfl) d_Pln_find_13 (fun f12 H1 locs1 hf12 hM => ?_)
  have hP := hP.setf hf12
  have hc_t := hP.oth hP0 ht0 (by decide) (by decide)
  have hc_w := hP.oth hP0 hw0 (by decide) (by decide)
  refine lv_aload_n C.1 C.2.1 d_Pln_find_16 rfl (lo_at hl 0 rfl) ?_
  refine lv_aload_n C.1 C.2.1 d_Pln_find_17 rfl (lo_at hl 1 rfl) ?_
  refine pg_getN C hE hM hm_w hc_w rfl in_Veh 1 (Nat.le_of_ble_eq_true rfl) nw_477 rfl rfl d_Pln_find_18 ?_
  refine cg_put C hE hM hP.1.1 hP.2.2.1.1 rfl in_Pln ok_Pln n_Pln 10 (Nat.le_of_ble_eq_true rfl) tw_539 rfl rfl (fs' := plF va da ca (upd (upd (upd F 0 (nI fs)) 1 (nI sn)) 2 (nI (pk w)))) rfl rfl rfl (Nat.le_of_ble_eq_true rfl) d_Pln_find_21 (fun f13 H1 locs1 hf13 hM => ?_)
  have hP := hP.setf hf13
  have hc_va := hP.arr hP0 hva0
  have hV1 : ∀ u, u < nv → vOne G P f13 (vh u) (pk u) (mv u) (cap u) (n u) (ga u) (cc u) (tt u) := fun u hu => (hV u hu).pl hP hP0
  refine lv_aload_n C.1 C.2.1 d_Pln_find_24 rfl (lo_at hl 0 rfl) ?_
  refine lv_aload_n C.1 C.2.1 d_Pln_find_25 rfl (lo_at hl 1 rfl) ?_
  refine lv_iload_n C.1 C.2.1 d_Pln_find_26 rfl (lo_at hl 3 rfl) ?_
  refine cg_callV C hE hM (k_Pln_layOut l G hP w nv vh pk mv cap n ga cc tt nq cl hcl hw hnv hc_va hinj hV1 hVp hcom hpw pk_us) hP.1.1 hP.2.2.1.1 rfl tw_668 cy_Pln_layOut ⟨(Nat.le_of_ble_eq_true rfl), (Nat.le_of_ble_eq_true rfl)⟩ rfl hl.1 rfl (Nat.le_of_ble_eq_true rfl) ⟨Nat.zero_le _, Nat.zero_le _⟩ d_Pln_find_27 (fun x9 f14 H1 locs1 hp hM => ?_)
  obtain ⟨hx9, S2, hS2, hP⟩ := hp
  subst hx9
  refine W.eq (g2 := F0 m 30 ls []) rfl ?_
  refine lv_aload_n C.1 C.2.1 d_Pln_find_30 rfl (lo_at hl 0 rfl) ?_
  refine lv_aload_n C.1 C.2.1 d_Pln_find_31 rfl (lo_at hl 0 rfl) ?_
  refine cg_callV C hE hM (k_Pln_spread l G hP fs sn (pk w) hfs hsn hpw ((pk_un (by decide)).trans ((pk_un (by decide)).trans pk_us)) ((pk_un (by decide)).trans pk_us) pk_us) hP.1.1 hP.2.2.1.1 rfl tw_696 cy_Pln_spread ⟨(Nat.le_of_ble_eq_true rfl), (Nat.le_of_ble_eq_true rfl)⟩ rfl hl.1 rfl (Nat.le_of_ble_eq_true rfl) ⟨Nat.zero_le _, Nat.zero_le _⟩ d_Pln_find_32 (fun x9 f15 H1 locs1 hp hM => ?_)
  rcases hp with ⟨hx9, hno, S3, hS3, hP⟩ | ⟨e0, he1, he2, hx9, hy, hmin, S3, hS3, hP⟩
  · subst hx9
    refine W.eq (g2 := F0 m 35 ls [_, _]) rfl ?_
    refine cg_put C hE hM hP.1.1 hP.2.2.1.1 rfl in_Pln ok_Pln n_Pln 11 (Nat.le_of_ble_eq_true rfl) tw_540 rfl rfl (fs' := plF va da ca (upd (upd (upd (upd F 0 (nI fs)) 1 (nI sn)) 2 (nI (pk w))) 3 (-1))) rfl rfl rfl (Nat.le_of_ble_eq_true rfl) d_Pln_find_35 (fun f16 H1 locs1 hf16 hM => ?_)
    have hP := hP.setf hf16
    refine lv_aload_n C.1 C.2.1 d_Pln_find_38 rfl (lo_at hl 0 rfl) ?_
    refine pg_get C hE hM hP.1.1 hP.2.2.1.1 rfl in_Pln 11 (Nat.le_of_ble_eq_true rfl) tw_540 rfl rfl d_Pln_find_39 ?_
    refine lv_iconst (v := (-1)) C.1 C.2.1 d_Pln_find_42 (by decide) ?_
    rw [show (upd (upd (upd (upd F 0 (nI fs)) 1 (nI sn)) 2 (nI (pk w))) 3 (-1)) 3 = (-1) from pk_us]
    refine lv_icmp_ne (tgt := 48) C.1 C.2.1 d_Pln_find_43 (by decide) (fun hc43 => False.elim (hc43 rfl)) (fun hc43 => ?_)
    refine lv_iconst (v := 0) C.1 C.2.1 d_Pln_find_46 (by decide) ?_
    refine cg_zret C hr hlk hM d_Pln_find_47 (by decide) ?_
    refine Or.inl ⟨rfl, S2, hS2, hno, S3, Wy, _, fun k hk => ?_, hPo.trans hP⟩
    obtain ⟨S1, hS1, hE1⟩ := hS2
    rw [hS3 0 (by decide) (by decide) k hk, hE1 0 k (by decide) hk, if_neg (by decide)]
    exact hS1.2.2 0 k (by decide) (Or.inl (by decide)) hk
  · subst hx9
    refine W.eq (g2 := F0 m 35 ls [_, _]) rfl ?_
    refine cg_put C hE hM hP.1.1 hP.2.2.1.1 rfl in_Pln ok_Pln n_Pln 11 (Nat.le_of_ble_eq_true rfl) tw_540 rfl rfl (fs' := plF va da ca (upd (upd (upd (upd F 0 (nI fs)) 1 (nI sn)) 2 (nI (pk w))) 3 (nI e0))) rfl rfl rfl (Nat.le_of_ble_eq_true rfl) d_Pln_find_35 (fun f16 H1 locs1 hf16 hM => ?_)
    have hP := hP.setf hf16
    refine lv_aload_n C.1 C.2.1 d_Pln_find_38 rfl (lo_at hl 0 rfl) ?_
    refine pg_get C hE hM hP.1.1 hP.2.2.1.1 rfl in_Pln 11 (Nat.le_of_ble_eq_true rfl) tw_540 rfl rfl d_Pln_find_39 ?_
    refine lv_iconst (v := (-1)) C.1 C.2.1 d_Pln_find_42 (by decide) ?_
    rw [show (upd (upd (upd (upd F 0 (nI fs)) 1 (nI sn)) 2 (nI (pk w))) 3 (nI e0)) 3 = nI e0 from pk_us]
    refine lv_icmp_ne (tgt := 48) C.1 C.2.1 d_Pln_find_43 (by decide) (fun hc43 => ?_) (fun hc43 => False.elim (by have h8 := congrArg Int32.toInt hc43; rw [nI_toInt (by omega), show (-1 : Int32).toInt = -1 from by decide] at h8; omega))
    refine lv_aload_n C.1 C.2.1 d_Pln_find_48 rfl (lo_at hl 0 rfl) ?_
    refine cg_callV C hE hM (k_Pln_prune l G hP fs sn (pk w) e0 hfs hsn hpw ((pk_un (by decide)).trans ((pk_un (by decide)).trans ((pk_un (by decide)).trans pk_us))) ((pk_un (by decide)).trans ((pk_un (by decide)).trans pk_us)) ((pk_un (by decide)).trans pk_us) pk_us he1 he2) hP.1.1 hP.2.2.1.1 rfl tw_723 cy_Pln_prune ⟨(Nat.le_of_ble_eq_true rfl), (Nat.le_of_ble_eq_true rfl)⟩ rfl hl.1 rfl (Nat.le_of_ble_eq_true rfl) ⟨Nat.zero_le _, Nat.zero_le _⟩ d_Pln_find_49 (fun x9 f17 H1 locs1 hp hM => ?_)
    obtain ⟨hx9, S4, hS4, hP⟩ := hp
    subst hx9
    refine W.eq (g2 := F0 m 52 ls []) rfl ?_
    refine lv_aload_n C.1 C.2.1 d_Pln_find_52 rfl (lo_at hl 0 rfl) ?_
    refine cg_callV C hE hM (k_Pln_follow l G hP (pk w) e0 hpw ((pk_un (by decide)).trans pk_us) pk_us he1 he2) hP.1.1 hP.2.2.1.1 rfl tw_731 cy_Pln_follow ⟨(Nat.le_of_ble_eq_true rfl), (Nat.le_of_ble_eq_true rfl)⟩ rfl hl.1 rfl (Nat.le_of_ble_eq_true rfl) ⟨Nat.zero_le _, Nat.zero_le _⟩ d_Pln_find_53 (fun x9 f18 H1 locs1 hp hM => ?_)
    obtain ⟨hx9, W1, hW1, hP⟩ := hp
    subst hx9
    refine W.eq (g2 := F0 m 56 ls []) rfl ?_
    refine lv_iconst (v := 1) C.1 C.2.1 d_Pln_find_56 (by decide) ?_
    refine cg_zret C hr hlk hM d_Pln_find_57 (by decide) ?_
    refine Or.inr ⟨rfl, e0, he1, he2, S2, S4, hS2, ⟨hy, hmin, S3, hS3, hS4⟩, W1, hW1, fun k hk => ?_, hPo.trans hP⟩
    obtain ⟨S1, hS1, hE1⟩ := hS2
    rw [hS4.2 0 (by decide) (by decide) (by decide) k hk, hS3.2 0 (by decide) (by decide) k hk, hE1 0 k (by decide) hk, if_neg (by decide)]
    exact hS1.2.2 0 k (by decide) (Or.inl (by decide)) hk
