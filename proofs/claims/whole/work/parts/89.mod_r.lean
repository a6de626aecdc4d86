theorem plR_v0 {v v1 : Nat → Int32} {A A1 : Nat → Nat → Int32} {w t home nv : Nat} {hq : Nat → Nat → Nat} {x : Int32} (h : plR v A w t home nv hq x v1 A1) : v1 0 = v 0 := by
  obtain ⟨B2, -, -, h⟩ := h
  have key : ∀ (W : Nat → Nat → Nat → Option Nat) (D : Nat → Nat → Nat) (t n r g c : Nat) (v : Nat → Int32) (A : Nat → Nat → Int32), (tkL W D t n r g c v A).1 0 = v 0 := by
    intro W D t n
    induction n with
    | zero => intro r g c v A; rfl
    | succ n ih =>
      intro r g c v A
      rw [tkL]
      split
      · rw [ih]
      · rw [ih]; exact upd_ne _ _ (by decide)
  rcases h with ⟨-, h, -⟩ | ⟨e, -, -, -, -, -, h, -⟩
  · rw [h]; exact upd_ne _ _ (by decide)
  · rw [h, upd_ne _ _ (by decide)]
    unfold tkN
    rw [key]
    exact upd_ne _ _ (by decide)
set_option maxHeartbeats 4000000 in
set_option maxRecDepth 100000 in
theorem k_Mod_planAll (l : Launch) (G : GG) (o : Nat) (r : Nat → Nat) (v : Nat → Int32) (A : Nat → Nat → Int32) (B : Nat → Nat → Int64)  {T : TS} (hJ : JI v A T.k) (hq : eqC v A T.v T.A) : mct l G y_Mod_planAll c_Mod_planAll 3 none 5 122 [.ref o] o r v A B (fun x v1 A1 B1 => x = none ∧ JI v1 A1 (plL (T.k.N 2 - T.k.N 4) T).k ∧ eqC v1 A1 (plL (T.k.N 2 - T.k.N 4) T).v (plL (T.k.N 2 - T.k.N 4) T).A ∧ v1 0 = v 0) := by
  refine mct_intro (by decide) [some (.ref o), none, none] rfl rfl (Nat.le_of_ble_eq_true rfl) ?_
  intro p e s m below meth c ls P f C hr hlk hE hM hm hl
  refine lv_iconst (v := 1) C.1 C.2.1 d_Mod_planAll_0 (by decide) ?_
  refine lo_istore_n C hl d_Mod_planAll_1 (Nat.le_of_ble_eq_true rfl) rfl (fun ls hl => ?_)
  refine W.loop (α := (Nat) × (TS) × (Nat → Int32) × (Nat → Nat → Int32) × (Nat → Nat → Int64) × (Array Slot) × (Heap) × (List Loc) × (Nat → va_E)) (fun a => 2 * (24 - (a.2.1).k.N 4) + a.1) (fun a => (a.1 ≤ 1) ∧ ((a.2.2.1) 0 = v 0) ∧ (JI (a.2.2.1) (a.2.2.2.1) (a.2.1).k) ∧ (eqC (a.2.2.1) (a.2.2.2.1) (a.2.1).v (a.2.1).A) ∧ (plL ((a.2.1).k.N 2 - (a.2.1).k.N 4) (a.2.1) = plL (T.k.N 2 - T.k.N 4) T) ∧ (a.1 = 0 → (a.2.1) = plL (T.k.N 2 - T.k.N 4) T) ∧ lo a.2.2.2.2.2.1 [some (.ref o), some (.int (nI a.1)), none] ∧ pgS G (pgA P s.heap.size) s.heap P a.2.2.2.2.2.2.2.2 a.2.2.2.2.2.2.1 a.2.2.2.2.2.2.2.1 ∧ mdS G o r P f a.2.2.2.2.2.2.2.2 (a.2.2.1) (a.2.2.2.1) (a.2.2.2.2.1)) (fun a => a.2.2.2.2.2.2.1) (fun a => a.2.2.2.2.2.2.2.1) (fun _ => 0) (fun _ => 0) (fun a => F0 m 2 a.2.2.2.2.2.1 []) ?_ (1, T, v, A, B, ls, s.heap, [], f) ⟨Nat.le_refl _, rfl, hJ, hq, rfl, (fun z => absurd (show (1 : Nat) = 0 from z) (by decide)), lo_weak hl ⟨rfl, rfl, trivial⟩, hM, hm⟩
  rintro ⟨b, Tc, vc, Ac, Bc, ls, H1, locs1, f1⟩ ⟨hb, hv00, hJ1, hq1, hpl, hend, hl, hM, hm⟩ ih2
  dsimp only at hb hv00 hJ1 hq1 hpl hend hl hM hm
  show W _ _ _ _ _ _ _ _ _ _ _ _ _ _ _ (F0 m 2 ls [])
  have hb24 := hJ1.np
  have hb2 := hJ1.n2.2
  have hb6 := hJ1.n0.2
  have hbro := hJ1.n5.2
  have hbcl := hJ1.n6.2
  refine lv_iload_n C.1 C.2.1 d_Mod_planAll_2 rfl (lo_at hl 1 rfl) ?_
  refine lv_if_eq (tgt := 47) C.1 C.2.1 d_Mod_planAll_3 (by decide) (fun hc3 => ?_) (fun hc3 => ?_)
  · refine md_vret C hr hlk hM hm d_Mod_planAll_47 ?_
    have hb0 : b = 0 := by
      by_cases z : b = 0
      · exact z
      · have h9 := hc3; rw [show b = 1 by omega] at h9; exact absurd h9 (by decide)
    have e9 := hend hb0
    rw [← e9]
    exact ⟨rfl, hJ1, hq1, hv00⟩
  · refine lv_aload_n C.1 C.2.1 d_Mod_planAll_6 rfl (lo_at hl 0 rfl) ?_
    refine md_callV C hE hM hm (k_Mod_idle l G o r _ _ _ hJ1.n0.2 hJ1.n0.1) rfl tw_990 cy_Mod_idle ⟨(Nat.le_of_ble_eq_true rfl), (Nat.le_of_ble_eq_true rfl)⟩ rfl hl.1 rfl (Nat.le_of_ble_eq_true rfl) ⟨Nat.zero_le _, Nat.zero_le _⟩ d_Mod_planAll_7 (fun x9 f1 H1 locs1 v9 A9 B9 hp hM hm => ?_)
    obtain ⟨hx9, hv9, hA9, hB9⟩ := hp
    subst hx9
    rw [hv9, hA9, hB9] at hm
    refine W.eq (g2 := F0 m 10 ls (_ :: _)) rfl ?_
    refine lo_istore_n C hl d_Mod_planAll_10 (Nat.le_of_ble_eq_true rfl) rfl (fun ls hl => ?_)
    refine lv_aload_n C.1 C.2.1 d_Mod_planAll_11 rfl (lo_at hl 0 rfl) ?_
    refine md_get (x := .int (vc 10)) C hE hM hm 10 (Nat.le_of_ble_eq_true rfl) tw_792 rfl rfl d_Mod_planAll_12 ?_
    refine lv_aload_n C.1 C.2.1 d_Mod_planAll_15 rfl (lo_at hl 0 rfl) ?_
    refine md_get (x := .int (vc 9)) C hE hM hm 9 (Nat.le_of_ble_eq_true rfl) tw_791 rfl rfl d_Mod_planAll_16 ?_
    refine lv_icmp_ge (tgt := 42) C.1 C.2.1 d_Mod_planAll_19 (by decide) (fun hc19 => ?_) (fun hc19 => ?_)
    · refine lv_iconst (v := 0) C.1 C.2.1 d_Mod_planAll_42 (by decide) ?_
      refine lo_istore_n C hl d_Mod_planAll_43 (Nat.le_of_ble_eq_true rfl) rfl (fun ls hl => ?_)
      refine lv_goto (tgt := 2) C.1 C.2.1 d_Mod_planAll_44 (by decide) ?_
      have hJn := hJ1
      have hqn := hq1
      have hpn := hpl
      have hb2 : b = 1 := by
        by_cases z : b = 1
        · exact z
        · exact absurd (show nI b = 0 by rw [show b = 0 by omega]; rfl) hc3
      have hen : 0 = 0 → Tc = plL (T.k.N 2 - T.k.N 4) T := fun _ => (plL_e (fun T' z => by have z1 := z.1; have h9 := hc19; rw [hJ1.n4.1, hJ1.n2.1] at h9; have := nI_leN (by omega) (by omega) h9; omega)).symm.trans hpl
      have h9 := hl
      exact ih2 (0, Tc, vc, Ac, Bc, ls, H1, locs1, f1) ⟨by (try dsimp only); omega, hv00, hJn, hqn, hpn, hen, lo_weak h9 ⟨rfl, rfl, trivial⟩, hM, hm⟩ (by show 2 * (24 - ((Tc)).k.N 4) + (0) < 2 * (24 - (Tc).k.N 4) + b; omega)
    · refine lv_iload_n C.1 C.2.1 d_Mod_planAll_22 rfl (lo_at hl 2 rfl) ?_
      refine lv_if_lt (tgt := 42) C.1 C.2.1 d_Mod_planAll_23 (by decide) (fun hc23 => ?_) (fun hc23 => ?_)
      · refine lv_iconst (v := 0) C.1 C.2.1 d_Mod_planAll_42 (by decide) ?_
        refine lo_istore_n C hl d_Mod_planAll_43 (Nat.le_of_ble_eq_true rfl) rfl (fun ls hl => ?_)
        refine lv_goto (tgt := 2) C.1 C.2.1 d_Mod_planAll_44 (by decide) ?_
        have hJn := hJ1
        have hqn := hq1
        have hpn := hpl
        have hb2 : b = 1 := by
          by_cases z : b = 1
          · exact z
          · exact absurd (show nI b = 0 by rw [show b = 0 by omega]; rfl) hc3
        have hen : 0 = 0 → Tc = plL (T.k.N 2 - T.k.N 4) T := fun _ => (plL_e (fun T' ⟨_, w', e, h1, _⟩ => by
      rcases hJ1.idls with ⟨_, y⟩ | ⟨w, y, hw⟩
      · exact y w' h1
      · have h9 := hc23; rw [y] at h9; have hw6 := hw.1; exact nI_nn (by omega) h9)).symm.trans hpl
        have h9 := hl
        exact ih2 (0, Tc, vc, Ac, Bc, ls, H1, locs1, f1) ⟨by (try dsimp only); omega, hv00, hJn, hqn, hpn, hen, lo_weak h9 ⟨rfl, rfl, trivial⟩, hM, hm⟩ (by show 2 * (24 - ((Tc)).k.N 4) + (0) < 2 * (24 - (Tc).k.N 4) + b; omega)
      · obtain ⟨w, hid0, hid⟩ : ∃ w, idl Ac (Tc.k.N 0) 0 = nI w ∧ idK Tc.k w := hJ1.idls.resolve_left (fun z => hc23 (by rw [z.1]; decide))
        have hnp : Tc.k.N 4 < Tc.k.N 2 := by have h9 := hc19; rw [hJ1.n4.1, hJ1.n2.1] at h9; exact nI_ltN (by omega) (by omega) h9
        rw [hid0] at hl
        refine lv_aload_n C.1 C.2.1 d_Mod_planAll_26 rfl (lo_at hl 0 rfl) ?_
        refine lv_iload_n C.1 C.2.1 d_Mod_planAll_27 rfl (lo_at hl 2 rfl) ?_
        refine lv_aload_n C.1 C.2.1 d_Mod_planAll_28 rfl (lo_at hl 0 rfl) ?_
        refine md_get (x := .int (vc 10)) C hE hM hm 10 (Nat.le_of_ble_eq_true rfl) tw_792 rfl rfl d_Mod_planAll_29 ?_
        rw [hJ1.n4.1]
        refine md_callV C hE hM hm (k_Mod_plans l G o r vc Ac Bc w (Tc.k.N 4) hJ1.n0.2 hJ1.n0.1 hJ1.np hJ1.n4.1 hJ1.n6.1 (by omega) hJ1.avOkx hid.1 (by omega) hJ1.n5.1 (by omega)) rfl tw_994 cy_Mod_plans ⟨(Nat.le_of_ble_eq_true rfl), (Nat.le_of_ble_eq_true rfl)⟩ rfl hl.1 rfl (Nat.le_of_ble_eq_true rfl) ⟨Nat.zero_le _, Nat.zero_le _⟩ d_Mod_planAll_32 (fun x9 f1 H1 locs1 v9 A9 B9 hp hM hm => ?_)
        obtain ⟨z9, hx9, hpr⟩ := hp
        subst hx9
        refine W.eq (g2 := F0 m 35 ls (_ :: _)) rfl ?_
        refine lv_if_eq (tgt := 42) C.1 C.2.1 d_Mod_planAll_35 (by decide) (fun hc35 => ?_) (fun hc35 => ?_)
        · refine lv_iconst (v := 0) C.1 C.2.1 d_Mod_planAll_42 (by decide) ?_
          refine lo_istore_n C hl d_Mod_planAll_43 (Nat.le_of_ble_eq_true rfl) rfl (fun ls hl => ?_)
          refine lv_goto (tgt := 2) C.1 C.2.1 d_Mod_planAll_44 (by decide) ?_
          rcases hJ1.plRs hq1 hnp hid.1 hid.2.1 hpr with ⟨z0, hno, hv9, hA9⟩ | ⟨z0, -⟩
          rotate_left
          · rw [z0] at hc35; exact absurd hc35 (by decide)
          have hJn : JI v9 A9 Tc.k := by rw [hv9, hA9]; exact hJ1.v38 _
          have hqn : eqC v9 A9 Tc.v Tc.A := by rw [hv9, hA9]; exact hq1.upV 38 rfl
          have hpn := hpl
          have hen : 0 = 0 → Tc = plL (T.k.N 2 - T.k.N 4) T := fun _ => (plL_e (fun T' ⟨_, w', e, h1, h2, _⟩ => by
      have hww := idK_uniq h1 hid
      subst hww
      exact hno e h2)).symm.trans hpl
          have hb2 : b = 1 := by
            by_cases z : b = 1
            · exact z
            · exact absurd (show nI b = 0 by rw [show b = 0 by omega]; rfl) hc3
          have h9 := hl
          exact ih2 (0, Tc, v9, A9, B9, ls, H1, locs1, f1) ⟨by (try dsimp only); omega, ((plR_v0 hpr).trans hv00), hJn, hqn, hpn, hen, lo_weak h9 ⟨rfl, rfl, trivial⟩, hM, hm⟩ (by show 2 * (24 - ((Tc)).k.N 4) + (0) < 2 * (24 - (Tc).k.N 4) + b; omega)
        · refine lv_iconst (v := 1) C.1 C.2.1 d_Mod_planAll_38 (by decide) ?_
          refine lv_goto (tgt := 43) C.1 C.2.1 d_Mod_planAll_39 (by decide) ?_
          refine lo_istore_n C hl d_Mod_planAll_43 (Nat.le_of_ble_eq_true rfl) rfl (fun ls hl => ?_)
          refine lv_goto (tgt := 2) C.1 C.2.1 d_Mod_planAll_44 (by decide) ?_
          rcases hJ1.plRs hq1 hnp hid.1 hid.2.1 hpr with ⟨z0, -⟩ | ⟨z0, e0, hpe, hJn, hqn⟩
          · exact absurd z0 hc35
          have e4 : (plT Tc w e0).k.N 4 = Tc.k.N 4 + 1 := rfl
          have hgw := plL_s (n := Tc.k.N 2 - Tc.k.N 4 - 1) (show plN Tc (plT Tc w e0) from ⟨hnp, w, e0, hid, hpe, rfl⟩)
          rw [show Tc.k.N 2 - Tc.k.N 4 - 1 + 1 = Tc.k.N 2 - Tc.k.N 4 by omega, hpl] at hgw
          have hpn : plL ((plT Tc w e0).k.N 2 - (plT Tc w e0).k.N 4) (plT Tc w e0) = plL (T.k.N 2 - T.k.N 4) T := by rw [hgw, e4]; rfl
          have hen : 1 = 0 → plT Tc w e0 = plL (T.k.N 2 - T.k.N 4) T := fun z => absurd z (by decide)
          have hb2 : b = 1 := by
            by_cases z : b = 1
            · exact z
            · exact absurd (show nI b = 0 by rw [show b = 0 by omega]; rfl) hc3
          have h9 := hl
          exact ih2 (1, (plT Tc w e0), v9, A9, B9, ls, H1, locs1, f1) ⟨by (try dsimp only); omega, ((plR_v0 hpr).trans hv00), hJn, hqn, hpn, hen, lo_weak h9 ⟨rfl, rfl, trivial⟩, hM, hm⟩ (by show 2 * (24 - (((plT Tc w e0))).k.N 4) + (1) < 2 * (24 - (Tc).k.N 4) + b; omega)
