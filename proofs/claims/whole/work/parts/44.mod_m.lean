theorem mkM_congr {Q Q' : Nat → Nat → Nat → Prop} {e : Nat} {b : Nat → Int64} (hq : ∀ r g c, Q r g c ↔ Q' r g c) (h : mkM Q e b) : mkM Q' e b := by
  intro s d hs hd
  rw [h s d hs hd]
  simp only [hq]
theorem nwM_congr {Q Q' N N' : Nat → Nat → Nat → Prop} {e m : Nat} {b : Nat → Int64} (hq : ∀ r g c, Q r g c ↔ Q' r g c) (hn : ∀ r g c, N r g c ↔ N' r g c) (h : nwM Q N e m b) : nwM Q' N' e m b := by
  intro r g d h1 h2 h3
  rw [h r g d h1 h2 h3, hq, hn]
theorem NN_start {v : Nat → Int32} {A : Nat → Nat → Int32} {B : Nat → Nat → Int64} {t home e : Nat} (h : RR v A B t home e 2 home) : NN v A B t home e e 0 home := by
  have key : ∀ r, r ≤ e → ∀ g c, RR v A B t home r g c → NN v A B t home e (e - r) g c → NN v A B t home e e 0 home := by
    intro r
    induction r with
    | zero =>
      intro _ g c h1 h2
      obtain ⟨q1, q2⟩ := h1
      subst q1 q2
      exact h2
    | succ r ih =>
      intro hr g c h1 h2
      obtain ⟨g', c', w, q1, q2, q3, q4, q5, q6⟩ := h1
      refine ih (by omega) g' c' q4 ?_
      rw [show e - r = (e - (r + 1)) + 1 by omega]
      refine ⟨?_, w, c, q3, ?_, ?_⟩
      · rw [show e - (e - (r + 1) + 1) = r by omega]; exact q4
      · rw [show e - (e - (r + 1)) = r + 1 by omega]; exact q5
      · rw [← q6]; exact h2
  refine key e (Nat.le_refl _) 2 home h ?_
  rw [Nat.sub_self]
  exact ⟨rfl, rfl⟩
/-- the ways that lead to the end in time -/
abbrev okN (v : Nat → Int32) (A : Nat → Nat → Int32) (B : Nat → Nat → Int64) (t home e r g c w : Nat) : Prop := ∃ d, gz v A B c w (r + 1) = some d ∧ NN v A B t home e (e - (r + 1)) (dnN A t d g) d
noncomputable abbrev wyN (v : Nat → Int32) (A : Nat → Nat → Int32) (B : Nat → Nat → Int64) (t home e : Nat) : Nat → Nat → Nat → Option Nat := fun r g c => lwF (okN v A B t home e r g c) 5 0
theorem lwF_congr {ok ok' : Nat → Prop} (n : Nat) : ∀ w, (∀ y, w ≤ y → y < w + n → (ok y ↔ ok' y)) → lwF ok n w = lwF ok' n w := by
  induction n with
  | zero => intro w _; rfl
  | succ n ih =>
    intro w h
    have e1 := ih (w + 1) (fun y h1 h2 => h y (by omega) (by omega))
    by_cases q : ok w
    · rw [lwF_t q, lwF_t ((h w (Nat.le_refl _) (by omega)).mp q)]
    · rw [lwF_f q, lwF_f (fun z => q ((h w (Nat.le_refl _) (by omega)).mpr z)), e1]
theorem tkL_congr {W W' : Nat → Nat → Nat → Option Nat} {D : Nat → Nat → Nat} {t e : Nat} (hD : ∀ d g, g < 3 → D d g < 3) (hW : ∀ r g c, r < e → g < 3 → c < 96 → W r g c = W' r g c ∧ ∀ w, W r g c = some w → w < 5) : ∀ n r g c v A, r + n = e → g < 3 → c < 96 → tkL W D t n r g c v A = tkL W' D t n r g c v A := by
  intro n
  induction n with
  | zero => intro r g c v A _ _ _; rfl
  | succ n ih =>
    intro r g c v A h1 h2 h3
    obtain ⟨e1, e2⟩ := hW r g c (by omega) h2 h3
    rw [tkL, tkL, e1]
    have hd : (nbq c ((W' r g c).getD 4)).getD c < 96 := by
      have hw : (W' r g c).getD 4 < 5 := by
        cases q : W' r g c with
        | none => decide
        | some w => exact e2 w (by rw [e1, q])
      cases q : nbq c ((W' r g c).getD 4) with
      | none => exact h3
      | some d => exact nbq_lt h3 hw q
    have hg := hD ((nbq c ((W' r g c).getD 4)).getD c) g h2
    split
    · exact ih _ _ _ _ _ (by omega) hg hd
    · exact ih _ _ _ _ _ (by omega) hg hd
noncomputable def tkN (v : Nat → Int32) (A : Nat → Nat → Int32) (B : Nat → Nat → Int64) (t pu home e : Nat) : (Nat → Int32) × (Nat → Nat → Int32) := tkL (wyN v A B t home e) (fun d g => dnN A t d g) t e 0 0 home v (tkB v A t pu)
theorem tk_eq {v : Nat → Int32} {A : Nat → Nat → Int32} {B B3 : Nat → Nat → Int64} {t pu home e : Nat} (h35 : B3 35 = B 35) (h36 : B3 36 = B 36) (hh : home < 96) (hM : nwM (RR v A B3 t home) (NN v A B3 t home e) e 0 (B3 37)) : tkM v A B3 t pu home e = tkN v A B t pu home e := by
  unfold tkM tkN
  refine tkL_congr (e := e) (fun d g hg => dnN_le hg) (fun r g c hr hg hc => ⟨?_, fun w hw => ?_⟩) e 0 0 home v _ (by omega) (by decide) hh
  · refine lwF_congr 5 0 (fun y _ hy => ?_)
    have hb : ∀ d, d < 96 → (bt (B3 37) (3 * r + 3 + dnN A t d g) d ↔ NN v A B t home e (e - (r + 1)) (dnN A t d g) d) := by
      intro d hd
      have := hM (r + 1) (dnN A t d g) d (by omega) (dnN_le hg) hd
      rw [show 3 * (r + 1) + dnN A t d g = 3 * r + 3 + dnN A t d g by omega] at this
      rw [this, NN_congr (v := v) (A := A) (B := B) rfl rfl rfl rfl rfl h35 h36]
      exact ⟨fun z => z.elim (fun z => by omega) (fun z => z.2), fun z => Or.inr ⟨by omega, z⟩⟩
    constructor
    · rintro ⟨d, q1, q2⟩
      rw [gz_congr (v := v) (A := A) (B := B) rfl rfl rfl h35 h36] at q1
      exact ⟨d, q1, (hb d (gz_lt hc (by omega) q1)).mp q2⟩
    · rintro ⟨d, q1, q2⟩
      refine ⟨d, ?_, (hb d (gz_lt hc (by omega) q1)).mpr q2⟩
      rw [gz_congr (v := v) (A := A) (B := B) rfl rfl rfl h35 h36]
      exact q1
  · have := (lwF_spec 5 0).1 w hw
    omega
theorem avOk_congr {v v1 : Nat → Int32} {A : Nat → Nat → Int32} {nv cl : Nat} {pk mu : Nat → Nat} {ce tm nq : Nat → Nat → Nat} (h10 : v1 10 = v 10) (h : avOk v A nv cl pk mu ce tm nq) : avOk v1 A nv cl pk mu ce tm nq := by
  intro u hu
  obtain ⟨⟨h1, h2, h3, h4, h5⟩, h6⟩ := h u hu
  refine ⟨⟨h1, h2, h3, h4, fun i hi => ?_⟩, h6⟩
  rw [plc_congr (v := v) (A := A) h10 rfl rfl rfl rfl]
  exact h5 i hi
/-- a plan is looked for, and taken -/
def plR (v : Nat → Int32) (A : Nat → Nat → Int32) (w t home nv : Nat) (hq : Nat → Nat → Nat) (x : Int32) (v1 : Nat → Int32) (A1 : Nat → Nat → Int32) : Prop :=
  ∃ B2 : Nat → Nat → Int64, fa36 hq w nv (B2 36) ∧ fa35 hq w nv (B2 35) ∧
    ((x = 0 ∧ v1 = upd v 38 (nI w) ∧ A1 = A ∧ ∀ e, 1 ≤ e → e ≤ 150 → ¬ RR (upd v 38 (nI w)) A B2 t home e 2 home) ∨
     ∃ e, 1 ≤ e ∧ e ≤ 150 ∧ RR (upd v 38 (nI w)) A B2 t home e 2 home ∧ (∀ e2, 1 ≤ e2 → e2 < e → ¬ RR (upd v 38 (nI w)) A B2 t home e2 2 home) ∧ x = 1 ∧
       v1 = upd (tkN (upd v 38 (nI w)) A B2 t w home e).1 10 ((tkN (upd v 38 (nI w)) A B2 t w home e).1 10 + 1) ∧ A1 = tkE (tkN (upd v 38 (nI w)) A B2 t w home e) t w)
set_option maxHeartbeats 4000000 in
set_option maxRecDepth 100000 in
theorem k_Mod_plans (l : Launch) (G : GG) (o : Nat) (r : Nat → Nat) (v : Nat → Int32) (A : Nat → Nat → Int32) (B : Nat → Nat → Int64) (w t0 : Nat) {nv np cl ro : Nat} {pk mu : Nat → Nat} {ce tm nq : Nat → Nat → Nat} (hnv : nv ≤ 6) (h4 : v 4 = nI nv) (hnp : np ≤ 24) (h10 : v 10 = nI np) (h29 : v 29 = nI cl) (hcl : cl < 1000000) (hav : avOk v A nv cl pk mu ce tm nq) (hw : w < nv) (ht : t0 < 24) (h19 : v 19 = nI ro) (hro : ro + 150 ≤ 3600) : mct l G y_Mod_plans c_Mod_plans 4 (some .boolean) 4 99 [.ref o, .int (nI w), .int (nI t0)] o r v A B (fun x v1 A1 B1 => ∃ z, x = some (.int z) ∧ plR v A w t0 (pk w) nv (hqF pk ce nq) z v1 A1) := by
  refine mct_intro (by decide) [some (.ref o), some (.int (nI w)), some (.int (nI t0)), none] rfl rfl (Nat.le_of_ble_eq_true rfl) ?_
  intro p e s m below meth c ls P f C hr hlk hE hM hm hl
  have hw6 : w < 6 := by omega
  refine lv_aload_n C.1 C.2.1 d_Mod_plans_0 rfl (lo_at hl 0 rfl) ?_
  refine lv_iload_n C.1 C.2.1 d_Mod_plans_1 rfl (lo_at hl 1 rfl) ?_
  refine md_put C hE hM hm 38 (Nat.le_of_ble_eq_true rfl) tw_820 rfl rfl rfl rfl rfl d_Mod_plans_2 (fun f1 H1 locs1 hM hm => ?_)
  refine lv_aload_n C.1 C.2.1 d_Mod_plans_5 rfl (lo_at hl 0 rfl) ?_
  refine md_callV C hE hM hm (k_Mod_forbidAll l G o r (upd v 38 (nI w)) A B (nv := nv) (np := np) (cl := cl) (pu := w) (pk := pk) (mu := mu) (ce := ce) (tm := tm) (nq := nq) hnv h4 hnp h10 h29 hcl (avOk_congr rfl hav) rfl hw6) rfl tw_998 cy_Mod_forbidAll ⟨(Nat.le_of_ble_eq_true rfl), (Nat.le_of_ble_eq_true rfl)⟩ rfl hl.1 rfl (Nat.le_of_ble_eq_true rfl) ⟨Nat.zero_le _, Nat.zero_le _⟩ d_Mod_plans_6 (fun x9 f1 H1 locs1 v9 A9 B9 hp hM hm => ?_)
  obtain ⟨hx9, hv9, hA9, hBk9, hf36, hf35⟩ := hp
  subst hx9
  rw [hv9, hA9] at hm
  generalize B9 = B2 at *
  refine W.eq (g2 := F0 m 9 ls _) rfl ?_
  refine lv_aload_n C.1 C.2.1 d_Mod_plans_9 rfl (lo_at hl 0 rfl) ?_
  refine lv_iload_n C.1 C.2.1 d_Mod_plans_10 rfl (lo_at hl 2 rfl) ?_
  refine md_callV C hE hM hm (k_Mod_spread l G o r (upd v 38 (nI w)) A B2 t0 (pu := w) (home := pk w) ht rfl hw6 (hav w hw).1.1 (hav w hw).1.2.1) rfl tw_1009 cy_Mod_spread ⟨(Nat.le_of_ble_eq_true rfl), (Nat.le_of_ble_eq_true rfl)⟩ rfl hl.1 rfl (Nat.le_of_ble_eq_true rfl) ⟨Nat.zero_le _, Nat.zero_le _⟩ d_Mod_plans_11 (fun x9 f1 H1 locs1 v9 A9 B9 hp hM hm => ?_)
  obtain ⟨hv9, hA9, b1, hB9, z, hx9, hsp⟩ := hp
  subst hx9
  rw [hv9, hA9, hB9] at hm
  refine W.eq (g2 := F0 m 14 ls (_ :: _)) rfl ?_
  refine lo_istore_n C hl d_Mod_plans_14 (Nat.le_of_ble_eq_true rfl) rfl (fun ls hl => ?_)
  refine lv_iload_n C.1 C.2.1 d_Mod_plans_15 rfl (lo_at hl 3 rfl) ?_
  refine lv_if_ge (tgt := 21) C.1 C.2.1 d_Mod_plans_16 (by decide) (fun hc16 => ?_) (fun hc16 => ?_)
  · obtain ⟨e0, he1, he2, hez, hre, hleast, hmk⟩ : ∃ e, 1 ≤ e ∧ e ≤ 150 ∧ z = nI e ∧ RR (upd v 38 (nI w)) A B2 t0 (pk w) e 2 (pk w) ∧ (∀ e2, 1 ≤ e2 → e2 < e → ¬ RR (upd v 38 (nI w)) A B2 t0 (pk w) e2 2 (pk w)) ∧ mkM (RR (upd v 38 (nI w)) A B2 t0 (pk w)) e b1 := by
      rcases hsp with hsp | hsp
      · rw [hsp.1] at hc16; exact absurd hc16 (by decide)
      · exact hsp
    rw [hez] at hl
    refine lv_aload_n C.1 C.2.1 d_Mod_plans_21 rfl (lo_at hl 0 rfl) ?_
    refine lv_iload_n C.1 C.2.1 d_Mod_plans_22 rfl (lo_at hl 2 rfl) ?_
    refine lv_iload_n C.1 C.2.1 d_Mod_plans_23 rfl (lo_at hl 3 rfl) ?_
    refine md_callV C hE hM hm (k_Mod_narrow l G o r (upd v 38 (nI w)) A (va_up B2 37 b1) t0 e0 (pu := w) (home := pk w) ht he2 rfl hw6 (hav w hw).1.1 (hav w hw).1.2.1 (mkM_congr (Q := RR (upd v 38 (nI w)) A B2 t0 (pk w)) (Q' := RR (upd v 38 (nI w)) A (va_up B2 37 b1) t0 (pk w)) (fun r g c => (RR_congr (v := upd v 38 (nI w)) (v1 := upd v 38 (nI w)) (A := A) (A1 := A) (B := B2) (B1 := va_up B2 37 b1) rfl rfl rfl rfl rfl rfl rfl r g c).symm) hmk)) rfl tw_1032 cy_Mod_narrow ⟨(Nat.le_of_ble_eq_true rfl), (Nat.le_of_ble_eq_true rfl)⟩ rfl hl.1 rfl (Nat.le_of_ble_eq_true rfl) ⟨Nat.zero_le _, Nat.zero_le _⟩ d_Mod_plans_24 (fun x9 f1 H1 locs1 v9 A9 B9 hp hM hm => ?_)
    obtain ⟨hx9, hv9, hA9, b2, hB9, hnw⟩ := hp
    subst hx9
    rw [hv9, hA9, hB9, bx_uu] at hm
    refine W.eq (g2 := F0 m 27 ls _) rfl ?_
    have hnw2 : nwM (RR (upd v 38 (nI w)) A (va_up B2 37 b2) t0 (pk w)) (NN (upd v 38 (nI w)) A (va_up B2 37 b2) t0 (pk w) e0) e0 0 (va_up B2 37 b2 37) := by
      rw [va_up_self]
      exact nwM_congr (fun r g c => RR_congr (v := upd v 38 (nI w)) (v1 := upd v 38 (nI w)) (A := A) (A1 := A) (B := va_up B2 37 b2) (B1 := va_up B2 37 b1) rfl rfl rfl rfl rfl rfl rfl r g c) (fun k g c => NN_congr (v := upd v 38 (nI w)) (v1 := upd v 38 (nI w)) (A := A) (A1 := A) (B := va_up B2 37 b2) (B1 := va_up B2 37 b1) rfl rfl rfl rfl rfl rfl rfl k g c) hnw
    refine lv_aload_n C.1 C.2.1 d_Mod_plans_27 rfl (lo_at hl 0 rfl) ?_
    refine lv_iload_n C.1 C.2.1 d_Mod_plans_28 rfl (lo_at hl 2 rfl) ?_
    refine lv_iload_n C.1 C.2.1 d_Mod_plans_29 rfl (lo_at hl 3 rfl) ?_
    refine md_callV C hE hM hm (k_Mod_take l G o r (upd v 38 (nI w)) A (va_up B2 37 b2) t0 e0 (pu := w) (home := pk w) (ro0 := ro) ht he2 rfl hw6 (hav w hw).1.1 (hav w hw).1.2.1 h19 (by omega) hnw2 (NN_start ((RR_congr (v := (upd v 38 (nI w))) (v1 := (upd v 38 (nI w))) (A := A) (A1 := A) (B := B2) (B1 := va_up B2 37 b2) rfl rfl rfl rfl rfl rfl rfl e0 2 (pk w)).mpr hre))) rfl tw_1041 cy_Mod_take ⟨(Nat.le_of_ble_eq_true rfl), (Nat.le_of_ble_eq_true rfl)⟩ rfl hl.1 rfl (Nat.le_of_ble_eq_true rfl) ⟨Nat.zero_le _, Nat.zero_le _⟩ d_Mod_plans_30 (fun x9 f1 H1 locs1 v9 A9 B9 hp hM hm => ?_)
    obtain ⟨hx9, hv9, hA9, hB9⟩ := hp
    subst hx9
    rw [hv9, hA9, hB9] at hm
    refine W.eq (g2 := F0 m 33 ls _) rfl ?_
    refine lv_iconst (v := 1) C.1 C.2.1 d_Mod_plans_33 (by decide) ?_
    refine md_zret C hr hlk hM hm d_Mod_plans_34 (by decide) ?_
    rw [tk_eq (B := B2) (B3 := va_up B2 37 b2) rfl rfl (hav w hw).1.2.1 hnw2]
    exact ⟨_, rfl, B2, hf36, hf35, Or.inr ⟨e0, he1, he2, hre, hleast, rfl, rfl, rfl⟩⟩
  · refine lv_iconst (v := 0) C.1 C.2.1 d_Mod_plans_19 (by decide) ?_
    refine md_zret C hr hlk hM hm d_Mod_plans_20 (by decide) ?_
    refine ⟨_, rfl, B2, hf36, hf35, Or.inl ⟨rfl, rfl, rfl, ?_⟩⟩
    rcases hsp with hsp | ⟨e, q1, q2, q3, _⟩
    · exact hsp.2
    · rw [q3] at hc16; exact absurd (nI_pos' (by omega)) hc16
