/-! the planner's finds, in plain words -/
def gfE (E B : Nat → Nat → Bool) (c w r : Nat) : Option Nat := (nbq c w).bind (fun d => if (if w < 4 then E r d else B r d) = true then some d else none)
theorem gfE_ok (E B : Nat → Nat → Bool) : gfO E B (gfE E B) := by
  intro c w r d hc h1 h2 hw
  unfold gfE
  cases hn : nbq c w with
  | none => simp
  | some d' =>
    simp only [Option.bind_some]
    by_cases q : w < 4
    · rw [if_pos q, if_pos q]
      by_cases z : E r d' = true
      · rw [if_pos z]
        constructor
        · intro y; have y := Option.some.inj y; subst y; exact ⟨rfl, z⟩
        · intro y; exact y.1
      · rw [if_neg z]
        refine ⟨fun y => (by cases y), fun y => ?_⟩
        have y1 := Option.some.inj y.1
        subst y1
        exact absurd y.2 z
    · rw [if_neg q, if_neg q]
      by_cases z : B r d' = true
      · rw [if_pos z]
        constructor
        · intro y; have y := Option.some.inj y; subst y; exact ⟨rfl, z⟩
        · intro y; exact y.1
      · rw [if_neg z]
        refine ⟨fun y => (by cases y), fun y => ?_⟩
        have y1 := Option.some.inj y.1
        subst y1
        exact absurd y.2 z
theorem JI.pge {v : Nat → Int32} {A : Nat → Nat → Int32} {T : TS} (h : JI v A T.k) (hq : eqC v A T.v T.A) (hnp : T.k.N 4 < T.k.N 2) {w e : Nat} (hw : w < T.k.N 0) (hp : plE T w e) : PG (tE T w) (tB T w) (gfE (tE T w) (tB T w)) (tfs T) (tsn T) (T.k.q 0 w) e := by
  obtain ⟨f1, f2, f3, f4, f5, f6⟩ := h.fsn hq hnp
  refine ⟨gfE_ok _ _, ocC (fun x hx hxw => h.pos hw hx hxw _ (cntT_le _ _ _)), fun r d _ _ _ z => eB_bB z, fun z => ?_, hp.2.1, hp.2.2.1, (h.pk w hw).2.1⟩
  have := (h.pk w hw).2.2
  rw [z, f5] at this
  exact absurd this (by decide)
theorem plW_eqC {v v1 : Nat → Int32} {A A1 : Nat → Nat → Int32} {T : TS} {w e : Nat} (hq : eqC v A T.v T.A) {ro cl : Nat} {lg : Nat → Nat} (hW : plW v A w (T.k.N 4) ro cl (T.k.q 1 w) (tWy T w e) lg e v1 A1) : eqC v1 A1 (plT T w e).v (plT T w e).A := by
  constructor
  · intro j hj
    show v1 j = upd T.v 10 (T.v 10 + 1) j
    by_cases e10 : j = 10
    · subst e10; rw [upd_self, hW.v10, hq.1 10 rfl]
    · rw [upd_ne _ _ e10, hW.vo j (by rintro rfl; cases hj) (by rintro rfl; cases hj) e10, hq.1 j hj]
  · intro j hj
    show A1 j = va_up (va_up (va_up T.A 13 (upd (T.A 13) (T.k.N 4) (nI w))) 27 (upd (T.A 27) w (nI (T.k.q 1 w + apn (tWy T w e) e)))) 28 (upd (T.A 28) w (nI (T.k.N 4))) j
    by_cases e28 : j = 28
    · subst e28; rw [va_up_self, hW.a28, hq.2 28 rfl]
    · rw [va_up_ne _ _ e28]
      by_cases e27 : j = 27
      · subst e27; rw [va_up_self, hW.a27, hq.2 27 rfl]
      · rw [va_up_ne _ _ e27]
        by_cases e13 : j = 13
        · subst e13; rw [va_up_self, hW.a13, hq.2 13 rfl]
        · rw [va_up_ne _ _ e13, hW.ao j e13 (by rintro rfl; cases hj) (by rintro rfl; cases hj) (by rintro rfl; cases hj) (by rintro rfl; cases hj) (by rintro rfl; cases hj) (by rintro rfl; cases hj) e27 e28, hq.2 j hj]
theorem JI.plTx {v : Nat → Int32} {A : Nat → Nat → Int32} {T : TS} (h : JI v A T.k) (hq : eqC v A T.v T.A) (hnp : T.k.N 4 < T.k.N 2) {w e : Nat} (hw : w < T.k.N 0) (hid : T.k.q 4 w = T.k.q 1 w) (hp : plE T w e) : ∃ v1 A1, JI v1 A1 (plT T w e).k ∧ eqC v1 A1 (plT T w e).v (plT T w e).A := by
  have hPG := h.pge hq hnp hw hp
  have hn5 := h.n5
  have h24 := h.np
  have hW := plW_of (v := v) (A := A) (w := w) (t := T.k.N 4) hPG hn5.1 h.n6.1 (h.cn w hw).1.1 (by omega)
  refine ⟨_, _, h.pln hw hid hnp (fun s d hs => ?_) hPG hW, plW_eqC hq hW⟩
  rw [hq.2 2 rfl]
  exact (eB_t.mp hs).1.1
theorem plN_KJ {T T' : TS} (hK : KJ T) (h : plN T T') : KJ T' := by
  obtain ⟨v, A, hJ, hq⟩ := hK
  obtain ⟨hnp, w, e, h1, h2, rfl⟩ := h
  exact hJ.plTx hq hnp h1.1 h1.2.1 h2
theorem plL_KJ : ∀ n T, KJ T → KJ (plL n T) := by
  intro n
  induction n with
  | zero => exact fun T h => h
  | succ n ih =>
    intro T h
    by_cases c : ∃ T', plN T T'
    · obtain ⟨T', hT⟩ := c
      rw [plL_s hT]
      exact ih T' (plN_KJ h hT)
    · rw [plL_e (fun T' z => c ⟨T', z⟩)]
      exact h
section FND
variable {T : TS} {w : Nat} {S S2 S4 : Nat → Nat → Bool}
theorem fd_FW (h2 : loS S2 S w (T.k.N 0) (T.k.q 0) T.k.ce (nqC (T.k.N 6) (T.k.q 1) T.k.tm)) (hS : ∀ k, k < 96 → (S 0 k = true ↔ (T.A 2 k = 1 ∨ T.A 2 k = 2))) (hf : tfs T < 96) (hs : tsn T < 96) {r g k : Nat} (hr : r ≤ 150) (hk : k < 96) : fwS S2 (tfs T) (tsn T) (T.k.q 0 w) r g k = FW (tE T w) (tB T w) (tfs T) (tsn T) (T.k.q 0 w) r g k :=
  FW_congr hf hs r (fun s k h1 h3 hk => loS_E h2 hS h1 (by omega) hk) g k hk
theorem fd_no (h2 : loS S2 S w (T.k.N 0) (T.k.q 0) T.k.ce (nqC (T.k.N 6) (T.k.q 1) T.k.tm)) (hS : ∀ k, k < 96 → (S 0 k = true ↔ (T.A 2 k = 1 ∨ T.A 2 k = 2))) (hf : tfs T < 96) (hs : tsn T < 96) (hp : T.k.q 0 w < 96) (hn : fdN S2 (tfs T) (tsn T) (T.k.q 0 w)) (e : Nat) : ¬ plE T w e := by
  rintro ⟨h3, h4, h5, -⟩
  rw [← fd_FW h2 hS hf hs h4 hp, hn e h3 h4] at h5
  cases h5
theorem fd_yes (h2 : loS S2 S w (T.k.N 0) (T.k.q 0) T.k.ce (nqC (T.k.N 6) (T.k.q 1) T.k.tm)) (hS : ∀ k, k < 96 → (S 0 k = true ↔ (T.A 2 k = 1 ∨ T.A 2 k = 2))) (hf : tfs T < 96) (hs : tsn T < 96) (hp : T.k.q 0 w < 96) {e : Nat} (h1 : 1 ≤ e) (he : e ≤ 150) (hy : fdY S2 S4 (tfs T) (tsn T) (T.k.q 0 w) e) : plE T w e ∧ ∀ t g k, t ≤ e → g < 3 → k < 96 → rowX S4 t g k = prX (tE T w) (tB T w) (tfs T) (tsn T) (T.k.q 0 w) e t g k := by
  obtain ⟨y1, y2, S3, y3, y4⟩ := hy
  refine ⟨⟨h1, he, by rw [← fd_FW h2 hS hf hs he hp]; exact y1, fun e2 z1 z2 => by rw [← fd_FW h2 hS hf hs (by omega) hp]; exact y2 e2 z1 z2⟩, fun t g k ht hg hk => ?_⟩
  show S4 (309 + (t * 3 + g)) k = _
  rw [y4.1 t g k ht hg hk, if_pos (Nat.zero_le _)]
  refine PR_congr hf hs (fun t g k ht hg hk => ?_) _ g k hg hk
  show S3 (309 + (t * 3 + g)) k = _
  rw [y3.1 t g k (by omega) hg hk]
  exact fd_FW h2 hS hf hs (by omega) hk
theorem lgN_dlg {F : Nat → Int32} {fs sn z g : Nat} (h0 : F 0 = nI fs) (h1 : F 1 = nI sn) (hf : fs < 96) (hs : sn < 96) (hz : z < 96) : lgN F z g = dlg fs sn z g := by
  unfold lgN dlg
  have e1 : nI z = F 0 ↔ z = fs := by rw [h0]; exact ⟨fun y => nI_inj (by omega) (by omega) y, fun y => by rw [y]⟩
  have e2 : nI z = F 1 ↔ z = sn := by rw [h1]; exact ⟨fun y => nI_inj (by omega) (by omega) y, fun y => by rw [y]⟩
  simp only [e1, e2]
theorem fnF_congr {X X' : Nat → Nat → Nat → Bool} {L L' : Nat → Nat → Nat} {pk e : Nat} (h : ∀ r, r ≤ e → wf X L pk r = wf X' L' pk r) : ∀ r, r ≤ e → fnF X L pk r = fnF X' L' pk r := by
  intro r
  induction r with
  | zero => intro _; rfl
  | succ r ih =>
    intro hr
    rw [fnF, fnF, h (r + 1) hr, h r (by omega), ih (by omega)]
theorem fd_wf {F : Nat → Int32} {e : Nat} (hX : ∀ t g k, t ≤ e → g < 3 → k < 96 → rowX S4 t g k = prX (tE T w) (tB T w) (tfs T) (tsn T) (T.k.q 0 w) e t g k) (h0 : F 0 = nI (tfs T)) (h1 : F 1 = nI (tsn T)) (hf : tfs T < 96) (hs : tsn T < 96) (hp : T.k.q 0 w < 96) : (∀ r, r ≤ e → (wf (rowX S4) (lgN F) (T.k.q 0 w) r).1 = tWy T w e r ∧ tWy T w e r < 96) ∧ fnF (rowX S4) (lgN F) (T.k.q 0 w) e = fnF (prX (tE T w) (tB T w) (tfs T) (tsn T) (T.k.q 0 w) e) (dlg (tfs T) (tsn T)) (T.k.q 0 w) e := by
  have hw := wf_congr (X := rowX S4) (X' := prX (tE T w) (tB T w) (tfs T) (tsn T) (T.k.q 0 w) e) (L := lgN F) (L' := dlg (tfs T) (tsn T)) hp (fun z g hz hg => ⟨lgN_dlg h0 h1 hf hs hz, lgN_lt hg⟩) hX
  refine ⟨fun r hr => ?_, fnF_congr (fun r hr => (hw r hr).1) e (Nat.le_refl _)⟩
  obtain ⟨a1, a2, a3⟩ := hw r hr
  show (wf (rowX S4) (lgN F) (T.k.q 0 w) r).1 = (wf (prX (tE T w) (tB T w) (tfs T) (tsn T) (T.k.q 0 w) e) (dlg (tfs T) (tsn T)) (T.k.q 0 w) r).1 ∧ (wf (prX (tE T w) (tB T w) (tfs T) (tsn T) (T.k.q 0 w) e) (dlg (tfs T) (tsn T)) (T.k.q 0 w) r).1 < 96
  rw [← a1]
  exact ⟨rfl, a2⟩
end FND
section CSL
variable {G : GG} {P P1 : List Nat} {f f1 : Nat → va_E} {o : Nat} {D : Nat → Nat → Nat} {C : Nat → Nat} {T : TS}
theorem cS.a27 (h : cS G P f o D C T) (g : Nat → Int32) : cS G P f o D C (T.v, va_up T.A 27 g, T.k) := cS.mk h.ff h.mp h.kd h.ar h.al h.lt h.tl h.tk h.va h.vh h.vl h.mv h.sa h.vj h.lj h.l0 h.tj h.cp h.lw h.pl
theorem cS.one (h : cS G P f o D C T) {v : Nat → Int32} {A : Nat → Nat → Int32} (hJ : JI v A T.k) (hq : eqC v A T.v T.A) {u : Nat} (hu : u < T.k.N 0) : vOne G P f (D 1 u) (T.k.q 0 u) (D 2 u) (C (10 + u)) (T.k.q 1 u) (D (10 + u)) (T.k.ce u) (T.k.tm u) := by
  have h6 : T.A 6 u = nI (T.k.q 0 u) := by rw [← hq.2 6 rfl]; exact (hJ.pk u hu).1
  have hc := (h.vh u hu).2
  unfold vhF at hc
  rw [h6] at hc
  exact ⟨(h.vh u hu).1, ⟨_, _, _, _, _, _, _, _, hc⟩, h.vl u hu, h.mv u hu⟩
theorem hcomC {v : Nat → Int32} {A : Nat → Nat → Int32} (hJ : JI v A T.k) (hq : eqC v A T.v T.A) {S : Nat → Nat → Bool} (hS : ∀ k, k < 96 → (S 0 k = true ↔ (T.A 2 k = 1 ∨ T.A 2 k = 2))) {w : Nat} (hw : w < T.k.N 0) : ∀ u, u < T.k.N 0 → u ≠ w → ∀ k, k < 96 → (S 0 k = true ∨ k = T.k.q 0 w) → k ≠ T.k.q 0 u := by
  intro u hu huw k hk hc z
  have h3 := (hJ.pk u hu).2.2
  rw [hq.2 2 rfl, ← z] at h3
  rcases hc with hc | hc
  · rcases (hS k hk).mp hc with y | y
    · rw [y] at h3; exact absurd h3 (by decide)
    · rw [y] at h3; exact absurd h3 (by decide)
  · exact huw (hJ.pj u w hu hw (z.symm.trans hc))
def apT1 (T : TS) (w e : Nat) (wy : Nat → Nat) (fin : Int32) : TS := (T.v, T.A, KS.mk T.k.N (plK T.k w e wy fin).q (plK T.k w e wy fin).ce (plK T.k w e wy fin).tm (plK T.k w e wy fin).X)
theorem cS.apd (h : cS G P f o D C T) (h35 : G.2.1 3 ≠ G.2.1 5) {w e : Nat} (hw : w < T.k.N 0) (hv : T.v 1 = 1) {wy : Nat → Nat} {fin : Int32} {cap1 : Nat} {g1 cc1 tt1 : Nat → Nat} (hc1 : cap1 ≤ 2 * (T.k.q 1 w + apn wy e) + 10) (hl : lsS G P1 f1 (D 2 w) cap1 (T.k.q 1 w + apn wy e) g1) (hm : ∀ i, i < T.k.q 1 w + apn wy e → g1 i ∈ P1 ∧ f1 (g1 i) = .inr (6, [.int (nI (cc1 i)), .int (nI (tt1 i))])) (hM : apM (T.k.q 1 w) (T.k.ce w) (T.k.tm w) cc1 tt1 wy (T.k.N 6) e) (hf : f1 (D 1 w) = .inr (8, [.int (nI w), .int (T.A 6 w), .ref (D 2 w), .int (T.A 23 w), .int (T.A 24 w), .int (T.A 25 w), .int (T.A 26 w), .int (T.A 28 w), .int fin, .int (T.k.X 1 w)])) (hF : apF G P f P1 f1 (D 1 w) (D 2 w)) {S : Nat → Nat → Bool} {Wy F : Nat → Int32} (hP : pS G (D 0 7) (D 0 5) (D 5) (D 6) P1 f1 f1 S Wy F) (hS : ∀ k, k < 96 → (S 0 k = true ↔ (T.A 2 k = 1 ∨ T.A 2 k = 2))) : cS G P1 f1 o (va_up D (10 + w) g1) (va_up C (10 + w) cap1) (apT1 T w e wy fin) := by
  have q1 : (apT1 T w e wy fin).k.q 1 w = T.k.q 1 w + apn wy e := va_up_self _ _ _
  have cw : (apT1 T w e wy fin).k.ce w = apX (T.k.q 1 w) (T.k.ce w) wy e := va_up_self _ _ _
  have tw : (apT1 T w e wy fin).k.tm w = apT (T.k.q 1 w) (T.k.tm w) wy (T.k.N 6) e := va_up_self _ _ _
  refine h.app (T' := apT1 T w e wy fin) hF.x h35 hw rfl rfl rfl rfl rfl rfl (fun x hx => ?_) ?_ (fun x hx => ⟨va_up_ne _ _ hx, va_up_ne _ _ hx, va_up_ne _ _ hx⟩) (by rw [q1]; exact hc1) (by rw [q1]; exact hl) (fun i hi => ?_) hv hP hS
  · show [_, _, _, _, _, _, _, _, Value.int (va_up (T.k.X 0) w fin x), _] = _
    rw [va_up_ne _ _ hx]
    rfl
  · rw [hf]
    show _ = Sum.inr (8, [_, _, _, _, _, _, _, _, Value.int (va_up (T.k.X 0) w fin w), _])
    rw [va_up_self]
    rfl
  · rw [q1] at hi
    have hu := apM_uniq hM (apM_XT (T.k.q 1 w) (T.k.ce w) (T.k.tm w) wy (T.k.N 6) e) hi
    rw [cw, tw, ← hu.1, ← hu.2]
    exact hm i hi
theorem cS.pltx {w e : Nat} {T1 T2 T3 : TS} (hT1 : T1 = apT1 T w e (tWy T w e) (finF (fnF (prX (tE T w) (tB T w) (tfs T) (tsn T) (T.k.q 0 w) e) (dlg (tfs T) (tsn T)) (T.k.q 0 w) e) (T.k.X 0 w) (T.k.q 1 w) (tWy T w e) e)) (hT2 : T2 = (T1.v, va_up T1.A 28 (upd (T1.A 28) w (nI (T.k.N 4))), T1.k)) (hT3 : T3 = (T2.v, va_up (va_up T2.A 13 (upd (T2.A 13) (T.k.N 4) (nI w))) 18 (upd (T2.A 18) (T.k.N 4) (T2.A 18 (T.k.N 4))), T2.k)) (h10 : T.v 10 = nI (T.k.N 4)) (h : cS G P f o D C (upd T3.v 10 (nI (T.k.N 4) + 1), T3.A, T3.k)) : cS G P f o D C (plT T w e) := by
  subst hT1; subst hT2; subst hT3
  refine (h.a27 (upd (T.A 27) w (nI (T.k.q 1 w + apn (tWy T w e) e)))).congrN ⟨fun j _ => ?_, fun j hj => ?_⟩ (fun j hj => ?_) rfl rfl rfl rfl
  · show upd T.v 10 (nI (T.k.N 4) + 1) j = upd T.v 10 (T.v 10 + 1) j
    rw [h10]
  · show va_up (va_up (va_up (va_up T.A 28 (upd (T.A 28) w (nI (T.k.N 4)))) 13 (upd (T.A 13) (T.k.N 4) (nI w))) 18 (upd (T.A 18) (T.k.N 4) (T.A 18 (T.k.N 4)))) 27 (upd (T.A 27) w (nI (T.k.q 1 w + apn (tWy T w e) e))) j = va_up (va_up (va_up T.A 13 (upd (T.A 13) (T.k.N 4) (nI w))) 27 (upd (T.A 27) w (nI (T.k.q 1 w + apn (tWy T w e) e)))) 28 (upd (T.A 28) w (nI (T.k.N 4))) j
    by_cases e27 : j = 27
    · subst e27; rw [va_up_self, va_up_ne _ _ (by decide), va_up_self]
    · rw [va_up_ne _ _ e27]
      by_cases e18 : j = 18
      · subst e18; rw [va_up_self, upd_same rfl]; rfl
      · rw [va_up_ne _ _ e18]
        by_cases e13 : j = 13
        · subst e13; rw [va_up_self, va_up_ne _ _ (by decide), va_up_ne _ _ (by decide), va_up_self]
        · rw [va_up_ne _ _ e13]
          by_cases e28 : j = 28
          · subst e28; rw [va_up_self, va_up_self]
          · rw [va_up_ne _ _ e28, va_up_ne _ _ e28, va_up_ne _ _ e27, va_up_ne _ _ e13]
  · show va_up (va_up T.k.N 4 _) 5 _ j = T.k.N j
    rw [va_up_ne _ _ (by omega), va_up_ne _ _ (by omega)]
theorem cS.put10 (h : cS G P f o D C T) (h35 : G.2.1 3 ≠ G.2.1 5) (h45 : G.2.1 4 ≠ G.2.1 5) {y : Int32} (hf : f1 = va_up f o (.inr (0, ffF D (upd T.v 10 y)))) : cS G P f1 o D C (upd T.v 10 y, T.A, T.k) :=
  h.own (wr_x hf h.ff.2 (by decide) h.lw) h35 h45 rfl (by rw [hf, va_up_self])
theorem cS.put30 (h : cS G P f o D C T) (h35 : G.2.1 3 ≠ G.2.1 5) (h45 : G.2.1 4 ≠ G.2.1 5) {y : Int32} (hf : f1 = va_up f o (.inr (0, ffF D (upd T.v 30 y)))) : cS G P f1 o D C (upd T.v 30 y, T.A, T.k) :=
  h.own (wr_x hf h.ff.2 (by decide) h.lw) h35 h45 rfl (by rw [hf, va_up_self])
end CSL
