/-! what class and reference share -/
def crV (j : Nat) : Bool := j == 1 || j == 3 || j == 4 || j == 9 || j == 10 || j == 29 || j == 30 || j == 31
def crA (j : Nat) : Bool := j == 2 || j == 5 || j == 6 || j == 11 || j == 12 || j == 13 || j == 18 || j == 23 || j == 24 || j == 25 || j == 26 || j == 27 || j == 28 || j == 32 || j == 33 || j == 34
def eqC (v : Nat → Int32) (A : Nat → Nat → Int32) (v' : Nat → Int32) (A' : Nat → Nat → Int32) : Prop := (∀ j, crV j = true → v j = v' j) ∧ ∀ j, crA j = true → A j = A' j
theorem eqC.refl (v : Nat → Int32) (A : Nat → Nat → Int32) : eqC v A v A := ⟨fun _ _ => rfl, fun _ _ => rfl⟩
theorem eqC.trans {v v' v2 : Nat → Int32} {A A' A2 : Nat → Nat → Int32} (h : eqC v A v' A') (h2 : eqC v' A' v2 A2) : eqC v A v2 A2 := ⟨fun j hj => (h.1 j hj).trans (h2.1 j hj), fun j hj => (h.2 j hj).trans (h2.2 j hj)⟩
theorem eqC.updV {v v' : Nat → Int32} {A A' : Nat → Nat → Int32} (h : eqC v A v' A') (i : Nat) {x y : Int32} (hx : x = y) : eqC (upd v i x) A (upd v' i y) A' := ⟨fun j hj => by
  by_cases e : j = i
  · subst e; rw [upd_self, upd_self, hx]
  · rw [upd_ne _ _ e, upd_ne _ _ e]; exact h.1 j hj, h.2⟩
theorem eqC.upV {v v' : Nat → Int32} {A A' : Nat → Nat → Int32} (h : eqC v A v' A') (i : Nat) (hi : crV i = false) {x : Int32} : eqC (upd v i x) A v' A' := ⟨fun j hj => by
  by_cases e : j = i
  · subst e; rw [hi] at hj; cases hj
  · rw [upd_ne _ _ e]; exact h.1 j hj, h.2⟩
theorem eqC.updA {v v' : Nat → Int32} {A A' : Nat → Nat → Int32} (h : eqC v A v' A') (i : Nat) {x y : Nat → Int32} (hx : x = y) : eqC v (va_up A i x) v' (va_up A' i y) := ⟨h.1, fun j hj => by
  by_cases e : j = i
  · subst e; rw [va_up_self, va_up_self, hx]
  · rw [va_up_ne _ _ e, va_up_ne _ _ e]; exact h.2 j hj⟩
theorem eqC.upA {v v' : Nat → Int32} {A A' : Nat → Nat → Int32} (h : eqC v A v' A') (i : Nat) (hi : crA i = false) {x : Nat → Int32} : eqC v (va_up A i x) v' A' := ⟨h.1, fun j hj => by
  by_cases e : j = i
  · subst e; rw [hi] at hj; cases hj
  · rw [va_up_ne _ _ e]; exact h.2 j hj⟩
theorem eqC.snd {v v' : Nat → Int32} {A A' : Nat → Nat → Int32} (h : eqC v A v' A') (k u n : Int32) : eqC (sndV v) (sndA v A k u n) (sndV v') (sndA v' A' k u n) := by
  have e31 := h.1 31 rfl
  unfold sndV sndA
  rw [e31]
  split
  · exact h
  · refine eqC.updA (eqC.updA (eqC.updA (h.updV 31 rfl) 32 ?_) 33 ?_) 34 ?_
    · rw [h.2 32 rfl]
    · rw [h.2 33 rfl]
    · rw [h.2 34 rfl]
/-- the class's state T is that of a reference's state -/
def KJ (T : TS) : Prop := ∃ v A, JI v A T.k ∧ eqC v A T.v T.A
/-! plans -/
noncomputable abbrev tE (T : TS) (w : Nat) : Nat → Nat → Bool := eB (T.A 2) (T.k.N 0) w (T.k.N 6) (T.k.q 0) (T.k.q 1) T.k.ce T.k.tm
noncomputable abbrev tB (T : TS) (w : Nat) : Nat → Nat → Bool := bB (T.A 2) (T.k.N 0) w (T.k.N 6) (T.k.q 0) (T.k.q 1) T.k.ce T.k.tm
abbrev tfs (T : TS) : Nat := ix (T.A 11 (T.k.N 4))
abbrev tsn (T : TS) : Nat := ix (T.A 12 (T.k.N 4))
def plE (T : TS) (w e : Nat) : Prop := 1 ≤ e ∧ e ≤ 150 ∧ FW (tE T w) (tB T w) (tfs T) (tsn T) (T.k.q 0 w) e 2 (T.k.q 0 w) = true ∧ ∀ e2, 1 ≤ e2 → e2 < e → FW (tE T w) (tB T w) (tfs T) (tsn T) (T.k.q 0 w) e2 2 (T.k.q 0 w) = false
theorem plE_uniq {T : TS} {w e e' : Nat} (h : plE T w e) (h' : plE T w e') : e = e' := by
  rcases Nat.lt_trichotomy e e' with z | z | z
  · have := h'.2.2.2 e h.1 z; rw [h.2.2.1] at this; cases this
  · exact z
  · have := h.2.2.2 e' h'.1 z; rw [h'.2.2.1] at this; cases this
noncomputable abbrev tWy (T : TS) (w e : Nat) : Nat → Nat := wyA (tE T w) (tB T w) (tfs T) (tsn T) (T.k.q 0 w) e
noncomputable def plT (T : TS) (w e : Nat) : TS := (upd T.v 10 (T.v 10 + 1), va_up (va_up (va_up T.A 13 (upd (T.A 13) (T.k.N 4) (nI w))) 27 (upd (T.A 27) w (nI (T.k.q 1 w + apn (tWy T w e) e)))) 28 (upd (T.A 28) w (nI (T.k.N 4))), plK T.k w e (tWy T w e) (finF (fnF (prX (tE T w) (tB T w) (tfs T) (tsn T) (T.k.q 0 w) e) (dlg (tfs T) (tsn T)) (T.k.q 0 w) e) (T.k.X 0 w) (T.k.q 1 w) (tWy T w e) e))
theorem JI.fsn {v : Nat → Int32} {A : Nat → Nat → Int32} {T : TS} (h : JI v A T.k) (hq : eqC v A T.v T.A) (hnp : T.k.N 4 < T.k.N 2) : A 11 (T.k.N 4) = nI (tfs T) ∧ A 12 (T.k.N 4) = nI (tsn T) ∧ tfs T < 96 ∧ tsn T < 96 ∧ A 2 (tfs T) = 2 ∧ A 2 (tsn T) = 2 := by
  obtain ⟨a, b, h1, h2, h3, h4, h5, h6⟩ := h.tk (T.k.N 4) hnp
  have e1 : tfs T = a := by show ix (T.A 11 (T.k.N 4)) = a; rw [← hq.2 11 rfl, h1]; exact nI_clamp (by omega)
  have e2 : tsn T = b := by show ix (T.A 12 (T.k.N 4)) = b; rw [← hq.2 12 rfl, h2]; exact nI_clamp (by omega)
  rw [e1, e2]
  exact ⟨h1, h2, h3, h4, h5, h6⟩
theorem JI.pgs {v : Nat → Int32} {A : Nat → Nat → Int32} {T : TS} (h : JI v A T.k) (hq : eqC v A T.v T.A) (hnp : T.k.N 4 < T.k.N 2) {w e : Nat} (hw : w < T.k.N 0) {B : Nat → Nat → Int64} (h36 : fa36 (hqF (T.k.q 0) T.k.ce (nqC (T.k.N 6) (T.k.q 1) T.k.tm)) w (T.k.N 0) (B 36)) (h35 : fa35 (hqF (T.k.q 0) T.k.ce (nqC (T.k.N 6) (T.k.q 1) T.k.tm)) w (T.k.N 0) (B 35)) :
    gfO (tE T w) (tB T w) (gz (upd v 38 (nI w)) A B) ∧ ocO (tE T w) (tB T w) (T.k.q 0 w) ∧ (plE T w e → PG (tE T w) (tB T w) (gz (upd v 38 (nI w)) A B) (tfs T) (tsn T) (T.k.q 0 w) e) := by
  have h0 := h.n0.2
  obtain ⟨f1, f2, f3, f4, f5, f6⟩ := h.fsn hq hnp
  have hg : gfO (tE T w) (tB T w) (gz (upd v 38 (nI w)) A B) := by
    have := gz_ok (v := upd v 38 (nI w)) (A := A) (B := B) (nv := T.k.N 0) (w := w) (cl := T.k.N 6) (pk := T.k.q 0) (mu := T.k.q 1) (ce := T.k.ce) (tm := T.k.tm) h.kd (upd_self _ _ _) (by omega) (h.pk w hw).1 (h.pk w hw).2.1 (h.pk w hw).2.2 (fun x hx => (h.mv x hx).2.1) (fun x hx i hi => ((h.mv x hx).1 i hi).2.2.2) h36 h35
    rw [hq.2 2 rfl] at this
    exact this
  have ho : ocO (tE T w) (tB T w) (T.k.q 0 w) := ocC (fun x hx hxw => h.pos hw hx hxw _ (cntT_le _ _ _))
  refine ⟨hg, ho, fun hp => ⟨hg, ho, fun r d _ _ _ z => eB_bB z, fun z => ?_, hp.2.1, hp.2.2.1, (h.pk w hw).2.1⟩⟩
  have := (h.pk w hw).2.2
  rw [z, f5] at this
  exact absurd this (by decide)
theorem JI.plRs {v : Nat → Int32} {A : Nat → Nat → Int32} {T : TS} (h : JI v A T.k) (hq : eqC v A T.v T.A) (hnp : T.k.N 4 < T.k.N 2) {w : Nat} (hw : w < T.k.N 0) (hid : T.k.q 4 w = T.k.q 1 w) {z : Int32} {v1 : Nat → Int32} {A1 : Nat → Nat → Int32} (hR : plR v A w (T.k.N 4) (T.k.q 0 w) (T.k.N 0) (hqF (T.k.q 0) T.k.ce (nqC (T.k.N 6) (T.k.q 1) T.k.tm)) z v1 A1) :
    (z = 0 ∧ (∀ e, ¬ plE T w e) ∧ v1 = upd v 38 (nI w) ∧ A1 = A) ∨ (z = 1 ∧ ∃ e, plE T w e ∧ JI v1 A1 (plT T w e).k ∧ eqC v1 A1 (plT T w e).v (plT T w e).A) := by
  obtain ⟨B2, h36, h35, hR⟩ := hR
  obtain ⟨f1, f2, f3, f4, f5, f6⟩ := h.fsn hq hnp
  have hh := (h.pk w hw).2.1
  have hFR : ∀ e, 1 ≤ e → e ≤ 150 → (RR (upd v 38 (nI w)) A B2 (T.k.N 4) (T.k.q 0 w) e 2 (T.k.q 0 w) ↔ FW (tE T w) (tB T w) (tfs T) (tsn T) (T.k.q 0 w) e 2 (T.k.q 0 w) = true) := fun e h1 h2 => by
    rw [RR_a f1 f2 f3 f4]
    exact (FW_RR (h.pgs hq hnp (e := e) hw h36 h35).1 e 2 _ h2 (by decide) hh).symm
  rcases hR with ⟨r1, r2, r3, r4⟩ | ⟨e, r1, r2, r3, r4, r5, r6, r7⟩
  · exact Or.inl ⟨r1, fun e he => r4 e he.1 he.2.1 ((hFR e he.1 he.2.1).mpr he.2.2.1), r2, r3⟩
  · have hp : plE T w e := ⟨r1, r2, (hFR e r1 r2).mp r3, fun e2 y1 y2 => by
      cases c : FW (tE T w) (tB T w) (tfs T) (tsn T) (T.k.q 0 w) e2 2 (T.k.q 0 w) with
      | false => rfl
      | true => exact absurd ((hFR e2 y1 (by omega)).mpr c) (r4 e2 y1 y2)⟩
    have hPG := (h.pgs hq hnp (e := e) hw h36 h35).2.2 hp
    have hn5 := h.n5
    have h24 := h.np
    rw [tkN_a f1 f2 f3 f4 hh] at r6 r7
    have hW := plW_of (v := v) (A := A) (w := w) (t := T.k.N 4) hPG hn5.1 h.n6.1 (h.cn w hw).1.1 (by omega)
    rw [← r6, ← r7] at hW
    refine Or.inr ⟨r5, e, hp, h.pln hw hid hnp (fun s d hs => ?_) hPG hW, ?_⟩
    · rw [hq.2 2 rfl]
      exact (eB_t.mp hs).1.1
    · constructor
      · intro j hj
        show v1 j = upd T.v 10 (T.v 10 + 1) j
        by_cases e10 : j = 10
        · subst e10; rw [upd_self, hW.v10, hq.1 10 rfl]
        · rw [upd_ne _ _ e10, hW.vo j (by rintro rfl; cases hj) (by rintro rfl; cases hj) e10, hq.1 j hj]
      · intro j hj
        show A1 j = va_up (va_up (va_up T.A 13 (upd (T.A 13) (T.k.N 4) (nI w))) 27 (upd (T.A 27) w (nI (T.k.q 1 w + apn (tWy T w e) e)))) 28 (upd (T.A 28) w (nI (T.k.N 4))) j
        by_cases e28 : j = 28
        · subst e28; rw [va_up_self, hW.a28, hq.2 28 rfl]
        · rw [va_up_ne _ _ e28]
          by_cases e27 : j = 27
          · subst e27; rw [va_up_self, hW.a27, hq.2 27 rfl]
          · rw [va_up_ne _ _ e27]
            by_cases e13 : j = 13
            · subst e13; rw [va_up_self, hW.a13, hq.2 13 rfl]
            · rw [va_up_ne _ _ e13, hW.ao j e13 (by rintro rfl; cases hj) (by rintro rfl; cases hj) (by rintro rfl; cases hj) (by rintro rfl; cases hj) (by rintro rfl; cases hj) (by rintro rfl; cases hj) e27 e28, hq.2 j hj]
theorem idl_spec {A : Nat → Nat → Int32} : ∀ n t, (idl A n t = -1 ∧ ∀ u, t ≤ u → u < t + n → A 25 u ≠ A 27 u) ∨ ∃ u, t ≤ u ∧ u < t + n ∧ idl A n t = nI u ∧ A 25 u = A 27 u ∧ ∀ x, t ≤ x → x < u → A 25 x ≠ A 27 x := by
  intro n
  induction n with
  | zero => intro t; exact Or.inl ⟨rfl, fun u h1 h2 => absurd h1 (by omega)⟩
  | succ n ih =>
    intro t
    rw [idl]
    by_cases q : A 25 t = A 27 t
    · rw [if_pos q]
      exact Or.inr ⟨t, Nat.le_refl _, by omega, rfl, q, fun x h1 h2 => absurd h1 (by omega)⟩
    · rw [if_neg q]
      rcases ih (t + 1) with ⟨h1, h2⟩ | ⟨u, h1, h2, h3, h4, h5⟩
      · refine Or.inl ⟨h1, fun u k1 k2 => ?_⟩
        by_cases e : u = t
        · subst e; exact q
        · exact h2 u (by omega) (by omega)
      · refine Or.inr ⟨u, by omega, by omega, h3, h4, fun x k1 k2 => ?_⟩
        by_cases e : x = t
        · subst e; exact q
        · exact h5 x (by omega) k2
/-- the lowest idle vehicle -/
def idK (k : KS) (w : Nat) : Prop := w < k.N 0 ∧ k.q 4 w = k.q 1 w ∧ ∀ x, x < w → k.q 4 x ≠ k.q 1 x
theorem idK_uniq {k : KS} {w w' : Nat} (h : idK k w) (h' : idK k w') : w = w' := by
  rcases Nat.lt_trichotomy w w' with z | z | z
  · exact absurd h.2.1 (h'.2.2 w z)
  · exact z
  · exact absurd h'.2.1 (h.2.2 w' z)
theorem JI.idls {v : Nat → Int32} {A : Nat → Nat → Int32} {k : KS} (h : JI v A k) : (idl A (k.N 0) 0 = -1 ∧ ∀ w, ¬ idK k w) ∨ ∃ w, idl A (k.N 0) 0 = nI w ∧ idK k w := by
  have key : ∀ u, u < k.N 0 → (A 25 u = A 27 u ↔ k.q 4 u = k.q 1 u) := fun u hu => by
    have hc := h.cn u hu
    have hb := h.qb hu
    rw [hc.1.1, hc.1.2.2.2.1]
    exact ⟨fun z => nI_inj (by omega) (by omega) z, fun z => by rw [z]⟩
  rcases idl_spec (A := A) (k.N 0) 0 with ⟨h1, h2⟩ | ⟨u, h1, h2, h3, h4, h5⟩
  · exact Or.inl ⟨h1, fun w hw => h2 w (Nat.zero_le _) (by have := hw.1; omega) ((key w hw.1).mpr hw.2.1)⟩
  · exact Or.inr ⟨u, h3, by omega, (key u (by omega)).mp h4, fun x hx => fun z => h5 x (Nat.zero_le _) hx ((key x (by omega)).mpr z)⟩
/-- one plan is made -/
def plN (T T' : TS) : Prop := T.k.N 4 < T.k.N 2 ∧ ∃ w e, idK T.k w ∧ plE T w e ∧ T' = plT T w e
theorem plN_uniq {T T1 T2 : TS} (h : plN T T1) (h' : plN T T2) : T1 = T2 := by
  obtain ⟨-, w, e, a1, a2, rfl⟩ := h
  obtain ⟨-, w', e', b1, b2, rfl⟩ := h'
  have := idK_uniq a1 b1
  subst this
  have := plE_uniq a2 b2
  subst this
  rfl
noncomputable def plL : Nat → TS → TS
  | 0, T => T
  | n + 1, T => @dite _ (∃ T', plN T T') (Classical.propDecidable _) (fun h => plL n (Classical.choose h)) (fun _ => T)
theorem plL_s {n : Nat} {T T' : TS} (h : plN T T') : plL (n + 1) T = plL n T' := by
  have hx : ∃ T', plN T T' := ⟨T', h⟩
  rw [plL, dif_pos hx, plN_uniq (Classical.choose_spec hx) h]
theorem plL_e {n : Nat} {T : TS} (h : ∀ T', ¬ plN T T') : plL n T = T := by
  cases n with
  | zero => rfl
  | succ n => rw [plL, dif_neg (fun ⟨T', z⟩ => h T' z)]
/-! moves and their letters -/
noncomputable def moT (T : TS) (u : Nat) : TS := if T.k.q 2 u < T.k.q 3 u then ⟨T.v, va_up (va_up T.A 18 (fin18 (T.v 30) (T.k.N 4) (T.k.X 0 u) (T.k.q 2 u) (T.A 28 u) (T.A 18))) 23 (upd (T.A 23) u (nI (T.k.q 2 u + 1))), (KS.mk (T.k.N) (va_up T.k.q 2 (va_up (T.k.q 2) u (T.k.q 2 u + 1))) (T.k.ce) (T.k.tm) (va_up T.k.X 1 (va_up (T.k.X 1) u 1)))⟩ else ⟨T.v, T.A, (KS.mk (T.k.N) (T.k.q) (T.k.ce) (T.k.tm) (va_up T.k.X 1 (va_up (T.k.X 1) u 0)))⟩
noncomputable def snD (T : TS) (u : Nat) : TS := if T.k.X 1 u = 1 ∨ isTn T.v (nI u) then snT T 1 u (T.k.q 2 u) else T
noncomputable def moL : Nat → TS → TS
  | 0, T => T
  | u + 1, T => moT (moL u T) u
noncomputable def snL : Nat → TS → TS
  | 0, T => T
  | u + 1, T => snD (snL u T) u
noncomputable def tiL : Nat → TS → TS
  | 0, T => T
  | u + 1, T => snD (moT (tiL u T) u) u
theorem va_comm {α : Type} (f : Nat → α) {i j : Nat} (x y : α) (h : i ≠ j) : va_up (va_up f i x) j y = va_up (va_up f j y) i x := by
  funext a
  by_cases e1 : a = j
  · subst e1; rw [va_up_self, va_up_ne _ _ (Ne.symm h), va_up_self]
  · rw [va_up_ne _ _ e1]
    by_cases e2 : a = i
    · subst e2; rw [va_up_self, va_up_self]
    · rw [va_up_ne _ _ e2, va_up_ne _ _ e2, va_up_ne _ _ e1]
theorem mo_sn (T : TS) {u x : Nat} (h : u ≠ x) : moT (snD T u) x = snD (moT T x) u := by
  have hX : (moT T x).k.X 1 u = T.k.X 1 u := by
    unfold moT
    split
    · show va_up (T.k.X 1) x 1 u = _; rw [va_up_ne _ _ h]
    · show va_up (T.k.X 1) x 0 u = _; rw [va_up_ne _ _ h]
  have hq : (moT T x).k.q 2 u = T.k.q 2 u := by
    unfold moT
    split
    · show va_up (T.k.q 2) x _ u = _; rw [va_up_ne _ _ h]
    · rfl
  have hv : (moT T x).v = T.v := by unfold moT; split <;> rfl
  have hs : snD (moT T x) u = if T.k.X 1 u = 1 ∨ isTn T.v (nI u) then snT (moT T x) 1 u (T.k.q 2 u) else moT T x := by
    unfold snD
    simp only [hX, hv, hq]
  rw [hs]
  unfold snD
  by_cases c : T.k.X 1 u = 1 ∨ isTn T.v (nI u)
  · rw [if_pos c, if_pos c]
    have hsT : ∀ S : TS, snT S 1 u (T.k.q 2 u) = if S.v 31 = 60 then ⟨S.v, S.A, kSn S.k⟩ else ⟨upd S.v 31 (S.v 31 + 1), va_up (va_up (va_up S.A 32 (upd (S.A 32) (ix (S.v 31)) (nI 1))) 33 (upd (S.A 33) (ix (S.v 31)) (nI u))) 34 (upd (S.A 34) (ix (S.v 31)) (nI (T.k.q 2 u))), kSn S.k⟩ := fun S => by
      unfold snT sndV sndA
      split <;> rfl
    rw [hsT, hsT, hv]
    by_cases d : T.k.q 2 x < T.k.q 3 x
    · have m1 : moT T x = ⟨T.v, va_up (va_up T.A 18 (fin18 (T.v 30) (T.k.N 4) (T.k.X 0 x) (T.k.q 2 x) (T.A 28 x) (T.A 18))) 23 (upd (T.A 23) x (nI (T.k.q 2 x + 1))), (KS.mk (T.k.N) (va_up T.k.q 2 (va_up (T.k.q 2) x (T.k.q 2 x + 1))) (T.k.ce) (T.k.tm) (va_up T.k.X 1 (va_up (T.k.X 1) x 1)))⟩ := if_pos d
      rw [m1]
      split
      · show (if T.k.q 2 x < T.k.q 3 x then _ else _) = _
        rw [if_pos d]
        rfl
      · show (if T.k.q 2 x < T.k.q 3 x then _ else _) = _
        rw [if_pos d]
        refine Prod.ext rfl (Prod.ext ?_ rfl)
        show va_up (va_up (va_up (va_up (va_up T.A 32 _) 33 _) 34 _) 18 _) 23 _ = va_up (va_up (va_up (va_up (va_up T.A 18 _) 23 _) 32 _) 33 _) 34 _
        rw [va_comm (va_up T.A 18 _) _ _ (show (23 : Nat) ≠ 32 by decide), va_comm (va_up (va_up T.A 18 _) 32 _) _ _ (show (23 : Nat) ≠ 33 by decide), va_comm (va_up (va_up (va_up T.A 18 _) 32 _) 33 _) _ _ (show (23 : Nat) ≠ 34 by decide), va_comm T.A _ _ (show (18 : Nat) ≠ 32 by decide), va_comm (va_up T.A 32 _) _ _ (show (18 : Nat) ≠ 33 by decide), va_comm (va_up (va_up T.A 32 _) 33 _) _ _ (show (18 : Nat) ≠ 34 by decide)]
        rfl
    · have m1 : moT T x = ⟨T.v, T.A, (KS.mk (T.k.N) (T.k.q) (T.k.ce) (T.k.tm) (va_up T.k.X 1 (va_up (T.k.X 1) x 0)))⟩ := if_neg d
      rw [m1]
      split
      · show (if T.k.q 2 x < T.k.q 3 x then _ else _) = _
        rw [if_neg d]
        rfl
      · show (if T.k.q 2 x < T.k.q 3 x then _ else _) = _
        rw [if_neg d]
        rfl
  · rw [if_neg c, if_neg c]
theorem snL_mo {x : Nat} : ∀ n T, n ≤ x → moT (snL n T) x = snL n (moT T x) := by
  intro n
  induction n with
  | zero => intro T _; rfl
  | succ n ih =>
    intro T h
    rw [snL, snL, mo_sn _ (by omega), ih T (by omega)]
theorem tiL_eq : ∀ n T, tiL n T = snL n (moL n T) := by
  intro n
  induction n with
  | zero => intro T; rfl
  | succ n ih =>
    intro T
    rw [tiL, ih, snL_mo n _ (Nat.le_refl _), snL, moL]
/-! the phases of a tick, reference's and class's -/
section PH
variable {v : Nat → Int32} {A : Nat → Nat → Int32} {T : TS}
theorem JI.x1 {k : KS} (h : JI v A k) (g : Nat → Int32) : JI v A (KS.mk (k.N) (k.q) (k.ce) (k.tm) (va_up k.X 1 g)) := ⟨h.n0, h.n1, h.n2, h.n3, h.n4, h.n5, h.n6, h.op, h.kd, h.pk, h.pj, h.st, h.tk, h.cn, h.att, h.mv, h.gt, h.lt, h.t1, h.t2, h.la⟩
theorem JI.mo (h : JI v A T.k) (hq : eqC v A T.v T.A) {u : Nat} (hu : u < T.k.N 0) : (T.k.q 2 u < T.k.q 3 u → JI v (goA v A u) (moT T u).k ∧ eqC v (goA v A u) (moT T u).v (moT T u).A) ∧ (¬ T.k.q 2 u < T.k.q 3 u → JI v A (moT T u).k ∧ eqC v A (moT T u).v (moT T u).A) := by
  have hc := h.cn u hu
  constructor
  · intro c
    have m1 : moT T u = ⟨T.v, va_up (va_up T.A 18 (fin18 (T.v 30) (T.k.N 4) (T.k.X 0 u) (T.k.q 2 u) (T.A 28 u) (T.A 18))) 23 (upd (T.A 23) u (nI (T.k.q 2 u + 1))), (KS.mk (T.k.N) (va_up T.k.q 2 (va_up (T.k.q 2) u (T.k.q 2 u + 1))) (T.k.ce) (T.k.tm) (va_up T.k.X 1 (va_up (T.k.X 1) u 1)))⟩ := if_pos c
    rw [m1]
    refine ⟨(h.go1 hu c).x1 _, ?_⟩
    rw [h.goAx hu (by omega)]
    refine eqC.updA (eqC.updA (hq.upA 22 rfl) 18 ?_) 23 ?_
    · rw [hq.2 18 rfl, hq.2 28 rfl, hq.1 30 rfl]
    · rw [hq.2 23 rfl]
  · intro c
    have m1 : moT T u = ⟨T.v, T.A, (KS.mk (T.k.N) (T.k.q) (T.k.ce) (T.k.tm) (va_up T.k.X 1 (va_up (T.k.X 1) u 0)))⟩ := if_neg c
    rw [m1]
    exact ⟨h.x1 _, hq⟩
theorem JI.sD (h : JI v A T.k) (hq : eqC v A T.v T.A) {u : Nat} (hu : u < T.k.N 0) : (T.k.X 1 u = 1 ∨ isTn v (nI u) → JI (sndV v) (sndA v A (nI 1) (nI u) (A 23 u)) (snD T u).k ∧ eqC (sndV v) (sndA v A (nI 1) (nI u) (A 23 u)) (snD T u).v (snD T u).A) ∧ (¬ (T.k.X 1 u = 1 ∨ isTn v (nI u)) → JI v A (snD T u).k ∧ eqC v A (snD T u).v (snD T u).A) := by
  have hc := h.cn u hu
  have e30 : isTn v (nI u) ↔ isTn T.v (nI u) := by show rm8 (v 30) = _ ↔ rm8 (T.v 30) = _; rw [hq.1 30 rfl]
  rw [e30, hc.1.2.1]
  constructor
  · intro c
    have m1 : snD T u = snT T 1 u (T.k.q 2 u) := if_pos c
    rw [m1]
    exact ⟨h.snd (ki := 1) hu (Or.inr ⟨rfl, Nat.le_refl _⟩), hq.snd _ _ _⟩
  · intro c
    have m1 : snD T u = T := if_neg c
    rw [m1]
    exact ⟨h, hq⟩
theorem JI.gC (h : JI v A T.k) (hq : eqC v A T.v T.A) {u : Nat} (hu : u < T.k.N 0) : JI (grT v A u (T.k.N 4)).1 (grT v A u (T.k.N 4)).2 (grC T u).k ∧ eqC (grT v A u (T.k.N 4)).1 (grT v A u (T.k.N 4)).2 (grC T u).v (grC T u).A := by
  obtain ⟨h1, h2⟩ := JI.grCx (T := ⟨v, A, T.k⟩) h hu
  rw [h1]
  have e30 : isTn v (nI u) ↔ isTn T.v (nI u) := by show rm8 (v 30) = _ ↔ rm8 (T.v 30) = _; rw [hq.1 30 rfl]
  have hE : eqC (grE1 ⟨v, A, T.k⟩ u).v (grE1 ⟨v, A, T.k⟩ u).A (grE1 T u).v (grE1 T u).A := eqC.updA (hq.updV 29 rfl) 26 (by show upd (A 26) u _ = upd (T.A 26) u _; rw [hq.2 26 rfl])
  have hk : (grE1 ⟨v, A, T.k⟩ u).k = (grE1 T u).k := rfl
  by_cases c : T.k.q 5 u < (grE1 T u).k.q 5 u ∨ isTn T.v (nI u)
  · have m1 : grC T u = snT (grE1 T u) 0 u ((grE1 T u).k.q 5 u) := if_pos c
    have c' : T.k.q 5 u < (grE1 ⟨v, A, T.k⟩ u).k.q 5 u ∨ isTn v (nI u) := by rw [hk, e30]; exact c
    have m2 : grC ⟨v, A, T.k⟩ u = snT (grE1 ⟨v, A, T.k⟩ u) 0 u ((grE1 T u).k.q 5 u) := if_pos c'
    rw [m2] at h2 ⊢
    rw [m1]
    exact ⟨h2, hE.snd _ _ _⟩
  · have m1 : grC T u = grE1 T u := if_neg c
    have c' : ¬ (T.k.q 5 u < (grE1 ⟨v, A, T.k⟩ u).k.q 5 u ∨ isTn v (nI u)) := by rw [hk, e30]; exact c
    have m2 : grC ⟨v, A, T.k⟩ u = grE1 ⟨v, A, T.k⟩ u := if_neg c'
    rw [m2] at h2 ⊢
    rw [m1]
    exact ⟨h2, hE⟩
end PH
noncomputable def grL2 : Nat → TS → TS
  | 0, T => T
  | u + 1, T => grC (grL2 u T) u
/-- how many moved -/
def moN (T : TS) : Nat → Nat
  | 0 => 0
  | u + 1 => moN T u + (if T.k.q 2 u < T.k.q 3 u then 1 else 0)
abbrev rm4 (x : Int32) : Int32 := x - x / 4 * 4
noncomputable def tkPl (T : TS) : TS := @ite _ (rm4 (T.v 30) = 0) (Classical.propDecidable _) (plL (T.k.N 2 - T.k.N 4) T) T
noncomputable def tkT (T : TS) : TS :=
  let T1 := snL (T.k.N 0) (moL (T.k.N 0) T)
  let T2 := tkPl T1
  let T3 := grL2 (T.k.N 0) T2
  ⟨upd T3.v 30 (T3.v 30 + 1), T3.A, T3.k⟩
theorem moT_k (T : TS) (u : Nat) : (moT T u).k.N = T.k.N ∧ (moT T u).k.q 3 = T.k.q 3 ∧ (∀ x, x ≠ u → (moT T u).k.q 2 x = T.k.q 2 x) ∧ (moT T u).v = T.v ∧ (moT T u).k.X 0 = T.k.X 0 := by
  unfold moT
  split
  · exact ⟨rfl, rfl, fun x hx => va_up_ne _ _ hx, rfl, rfl⟩
  · exact ⟨rfl, rfl, fun _ _ => rfl, rfl, rfl⟩
theorem snD_k (T : TS) (u : Nat) : (∀ j, j ≠ 1 → (snD T u).k.N j = T.k.N j) ∧ (snD T u).k.q = T.k.q ∧ (snD T u).k.X = T.k.X ∧ (snD T u).v 30 = T.v 30 := by
  unfold snD
  split
  · refine ⟨fun j hj => va_up_ne _ _ hj, rfl, rfl, ?_⟩
    show sndV T.v 30 = _
    unfold sndV
    split
    · rfl
    · exact upd_ne _ _ (by decide)
  · exact ⟨fun _ _ => rfl, rfl, rfl, rfl⟩
theorem moL_k (T : TS) : ∀ u, (moL u T).k.N = T.k.N ∧ (moL u T).k.q 3 = T.k.q 3 ∧ (∀ x, u ≤ x → (moL u T).k.q 2 x = T.k.q 2 x) ∧ (moL u T).v = T.v := by
  intro u
  induction u with
  | zero => exact ⟨rfl, rfl, fun _ _ => rfl, rfl⟩
  | succ u ih =>
    obtain ⟨h1, h2, h3, h4⟩ := ih
    obtain ⟨g1, g2, g3, g4, -⟩ := moT_k (moL u T) u
    exact ⟨g1.trans h1, g2.trans h2, fun x hx => (g3 x (by omega)).trans (h3 x (by omega)), g4.trans h4⟩
theorem tiL_k (T : TS) : ∀ u, (∀ j, j ≠ 1 → (tiL u T).k.N j = T.k.N j) ∧ (tiL u T).k.q 3 = T.k.q 3 ∧ (∀ x, u ≤ x → (tiL u T).k.q 2 x = T.k.q 2 x) ∧ (tiL u T).v 30 = T.v 30 := by
  intro u
  induction u with
  | zero => exact ⟨fun _ _ => rfl, rfl, fun _ _ => rfl, rfl⟩
  | succ u ih =>
    obtain ⟨h1, h2, h3, h4⟩ := ih
    obtain ⟨g1, g2, g3, g4, -⟩ := moT_k (tiL u T) u
    obtain ⟨s1, s2, s3, s4⟩ := snD_k (moT (tiL u T) u) u
    refine ⟨fun j hj => ((s1 j hj).trans (congrFun g1 j)).trans (h1 j hj), ?_, fun x hx => ?_, (s4.trans (congrFun g4 30)).trans h4⟩
    · show (snD (moT (tiL u T) u) u).k.q 3 = _
      rw [s2, g2, h2]
    · show (snD (moT (tiL u T) u) u).k.q 2 x = _
      rw [s2, g3 x (by omega), h3 x (by omega)]
theorem grC_k (T : TS) (u : Nat) : (∀ j, j ≠ 1 → j ≠ 6 → (grC T u).k.N j = T.k.N j) ∧ (grC T u).v 30 = T.v 30 := by
  have hg : ∀ n k, ∀ j, j ≠ 6 → (grK u n k).N j = k.N j := by
    intro n
    induction n with
    | zero => intro k j _; rfl
    | succ n ih =>
      intro k j hj
      by_cases q : freeK k u (k.q 5 u)
      · rw [grK_t q, ih _ j hj]; exact va_up_ne _ _ hj
      · rw [grK_f q]
  have h1 : ∀ j, j ≠ 6 → (grE1 T u).k.N j = T.k.N j := fun j hj => hg _ _ j hj
  have h2 : (grE1 T u).v 30 = T.v 30 := by show upd T.v 29 (nI ((grK u (T.k.q 1 u - T.k.q 5 u) T.k).N 6)) 30 = T.v 30; exact upd_ne _ _ (by decide)
  unfold grC
  split
  · refine ⟨fun j hj hj6 => ?_, ?_⟩
    · show va_up _ 1 _ j = _; rw [va_up_ne _ _ hj]; exact h1 j hj6
    · show sndV _ 30 = _
      unfold sndV
      split
      · exact h2
      · rw [upd_ne _ _ (by decide)]; exact h2
  · exact ⟨fun j _ hj => h1 j hj, h2⟩
theorem grL2_k (T : TS) : ∀ u, (∀ j, j ≠ 1 → j ≠ 6 → (grL2 u T).k.N j = T.k.N j) ∧ (grL2 u T).v 30 = T.v 30 := by
  intro u
  induction u with
  | zero => exact ⟨fun _ _ _ => rfl, rfl⟩
  | succ u ih =>
    obtain ⟨g1, g2⟩ := grC_k (grL2 u T) u
    exact ⟨fun j h1 h2 => (g1 j h1 h2).trans (ih.1 j h1 h2), g2.trans ih.2⟩
theorem plN_k {T T' : TS} (h : plN T T') : T'.k.N 0 = T.k.N 0 ∧ T'.k.N 2 = T.k.N 2 ∧ T'.k.N 4 = T.k.N 4 + 1 ∧ T'.v 30 = T.v 30 := by
  obtain ⟨-, w, e, -, -, rfl⟩ := h
  exact ⟨rfl, rfl, rfl, rfl⟩
/-- how many plans a tick makes -/
theorem plL_k : ∀ n T, (plL n T).k.N 0 = T.k.N 0 ∧ (plL n T).k.N 2 = T.k.N 2 ∧ (plL n T).v 30 = T.v 30 ∧ T.k.N 4 ≤ (plL n T).k.N 4 := by
  intro n
  induction n with
  | zero => intro T; exact ⟨rfl, rfl, rfl, Nat.le_refl _⟩
  | succ n ih =>
    intro T
    by_cases c : ∃ T', plN T T'
    · obtain ⟨T', hT⟩ := c
      rw [plL_s hT]
      obtain ⟨a1, a2, a3, a4⟩ := ih T'
      obtain ⟨b1, b2, b3, b4⟩ := plN_k hT
      exact ⟨a1.trans b1, a2.trans b2, a3.trans b4, by omega⟩
    · rw [plL_e (fun T' z => c ⟨T', z⟩)]
      exact ⟨rfl, rfl, rfl, Nat.le_refl _⟩
theorem tkPl_k (T : TS) : (tkPl T).k.N 0 = T.k.N 0 ∧ (tkPl T).v 30 = T.v 30 ∧ T.k.N 4 ≤ (tkPl T).k.N 4 := by
  unfold tkPl
  split
  · obtain ⟨a1, a2, a3, a4⟩ := plL_k (T.k.N 2 - T.k.N 4) T
    exact ⟨a1, a3, a4⟩
  · exact ⟨rfl, rfl, Nat.le_refl _⟩
/-- the map is opened -/
theorem cn_lt {K : Nat → Int32} {k : Int32} {d : Nat} (hd : K d = k) : ∀ n, d < n → cn K k d < cn K k n := by
  intro n
  induction n with
  | zero => intro h; omega
  | succ n ih =>
    intro h
    rw [cn]
    by_cases e : d = n
    · subst e; rw [if_pos hd]; omega
    · have := ih (by omega); omega
theorem cn_ex {K : Nat → Int32} {k : Int32} : ∀ n j, j < cn K k n → ∃ d, d < n ∧ K d = k ∧ cn K k d = j := by
  intro n
  induction n with
  | zero => intro j h; rw [cn] at h; omega
  | succ n ih =>
    intro j h
    rw [cn] at h
    by_cases e : K n = k
    · rw [if_pos e] at h
      by_cases q : j = cn K k n
      · exact ⟨n, by omega, e, q.symm⟩
      · obtain ⟨d, h1, h2, h3⟩ := ih j (by omega)
        exact ⟨d, by omega, h2, h3⟩
    · rw [if_neg e] at h
      obtain ⟨d, h1, h2, h3⟩ := ih j (by omega)
      exact ⟨d, by omega, h2, h3⟩
theorem cn_inj {K : Nat → Int32} {k : Int32} {d e : Nat} (hd : K d = k) (he : K e = k) (h : cn K k d = cn K k e) : d = e := by
  rcases Nat.lt_trichotomy d e with z | z | z
  · have := cn_lt hd e z; omega
  · exact z
  · have := cn_lt he d z; omega
abbrev opI (K : Nat → Int32) (v0 : Nat → Int32) (A0 : Nat → Nat → Int32) (c : Nat) (v : Nat → Int32) (A : Nat → Nat → Int32) : Prop := (v 3 = nI (cn K 2 c)) ∧ (v 4 = nI (cn K 3 c)) ∧ (∀ j, j ≠ 3 → j ≠ 4 → v j = v0 j) ∧ (∀ j, j ≠ 5 → j ≠ 6 → j ≠ 22 → j ≠ 28 → A j = A0 j) ∧ (∀ d, d < c → K d = 2 → A 5 (cn K 2 d) = nI d) ∧ (∀ d, d < c → K d = 3 → A 6 (cn K 3 d) = nI d ∧ A 22 (cn K 3 d) = nI d ∧ A 28 (cn K 3 d) = -1)
theorem opI.v3 {K : Nat → Int32} {v0 : Nat → Int32} {A0 : Nat → Nat → Int32} {c : Nat} {v : Nat → Int32} {A : Nat → Nat → Int32} (h : opI K v0 A0 c v A) : v 3 = nI (cn K 2 c) := h.1
theorem opI.v4 {K : Nat → Int32} {v0 : Nat → Int32} {A0 : Nat → Nat → Int32} {c : Nat} {v : Nat → Int32} {A : Nat → Nat → Int32} (h : opI K v0 A0 c v A) : v 4 = nI (cn K 3 c) := h.2.1
theorem opI.vo {K : Nat → Int32} {v0 : Nat → Int32} {A0 : Nat → Nat → Int32} {c : Nat} {v : Nat → Int32} {A : Nat → Nat → Int32} (h : opI K v0 A0 c v A) : ∀ j, j ≠ 3 → j ≠ 4 → v j = v0 j := h.2.2.1
theorem opI.ao {K : Nat → Int32} {v0 : Nat → Int32} {A0 : Nat → Nat → Int32} {c : Nat} {v : Nat → Int32} {A : Nat → Nat → Int32} (h : opI K v0 A0 c v A) : ∀ j, j ≠ 5 → j ≠ 6 → j ≠ 22 → j ≠ 28 → A j = A0 j := h.2.2.2.1
theorem opI.a5 {K : Nat → Int32} {v0 : Nat → Int32} {A0 : Nat → Nat → Int32} {c : Nat} {v : Nat → Int32} {A : Nat → Nat → Int32} (h : opI K v0 A0 c v A) : ∀ d, d < c → K d = 2 → A 5 (cn K 2 d) = nI d := h.2.2.2.2.1
theorem opI.a6 {K : Nat → Int32} {v0 : Nat → Int32} {A0 : Nat → Nat → Int32} {c : Nat} {v : Nat → Int32} {A : Nat → Nat → Int32} (h : opI K v0 A0 c v A) : ∀ d, d < c → K d = 3 → A 6 (cn K 3 d) = nI d ∧ A 22 (cn K 3 d) = nI d ∧ A 28 (cn K 3 d) = -1 := h.2.2.2.2.2
theorem opI_s {K v0 : Nat → Int32} {A0 : Nat → Nat → Int32} {c : Nat} {v : Nat → Int32} {A : Nat → Nat → Int32} (h : opI K v0 A0 c v A) (hc : c < 96) (h2 : A0 2 = K) : opI K v0 A0 (c + 1) (op3 v A c).1 (op3 v A c).2 := by
  have hle : ∀ k, cn K k c ≤ c := fun k => by
    have : ∀ n, cn K k n ≤ n := fun n => by
      induction n with
      | zero => rw [cn]; exact Nat.le_refl _
      | succ n ih => rw [cn]; split <;> omega
    exact this c
  have e2 : A 2 c = K c := by rw [h.ao 2 (by decide) (by decide) (by decide) (by decide), h2]
  by_cases q2 : K c = 2
  · have e : op3 v A c = (upd v 3 (v 3 + 1), va_up A 5 (upd (A 5) (ix (v 3)) (nI c))) := by
      unfold op3 op1
      rw [if_pos (e2.trans q2)]
      unfold op2
      rw [if_neg]
      show ¬ A 2 c = 3
      rw [e2, q2]; decide
    rw [e]
    dsimp only
    have hix : ix (v 3) = cn K 2 c := by rw [h.v3]; exact nI_clamp (by have := hle 2; omega)
    have c3 : cn K 3 (c + 1) = cn K 3 c := by rw [cn, if_neg (by rw [q2]; decide)]; rfl
    have c2 : cn K 2 (c + 1) = cn K 2 c + 1 := by rw [cn, if_pos q2]
    refine ⟨?_, ?_, fun j h3 h4 => by rw [upd_ne _ _ h3]; exact h.vo j h3 h4, fun j a b c d => by rw [va_up_ne _ _ a]; exact h.ao j a b c d, fun d hd hk => ?_, fun d hd hk => ?_⟩
    · rw [upd_self, h.v3, c2, show (1 : Int32) = nI 1 from rfl, nI_add]
    · rw [upd_ne _ _ (by decide), h.v4, c3]
    · show va_up A 5 _ 5 _ = _
      rw [va_up_self, hix]
      by_cases z : d = c
      · subst z; rw [upd_self]
      · rw [upd_ne _ _ (fun y => z (cn_inj hk q2 y))]
        exact h.a5 d (by omega) hk
    · have z : d ≠ c := fun z => by rw [z, q2] at hk; exact absurd hk (by decide)
      show va_up A 5 _ 6 _ = _ ∧ va_up A 5 _ 22 _ = _ ∧ va_up A 5 _ 28 _ = _
      rw [va_up_ne _ _ (by decide), va_up_ne _ _ (by decide), va_up_ne _ _ (by decide)]
      exact h.a6 d (by omega) hk
  · by_cases q3 : K c = 3
    · have e : op3 v A c = (upd v 4 (v 4 + 1), va_up (va_up (va_up A 6 (upd (A 6) (ix (v 4)) (nI c))) 22 (upd (A 22) (ix (v 4)) (nI c))) 28 (upd (A 28) (ix (v 4)) (-1))) := by
        unfold op3 op1
        rw [if_neg (by rw [e2]; exact q2)]
        unfold op2
        rw [if_pos (e2.trans q3)]
      rw [e]
      dsimp only
      have hix : ix (v 4) = cn K 3 c := by rw [h.v4]; exact nI_clamp (by have := hle 3; omega)
      have c2 : cn K 2 (c + 1) = cn K 2 c := by rw [cn, if_neg q2]; rfl
      have c3 : cn K 3 (c + 1) = cn K 3 c + 1 := by rw [cn, if_pos q3]
      refine ⟨?_, ?_, fun j h3 h4 => by rw [upd_ne _ _ h4]; exact h.vo j h3 h4, fun j a b c d => by rw [va_up_ne _ _ d, va_up_ne _ _ c, va_up_ne _ _ b]; exact h.ao j a b c d, fun d hd hk => ?_, fun d hd hk => ?_⟩
      · rw [upd_ne _ _ (by decide), h.v3, c2]
      · rw [upd_self, h.v4, c3, show (1 : Int32) = nI 1 from rfl, nI_add]
      · have z : d ≠ c := fun z => q2 (z ▸ hk)
        rw [va_up_ne _ _ (by decide), va_up_ne _ _ (by decide), va_up_ne _ _ (by decide)]
        exact h.a5 d (by omega) hk
      · show upd (A 6) (ix (v 4)) (nI c) (cn K 3 d) = _ ∧ upd (A 22) (ix (v 4)) (nI c) (cn K 3 d) = _ ∧ upd (A 28) (ix (v 4)) (-1) (cn K 3 d) = _
        rw [hix]
        by_cases z : d = c
        · subst z; rw [upd_self, upd_self, upd_self]; exact ⟨rfl, rfl, rfl⟩
        · have y : cn K 3 d ≠ cn K 3 c := fun y => z (cn_inj hk q3 y)
          rw [upd_ne _ _ y, upd_ne _ _ y, upd_ne _ _ y]
          exact h.a6 d (by omega) hk
    · have e : op3 v A c = (v, A) := by
        unfold op3 op1
        rw [if_neg (by rw [e2]; exact q2)]
        unfold op2
        rw [if_neg (show ¬ A 2 c = 3 by rw [e2]; exact q3)]
      rw [e]
      have c2 : cn K 2 (c + 1) = cn K 2 c := by rw [cn, if_neg q2]; rfl
      have c3 : cn K 3 (c + 1) = cn K 3 c := by rw [cn, if_neg q3]; rfl
      refine ⟨by rw [c2]; exact h.v3, by rw [c3]; exact h.v4, h.vo, h.ao, fun d hd hk => ?_, fun d hd hk => ?_⟩
      · exact h.a5 d (by by_cases z : d = c; · exact absurd (z ▸ hk) q2
                         · omega) hk
      · exact h.a6 d (by by_cases z : d = c; · exact absurd (z ▸ hk) q3
                         · omega) hk
theorem opL_I {K v0 : Nat → Int32} {A0 : Nat → Nat → Int32} (h2 : A0 2 = K) : ∀ n c v A, c + n = 96 → opI K v0 A0 c v A → opI K v0 A0 96 (opL n c v A).1 (opL n c v A).2 := by
  intro n
  induction n with
  | zero => intro c v A hc h; rw [opL]; rw [show (96 : Nat) = c by omega]; exact h
  | succ n ih =>
    intro c v A hc h
    rw [opL]
    exact ih (c + 1) _ _ (by omega) (opI_s h (by omega) h2)
def kOp (k : KS) (K : Nat → Int32) (a6 : Nat → Int32) : KS := KS.mk (va_up (va_up k.N 0 (cn K 3 96)) 3 (cn K 2 96)) (fun j u => if j = 0 then ix (a6 u) else 0) (fun _ _ => 0) (fun _ _ => 0) (fun j _ => if j = 0 then -1 else 0)
theorem opn_JI {v : Nat → Int32} {A : Nat → Nat → Int32} {k : KS} (h : JI v A k) (hv : v 1 = 0) (hg : good (A 2)) (hcn : cn (A 2) 3 96 ≤ 6) (g pl : Nat → Int32) : JI (opR v A g pl).1 (opR v A g pl).2 (kOp k (A 2) ((opR v A g pl).2 6)) ∧ opI (A 2) (upd (upd v 0 0) 1 1) (va_up (va_up A 7 g) 8 pl) 96 (opR v A g pl).1 (opR v A g pl).2 := by
  rcases h.op with ⟨z1, z2, z3, z4, z5⟩ | ⟨z1, -⟩
  rotate_left
  · rw [hv] at z1; exact absurd z1 (by decide)
  have hI : opI (A 2) (upd (upd v 0 0) 1 1) (va_up (va_up A 7 g) 8 pl) 96 (opR v A g pl).1 (opR v A g pl).2 := by
    unfold opR
    refine opL_I (by rw [va_up_ne _ _ (by decide), va_up_ne _ _ (by decide)]) 96 0 _ _ rfl ⟨?_, ?_, fun _ _ _ => rfl, fun _ _ _ _ _ => rfl, fun d hd => absurd hd (by omega), fun d hd => absurd hd (by omega)⟩
    · show v 3 = _; rw [h.n3.1, z4]; rfl
    · show v 4 = _; rw [h.n0.1, z2]; rfl
  refine ⟨?_, hI⟩
  generalize opR v A g pl = Q at hI ⊢
  have hvo : ∀ j, j ≠ 0 → j ≠ 1 → j ≠ 3 → j ≠ 4 → Q.1 j = v j := fun j a b c d => by rw [hI.vo j c d, upd_ne _ _ b, upd_ne _ _ a]
  have hao : ∀ j, j ≠ 5 → j ≠ 6 → j ≠ 7 → j ≠ 8 → j ≠ 22 → j ≠ 28 → Q.2 j = A j := fun j a b c d e f => by rw [hI.ao j a b e f, va_up_ne _ _ d, va_up_ne _ _ c]
  have hle : cn (A 2) 2 96 ≤ 96 := by
    have : ∀ n, cn (A 2) 2 n ≤ n := fun n => by
      induction n with
      | zero => rw [cn]; exact Nat.le_refl _
      | succ n ih => rw [cn]; split <;> omega
    exact this 96
  have e4 : k.N 4 = 0 := by have := h.n4.2; omega
  have e5 : k.N 5 = 0 := by have := h.n5.2; omega
  have e1 : k.N 1 = 0 := by
    by_cases c : k.N 1 = 0
    · exact c
    · obtain ⟨w, n, -, y, -⟩ := h.lt 0 (by omega); omega
  have a2 : Q.2 2 = A 2 := hao 2 (by decide) (by decide) (by decide) (by decide) (by decide) (by decide)
  have key : ∀ u, u < cn (A 2) 3 96 → ∃ d, d < 96 ∧ A 2 d = 3 ∧ Q.2 6 u = nI d ∧ Q.2 22 u = nI d ∧ Q.2 28 u = -1 ∧ cn (A 2) 3 d = u ∧ ix (Q.2 6 u) = d := fun u hu => by
    obtain ⟨d, h1, h3, h4⟩ := cn_ex 96 u hu
    have := hI.a6 d h1 h3
    rw [h4] at this
    exact ⟨d, h1, h3, this.1, this.2.1, this.2.2, h4, by rw [this.1]; exact nI_clamp (by omega)⟩
  apply JI.mk
  case n0 => exact ⟨hI.v4, hcn⟩
  case n1 => rw [hvo 31 (by decide) (by decide) (by decide) (by decide)]; exact h.n1
  case n2 => rw [hvo 9 (by decide) (by decide) (by decide) (by decide)]; exact h.n2
  case n3 => exact ⟨hI.v3, hle⟩
  case n4 => rw [hvo 10 (by decide) (by decide) (by decide) (by decide)]; exact h.n4
  case n5 => rw [hvo 19 (by decide) (by decide) (by decide) (by decide)]; exact h.n5
  case n6 => rw [hvo 29 (by decide) (by decide) (by decide) (by decide)]; exact h.n6
  case op => rw [a2, hI.vo 1 (by decide) (by decide), upd_self]; exact Or.inr ⟨rfl, hg⟩
  case kd => rw [a2]; exact h.kd
  case pk =>
    intro u hu
    obtain ⟨d, h1, h2, h3, h4, h5, h6, h7⟩ := key u hu
    show Q.2 6 u = nI (ix (Q.2 6 u)) ∧ ix (Q.2 6 u) < 96 ∧ Q.2 2 (ix (Q.2 6 u)) = 3
    rw [h7, a2]
    exact ⟨h3, h1, h2⟩
  case pj =>
    intro u w hu hw hq
    obtain ⟨d, h1, h2, h3, h4, h5, h6, h7⟩ := key u hu
    obtain ⟨d', g1, g2, g3, g4, g5, g6, g7⟩ := key w hw
    replace hq : ix (Q.2 6 u) = ix (Q.2 6 w) := hq
    rw [h7, g7] at hq
    rw [← h6, ← g6, hq]
  case st =>
    intro j hj
    obtain ⟨d, h1, h3, h4⟩ := cn_ex 96 j hj
    have := hI.a5 d h1 h3
    rw [h4] at this
    exact ⟨d, h1, this, by rw [a2]; exact h3⟩
  case tk =>
    intro t ht
    replace ht : t < k.N 2 := ht
    omega
  case cn =>
    intro u hu
    have hu' : u < cn (A 2) 3 96 := hu
    have := z5 u (by omega)
    rw [hao 23 (by decide) (by decide) (by decide) (by decide) (by decide) (by decide), hao 24 (by decide) (by decide) (by decide) (by decide) (by decide) (by decide), hao 25 (by decide) (by decide) (by decide) (by decide) (by decide) (by decide), hao 26 (by decide) (by decide) (by decide) (by decide) (by decide) (by decide), hao 27 (by decide) (by decide) (by decide) (by decide) (by decide) (by decide)]
    exact ⟨⟨this.2.2.2.2, this.1, this.2.1, this.2.2.1, this.2.2.2.1⟩, Nat.le_refl _, Nat.le_refl _, Nat.le_refl _, Nat.le_refl _, Nat.zero_le _⟩
  case att =>
    intro u hu
    obtain ⟨d, h1, h2, h3, h4, h5, h6, h7⟩ := key u hu
    show Q.2 22 u = nI (cel (ix (Q.2 6 u)) _ 0)
    rw [h4, h7]; rfl
  case mv =>
    intro u hu
    exact ⟨fun i hi => absurd hi (Nat.not_lt_zero _), fun i j _ hj => absurd hj (Nat.not_lt_zero _), rfl⟩
  case gt => intro u hu i hi; exact absurd hi (Nat.not_lt_zero _)
  case lt =>
    intro j hj
    replace hj : j < k.N 1 := hj
    omega
  case t1 =>
    intro t ht
    replace ht : t < k.N 4 := ht
    omega
  case t2 => intro u hu i hi; exact absurd hi (Nat.not_lt_zero _)
  case la =>
    intro u hu
    obtain ⟨d, h1, h2, h3, h4, h5, h6, h7⟩ := key u hu
    exact Or.inl ⟨h5, rfl⟩
def kIni : KS := ⟨fun _ => 0, fun _ _ => 0, fun _ _ => 0, fun _ _ => 0, fun _ _ => 0⟩
theorem ini_JI : JI (fun _ => 0) (fun _ _ => 0) kIni := by
  apply JI.mk
  case n0 => exact ⟨rfl, by decide⟩
  case n1 => exact ⟨rfl, by decide⟩
  case n2 => exact ⟨rfl, by decide⟩
  case n3 => exact ⟨rfl, by decide⟩
  case n4 => exact ⟨rfl, by decide⟩
  case n5 => exact ⟨rfl, by decide⟩
  case n6 => exact ⟨rfl, by decide⟩
  case op => exact Or.inl ⟨rfl, rfl, rfl, rfl, fun _ _ => ⟨rfl, rfl, rfl, rfl, rfl⟩⟩
  case kd => exact fun _ _ => Or.inl rfl
  case pj => intro u w hu; exact absurd hu (Nat.not_lt_zero _)
  all_goals intro u hu; exact absurd hu (Nat.not_lt_zero _)
