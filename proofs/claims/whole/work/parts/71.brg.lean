/-! the reference's search and the class's: the same marks, the same way -/
def RRa (gf : Nat → Nat → Nat → Option Nat) (D : Nat → Nat → Nat) (home : Nat) : Nat → Nat → Nat → Prop
  | 0, g, c => g = 0 ∧ c = home
  | r + 1, g2, d => ∃ g c w, g < 3 ∧ c < 96 ∧ w < 5 ∧ RRa gf D home r g c ∧ gf c w (r + 1) = some d ∧ g2 = D d g
def NNa (gf : Nat → Nat → Nat → Option Nat) (D : Nat → Nat → Nat) (home e : Nat) : Nat → Nat → Nat → Prop
  | 0, g, c => g = 2 ∧ c = home
  | k + 1, g, c => RRa gf D home (e - (k + 1)) g c ∧ ∃ w d, w < 5 ∧ gf c w (e - k) = some d ∧ NNa gf D home e k (D d g) d
def dlg (fs sn d g : Nat) : Nat := if (if g = 0 ∧ d = fs then 1 else g) = 1 ∧ d = sn then 2 else (if g = 0 ∧ d = fs then 1 else g)
theorem dlg_0 {fs sn d : Nat} : dlg fs sn d 0 = if d = fs then (if d = sn then 2 else 1) else 0 := by
  unfold dlg
  by_cases h1 : d = fs
  · simp [h1]
  · simp [h1]
theorem dlg_1 {fs sn d : Nat} : dlg fs sn d 1 = if d = sn then 2 else 1 := by
  unfold dlg
  by_cases h2 : d = sn <;> simp [h2]
theorem dlg_2 {fs sn d : Nat} : dlg fs sn d 2 = 2 := by
  unfold dlg
  simp
theorem dlg_lt {fs sn d g : Nat} (h : g < 3) : dlg fs sn d g < 3 := by
  rcases (show g = 0 ∨ g = 1 ∨ g = 2 by omega) with rfl | rfl | rfl
  · rw [dlg_0]; split; split <;> decide; decide
  · rw [dlg_1]; split <;> decide
  · rw [dlg_2]; decide
theorem dlg_idem {fs sn d g : Nat} (hg : g < 3) : dlg fs sn d (dlg fs sn d g) = dlg fs sn d g := by
  rcases (show g = 0 ∨ g = 1 ∨ g = 2 by omega) with rfl | rfl | rfl
  · rw [dlg_0]
    by_cases h1 : d = fs
    · rw [if_pos h1]
      by_cases h2 : d = sn
      · rw [if_pos h2, dlg_2]
      · rw [if_neg h2, dlg_1, if_neg h2]
    · rw [if_neg h1, dlg_0, if_neg h1]
  · rw [dlg_1]
    by_cases h2 : d = sn
    · rw [if_pos h2, dlg_2]
    · rw [if_neg h2, dlg_1, if_neg h2]
  · rw [dlg_2, dlg_2]
def gfO (E B : Nat → Nat → Bool) (gf : Nat → Nat → Nat → Option Nat) : Prop := ∀ c w r d, c < 96 → 1 ≤ r → r ≤ 150 → w < 5 → (gf c w r = some d ↔ nbq c w = some d ∧ (if w < 4 then E r d = true else B r d = true))
theorem stp_gf {E B : Nat → Nat → Bool} {gf : Nat → Nat → Nat → Option Nat} (h : gfO E B gf) {X : Nat → Bool} {r d : Nat} (hr : 1 ≤ r) (hr2 : r ≤ 150) (hd : d < 96) : stp X (E r) (B r) d = true ↔ ∃ c w, c < 96 ∧ w < 5 ∧ X c = true ∧ gf c w r = some d := by
  unfold stp
  rw [Bool.or_eq_true, Bool.and_eq_true, Bool.and_eq_true, nbS_iff hd]
  constructor
  · rintro (⟨⟨c, w, hc, hw, hX, hn⟩, hE⟩ | ⟨hX, hB⟩)
    · exact ⟨c, w, hc, by omega, hX, (h c w r d hc hr hr2 (by omega)).mpr ⟨hn, by rw [if_pos hw]; exact hE⟩⟩
    · exact ⟨d, 4, hd, by omega, hX, (h d 4 r d hd hr hr2 (by omega)).mpr ⟨nbq_4 d, by rw [if_neg (by decide)]; exact hB⟩⟩
  · rintro ⟨c, w, hc, hw, hX, hg⟩
    obtain ⟨hn, hq⟩ := (h c w r d hc hr hr2 hw).mp hg
    by_cases e : w < 4
    · rw [if_pos e] at hq
      exact Or.inl ⟨⟨c, w, hc, e, hX, hn⟩, hq⟩
    · rw [if_neg e] at hq
      have : w = 4 := by omega
      subst this
      rw [nbq_4] at hn
      cases hn
      exact Or.inr ⟨hX, hq⟩
theorem chg_D {fs sn : Nat} {Y : Nat → Nat → Bool} {g k : Nat} (hg : g < 3) : chg fs sn Y g k = true ↔ ∃ g0, g0 < 3 ∧ Y g0 k = true ∧ g = dlg fs sn k g0 := by
  have key : (∃ g0, g0 < 3 ∧ Y g0 k = true ∧ g = dlg fs sn k g0) ↔ ((Y 0 k = true ∧ g = dlg fs sn k 0) ∨ (Y 1 k = true ∧ g = dlg fs sn k 1) ∨ (Y 2 k = true ∧ g = dlg fs sn k 2)) := by
    constructor
    · rintro ⟨g0, h0, h1, h2⟩
      rcases (show g0 = 0 ∨ g0 = 1 ∨ g0 = 2 by omega) with rfl | rfl | rfl
      · exact Or.inl ⟨h1, h2⟩
      · exact Or.inr (Or.inl ⟨h1, h2⟩)
      · exact Or.inr (Or.inr ⟨h1, h2⟩)
    · rintro (⟨h1, h2⟩ | ⟨h1, h2⟩ | ⟨h1, h2⟩)
      · exact ⟨0, by decide, h1, h2⟩
      · exact ⟨1, by decide, h1, h2⟩
      · exact ⟨2, by decide, h1, h2⟩
  rw [key, dlg_0, dlg_1, dlg_2]
  unfold chg
  by_cases h1 : k = fs <;> by_cases h2 : k = sn
  · subst h1; subst h2
    rcases (show g = 0 ∨ g = 1 ∨ g = 2 by omega) with rfl | rfl | rfl <;> simp <;> (try grind)
  · subst h1
    rcases (show g = 0 ∨ g = 1 ∨ g = 2 by omega) with rfl | rfl | rfl <;> simp [h2] <;> (try grind)
  · subst h2
    rcases (show g = 0 ∨ g = 1 ∨ g = 2 by omega) with rfl | rfl | rfl <;> simp [h1] <;> (try grind)
  · rcases (show g = 0 ∨ g = 1 ∨ g = 2 by omega) with rfl | rfl | rfl <;> simp [h1, h2]
theorem FW_RR {E B : Nat → Nat → Bool} {gf : Nat → Nat → Nat → Option Nat} (h : gfO E B gf) {fs sn home : Nat} : ∀ r g d, r ≤ 150 → g < 3 → d < 96 → (FW E B fs sn home r g d = true ↔ RRa gf (dlg fs sn) home r g d) := by
  intro r
  induction r with
  | zero => intro g d _ _ _; rw [FW, RRa]; simp
  | succ r ih =>
    intro g d hr hg hd
    rw [FW, RRa, chg_D hg]
    constructor
    · rintro ⟨g0, h0, h1, h2⟩
      obtain ⟨c, w, hc, hw, hX, hf⟩ := (stp_gf h (by omega) hr hd).mp h1
      exact ⟨g0, c, w, h0, hc, hw, (ih g0 c (by omega) h0 hc).mp hX, hf, h2⟩
    · rintro ⟨g0, c, w, h0, hc, hw, hX, hf, h2⟩
      exact ⟨g0, h0, (stp_gf h (by omega) hr hd).mpr ⟨c, w, hc, hw, (ih g0 c (by omega) h0 hc).mpr hX, hf⟩, h2⟩
/-- who can stay where it came to can also come there -/
def ocO (E B : Nat → Nat → Bool) (home : Nat) : Prop := (∀ r d, 1 ≤ r → r + 1 ≤ 150 → d < 96 → E r d = true → B (r + 1) d = true → E (r + 1) d = true) ∧ (B 1 home = true → E 1 home = true)
theorem FW_E {E B : Nat → Nat → Bool} {home : Nat} (ho : ocO E B home) {fs sn : Nat} : ∀ r g d, r + 1 ≤ 150 → g < 3 → d < 96 → FW E B fs sn home (r + 1) g d = true → E (r + 1) d = true := by
  intro r
  induction r with
  | zero =>
    intro g d hr hg hd h
    rw [FW, chg_D hg] at h
    obtain ⟨g0, h0, h1, -⟩ := h
    unfold stp at h1
    rw [Bool.or_eq_true, Bool.and_eq_true, Bool.and_eq_true] at h1
    rcases h1 with ⟨-, h1⟩ | ⟨h1, h2⟩
    · exact h1
    · rw [FW] at h1
      simp at h1
      rw [h1.2] at h2 ⊢
      exact ho.2 h2
  | succ r ih =>
    intro g d hr hg hd h
    rw [FW, chg_D hg] at h
    obtain ⟨g0, h0, h1, -⟩ := h
    unfold stp at h1
    rw [Bool.or_eq_true, Bool.and_eq_true, Bool.and_eq_true] at h1
    rcases h1 with ⟨-, h1⟩ | ⟨h1, h2⟩
    · exact h1
    · exact ho.1 (r + 1) d (by omega) hr hd (ih g0 d (by omega) h0 hd h1) h2
/-- a leg's marks are never at its goal -/
theorem FW_no {E B : Nat → Nat → Bool} {home fs sn : Nat} (hf : home ≠ fs) (r : Nat) : FW E B fs sn home r 0 fs = false ∧ FW E B fs sn home r 1 sn = false := by
  cases r with
  | zero => rw [FW, FW]; simp [Ne.symm hf]
  | succ r => rw [FW, FW]; unfold chg; simp
theorem aim_D {fs sn : Nat} {Z : Nat → Nat → Bool} (h0 : Z 0 fs = false) (h1 : Z 1 sn = false) {g k : Nat} (hg : g < 3) : aimS fs sn Z g k = Z (dlg fs sn k g) k := by
  unfold aimS
  rcases (show g = 0 ∨ g = 1 ∨ g = 2 by omega) with rfl | rfl | rfl
  · rw [dlg_0]
    by_cases e1 : k = fs <;> by_cases e2 : k = sn
    · subst e1; subst e2; simp [h0, h1]
    · subst e1; simp [h0, e2]
    · subst e2; simp [e1]
    · simp [e1]
  · rw [dlg_1]
    by_cases e2 : k = sn
    · subst e2; simp [h1]
    · simp [e2]
  · rw [dlg_2]; simp
def opw (w : Nat) : Nat := if w = 0 then 2 else if w = 1 then 3 else if w = 2 then 0 else 1
theorem nbq_symA : ∀ c : Fin 96, ∀ w : Fin 4, ∀ d, nbq c.val w.val = some d → nbq d (opw w.val) = some c.val := by
  intro ⟨c, hc⟩ ⟨w, hw⟩ d h
  simp only at h ⊢
  unfold nbq at h
  unfold nbq opw
  rcases (show w = 0 ∨ w = 1 ∨ w = 2 ∨ w = 3 by omega) with rfl | rfl | rfl | rfl
  · simp at h ⊢
    omega
  · simp at h ⊢
    omega
  · simp at h ⊢
    omega
  · simp at h ⊢
    omega
theorem nbq_sym {c w d : Nat} (hc : c < 96) (hw : w < 4) (h : nbq c w = some d) : nbq d (opw w) = some c := nbq_symA ⟨c, hc⟩ ⟨w, hw⟩ d h
theorem opw_lt (w : Nat) : opw w < 4 := by unfold opw; split; decide; split; decide; split; decide; decide
theorem nbq_ne {c w d : Nat} (hw : w < 4) (h : nbq c w = some d) : d ≠ c := by
  unfold nbq at h
  rcases (show w = 0 ∨ w = 1 ∨ w = 2 ∨ w = 3 by omega) with rfl | rfl | rfl | rfl <;> simp at h <;> omega
theorem PR_NN {E B : Nat → Nat → Bool} {gf : Nat → Nat → Nat → Option Nat} (h : gfO E B gf) {fs sn home e : Nat} (hf : home ≠ fs) (ho : ocO E B home) (hEB : ∀ r d, 1 ≤ r → r ≤ 150 → d < 96 → E r d = true → B r d = true) (he : e ≤ 150) (hend : FW E B fs sn home e 2 home = true) : ∀ j g k, j ≤ e → g < 3 → k < 96 → (PR (FW E B fs sn home) fs sn home e j g k = true ↔ NNa gf (dlg fs sn) home e j g k) := by
  have hsub : ∀ j g k, PR (FW E B fs sn home) fs sn home e j g k = true → FW E B fs sn home (e - j) g k = true := by
    intro j g k hj
    cases j with
    | zero =>
      rw [PR] at hj
      simp at hj
      rw [hj.1, hj.2]; exact hend
    | succ j => rw [PR, Bool.and_eq_true] at hj; exact hj.1
  have hno : ∀ j, PR (FW E B fs sn home) fs sn home e j 0 fs = false ∧ PR (FW E B fs sn home) fs sn home e j 1 sn = false := by
    intro j
    constructor
    · cases q : PR (FW E B fs sn home) fs sn home e j 0 fs with
      | false => rfl
      | true => exact absurd (hsub j _ _ q) (by rw [(FW_no hf _).1]; decide)
    · cases q : PR (FW E B fs sn home) fs sn home e j 1 sn with
      | false => rfl
      | true => exact absurd (hsub j _ _ q) (by rw [(FW_no hf _).2]; decide)
  intro j
  induction j with
  | zero => intro g k _ _ _; rw [PR, NNa]; simp
  | succ j ih =>
    intro g k hj hg hk
    have hok : ∀ d, d < 96 → PR (FW E B fs sn home) fs sn home e j (dlg fs sn d g) d = true → E (e - j) d = true := fun d hd hP => by
      have := hsub j _ _ hP
      obtain ⟨m, hm⟩ : ∃ m, e - j = m + 1 := ⟨e - j - 1, by omega⟩
      rw [hm] at this ⊢
      exact FW_E ho m _ d (by omega) (dlg_lt hg) hd this
    rw [PR, NNa, Bool.and_eq_true, Bool.or_eq_true, FW_RR h _ _ _ (by omega) hg hk, nbS_iff hk]
    constructor
    · rintro ⟨h1, h2 | h2⟩
      · refine ⟨h1, ?_⟩
        obtain ⟨c, w, hc, hw, ha, hn⟩ := h2
        rw [aim_D (hno j).1 (hno j).2 hg] at ha
        exact ⟨opw w, c, by have := opw_lt w; omega, (h k (opw w) (e - j) c hk (by omega) (by omega) (by have := opw_lt w; omega)).mpr ⟨nbq_sym hc hw hn, by rw [if_pos (opw_lt w)]; exact hok c hc ha⟩, (ih _ c (by omega) (dlg_lt hg) hc).mp ha⟩
      · refine ⟨h1, ?_⟩
        rw [aim_D (hno j).1 (hno j).2 hg] at h2
        exact ⟨4, k, by decide, (h k 4 (e - j) k hk (by omega) (by omega) (by decide)).mpr ⟨nbq_4 k, by rw [if_neg (by decide)]; exact hEB _ _ (by omega) (by omega) hk (hok k hk h2)⟩, (ih _ k (by omega) (dlg_lt hg) hk).mp h2⟩
    · rintro ⟨h1, w, d, hw, hgd, hN⟩
      refine ⟨h1, ?_⟩
      obtain ⟨hn, -⟩ := (h k w (e - j) d hk (by omega) (by omega) hw).mp hgd
      have hd := nbq_lt hk hw hn
      have hP := (ih _ d (by omega) (dlg_lt hg) hd).mpr hN
      by_cases q : w < 4
      · exact Or.inl ⟨d, opw w, hd, opw_lt w, by rw [aim_D (hno j).1 (hno j).2 hg]; exact hP, nbq_sym hk q hn⟩
      · have : w = 4 := by omega
        subst this
        rw [nbq_4] at hn
        cases hn
        exact Or.inr (by rw [aim_D (hno j).1 (hno j).2 hg]; exact hP)
abbrev PG (E B : Nat → Nat → Bool) (gf : Nat → Nat → Nat → Option Nat) (fs sn home e : Nat) : Prop := (gfO E B gf) ∧ (ocO E B home) ∧ (∀ r d, 1 ≤ r → r ≤ 150 → d < 96 → E r d = true → B r d = true) ∧ (home ≠ fs) ∧ (e ≤ 150) ∧ (FW E B fs sn home e 2 home = true) ∧ (home < 96)
theorem PG.gf {E B : Nat → Nat → Bool} {gf : Nat → Nat → Nat → Option Nat} {fs sn home e : Nat} (h : PG E B gf fs sn home e) : gfO E B gf := h.1
theorem PG.oc {E B : Nat → Nat → Bool} {gf : Nat → Nat → Nat → Option Nat} {fs sn home e : Nat} (h : PG E B gf fs sn home e) : ocO E B home := h.2.1
theorem PG.eb {E B : Nat → Nat → Bool} {gf : Nat → Nat → Nat → Option Nat} {fs sn home e : Nat} (h : PG E B gf fs sn home e) : ∀ r d, 1 ≤ r → r ≤ 150 → d < 96 → E r d = true → B r d = true := h.2.2.1
theorem PG.hf {E B : Nat → Nat → Bool} {gf : Nat → Nat → Nat → Option Nat} {fs sn home e : Nat} (h : PG E B gf fs sn home e) : home ≠ fs := h.2.2.2.1
theorem PG.he {E B : Nat → Nat → Bool} {gf : Nat → Nat → Nat → Option Nat} {fs sn home e : Nat} (h : PG E B gf fs sn home e) : e ≤ 150 := h.2.2.2.2.1
theorem PG.hend {E B : Nat → Nat → Bool} {gf : Nat → Nat → Nat → Option Nat} {fs sn home e : Nat} (h : PG E B gf fs sn home e) : FW E B fs sn home e 2 home = true := h.2.2.2.2.2.1
theorem PG.hh {E B : Nat → Nat → Bool} {gf : Nat → Nat → Nat → Option Nat} {fs sn home e : Nat} (h : PG E B gf fs sn home e) : home < 96 := h.2.2.2.2.2.2
abbrev prX (E B : Nat → Nat → Bool) (fs sn home e : Nat) : Nat → Nat → Nat → Bool := fun t g k => PR (FW E B fs sn home) fs sn home e (e - t) g k
abbrev okNa (gf : Nat → Nat → Nat → Option Nat) (D : Nat → Nat → Nat) (home e r g c w : Nat) : Prop := ∃ d, gf c w (r + 1) = some d ∧ NNa gf D home e (e - (r + 1)) (D d g) d
noncomputable abbrev wyNa (gf : Nat → Nat → Nat → Option Nat) (D : Nat → Nat → Nat) (home e : Nat) : Nat → Nat → Nat → Option Nat := fun r g c => lwF (okNa gf D home e r g c) 5 0
theorem NNa_start {gf : Nat → Nat → Nat → Option Nat} {D : Nat → Nat → Nat} {home e : Nat} (h : RRa gf D home e 2 home) : NNa gf D home e e 0 home := by
  have key : ∀ j, j ≤ e → ∃ g c, RRa gf D home (e - j) g c ∧ NNa gf D home e j g c := by
    intro j
    induction j with
    | zero => intro _; exact ⟨2, home, h, by rw [NNa]; exact ⟨rfl, rfl⟩⟩
    | succ j ih =>
      intro hj
      obtain ⟨g, c, h1, h2⟩ := ih (by omega)
      obtain ⟨m, hm⟩ : ∃ m, e - j = m + 1 := ⟨e - j - 1, by omega⟩
      rw [hm, RRa] at h1
      obtain ⟨g0, c0, w, hg0, hc0, hw, hR, hgf, rfl⟩ := h1
      have hm2 : e - (j + 1) = m := by omega
      refine ⟨g0, c0, by rw [hm2]; exact hR, ?_⟩
      rw [NNa, hm2, hm]
      exact ⟨hR, w, c, hw, hgf, h2⟩
  obtain ⟨g, c, h1, h2⟩ := key e (Nat.le_refl _)
  rw [Nat.sub_self, RRa] at h1
  rw [h1.1, h1.2] at h2
  exact h2
section PGS
variable {E B : Nat → Nat → Bool} {gf : Nat → Nat → Nat → Option Nat} {fs sn home e : Nat}
theorem PG.ok (h : PG E B gf fs sn home e) {r g c w : Nat} (hr : r < e) (hg : g < 3) (hc : c < 96) (hw : w < 5) : okNa gf (dlg fs sn) home e r g c w ↔ ∃ z, nbq c w = some z ∧ prX E B fs sn home e (r + 1) (dlg fs sn z g) z = true := by
  have he := h.he
  have hsub : ∀ g k, g < 3 → k < 96 → prX E B fs sn home e (r + 1) g k = true → E (r + 1) k = true := by
    intro g k hg hk hP
    apply FW_E h.oc r g k (by omega) hg hk
    show FW E B fs sn home (r + 1) g k = true
    unfold prX at hP
    by_cases q : r + 1 = e
    · rw [show e - (r + 1) = 0 by omega, PR] at hP
      simp at hP
      rw [hP.1, hP.2, q]; exact h.hend
    · obtain ⟨m, hm⟩ : ∃ m, e - (r + 1) = m + 1 := ⟨e - (r + 1) - 1, by omega⟩
      rw [hm, PR, Bool.and_eq_true] at hP
      have := hP.1
      rw [show e - (m + 1) = r + 1 by omega] at this
      exact this
  constructor
  · rintro ⟨d, h1, h2⟩
    obtain ⟨hn, -⟩ := (h.gf c w (r + 1) d hc (by omega) (by omega) hw).mp h1
    have hd := nbq_lt hc hw hn
    exact ⟨d, hn, (PR_NN h.gf h.hf h.oc h.eb h.he h.hend _ _ _ (by omega) (dlg_lt hg) hd).mpr h2⟩
  · rintro ⟨z, hn, hP⟩
    have hd := nbq_lt hc hw hn
    have hE := hsub _ z (dlg_lt hg) hd hP
    refine ⟨z, (h.gf c w (r + 1) z hc (by omega) (by omega) hw).mpr ⟨hn, ?_⟩, (PR_NN h.gf h.hf h.oc h.eb h.he h.hend _ _ _ (by omega) (dlg_lt hg) hd).mp hP⟩
    split
    · exact hE
    · exact h.eb _ _ (by omega) (by omega) hd hE
theorem PG.look (h : PG E B gf fs sn home e) {r g c : Nat} (hr : r < e) (hg : g < 3) (hc : c < 96) : ∀ n w, n + w = 4 → (∃ w1, w ≤ w1 ∧ w1 < 5 ∧ okNa gf (dlg fs sn) home e r g c w1) →
    ∃ w1, lwF (okNa gf (dlg fs sn) home e r g c) (n + 1) w = some w1 ∧ w1 < 5 ∧ nbq c w1 = some (lst (prX E B fs sn home e (r + 1)) (dlg fs sn) c g n w) ∧ (w1 = 4 ↔ lst (prX E B fs sn home e (r + 1)) (dlg fs sn) c g n w = c) ∧ NNa gf (dlg fs sn) home e (e - (r + 1)) (dlg fs sn (lst (prX E B fs sn home e (r + 1)) (dlg fs sn) c g n w) g) (lst (prX E B fs sn home e (r + 1)) (dlg fs sn) c g n w) := by
  intro n
  induction n with
  | zero =>
    rintro w hw ⟨w1, h1, h2, h3⟩
    have e1 : w1 = 4 := by omega
    have e2 : w = 4 := by omega
    subst e1; subst e2
    have hl : lst (prX E B fs sn home e (r + 1)) (dlg fs sn) c g 0 4 = c := rfl
    rw [hl]
    refine ⟨4, lwF_t h3, by decide, nbq_4 c, ⟨fun _ => rfl, fun _ => rfl⟩, ?_⟩
    obtain ⟨d, h4, h5⟩ := h3
    obtain ⟨hn, -⟩ := (h.gf c 4 (r + 1) d hc (by omega) (by have := h.he; omega) (by decide)).mp h4
    rw [nbq_4] at hn
    cases hn
    exact h5
  | succ n ih =>
    rintro w hw ⟨w1, h1, h2, h3⟩
    by_cases q : okNa gf (dlg fs sn) home e r g c w
    · obtain ⟨z, hn, hP⟩ := (h.ok hr hg hc (by omega)).mp q
      rw [lst_some hn hP]
      refine ⟨w, lwF_t q, by omega, hn, ⟨fun z => by omega, fun z => absurd z (nbq_ne (by omega) hn)⟩, ?_⟩
      obtain ⟨d, h4, h5⟩ := q
      obtain ⟨hn2, -⟩ := (h.gf c w (r + 1) d hc (by omega) (by have := h.he; omega) (by omega)).mp h4
      rw [hn] at hn2
      cases hn2
      exact h5
    · have hl : lst (prX E B fs sn home e (r + 1)) (dlg fs sn) c g (n + 1) w = lst (prX E B fs sn home e (r + 1)) (dlg fs sn) c g n (w + 1) := by
        cases k : nbq c w with
        | none => exact lst_none k
        | some z => exact lst_no k (fun hP => q ((h.ok hr hg hc (by omega)).mpr ⟨z, k, hP⟩))
      rw [hl, lwF_f q]
      refine ih (w + 1) (by omega) ⟨w1, ?_, h2, h3⟩
      by_cases k : w1 = w
      · rw [k] at h3; exact absurd h3 q
      · omega
abbrev wyA (E B : Nat → Nat → Bool) (fs sn home e : Nat) : Nat → Nat := fun r => (wf (prX E B fs sn home e) (dlg fs sn) home r).1
abbrev lgA (E B : Nat → Nat → Bool) (fs sn home e : Nat) : Nat → Nat := fun r => (wf (prX E B fs sn home e) (dlg fs sn) home r).2
theorem PG.step (h : PG E B gf fs sn home e) {r g c : Nat} (hr : r < e) (hg : g < 3) (hc : c < 96) (hN : NNa gf (dlg fs sn) home e (e - r) g c) :
    ∃ w1, wyNa gf (dlg fs sn) home e r g c = some w1 ∧ w1 < 5 ∧ nbq c w1 = some (lst (prX E B fs sn home e (r + 1)) (dlg fs sn) c g 4 0) ∧ (w1 = 4 ↔ lst (prX E B fs sn home e (r + 1)) (dlg fs sn) c g 4 0 = c) ∧ NNa gf (dlg fs sn) home e (e - (r + 1)) (dlg fs sn (lst (prX E B fs sn home e (r + 1)) (dlg fs sn) c g 4 0) g) (lst (prX E B fs sn home e (r + 1)) (dlg fs sn) c g 4 0) := by
  refine h.look hr hg hc 4 0 rfl ?_
  obtain ⟨m, hm⟩ : ∃ m, e - r = m + 1 := ⟨e - r - 1, by omega⟩
  rw [hm, NNa] at hN
  obtain ⟨-, w, d, hw, h1, h2⟩ := hN
  rw [show e - m = r + 1 by omega] at h1
  exact ⟨w, Nat.zero_le _, hw, d, h1, by rw [show e - (r + 1) = m by omega]; exact h2⟩
theorem PG.path (h : PG E B gf fs sn home e) : ∀ r, r ≤ e → wyA E B fs sn home e r < 96 ∧ lgA E B fs sn home e r < 3 ∧ NNa gf (dlg fs sn) home e (e - r) (lgA E B fs sn home e r) (wyA E B fs sn home e r) := by
  intro r
  induction r with
  | zero => exact fun _ => ⟨h.hh, (show (0 : Nat) < 3 by decide), NNa_start ((FW_RR h.gf _ _ _ h.he (by decide) h.hh).mp h.hend)⟩
  | succ r ih =>
    intro hr
    obtain ⟨h1, h2, h3⟩ := ih (by omega)
    obtain ⟨w1, k1, k2, k3, k4, k5⟩ := h.step (by omega) h2 h1 h3
    exact ⟨nbq_lt h1 k2 k3, dlg_lt h2, k5⟩
theorem PG.last (h : PG E B gf fs sn home e) : wyA E B fs sn home e e = home ∧ lgA E B fs sn home e e = 2 := by
  have := (h.path e (Nat.le_refl _)).2.2
  rw [Nat.sub_self, NNa] at this
  exact ⟨this.2, this.1⟩
/-- the step that a row of the way makes, as the reference makes it -/
theorem PG.tk (h : PG E B gf fs sn home e) {r : Nat} (hr : r < e) : (nbq (wyA E B fs sn home e r) ((wyNa gf (dlg fs sn) home e r (lgA E B fs sn home e r) (wyA E B fs sn home e r)).getD 4)).getD (wyA E B fs sn home e r) = wyA E B fs sn home e (r + 1) ∧ ((wyNa gf (dlg fs sn) home e r (lgA E B fs sn home e r) (wyA E B fs sn home e r)).getD 4 = 4 ↔ wyA E B fs sn home e (r + 1) = wyA E B fs sn home e r) ∧ lgA E B fs sn home e (r + 1) = dlg fs sn (wyA E B fs sn home e (r + 1)) (lgA E B fs sn home e r) := by
  obtain ⟨h1, h2, h3⟩ := h.path r (by omega)
  obtain ⟨w1, k1, k2, k3, k4, k5⟩ := h.step hr h2 h1 h3
  rw [k1, Option.getD_some, k3]
  exact ⟨rfl, k4, rfl⟩
/-- a leg is changed by a move alone -/
theorem PG.mv (h : PG E B gf fs sn home e) {r : Nat} (hr : r < e) (hl : lgA E B fs sn home e (r + 1) ≠ lgA E B fs sn home e r) : wyA E B fs sn home e (r + 1) ≠ wyA E B fs sn home e r := by
  intro q
  apply hl
  rw [(h.tk hr).2.2, q]
  cases r with
  | zero => show dlg fs sn home 0 = 0; rw [dlg_0, if_neg h.hf]
  | succ r =>
    rw [(h.tk (show r < e by omega)).2.2]
    exact dlg_idem (h.path r (by omega)).2.1
theorem PG.two (h : PG E B gf fs sn home e) {r : Nat} : ∀ n, r + n ≤ e → lgA E B fs sn home e r = 2 → lgA E B fs sn home e (r + n) = 2 := by
  intro n
  induction n with
  | zero => exact fun _ z => z
  | succ n ih =>
    intro hn z
    rw [show r + (n + 1) = (r + n) + 1 by omega, (h.tk (show r + n < e by omega)).2.2, ih (by omega) z, dlg_2]
theorem PG.tkLx (h : PG E B gf fs sn home e) {t : Nat} (I : Nat → (Nat → Int32) → (Nat → Nat → Int32) → Prop) (hs : ∀ r v A, r < e → I r v A → (wyA E B fs sn home e (r + 1) = wyA E B fs sn home e r → I (r + 1) v A) ∧ (wyA E B fs sn home e (r + 1) ≠ wyA E B fs sn home e r → I (r + 1) (upd v 19 (v 19 + 1)) (tkA v A t r (wyA E B fs sn home e (r + 1)) (lgA E B fs sn home e r) (lgA E B fs sn home e (r + 1))))) : ∀ n r v A, r + n = e → I r v A → I e (tkL (wyNa gf (dlg fs sn) home e) (dlg fs sn) t n r (lgA E B fs sn home e r) (wyA E B fs sn home e r) v A).1 (tkL (wyNa gf (dlg fs sn) home e) (dlg fs sn) t n r (lgA E B fs sn home e r) (wyA E B fs sn home e r) v A).2 := by
  intro n
  induction n with
  | zero => intro r v A hr hI; rw [tkL]; rw [show e = r by omega]; exact hI
  | succ n ih =>
    intro r v A hr hI
    obtain ⟨k1, k2, k3⟩ := h.tk (show r < e by omega)
    rw [tkL]
    rw [k1, ← k3]
    by_cases q : (wyNa gf (dlg fs sn) home e r (lgA E B fs sn home e r) (wyA E B fs sn home e r)).getD 4 = 4
    · rw [if_pos q]
      exact ih (r + 1) v A (by omega) ((hs r v A (by omega) hI).1 (k2.mp q))
    · rw [if_neg q]
      exact ih (r + 1) _ _ (by omega) ((hs r v A (by omega) hI).2 (fun z => q (k2.mpr z)))
end PGS
/-- what the reference's rows hold behind r times of the way -/
abbrev tkI (v0 : Nat → Int32) (A0 : Nat → Nat → Int32) (wy lg : Nat → Nat) (t ro cl n0 : Nat) (r : Nat) (v : Nat → Int32) (A : Nat → Nat → Int32) : Prop := (v 19 = nI (ro + apn wy r)) ∧ (∀ j, j ≠ 19 → v j = v0 j) ∧ (∀ j, j ≠ 17 → j ≠ 20 → j ≠ 21 → A j = A0 j) ∧ (∀ i, i < ro → A 20 i = A0 20 i ∧ A 21 i = A0 21 i) ∧ (∀ s, 1 ≤ s → s ≤ r → wy s ≠ wy (s - 1) → A 20 (ro + apn wy (s - 1)) = nI (wy s) ∧ A 21 (ro + apn wy (s - 1)) = nI (cl + s)) ∧ (∀ i, i ≠ t → A 17 i = A0 17 i) ∧ (∀ s, 1 ≤ s → s ≤ r → lg s = 2 → lg (s - 1) ≠ 2 → A 17 t = nI (n0 + apn wy (s - 1)))
theorem tkI.v19 {v0 : Nat → Int32} {A0 : Nat → Nat → Int32} {wy lg : Nat → Nat} {t ro cl n0 : Nat} {r : Nat} {v : Nat → Int32} {A : Nat → Nat → Int32} (h : tkI v0 A0 wy lg t ro cl n0 r v A) : v 19 = nI (ro + apn wy r) := h.1
theorem tkI.vo {v0 : Nat → Int32} {A0 : Nat → Nat → Int32} {wy lg : Nat → Nat} {t ro cl n0 : Nat} {r : Nat} {v : Nat → Int32} {A : Nat → Nat → Int32} (h : tkI v0 A0 wy lg t ro cl n0 r v A) : ∀ j, j ≠ 19 → v j = v0 j := h.2.1
theorem tkI.ao {v0 : Nat → Int32} {A0 : Nat → Nat → Int32} {wy lg : Nat → Nat} {t ro cl n0 : Nat} {r : Nat} {v : Nat → Int32} {A : Nat → Nat → Int32} (h : tkI v0 A0 wy lg t ro cl n0 r v A) : ∀ j, j ≠ 17 → j ≠ 20 → j ≠ 21 → A j = A0 j := h.2.2.1
theorem tkI.old {v0 : Nat → Int32} {A0 : Nat → Nat → Int32} {wy lg : Nat → Nat} {t ro cl n0 : Nat} {r : Nat} {v : Nat → Int32} {A : Nat → Nat → Int32} (h : tkI v0 A0 wy lg t ro cl n0 r v A) : ∀ i, i < ro → A 20 i = A0 20 i ∧ A 21 i = A0 21 i := h.2.2.2.1
theorem tkI.nw {v0 : Nat → Int32} {A0 : Nat → Nat → Int32} {wy lg : Nat → Nat} {t ro cl n0 : Nat} {r : Nat} {v : Nat → Int32} {A : Nat → Nat → Int32} (h : tkI v0 A0 wy lg t ro cl n0 r v A) : ∀ s, 1 ≤ s → s ≤ r → wy s ≠ wy (s - 1) → A 20 (ro + apn wy (s - 1)) = nI (wy s) ∧ A 21 (ro + apn wy (s - 1)) = nI (cl + s) := h.2.2.2.2.1
theorem tkI.f0 {v0 : Nat → Int32} {A0 : Nat → Nat → Int32} {wy lg : Nat → Nat} {t ro cl n0 : Nat} {r : Nat} {v : Nat → Int32} {A : Nat → Nat → Int32} (h : tkI v0 A0 wy lg t ro cl n0 r v A) : ∀ i, i ≠ t → A 17 i = A0 17 i := h.2.2.2.2.2.1
theorem tkI.f1 {v0 : Nat → Int32} {A0 : Nat → Nat → Int32} {wy lg : Nat → Nat} {t ro cl n0 : Nat} {r : Nat} {v : Nat → Int32} {A : Nat → Nat → Int32} (h : tkI v0 A0 wy lg t ro cl n0 r v A) : ∀ s, 1 ≤ s → s ≤ r → lg s = 2 → lg (s - 1) ≠ 2 → A 17 t = nI (n0 + apn wy (s - 1)) := h.2.2.2.2.2.2
theorem upd_self (f : Nat → Int32) (k : Nat) (x : Int32) : upd f k x k = x := if_pos rfl
theorem upd_ne (f : Nat → Int32) {k j : Nat} (x : Int32) (h : j ≠ k) : upd f k x j = f j := if_neg h
theorem apn_mo (wy : Nat → Nat) : ∀ n s, apn wy s ≤ apn wy (s + n) := by
  intro n s
  induction n with
  | zero => exact Nat.le_refl _
  | succ n ih => rw [show s + (n + 1) = (s + n) + 1 by omega, apn]; omega
theorem apn_lt {wy : Nat → Nat} {s r : Nat} (h1 : 1 ≤ s) (h2 : s ≤ r) (h : wy s ≠ wy (s - 1)) : apn wy (s - 1) < apn wy r := by
  have := apn_mo wy (r - s) s
  rw [show s + (r - s) = r by omega] at this
  obtain ⟨m, rfl⟩ : ∃ m, s = m + 1 := ⟨s - 1, by omega⟩
  have h3 : apn wy (m + 1) = apn wy m + 1 := by rw [apn, if_neg (show ¬ wy (m + 1) = wy m from h)]
  simp only [Nat.add_sub_cancel]
  omega
theorem tkI_stay {v0 : Nat → Int32} {A0 : Nat → Nat → Int32} {wy lg : Nat → Nat} {t ro cl n0 r : Nat} {v : Nat → Int32} {A : Nat → Nat → Int32} (h : tkI v0 A0 wy lg t ro cl n0 r v A) (hw : wy (r + 1) = wy r) (hl : lg (r + 1) = lg r) : tkI v0 A0 wy lg t ro cl n0 (r + 1) v A := by
  have ha : apn wy (r + 1) = apn wy r := by rw [apn, if_pos hw]; rfl
  refine ⟨by rw [ha]; exact h.v19, h.vo, h.ao, h.old, fun s h1 h2 h3 => ?_, h.f0, fun s h1 h2 h3 h4 => ?_⟩
  · by_cases e : s = r + 1
    · subst e; exact absurd hw h3
    · exact h.nw s h1 (by omega) h3
  · by_cases e : s = r + 1
    · subst e; exact absurd (hl.symm.trans h3) h4
    · exact h.f1 s h1 (by omega) h3 h4
theorem tkI_go {v0 : Nat → Int32} {A0 : Nat → Nat → Int32} {wy lg : Nat → Nat} {t ro cl n0 r : Nat} {v : Nat → Int32} {A : Nat → Nat → Int32} (h : tkI v0 A0 wy lg t ro cl n0 r v A) (hw : wy (r + 1) ≠ wy r) (hl3 : lg r < 3) (h2 : ∀ s, s ≤ r → lg s = 2 → lg r = 2) (h29 : v0 29 = nI cl) (h16 : A0 16 t = nI n0) (h14 : A0 14 t = nI ro) (hb : ro + r < 100000) : tkI v0 A0 wy lg t ro cl n0 (r + 1) (upd v 19 (v 19 + 1)) (tkA v A t r (wy (r + 1)) (lg r) (lg (r + 1))) := by
  have ha : apn wy (r + 1) = apn wy r + 1 := by rw [apn, if_neg hw]
  have hle := apn_le wy r
  have hix : ix (v 19) = ro + apn wy r := by rw [h.v19]; exact nI_clamp (by omega)
  have h17 : A 16 t + v 19 - A 14 t = nI (n0 + apn wy r) := by
    rw [h.ao 16 (by decide) (by decide) (by decide), h.ao 14 (by decide) (by decide) (by decide), h16, h14, h.v19, nI_add, pk_sub (by omega)]
    congr 1; omega
  have e20 : ∀ i, tkA v A t r (wy (r + 1)) (lg r) (lg (r + 1)) 20 i = if i = ro + apn wy r then nI (wy (r + 1)) else A 20 i := by
    intro i
    unfold tkA
    rw [va_up_ne _ _ (by decide), va_up_self, hix]
    unfold upd
    split
    · rfl
    · split
      · rw [va_up_ne _ _ (by decide)]
      · rfl
  have e21 : ∀ i, tkA v A t r (wy (r + 1)) (lg r) (lg (r + 1)) 21 i = if i = ro + apn wy r then nI (cl + (r + 1)) else A 21 i := by
    intro i
    unfold tkA
    rw [va_up_self, hix, va_up_ne _ _ (by decide)]
    unfold upd
    split
    · rw [h.vo 29 (by decide), h29, nI_add, show (1 : Int32) = nI 1 from rfl, nI_add]; rfl
    · split
      · rw [va_up_ne _ _ (by decide)]
      · rfl
  have e17 : tkA v A t r (wy (r + 1)) (lg r) (lg (r + 1)) 17 = if lg r < 2 ∧ lg (r + 1) = 2 then upd (A 17) t (nI (n0 + apn wy r)) else A 17 := by
    unfold tkA
    rw [va_up_ne _ _ (by decide), va_up_ne _ _ (by decide), h17]
    split
    · rw [va_up_self]
    · rfl
  have eo : ∀ j, j ≠ 17 → j ≠ 20 → j ≠ 21 → tkA v A t r (wy (r + 1)) (lg r) (lg (r + 1)) j = A j := by
    intro j h1 h2 h3
    unfold tkA
    rw [va_up_ne _ _ h3, va_up_ne _ _ h2]
    split
    · rw [va_up_ne _ _ h1]
    · rfl
  refine ⟨by rw [upd_self, ha, h.v19, show (1 : Int32) = nI 1 from rfl, nI_add]; rfl, fun j hj => by rw [upd_ne _ _ hj]; exact h.vo j hj, fun j h1 h2 h3 => (eo j h1 h2 h3).trans (h.ao j h1 h2 h3), fun i hi => ?_, fun s h1 h3 h4 => ?_, fun i hi => ?_, fun s h1 h3 h4 h5 => ?_⟩
  · rw [e20, e21, if_neg (by omega), if_neg (by omega)]; exact h.old i hi
  · rw [e20, e21]
    by_cases e : s = r + 1
    · subst e
      exact ⟨if_pos rfl, if_pos rfl⟩
    · have := apn_lt h1 (show s ≤ r by omega) h4
      rw [if_neg (by omega), if_neg (by omega)]
      exact h.nw s h1 (by omega) h4
  · rw [e17]
    split
    · rw [upd_ne _ _ hi]; exact h.f0 i hi
    · exact h.f0 i hi
  · rw [e17]
    by_cases e : s = r + 1
    · subst e
      simp only [Nat.add_sub_cancel] at h5 ⊢
      rw [if_pos ⟨by omega, h4⟩, upd_self]
    · rw [if_neg (fun z => by have := h2 s (by omega) h4; omega)]
      exact h.f1 s h1 (by omega) h4 h5
/-! where the others are; the sets of the search in plain words -/
def cntT (tt : Nat → Nat) (b : Nat) : Nat → Nat
  | 0 => 0
  | n + 1 => cntT tt b n + (if tt n < b then 1 else 0)
theorem cntT_le (tt : Nat → Nat) (b n : Nat) : cntT tt b n ≤ n := by
  induction n with
  | zero => exact Nat.le_refl _
  | succ n ih => rw [cntT]; split <;> omega
/-- rising times: those below b come first -/
theorem cntT_lt {tt : Nat → Nat} {b : Nat} : ∀ n, inc n tt → ∀ i, i < n → (i < cntT tt b n ↔ tt i < b) := by
  intro n
  induction n with
  | zero => intro _ i hi; omega
  | succ n ih =>
    intro h i hi
    have h' : inc n tt := fun a c h1 h2 => h a c h1 (by omega)
    rw [cntT]
    have hle := cntT_le tt b n
    by_cases e : i = n
    · subst e
      by_cases q : tt i < b
      · rw [if_pos q]
        refine ⟨fun _ => q, fun _ => ?_⟩
        have : cntT tt b i = i := by
          cases i with
          | zero => exact Nat.le_zero.mp hle
          | succ m =>
            have := (ih h' m (by omega)).mpr (Nat.lt_trans (h m (m + 1) (by omega) (by omega)) q)
            omega
        omega
      · rw [if_neg q]
        exact ⟨fun z => absurd z (by omega), fun z => absurd z q⟩
    · have h1 := ih h' i (by omega)
      by_cases q : tt n < b
      · rw [if_pos q]
        have : tt i < b := Nat.lt_trans (h i n (by omega) (by omega)) q
        have := h1.mpr this
        exact ⟨fun _ => by assumption, fun _ => by omega⟩
      · rw [if_neg q]; exact h1
theorem cntT_mono {tt : Nat → Nat} {b c : Nat} (h : b ≤ c) (n : Nat) : cntT tt b n ≤ cntT tt c n := by
  induction n with
  | zero => exact Nat.le_refl _
  | succ n ih => rw [cntT, cntT]; split <;> split <;> omega
theorem cntT_tOk {tt : Nat → Nat} {n cl : Nat} (h : inc n tt) : tOk n cl tt (fun j => cntT tt (cl + j) n) := by
  intro j hj
  refine ⟨cntT_le _ _ _, fun i hi => ?_, fun hn => ?_, fun h1 => cntT_mono (by omega) n⟩
  · have := (cntT_lt n h i (by have := cntT_le tt (cl + j) n; simp only at hi; omega)).mp hi
    omega
  · have : ¬ tt (cntT tt (cl + j) n) < cl + j := fun z => Nat.lt_irrefl _ ((cntT_lt (b := cl + j) n h (cntT tt (cl + j) n) hn).mpr z)
    simp only
    omega
theorem cntT_step {tt : Nat → Nat} {n b : Nat} (h : inc n tt) : cntT tt (b + 1) n = cntT tt b n ∨ cntT tt (b + 1) n = cntT tt b n + 1 := by
  have h1 := cntT_mono (tt := tt) (Nat.le_succ b) n
  by_cases e : cntT tt (b + 1) n ≤ cntT tt b n + 1
  · simp only [Nat.succ_eq_add_one] at h1; omega
  · have hl := cntT_le tt (b + 1) n
    have a1 := (cntT_lt (b := b + 1) n h (cntT tt b n + 1) (by omega)).mp (by omega)
    have a2 := h (cntT tt b n) (cntT tt b n + 1) (by omega) (by omega)
    have a3 := (cntT_lt (b := b) n h (cntT tt b n) (by omega)).mpr (by omega)
    omega
section SETS
variable (K : Nat → Int32) (nv w cl : Nat) (pk mu : Nat → Nat) (ce tm : Nat → Nat → Nat)
abbrev nqC (cl : Nat) (mu : Nat → Nat) (tm : Nat → Nat → Nat) : Nat → Nat → Nat := fun u j => cntT (tm u) (cl + j) (mu u)
/-- where u is at the time s behind the clock -/
abbrev posC (cl : Nat) (pk mu : Nat → Nat) (ce tm : Nat → Nat → Nat) : Nat → Nat → Nat := fun u s => heX (pk u) (ce u) (nqC cl mu tm u) s
abbrev comC (K : Nat → Int32) (pw d : Nat) : Prop := K d = 1 ∨ K d = 2 ∨ d = pw
def cB (s d : Nat) : Prop := comC K (pk w) d ∧ ∀ x, x < nv → x ≠ w → ¬ (nqC cl mu tm x (s + 1) ≠ nqC cl mu tm x s ∧ d = posC cl pk mu ce tm x s) ∧ ¬ (nqC cl mu tm x (s + 2) ≠ nqC cl mu tm x (s + 1) ∧ d = posC cl pk mu ce tm x (s + 1))
def cE (s d : Nat) : Prop := cB K nv w cl pk mu ce tm s d ∧ ∀ x, x < nv → x ≠ w → ¬ d = posC cl pk mu ce tm x s ∧ ¬ d = posC cl pk mu ce tm x (s - 1)
noncomputable def eB (s d : Nat) : Bool := @decide (cE K nv w cl pk mu ce tm s d) (Classical.propDecidable _)
noncomputable def bB (s d : Nat) : Bool := @decide (cB K nv w cl pk mu ce tm s d) (Classical.propDecidable _)
end SETS
section SETS
variable {K : Nat → Int32} {nv w cl : Nat} {pk mu : Nat → Nat} {ce tm : Nat → Nat → Nat}
theorem eB_t {s d : Nat} : eB K nv w cl pk mu ce tm s d = true ↔ cE K nv w cl pk mu ce tm s d := by unfold eB; exact @decide_eq_true_iff _ (Classical.propDecidable _)
theorem bB_t {s d : Nat} : bB K nv w cl pk mu ce tm s d = true ↔ cB K nv w cl pk mu ce tm s d := by unfold bB; exact @decide_eq_true_iff _ (Classical.propDecidable _)
theorem eB_bB {s d : Nat} (h : eB K nv w cl pk mu ce tm s d = true) : bB K nv w cl pk mu ce tm s d = true := bB_t.mpr (eB_t.mp h).1
theorem ocC (h0 : ∀ x, x < nv → x ≠ w → ¬ pk w = posC cl pk mu ce tm x 0) : ocO (eB K nv w cl pk mu ce tm) (bB K nv w cl pk mu ce tm) (pk w) := by
  have key : ∀ s d, (∀ x, x < nv → x ≠ w → ¬ d = posC cl pk mu ce tm x s) → bB K nv w cl pk mu ce tm (s + 1) d = true → eB K nv w cl pk mu ce tm (s + 1) d = true := by
    intro s d h1 h2
    refine eB_t.mpr ⟨bB_t.mp h2, fun x hx hw => ⟨fun q => ?_, h1 x hx hw⟩⟩
    by_cases z : nqC cl mu tm x (s + 1 + 1) = nqC cl mu tm x (s + 1)
    · apply h1 x hx hw
      rw [q]
      show cel _ _ _ = cel _ _ _
      rw [z]
    · exact (((bB_t.mp h2).2 x hx hw).1) ⟨z, q⟩
  refine ⟨fun r d h1 h2 hd hE hB => key r d (fun x hx hw => ((eB_t.mp hE).2 x hx hw).1) hB, fun hB => key 0 _ h0 hB⟩
/-- the class's sets are these -/
theorem loS_E {S2 S : Nat → Nat → Bool} (h : loS S2 S w nv pk ce (nqC cl mu tm)) (hS : ∀ k, k < 96 → (S 0 k = true ↔ (K k = 1 ∨ K k = 2))) {s k : Nat} (h1 : 1 ≤ s) (h2 : s ≤ 150) (hk : k < 96) : S2 (3 + s) k = eB K nv w cl pk mu ce tm s k ∧ S2 (156 + s) k = bB K nv w cl pk mu ce tm s k := by
  obtain ⟨S1, ⟨a1, a2, a3⟩, hE⟩ := h
  have hc : (S 0 k = true ∨ k = pk w) ↔ comC K (pk w) k := by
    rw [hS k hk]
    constructor
    · rintro ((z | z) | z)
      · exact Or.inl z
      · exact Or.inr (Or.inl z)
      · exact Or.inr (Or.inr z)
    · rintro (z | z | z)
      · exact Or.inl (Or.inl z)
      · exact Or.inl (Or.inr z)
      · exact Or.inr z
  have b2 : S1 (156 + s) k = bB K nv w cl pk mu ce tm s k := by
    rw [Bool.eq_iff_iff, bB_t, a2 s k h1 h2 hk, hc]
    exact Iff.rfl
  constructor
  · rw [hE (3 + s) k (by omega) hk, if_pos (by omega), show 3 + s + 153 = 156 + s by omega, b2, Bool.eq_iff_iff, Bool.and_eq_true, a1 s k h1 h2 hk, hc, bB_t, eB_t]
    constructor
    · rintro ⟨⟨z1, z2⟩, z3⟩
      exact ⟨z3, z2⟩
    · rintro ⟨z1, z2⟩
      exact ⟨⟨z1.1, z2⟩, z1⟩
  · rw [hE (156 + s) k (by omega) hk, if_neg (by omega), b2]
/-- .. and the reference's steps go by them -/
theorem gz_ok {v : Nat → Int32} {A : Nat → Nat → Int32} {B : Nat → Nat → Int64} (hk : kOk (A 2)) (h38 : v 38 = nI w) (hw6 : w < 6) (h6 : A 6 w = nI (pk w)) (hpk : pk w < 96) (hp3 : A 2 (pk w) = 3) (hi : ∀ x, x < nv → inc (mu x) (tm x)) (hdf : ∀ x, x < nv → ∀ i, i < mu x → ce x i ≠ cel (pk x) (ce x) i)
    (h36 : fa36 (hqF pk ce (nqC cl mu tm)) w nv (B 36)) (h35 : fa35 (hqF pk ce (nqC cl mu tm)) w nv (B 35)) : gfO (eB (A 2) nv w cl pk mu ce tm) (bB (A 2) nv w cl pk mu ce tm) (gz v A B) := by
  intro c w0 r d hc hr1 hr2 hw
  have hq : ∀ x, x < nv → ∀ j, (hqF pk ce (nqC cl mu tm) x (j + 1) ≠ hqF pk ce (nqC cl mu tm) x j ↔ nqC cl mu tm x (j + 1) ≠ nqC cl mu tm x j) := by
    intro x hx j
    constructor
    · intro h z
      apply h
      show cel _ _ _ = cel _ _ _
      rw [z]
    · intro h z
      have hst := cntT_step (b := cl + j) (hi x hx)
      have hle := cntT_le (tm x) (cl + (j + 1)) (mu x)
      have e1 : nqC cl mu tm x (j + 1) = nqC cl mu tm x j + 1 := by
        rcases hst with q | q
        · exact absurd q h
        · exact q
      have e2 : cel (pk x) (ce x) (nqC cl mu tm x (j + 1)) = cel (pk x) (ce x) (nqC cl mu tm x j) := z
      have hlt : nqC cl mu tm x j < mu x := by
        have : nqC cl mu tm x (j + 1) ≤ mu x := hle
        omega
      rw [e1] at e2
      exact hdf x hx _ hlt e2
  have hcom : ∀ d, d < 96 → (¬ (A 2 d = 0 ∨ isOt v A (nI d)) ↔ comC (A 2) (pk w) d) := by
    intro d hd
    have hix : ix (nI d) = d := nI_clamp (by omega)
    have hix2 : ix (v 38) = w := by rw [h38]; exact nI_clamp (by omega)
    show ¬ (A 2 d = 0 ∨ (A 2 (ix (nI d)) = 3 ∧ ¬ nI d = A 6 (ix (v 38)))) ↔ _
    rw [hix, hix2, h6]
    have hinj : nI d = nI (pk w) ↔ d = pk w := ⟨fun z => by have := congrArg ix z; rw [hix, show ix (nI (pk w)) = pk w from nI_clamp (by omega)] at this; exact this, fun z => by rw [z]⟩
    rw [hinj]
    constructor
    · intro h
      rcases hk d hd with z | z | z | z
      · exact absurd (Or.inl z) h
      · exact Or.inl z
      · exact Or.inr (Or.inl z)
      · by_cases q : d = pk w
        · exact Or.inr (Or.inr q)
        · exact absurd (Or.inr ⟨z, q⟩) h
    · rintro (z | z | z) (q | ⟨q1, q2⟩)
      · rw [z] at q; exact absurd q (by decide)
      · rw [z] at q1; exact absurd q1 (by decide)
      · rw [z] at q; exact absurd q (by decide)
      · rw [z] at q1; exact absurd q1 (by decide)
      · rw [z, hp3] at q; exact absurd q (by decide)
      · exact q2 z
  have hB : ∀ d, d < 96 → (¬ (A 2 d = 0 ∨ isOt v A (nI d) ∨ bt (B 35) r d) ↔ cB (A 2) nv w cl pk mu ce tm r d) := by
    intro d hd
    rw [show (A 2 d = 0 ∨ isOt v A (nI d) ∨ bt (B 35) r d) ↔ ((A 2 d = 0 ∨ isOt v A (nI d)) ∨ bt (B 35) r d) from or_assoc.symm, not_or, hcom d hd, h35 r d hr2 hd]
    unfold cB
    constructor
    · rintro ⟨h1, h2⟩
      refine ⟨h1, fun x hx hxw => ⟨fun z => h2 ⟨x, hx, hxw, r + 1, by omega, by omega, ?_, Or.inl rfl, z.2⟩, fun z => h2 ⟨x, hx, hxw, r + 2, by omega, by omega, ?_, Or.inr rfl, z.2⟩⟩⟩
      · exact (hq x hx r).mpr z.1
      · exact (hq x hx (r + 1)).mpr z.1
    · rintro ⟨h1, h2⟩
      refine ⟨h1, ?_⟩
      rintro ⟨x, hx, hxw, y, hy, hy1, hne, hy2 | hy2, hd2⟩
      · subst hy2
        exact (h2 x hx hxw).1 ⟨(hq x hx r).mp hne, hd2⟩
      · subst hy2
        exact (h2 x hx hxw).2 ⟨(hq x hx (r + 1)).mp hne, hd2⟩
  have hE : ∀ d, d < 96 → (¬ (A 2 d = 0 ∨ isOt v A (nI d) ∨ bt (B 35) r d ∨ bt (B 36) r d) ↔ cE (A 2) nv w cl pk mu ce tm r d) := by
    intro d hd
    rw [show (A 2 d = 0 ∨ isOt v A (nI d) ∨ bt (B 35) r d ∨ bt (B 36) r d) ↔ ((A 2 d = 0 ∨ isOt v A (nI d) ∨ bt (B 35) r d) ∨ bt (B 36) r d) by simp only [or_assoc], not_or, hB d hd, h36 r d hr2 hd]
    unfold cE
    constructor
    · rintro ⟨h1, h2⟩
      refine ⟨h1, fun x hx hxw => ⟨fun z => h2 ⟨x, hx, hxw, r + 1, by omega, Or.inl rfl, z⟩, fun z => h2 ⟨x, hx, hxw, r, by omega, Or.inr rfl, ?_⟩⟩⟩
      rw [z]
      show cel _ _ _ = cel _ _ _
      rw [show r - 1 + 1 = r by omega]
    · rintro ⟨h1, h2⟩
      refine ⟨h1, ?_⟩
      rintro ⟨x, hx, hxw, y, hy, hy2 | hy2, hd2⟩
      · subst hy2
        exact (h2 x hx hxw).1 hd2
      · subst hy2
        apply (h2 x hx hxw).2
        rw [hd2]
        show cel _ _ _ = cel _ _ _
        rw [show r - 1 + 1 = r by omega]
  unfold gz
  cases hn : nbq c w0 with
  | none => simp
  | some d' =>
    have hd' := nbq_lt hc hw hn
    simp only [Option.bind_some]
    by_cases q4 : w0 < 4
    · rw [if_pos q4]
      have hb : bad v A B d' w0 r ↔ (A 2 d' = 0 ∨ isOt v A (nI d') ∨ bt (B 35) r d' ∨ bt (B 36) r d') := by
        show (_ ∨ _ ∨ _ ∨ (w0 < 4 ∧ _)) ↔ _
        rw [and_iff_right q4]
      by_cases qb : bad v A B d' w0 r
      · rw [if_pos qb]
        refine ⟨fun z => (by cases z), fun z => ?_⟩
        obtain ⟨z1, z2⟩ := z
        have z1 := Option.some.inj z1
        subst z1
        exact absurd (hb.mp qb) ((hE d' hd').mpr (eB_t.mp z2))
      · rw [if_neg qb]
        constructor
        · intro z
          have z := Option.some.inj z
          subst z
          exact ⟨rfl, eB_t.mpr ((hE d' hd').mp (fun z => qb (hb.mpr z)))⟩
        · intro z; exact z.1
    · rw [if_neg q4]
      have hb : bad v A B d' w0 r ↔ (A 2 d' = 0 ∨ isOt v A (nI d') ∨ bt (B 35) r d') := by
        show (_ ∨ _ ∨ _ ∨ (w0 < 4 ∧ _)) ↔ _
        simp [q4]
      by_cases qb : bad v A B d' w0 r
      · rw [if_pos qb]
        refine ⟨fun z => (by cases z), fun z => ?_⟩
        obtain ⟨z1, z2⟩ := z
        have z1 := Option.some.inj z1
        subst z1
        exact absurd (hb.mp qb) ((hB d' hd').mpr (bB_t.mp z2))
      · rw [if_neg qb]
        constructor
        · intro z
          have z := Option.some.inj z
          subst z
          exact ⟨rfl, bB_t.mpr ((hB d' hd').mp (fun z => qb (hb.mpr z)))⟩
        · intro z; exact z.1
end SETS
/-- only the bits of the cells count -/
theorem FW_congr {E B E' B' : Nat → Nat → Bool} {fs sn pk : Nat} (hfs : fs < 96) (hsn : sn < 96) : ∀ r, (∀ s k, 1 ≤ s → s ≤ r → k < 96 → E s k = E' s k ∧ B s k = B' s k) → ∀ g k, k < 96 → FW E B fs sn pk r g k = FW E' B' fs sn pk r g k := by
  intro r
  induction r with
  | zero => intro _ g k _; rw [FW, FW]
  | succ r ih =>
    intro h g k hk
    have ih' := ih (fun s k h1 h2 => h s k h1 (by omega))
    have hs : ∀ g k, k < 96 → stp (FW E B fs sn pk r g) (E (r + 1)) (B (r + 1)) k = stp (FW E' B' fs sn pk r g) (E' (r + 1)) (B' (r + 1)) k := by
      intro g k hk
      unfold stp
      rw [nbS_congr (fun k hk => ih' g k hk) hk, ih' g k hk, (h (r + 1) k (by omega) (by omega) hk).1, (h (r + 1) k (by omega) (by omega) hk).2]
    rw [FW, FW]
    unfold chg
    simp only [hs _ _ hk, hs _ _ hfs, hs _ _ hsn]
theorem PR_congr {X X' : Nat → Nat → Nat → Bool} {fs sn pk e : Nat} (hfs : fs < 96) (hsn : sn < 96) (h : ∀ t g k, t ≤ e → g < 3 → k < 96 → X t g k = X' t g k) : ∀ j g k, g < 3 → k < 96 → PR X fs sn pk e j g k = PR X' fs sn pk e j g k := by
  intro j
  induction j with
  | zero => intro g k _ _; rw [PR, PR]
  | succ j ih =>
    intro g k hg hk
    have ha : ∀ k, k < 96 → aimS fs sn (PR X fs sn pk e j) g k = aimS fs sn (PR X' fs sn pk e j) g k := by
      intro k hk
      unfold aimS
      rw [ih 2 k (by decide) hk, ih 1 k (by decide) hk, ih 2 sn (by decide) hsn, ih 0 k (by decide) hk, ih 1 fs (by decide) hfs]
    rw [PR, PR, h _ g k (by omega) hg hk, nbS_congr ha hk, ha k hk]
theorem lst_congr {Y Y' : Nat → Nat → Bool} {L L' : Nat → Nat → Nat} {p g : Nat} (hp : p < 96) (hL : ∀ z, z < 96 → L z g = L' z g ∧ L z g < 3) (h : ∀ g k, g < 3 → k < 96 → Y g k = Y' g k) : ∀ n w, n + w ≤ 4 → lst Y L p g n w = lst Y' L' p g n w := by
  intro n
  induction n with
  | zero => intro w _; rfl
  | succ n ih =>
    intro w hw
    cases q : nbq p w with
    | none => rw [lst_none q, lst_none q]; exact ih (w + 1) (by omega)
    | some z =>
      have hz := nbq_lt hp (by omega) q
      obtain ⟨h1, h2⟩ := hL z hz
      have hY : Y (L z g) z = Y' (L' z g) z := by rw [← h1]; exact h _ z h2 hz
      by_cases k : Y (L z g) z = true
      · rw [lst_some q k, lst_some q (hY ▸ k)]
      · rw [lst_no q k, lst_no q (hY ▸ k)]; exact ih (w + 1) (by omega)
theorem wf_congr {X X' : Nat → Nat → Nat → Bool} {L L' : Nat → Nat → Nat} {pk e : Nat} (hp : pk < 96) (hL : ∀ z g, z < 96 → g < 3 → L z g = L' z g ∧ L z g < 3) (h : ∀ t g k, t ≤ e → g < 3 → k < 96 → X t g k = X' t g k) : ∀ r, r ≤ e → wf X L pk r = wf X' L' pk r ∧ (wf X L pk r).1 < 96 ∧ (wf X L pk r).2 < 3 := by
  intro r
  induction r with
  | zero => exact fun _ => ⟨rfl, hp, (show (0 : Nat) < 3 by decide)⟩
  | succ r ih =>
    intro hr
    obtain ⟨h1, h2, h3⟩ := ih (by omega)
    have hl := lst_congr (Y := X (r + 1)) (Y' := X' (r + 1)) (L := L) (L' := L') h2 (fun z hz => hL z _ hz h3) (fun g k hg hk => h (r + 1) g k hr hg hk) 4 0 (by decide)
    have hlt := lst_lt (Y := X (r + 1)) (L := L) (g := (wf X L pk r).2) h2 4 0 (by decide)
    refine ⟨?_, hlt, (hL _ _ hlt h3).2⟩
    rw [wf, wf, ← h1, hl]
    rw [hl] at hlt
    rw [(hL _ _ hlt h3).1]
theorem nI_inj {a b : Nat} (ha : a < 2147483648) (hb : b < 2147483648) (h : nI a = nI b) : a = b := by
  have := congrArg ix h
  rwa [show ix (nI a) = a from nI_clamp ha, show ix (nI b) = b from nI_clamp hb] at this
theorem dnN_dlg {A : Nat → Nat → Int32} {t fs sn d g : Nat} (h1 : A 11 t = nI fs) (h2 : A 12 t = nI sn) (hfs : fs < 96) (hsn : sn < 96) (hd : d < 96) : dnN A t d g = dlg fs sn d g := by
  unfold dnN dlg
  have e1 : nI d = A 11 t ↔ d = fs := by rw [h1]; exact ⟨fun z => nI_inj (by omega) (by omega) z, fun z => by rw [z]⟩
  have e2 : nI d = A 12 t ↔ d = sn := by rw [h2]; exact ⟨fun z => nI_inj (by omega) (by omega) z, fun z => by rw [z]⟩
  simp only [e1, e2]
theorem lwF_l5 {ok : Nat → Prop} : ∀ n w w1, lwF ok n w = some w1 → w1 < w + n := by
  intro n
  induction n with
  | zero => intro w w1 h; cases h
  | succ n ih =>
    intro w w1 h
    by_cases q : ok w
    · rw [lwF_t q] at h; cases h; omega
    · rw [lwF_f q] at h; have := ih (w + 1) w1 h; omega
theorem lwF_cg {ok ok' : Nat → Prop} : ∀ n w, (∀ w1, w ≤ w1 → w1 < w + n → (ok w1 ↔ ok' w1)) → lwF ok n w = lwF ok' n w := by
  intro n
  induction n with
  | zero => intro w _; rfl
  | succ n ih =>
    intro w h
    have ih' := ih (w + 1) (fun w1 h1 h2 => h w1 (by omega) (by omega))
    by_cases q : ok w
    · rw [lwF_t q, lwF_t ((h w (by omega) (by omega)).mp q)]
    · rw [lwF_f q, lwF_f (fun z => q ((h w (by omega) (by omega)).mpr z)), ih']
theorem tkL_cg {W W' : Nat → Nat → Nat → Option Nat} {D D' : Nat → Nat → Nat} {t e : Nat} (hW : ∀ r g c, r < e → g < 3 → c < 96 → W r g c = W' r g c ∧ ∀ w, W r g c = some w → w < 5) (hD : ∀ d g, d < 96 → g < 3 → D d g = D' d g ∧ D d g < 3) : ∀ n r g c v A, r + n ≤ e → g < 3 → c < 96 → tkL W D t n r g c v A = tkL W' D' t n r g c v A := by
  intro n
  induction n with
  | zero => intro r g c v A _ _ _; rw [tkL, tkL]
  | succ n ih =>
    intro r g c v A hr hg hc
    obtain ⟨h1, h2⟩ := hW r g c (by omega) hg hc
    have hw : (W r g c).getD 4 < 5 := by
      cases q : W r g c with
      | none => decide
      | some w => exact h2 w q
    have hd : (nbq c ((W r g c).getD 4)).getD c < 96 := by
      cases q : nbq c ((W r g c).getD 4) with
      | none => exact hc
      | some d => exact nbq_lt hc hw q
    obtain ⟨h3, h4⟩ := hD _ g hd hg
    rw [tkL, tkL, ← h1, ← h3]
    split
    · exact ih _ _ _ _ _ (by omega) h4 hd
    · exact ih _ _ _ _ _ (by omega) h4 hd
section RRS
variable {v : Nat → Int32} {A : Nat → Nat → Int32} {B : Nat → Nat → Int64} {t fs sn home e : Nat}
theorem RR_a (h1 : A 11 t = nI fs) (h2 : A 12 t = nI sn) (hfs : fs < 96) (hsn : sn < 96) : ∀ r g c, RR v A B t home r g c ↔ RRa (gz v A B) (dlg fs sn) home r g c := by
  intro r
  induction r with
  | zero => intro g c; rw [RR, RRa]
  | succ r ih =>
    intro g c
    rw [RR, RRa]
    constructor
    · rintro ⟨g0, c0, w, a1, a2, a3, a4, a5, a6⟩
      exact ⟨g0, c0, w, a1, a2, a3, (ih g0 c0).mp a4, a5, by rw [a6]; exact dnN_dlg h1 h2 hfs hsn (gz_lt a2 a3 a5)⟩
    · rintro ⟨g0, c0, w, a1, a2, a3, a4, a5, a6⟩
      exact ⟨g0, c0, w, a1, a2, a3, (ih g0 c0).mpr a4, a5, by rw [a6]; exact (dnN_dlg h1 h2 hfs hsn (gz_lt a2 a3 a5)).symm⟩
theorem NN_a (h1 : A 11 t = nI fs) (h2 : A 12 t = nI sn) (hfs : fs < 96) (hsn : sn < 96) : ∀ j g c, c < 96 → (NN v A B t home e j g c ↔ NNa (gz v A B) (dlg fs sn) home e j g c) := by
  intro j
  induction j with
  | zero => intro g c _; rw [NN, NNa]
  | succ j ih =>
    intro g c hc
    rw [NN, NNa, RR_a h1 h2 hfs hsn]
    constructor
    · rintro ⟨a1, w, d, a2, a3, a4⟩
      have hd := gz_lt hc a2 a3
      refine ⟨a1, w, d, a2, a3, ?_⟩
      rw [← dnN_dlg h1 h2 hfs hsn hd]
      exact (ih _ d hd).mp a4
    · rintro ⟨a1, w, d, a2, a3, a4⟩
      have hd := gz_lt hc a2 a3
      refine ⟨a1, w, d, a2, a3, ?_⟩
      rw [dnN_dlg h1 h2 hfs hsn hd]
      exact (ih _ d hd).mpr a4
theorem tkN_a {pu : Nat} (h1 : A 11 t = nI fs) (h2 : A 12 t = nI sn) (hfs : fs < 96) (hsn : sn < 96) (hh : home < 96) : tkN v A B t pu home e = tkL (wyNa (gz v A B) (dlg fs sn) home e) (dlg fs sn) t e 0 0 home v (tkB v A t pu) := by
  unfold tkN
  refine tkL_cg (e := e) (fun r g c hr hg hc => ⟨?_, fun w hw => ?_⟩) (fun d g hd hg => ⟨dnN_dlg h1 h2 hfs hsn hd, ?_⟩) e 0 0 home v _ (by omega) (by decide) hh
  · refine lwF_cg 5 0 (fun w _ hw => ?_)
    show (∃ d, _ ∧ _) ↔ ∃ d, _ ∧ _
    constructor
    · rintro ⟨d, a1, a2⟩
      have hd := gz_lt hc (by omega) a1
      refine ⟨d, a1, ?_⟩
      rw [← dnN_dlg h1 h2 hfs hsn hd]
      exact (NN_a h1 h2 hfs hsn _ _ d hd).mp a2
    · rintro ⟨d, a1, a2⟩
      have hd := gz_lt hc (by omega) a1
      refine ⟨d, a1, ?_⟩
      rw [dnN_dlg h1 h2 hfs hsn hd]
      exact (NN_a h1 h2 hfs hsn _ _ d hd).mpr a2
  · have := lwF_l5 5 0 w hw
    omega
  · rw [dnN_dlg h1 h2 hfs hsn hd]; exact dlg_lt hg
end RRS
/-- what a plan of the reference leaves -/
abbrev plW (v : Nat → Int32) (A : Nat → Nat → Int32) (w t ro cl mw : Nat) (wy lg : Nat → Nat) (e : Nat) (v1 : Nat → Int32) (A1 : Nat → Nat → Int32) : Prop := (∀ j, j ≠ 38 → j ≠ 19 → j ≠ 10 → v1 j = v j) ∧ (v1 19 = nI (ro + apn wy e)) ∧ (v1 10 = v 10 + 1) ∧ (∀ j, j ≠ 13 → j ≠ 14 → j ≠ 15 → j ≠ 16 → j ≠ 17 → j ≠ 20 → j ≠ 21 → j ≠ 27 → j ≠ 28 → A1 j = A j) ∧ (A1 13 = upd (A 13) t (nI w)) ∧ (A1 14 = upd (A 14) t (nI ro)) ∧ (A1 15 = upd (A 15) t (nI (apn wy e))) ∧ (A1 16 = upd (A 16) t (nI mw)) ∧ (A1 27 = upd (A 27) w (nI (mw + apn wy e))) ∧ (A1 28 = upd (A 28) w (nI t)) ∧ (∀ i, i ≠ t → A1 17 i = A 17 i) ∧ (∀ s, 1 ≤ s → s ≤ e → lg s = 2 → lg (s - 1) ≠ 2 → A1 17 t = nI (mw + apn wy (s - 1))) ∧ (∀ i, i < ro → A1 20 i = A 20 i ∧ A1 21 i = A 21 i) ∧ (∀ s, 1 ≤ s → s ≤ e → wy s ≠ wy (s - 1) → A1 20 (ro + apn wy (s - 1)) = nI (wy s) ∧ A1 21 (ro + apn wy (s - 1)) = nI (cl + s))
theorem plW.vo {v : Nat → Int32} {A : Nat → Nat → Int32} {w t ro cl mw : Nat} {wy lg : Nat → Nat} {e : Nat} {v1 : Nat → Int32} {A1 : Nat → Nat → Int32} (h : plW v A w t ro cl mw wy lg e v1 A1) : ∀ j, j ≠ 38 → j ≠ 19 → j ≠ 10 → v1 j = v j := h.1
theorem plW.v19 {v : Nat → Int32} {A : Nat → Nat → Int32} {w t ro cl mw : Nat} {wy lg : Nat → Nat} {e : Nat} {v1 : Nat → Int32} {A1 : Nat → Nat → Int32} (h : plW v A w t ro cl mw wy lg e v1 A1) : v1 19 = nI (ro + apn wy e) := h.2.1
theorem plW.v10 {v : Nat → Int32} {A : Nat → Nat → Int32} {w t ro cl mw : Nat} {wy lg : Nat → Nat} {e : Nat} {v1 : Nat → Int32} {A1 : Nat → Nat → Int32} (h : plW v A w t ro cl mw wy lg e v1 A1) : v1 10 = v 10 + 1 := h.2.2.1
theorem plW.ao {v : Nat → Int32} {A : Nat → Nat → Int32} {w t ro cl mw : Nat} {wy lg : Nat → Nat} {e : Nat} {v1 : Nat → Int32} {A1 : Nat → Nat → Int32} (h : plW v A w t ro cl mw wy lg e v1 A1) : ∀ j, j ≠ 13 → j ≠ 14 → j ≠ 15 → j ≠ 16 → j ≠ 17 → j ≠ 20 → j ≠ 21 → j ≠ 27 → j ≠ 28 → A1 j = A j := h.2.2.2.1
theorem plW.a13 {v : Nat → Int32} {A : Nat → Nat → Int32} {w t ro cl mw : Nat} {wy lg : Nat → Nat} {e : Nat} {v1 : Nat → Int32} {A1 : Nat → Nat → Int32} (h : plW v A w t ro cl mw wy lg e v1 A1) : A1 13 = upd (A 13) t (nI w) := h.2.2.2.2.1
theorem plW.a14 {v : Nat → Int32} {A : Nat → Nat → Int32} {w t ro cl mw : Nat} {wy lg : Nat → Nat} {e : Nat} {v1 : Nat → Int32} {A1 : Nat → Nat → Int32} (h : plW v A w t ro cl mw wy lg e v1 A1) : A1 14 = upd (A 14) t (nI ro) := h.2.2.2.2.2.1
theorem plW.a15 {v : Nat → Int32} {A : Nat → Nat → Int32} {w t ro cl mw : Nat} {wy lg : Nat → Nat} {e : Nat} {v1 : Nat → Int32} {A1 : Nat → Nat → Int32} (h : plW v A w t ro cl mw wy lg e v1 A1) : A1 15 = upd (A 15) t (nI (apn wy e)) := h.2.2.2.2.2.2.1
theorem plW.a16 {v : Nat → Int32} {A : Nat → Nat → Int32} {w t ro cl mw : Nat} {wy lg : Nat → Nat} {e : Nat} {v1 : Nat → Int32} {A1 : Nat → Nat → Int32} (h : plW v A w t ro cl mw wy lg e v1 A1) : A1 16 = upd (A 16) t (nI mw) := h.2.2.2.2.2.2.2.1
theorem plW.a27 {v : Nat → Int32} {A : Nat → Nat → Int32} {w t ro cl mw : Nat} {wy lg : Nat → Nat} {e : Nat} {v1 : Nat → Int32} {A1 : Nat → Nat → Int32} (h : plW v A w t ro cl mw wy lg e v1 A1) : A1 27 = upd (A 27) w (nI (mw + apn wy e)) := h.2.2.2.2.2.2.2.2.1
theorem plW.a28 {v : Nat → Int32} {A : Nat → Nat → Int32} {w t ro cl mw : Nat} {wy lg : Nat → Nat} {e : Nat} {v1 : Nat → Int32} {A1 : Nat → Nat → Int32} (h : plW v A w t ro cl mw wy lg e v1 A1) : A1 28 = upd (A 28) w (nI t) := h.2.2.2.2.2.2.2.2.2.1
theorem plW.a17 {v : Nat → Int32} {A : Nat → Nat → Int32} {w t ro cl mw : Nat} {wy lg : Nat → Nat} {e : Nat} {v1 : Nat → Int32} {A1 : Nat → Nat → Int32} (h : plW v A w t ro cl mw wy lg e v1 A1) : ∀ i, i ≠ t → A1 17 i = A 17 i := h.2.2.2.2.2.2.2.2.2.2.1
theorem plW.f17 {v : Nat → Int32} {A : Nat → Nat → Int32} {w t ro cl mw : Nat} {wy lg : Nat → Nat} {e : Nat} {v1 : Nat → Int32} {A1 : Nat → Nat → Int32} (h : plW v A w t ro cl mw wy lg e v1 A1) : ∀ s, 1 ≤ s → s ≤ e → lg s = 2 → lg (s - 1) ≠ 2 → A1 17 t = nI (mw + apn wy (s - 1)) := h.2.2.2.2.2.2.2.2.2.2.2.1
theorem plW.old {v : Nat → Int32} {A : Nat → Nat → Int32} {w t ro cl mw : Nat} {wy lg : Nat → Nat} {e : Nat} {v1 : Nat → Int32} {A1 : Nat → Nat → Int32} (h : plW v A w t ro cl mw wy lg e v1 A1) : ∀ i, i < ro → A1 20 i = A 20 i ∧ A1 21 i = A 21 i := h.2.2.2.2.2.2.2.2.2.2.2.2.1
theorem plW.nw {v : Nat → Int32} {A : Nat → Nat → Int32} {w t ro cl mw : Nat} {wy lg : Nat → Nat} {e : Nat} {v1 : Nat → Int32} {A1 : Nat → Nat → Int32} (h : plW v A w t ro cl mw wy lg e v1 A1) : ∀ s, 1 ≤ s → s ≤ e → wy s ≠ wy (s - 1) → A1 20 (ro + apn wy (s - 1)) = nI (wy s) ∧ A1 21 (ro + apn wy (s - 1)) = nI (cl + s) := h.2.2.2.2.2.2.2.2.2.2.2.2.2
theorem plW_of {v : Nat → Int32} {A : Nat → Nat → Int32} {E B : Nat → Nat → Bool} {gf : Nat → Nat → Nat → Option Nat} {w t ro cl mw fs sn home e : Nat} (h : PG E B gf fs sn home e) (h19 : v 19 = nI ro) (h29 : v 29 = nI cl) (h27 : A 27 w = nI mw) (hro : ro < 10000) :
    plW v A w t ro cl mw (wyA E B fs sn home e) (lgA E B fs sn home e) e (upd (tkL (wyNa gf (dlg fs sn) home e) (dlg fs sn) t e 0 0 home (upd v 38 (nI w)) (tkB (upd v 38 (nI w)) A t w)).1 10 ((tkL (wyNa gf (dlg fs sn) home e) (dlg fs sn) t e 0 0 home (upd v 38 (nI w)) (tkB (upd v 38 (nI w)) A t w)).1 10 + 1)) (tkE (tkL (wyNa gf (dlg fs sn) home e) (dlg fs sn) t e 0 0 home (upd v 38 (nI w)) (tkB (upd v 38 (nI w)) A t w)) t w) := by
  have hI := h.tkLx (t := t) (tkI (upd v 38 (nI w)) (tkB (upd v 38 (nI w)) A t w) (wyA E B fs sn home e) (lgA E B fs sn home e) t ro cl mw) (fun r v1 A1 hr hI => ⟨fun q => tkI_stay hI q ?_, fun q => tkI_go hI q (h.path r (by omega)).2.1 (fun s hs hq => ?_) ?_ ?_ ?_ (by have := h.he; omega)⟩) e 0 (upd v 38 (nI w)) (tkB (upd v 38 (nI w)) A t w) (by omega) ⟨?_, fun _ _ => rfl, fun _ _ _ _ => rfl, fun _ _ => ⟨rfl, rfl⟩, fun s h1 h2 => absurd h1 (by omega), fun _ _ => rfl, fun s h1 h2 => absurd h1 (by omega)⟩
  rotate_left
  · exact Classical.byContradiction (fun z => h.mv hr z q)
  · have := h.two (r := s) (r - s) (by omega) hq
    rwa [show s + (r - s) = r by omega] at this
  · rw [upd_ne _ _ (by decide)]; exact h29
  · unfold tkB
    rw [va_up_self, upd_self, va_up_ne _ _ (by decide), va_up_ne _ _ (by decide)]; exact h27
  · unfold tkB
    rw [va_up_ne _ _ (by decide), va_up_self, upd_self, upd_ne _ _ (by decide)]; exact h19
  · rw [upd_ne _ _ (by decide), h19]; rfl
  have hI : tkI (upd v 38 (nI w)) (tkB (upd v 38 (nI w)) A t w) (wyA E B fs sn home e) (lgA E B fs sn home e) t ro cl mw e (tkL (wyNa gf (dlg fs sn) home e) (dlg fs sn) t e 0 0 home (upd v 38 (nI w)) (tkB (upd v 38 (nI w)) A t w)).1 (tkL (wyNa gf (dlg fs sn) home e) (dlg fs sn) t e 0 0 home (upd v 38 (nI w)) (tkB (upd v 38 (nI w)) A t w)).2 := hI
  generalize tkL (wyNa gf (dlg fs sn) home e) (dlg fs sn) t e 0 0 home (upd v 38 (nI w)) (tkB (upd v 38 (nI w)) A t w) = Q at hI ⊢
  have b13 : tkB (upd v 38 (nI w)) A t w 13 = upd (A 13) t (nI w) := by
    unfold tkB
    rw [va_up_ne _ _ (by decide), va_up_ne _ _ (by decide), va_up_self, upd_self]
  have b14 : tkB (upd v 38 (nI w)) A t w 14 = upd (A 14) t (nI ro) := by
    unfold tkB
    rw [va_up_ne _ _ (by decide), va_up_self, va_up_ne _ _ (by decide), upd_ne v _ (show (19 : Nat) ≠ 38 by decide), h19]
  have b16 : tkB (upd v 38 (nI w)) A t w 16 = upd (A 16) t (nI mw) := by
    unfold tkB
    rw [va_up_self, va_up_ne _ _ (by decide), va_up_ne _ _ (by decide), va_up_ne _ _ (by decide), va_up_ne _ _ (by decide), h27]
  have bo : ∀ j, j ≠ 13 → j ≠ 14 → j ≠ 16 → tkB (upd v 38 (nI w)) A t w j = A j := fun j h1 h2 h3 => by
    unfold tkB
    rw [va_up_ne _ _ h3, va_up_ne _ _ h2, va_up_ne _ _ h1]
  have q14 : Q.2 14 = upd (A 14) t (nI ro) := (hI.ao 14 (by decide) (by decide) (by decide)).trans b14
  have e15 : tkE Q t w 15 = upd (A 15) t (nI (apn (wyA E B fs sn home e) e)) := by
    unfold tkE
    rw [va_up_ne _ _ (by decide), va_up_ne _ _ (by decide), va_up_self, hI.v19, q14, upd_self, pk_sub (by omega), hI.ao 15 (by decide) (by decide) (by decide), bo 15 (by decide) (by decide) (by decide)]
    congr 2; omega
  have e27 : tkE Q t w 27 = upd (A 27) w (nI (mw + apn (wyA E B fs sn home e) e)) := by
    have e15' := e15
    unfold tkE at e15' ⊢
    rw [va_up_ne _ _ (by decide), va_up_ne _ _ (by decide)] at e15'
    rw [va_up_ne _ _ (by decide), va_up_self, va_up_ne _ _ (by decide), e15', upd_self, hI.ao 27 (by decide) (by decide) (by decide), bo 27 (by decide) (by decide) (by decide), h27, nI_add]
  have e28 : tkE Q t w 28 = upd (A 28) w (nI t) := by
    unfold tkE
    rw [va_up_self, va_up_ne _ _ (by decide), va_up_ne _ _ (by decide), hI.ao 28 (by decide) (by decide) (by decide), bo 28 (by decide) (by decide) (by decide)]
  have eo : ∀ j, j ≠ 15 → j ≠ 27 → j ≠ 28 → tkE Q t w j = Q.2 j := fun j h1 h2 h3 => by
    unfold tkE
    rw [va_up_ne _ _ h3, va_up_ne _ _ h2, va_up_ne _ _ h1]
  refine ⟨fun j h1 h2 h3 => ?_, ?_, ?_, fun j h1 h2 h3 h4 h5 h6 h7 h8 h9 => ?_, ?_, ?_, e15, ?_, e27, e28, fun i hi => ?_, fun s h1 h2 h3 h4 => ?_, fun i hi => ?_, fun s h1 h2 h3 => ?_⟩
  · rw [upd_ne _ _ h3, hI.vo j h2, upd_ne _ _ h1]
  · rw [upd_ne _ _ (by decide)]; exact hI.v19
  · rw [upd_self, hI.vo 10 (by decide), upd_ne _ _ (by decide)]
  · rw [eo j h3 h8 h9, hI.ao j h5 h6 h7, bo j h1 h2 h4]
  · rw [eo 13 (by decide) (by decide) (by decide), hI.ao 13 (by decide) (by decide) (by decide), b13]
  · rw [eo 14 (by decide) (by decide) (by decide), q14]
  · rw [eo 16 (by decide) (by decide) (by decide), hI.ao 16 (by decide) (by decide) (by decide), b16]
  · rw [eo 17 (by decide) (by decide) (by decide), hI.f0 i hi, bo 17 (by decide) (by decide) (by decide)]
  · rw [eo 17 (by decide) (by decide) (by decide)]; exact hI.f1 s h1 h2 h3 h4
  · rw [eo 20 (by decide) (by decide) (by decide), eo 21 (by decide) (by decide) (by decide)]
    have := hI.old i hi
    rw [bo 20 (by decide) (by decide) (by decide), bo 21 (by decide) (by decide) (by decide)] at this
    exact this
  · rw [eo 20 (by decide) (by decide) (by decide), eo 21 (by decide) (by decide) (by decide)]
    exact hI.nw s h1 h2 h3
