/-! keeping clear of another vehicle -/
theorem pS.self {G : GG} {pl va : Nat} {d c : Nat → Nat} {P : List Nat} {f0 f : Nat → va_E} {S : Nat → Nat → Bool} {Wy F : Nat → Int32} (h : pS G pl va d c P f0 f S Wy F) : pS G pl va d c P f f S Wy F := ⟨h.1, h.2.1, h.2.2.1, h.2.2.2.1, fun _ _ _ _ => rfl⟩
theorem pS.trans {G : GG} {pl va : Nat} {d c : Nat → Nat} {P : List Nat} {f0 f f1 : Nat → va_E} {S S' : Nat → Nat → Bool} {Wy F W' F' : Nat → Int32} (h : pS G pl va d c P f0 f S Wy F) (h' : pS G pl va d c P f f1 S' W' F') : pS G pl va d c P f0 f1 S' W' F' := ⟨h'.1, h'.2.1, h'.2.2.1, h'.2.2.2.1, fun y a1 a2 a3 => (h'.2.2.2.2 y a1 a2 a3).trans (h.2.2.2.2 y a1 a2 a3)⟩
def drp (S : Nat → Nat → Bool) (i h : Nat) : Nat → Nat → Bool := va_up S i (fun k => S i k && !decide (k = h))
theorem drp_at {S : Nat → Nat → Bool} {i h j k : Nat} : drp S i h j k = (S j k && !(decide (j = i) && decide (k = h))) := by
  unfold drp
  by_cases e : j = i
  · subst e; rw [va_up_self]; simp
  · rw [va_up_ne (α := Nat → Bool) _ _ e]; simp [e]
theorem plA_cel {pk n k : Nat} {cc : Nat → Nat} {mc : Nat → Int32} (hk : k ≤ n) (hn : n < 60000) (hmc : ∀ i, i < n → mc i = nI (cc i)) : plA (nI pk) mc n (nI k) = nI (cel pk cc k) := by
  unfold plA cel
  by_cases e : k = 0
  · rw [if_pos e, e, if_neg (fun h => h.1 (by decide))]
  · have h1 : ¬ nI k < 1 := fun h => by
      have := (nI_ltI (a := k) (b := 1) (by omega) (by decide)).mp h
      omega
    have h2 : ¬ nI n < nI k := fun h => by
      have := (nI_ltI (a := n) (b := k) (by omega) (by omega)).mp h
      omega
    rw [if_neg e, if_pos ⟨h1, h2⟩, nI_clamp (by omega), hmc _ (by omega)]
def inc (n : Nat) (tt : Nat → Nat) : Prop := ∀ i j, i < j → j < n → tt i < tt j
theorem nq_up {n cl : Nat} {tt nq : Nat → Nat} (hi : inc n tt) (h : tOk n cl tt nq) {t : Nat} (ht : t + 1 ≤ 152) (hn : nq t < n) (e : tt (nq t) = cl + t) : nq (t + 1) = nq t + 1 := by
  obtain ⟨a1, a2, a3, a4⟩ := h (t + 1) ht
  by_cases q : nq (t + 1) ≤ nq t
  · have := a3 (by omega)
    by_cases q2 : nq (t + 1) = nq t
    · rw [q2] at this; omega
    · have := hi (nq (t + 1)) (nq t) (by omega) hn; omega
  · by_cases q2 : nq t + 1 < nq (t + 1)
    · have := a2 (nq t + 1) q2
      have := hi (nq t) (nq t + 1) (by omega) (by omega); omega
    · omega
theorem nq_same {n cl : Nat} {tt nq : Nat → Nat} (hi : inc n tt) (h : tOk n cl tt nq) {t : Nat} (ht : t + 1 ≤ 152) (hn : nq t < n) (e : ¬ tt (nq t) = cl + t) : nq (t + 1) = nq t := by
  obtain ⟨a1, a2, a3, a4⟩ := h (t + 1) ht
  have h4 := a4 (by omega)
  rw [Nat.add_sub_cancel] at h4
  by_cases q : nq t < nq (t + 1)
  · have := a2 (nq t) q
    have := (h t (by omega)).2.2.1 hn
    omega
  · omega
theorem nq_end {n cl : Nat} {tt nq : Nat → Nat} (h : tOk n cl tt nq) {t : Nat} (hn : n ≤ nq t) : ∀ s, t ≤ s → s ≤ 152 → nq s = n := by
  intro s
  induction s with
  | zero => intro a b; rw [show t = 0 by omega] at hn; have := (h 0 (by omega)).1; omega
  | succ s ih =>
    intro a b
    by_cases e : t = s + 1
    · rw [e] at hn; have := (h (s + 1) b).1; omega
    · have h1 := ih (by omega) (by omega)
      have h2 := (h (s + 1) b).2.2.2 (by omega)
      rw [Nat.add_sub_cancel, h1] at h2
      have := (h (s + 1) b).1
      omega
theorem nq_first {n cl k : Nat} {tt nq : Nat → Nat} (hi : inc n tt) (h : tOk n cl tt nq) (h1 : ∀ i, k ≤ i → i < n → cl < tt i) (h2 : 0 < k → tt (k - 1) ≤ cl) (hk : k ≤ n) : k = nq 1 := by
  obtain ⟨a1, a2, a3, a4⟩ := h 1 (by omega)
  by_cases q : k < nq 1
  · have := a2 k q
    have := h1 k (Nat.le_refl _) (by omega)
    omega
  · by_cases q2 : nq 1 < k
    · have := a3 (by omega)
      have := h2 (by omega)
      by_cases q3 : nq 1 = k - 1
      · have q4 : tt (nq 1) = tt (k - 1) := by rw [q3]
        omega
      · have := hi (nq 1) (k - 1) (by omega) (by omega); omega
    · omega
abbrev heX (pk : Nat) (cc nq : Nat → Nat) (x : Nat) : Nat := cel pk cc (nq (x + 1))
/-- before the time t is looked at -/
def kcI (S1 S : Nat → Nat → Bool) (pk : Nat) (cc nq : Nat → Nat) (t : Nat) : Prop :=
  (∀ s k, 1 ≤ s → s ≤ 150 → k < 96 → S1 (3 + s) k = (S (3 + s) k && !(decide (s < t ∧ k = heX pk cc nq s) || decide (s - 1 < t ∧ k = heX pk cc nq (s - 1))))) ∧
  (∀ s k, 1 ≤ s → s ≤ 150 → k < 96 → S1 (156 + s) k = (S (156 + s) k && !(decide (s < t ∧ nq (s + 1) ≠ nq s ∧ k = heX pk cc nq s) || decide (s + 1 < t ∧ nq (s + 2) ≠ nq (s + 1) ∧ k = heX pk cc nq (s + 1))))) ∧
  ∀ i k, i < 762 → (i < 3 ∨ 309 ≤ i) → k < 96 → S1 i k = S i k
theorem kcI_0 {S : Nat → Nat → Bool} {pk : Nat} {cc nq : Nat → Nat} : kcI (drp S (3 + 1) (heX pk cc nq 0)) S pk cc nq 1 := by
  refine ⟨fun s k h1 h2 hk => ?_, fun s k h1 h2 hk => ?_, fun i k hi h hk => ?_⟩
  · rw [drp_at]
    congr 2
    by_cases e : s = 1
    · subst e; simp
    · have e1 : ¬ (3 + s = 3 + 1) := by omega
      have e2 : ¬ s < 1 := by omega
      have e3 : ¬ s - 1 < 1 := by omega
      simp [e1, e2, e3]
  · rw [drp_at]
    have e1 : ¬ (156 + s = 3 + 1) := by omega
    have e2 : ¬ s < 1 := by omega
    have e3 : ¬ s + 1 < 1 := by omega
    simp [e1, e2]
  · rw [drp_at]
    have e1 : ¬ (i = 3 + 1) := by omega
    simp [e1]
theorem kcI_n {S1 S : Nat → Nat → Bool} {pk t : Nat} {cc nq : Nat → Nat} (h : kcI S1 S pk cc nq t) (ht : 1 ≤ t) (ht2 : t ≤ 151) (hs : nq (t + 1) = nq t) : kcI (drp (drp S1 (3 + t) (heX pk cc nq t)) (3 + (t + 1)) (heX pk cc nq t)) S pk cc nq (t + 1) := by
  obtain ⟨a1, a2, a3⟩ := h
  refine ⟨fun s k h1 h2 hk => ?_, fun s k h1 h2 hk => ?_, fun i k hi h hk => ?_⟩
  · rw [drp_at, drp_at, a1 s k h1 h2 hk]
    by_cases e : s = t
    · subst e
      have e1 : ¬ (3 + s = 3 + (s + 1)) := by omega
      have e4 : s - 1 < s := by omega
      have e5 : s - 1 < s + 1 := by omega
      simp only [Nat.lt_irrefl, false_and, decide_false, Bool.false_or, e1, Bool.false_and, Bool.not_false, Bool.and_true, decide_true, Bool.true_and, Nat.lt_succ_self, true_and, e4, e5]
      cases S (3 + s) k <;> cases decide (k = heX pk cc nq s) <;> cases decide (k = heX pk cc nq (s - 1)) <;> rfl
    · by_cases e2 : s = t + 1
      · subst e2
        have e1 : ¬ (3 + (t + 1) = 3 + t) := by omega
        have e4 : ¬ t + 1 < t := by omega
        have e5 : ¬ t + 1 < t + 1 := by omega
        have e6 : t + 1 - 1 = t := by omega
        have e7 : t < t + 1 := by omega
        simp only [e1, e4, e5, e6, e7, Nat.lt_irrefl, false_and, true_and, decide_false, decide_true, Bool.false_or, Bool.false_and, Bool.true_and, Bool.not_false, Bool.and_true]
      · have e1 : ¬ (3 + s = 3 + t) := by omega
        have e3 : ¬ (3 + s = 3 + (t + 1)) := by omega
        have e4 : (s < t) ↔ (s < t + 1) := by omega
        have e5 : (s - 1 < t) ↔ (s - 1 < t + 1) := by omega
        simp only [e1, e3, e4, e5, decide_false, Bool.false_and, Bool.not_false, Bool.and_true]
  · rw [drp_at, drp_at, a2 s k h1 h2 hk]
    have e1 : ¬ (156 + s = 3 + t) := by omega
    have e3 : ¬ (156 + s = 3 + (t + 1)) := by omega
    simp only [e1, e3, decide_false, Bool.false_and, Bool.not_false, Bool.and_true]
    congr 2
    by_cases e : s = t
    · subst e
      have e4 : ¬ s + 1 < s := by omega
      have e5 : ¬ s + 1 < s + 1 := by omega
      simp [hs]
      intro z
      omega
    · by_cases e2 : s + 1 = t
      · subst e2
        have e5 : s < s + 1 := by omega
        have e6 : s < s + 1 + 1 := by omega
        simp [hs, e5, e6]
      · have e4 : (s < t) ↔ (s < t + 1) := by omega
        have e5 : (s + 1 < t) ↔ (s + 1 < t + 1) := by omega
        simp only [e4, e5]
  · rw [drp_at, drp_at, a3 i k hi h hk]
    have e1 : ¬ (i = 3 + t) := by omega
    have e3 : ¬ (i = 3 + (t + 1)) := by omega
    simp [e1, e3]
theorem kcI_m {S1 S : Nat → Nat → Bool} {pk t : Nat} {cc nq : Nat → Nat} (h : kcI S1 S pk cc nq t) (ht : 1 ≤ t) (ht2 : t ≤ 151) (hs : nq (t + 1) ≠ nq t) : kcI (drp (drp (drp (drp S1 (156 + (t - 1)) (heX pk cc nq t)) (156 + t) (heX pk cc nq t)) (3 + t) (heX pk cc nq t)) (3 + (t + 1)) (heX pk cc nq t)) S pk cc nq (t + 1) := by
  obtain ⟨a1, a2, a3⟩ := h
  refine ⟨fun s k h1 h2 hk => ?_, fun s k h1 h2 hk => ?_, fun i k hi h hk => ?_⟩
  · rw [drp_at, drp_at, drp_at, drp_at, a1 s k h1 h2 hk]
    have x1 : ¬ (3 + s = 156 + (t - 1)) := by omega
    have x2 : ¬ (3 + s = 156 + t) := by omega
    simp only [x1, x2, decide_false, Bool.false_and, Bool.not_false, Bool.and_true]
    by_cases e : s = t
    · subst e
      have e1 : ¬ (3 + s = 3 + (s + 1)) := by omega
      have e4 : s - 1 < s := by omega
      have e5 : s - 1 < s + 1 := by omega
      simp only [Nat.lt_irrefl, false_and, decide_false, Bool.false_or, e1, Bool.false_and, Bool.not_false, Bool.and_true, decide_true, Bool.true_and, Nat.lt_succ_self, true_and, e4, e5]
      cases S (3 + s) k <;> cases decide (k = heX pk cc nq s) <;> cases decide (k = heX pk cc nq (s - 1)) <;> rfl
    · by_cases e2 : s = t + 1
      · subst e2
        have e1 : ¬ (3 + (t + 1) = 3 + t) := by omega
        have e4 : ¬ t + 1 < t := by omega
        have e5 : ¬ t + 1 < t + 1 := by omega
        have e6 : t + 1 - 1 = t := by omega
        have e7 : t < t + 1 := by omega
        simp only [e1, e4, e5, e6, e7, Nat.lt_irrefl, false_and, true_and, decide_false, decide_true, Bool.false_or, Bool.false_and, Bool.true_and, Bool.not_false, Bool.and_true]
      · have e1 : ¬ (3 + s = 3 + t) := by omega
        have e3 : ¬ (3 + s = 3 + (t + 1)) := by omega
        have e4 : (s < t) ↔ (s < t + 1) := by omega
        have e5 : (s - 1 < t) ↔ (s - 1 < t + 1) := by omega
        simp only [e1, e3, e4, e5, decide_false, Bool.false_and, Bool.not_false, Bool.and_true]
  · rw [drp_at, drp_at, drp_at, drp_at, a2 s k h1 h2 hk]
    have e1 : ¬ (156 + s = 3 + t) := by omega
    have e3 : ¬ (156 + s = 3 + (t + 1)) := by omega
    simp only [e1, e3, decide_false, Bool.false_and, Bool.not_false, Bool.and_true]
    by_cases e : s = t
    · subst e
      have x1 : ¬ (156 + s = 156 + (s - 1)) := by omega
      have x2 : ¬ s + 1 < s := by omega
      have x3 : s < s + 1 := by omega
      simp only [x1, x2, x3, hs, Nat.lt_irrefl, false_and, true_and, decide_false, decide_true, Bool.false_or, Bool.or_false, Bool.false_and, Bool.true_and, Bool.not_false, Bool.and_true, ne_eq, not_false_eq_true]
    · by_cases e2 : s + 1 = t
      · subst e2
        have x1 : ¬ (156 + s = 156 + (s + 1)) := by omega
        have x2 : s + 1 - 1 = s := by omega
        have x3 : s < s + 1 := by omega
        have x4 : s < s + 1 + 1 := by omega
        have x5 : s + 1 < s + 1 + 1 := by omega
        have x6 : nq (s + 2) ≠ nq (s + 1) := hs
        simp only [x1, x2, x3, x4, x5, x6, Nat.lt_irrefl, false_and, true_and, decide_false, decide_true, Bool.false_or, Bool.or_false, Bool.false_and, Bool.true_and, Bool.not_false, Bool.and_true, ne_eq, not_false_eq_true]
        cases S (156 + s) k <;> cases decide (k = heX pk cc nq (s + 1)) <;> cases decide (¬ nq (s + 1) = nq s ∧ k = heX pk cc nq s) <;> rfl
      · have x1 : ¬ (156 + s = 156 + (t - 1)) := by omega
        have x2 : ¬ (156 + s = 156 + t) := by omega
        have e4 : (s < t) ↔ (s < t + 1) := by omega
        have e5 : (s + 1 < t) ↔ (s + 1 < t + 1) := by omega
        simp only [x1, x2, e4, e5, decide_false, Bool.false_and, Bool.not_false, Bool.and_true]
  · rw [drp_at, drp_at, drp_at, drp_at, a3 i k hi h hk]
    have e1 : ¬ (i = 3 + t) := by omega
    have e3 : ¬ (i = 3 + (t + 1)) := by omega
    have e4 : ¬ (i = 156 + t) := by omega
    have e5 : ¬ (i = 156 + (t - 1)) := by omega
    simp [e1, e3, e4, e5]
/-- the other one is kept clear of -/
def kcE (S1 S : Nat → Nat → Bool) (pk : Nat) (cc nq : Nat → Nat) : Prop :=
  (∀ s k, 1 ≤ s → s ≤ 150 → k < 96 → S1 (3 + s) k = (S (3 + s) k && !(decide (k = heX pk cc nq s) || decide (k = heX pk cc nq (s - 1))))) ∧
  (∀ s k, 1 ≤ s → s ≤ 150 → k < 96 → S1 (156 + s) k = (S (156 + s) k && !(decide (nq (s + 1) ≠ nq s ∧ k = heX pk cc nq s) || decide (nq (s + 2) ≠ nq (s + 1) ∧ k = heX pk cc nq (s + 1))))) ∧
  ∀ i k, i < 762 → (i < 3 ∨ 309 ≤ i) → k < 96 → S1 i k = S i k
theorem kcI_end {S1 S : Nat → Nat → Bool} {pk t n : Nat} {cc nq : Nat → Nat} (h : kcI S1 S pk cc nq t) (ht : 1 ≤ t) (he : 152 ≤ t ∨ ∀ s, t ≤ s → s ≤ 152 → nq s = n) (hh : cel pk cc n = pk) (hb : ∀ s k, 1 ≤ s → s ≤ 150 → k < 96 → S (3 + s) k = true → k ≠ pk) : kcE S1 S pk cc nq := by
  obtain ⟨a1, a2, a3⟩ := h
  refine ⟨fun s k h1 h2 hk => ?_, fun s k h1 h2 hk => ?_, a3⟩
  · rw [a1 s k h1 h2 hk]
    cases e : S (3 + s) k with
    | false => rfl
    | true =>
      have hp := hb s k h1 h2 hk e
      rcases he with he | he
      · have e1 : s < t := by omega
        have e2 : s - 1 < t := by omega
        simp [e1, e2]
      · have q1 : (s < t ∧ k = heX pk cc nq s) ↔ (k = heX pk cc nq s) := by
          constructor
          · exact fun z => z.2
          · intro z
            refine ⟨Nat.lt_of_not_le (fun q => hp ?_), z⟩
            rw [z]; show cel pk cc (nq (s + 1)) = pk; rw [he (s + 1) (by omega) (by omega)]; exact hh
        have q2 : (s - 1 < t ∧ k = heX pk cc nq (s - 1)) ↔ (k = heX pk cc nq (s - 1)) := by
          constructor
          · exact fun z => z.2
          · intro z
            refine ⟨Nat.lt_of_not_le (fun q => hp ?_), z⟩
            rw [z]; show cel pk cc (nq (s - 1 + 1)) = pk; rw [he (s - 1 + 1) (by omega) (by omega)]; exact hh
        rw [decide_eq_decide.mpr q1, decide_eq_decide.mpr q2]
  · rw [a2 s k h1 h2 hk]
    rcases he with he | he
    · have e1 : s < t := by omega
      have e2 : s + 1 < t := by omega
      simp [e1, e2]
    · have q1 : (s < t ∧ nq (s + 1) ≠ nq s ∧ k = heX pk cc nq s) ↔ (nq (s + 1) ≠ nq s ∧ k = heX pk cc nq s) := by
        constructor
        · exact fun z => z.2
        · intro z
          exact ⟨Nat.lt_of_not_le (fun q => z.1 (by rw [he (s + 1) (by omega) (by omega), he s q (by omega)])), z⟩
      have q2 : (s + 1 < t ∧ nq (s + 2) ≠ nq (s + 1) ∧ k = heX pk cc nq (s + 1)) ↔ (nq (s + 2) ≠ nq (s + 1) ∧ k = heX pk cc nq (s + 1)) := by
        constructor
        · exact fun z => z.2
        · intro z
          exact ⟨Nat.lt_of_not_le (fun q => z.1 (by rw [he (s + 2) (by omega) (by omega), he (s + 1) q (by omega)])), z⟩
      rw [decide_eq_decide.mpr q1, decide_eq_decide.mpr q2]
set_option maxHeartbeats 4000000 in
set_option maxRecDepth 100000 in
theorem k_Pln_keepClearOf (l : Launch) (G : GG) {P : List Nat} {f : Nat → va_E} {pl va : Nat} {da ca : Nat → Nat} {f0 : Nat → va_E} {S : Nat → Nat → Bool} {Wy F : Nat → Int32} (hP : pS G pl va da ca P f0 f S Wy F) (a : Nat) (num made alw knw grt lat fin jm : Int32) (mv : Nat) (hm_a : a ∈ P) (pk : Nat) (hc_a : f a = .inr (8, [.int num, .int (nI pk), .ref mv, .int made, .int alw, .int knw, .int grt, .int lat, .int fin, .int jm])) (cap n : Nat) (g : Nat → Nat) (hL : lsS G P f mv cap n g) (mc mt : Nat → Int32) (hmv : ∀ i, i < n → g i ∈ P ∧ f (g i) = .inr (6, [.int (mc i), .int (mt i)])) (hn : n < 60000) (cc tt nq : Nat → Nat) (cl : Nat) (hcl : cl < 1000000) (hmc : ∀ i, i < n → mc i = nI (cc i)) (htt : ∀ i, i < n → mt i = nI (tt i)) (htl : ∀ i, i < n → tt i < 1000000) (hcel : ∀ k, k ≤ n → cel pk cc k < 96) (hinc : inc n tt) (hT : tOk n cl tt nq) (hhome : cel pk cc n = pk) (hbase : ∀ s k, 1 ≤ s → s ≤ 150 → k < 96 → S (3 + s) k = true → k ≠ pk)  : ct0 l G y_Pln_keepClearOf c_Pln_keepClearOf 6 none 4 86 [.ref pl, .ref a, .int (nI cl)] P f (fun x f1 => x = none ∧ ∃ S', kcE S' S pk cc nq ∧ pS G pl va da ca P f0 f1 S' Wy F) := by
  refine ct_intro (by decide) [some (.ref pl), some (.ref a), some (.int (nI cl)), none, none, none] rfl rfl (Nat.le_of_ble_eq_true rfl) ?_
  intro p e s m below meth c ls C hr hlk hnm hE hM hl
  have hPo := hP
  have hP0 := hPo.self
  have hP := hPo.self
  have hc0 := hc_a
  have hL0 := hL
  have hmv0 := hmv
  refine lv_aload_n C.1 C.2.1 d_Pln_keepClearOf_0 rfl (lo_at hl 1 rfl) ?_
  refine lv_iload_n C.1 C.2.1 d_Pln_keepClearOf_1 rfl (lo_at hl 2 rfl) ?_
  refine cg_callV C hE hM (k_Veh_movesUpTo l G a _ _ _ _ _ _ _ _ _ _ hm_a hc_a cap n g hL mc mt hmv hn _) hm_a hc_a rfl tw_681 cy_Veh_movesUpTo ⟨(Nat.le_of_ble_eq_true rfl), (Nat.le_of_ble_eq_true rfl)⟩ rfl hl.1 rfl (Nat.le_of_ble_eq_true rfl) ⟨Nat.zero_le _, Nat.zero_le _⟩ d_Pln_keepClearOf_2 (fun x9 f11 H1 locs1 hp hM => ?_)
  obtain ⟨k9, hx9, hk9, hk1, hk2, h9⟩ := hp
  subst hx9
  rw [h9] at hM
  clear h9
  have hkq : k9 = nq 1 := nq_first hinc hT (fun i h1 h2 => by have := hk1 i h1 h2; rw [htt i h2] at this; exact (nI_ltI (by omega) (by have := htl i h2; omega)).mp this) (fun h => by have := hk2 h; rw [htt _ (by omega)] at this; exact (nI_leI (by have := htl (k9 - 1) (by omega); omega) (by omega)).mp this) hk9
  subst hkq
  refine W.eq (g2 := F0 m 5 ls [_]) rfl ?_
  refine lo_istore_n C hl d_Pln_keepClearOf_5 (Nat.le_of_ble_eq_true rfl) rfl (fun ls hl => ?_)
  refine lv_aload_n C.1 C.2.1 d_Pln_keepClearOf_6 rfl (lo_at hl 1 rfl) ?_
  refine lv_iload_n C.1 C.2.1 d_Pln_keepClearOf_7 rfl (lo_at hl 3 rfl) ?_
  refine cg_callV C hE hM (k_Veh_placeAfter l G a _ _ _ _ _ _ _ _ _ _ hm_a hc_a cap n g hL mc mt hmv hn _) hm_a hc_a rfl tw_686 cy_Veh_placeAfter ⟨(Nat.le_of_ble_eq_true rfl), (Nat.le_of_ble_eq_true rfl)⟩ rfl hl.1 rfl (Nat.le_of_ble_eq_true rfl) ⟨Nat.zero_le _, Nat.zero_le _⟩ d_Pln_keepClearOf_8 (fun x9 f12 H1 locs1 hp hM => ?_)
  obtain ⟨rfl, h9⟩ := hp
  rw [h9] at hM
  clear h9
  refine W.eq (g2 := F0 m 11 ls [_]) rfl ?_
  rw [plA_cel hk9 hn hmc]
  refine lo_istore C hl d_Pln_keepClearOf_11 (Nat.le_of_ble_eq_true rfl) rfl (fun ls hl => ?_)
  refine lv_aload_n C.1 C.2.1 d_Pln_keepClearOf_13 rfl (lo_at hl 0 rfl) ?_
  refine pg_get C hE hM hP.1.1 hP.2.2.1.1 rfl in_Pln 2 (Nat.le_of_ble_eq_true rfl) tw_531 rfl rfl d_Pln_keepClearOf_14 ?_
  refine lv_iconst (v := 1) C.1 C.2.1 d_Pln_keepClearOf_17 (by decide) ?_
  rw [show (1 : Int32) = nI 1 from rfl]
  refine cg_aald C hE hM (hP.1.2.1 0 (Nat.le_of_ble_eq_true rfl)) hP.2.2.1.2.1 rfl (1) rfl (by omega) (Nat.le_of_ble_eq_true rfl) rfl d_Pln_keepClearOf_18 ?_
  refine lv_iload C.1 C.2.1 d_Pln_keepClearOf_19 (lo_at hl 4 rfl) ?_
  obtain ⟨_, _, hc9, -⟩ := (hP.2.2.2.1 (3 + (1)) (show 3 + (1) < 762 by omega)).words
  refine cg_callV C hE hM (k_Cel_drop l G (ca (3 + (1))) _ (hP.1.2.2.1 (3 + (1)) (show 3 + (1) < 762 by omega)) (hP.2.2.2.1 (3 + (1)) (show 3 + (1) < 762 by omega)) (cel pk cc (nq 1)) (hcel _ (hT 1 (by omega)).1)) (hP.1.2.2.1 (3 + (1)) (show 3 + (1) < 762 by omega)) hc9 rfl tw_687 cy_Cel_drop ⟨(Nat.le_of_ble_eq_true rfl), (Nat.le_of_ble_eq_true rfl)⟩ rfl hl.1 rfl (Nat.le_of_ble_eq_true rfl) ⟨Nat.zero_le _, Nat.zero_le _⟩ d_Pln_keepClearOf_21 (fun x9 f13 H1 locs1 hp hM => ?_)
  have hx9 := hp.1
  subst hx9
  have hP := hP.setc (show 3 + (1) < 762 by omega) hp.2
  clear hc9
  refine W.eq (g2 := F0 m 24 ls []) rfl ?_
  refine lv_iconst (v := 1) C.1 C.2.1 d_Pln_keepClearOf_24 (by decide) ?_
  refine lo_istore C hl d_Pln_keepClearOf_25 (Nat.le_of_ble_eq_true rfl) rfl (fun ls hl => ?_)
  refine W.loop (α := (Nat) × (Nat → Nat → Bool) × (Array Slot) × (Heap) × (List Loc) × (Nat → va_E)) (fun zz => 152 - zz.1) (fun zz => (1 ≤ zz.1) ∧ (zz.1 ≤ 152) ∧ (kcI zz.2.1 S pk cc nq zz.1) ∧ (nq zz.1 ≤ n) ∧ (pS G pl va da ca P f zz.2.2.2.2.2 zz.2.1 Wy F) ∧ lo zz.2.2.1 [some (.ref pl), some (.ref a), some (.int (nI cl)), some (.int (nI (nq zz.1))), some (.int (nI (cel pk cc (nq zz.1)))), some (.int (nI zz.1))] ∧ pgS G (pgA P s.heap.size) s.heap P zz.2.2.2.2.2 zz.2.2.2.1 zz.2.2.2.2.1) (fun zz => zz.2.2.2.1) (fun zz => zz.2.2.2.2.1) (fun zz => 0) (fun zz => 0) (fun zz => F0 m 27 zz.2.2.1 []) ?_ (1, _, ls, H1, locs1, f13) ⟨Nat.le_refl _, by (try dsimp only); omega, kcI_0, hk9, hP, lo_weak hl ⟨rfl, rfl, rfl, rfl, rfl, rfl, trivial⟩, hM⟩
  rintro ⟨t, S1, ls, H1, locs1, f1⟩ ⟨h1t, ht, hI, hqn, hP, hl, hM⟩ ih27
  dsimp only at h1t ht hI hqn hP hl hM
  show W _ _ _ _ _ _ _ _ _ _ _ _ _ _ _ (F0 m 27 ls [])
  refine lv_iload C.1 C.2.1 d_Pln_keepClearOf_27 (lo_at hl 5 rfl) ?_
  refine lv_sipush (v := 152) C.1 C.2.1 d_Pln_keepClearOf_29 (by decide) ?_
  rw [show (152 : Int32) = nI 152 from rfl]
  refine lv_icmp_ge (tgt := 135) C.1 C.2.1 d_Pln_keepClearOf_32 (by decide) (fun hc32 => ?_) (fun hc32 => ?_)
  · refine cg_vret C hr hlk hM d_Pln_keepClearOf_135 ?_
    refine ⟨rfl, S1, kcI_end hI h1t (Or.inl (nI_leN (by omega) (by omega) hc32)) hhome hbase, hPo.trans hP⟩
  · have ht9 : t < 152 := nI_ltN (by omega) (by omega) hc32
    have hc_a := hP.oth hP0 hc0 (by decide) (by decide)
    have hL := hP.lst hP0 hL0
    have hmv : ∀ i, i < n → g i ∈ P ∧ f1 (g i) = .inr (6, [.int (mc i), .int (mt i)]) := fun i hi => ⟨(hmv0 i hi).1, hP.oth hP0 (hmv0 i hi).2 (by decide) (by decide)⟩
    refine lv_iload_n C.1 C.2.1 d_Pln_keepClearOf_35 rfl (lo_at hl 3 rfl) ?_
    refine lv_aload_n C.1 C.2.1 d_Pln_keepClearOf_36 rfl (lo_at hl 1 rfl) ?_
    refine pg_getN C hE hM hm_a hc_a rfl in_Veh 2 (Nat.le_of_ble_eq_true rfl) nw_479 rfl rfl d_Pln_keepClearOf_37 ?_
    obtain ⟨_, _, hc_mv⟩ := hL.cell
    refine cg_callV C hE hM (q_size l G hL) hL.1 hc_mv rfl tw_691 cy_AL_size ⟨(Nat.le_of_ble_eq_true rfl), (Nat.le_of_ble_eq_true rfl)⟩ rfl hl.1 rfl (Nat.le_of_ble_eq_true rfl) ⟨Nat.zero_le _, Nat.zero_le _⟩ d_Pln_keepClearOf_40 (fun x9 f14 H1 locs1 hp hM => ?_)
    obtain ⟨rfl, h9⟩ := hp
    rw [h9] at hM
    clear h9
    refine W.eq (g2 := F0 m 43 ls [_, _]) rfl ?_
    refine lv_icmp_ge (tgt := 135) C.1 C.2.1 d_Pln_keepClearOf_43 (by decide) (fun hc43 => ?_) (fun hc43 => ?_)
    · refine cg_vret C hr hlk hM d_Pln_keepClearOf_135 ?_
      refine ⟨rfl, S1, kcI_end hI h1t (Or.inr (nq_end hT (nI_leN (by omega) (by omega) hc43))) hhome hbase, hPo.trans hP⟩
    · have hq9 : nq t < n := nI_ltN (by omega) (by omega) hc43
      obtain ⟨hm_g, hc_g⟩ := hmv (nq t) hq9
      refine lv_aload_n C.1 C.2.1 d_Pln_keepClearOf_46 rfl (lo_at hl 1 rfl) ?_
      refine pg_getN C hE hM hm_a hc_a rfl in_Veh 2 (Nat.le_of_ble_eq_true rfl) nw_479 rfl rfl d_Pln_keepClearOf_47 ?_
      refine lv_iload_n C.1 C.2.1 d_Pln_keepClearOf_50 rfl (lo_at hl 3 rfl) ?_
      obtain ⟨_, _, hc_mv⟩ := hL.cell
      refine cg_callV C hE hM (q_get l G hL (nq t) hq9) hL.1 hc_mv rfl tw_692 cy_AL_get ⟨(Nat.le_of_ble_eq_true rfl), (Nat.le_of_ble_eq_true rfl)⟩ rfl hl.1 rfl (Nat.le_of_ble_eq_true rfl) ⟨Nat.zero_le _, Nat.zero_le _⟩ d_Pln_keepClearOf_51 (fun x9 f15 H1 locs1 hp hM => ?_)
      obtain ⟨rfl, h9⟩ := hp
      rw [h9] at hM
      clear h9
      refine W.eq (g2 := F0 m 54 ls [_]) rfl ?_
      refine cg_cast C hE hM hm_g hc_g rfl tw_693 d_Pln_keepClearOf_54 ?_
      refine cg_callV C hE hM (k_Mov_time l G _ _ _ hm_g hc_g) hm_g hc_g rfl tw_694 cy_Mov_time ⟨(Nat.le_of_ble_eq_true rfl), (Nat.le_of_ble_eq_true rfl)⟩ rfl hl.1 rfl (Nat.le_of_ble_eq_true rfl) ⟨Nat.zero_le _, Nat.zero_le _⟩ d_Pln_keepClearOf_57 (fun x9 f16 H1 locs1 hp hM => ?_)
      obtain ⟨rfl, h9⟩ := hp
      rw [h9] at hM
      clear h9
      refine W.eq (g2 := F0 m 60 ls [_]) rfl ?_
      refine lv_iload_n C.1 C.2.1 d_Pln_keepClearOf_60 rfl (lo_at hl 2 rfl) ?_
      refine lv_iload C.1 C.2.1 d_Pln_keepClearOf_61 (lo_at hl 5 rfl) ?_
      refine lv_iadd C.1 C.2.1 d_Pln_keepClearOf_63 ?_
      rw [nI_add, htt _ hq9]
      refine lv_icmp_ne (tgt := 103) C.1 C.2.1 d_Pln_keepClearOf_64 (by decide) (fun hc64 => ?_) (fun hc64 => ?_)
      · have hsm := nq_same hinc hT (by omega) hq9 (fun z => hc64 (by rw [z]))
        have hl := hl
        rw [show nI (cel pk cc (nq t)) = nI (cel pk cc (nq (t + 1))) from by rw [hsm]] at hl
        refine lv_aload_n C.1 C.2.1 d_Pln_keepClearOf_103 rfl (lo_at hl 0 rfl) ?_
        refine pg_get C hE hM hP.1.1 hP.2.2.1.1 rfl in_Pln 2 (Nat.le_of_ble_eq_true rfl) tw_531 rfl rfl d_Pln_keepClearOf_104 ?_
        refine lv_iload C.1 C.2.1 d_Pln_keepClearOf_107 (lo_at hl 5 rfl) ?_
        refine cg_aald C hE hM (hP.1.2.1 0 (Nat.le_of_ble_eq_true rfl)) hP.2.2.1.2.1 rfl (t) rfl (by omega) (Nat.le_of_ble_eq_true rfl) rfl d_Pln_keepClearOf_109 ?_
        refine lv_iload C.1 C.2.1 d_Pln_keepClearOf_110 (lo_at hl 4 rfl) ?_
        obtain ⟨_, _, hc9, -⟩ := (hP.2.2.2.1 (3 + (t)) (show 3 + (t) < 762 by omega)).words
        refine cg_callV C hE hM (k_Cel_drop l G (ca (3 + (t))) _ (hP.1.2.2.1 (3 + (t)) (show 3 + (t) < 762 by omega)) (hP.2.2.2.1 (3 + (t)) (show 3 + (t) < 762 by omega)) (cel pk cc (nq (t + 1))) (hcel _ (hT (t + 1) (by omega)).1)) (hP.1.2.2.1 (3 + (t)) (show 3 + (t) < 762 by omega)) hc9 rfl tw_687 cy_Cel_drop ⟨(Nat.le_of_ble_eq_true rfl), (Nat.le_of_ble_eq_true rfl)⟩ rfl hl.1 rfl (Nat.le_of_ble_eq_true rfl) ⟨Nat.zero_le _, Nat.zero_le _⟩ d_Pln_keepClearOf_112 (fun x9 f17 H1 locs1 hp hM => ?_)
        have hx9 := hp.1
        subst hx9
        have hP := hP.setc (show 3 + (t) < 762 by omega) hp.2
        clear hc9
        refine W.eq (g2 := F0 m 115 ls []) rfl ?_
        refine lv_aload_n C.1 C.2.1 d_Pln_keepClearOf_115 rfl (lo_at hl 0 rfl) ?_
        refine pg_get C hE hM hP.1.1 hP.2.2.1.1 rfl in_Pln 2 (Nat.le_of_ble_eq_true rfl) tw_531 rfl rfl d_Pln_keepClearOf_116 ?_
        refine lv_iload C.1 C.2.1 d_Pln_keepClearOf_119 (lo_at hl 5 rfl) ?_
        refine lv_iconst (v := 1) C.1 C.2.1 d_Pln_keepClearOf_121 (by decide) ?_
        refine lv_iadd C.1 C.2.1 d_Pln_keepClearOf_122 ?_
        rw [show (1 : Int32) = nI 1 from rfl, nI_add]
        refine cg_aald C hE hM (hP.1.2.1 0 (Nat.le_of_ble_eq_true rfl)) hP.2.2.1.2.1 rfl (t + 1) rfl (by omega) (Nat.le_of_ble_eq_true rfl) rfl d_Pln_keepClearOf_123 ?_
        refine lv_iload C.1 C.2.1 d_Pln_keepClearOf_124 (lo_at hl 4 rfl) ?_
        obtain ⟨_, _, hc9, -⟩ := (hP.2.2.2.1 (3 + (t + 1)) (show 3 + (t + 1) < 762 by omega)).words
        refine cg_callV C hE hM (k_Cel_drop l G (ca (3 + (t + 1))) _ (hP.1.2.2.1 (3 + (t + 1)) (show 3 + (t + 1) < 762 by omega)) (hP.2.2.2.1 (3 + (t + 1)) (show 3 + (t + 1) < 762 by omega)) (cel pk cc (nq (t + 1))) (hcel _ (hT (t + 1) (by omega)).1)) (hP.1.2.2.1 (3 + (t + 1)) (show 3 + (t + 1) < 762 by omega)) hc9 rfl tw_687 cy_Cel_drop ⟨(Nat.le_of_ble_eq_true rfl), (Nat.le_of_ble_eq_true rfl)⟩ rfl hl.1 rfl (Nat.le_of_ble_eq_true rfl) ⟨Nat.zero_le _, Nat.zero_le _⟩ d_Pln_keepClearOf_126 (fun x9 f18 H1 locs1 hp hM => ?_)
        have hx9 := hp.1
        subst hx9
        have hP := hP.setc (show 3 + (t + 1) < 762 by omega) hp.2
        clear hc9
        refine W.eq (g2 := F0 m 129 ls []) rfl ?_
        refine lo_iinc C hl d_Pln_keepClearOf_129 rfl rfl (fun ls hl => ?_)
        refine lv_goto (tgt := 27) C.1 C.2.1 d_Pln_keepClearOf_132 (by decide) ?_
        have hIn := kcI_n hI h1t (by omega) hsm
        have hq2 := (hT (t + 1) (by omega)).1
        have h9 := hl
        rw [nI_pl, ← hsm] at h9
        exact ih27 (t + 1, _, ls, H1, locs1, f18) ⟨by (try dsimp only); omega, by (try dsimp only); omega, hIn, hq2, hP, lo_weak h9 ⟨rfl, rfl, rfl, rfl, rfl, rfl, trivial⟩, hM⟩ (by show 152 - (t + 1) < 152 - t; omega)
      · have he9 : tt (nq t) = cl + t := nI_eqN (by have := htl _ hq9; omega) (by omega) hc64
        have hup := nq_up hinc hT (by omega) hq9 he9
        refine lo_iinc C hl d_Pln_keepClearOf_67 rfl rfl (fun ls hl => ?_)
        refine lv_aload_n C.1 C.2.1 d_Pln_keepClearOf_70 rfl (lo_at hl 1 rfl) ?_
        refine lv_iload_n C.1 C.2.1 d_Pln_keepClearOf_71 rfl (lo_at hl 3 rfl) ?_
        refine cg_callV C hE hM (k_Veh_placeAfter l G a _ _ _ _ _ _ _ _ _ _ hm_a hc_a cap n g hL mc mt hmv hn _) hm_a hc_a rfl tw_686 cy_Veh_placeAfter ⟨(Nat.le_of_ble_eq_true rfl), (Nat.le_of_ble_eq_true rfl)⟩ rfl hl.1 rfl (Nat.le_of_ble_eq_true rfl) ⟨Nat.zero_le _, Nat.zero_le _⟩ d_Pln_keepClearOf_72 (fun x9 f17 H1 locs1 hp hM => ?_)
        obtain ⟨rfl, h9⟩ := hp
        rw [h9] at hM
        clear h9
        refine W.eq (g2 := F0 m 75 ls [_]) rfl ?_
        rw [nI_pl, plA_cel (by omega) hn hmc, ← hup]
        refine lo_istore C hl d_Pln_keepClearOf_75 (Nat.le_of_ble_eq_true rfl) rfl (fun ls hl => ?_)
        refine lv_aload_n C.1 C.2.1 d_Pln_keepClearOf_77 rfl (lo_at hl 0 rfl) ?_
        refine pg_get C hE hM hP.1.1 hP.2.2.1.1 rfl in_Pln 3 (Nat.le_of_ble_eq_true rfl) tw_532 rfl rfl d_Pln_keepClearOf_78 ?_
        refine lv_iload C.1 C.2.1 d_Pln_keepClearOf_81 (lo_at hl 5 rfl) ?_
        refine lv_iconst (v := 1) C.1 C.2.1 d_Pln_keepClearOf_83 (by decide) ?_
        refine lv_isub C.1 C.2.1 d_Pln_keepClearOf_84 ?_
        rw [show (1 : Int32) = nI 1 from rfl, pk_sub (by omega)]
        refine cg_aald C hE hM (hP.1.2.1 1 (Nat.le_of_ble_eq_true rfl)) hP.2.2.1.2.2.1 rfl (t - 1) rfl (by omega) (Nat.le_of_ble_eq_true rfl) rfl d_Pln_keepClearOf_85 ?_
        refine lv_iload C.1 C.2.1 d_Pln_keepClearOf_86 (lo_at hl 4 rfl) ?_
        obtain ⟨_, _, hc9, -⟩ := (hP.2.2.2.1 (156 + (t - 1)) (show 156 + (t - 1) < 762 by omega)).words
        refine cg_callV C hE hM (k_Cel_drop l G (ca (156 + (t - 1))) _ (hP.1.2.2.1 (156 + (t - 1)) (show 156 + (t - 1) < 762 by omega)) (hP.2.2.2.1 (156 + (t - 1)) (show 156 + (t - 1) < 762 by omega)) (cel pk cc (nq (t + 1))) (hcel _ (hT (t + 1) (by omega)).1)) (hP.1.2.2.1 (156 + (t - 1)) (show 156 + (t - 1) < 762 by omega)) hc9 rfl tw_687 cy_Cel_drop ⟨(Nat.le_of_ble_eq_true rfl), (Nat.le_of_ble_eq_true rfl)⟩ rfl hl.1 rfl (Nat.le_of_ble_eq_true rfl) ⟨Nat.zero_le _, Nat.zero_le _⟩ d_Pln_keepClearOf_88 (fun x9 f18 H1 locs1 hp hM => ?_)
        have hx9 := hp.1
        subst hx9
        have hP := hP.setc (show 156 + (t - 1) < 762 by omega) hp.2
        clear hc9
        refine W.eq (g2 := F0 m 91 ls []) rfl ?_
        refine lv_aload_n C.1 C.2.1 d_Pln_keepClearOf_91 rfl (lo_at hl 0 rfl) ?_
        refine pg_get C hE hM hP.1.1 hP.2.2.1.1 rfl in_Pln 3 (Nat.le_of_ble_eq_true rfl) tw_532 rfl rfl d_Pln_keepClearOf_92 ?_
        refine lv_iload C.1 C.2.1 d_Pln_keepClearOf_95 (lo_at hl 5 rfl) ?_
        refine cg_aald C hE hM (hP.1.2.1 1 (Nat.le_of_ble_eq_true rfl)) hP.2.2.1.2.2.1 rfl (t) rfl (by omega) (Nat.le_of_ble_eq_true rfl) rfl d_Pln_keepClearOf_97 ?_
        refine lv_iload C.1 C.2.1 d_Pln_keepClearOf_98 (lo_at hl 4 rfl) ?_
        obtain ⟨_, _, hc9, -⟩ := (hP.2.2.2.1 (156 + (t)) (show 156 + (t) < 762 by omega)).words
        refine cg_callV C hE hM (k_Cel_drop l G (ca (156 + (t))) _ (hP.1.2.2.1 (156 + (t)) (show 156 + (t) < 762 by omega)) (hP.2.2.2.1 (156 + (t)) (show 156 + (t) < 762 by omega)) (cel pk cc (nq (t + 1))) (hcel _ (hT (t + 1) (by omega)).1)) (hP.1.2.2.1 (156 + (t)) (show 156 + (t) < 762 by omega)) hc9 rfl tw_687 cy_Cel_drop ⟨(Nat.le_of_ble_eq_true rfl), (Nat.le_of_ble_eq_true rfl)⟩ rfl hl.1 rfl (Nat.le_of_ble_eq_true rfl) ⟨Nat.zero_le _, Nat.zero_le _⟩ d_Pln_keepClearOf_100 (fun x9 f19 H1 locs1 hp hM => ?_)
        have hx9 := hp.1
        subst hx9
        have hP := hP.setc (show 156 + (t) < 762 by omega) hp.2
        clear hc9
        refine W.eq (g2 := F0 m 103 ls []) rfl ?_
        refine lv_aload_n C.1 C.2.1 d_Pln_keepClearOf_103 rfl (lo_at hl 0 rfl) ?_
        refine pg_get C hE hM hP.1.1 hP.2.2.1.1 rfl in_Pln 2 (Nat.le_of_ble_eq_true rfl) tw_531 rfl rfl d_Pln_keepClearOf_104 ?_
        refine lv_iload C.1 C.2.1 d_Pln_keepClearOf_107 (lo_at hl 5 rfl) ?_
        refine cg_aald C hE hM (hP.1.2.1 0 (Nat.le_of_ble_eq_true rfl)) hP.2.2.1.2.1 rfl (t) rfl (by omega) (Nat.le_of_ble_eq_true rfl) rfl d_Pln_keepClearOf_109 ?_
        refine lv_iload C.1 C.2.1 d_Pln_keepClearOf_110 (lo_at hl 4 rfl) ?_
        obtain ⟨_, _, hc9, -⟩ := (hP.2.2.2.1 (3 + (t)) (show 3 + (t) < 762 by omega)).words
        refine cg_callV C hE hM (k_Cel_drop l G (ca (3 + (t))) _ (hP.1.2.2.1 (3 + (t)) (show 3 + (t) < 762 by omega)) (hP.2.2.2.1 (3 + (t)) (show 3 + (t) < 762 by omega)) (cel pk cc (nq (t + 1))) (hcel _ (hT (t + 1) (by omega)).1)) (hP.1.2.2.1 (3 + (t)) (show 3 + (t) < 762 by omega)) hc9 rfl tw_687 cy_Cel_drop ⟨(Nat.le_of_ble_eq_true rfl), (Nat.le_of_ble_eq_true rfl)⟩ rfl hl.1 rfl (Nat.le_of_ble_eq_true rfl) ⟨Nat.zero_le _, Nat.zero_le _⟩ d_Pln_keepClearOf_112 (fun x9 f20 H1 locs1 hp hM => ?_)
        have hx9 := hp.1
        subst hx9
        have hP := hP.setc (show 3 + (t) < 762 by omega) hp.2
        clear hc9
        refine W.eq (g2 := F0 m 115 ls []) rfl ?_
        refine lv_aload_n C.1 C.2.1 d_Pln_keepClearOf_115 rfl (lo_at hl 0 rfl) ?_
        refine pg_get C hE hM hP.1.1 hP.2.2.1.1 rfl in_Pln 2 (Nat.le_of_ble_eq_true rfl) tw_531 rfl rfl d_Pln_keepClearOf_116 ?_
        refine lv_iload C.1 C.2.1 d_Pln_keepClearOf_119 (lo_at hl 5 rfl) ?_
        refine lv_iconst (v := 1) C.1 C.2.1 d_Pln_keepClearOf_121 (by decide) ?_
        refine lv_iadd C.1 C.2.1 d_Pln_keepClearOf_122 ?_
        rw [show (1 : Int32) = nI 1 from rfl, nI_add]
        refine cg_aald C hE hM (hP.1.2.1 0 (Nat.le_of_ble_eq_true rfl)) hP.2.2.1.2.1 rfl (t + 1) rfl (by omega) (Nat.le_of_ble_eq_true rfl) rfl d_Pln_keepClearOf_123 ?_
        refine lv_iload C.1 C.2.1 d_Pln_keepClearOf_124 (lo_at hl 4 rfl) ?_
        obtain ⟨_, _, hc9, -⟩ := (hP.2.2.2.1 (3 + (t + 1)) (show 3 + (t + 1) < 762 by omega)).words
        refine cg_callV C hE hM (k_Cel_drop l G (ca (3 + (t + 1))) _ (hP.1.2.2.1 (3 + (t + 1)) (show 3 + (t + 1) < 762 by omega)) (hP.2.2.2.1 (3 + (t + 1)) (show 3 + (t + 1) < 762 by omega)) (cel pk cc (nq (t + 1))) (hcel _ (hT (t + 1) (by omega)).1)) (hP.1.2.2.1 (3 + (t + 1)) (show 3 + (t + 1) < 762 by omega)) hc9 rfl tw_687 cy_Cel_drop ⟨(Nat.le_of_ble_eq_true rfl), (Nat.le_of_ble_eq_true rfl)⟩ rfl hl.1 rfl (Nat.le_of_ble_eq_true rfl) ⟨Nat.zero_le _, Nat.zero_le _⟩ d_Pln_keepClearOf_126 (fun x9 f21 H1 locs1 hp hM => ?_)
        have hx9 := hp.1
        subst hx9
        have hP := hP.setc (show 3 + (t + 1) < 762 by omega) hp.2
        clear hc9
        refine W.eq (g2 := F0 m 129 ls []) rfl ?_
        refine lo_iinc C hl d_Pln_keepClearOf_129 rfl rfl (fun ls hl => ?_)
        refine lv_goto (tgt := 27) C.1 C.2.1 d_Pln_keepClearOf_132 (by decide) ?_
        have hIn := kcI_m hI h1t (by omega) (by omega)
        have hq2 := (hT (t + 1) (by omega)).1
        have h9 := hl
        rw [nI_pl, nI_pl, ← hup] at h9
        exact ih27 (t + 1, _, ls, H1, locs1, f21) ⟨by (try dsimp only); omega, by (try dsimp only); omega, hIn, hq2, hP, lo_weak h9 ⟨rfl, rfl, rfl, rfl, rfl, rfl, trivial⟩, hM⟩ (by show 152 - (t + 1) < 152 - t; omega)
