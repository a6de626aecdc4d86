/-! the state between two calls -/
/-- N: 0 vehicles, 1 letters, 2 tasks, 3 stations, 4 planned, 5 rows of moves, 6 the clock; q, of each vehicle: 0 parking, 1 moves, 2 made, 3 may, 4 known, 5 granted; its cells, its times; X: 0 made when the latest task is finished, 1 it has just moved -/
abbrev KS : Type := (Nat → Nat) × (Nat → Nat → Nat) × (Nat → Nat → Nat) × (Nat → Nat → Nat) × (Nat → Nat → Int32)
abbrev KS.N (k : KS) : Nat → Nat := k.1
abbrev KS.q (k : KS) : Nat → Nat → Nat := k.2.1
abbrev KS.ce (k : KS) : Nat → Nat → Nat := k.2.2.1
abbrev KS.tm (k : KS) : Nat → Nat → Nat := k.2.2.2.1
abbrev KS.X (k : KS) : Nat → Nat → Int32 := k.2.2.2.2
abbrev KS.mk (N : Nat → Nat) (q ce tm : Nat → Nat → Nat) (X : Nat → Nat → Int32) : KS := (N, q, ce, tm, X)
def jCn (nv np : Nat) (q : Nat → Nat → Nat) (a23 a24 a25 a26 a27 : Nat → Int32) : Prop := ∀ u, u < nv → (a27 u = nI (q 1 u) ∧ a23 u = nI (q 2 u) ∧ a24 u = nI (q 3 u) ∧ a25 u = nI (q 4 u) ∧ a26 u = nI (q 5 u)) ∧ q 4 u ≤ q 2 u ∧ q 2 u ≤ q 3 u ∧ q 3 u ≤ q 5 u ∧ q 5 u ≤ q 1 u ∧ q 1 u ≤ 150 * np
def jMv (K : Nat → Int32) (nv np : Nat) (pk mu : Nat → Nat) (ce tm : Nat → Nat → Nat) : Prop := ∀ u, u < nv → (∀ i, i < mu u → ce u i < 96 ∧ (K (ce u i) = 1 ∨ K (ce u i) = 2 ∨ ce u i = pk u) ∧ tm u i ≤ 150 * np ∧ ce u i ≠ cel (pk u) (ce u) i) ∧ inc (mu u) (tm u) ∧ cel (pk u) (ce u) (mu u) = pk u
def jLt (nl nv : Nat) (md gr : Nat → Nat) (a32 a33 a34 : Nat → Int32) : Prop := ∀ j, j < nl → ∃ w n, a33 j = nI w ∧ w < nv ∧ a34 j = nI n ∧ ((a32 j = 0 ∧ n ≤ gr w) ∨ (a32 j = 1 ∧ n ≤ md w))
def jT1 (np nv ro : Nat) (mu md : Nat → Nat) (ce tm : Nat → Nat → Nat) (a13 a14 a15 a16 a17 a20 a21 a28 : Nat → Int32) : Prop := ∀ t, t < np → ∃ w a b m fi, a13 t = nI w ∧ w < nv ∧ a14 t = nI a ∧ a16 t = nI b ∧ a15 t = nI m ∧ a + m ≤ ro ∧ b + m ≤ mu w ∧ (∀ k, k < m → a20 (a + k) = nI (ce w (b + k)) ∧ a21 (a + k) = nI (tm w (b + k))) ∧ a17 t = nI fi ∧ fi < mu w ∧ (a28 w = nI t ∨ fi < md w)
def jT2 (np nv : Nat) (mu : Nat → Nat) (a13 a15 a16 : Nat → Int32) : Prop := ∀ u, u < nv → ∀ i, i < mu u → ∃ t b m, t < np ∧ a13 t = nI u ∧ a16 t = nI b ∧ a15 t = nI m ∧ b ≤ i ∧ i < b + m ∧ b + m ≤ mu u
def jLa (np nv : Nat) (x0 : Nat → Int32) (a13 a17 a28 : Nat → Int32) : Prop := ∀ u, u < nv → (a28 u = -1 ∧ x0 u = -1) ∨ ∃ t, t < np ∧ a28 u = nI t ∧ a13 t = nI u ∧ x0 u = a17 t + 1
abbrev JI (v : Nat → Int32) (A : Nat → Nat → Int32) (k : KS) : Prop := (v 4 = nI (k.N 0) ∧ k.N 0 ≤ 6) ∧ (v 31 = nI (k.N 1) ∧ k.N 1 ≤ 60) ∧ (v 9 = nI (k.N 2) ∧ k.N 2 ≤ 24) ∧ (v 3 = nI (k.N 3) ∧ k.N 3 ≤ 96) ∧ (v 10 = nI (k.N 4) ∧ k.N 4 ≤ k.N 2) ∧ (v 19 = nI (k.N 5) ∧ k.N 5 ≤ 150 * k.N 4) ∧ (v 29 = nI (k.N 6) ∧ k.N 6 ≤ 150 * k.N 4) ∧ ((v 1 = 0 ∧ k.N 0 = 0 ∧ k.N 2 = 0 ∧ k.N 3 = 0 ∧ ∀ u, u < 6 → A 23 u = 0 ∧ A 24 u = 0 ∧ A 25 u = 0 ∧ A 26 u = 0 ∧ A 27 u = 0) ∨ (v 1 = 1 ∧ good (A 2))) ∧ (kOk (A 2)) ∧ (∀ u, u < k.N 0 → A 6 u = nI (k.q 0 u) ∧ k.q 0 u < 96 ∧ A 2 (k.q 0 u) = 3) ∧ (∀ u w, u < k.N 0 → w < k.N 0 → k.q 0 u = k.q 0 w → u = w) ∧ (∀ j, j < k.N 3 → ∃ s, s < 96 ∧ A 5 j = nI s ∧ A 2 s = 2) ∧ (∀ t, t < k.N 2 → ∃ a b, A 11 t = nI a ∧ A 12 t = nI b ∧ a < 96 ∧ b < 96 ∧ A 2 a = 2 ∧ A 2 b = 2) ∧ (jCn (k.N 0) (k.N 4) k.q (A 23) (A 24) (A 25) (A 26) (A 27)) ∧ (∀ u, u < k.N 0 → A 22 u = nI (cel (k.q 0 u) (k.ce u) (k.q 2 u))) ∧ (jMv (A 2) (k.N 0) (k.N 4) (k.q 0) (k.q 1) k.ce k.tm) ∧ (∀ u, u < k.N 0 → ∀ i, i < k.q 5 u → k.tm u i ≤ k.N 6) ∧ (jLt (k.N 1) (k.N 0) (k.q 2) (k.q 5) (A 32) (A 33) (A 34)) ∧ (jT1 (k.N 4) (k.N 0) (k.N 5) (k.q 1) (k.q 2) k.ce k.tm (A 13) (A 14) (A 15) (A 16) (A 17) (A 20) (A 21) (A 28)) ∧ (jT2 (k.N 4) (k.N 0) (k.q 1) (A 13) (A 15) (A 16)) ∧ (jLa (k.N 4) (k.N 0) (k.X 0) (A 13) (A 17) (A 28))
theorem JI.n0 {v : Nat → Int32} {A : Nat → Nat → Int32} {k : KS} (h : JI v A k) : v 4 = nI (k.N 0) ∧ k.N 0 ≤ 6 := h.1
theorem JI.n1 {v : Nat → Int32} {A : Nat → Nat → Int32} {k : KS} (h : JI v A k) : v 31 = nI (k.N 1) ∧ k.N 1 ≤ 60 := h.2.1
theorem JI.n2 {v : Nat → Int32} {A : Nat → Nat → Int32} {k : KS} (h : JI v A k) : v 9 = nI (k.N 2) ∧ k.N 2 ≤ 24 := h.2.2.1
theorem JI.n3 {v : Nat → Int32} {A : Nat → Nat → Int32} {k : KS} (h : JI v A k) : v 3 = nI (k.N 3) ∧ k.N 3 ≤ 96 := h.2.2.2.1
theorem JI.n4 {v : Nat → Int32} {A : Nat → Nat → Int32} {k : KS} (h : JI v A k) : v 10 = nI (k.N 4) ∧ k.N 4 ≤ k.N 2 := h.2.2.2.2.1
theorem JI.n5 {v : Nat → Int32} {A : Nat → Nat → Int32} {k : KS} (h : JI v A k) : v 19 = nI (k.N 5) ∧ k.N 5 ≤ 150 * k.N 4 := h.2.2.2.2.2.1
theorem JI.n6 {v : Nat → Int32} {A : Nat → Nat → Int32} {k : KS} (h : JI v A k) : v 29 = nI (k.N 6) ∧ k.N 6 ≤ 150 * k.N 4 := h.2.2.2.2.2.2.1
theorem JI.op {v : Nat → Int32} {A : Nat → Nat → Int32} {k : KS} (h : JI v A k) : (v 1 = 0 ∧ k.N 0 = 0 ∧ k.N 2 = 0 ∧ k.N 3 = 0 ∧ ∀ u, u < 6 → A 23 u = 0 ∧ A 24 u = 0 ∧ A 25 u = 0 ∧ A 26 u = 0 ∧ A 27 u = 0) ∨ (v 1 = 1 ∧ good (A 2)) := h.2.2.2.2.2.2.2.1
theorem JI.kd {v : Nat → Int32} {A : Nat → Nat → Int32} {k : KS} (h : JI v A k) : kOk (A 2) := h.2.2.2.2.2.2.2.2.1
theorem JI.pk {v : Nat → Int32} {A : Nat → Nat → Int32} {k : KS} (h : JI v A k) : ∀ u, u < k.N 0 → A 6 u = nI (k.q 0 u) ∧ k.q 0 u < 96 ∧ A 2 (k.q 0 u) = 3 := h.2.2.2.2.2.2.2.2.2.1
theorem JI.pj {v : Nat → Int32} {A : Nat → Nat → Int32} {k : KS} (h : JI v A k) : ∀ u w, u < k.N 0 → w < k.N 0 → k.q 0 u = k.q 0 w → u = w := h.2.2.2.2.2.2.2.2.2.2.1
theorem JI.st {v : Nat → Int32} {A : Nat → Nat → Int32} {k : KS} (h : JI v A k) : ∀ j, j < k.N 3 → ∃ s, s < 96 ∧ A 5 j = nI s ∧ A 2 s = 2 := h.2.2.2.2.2.2.2.2.2.2.2.1
theorem JI.tk {v : Nat → Int32} {A : Nat → Nat → Int32} {k : KS} (h : JI v A k) : ∀ t, t < k.N 2 → ∃ a b, A 11 t = nI a ∧ A 12 t = nI b ∧ a < 96 ∧ b < 96 ∧ A 2 a = 2 ∧ A 2 b = 2 := h.2.2.2.2.2.2.2.2.2.2.2.2.1
theorem JI.cn {v : Nat → Int32} {A : Nat → Nat → Int32} {k : KS} (h : JI v A k) : jCn (k.N 0) (k.N 4) k.q (A 23) (A 24) (A 25) (A 26) (A 27) := h.2.2.2.2.2.2.2.2.2.2.2.2.2.1
theorem JI.att {v : Nat → Int32} {A : Nat → Nat → Int32} {k : KS} (h : JI v A k) : ∀ u, u < k.N 0 → A 22 u = nI (cel (k.q 0 u) (k.ce u) (k.q 2 u)) := h.2.2.2.2.2.2.2.2.2.2.2.2.2.2.1
theorem JI.mv {v : Nat → Int32} {A : Nat → Nat → Int32} {k : KS} (h : JI v A k) : jMv (A 2) (k.N 0) (k.N 4) (k.q 0) (k.q 1) k.ce k.tm := h.2.2.2.2.2.2.2.2.2.2.2.2.2.2.2.1
theorem JI.gt {v : Nat → Int32} {A : Nat → Nat → Int32} {k : KS} (h : JI v A k) : ∀ u, u < k.N 0 → ∀ i, i < k.q 5 u → k.tm u i ≤ k.N 6 := h.2.2.2.2.2.2.2.2.2.2.2.2.2.2.2.2.1
theorem JI.lt {v : Nat → Int32} {A : Nat → Nat → Int32} {k : KS} (h : JI v A k) : jLt (k.N 1) (k.N 0) (k.q 2) (k.q 5) (A 32) (A 33) (A 34) := h.2.2.2.2.2.2.2.2.2.2.2.2.2.2.2.2.2.1
theorem JI.t1 {v : Nat → Int32} {A : Nat → Nat → Int32} {k : KS} (h : JI v A k) : jT1 (k.N 4) (k.N 0) (k.N 5) (k.q 1) (k.q 2) k.ce k.tm (A 13) (A 14) (A 15) (A 16) (A 17) (A 20) (A 21) (A 28) := h.2.2.2.2.2.2.2.2.2.2.2.2.2.2.2.2.2.2.1
theorem JI.t2 {v : Nat → Int32} {A : Nat → Nat → Int32} {k : KS} (h : JI v A k) : jT2 (k.N 4) (k.N 0) (k.q 1) (A 13) (A 15) (A 16) := h.2.2.2.2.2.2.2.2.2.2.2.2.2.2.2.2.2.2.2.1
theorem JI.la {v : Nat → Int32} {A : Nat → Nat → Int32} {k : KS} (h : JI v A k) : jLa (k.N 4) (k.N 0) (k.X 0) (A 13) (A 17) (A 28) := h.2.2.2.2.2.2.2.2.2.2.2.2.2.2.2.2.2.2.2.2
theorem JI.mk {v : Nat → Int32} {A : Nat → Nat → Int32} {k : KS} (n0 : v 4 = nI (k.N 0) ∧ k.N 0 ≤ 6) (n1 : v 31 = nI (k.N 1) ∧ k.N 1 ≤ 60) (n2 : v 9 = nI (k.N 2) ∧ k.N 2 ≤ 24) (n3 : v 3 = nI (k.N 3) ∧ k.N 3 ≤ 96) (n4 : v 10 = nI (k.N 4) ∧ k.N 4 ≤ k.N 2) (n5 : v 19 = nI (k.N 5) ∧ k.N 5 ≤ 150 * k.N 4) (n6 : v 29 = nI (k.N 6) ∧ k.N 6 ≤ 150 * k.N 4) (op : (v 1 = 0 ∧ k.N 0 = 0 ∧ k.N 2 = 0 ∧ k.N 3 = 0 ∧ ∀ u, u < 6 → A 23 u = 0 ∧ A 24 u = 0 ∧ A 25 u = 0 ∧ A 26 u = 0 ∧ A 27 u = 0) ∨ (v 1 = 1 ∧ good (A 2))) (kd : kOk (A 2)) (pk : ∀ u, u < k.N 0 → A 6 u = nI (k.q 0 u) ∧ k.q 0 u < 96 ∧ A 2 (k.q 0 u) = 3) (pj : ∀ u w, u < k.N 0 → w < k.N 0 → k.q 0 u = k.q 0 w → u = w) (st : ∀ j, j < k.N 3 → ∃ s, s < 96 ∧ A 5 j = nI s ∧ A 2 s = 2) (tk : ∀ t, t < k.N 2 → ∃ a b, A 11 t = nI a ∧ A 12 t = nI b ∧ a < 96 ∧ b < 96 ∧ A 2 a = 2 ∧ A 2 b = 2) (cn : jCn (k.N 0) (k.N 4) k.q (A 23) (A 24) (A 25) (A 26) (A 27)) (att : ∀ u, u < k.N 0 → A 22 u = nI (cel (k.q 0 u) (k.ce u) (k.q 2 u))) (mv : jMv (A 2) (k.N 0) (k.N 4) (k.q 0) (k.q 1) k.ce k.tm) (gt : ∀ u, u < k.N 0 → ∀ i, i < k.q 5 u → k.tm u i ≤ k.N 6) (lt : jLt (k.N 1) (k.N 0) (k.q 2) (k.q 5) (A 32) (A 33) (A 34)) (t1 : jT1 (k.N 4) (k.N 0) (k.N 5) (k.q 1) (k.q 2) k.ce k.tm (A 13) (A 14) (A 15) (A 16) (A 17) (A 20) (A 21) (A 28)) (t2 : jT2 (k.N 4) (k.N 0) (k.q 1) (A 13) (A 15) (A 16)) (la : jLa (k.N 4) (k.N 0) (k.X 0) (A 13) (A 17) (A 28)) : JI v A k := ⟨n0, n1, n2, n3, n4, n5, n6, op, kd, pk, pj, st, tk, cn, att, mv, gt, lt, t1, t2, la⟩
section JIS
variable {v : Nat → Int32} {A : Nat → Nat → Int32} {k : KS}
theorem JI.np (h : JI v A k) : k.N 4 ≤ 24 := Nat.le_trans h.n4.2 h.n2.2
/-- the place of a vehicle's move -/
theorem JI.plox (h : JI v A k) {u i : Nat} (hu : u < k.N 0) (hi : i < k.q 1 u) : ∀ n t, t + n = k.N 4 → (∃ t' b m, t ≤ t' ∧ t' < k.N 4 ∧ A 13 t' = nI u ∧ A 16 t' = nI b ∧ A 15 t' = nI m ∧ b ≤ i ∧ i < b + m ∧ b + m ≤ k.q 1 u) → ∃ p, plo A (nI u) (nI i) n t = nI p ∧ p < k.N 5 ∧ A 20 p = nI (k.ce u i) ∧ A 21 p = nI (k.tm u i) := by
  have hnp := h.np
  have h0 := h.n0.2
  have h5 := h.n5.2
  intro n
  induction n with
  | zero =>
    rintro t ht ⟨t', b, m, h1, h2, -⟩
    omega
  | succ n ih =>
    rintro t ht ⟨t', b', m', h1, h2, h3, h4, h5', h6, h7, h8⟩
    obtain ⟨w, a, b, m, fi, a1, a2, a3, a4, a5, a6, a7, a8, -⟩ := h.t1 t (by omega)
    have hq1 := (h.cn u hu).2.2.2.2.2
    have hq2 := (h.cn w a2).2.2.2.2.2
    rw [plo.eq_2]
    by_cases q : A 13 t = nI u ∧ ¬ nI i < A 16 t ∧ ¬ A 16 t + A 15 t ≤ nI i
    · rw [if_pos q]
      obtain ⟨q1, q2, q3⟩ := q
      have e1 : w = u := nI_inj (by omega) (by omega) (by rw [← a1, q1])
      subst e1
      rw [a4, nI_ltI (by omega) (by omega)] at q2
      rw [a4, a5, nI_add, nI_leI (by omega) (by omega)] at q3
      obtain ⟨r1, r2⟩ := a8 (i - b) (by omega)
      rw [show b + (i - b) = i by omega] at r1 r2
      refine ⟨a + (i - b), ?_, by omega, r1, r2⟩
      rw [a3, a4, nI_add, pk_sub (by omega)]
      congr 1; omega
    · rw [if_neg q]
      refine ih (t + 1) (by omega) ⟨t', b', m', ?_, h2, h3, h4, h5', h6, h7, h8⟩
      by_cases e : t' = t
      · subst e
        refine absurd ⟨h3, ?_, ?_⟩ q
        · rw [h4, nI_ltI (by omega) (by omega)]; omega
        · rw [h4, h5', nI_add, nI_leI (by omega) (by omega)]; omega
      · omega
theorem JI.plcx (h : JI v A k) {u i : Nat} (hu : u < k.N 0) (hi : i < k.q 1 u) : ∃ p, plc v A (nI u) (nI i) = nI p ∧ p < k.N 5 ∧ A 20 p = nI (k.ce u i) ∧ A 21 p = nI (k.tm u i) := by
  unfold plc
  have hnp := h.np
  rw [h.n4.1, show ix (nI (k.N 4)) = k.N 4 from nI_clamp (by omega)]
  refine h.plox hu hi (k.N 4) 0 (by omega) ?_
  obtain ⟨t, b, m, h1, h2⟩ := h.t2 u hu i hi
  exact ⟨t, b, m, Nat.zero_le _, h1, h2⟩
theorem JI.vin (h : JI v A k) {u i : Nat} (hu : u < k.N 0) (hi : i < k.q 1 u) : vp_in (plc v A (nI u) (nI i)) 3600 ∧ A 20 (ix (plc v A (nI u) (nI i))) = nI (k.ce u i) ∧ A 21 (ix (plc v A (nI u) (nI i))) = nI (k.tm u i) := by
  obtain ⟨p, h1, h2, h3, h4⟩ := h.plcx hu hi
  have hnp := h.np
  have h5 := h.n5.2
  rw [h1, show ix (nI p) = p from nI_clamp (by omega)]
  exact ⟨vp_in_nI (by omega) (by decide), h3, h4⟩
theorem JI.qb (h : JI v A k) {u : Nat} (hu : u < k.N 0) : k.q 1 u ≤ 3600 := by
  have := (h.cn u hu).2.2.2.2.2
  have := h.np
  omega
theorem JI.celb (h : JI v A k) {u : Nat} (hu : u < k.N 0) {i : Nat} (hi : i ≤ k.q 1 u) : cel (k.q 0 u) (k.ce u) i < 96 := by
  unfold cel
  split
  · exact (h.pk u hu).2.1
  · exact ((h.mv u hu).1 (i - 1) (by omega)).1
theorem JI.avOkx (h : JI v A k) : avOk v A (k.N 0) (k.N 6) (k.q 0) (k.q 1) k.ce k.tm (nqC (k.N 6) (k.q 1) k.tm) := by
  intro u hu
  have hnp := h.np
  refine ⟨⟨(h.pk u hu).1, (h.pk u hu).2.1, (h.cn u hu).1.1, h.qb hu, fun i hi => ?_⟩, cntT_tOk (h.mv u hu).2.1⟩
  obtain ⟨h1, h2, h3⟩ := h.vin hu hi
  have h4 := (h.mv u hu).1 i hi
  exact ⟨h1, h2, h4.1, h3, by omega⟩
theorem JI.vPurex (h : JI v A k) {u : Nat} (hu : u < k.N 0) : vPure (k.q 1 u) (k.q 0 u) (k.N 6) (k.ce u) (k.tm u) (nqC (k.N 6) (k.q 1) k.tm u) := by
  have hnp := h.np
  have := h.qb hu
  exact ⟨by omega, fun i hi => by have := ((h.mv u hu).1 i hi).2.2.1; omega, fun i hi => h.celb hu hi, (h.mv u hu).2.1, cntT_tOk (h.mv u hu).2.1, (h.mv u hu).2.2⟩
theorem JI.plOkx (h : JI v A k) : plOk A (k.N 4) := by
  intro t ht
  obtain ⟨w, a, b, m, fi, a1, a2, a3, a4, a5, a6, -⟩ := h.t1 t ht
  have := h.np
  have := h.n5.2
  have := h.n0.2
  exact ⟨a, m, w, a3, a5, by omega, a1, by omega⟩
/-- nobody else is ever in a vehicle's parking -/
theorem JI.pos (h : JI v A k) {u x : Nat} (hu : u < k.N 0) (hx : x < k.N 0) (hne : x ≠ u) (i : Nat) (hi : i ≤ k.q 1 x) : k.q 0 u ≠ cel (k.q 0 x) (k.ce x) i := by
  intro z
  unfold cel at z
  split at z
  · exact hne (h.pj u x hu hx z).symm
  · have h3 := (h.pk u hu).2.2
    rcases ((h.mv x hx).1 (i - 1) (by omega)).2.1 with q | q | q
    · rw [z, q] at h3; exact absurd h3 (by decide)
    · rw [z, q] at h3; exact absurd h3 (by decide)
    · rw [q] at z; exact hne (h.pj u x hu hx z).symm
/-- the letters -/
theorem JI.snd (h : JI v A k) {ki w n : Nat} (hw : w < k.N 0) (hn : (ki = 0 ∧ n ≤ k.q 5 w) ∨ (ki = 1 ∧ n ≤ k.q 2 w)) : JI (sndV v) (sndA v A (nI ki) (nI w) (nI n)) (KS.mk (va_up k.N 1 (if k.N 1 = 60 then 60 else k.N 1 + 1)) (k.q) (k.ce) (k.tm) (k.X)) := by
  have h1 := h.n1.2
  by_cases q : k.N 1 = 60
  · have q2 : v 31 = 60 := by rw [h.n1.1, q]; rfl
    unfold sndV sndA
    rw [if_pos q2, if_pos q2, if_pos q]
    have e : va_up k.N 1 60 = k.N := by
      funext j
      by_cases z : j = 1
      · subst z; rw [va_up_self, q]
      · rw [va_up_ne _ _ z]
    rw [e]
    exact h
  · have q2 : ¬ v 31 = 60 := by
      rw [h.n1.1]
      intro z
      exact q (nI_inj (by omega) (by decide) (z.trans (show (60 : Int32) = nI 60 from rfl)))
    unfold sndV sndA
    rw [if_neg q2, if_neg q2, if_neg q]
    refine ⟨h.n0, ?_, h.n2, h.n3, h.n4, h.n5, h.n6, h.op, h.kd, h.pk, h.pj, h.st, h.tk, h.cn, h.att, h.mv, h.gt, ?_, h.t1, h.t2, h.la⟩
    · show upd v 31 (v 31 + 1) 31 = nI (va_up k.N 1 (k.N 1 + 1) 1) ∧ va_up k.N 1 (k.N 1 + 1) 1 ≤ 60
      rw [va_up_self, upd_self, h.n1.1, show (1 : Int32) = nI 1 from rfl, nI_add]
      exact ⟨rfl, by omega⟩
    · intro j hj
      replace hj : j < va_up k.N 1 (k.N 1 + 1) 1 := hj
      rw [va_up_self] at hj
      show ∃ w' n', upd (A 33) (ix (v 31)) (nI w) j = nI w' ∧ w' < k.N 0 ∧ upd (A 34) (ix (v 31)) (nI n) j = nI n' ∧ ((upd (A 32) (ix (v 31)) (nI ki) j = 0 ∧ n' ≤ k.q 5 w') ∨ (upd (A 32) (ix (v 31)) (nI ki) j = 1 ∧ n' ≤ k.q 2 w'))
      rw [h.n1.1, show ix (nI (k.N 1)) = k.N 1 from nI_clamp (by omega)]
      by_cases e : j = k.N 1
      · subst e
        rw [upd_self, upd_self, upd_self]
        refine ⟨w, n, rfl, hw, rfl, ?_⟩
        rcases hn with ⟨z, y⟩ | ⟨z, y⟩
        · subst z; exact Or.inl ⟨rfl, y⟩
        · subst z; exact Or.inr ⟨rfl, y⟩
      · rw [upd_ne _ _ e, upd_ne _ _ e, upd_ne _ _ e]
        exact h.lt j (by omega)
end JIS
theorem rmL_at : ∀ n i (A : Nat → Nat → Int32), (∀ j, j ≠ 32 → j ≠ 33 → j ≠ 34 → rmL n i A j = A j) ∧ ∀ j, (j = 32 ∨ j = 33 ∨ j = 34) → ∀ x, rmL n i A j x = if i ≤ x ∧ x < i + n then A j (x + 1) else A j x := by
  intro n
  induction n with
  | zero => intro i A; exact ⟨fun _ _ _ _ => rfl, fun j _ x => by rw [if_neg (by omega)]; rfl⟩
  | succ n ih =>
    intro i A
    obtain ⟨h1, h2⟩ := ih (i + 1) (rmS A i)
    have e0 : ∀ j, j ≠ 32 → j ≠ 33 → j ≠ 34 → rmS A i j = A j := fun j a b c => by
      unfold rmS; rw [va_up_ne _ _ c, va_up_ne _ _ b, va_up_ne _ _ a]
    have e1 : ∀ j, (j = 32 ∨ j = 33 ∨ j = 34) → rmS A i j = upd (A j) i (A j (i + 1)) := by
      rintro j (rfl | rfl | rfl)
      · unfold rmS; rw [va_up_ne _ _ (by decide), va_up_ne _ _ (by decide), va_up_self]
      · unfold rmS; rw [va_up_ne _ _ (by decide), va_up_self, va_up_ne _ _ (by decide)]
      · unfold rmS; rw [va_up_self, va_up_ne _ _ (by decide), va_up_ne _ _ (by decide)]
    refine ⟨fun j a b c => by rw [rmL, h1 j a b c, e0 j a b c], fun j hj x => ?_⟩
    rw [rmL, h2 j hj x, e1 j hj]
    by_cases q : x = i
    · subst q
      rw [if_neg (by omega), upd_self, if_pos (by omega)]
    · rw [upd_ne _ _ q]
      by_cases q2 : i + 1 ≤ x ∧ x < i + 1 + n
      · rw [if_pos q2, if_pos (by omega), upd_ne _ _ (by omega)]
      · rw [if_neg q2, if_neg (by omega)]
section JIS
variable {v : Nat → Int32} {A : Nat → Nat → Int32} {k : KS}
theorem JI.v0 (h : JI v A k) (x : Int32) : JI (upd v 0 x) A k := ⟨h.n0, h.n1, h.n2, h.n3, h.n4, h.n5, h.n6, h.op, h.kd, h.pk, h.pj, h.st, h.tk, h.cn, h.att, h.mv, h.gt, h.lt, h.t1, h.t2, h.la⟩
theorem JI.v30 (h : JI v A k) (x : Int32) : JI (upd v 30 x) A k := ⟨h.n0, h.n1, h.n2, h.n3, h.n4, h.n5, h.n6, h.op, h.kd, h.pk, h.pj, h.st, h.tk, h.cn, h.att, h.mv, h.gt, h.lt, h.t1, h.t2, h.la⟩
theorem JI.v38 (h : JI v A k) (x : Int32) : JI (upd v 38 x) A k := ⟨h.n0, h.n1, h.n2, h.n3, h.n4, h.n5, h.n6, h.op, h.kd, h.pk, h.pj, h.st, h.tk, h.cn, h.att, h.mv, h.gt, h.lt, h.t1, h.t2, h.la⟩
theorem JI.rem (h : JI v A k) {i : Nat} (hi : i < k.N 1) : JI (upd v 31 (nI (k.N 1 - 1))) (rmL (k.N 1 - 1 - i) i A) (KS.mk (va_up k.N 1 (k.N 1 - 1)) (k.q) (k.ce) (k.tm) (k.X)) := by
  obtain ⟨e0, e1⟩ := rmL_at (k.N 1 - 1 - i) i A
  have o := fun j (a : j ≠ 32) (b : j ≠ 33) (c : j ≠ 34) => e0 j a b c
  have a2 := e0 2 (by decide) (by decide) (by decide)
  have a5 := e0 5 (by decide) (by decide) (by decide)
  have a6 := e0 6 (by decide) (by decide) (by decide)
  have a11 := e0 11 (by decide) (by decide) (by decide)
  have a12 := e0 12 (by decide) (by decide) (by decide)
  have a13 := e0 13 (by decide) (by decide) (by decide)
  have a14 := e0 14 (by decide) (by decide) (by decide)
  have a15 := e0 15 (by decide) (by decide) (by decide)
  have a16 := e0 16 (by decide) (by decide) (by decide)
  have a17 := e0 17 (by decide) (by decide) (by decide)
  have a20 := e0 20 (by decide) (by decide) (by decide)
  have a21 := e0 21 (by decide) (by decide) (by decide)
  have a22 := e0 22 (by decide) (by decide) (by decide)
  have a23 := e0 23 (by decide) (by decide) (by decide)
  have a24 := e0 24 (by decide) (by decide) (by decide)
  have a25 := e0 25 (by decide) (by decide) (by decide)
  have a26 := e0 26 (by decide) (by decide) (by decide)
  have a27 := e0 27 (by decide) (by decide) (by decide)
  have a28 := e0 28 (by decide) (by decide) (by decide)
  have hb := h.n1.2
  refine ⟨h.n0, ?_, h.n2, h.n3, h.n4, h.n5, h.n6, ?_, ?_, ?_, h.pj, ?_, ?_, ?_, ?_, ?_, h.gt, ?_, ?_, ?_, ?_⟩
  · show upd v 31 (nI (k.N 1 - 1)) 31 = nI (va_up k.N 1 (k.N 1 - 1) 1) ∧ va_up k.N 1 (k.N 1 - 1) 1 ≤ 60
    rw [va_up_self, upd_self]; exact ⟨rfl, by omega⟩
  · rw [a2, a23, a24, a25, a26, a27]; exact h.op
  · rw [a2]; exact h.kd
  · rw [a2, a6]; exact h.pk
  · rw [a2, a5]; exact h.st
  · rw [a2, a11, a12]; exact h.tk
  · rw [a23, a24, a25, a26, a27]; exact h.cn
  · rw [a22]; exact h.att
  · rw [a2]; exact h.mv
  · intro j hj
    replace hj : j < va_up k.N 1 (k.N 1 - 1) 1 := hj
    rw [va_up_self] at hj
    rw [e1 32 (by decide), e1 33 (by decide), e1 34 (by decide)]
    by_cases q : i ≤ j ∧ j < i + (k.N 1 - 1 - i)
    · rw [if_pos q, if_pos q, if_pos q]; exact h.lt (j + 1) (by omega)
    · rw [if_neg q, if_neg q, if_neg q]; exact h.lt j (by omega)
  · rw [a13, a14, a15, a16, a17, a20, a21, a28]; exact h.t1
  · rw [a13, a15, a16]; exact h.t2
  · rw [a13, a17, a28]; exact h.la
/-- a letter is taken -/
def kDlv (k : KS) (lim : Prop) [Decidable lim] (w n : Nat) : KS := (KS.mk (k.N) (if lim then va_up k.q 3 (va_up (k.q 3) w (max n (k.q 3 w))) else va_up k.q 4 (va_up (k.q 4) w (max n (k.q 4 w)))) (k.ce) (k.tm) (k.X))
theorem JI.dlv (h : JI v A k) {i w n : Nat} (hi : i < k.N 1) (hw : A 33 i = nI w) (hn : A 34 i = nI n) (hw6 : w < k.N 0) (hnb : n < 100000) : JI v (dlvA A (nI i)) (kDlv k (A 32 i = 0) w n) := by
  have h1 := h.n1.2
  have h0 := h.n0.2
  have hix : ix (nI i) = i := nI_clamp (by omega)
  have hixw : ix (nI w) = w := nI_clamp (by omega)
  obtain ⟨w', n', l1, l2, l3, l4⟩ := h.lt i hi
  have e1 : w' = w := nI_inj (by omega) (by omega) (by rw [← l1, hw])
  subst e1
  have hqb := h.qb l2
  have hc := h.cn w' l2
  have hn' : n' ≤ 3600 := by rcases l4 with z | z <;> omega
  have hnn : n' = n := nI_inj (by omega) (by omega) (by rw [← l3, hn])
  subst hnn
  unfold dlvA kDlv
  rw [hix, hw, hn, hixw]
  have hop : (v 1 = 1 ∧ good (A 2)) := by
    rcases h.op with z | z
    · omega
    · exact z
  by_cases q : A 32 i = 0
  · rw [if_pos q, if_pos q]
    have l5 : n' ≤ k.q 5 w' := by
      rcases l4 with z | z
      · exact z.2
      · rw [q] at z; exact absurd z.1 (by decide)
    rw [hc.1.2.2.1, mx_nI (by omega) (by omega)]
    refine ⟨h.n0, h.n1, h.n2, h.n3, h.n4, h.n5, h.n6, Or.inr hop, h.kd, h.pk, h.pj, h.st, h.tk, ?_, h.att, h.mv, h.gt, h.lt, h.t1, h.t2, h.la⟩
    intro x hx
    have hcx := h.cn x hx
    show (A 27 x = nI (k.q 1 x) ∧ A 23 x = nI (k.q 2 x) ∧ upd (A 24) w' (nI (max n' (k.q 3 w'))) x = nI (va_up (k.q 3) w' (max n' (k.q 3 w')) x) ∧ A 25 x = nI (k.q 4 x) ∧ A 26 x = nI (k.q 5 x)) ∧ k.q 4 x ≤ k.q 2 x ∧ k.q 2 x ≤ va_up (k.q 3) w' (max n' (k.q 3 w')) x ∧ va_up (k.q 3) w' (max n' (k.q 3 w')) x ≤ k.q 5 x ∧ k.q 5 x ≤ k.q 1 x ∧ k.q 1 x ≤ 150 * k.N 4
    by_cases e : x = w'
    · subst e
      rw [upd_self, va_up_self]
      exact ⟨⟨hcx.1.1, hcx.1.2.1, rfl, hcx.1.2.2.2.1, hcx.1.2.2.2.2⟩, by omega, by omega, by omega, by omega, by omega⟩
    · rw [upd_ne _ _ e, va_up_ne _ _ e]
      exact hcx
  · rw [if_neg q, if_neg q]
    have l5 : n' ≤ k.q 2 w' := by
      rcases l4 with z | z
      · exact absurd z.1 q
      · exact z.2
    rw [hc.1.2.2.2.1, mx_nI (by omega) (by omega)]
    refine ⟨h.n0, h.n1, h.n2, h.n3, h.n4, h.n5, h.n6, Or.inr hop, h.kd, h.pk, h.pj, h.st, h.tk, ?_, h.att, h.mv, h.gt, h.lt, h.t1, h.t2, h.la⟩
    intro x hx
    have hcx := h.cn x hx
    show (A 27 x = nI (k.q 1 x) ∧ A 23 x = nI (k.q 2 x) ∧ A 24 x = nI (k.q 3 x) ∧ upd (A 25) w' (nI (max n' (k.q 4 w'))) x = nI (va_up (k.q 4) w' (max n' (k.q 4 w')) x) ∧ A 26 x = nI (k.q 5 x)) ∧ va_up (k.q 4) w' (max n' (k.q 4 w')) x ≤ k.q 2 x ∧ k.q 2 x ≤ k.q 3 x ∧ k.q 3 x ≤ k.q 5 x ∧ k.q 5 x ≤ k.q 1 x ∧ k.q 1 x ≤ 150 * k.N 4
    by_cases e : x = w'
    · subst e
      rw [upd_self, va_up_self]
      exact ⟨⟨hcx.1.1, hcx.1.2.1, hcx.1.2.2.1, rfl, hcx.1.2.2.2.2⟩, by omega, by omega, by omega, by omega, by omega⟩
    · rw [upd_ne _ _ e, va_up_ne _ _ e]
      exact hcx
theorem JI.cell (h : JI v A k) (hv : v 1 = 0) {c : Nat} {x : Int32} (hc : c < 96) (hx : x = 0 ∨ x = 1 ∨ x = 2 ∨ x = 3) : JI v (va_up A 2 (upd (A 2) c x)) k := by
  rcases h.op with ⟨z1, z2, z3, z4, z5⟩ | ⟨z1, -⟩
  · have z6 : k.N 4 = 0 := by have := h.n4.2; omega
    refine ⟨h.n0, h.n1, h.n2, h.n3, h.n4, h.n5, h.n6, Or.inl ⟨z1, z2, z3, z4, z5⟩, ?_, fun u hu => absurd hu (by omega), h.pj, fun u hu => absurd hu (by omega), fun u hu => absurd hu (by omega), h.cn, h.att, fun u hu => absurd hu (by omega), h.gt, h.lt, h.t1, h.t2, h.la⟩
    intro d hd
    show upd (A 2) c x d = 0 ∨ upd (A 2) c x d = 1 ∨ upd (A 2) c x d = 2 ∨ upd (A 2) c x d = 3
    by_cases e : d = c
    · subst e; rw [upd_self]; exact hx
    · rw [upd_ne _ _ e]; exact h.kd d hd
  · rw [hv] at z1; exact absurd z1 (by decide)
theorem JI.tsk (h : JI v A k) {a b : Nat} (ha : a < k.N 3) (hb : b < k.N 3) (hn : k.N 2 < 24) (hop : v 1 = 1) : JI (upd v 9 (v 9 + 1)) (tskA v A (nI a) (nI b)) (KS.mk (va_up k.N 2 (k.N 2 + 1)) (k.q) (k.ce) (k.tm) (k.X)) := by
  have h3 := h.n3.2
  have h4 := h.n4.2
  have e9 : ix (v 9) = k.N 2 := by rw [h.n2.1]; exact nI_clamp (by omega)
  have ea : ix (nI a) = a := nI_clamp (by omega)
  have eb : ix (nI b) = b := nI_clamp (by omega)
  have hg : good (A 2) := by
    rcases h.op with z | z
    · rw [hop] at z; exact absurd z.1 (by decide)
    · exact z.2
  unfold tskA
  rw [e9, ea, eb]
  obtain ⟨s, s1, s2, s3⟩ := h.st a ha
  obtain ⟨r, r1, r2, r3⟩ := h.st b hb
  have key : ∀ t, t < k.N 4 → upd (A 13) (k.N 2) (-1) t = A 13 t := fun t ht => upd_ne _ _ (by omega)
  refine ⟨h.n0, h.n1, ?_, h.n3, ?_, h.n5, h.n6, Or.inr ⟨hop, hg⟩, h.kd, h.pk, h.pj, h.st, ?_, h.cn, h.att, h.mv, h.gt, h.lt, ?_, ?_, ?_⟩
  · show upd v 9 (v 9 + 1) 9 = nI (va_up k.N 2 (k.N 2 + 1) 2) ∧ va_up k.N 2 (k.N 2 + 1) 2 ≤ 24
    rw [upd_self, va_up_self, h.n2.1, show (1 : Int32) = nI 1 from rfl, nI_add]
    exact ⟨rfl, by omega⟩
  · show v 10 = nI (k.N 4) ∧ k.N 4 ≤ va_up k.N 2 (k.N 2 + 1) 2
    rw [va_up_self]
    exact ⟨h.n4.1, by omega⟩
  · intro t ht
    replace ht : t < va_up k.N 2 (k.N 2 + 1) 2 := ht
    rw [va_up_self] at ht
    show ∃ a' b', upd (A 11) (k.N 2) (A 5 a) t = nI a' ∧ upd (A 12) (k.N 2) (A 5 b) t = nI b' ∧ a' < 96 ∧ b' < 96 ∧ A 2 a' = 2 ∧ A 2 b' = 2
    by_cases e : t = k.N 2
    · subst e
      rw [upd_self, upd_self]
      exact ⟨s, r, s2, r2, s1, r1, s3, r3⟩
    · rw [upd_ne _ _ e, upd_ne _ _ e]; exact h.tk t (by omega)
  · intro t ht
    show ∃ w a b m fi, upd (A 13) (k.N 2) (-1) t = nI w ∧ _
    rw [key t ht]
    exact h.t1 t ht
  · intro u hu i hi
    obtain ⟨t, b, m, y1, y2⟩ := h.t2 u hu i hi
    refine ⟨t, b, m, y1, ?_⟩
    show upd (A 13) (k.N 2) (-1) t = nI u ∧ _
    rw [key t y1]
    exact y2
  · intro u hu
    rcases h.la u hu with z | ⟨t, y1, y2, y3, y4⟩
    · exact Or.inl z
    · refine Or.inr ⟨t, y1, y2, ?_, y4⟩
      show upd (A 13) (k.N 2) (-1) t = nI u
      rw [key t y1]
      exact y3
theorem goF_at (tk u : Int32) (w : Nat) : ∀ n t (A : Nat → Nat → Int32), (∀ j, j ≠ 18 → goF tk u w n t A j = A j) ∧ ∀ x, goF tk u w n t A 18 x = if t ≤ x ∧ x < t + n ∧ A 13 x = u ∧ A 17 x = A 23 w then tk else A 18 x := by
  intro n
  induction n with
  | zero => intro t A; exact ⟨fun _ _ => rfl, fun x => by rw [if_neg (by omega)]; rfl⟩
  | succ n ih =>
    intro t A
    rw [goF]
    by_cases q : A 13 t = u ∧ A 17 t = A 23 w
    · rw [if_pos q]
      obtain ⟨h1, h2⟩ := ih (t + 1) (va_up A 18 (upd (A 18) t tk))
      refine ⟨fun j hj => by rw [h1 j hj, va_up_ne _ _ hj], fun x => ?_⟩
      rw [h2 x, va_up_ne _ _ (by decide), va_up_ne _ _ (by decide), va_up_ne _ _ (by decide), va_up_self]
      by_cases e : x = t
      · subst e
        rw [upd_self, if_neg (by omega), if_pos ⟨Nat.le_refl _, by omega, q⟩]
      · rw [upd_ne _ _ e]
        by_cases q2 : t + 1 ≤ x ∧ x < t + 1 + n ∧ A 13 x = u ∧ A 17 x = A 23 w
        · rw [if_pos q2, if_pos ⟨by omega, by omega, q2.2.2⟩]
        · rw [if_neg q2, if_neg (fun z => q2 ⟨by omega, by omega, z.2.2⟩)]
    · rw [if_neg q]
      obtain ⟨h1, h2⟩ := ih (t + 1) A
      refine ⟨h1, fun x => ?_⟩
      rw [h2 x]
      by_cases q2 : t + 1 ≤ x ∧ x < t + 1 + n ∧ A 13 x = u ∧ A 17 x = A 23 w
      · rw [if_pos q2, if_pos ⟨by omega, by omega, q2.2.2⟩]
      · rw [if_neg q2, if_neg (fun z => by
          by_cases e : x = t
          · subst e; exact q z.2.2
          · exact q2 ⟨by omega, by omega, z.2.2⟩)]
theorem nI_m1 {n : Nat} (h : n < 2147483648) : nI n ≠ -1 := by
  intro z
  have := congrArg Int32.toInt z
  unfold nI at this
  rw [Int32.toInt_ofNat_of_lt h] at this
  have h2 : Int32.toInt (-1) = -1 := by decide
  omega
/-- which task a vehicle's move finishes -/
theorem JI.fin (h : JI v A k) {w t : Nat} (hw : w < k.N 0) (ht : t < k.N 4) : (A 13 t = nI w ∧ A 17 t = A 23 w) ↔ (A 28 w = nI t ∧ k.X 0 w = nI (k.q 2 w + 1)) := by
  have hnp := h.np
  have h0 := h.n0.2
  have hqb := h.qb hw
  have hc := h.cn w hw
  rw [hc.1.2.1]
  obtain ⟨w', a, b, m, fi, a1, a2, a3, a4, a5, a6, a7, a8, a9, a10, a11⟩ := h.t1 t ht
  have hqb' := h.qb a2
  constructor
  · rintro ⟨z1, z2⟩
    have e1 : w' = w := nI_inj (by omega) (by omega) (by rw [← a1, z1])
    subst e1
    have e2 : fi = k.q 2 w' := nI_inj (by omega) (by omega) (by rw [← a9, z2])
    have e3 : A 28 w' = nI t := by
      rcases a11 with y | y
      · exact y
      · omega
    refine ⟨e3, ?_⟩
    rcases h.la w' a2 with ⟨y, -⟩ | ⟨t', y1, y2, y3, y4⟩
    · rw [e3] at y; exact absurd y (nI_m1 (by omega))
    · have e4 : t' = t := nI_inj (by omega) (by omega) (by rw [← y2, e3])
      rw [e4, a9, e2, show (1 : Int32) = nI 1 from rfl, nI_add] at y4
      exact y4
  · rintro ⟨z1, z2⟩
    rcases h.la w hw with ⟨y, -⟩ | ⟨t', y1, y2, y3, y4⟩
    · rw [z1] at y; exact absurd y (nI_m1 (by omega))
    · have e4 : t' = t := nI_inj (by omega) (by omega) (by rw [← y2, z1])
      subst e4
      have e1 : w' = w := nI_inj (by omega) (by omega) (by rw [← a1, y3])
      subst e1
      refine ⟨y3, ?_⟩
      rw [a9, show (1 : Int32) = nI 1 from rfl, nI_add, z2] at y4
      have : fi + 1 = k.q 2 w' + 1 := nI_inj (by omega) (by omega) y4.symm
      rw [a9]; congr 1; omega
/-- one vehicle moves: its tasks' ends -/
def fin18 (tk : Int32) (np : Nat) (x0 : Int32) (md : Nat) (a28w : Int32) (a18 : Nat → Int32) : Nat → Int32 := fun t => if t < np ∧ a28w = nI t ∧ x0 = nI (md + 1) then tk else a18 t
theorem JI.goAx (h : JI v A k) {w : Nat} (hw : w < k.N 0) (hm : k.q 2 w < k.q 1 w) : goA v A w = va_up (va_up (va_up A 22 (upd (A 22) w (nI (k.ce w (k.q 2 w))))) 18 (fin18 (v 30) (k.N 4) (k.X 0 w) (k.q 2 w) (A 28 w) (A 18))) 23 (upd (A 23) w (nI (k.q 2 w + 1))) := by
  have hnp := h.np
  have hc := h.cn w hw
  obtain ⟨-, h20, -⟩ := h.vin hw hm
  unfold goA
  rw [hc.1.2.1, h20]
  obtain ⟨g1, g2⟩ := goF_at (v 30) (nI w) w (ix (v 10)) 0 (va_up A 22 (upd (A 22) w (nI (k.ce w (k.q 2 w)))))
  have e10 : ix (v 10) = k.N 4 := by rw [h.n4.1]; exact nI_clamp (by omega)
  have e23 : goF (v 30) (nI w) w (ix (v 10)) 0 (va_up A 22 (upd (A 22) w (nI (k.ce w (k.q 2 w))))) 23 = A 23 := by rw [g1 23 (by decide), va_up_ne _ _ (by decide)]
  dsimp only
  rw [e23, hc.1.2.1, show (1 : Int32) = nI 1 from rfl, nI_add]
  have key : goF (v 30) (nI w) w (ix (v 10)) 0 (va_up A 22 (upd (A 22) w (nI (k.ce w (k.q 2 w))))) = va_up (va_up A 22 (upd (A 22) w (nI (k.ce w (k.q 2 w))))) 18 (fin18 (v 30) (k.N 4) (k.X 0 w) (k.q 2 w) (A 28 w) (A 18)) := by
    funext j
    by_cases e : j = 18
    · subst e
      funext x
      rw [va_up_self, g2 x, va_up_ne _ _ (by decide), va_up_ne _ _ (by decide), va_up_ne _ _ (by decide), va_up_ne _ _ (by decide), e10]
      unfold fin18
      by_cases q : x < k.N 4
      · have hf := h.fin hw q
        by_cases q2 : A 13 x = nI w ∧ A 17 x = A 23 w
        · rw [if_pos ⟨Nat.zero_le _, by omega, q2⟩, if_pos ⟨q, hf.mp q2⟩]
        · rw [if_neg (fun z => q2 z.2.2), if_neg (fun z => q2 (hf.mpr z.2))]
      · rw [if_neg (fun z => by omega), if_neg (fun z => q z.1)]
    · rw [va_up_ne _ _ e, g1 j e]
  rw [key]
theorem JI.go1 (h : JI v A k) {w : Nat} (hw : w < k.N 0) (hm : k.q 2 w < k.q 3 w) : JI v (goA v A w) (KS.mk (k.N) (va_up k.q 2 (va_up (k.q 2) w (k.q 2 w + 1))) (k.ce) (k.tm) (k.X)) := by
  have hc := h.cn w hw
  rw [h.goAx hw (by omega)]
  have hop : (v 1 = 1 ∧ good (A 2)) := by
    rcases h.op with z | z
    · omega
    · exact z
  have hge : ∀ x, k.q 2 x ≤ va_up (k.q 2) w (k.q 2 w + 1) x := fun x => by
    by_cases e : x = w
    · subst e; rw [va_up_self]; omega
    · rw [va_up_ne _ _ e]; exact Nat.le_refl _
  refine ⟨h.n0, h.n1, h.n2, h.n3, h.n4, h.n5, h.n6, Or.inr hop, h.kd, h.pk, h.pj, h.st, h.tk, ?_, ?_, h.mv, h.gt, ?_, ?_, h.t2, h.la⟩
  · intro x hx
    have hcx := h.cn x hx
    show (A 27 x = nI (k.q 1 x) ∧ upd (A 23) w (nI (k.q 2 w + 1)) x = nI (va_up (k.q 2) w (k.q 2 w + 1) x) ∧ A 24 x = nI (k.q 3 x) ∧ A 25 x = nI (k.q 4 x) ∧ A 26 x = nI (k.q 5 x)) ∧ k.q 4 x ≤ va_up (k.q 2) w (k.q 2 w + 1) x ∧ va_up (k.q 2) w (k.q 2 w + 1) x ≤ k.q 3 x ∧ k.q 3 x ≤ k.q 5 x ∧ k.q 5 x ≤ k.q 1 x ∧ k.q 1 x ≤ 150 * k.N 4
    by_cases e : x = w
    · subst e
      rw [upd_self, va_up_self]
      exact ⟨⟨hcx.1.1, rfl, hcx.1.2.2.1, hcx.1.2.2.2.1, hcx.1.2.2.2.2⟩, by omega, by omega, by omega, by omega, by omega⟩
    · rw [upd_ne _ _ e, va_up_ne _ _ e]
      exact hcx
  · intro x hx
    show upd (A 22) w (nI (k.ce w (k.q 2 w))) x = nI (cel (k.q 0 x) (k.ce x) (va_up (k.q 2) w (k.q 2 w + 1) x))
    by_cases e : x = w
    · subst e; rw [upd_self, va_up_self]; rfl
    · rw [upd_ne _ _ e, va_up_ne _ _ e]; exact h.att x hx
  · intro j hj
    obtain ⟨x, n, y1, y2, y3, y4⟩ := h.lt j hj
    refine ⟨x, n, y1, y2, y3, ?_⟩
    rcases y4 with z | z
    · exact Or.inl z
    · exact Or.inr ⟨z.1, Nat.le_trans z.2 (hge x)⟩
  · intro t ht
    obtain ⟨x, a, b, m, fi, a1, a2, a3, a4, a5, a6, a7, a8, a9, a10, a11⟩ := h.t1 t ht
    refine ⟨x, a, b, m, fi, a1, a2, a3, a4, a5, a6, a7, a8, a9, a10, ?_⟩
    rcases a11 with z | z
    · exact Or.inl z
    · exact Or.inr (Nat.lt_of_lt_of_le z (hge x))
end JIS
/-! grants -/
def freeK (k : KS) (u i : Nat) : Prop := ∀ x, x < k.N 0 → x ≠ u → ∀ j, j < k.q 1 x → k.q 4 x - 1 ≤ j → ¬ (k.ce x j = k.ce u i ∧ k.tm x j < k.tm u i)
theorem frI_iff {A : Nat → Nat → Int32} {c tm : Int32} {t : Nat} : ∀ n k, frI A c tm t n k = true ↔ ∀ k', k ≤ k' → k' < k + n → ¬ blk A c tm t k' := by
  intro n
  induction n with
  | zero => intro k; rw [frI]; exact ⟨fun _ k' h1 h2 => absurd h1 (by omega), fun _ => rfl⟩
  | succ n ih =>
    intro k
    rw [frI]
    by_cases q : blk A c tm t k
    · rw [if_pos q]
      exact ⟨fun z => absurd z (by decide), fun z => absurd q (z k (Nat.le_refl _) (by omega))⟩
    · rw [if_neg q, ih]
      constructor
      · intro z k' h1 h2
        by_cases e : k' = k
        · subst e; exact q
        · exact z k' (by omega) (by omega)
      · intro z k' h1 h2
        exact z k' (by omega) (by omega)
theorem frO_iff {A : Nat → Nat → Int32} {u c tm : Int32} : ∀ n t, frO A u c tm n t = true ↔ ∀ t', t ≤ t' → t' < t + n → A 13 t' = u ∨ frI A c tm t' (ix (A 15 t')) 0 = true := by
  intro n
  induction n with
  | zero => intro t; rw [frO]; exact ⟨fun _ t' h1 h2 => absurd h1 (by omega), fun _ => rfl⟩
  | succ n ih =>
    intro t
    rw [frO]
    by_cases q : A 13 t = u
    · rw [if_pos q, ih]
      constructor
      · intro z t' h1 h2
        by_cases e : t' = t
        · subst e; exact Or.inl q
        · exact z t' (by omega) (by omega)
      · intro z t' h1 h2
        exact z t' (by omega) (by omega)
    · rw [if_neg q]
      by_cases q2 : frI A c tm t (ix (A 15 t)) 0 = true
      · rw [if_pos q2, ih]
        constructor
        · intro z t' h1 h2
          by_cases e : t' = t
          · subst e; exact Or.inr q2
          · exact z t' (by omega) (by omega)
        · intro z t' h1 h2
          exact z t' (by omega) (by omega)
      · rw [if_neg q2]
        refine ⟨fun z => absurd z (by decide), fun z => ?_⟩
        rcases z t (Nat.le_refl _) (by omega) with y | y
        · exact absurd y q
        · exact absurd y q2
section JIS
variable {v : Nat → Int32} {A : Nat → Nat → Int32} {k : KS}
theorem JI.free (h : JI v A k) {u i : Nat} (hu : u < k.N 0) (hi : i < k.q 1 u) : frO A (nI u) (nI (k.ce u i)) (nI (k.tm u i)) (k.N 4) 0 = true ↔ freeK k u i := by
  have hnp := h.np
  have h0 := h.n0.2
  have h5 := h.n5.2
  have hmi := (h.mv u hu).1 i hi
  have hb : ∀ t w a b m kk, A 13 t = nI w → w < k.N 0 → A 14 t = nI a → A 16 t = nI b → a + m ≤ k.N 5 → b + m ≤ k.q 1 w → (∀ k', k' < m → A 20 (a + k') = nI (k.ce w (b + k')) ∧ A 21 (a + k') = nI (k.tm w (b + k'))) → kk < m → (blk A (nI (k.ce u i)) (nI (k.tm u i)) t kk ↔ (k.ce w (b + kk) = k.ce u i ∧ k.tm w (b + kk) < k.tm u i ∧ k.q 4 w - 1 ≤ b + kk)) := by
    intro t w a b m kk a1 a2 a3 a4 a6 a7 a8 hkk
    obtain ⟨r1, r2⟩ := a8 kk hkk
    have hqw := h.qb a2
    have hcw := h.cn w a2
    have hmw := (h.mv w a2).1 (b + kk) (by omega)
    show (A 20 (ix (A 14 t + nI kk)) = nI (k.ce u i) ∧ ¬ nI (k.tm u i) ≤ A 21 (ix (A 14 t + nI kk)) ∧ ¬ A 16 t + nI kk + 1 < A 25 (ix (A 13 t))) ↔ _
    rw [a3, nI_add, show ix (nI (a + kk)) = a + kk from nI_clamp (by omega), r1, r2, a4, nI_add, show (1 : Int32) = nI 1 from rfl, nI_add, a1, show ix (nI w) = w from nI_clamp (by omega), hcw.1.2.2.2.1, nI_leI (by omega) (by omega), nI_ltI (by omega) (by omega)]
    constructor
    · rintro ⟨z1, z2, z3⟩
      exact ⟨nI_inj (by omega) (by omega) z1, by omega, by omega⟩
    · rintro ⟨z1, z2, z3⟩
      exact ⟨by rw [z1], by omega, by omega⟩
  rw [frO_iff]
  constructor
  · intro z x hx hxu j hj hj4 hcon
    obtain ⟨t, b, m, y1, y2, y3, y4, y5, y6, y7⟩ := h.t2 x hx j hj
    obtain ⟨w, a, b', m', fi, a1, a2, a3, a4, a5, a6, a7, a8, -⟩ := h.t1 t y1
    have e1 : w = x := nI_inj (by omega) (by omega) (by rw [← a1, y2])
    subst e1
    have hqw := h.qb a2
    have e2 : b' = b := nI_inj (by omega) (by omega) (by rw [← a4, y3])
    have e3 : m' = m := nI_inj (by omega) (by omega) (by rw [← a5, y4])
    subst e2; subst e3
    rcases z t (Nat.zero_le _) (by omega) with q | q
    · exact hxu (nI_inj (by omega) (by omega) (by rw [← a1, q]))
    · rw [frI_iff, a5, show ix (nI m') = m' from nI_clamp (by omega)] at q
      refine q (j - b') (Nat.zero_le _) (by omega) ((hb t w a b' m' (j - b') a1 a2 a3 a4 a6 a7 a8 (by omega)).mpr ?_)
      rw [show b' + (j - b') = j by omega]
      exact ⟨hcon.1, hcon.2, hj4⟩
  · intro z t _ ht
    obtain ⟨w, a, b, m, fi, a1, a2, a3, a4, a5, a6, a7, a8, -⟩ := h.t1 t (by omega)
    have hqw := h.qb a2
    by_cases e : w = u
    · subst e; exact Or.inl a1
    · refine Or.inr ?_
      rw [frI_iff, a5, show ix (nI m) = m from nI_clamp (by omega)]
      intro k' _ hk' hbl
      obtain ⟨y1, y2, y3⟩ := (hb t w a b m k' a1 a2 a3 a4 a6 a7 a8 (by omega)).mp hbl
      exact z w a2 e (b + k') (by omega) y3 ⟨y1, y2⟩
/-- one more move is granted -/
def gr1 (k : KS) (u : Nat) : KS := (KS.mk (va_up k.N 6 (max (k.tm u (k.q 5 u)) (k.N 6))) (va_up k.q 5 (va_up (k.q 5) u (k.q 5 u + 1))) (k.ce) (k.tm) (k.X))
theorem JI.gr1x (h : JI v A k) {u : Nat} (hu : u < k.N 0) (hg : k.q 5 u < k.q 1 u) : JI (upd v 29 (nI (max (k.tm u (k.q 5 u)) (k.N 6)))) (va_up A 26 (upd (A 26) u (nI (k.q 5 u + 1)))) (gr1 k u) := by
  have hop : (v 1 = 1 ∧ good (A 2)) := by
    rcases h.op with z | z
    · omega
    · exact z
  have hm := ((h.mv u hu).1 (k.q 5 u) hg).2.2.1
  have h6 := h.n6.2
  have hge : ∀ x, k.q 5 x ≤ va_up (k.q 5) u (k.q 5 u + 1) x := fun x => by
    by_cases e : x = u
    · subst e; rw [va_up_self]; omega
    · rw [va_up_ne _ _ e]; exact Nat.le_refl _
  refine ⟨h.n0, h.n1, h.n2, h.n3, h.n4, h.n5, ?_, Or.inr hop, h.kd, h.pk, h.pj, h.st, h.tk, ?_, h.att, h.mv, ?_, ?_, h.t1, h.t2, h.la⟩
  · show upd v 29 (nI (max (k.tm u (k.q 5 u)) (k.N 6))) 29 = nI (va_up k.N 6 (max (k.tm u (k.q 5 u)) (k.N 6)) 6) ∧ va_up k.N 6 (max (k.tm u (k.q 5 u)) (k.N 6)) 6 ≤ 150 * k.N 4
    rw [upd_self, va_up_self]
    exact ⟨rfl, by omega⟩
  · intro x hx
    have hcx := h.cn x hx
    show (A 27 x = nI (k.q 1 x) ∧ A 23 x = nI (k.q 2 x) ∧ A 24 x = nI (k.q 3 x) ∧ A 25 x = nI (k.q 4 x) ∧ upd (A 26) u (nI (k.q 5 u + 1)) x = nI (va_up (k.q 5) u (k.q 5 u + 1) x)) ∧ k.q 4 x ≤ k.q 2 x ∧ k.q 2 x ≤ k.q 3 x ∧ k.q 3 x ≤ va_up (k.q 5) u (k.q 5 u + 1) x ∧ va_up (k.q 5) u (k.q 5 u + 1) x ≤ k.q 1 x ∧ k.q 1 x ≤ 150 * k.N 4
    by_cases e : x = u
    · subst e
      rw [upd_self, va_up_self]
      exact ⟨⟨hcx.1.1, hcx.1.2.1, hcx.1.2.2.1, hcx.1.2.2.2.1, rfl⟩, by omega, by omega, by omega, by omega, by omega⟩
    · rw [upd_ne _ _ e, va_up_ne _ _ e]
      exact hcx
  · intro x hx i hi
    show k.tm x i ≤ va_up k.N 6 (max (k.tm u (k.q 5 u)) (k.N 6)) 6
    rw [va_up_self]
    replace hi : i < va_up (k.q 5) u (k.q 5 u + 1) x := hi
    by_cases e : x = u
    · subst e
      rw [va_up_self] at hi
      by_cases e2 : i = k.q 5 x
      · subst e2; exact Nat.le_max_left _ _
      · exact Nat.le_trans (h.gt x hx i (by omega)) (Nat.le_max_right _ _)
    · rw [va_up_ne _ _ e] at hi
      exact Nat.le_trans (h.gt x hx i hi) (Nat.le_max_right _ _)
  · intro j hj
    obtain ⟨x, n, y1, y2, y3, y4⟩ := h.lt j hj
    refine ⟨x, n, y1, y2, y3, ?_⟩
    rcases y4 with z | z
    · exact Or.inl ⟨z.1, Nat.le_trans z.2 (hge x)⟩
    · exact Or.inr z
noncomputable def grK (u : Nat) : Nat → KS → KS
  | 0, k => k
  | n + 1, k => @ite _ (freeK k u (k.q 5 u)) (Classical.propDecidable _) (grK u n (gr1 k u)) k
theorem grK_t {u n : Nat} {k : KS} (h : freeK k u (k.q 5 u)) : grK u (n + 1) k = grK u n (gr1 k u) := if_pos h
theorem grK_f {u n : Nat} {k : KS} (h : ¬ freeK k u (k.q 5 u)) : grK u (n + 1) k = k := if_neg h
theorem upd_upd (f : Nat → Int32) (j : Nat) (x y : Int32) : upd (upd f j x) j y = upd f j y := by
  funext i
  by_cases e : i = j
  · subst e; rw [upd_self, upd_self]
  · rw [upd_ne _ _ e, upd_ne _ _ e, upd_ne _ _ e]
theorem va_upup {α : Type} (f : Nat → α) (j : Nat) (x y : α) : va_up (va_up f j x) j y = va_up f j y := by
  funext i
  by_cases e : i = j
  · subst e; rw [va_up_self, va_up_self]
  · rw [va_up_ne _ _ e, va_up_ne _ _ e, va_up_ne _ _ e]
theorem upd_same {f : Nat → Int32} {j : Nat} {x : Int32} (h : f j = x) : upd f j x = f := by
  funext i
  by_cases e : i = j
  · subst e; rw [upd_self, h]
  · rw [upd_ne _ _ e]
theorem va_same {α : Type} {f : Nat → α} {j : Nat} {x : α} (h : f j = x) : va_up f j x = f := by
  funext i
  by_cases e : i = j
  · subst e; rw [va_up_self, h]
  · rw [va_up_ne _ _ e]
theorem JI.grLx {u : Nat} : ∀ n (v : Nat → Int32) (A : Nat → Nat → Int32) (k : KS), JI v A k → u < k.N 0 → k.q 5 u + n = k.q 1 u → grL u (k.N 4) n v A = (upd v 29 (nI ((grK u n k).N 6)), va_up A 26 (upd (A 26) u (nI ((grK u n k).q 5 u)))) ∧ JI (upd v 29 (nI ((grK u n k).N 6))) (va_up A 26 (upd (A 26) u (nI ((grK u n k).q 5 u)))) (grK u n k) ∧ k.q 5 u ≤ (grK u n k).q 5 u := by
  intro n
  induction n with
  | zero =>
    intro v A k h hu hn
    have e1 : upd v 29 (nI (k.N 6)) = v := upd_same h.n6.1
    have e2 : va_up A 26 (upd (A 26) u (nI (k.q 5 u))) = A := by rw [upd_same (h.cn u hu).1.2.2.2.2]; exact va_same rfl
    rw [grL]
    show (v, A) = (upd v 29 (nI (k.N 6)), va_up A 26 (upd (A 26) u (nI (k.q 5 u)))) ∧ JI (upd v 29 (nI (k.N 6))) (va_up A 26 (upd (A 26) u (nI (k.q 5 u)))) k ∧ k.q 5 u ≤ k.q 5 u
    rw [e1, e2]
    exact ⟨rfl, h, Nat.le_refl _⟩
  | succ n ih =>
    intro v A k h hu hn
    have hnp := h.np
    have h6 := h.n6.2
    have hlt : k.q 5 u < k.q 1 u := by omega
    obtain ⟨-, h20, h21⟩ := h.vin hu hlt
    have htm := ((h.mv u hu).1 _ hlt).2.2.1
    rw [grL, (h.cn u hu).1.2.2.2.2, h20, h21]
    by_cases q : freeK k u (k.q 5 u)
    · rw [if_pos ((h.free hu hlt).mpr q), h.n6.1, mx_nI (by omega) (by omega), show (1 : Int32) = nI 1 from rfl, nI_add, grK_t q]
      obtain ⟨i1, i2, i3⟩ := ih _ _ _ (h.gr1x hu hlt) hu (by
        show va_up (k.q 5) u (k.q 5 u + 1) u + n = k.q 1 u
        rw [va_up_self]; omega)
      have i3' : va_up (k.q 5) u (k.q 5 u + 1) u ≤ (grK u n (gr1 k u)).q 5 u := i3
      rw [va_up_self] at i3'
      rw [upd_upd, va_up_self, upd_upd, va_upup] at i1 i2
      exact ⟨i1, i2, by omega⟩
    · rw [if_neg (fun z => q ((h.free hu hlt).mp z)), grK_f q]
      have e1 : upd v 29 (nI (k.N 6)) = v := upd_same h.n6.1
      have e2 : va_up A 26 (upd (A 26) u (nI (k.q 5 u))) = A := by rw [upd_same (h.cn u hu).1.2.2.2.2]; exact va_same rfl
      rw [e1, e2]
      exact ⟨rfl, h, Nat.le_refl _⟩
end JIS
/-- the state of a tick: what the class holds -/
abbrev TS : Type := (Nat → Int32) × (Nat → Nat → Int32) × KS
abbrev TS.v (T : TS) : Nat → Int32 := T.1
abbrev TS.A (T : TS) : Nat → Nat → Int32 := T.2.1
abbrev TS.k (T : TS) : KS := T.2.2
def kSn (k : KS) : KS := (KS.mk (va_up k.N 1 (if k.N 1 = 60 then 60 else k.N 1 + 1)) (k.q) (k.ce) (k.tm) (k.X))
def snT (T : TS) (ki u n : Nat) : TS := ⟨sndV T.v, sndA T.v T.A (nI ki) (nI u) (nI n), kSn T.k⟩
noncomputable def grE1 (T : TS) (u : Nat) : TS :=
  let k1 := grK u (T.k.q 1 u - T.k.q 5 u) T.k
  ⟨upd T.v 29 (nI (k1.N 6)), va_up T.A 26 (upd (T.A 26) u (nI (k1.q 5 u))), k1⟩
noncomputable def grC (T : TS) (u : Nat) : TS := @ite _ (T.k.q 5 u < (grE1 T u).k.q 5 u ∨ isTn T.v (nI u)) (Classical.propDecidable _) (snT (grE1 T u) 0 u ((grE1 T u).k.q 5 u)) (grE1 T u)
theorem JI.grCx {T : TS} (h : JI T.v T.A T.k) {u : Nat} (hu : u < T.k.N 0) : grT T.v T.A u (T.k.N 4) = ((grC T u).v, (grC T u).A) ∧ JI (grC T u).v (grC T u).A (grC T u).k := by
  have hqb := h.qb hu
  have hc := h.cn u hu
  obtain ⟨i1, i2, i3⟩ := JI.grLx (T.k.q 1 u - T.k.q 5 u) T.v T.A T.k h hu (by omega)
  have e0 : grE T.v T.A u (T.k.N 4) = ((grE1 T u).v, (grE1 T u).A) := by
    unfold grE
    rw [hc.1.1, hc.1.2.2.2.2, show ix (nI (T.k.q 1 u)) = T.k.q 1 u from nI_clamp (by omega), show ix (nI (T.k.q 5 u)) = T.k.q 5 u from nI_clamp (by omega)]
    exact i1
  have hJ : JI (grE1 T u).v (grE1 T u).A (grE1 T u).k := i2
  have i3' : T.k.q 5 u ≤ (grE1 T u).k.q 5 u := i3
  have hkN : (grE1 T u).k.N 0 = T.k.N 0 := by
    have : ∀ n k, (grK u n k).N 0 = k.N 0 := by
      intro n
      induction n with
      | zero => intro k; rfl
      | succ n ih =>
        intro k
        by_cases q : freeK k u (k.q 5 u)
        · rw [grK_t q, ih]; rfl
        · rw [grK_f q]
    exact this _ _
  have hu' : u < (grE1 T u).k.N 0 := by rw [hkN]; exact hu
  have hqb' := hJ.qb hu'
  have hc' := hJ.cn u hu'
  have e26 : (grE1 T u).A 26 u = nI ((grE1 T u).k.q 5 u) := hc'.1.2.2.2.2
  have e30 : isTn (grE1 T u).v (nI u) ↔ isTn T.v (nI u) := Iff.rfl
  have hq : (T.A 26 u < ((grE1 T u).v, (grE1 T u).A).2 26 u ∨ isTn ((grE1 T u).v, (grE1 T u).A).1 (nI u)) ↔ (T.k.q 5 u < (grE1 T u).k.q 5 u ∨ isTn T.v (nI u)) := by
    show (T.A 26 u < (grE1 T u).A 26 u ∨ isTn T.v (nI u)) ↔ _
    rw [hc.1.2.2.2.2, e26, nI_ltI (by omega) (by omega)]
  unfold grT
  rw [e0]
  unfold grC
  by_cases q : T.k.q 5 u < (grE1 T u).k.q 5 u ∨ isTn T.v (nI u)
  · rw [if_pos (hq.mpr q), if_pos q]
    refine ⟨?_, ?_⟩
    · show (sndV (grE1 T u).v, sndA (grE1 T u).v (grE1 T u).A (nI 0) (nI u) ((grE1 T u).A 26 u)) = (sndV (grE1 T u).v, sndA (grE1 T u).v (grE1 T u).A (nI 0) (nI u) (nI ((grE1 T u).k.q 5 u)))
      rw [e26]
    · exact hJ.snd (ki := 0) hu' (Or.inl ⟨rfl, Nat.le_refl _⟩)
  · rw [if_neg (fun z => q (hq.mp z)), if_neg q]
    exact ⟨rfl, hJ⟩
/-! a plan's moves -/
def apX (n : Nat) (cc : Nat → Nat) (wy : Nat → Nat) : Nat → Nat → Nat
  | 0 => cc
  | t + 1 => if wy (t + 1) = wy t then apX n cc wy t else va_up (apX n cc wy t) (n + apn wy t) (wy (t + 1))
def apT (n : Nat) (tt : Nat → Nat) (wy : Nat → Nat) (cl : Nat) : Nat → Nat → Nat
  | 0 => tt
  | t + 1 => if wy (t + 1) = wy t then apT n tt wy cl t else va_up (apT n tt wy cl t) (n + apn wy t) (cl + (t + 1))
theorem apM_XT (n : Nat) (cc tt wy : Nat → Nat) (cl : Nat) : ∀ t, apM n cc tt (apX n cc wy t) (apT n tt wy cl t) wy cl t := by
  intro t
  induction t with
  | zero => exact ⟨fun _ _ => ⟨rfl, rfl⟩, fun s h1 h2 => absurd h1 (by omega)⟩
  | succ t ih =>
    rw [apX, apT]
    by_cases q : wy (t + 1) = wy t
    · rw [if_pos q, if_pos q]
      refine ⟨ih.1, fun s h1 h2 h3 => ?_⟩
      by_cases e : s = t + 1
      · subst e; exact absurd q h3
      · exact ih.2 s h1 (by omega) h3
    · rw [if_neg q, if_neg q]
      exact apM_s (t := t + 1) (by omega) ih q
theorem apn_ex {wy : Nat → Nat} : ∀ e j, j < apn wy e → ∃ s, 1 ≤ s ∧ s ≤ e ∧ wy s ≠ wy (s - 1) ∧ apn wy (s - 1) = j := by
  intro e
  induction e with
  | zero => intro j h; rw [apn] at h; omega
  | succ e ih =>
    intro j h
    by_cases q : wy (e + 1) = wy e
    · rw [apn, if_pos q] at h
      obtain ⟨s, h1, h2, h3, h4⟩ := ih j h
      exact ⟨s, h1, by omega, h3, h4⟩
    · rw [apn, if_neg q] at h
      by_cases z : j = apn wy e
      · exact ⟨e + 1, by omega, by omega, q, z.symm⟩
      · obtain ⟨s, h1, h2, h3, h4⟩ := ih j (by omega)
        exact ⟨s, h1, by omega, h3, h4⟩
/-- the cell behind the moves of the times up to r -/
theorem celW {n : Nat} {cc tt cc1 tt1 wy : Nat → Nat} {cl e pk : Nat} (h : apM n cc tt cc1 tt1 wy cl e) (h0 : cel pk cc n = wy 0) : ∀ r, r ≤ e → cel pk cc1 (n + apn wy r) = wy r := by
  intro r
  induction r with
  | zero =>
    intro _
    rw [apn, Nat.add_zero, ← h0]
    unfold cel
    split
    · rfl
    · exact (h.1 (n - 1) (by omega)).1
  | succ r ih =>
    intro hr
    by_cases q : wy (r + 1) = wy r
    · rw [apn, if_pos q, Nat.add_zero, ih (by omega), q]
    · rw [apn, if_neg q]
      unfold cel
      rw [if_neg (by omega), show n + (apn wy r + 1) - 1 = n + apn wy r by omega]
      exact (h.2 (r + 1) (by omega) hr q).1
theorem apM_uniq {n : Nat} {cc tt cc1 tt1 cc2 tt2 wy : Nat → Nat} {cl e : Nat} (h : apM n cc tt cc1 tt1 wy cl e) (h' : apM n cc tt cc2 tt2 wy cl e) {i : Nat} (hi : i < n + apn wy e) : cc1 i = cc2 i ∧ tt1 i = tt2 i := by
  by_cases q : i < n
  · exact ⟨(h.1 i q).1.trans (h'.1 i q).1.symm, (h.1 i q).2.trans (h'.1 i q).2.symm⟩
  · obtain ⟨s, h1, h2, h3, h4⟩ := apn_ex (wy := wy) e (i - n) (by omega)
    have a := h.2 s h1 h2 h3
    have b := h'.2 s h1 h2 h3
    rw [h4, show n + (i - n) = i by omega] at a b
    exact ⟨a.1.trans b.1.symm, a.2.trans b.2.symm⟩
section PGS
variable {E B : Nat → Nat → Bool} {gf : Nat → Nat → Nat → Option Nat} {fs sn home e : Nat}
/-- when the second station is reached -/
theorem PG.cross (h : PG E B gf fs sn home e) : ∃ s, 1 ≤ s ∧ s ≤ e ∧ lgA E B fs sn home e s = 2 ∧ lgA E B fs sn home e (s - 1) ≠ 2 ∧ fnF (prX E B fs sn home e) (dlg fs sn) home e = nI s := by
  have key : ∀ r, r ≤ e → lgA E B fs sn home e r = 2 → ∃ s, 1 ≤ s ∧ s ≤ r ∧ lgA E B fs sn home e s = 2 ∧ lgA E B fs sn home e (s - 1) ≠ 2 ∧ fnF (prX E B fs sn home e) (dlg fs sn) home r = nI s := by
    intro r
    induction r with
    | zero => intro _ z; exact absurd z (show (0 : Nat) ≠ 2 by decide)
    | succ r ih =>
      intro hr z
      rw [fnF]
      by_cases q : lgA E B fs sn home e r = 2
      · obtain ⟨s, h1, h2, h3, h4, h5⟩ := ih (by omega) q
        refine ⟨s, h1, by omega, h3, h4, ?_⟩
        rw [if_neg (fun y => y.2 q)]
        exact h5
      · exact ⟨r + 1, by omega, Nat.le_refl _, z, q, if_pos ⟨z, q⟩⟩
  exact key e (Nat.le_refl _) h.last.2
theorem finF_at {fin : Int32} {n : Nat} {wy : Nat → Nat} : ∀ e s, 1 ≤ s → s ≤ e → e < 100000 → finF (nI s) fin n wy e = nI (n + apn wy s) := by
  intro e
  induction e with
  | zero => intro s h1 h2; omega
  | succ e ih =>
    intro s h1 h2 h3
    rw [finF]
    by_cases q : s = e + 1
    · subst q; rw [if_pos rfl]
    · rw [if_neg (fun z => q (nI_inj (by omega) (by omega) z.symm))]
      exact ih s h1 (by omega) (by omega)
theorem PG.com (h : PG E B gf fs sn home e) {s : Nat} (h1 : 1 ≤ s) (h2 : s ≤ e) : E s (wyA E B fs sn home e s) = true := by
  have he := h.he
  obtain ⟨p1, p2, p3⟩ := h.path s h2
  obtain ⟨m, rfl⟩ : ∃ m, s = m + 1 := ⟨s - 1, by omega⟩
  refine FW_E (fs := fs) (sn := sn) h.oc m (lgA E B fs sn home e (m + 1)) _ (by omega) p2 p1 ?_
  by_cases q : m + 1 = e
  · rw [q, h.last.1, h.last.2]; exact h.hend
  · obtain ⟨j, hj⟩ : ∃ j, e - (m + 1) = j + 1 := ⟨e - (m + 1) - 1, by omega⟩
    rw [hj, NNa] at p3
    have := p3.1
    rw [show e - (j + 1) = m + 1 by omega] at this
    exact (FW_RR h.gf _ _ _ (by omega) p2 p1).mpr this
end PGS
/-- the state behind a plan -/
def plK (k : KS) (w e : Nat) (wy : Nat → Nat) (fin : Int32) : KS := KS.mk (va_up (va_up k.N 4 (k.N 4 + 1)) 5 (k.N 5 + apn wy e)) (va_up k.q 1 (va_up (k.q 1) w (k.q 1 w + apn wy e))) (va_up k.ce w (apX (k.q 1 w) (k.ce w) wy e)) (va_up k.tm w (apT (k.q 1 w) (k.tm w) wy (k.N 6) e)) (va_up k.X 0 (va_up (k.X 0) w fin))
theorem JI.pln {v : Nat → Int32} {A : Nat → Nat → Int32} {k : KS} (h : JI v A k) {w e fs sn : Nat} {gf : Nat → Nat → Nat → Option Nat} (hw : w < k.N 0) (hid : k.q 4 w = k.q 1 w) (hnp : k.N 4 < k.N 2) {E B : Nat → Nat → Bool} (hE : ∀ s d, E s d = true → comC (A 2) (k.q 0 w) d) (hPG : PG E B gf fs sn (k.q 0 w) e) {v1 : Nat → Int32} {A1 : Nat → Nat → Int32}
    (hW : plW v A w (k.N 4) (k.N 5) (k.N 6) (k.q 1 w) (wyA E B fs sn (k.q 0 w) e) (lgA E B fs sn (k.q 0 w) e) e v1 A1) :
    JI v1 A1 (plK k w e (wyA E B fs sn (k.q 0 w) e) (finF (fnF (prX E B fs sn (k.q 0 w) e) (dlg fs sn) (k.q 0 w) e) (k.X 0 w) (k.q 1 w) (wyA E B fs sn (k.q 0 w) e) e)) := by
  obtain ⟨s0, x1, x2, x3, x4, x5⟩ := hPG.cross
  rw [x5, finF_at e s0 x1 x2 (by have := hPG.he; omega)]
  have hmv0 := hPG.mv (r := s0 - 1) (by omega) (by rw [show s0 - 1 + 1 = s0 by omega, x3]; exact fun z => x4 z.symm)
  rw [show s0 - 1 + 1 = s0 by omega] at hmv0
  have hapn0 : apn (wyA E B fs sn (k.q 0 w) e) s0 = apn (wyA E B fs sn (k.q 0 w) e) (s0 - 1) + 1 := by
    obtain ⟨m, rfl⟩ : ∃ m, s0 = m + 1 := ⟨s0 - 1, by omega⟩
    rw [apn, if_neg (show ¬ wyA E B fs sn (k.q 0 w) e (m + 1) = wyA E B fs sn (k.q 0 w) e m from hmv0)]; rfl
  have hpath := hPG.path
  have hcom : ∀ s, 1 ≤ s → s ≤ e → comC (A 2) (k.q 0 w) (wyA E B fs sn (k.q 0 w) e s) := fun s h1 h2 => hE s _ (hPG.com h1 h2)
  have hlast := hPG.last.1
  have h17 := hW.f17 s0 x1 x2 x3 x4
  have hwy0 : wyA E B fs sn (k.q 0 w) e 0 = k.q 0 w := rfl
  have he := hPG.he
  generalize wyA E B fs sn (k.q 0 w) e = wy at *
  have hM := apM_XT (k.q 1 w) (k.ce w) (k.tm w) wy (k.N 6) e
  have hle := apn_le wy e
  have hcw := h.cn w hw
  have hcel := celW hM (pk := k.q 0 w) ((h.mv w hw).2.2.trans hwy0.symm)
  have h24 := h.np
  have h6 := h.n0.2
  have hq : ∀ u, k.q 1 u ≤ va_up (k.q 1) w (k.q 1 w + apn wy e) u := fun u => by
    by_cases z : u = w
    · subst z; rw [va_up_self]; omega
    · rw [va_up_ne _ _ z]; exact Nat.le_refl _
  have hceO : ∀ u i, u < k.N 0 → i < k.q 1 u → va_up k.ce w (apX (k.q 1 w) (k.ce w) wy e) u i = k.ce u i ∧ va_up k.tm w (apT (k.q 1 w) (k.tm w) wy (k.N 6) e) u i = k.tm u i := fun u i _ hi => by
    by_cases z : u = w
    · subst z; rw [va_up_self, va_up_self]; exact hM.1 i hi
    · rw [va_up_ne _ _ z, va_up_ne _ _ z]; exact ⟨rfl, rfl⟩
  have hcelO : ∀ u i, u < k.N 0 → i ≤ k.q 1 u → cel (k.q 0 u) (va_up k.ce w (apX (k.q 1 w) (k.ce w) wy e) u) i = cel (k.q 0 u) (k.ce u) i := fun u i hu hi => by
    unfold cel
    split
    · rfl
    · exact (hceO u (i - 1) hu (by omega)).1
  have a2 := hW.ao 2 (by decide) (by decide) (by decide) (by decide) (by decide) (by decide) (by decide) (by decide) (by decide)
  have o := fun j h1 h2 h3 h4 h5 h6 h7 h8 h9 => hW.ao j h1 h2 h3 h4 h5 h6 h7 h8 h9
  have hv := fun j h1 h2 h3 => hW.vo j h1 h2 h3
  have hop : (v 1 = 1 ∧ good (A 2)) := by
    rcases h.op with z | z
    · omega
    · exact z
  apply JI.mk
  case n0 => rw [hv 4 (by decide) (by decide) (by decide)]; exact h.n0
  case n1 => rw [hv 31 (by decide) (by decide) (by decide)]; exact h.n1
  case n2 => rw [hv 9 (by decide) (by decide) (by decide)]; exact h.n2
  case n3 => rw [hv 3 (by decide) (by decide) (by decide)]; exact h.n3
  case n4 =>
    show v1 10 = nI (k.N 4 + 1) ∧ k.N 4 + 1 ≤ k.N 2
    rw [hW.v10, h.n4.1, show (1 : Int32) = nI 1 from rfl, nI_add]
    exact ⟨rfl, by omega⟩
  case n5 =>
    show v1 19 = nI (k.N 5 + apn wy e) ∧ k.N 5 + apn wy e ≤ 150 * (k.N 4 + 1)
    have := h.n5.2
    exact ⟨hW.v19, by omega⟩
  case n6 =>
    show v1 29 = nI (k.N 6) ∧ k.N 6 ≤ 150 * (k.N 4 + 1)
    rw [hv 29 (by decide) (by decide) (by decide)]
    have := h.n6
    exact ⟨this.1, by omega⟩
  case op => rw [hv 1 (by decide) (by decide) (by decide), a2]; exact Or.inr hop
  case kd => rw [a2]; exact h.kd
  case pk => rw [a2, o 6 (by decide) (by decide) (by decide) (by decide) (by decide) (by decide) (by decide) (by decide) (by decide)]; exact h.pk
  case pj => exact h.pj
  case st => rw [a2, o 5 (by decide) (by decide) (by decide) (by decide) (by decide) (by decide) (by decide) (by decide) (by decide)]; exact h.st
  case tk => rw [a2, o 11 (by decide) (by decide) (by decide) (by decide) (by decide) (by decide) (by decide) (by decide) (by decide), o 12 (by decide) (by decide) (by decide) (by decide) (by decide) (by decide) (by decide) (by decide) (by decide)]; exact h.tk
  case cn =>
    intro x hx
    have hcx := h.cn x hx
    rw [hW.a27, o 23 (by decide) (by decide) (by decide) (by decide) (by decide) (by decide) (by decide) (by decide) (by decide), o 24 (by decide) (by decide) (by decide) (by decide) (by decide) (by decide) (by decide) (by decide) (by decide), o 25 (by decide) (by decide) (by decide) (by decide) (by decide) (by decide) (by decide) (by decide) (by decide), o 26 (by decide) (by decide) (by decide) (by decide) (by decide) (by decide) (by decide) (by decide) (by decide)]
    show (upd (A 27) w (nI (k.q 1 w + apn wy e)) x = nI (va_up (k.q 1) w (k.q 1 w + apn wy e) x) ∧ A 23 x = nI (k.q 2 x) ∧ A 24 x = nI (k.q 3 x) ∧ A 25 x = nI (k.q 4 x) ∧ A 26 x = nI (k.q 5 x)) ∧ k.q 4 x ≤ k.q 2 x ∧ k.q 2 x ≤ k.q 3 x ∧ k.q 3 x ≤ k.q 5 x ∧ k.q 5 x ≤ va_up (k.q 1) w (k.q 1 w + apn wy e) x ∧ va_up (k.q 1) w (k.q 1 w + apn wy e) x ≤ 150 * (k.N 4 + 1)
    by_cases z : x = w
    · subst z
      rw [upd_self, va_up_self]
      exact ⟨⟨rfl, hcx.1.2⟩, by omega, by omega, by omega, by omega, by omega⟩
    · rw [upd_ne _ _ z, va_up_ne _ _ z]
      exact ⟨hcx.1, by omega, by omega, by omega, by omega, by omega⟩
  case att =>
    intro u hu
    rw [o 22 (by decide) (by decide) (by decide) (by decide) (by decide) (by decide) (by decide) (by decide) (by decide), h.att u hu]
    show nI _ = nI (cel (k.q 0 u) (va_up k.ce w (apX (k.q 1 w) (k.ce w) wy e) u) (k.q 2 u))
    have := h.cn u hu
    rw [hcelO u (k.q 2 u) hu (by omega)]
  case mv =>
    intro u hu
    rw [a2]
    show (∀ i, i < va_up (k.q 1) w (k.q 1 w + apn wy e) u → va_up k.ce w (apX (k.q 1 w) (k.ce w) wy e) u i < 96 ∧ (A 2 (va_up k.ce w (apX (k.q 1 w) (k.ce w) wy e) u i) = 1 ∨ A 2 (va_up k.ce w (apX (k.q 1 w) (k.ce w) wy e) u i) = 2 ∨ va_up k.ce w (apX (k.q 1 w) (k.ce w) wy e) u i = k.q 0 u) ∧ va_up k.tm w (apT (k.q 1 w) (k.tm w) wy (k.N 6) e) u i ≤ 150 * (k.N 4 + 1) ∧ va_up k.ce w (apX (k.q 1 w) (k.ce w) wy e) u i ≠ cel (k.q 0 u) (va_up k.ce w (apX (k.q 1 w) (k.ce w) wy e) u) i) ∧ inc (va_up (k.q 1) w (k.q 1 w + apn wy e) u) (va_up k.tm w (apT (k.q 1 w) (k.tm w) wy (k.N 6) e) u) ∧ cel (k.q 0 u) (va_up k.ce w (apX (k.q 1 w) (k.ce w) wy e) u) (va_up (k.q 1) w (k.q 1 w + apn wy e) u) = k.q 0 u
    have hmu := h.mv u hu
    by_cases z : u = w
    · subst z
      have hlow : ∀ i, i < k.q 1 u → k.tm u i ≤ k.N 6 := fun i hi => h.gt u hu i (by omega)
      have h6' := h.n6.2
      simp only [va_up_self]
      refine ⟨fun i hi => ?_, fun i j hij hj => ?_, (hcel e (Nat.le_refl _)).trans hlast⟩
      · by_cases y : i < k.q 1 u
        · have := hmu.1 i y
          have hc0 := hcelO u i hu (by omega)
          rw [va_up_self] at hc0
          rw [(hM.1 i y).1, (hM.1 i y).2, hc0]
          exact ⟨this.1, this.2.1, by omega, this.2.2.2⟩
        · obtain ⟨s, s1, s2, s3, s4⟩ := apn_ex (wy := wy) e (i - k.q 1 u) (by omega)
          have hs := hM.2 s s1 s2 s3
          have hcs := hcel (s - 1) (by omega)
          rw [s4, show k.q 1 u + (i - k.q 1 u) = i by omega] at hs hcs
          rw [hs.1, hs.2, hcs]
          exact ⟨(hpath s s2).1, hcom s s1 s2, by omega, s3⟩
      · by_cases y : j < k.q 1 u
        · rw [(hM.1 i (by omega)).2, (hM.1 j y).2]; exact hmu.2.1 i j hij y
        · obtain ⟨s, s1, s2, s3, s4⟩ := apn_ex (wy := wy) e (j - k.q 1 u) (by omega)
          have hs := hM.2 s s1 s2 s3
          rw [s4, show k.q 1 u + (j - k.q 1 u) = j by omega] at hs
          rw [hs.2]
          by_cases y2 : i < k.q 1 u
          · rw [(hM.1 i y2).2]
            have := hlow i y2
            omega
          · obtain ⟨r, r1, r2, r3, r4⟩ := apn_ex (wy := wy) e (i - k.q 1 u) (by omega)
            have hr := hM.2 r r1 r2 r3
            rw [r4, show k.q 1 u + (i - k.q 1 u) = i by omega] at hr
            rw [hr.2]
            have : r < s := by
              by_cases y3 : r < s
              · exact y3
              · have := apn_mo wy (r - 1 - (s - 1)) (s - 1)
                rw [show s - 1 + (r - 1 - (s - 1)) = r - 1 by omega] at this
                omega
            omega
    · simp only [va_up_ne _ _ z]
      refine ⟨fun i hi => ?_, hmu.2⟩
      have := hmu.1 i hi
      exact ⟨this.1, this.2.1, by omega, this.2.2.2⟩
  case gt =>
    intro u hu i hi
    show va_up k.tm w (apT (k.q 1 w) (k.tm w) wy (k.N 6) e) u i ≤ k.N 6
    have := h.cn u hu
    have hi' : i < k.q 5 u := hi
    rw [(hceO u i hu (by omega)).2]
    exact h.gt u hu i hi
  case lt =>
    rw [o 32 (by decide) (by decide) (by decide) (by decide) (by decide) (by decide) (by decide) (by decide) (by decide), o 33 (by decide) (by decide) (by decide) (by decide) (by decide) (by decide) (by decide) (by decide) (by decide), o 34 (by decide) (by decide) (by decide) (by decide) (by decide) (by decide) (by decide) (by decide) (by decide)]
    exact h.lt
  case t1 =>
    intro t ht
    replace ht : t < k.N 4 + 1 := ht
    show ∃ w' a b m fi, A1 13 t = nI w' ∧ w' < k.N 0 ∧ A1 14 t = nI a ∧ A1 16 t = nI b ∧ A1 15 t = nI m ∧ a + m ≤ k.N 5 + apn wy e ∧ b + m ≤ va_up (k.q 1) w (k.q 1 w + apn wy e) w' ∧ (∀ k', k' < m → A1 20 (a + k') = nI (va_up k.ce w (apX (k.q 1 w) (k.ce w) wy e) w' (b + k')) ∧ A1 21 (a + k') = nI (va_up k.tm w (apT (k.q 1 w) (k.tm w) wy (k.N 6) e) w' (b + k'))) ∧ A1 17 t = nI fi ∧ fi < va_up (k.q 1) w (k.q 1 w + apn wy e) w' ∧ (A1 28 w' = nI t ∨ fi < k.q 2 w')
    rw [hW.a13, hW.a14, hW.a15, hW.a16, hW.a28]
    by_cases z : t = k.N 4
    · subst z
      refine ⟨w, k.N 5, k.q 1 w, apn wy e, k.q 1 w + apn wy (s0 - 1), upd_self _ _ _, hw, upd_self _ _ _, upd_self _ _ _, upd_self _ _ _, Nat.le_refl _, by rw [va_up_self]; exact Nat.le_refl _, fun k' hk' => ?_, h17, by rw [va_up_self]; have := apn_lt x1 x2 hmv0; omega, Or.inl (upd_self _ _ _)⟩
      obtain ⟨s, s1, s2, s3, s4⟩ := apn_ex e k' hk'
      have hs := hM.2 s s1 s2 s3
      have hn := hW.nw s s1 s2 s3
      rw [s4] at hs hn
      rw [va_up_self, va_up_self, hs.1, hs.2]
      exact hn
    · obtain ⟨w', a, b, m, fi, a1, a2', a3, a4, a5, a6, a7, a8, a9, a10, a11⟩ := h.t1 t (by omega)
      rw [upd_ne _ _ z, upd_ne _ _ z, upd_ne _ _ z, upd_ne _ _ z, hW.a17 t z]
      refine ⟨w', a, b, m, fi, a1, a2', a3, a4, a5, by omega, Nat.le_trans a7 (hq w'), fun k' hk' => ?_, a9, Nat.lt_of_lt_of_le a10 (hq w'), ?_⟩
      · have ho := hceO w' (b + k') a2' (by omega)
        have hol := hW.old (a + k') (by omega)
        rw [ho.1, ho.2, hol.1, hol.2]
        exact a8 k' hk'
      · by_cases y : w' = w
        · subst y
          exact Or.inr (by omega)
        · rw [upd_ne _ _ y]; exact a11
  case t2 =>
    intro u hu i hi
    replace hi : i < va_up (k.q 1) w (k.q 1 w + apn wy e) u := hi
    show ∃ t b m, t < k.N 4 + 1 ∧ A1 13 t = nI u ∧ A1 16 t = nI b ∧ A1 15 t = nI m ∧ b ≤ i ∧ i < b + m ∧ b + m ≤ va_up (k.q 1) w (k.q 1 w + apn wy e) u
    rw [hW.a13, hW.a15, hW.a16]
    by_cases y : i < k.q 1 u
    · obtain ⟨t, b, m, y1, y2, y3, y4, y5, y6, y7⟩ := h.t2 u hu i y
      exact ⟨t, b, m, by omega, by rw [upd_ne _ _ (by omega)]; exact y2, by rw [upd_ne _ _ (by omega)]; exact y3, by rw [upd_ne _ _ (by omega)]; exact y4, y5, y6, Nat.le_trans y7 (hq u)⟩
    · have z : u = w := Classical.byContradiction (fun z => by rw [va_up_ne _ _ z] at hi; omega)
      subst z
      rw [va_up_self] at hi ⊢
      exact ⟨k.N 4, k.q 1 u, apn wy e, by omega, upd_self _ _ _, upd_self _ _ _, upd_self _ _ _, by omega, by omega, Nat.le_refl _⟩
  case la =>
    intro u hu
    show (A1 28 u = -1 ∧ va_up (k.X 0) w (nI (k.q 1 w + apn wy s0)) u = -1) ∨ ∃ t, t < k.N 4 + 1 ∧ A1 28 u = nI t ∧ A1 13 t = nI u ∧ va_up (k.X 0) w (nI (k.q 1 w + apn wy s0)) u = A1 17 t + 1
    rw [hW.a28, hW.a13]
    by_cases z : u = w
    · subst z
      refine Or.inr ⟨k.N 4, by omega, upd_self _ _ _, upd_self _ _ _, ?_⟩
      rw [va_up_self, h17, show (1 : Int32) = nI 1 from rfl, nI_add, hapn0]
      rfl
    · rw [upd_ne _ _ z, va_up_ne _ _ z]
      rcases h.la u hu with y | ⟨t, y1, y2, y3, y4⟩
      · exact Or.inl y
      · exact Or.inr ⟨t, by omega, y2, by rw [upd_ne _ _ (by omega)]; exact y3, by rw [hW.a17 t (by omega)]; exact y4⟩
