/-! sets of cells in the reference's words -/
theorem bb_amt : ∀ c : Fin 96, ((nI c.val).toInt64 &&& 63) = lN (c.val % 64) := by decide +kernel
theorem bb_sm : ∀ k : Fin 64, ((lN k.val).toBitVec.smod 64).toNat = k.val := by decide +kernel
theorem bb_one (x : BitVec 64) : (x &&& 1#64 = 1#64) ↔ x.getLsbD 0 = true := by
  constructor
  · intro h
    have := congrArg (fun z => z.getLsbD 0) h
    simpa using this
  · intro h
    apply BitVec.eq_of_getLsbD_eq
    intro i hi
    by_cases e : i = 0
    · subst e; simp [h]
    · simp [BitVec.getLsbD_one, e]
def bt (g : Nat → Int64) (s c : Nat) : Prop := (g (2 * s + c / 64)).toBitVec.getLsbD (c % 64) = true
theorem lj_nI {s c : Nat} (hs : s < 1000) (hc : c < 96) : lj (nI s) (nI c) = nI (2 * s + c / 64) := by
  show (2 : Int32) * nI s + nI c >>> ((6 : Int32) &&& 31) = _
  rw [pk_shrN (n := c) (by omega) ((6 : Int32) &&& 31) 6 (by decide), show (2 : Int32) = nI 2 from rfl, pk_mul, nI_add]
theorem ix_lj {s c : Nat} (hs : s < 1000) (hc : c < 96) : ix (lj (nI s) (nI c)) = 2 * s + c / 64 := by
  rw [lj_nI hs hc]
  exact nI_clamp (by omega)
theorem bb_shr (w : Int64) {j : Nat} (hj : j < 64) : ((w >>> lN j) &&& 1 = 1) ↔ w.toBitVec.getLsbD j = true := by
  have e : ((w >>> lN j) &&& 1 = 1) ↔ ((w >>> lN j).toBitVec &&& 1#64 = 1#64) := by
    constructor
    · intro h
      have := congrArg Int64.toBitVec h
      simpa using this
    · intro h
      apply Int64.toBitVec_inj.mp
      simpa using h
  have hsm : ((lN j).toBitVec.smod 64).toNat = j := bb_sm ⟨j, hj⟩
  rw [e, bb_one, Int64.toBitVec_shiftRight]
  show (w.toBitVec.sshiftRight ((lN j).toBitVec.smod 64).toNat).getLsbD 0 = true ↔ _
  rw [hsm, BitVec.getLsbD_sshiftRight]
  simp [hj]
theorem bb_isI {g : Nat → Int64} {s c : Nat} (hs : s < 1000) (hc : c < 96) : isI g (nI s) (nI c) ↔ bt g s c := by
  show (g (ix (lj (nI s) (nI c))) >>> ((nI c).toInt64 &&& 63)) &&& 1 = 1 ↔ _
  rw [ix_lj hs hc, bb_amt ⟨c, hc⟩, bb_shr _ (Nat.mod_lt _ (by decide))]
  rfl
theorem bb_shl {j : Nat} (hj : j < 64) : ((1 : Int64) <<< lN j).toBitVec = BitVec.twoPow 64 j := by
  have hsm : ((lN j).toBitVec.smod 64).toNat = j := bb_sm ⟨j, hj⟩
  rw [Int64.toBitVec_shiftLeft]
  show Int64.toBitVec 1 <<< ((lN j).toBitVec.smod 64).toNat = _
  rw [hsm]
  rfl
theorem bb_add {g : Nat → Int64} {s c t d : Nat} (hs : s < 1000) (hc : c < 96) (hd : d < 96) : bt (addL g (nI s) (nI c)) t d ↔ (bt g t d ∨ (t = s ∧ d = c)) := by
  unfold bt addL
  rw [ix_lj hs hc, bb_amt ⟨c, hc⟩]
  unfold vp_updL
  have hm : c % 64 < 64 := Nat.mod_lt _ (by decide)
  have hm2 : d % 64 < 64 := Nat.mod_lt _ (by decide)
  by_cases e : 2 * t + d / 64 = 2 * s + c / 64
  · rw [if_pos e, e, Int64.toBitVec_or, BitVec.getLsbD_or, bb_shl hm, BitVec.getLsbD_twoPow]
    simp only [Bool.or_eq_true, Bool.and_eq_true, decide_eq_true_eq]
    constructor
    · rintro (h | ⟨_, h⟩)
      · exact Or.inl h
      · exact Or.inr (by constructor <;> omega)
    · rintro (h | ⟨h1, h2⟩)
      · exact Or.inl h
      · exact Or.inr ⟨by omega, by rw [h2]⟩
  · rw [if_neg e]
    constructor
    · exact Or.inl
    · rintro (h | ⟨h1, h2⟩)
      · exact h
      · exact absurd (by rw [h1, h2]) e
def clrL (g : Nat → Int64) (set c : Int32) : Nat → Int64 := vp_updL g (ix (lj set c)) (g (ix (lj set c)) &&& ((1 : Int64) <<< (c.toInt64 &&& 63) ^^^ (-1)))
theorem bb_clr {g : Nat → Int64} {s c t d : Nat} (hs : s < 1000) (hc : c < 96) (hd : d < 96) : bt (clrL g (nI s) (nI c)) t d ↔ (bt g t d ∧ ¬ (t = s ∧ d = c)) := by
  unfold bt clrL
  rw [ix_lj hs hc, bb_amt ⟨c, hc⟩]
  unfold vp_updL
  have hm : c % 64 < 64 := Nat.mod_lt _ (by decide)
  have hm2 : d % 64 < 64 := Nat.mod_lt _ (by decide)
  by_cases e : 2 * t + d / 64 = 2 * s + c / 64
  · rw [if_pos e, e, Int64.toBitVec_and, BitVec.getLsbD_and, Int64.toBitVec_xor, BitVec.getLsbD_xor, bb_shl hm, BitVec.getLsbD_twoPow, show ((-1 : Int64).toBitVec) = BitVec.allOnes 64 from by decide, BitVec.getLsbD_allOnes]
    simp only [Bool.and_eq_true, hm2, decide_true, Bool.xor_true, Bool.not_eq_true', Bool.and_eq_false_iff, decide_eq_false_iff_not, decide_eq_true_eq]
    constructor
    · rintro ⟨h1, h2⟩
      refine ⟨h1, ?_⟩
      rintro ⟨h3, h4⟩
      rcases h2 with h2 | h2
      · exact h2 hm
      · exact h2 (by rw [h4])
    · rintro ⟨h1, h2⟩
      exact ⟨h1, Or.inr (fun h3 => h2 (by constructor <;> omega))⟩
  · rw [if_neg e]
    constructor
    · exact fun h => ⟨h, fun ⟨h1, h2⟩ => e (by rw [h1, h2])⟩
    · exact fun h => h.1
theorem bb_zero {g : Nat → Int64} {s c : Nat} (h : g (2 * s + c / 64) = 0) : ¬ bt g s c := by
  unfold bt
  rw [h]
  simp
theorem vp_lj {s c N : Nat} (hs : s < 1000) (hc : c < 96) (h : 2 * s + 1 < N) (hN : N < 2147483648) : vp_in (lj (nI s) (nI c)) N := by
  rw [lj_nI hs hc]
  exact vp_in_nI (by omega) hN
