/-! the planner's memory: 762 sets of cells (0 common, 1 aim, 2 scratch, 3 + t canEnter, 156 + t canBe, 309 + 3 t + leg reached), the way, five numbers (first, second, parking, end, finish) -/
def plF (va : Nat) (d c : Nat → Nat) (F : Nat → Int32) : List Value := [.ref (c 0), .ref va, .ref (d 0), .ref (d 1), .ref (d 2), .ref (c 1), .ref (c 2), .ref (d 3), .int (F 0), .int (F 1), .int (F 2), .int (F 3), .int (F 4)]
def pS (G : GG) (pl va : Nat) (d c : Nat → Nat) (P : List Nat) (f0 f : Nat → va_E) (S : Nat → Nat → Bool) (Wy F : Nat → Int32) : Prop :=
  (pl ∈ P ∧ (∀ k, k < 4 → d k ∈ P) ∧ (∀ i, i < 762 → c i ∈ P) ∧ va ∈ P) ∧ (∀ i j, i < 762 → j < 762 → c i = c j → i = j) ∧
  (f pl = .inr (9, plF va d c F) ∧ f (d 0) = arR G 4 153 (fun t => some (c (3 + t))) ∧ f (d 1) = arR G 4 153 (fun t => some (c (156 + t))) ∧ f (d 2) = arR G 4 453 (fun i => some (c (309 + i))) ∧ f (d 3) = .inl (G.2.1 0, 151, .inl Wy)) ∧
  (∀ i, i < 762 → ce f (c i) (S i)) ∧ ∀ y, y ≠ pl → y ≠ d 3 → (∀ i, i < 762 → y ≠ c i) → f y = f0 y
section PS
variable {G : GG} {pl va : Nat} {d c : Nat → Nat} {P : List Nat} {f0 f f1 : Nat → va_E} {S : Nat → Nat → Bool} {Wy F : Nat → Int32}
theorem pS.ne (h : pS G pl va d c P f0 f S Wy F) {i j : Nat} (hi : i < 762) (hj : j < 762) (hij : i ≠ j) : c i ≠ c j := fun z => hij (h.2.1 i j hi hj z)
theorem pS.setc (h : pS G pl va d c P f0 f S Wy F) {i : Nat} (hi : i < 762) {T : Nat → Bool} (hw : cw f (c i) f1 T) : pS G pl va d c P f0 f1 (va_up S i T) Wy F := by
  obtain ⟨h1, h2, ⟨h3, h4, h5, h6, h7⟩, h8, h9⟩ := h
  have hc := h8 i hi
  refine ⟨h1, h2, ⟨(hw.there (hc.neO h3 (by decide))).trans h3, (hw.there (hc.ne h4)).trans h4, (hw.there (hc.ne h5)).trans h5, (hw.there (hc.ne h6)).trans h6, (hw.there (hc.ne h7)).trans h7⟩, fun j hj => ?_, fun y a1 a2 a3 => (hw.there (a3 i hi)).trans (h9 y a1 a2 a3)⟩
  by_cases e : j = i
  · subst e; rw [va_up_self]; exact hw.here
  · rw [va_up_ne _ _ e]; exact (h8 j hj).congr (hw.there (fun z => e (h2 j i hj hi z)))
theorem pS.setf (h : pS G pl va d c P f0 f S Wy F) {F' : Nat → Int32} (hw : f1 = va_up f pl (.inr (9, plF va d c F'))) : pS G pl va d c P f0 f1 S Wy F' := by
  obtain ⟨h1, h2, ⟨h3, h4, h5, h6, h7⟩, h8, h9⟩ := h
  subst hw
  refine ⟨h1, h2, ⟨va_up_self _ _ _, (va_up_ne _ _ (ar_ne h4 h3)).trans h4, (va_up_ne _ _ (ar_ne h5 h3)).trans h5, (va_up_ne _ _ (ar_ne h6 h3)).trans h6, (va_up_ne _ _ (ar_ne h7 h3)).trans h7⟩, fun j hj => (h8 j hj).congr (va_up_ne _ _ ((h8 j hj).neO h3 (by decide)).symm), fun y a1 a2 a3 => (va_up_ne _ _ a1).trans (h9 y a1 a2 a3)⟩
theorem pS.setw (h : pS G pl va d c P f0 f S Wy F) (h43 : G.2.1 4 ≠ G.2.1 0 ∨ True) {Wy' : Nat → Int32} (hw : f1 = va_up f (d 3) (.inl (G.2.1 0, 151, .inl Wy'))) : pS G pl va d c P f0 f1 S Wy' F := by
  obtain ⟨h1, h2, ⟨h3, h4, h5, h6, h7⟩, h8, h9⟩ := h
  subst hw
  have key : ∀ {k n : Nat} {g : Nat → Option Nat}, f (d k) = arR G 4 n g → d k ≠ d 3 := by
    intro k n g hk z
    rw [z, h7] at hk
    have := congrArg (fun q => q.2.2) (Sum.inl.inj hk)
    cases this
  refine ⟨h1, h2, ⟨(va_up_ne _ _ (ar_ne h7 h3).symm).trans h3, (va_up_ne _ _ (key h4)).trans h4, (va_up_ne _ _ (key h5)).trans h5, (va_up_ne _ _ (key h6)).trans h6, va_up_self _ _ _⟩, fun j hj => (h8 j hj).congr (va_up_ne _ _ ((h8 j hj).ne h7).symm), fun y a1 a2 a3 => (va_up_ne _ _ a2).trans (h9 y a1 a2 a3)⟩
/-- an object elsewhere stands -/
theorem pS.oth (h : pS G pl va d c P f0 f S Wy F) {S0 : Nat → Nat → Bool} {W0 F0 : Nat → Int32} (h0 : pS G pl va d c P f0 f0 S0 W0 F0) {y ci : Nat} {fs : List Value} (hy : f0 y = .inr (ci, fs)) (h4 : ci ≠ 4) (h9 : ci ≠ 9) : f y = .inr (ci, fs) :=
  (h.2.2.2.2 y (ob_ne hy h0.2.2.1.1 h9) (ar_ne h0.2.2.1.2.2.2.2 hy).symm (fun i hi => (h0.2.2.2.1 i hi).neO hy h4)).trans hy
theorem pS.lst (h : pS G pl va d c P f0 f S Wy F) {S0 : Nat → Nat → Bool} {W0 F0 : Nat → Int32} (h0 : pS G pl va d c P f0 f0 S0 W0 F0) {b cap n : Nat} {g : Nat → Nat} (hl : lsS G P f0 b cap n g) : lsS G P f b cap n g := by
  obtain ⟨dd, m0, hb⟩ := hl.cell
  refine hl.keep (fun _ h => h) ((h.oth h0 hb (by decide) (by decide)).trans hb.symm) (fun a _ ⟨n, hh, ha⟩ => h.2.2.2.2 a (ar_ne ha h0.2.2.1.1) (fun z => ?_) (fun i hi => (h0.2.2.2.1 i hi).ne ha))
  rw [z, h0.2.2.1.2.2.2.2] at ha
  have := congrArg (fun q => q.2.2) (Sum.inl.inj ha)
  cases this
end PS
set_option maxHeartbeats 4000000 in
set_option maxRecDepth 100000 in
theorem k_Pln_at (l : Launch) (G : GG) {P : List Nat} {f : Nat → va_E} {pl va : Nat} {da ca : Nat → Nat} {f0 : Nat → va_E} {S : Nat → Nat → Bool} {Wy F : Nat → Int32} (hP : pS G pl va da ca P f0 f S Wy F) (t g : Nat) (ht : t < 151) (hg : g < 3)  : ct0 l G y_Pln_at c_Pln_at 3 (some (.object "FleetFloor$Cells")) 0 0 [.ref pl, .int (nI t), .int (nI g)] P f (fun x f1 => x = some (.ref (ca (309 + (t * 3 + g)))) ∧ f1 = f) := by
  refine ct_intro (by decide) [some (.ref pl), some (.int (nI t)), some (.int (nI g))] rfl rfl (Nat.le_of_ble_eq_true rfl) ?_
  intro p e s m below meth c ls C hr hlk hnm hE hM hl
  refine lv_aload_n C.1 C.2.1 d_Pln_at_0 rfl (lo_at hl 0 rfl) ?_
  refine pg_get C hE hM hP.1.1 hP.2.2.1.1 rfl in_Pln 4 (Nat.le_of_ble_eq_true rfl) tw_533 rfl rfl d_Pln_at_1 ?_
  refine lv_iload_n C.1 C.2.1 d_Pln_at_4 rfl (lo_at hl 1 rfl) ?_
  refine lv_iconst (v := 3) C.1 C.2.1 d_Pln_at_5 (by decide) ?_
  rw [show (3 : Int32) = nI 3 from rfl]
  refine lv_imul C.1 C.2.1 d_Pln_at_6 ?_
  rw [pk_mul]
  refine lv_iload_n C.1 C.2.1 d_Pln_at_7 rfl (lo_at hl 2 rfl) ?_
  refine lv_iadd C.1 C.2.1 d_Pln_at_8 ?_
  rw [nI_add]
  refine cg_aald C hE hM (hP.1.2.1 2 (Nat.le_of_ble_eq_true rfl)) hP.2.2.1.2.2.2.1 rfl (t * 3 + g) rfl (by omega) (Nat.le_of_ble_eq_true rfl) rfl d_Pln_at_9 ?_
  refine cg_aret C hr (Or.inl ⟨_, rfl⟩) hlk (Or.inr ⟨_, rfl⟩) hM d_Pln_at_10 ?_
  exact ⟨rfl, rfl⟩
def glI (F : Nat → Int32) (g : Nat) : Int32 := if g = 0 then F 0 else if g = 1 then F 1 else F 2
set_option maxHeartbeats 4000000 in
set_option maxRecDepth 100000 in
theorem k_Pln_goalOf (l : Launch) (G : GG) {P : List Nat} {f : Nat → va_E} {pl va : Nat} {da ca : Nat → Nat} {f0 : Nat → va_E} {S : Nat → Nat → Bool} {Wy F : Nat → Int32} (hP : pS G pl va da ca P f0 f S Wy F) (g : Nat) (hg : g < 3)  : ct0 l G y_Pln_goalOf c_Pln_goalOf 2 (some .int) 0 0 [.ref pl, .int (nI g)] P f (fun x f1 => x = some (.int (glI F g)) ∧ f1 = f) := by
  refine ct_intro (by decide) [some (.ref pl), some (.int (nI g))] rfl rfl (Nat.le_of_ble_eq_true rfl) ?_
  intro p e s m below meth c ls C hr hlk hnm hE hM hl
  refine lv_iload_n C.1 C.2.1 d_Pln_goalOf_0 rfl (lo_at hl 1 rfl) ?_
  refine lv_if_ne (tgt := 11) C.1 C.2.1 d_Pln_goalOf_1 (by decide) (fun hc1 => ?_) (fun hc1 => ?_)
  · refine lv_iload_n C.1 C.2.1 d_Pln_goalOf_11 rfl (lo_at hl 1 rfl) ?_
    refine lv_iconst (v := 1) C.1 C.2.1 d_Pln_goalOf_12 (by decide) ?_
    refine lv_icmp_ne (tgt := 23) C.1 C.2.1 d_Pln_goalOf_13 (by decide) (fun hc13 => ?_) (fun hc13 => ?_)
    · refine lv_aload_n C.1 C.2.1 d_Pln_goalOf_23 rfl (lo_at hl 0 rfl) ?_
      refine pg_get C hE hM hP.1.1 hP.2.2.1.1 rfl in_Pln 10 (Nat.le_of_ble_eq_true rfl) tw_539 rfl rfl d_Pln_goalOf_24 ?_
      refine cg_iret C hr hlk hM d_Pln_goalOf_27 ?_
      refine ⟨?_, rfl⟩
      unfold glI
      have h1 : ¬ g = 0 := fun z => hc1 (by rw [z]; rfl)
      have h2 : ¬ g = 1 := fun z => hc13 (by rw [z]; rfl)
      rw [if_neg h1, if_neg h2]
    · refine lv_aload_n C.1 C.2.1 d_Pln_goalOf_16 rfl (lo_at hl 0 rfl) ?_
      refine pg_get C hE hM hP.1.1 hP.2.2.1.1 rfl in_Pln 9 (Nat.le_of_ble_eq_true rfl) tw_538 rfl rfl d_Pln_goalOf_17 ?_
      refine lv_goto (tgt := 27) C.1 C.2.1 d_Pln_goalOf_20 (by decide) ?_
      refine cg_iret C hr hlk hM d_Pln_goalOf_27 ?_
      refine ⟨?_, rfl⟩
      unfold glI
      have h1 : ¬ g = 0 := fun z => hc1 (by rw [z]; rfl)
      have h2 : g = 1 := nI_eqN (by omega) (by decide) hc13
      rw [if_neg h1, if_pos h2]
  · refine lv_aload_n C.1 C.2.1 d_Pln_goalOf_4 rfl (lo_at hl 0 rfl) ?_
    refine pg_get C hE hM hP.1.1 hP.2.2.1.1 rfl in_Pln 8 (Nat.le_of_ble_eq_true rfl) tw_537 rfl rfl d_Pln_goalOf_5 ?_
    refine lv_goto (tgt := 27) C.1 C.2.1 d_Pln_goalOf_8 (by decide) ?_
    refine cg_iret C hr hlk hM d_Pln_goalOf_27 ?_
    refine ⟨?_, rfl⟩
    unfold glI
    have h1 : g = 0 := nI_eqN (by omega) (by decide) hc1
    rw [if_pos h1]
/-- the leg behind a step to the cell z -/
def lgN (F : Nat → Int32) (z g : Nat) : Nat := if (if g = 0 ∧ nI z = F 0 then 1 else g) = 1 ∧ nI z = F 1 then 2 else (if g = 0 ∧ nI z = F 0 then 1 else g)
theorem lgN_lt {F : Nat → Int32} {z g : Nat} (h : g < 3) : lgN F z g < 3 := by
  have h1 : (if g = 0 ∧ nI z = F 0 then 1 else g) < 3 := by split <;> omega
  unfold lgN
  generalize (if g = 0 ∧ nI z = F 0 then 1 else g) = q at h1
  split
  · decide
  · exact h1
set_option maxHeartbeats 4000000 in
set_option maxRecDepth 100000 in
theorem k_Pln_legAt (l : Launch) (G : GG) {P : List Nat} {f : Nat → va_E} {pl va : Nat} {da ca : Nat → Nat} {f0 : Nat → va_E} {S : Nat → Nat → Bool} {Wy F : Nat → Int32} (hP : pS G pl va da ca P f0 f S Wy F) (z g : Nat) (hg : g < 3)  : ct0 l G y_Pln_legAt c_Pln_legAt 4 (some .int) 0 0 [.ref pl, .int (nI z), .int (nI g)] P f (fun x f1 => x = some (.int (nI (lgN F z g))) ∧ f1 = f) := by
  refine ct_intro (by decide) [some (.ref pl), some (.int (nI z)), some (.int (nI g)), none] rfl rfl (Nat.le_of_ble_eq_true rfl) ?_
  intro p e s m below meth c ls C hr hlk hnm hE hM hl
  refine lv_iload_n C.1 C.2.1 d_Pln_legAt_0 rfl (lo_at hl 2 rfl) ?_
  refine lo_istore_n C hl d_Pln_legAt_1 (Nat.le_of_ble_eq_true rfl) rfl (fun ls hl => ?_)
  refine lv_iload_n C.1 C.2.1 d_Pln_legAt_2 rfl (lo_at hl 3 rfl) ?_
  refine lv_if_ne (tgt := 16) C.1 C.2.1 d_Pln_legAt_3 (by decide) (fun hc3 => ?_) (fun hc3 => ?_)
  · refine lv_iload_n C.1 C.2.1 d_Pln_legAt_16 rfl (lo_at hl 3 rfl) ?_
    refine lv_iconst (v := 1) C.1 C.2.1 d_Pln_legAt_17 (by decide) ?_
    refine lv_icmp_ne (tgt := 31) C.1 C.2.1 d_Pln_legAt_18 (by decide) (fun hc18 => ?_) (fun hc18 => ?_)
    · refine lv_iload_n C.1 C.2.1 d_Pln_legAt_31 rfl (lo_at hl 3 rfl) ?_
      refine cg_iret C hr hlk hM d_Pln_legAt_32 ?_
      refine ⟨?_, rfl⟩
      have h1 : ¬ (g = 0 ∧ nI z = F 0) := fun h => hc3 (by rw [h.1]; rfl)
      unfold lgN
      rw [if_neg h1]
      have h2 : ¬ (g = 1 ∧ nI z = F 1) := fun h => hc18 (by rw [h.1]; rfl)
      rw [if_neg h2]
      first | done | rfl
    · refine lv_iload_n C.1 C.2.1 d_Pln_legAt_21 rfl (lo_at hl 1 rfl) ?_
      refine lv_aload_n C.1 C.2.1 d_Pln_legAt_22 rfl (lo_at hl 0 rfl) ?_
      refine pg_get C hE hM hP.1.1 hP.2.2.1.1 rfl in_Pln 9 (Nat.le_of_ble_eq_true rfl) tw_538 rfl rfl d_Pln_legAt_23 ?_
      refine lv_icmp_ne (tgt := 31) C.1 C.2.1 d_Pln_legAt_26 (by decide) (fun hc26 => ?_) (fun hc26 => ?_)
      · refine lv_iload_n C.1 C.2.1 d_Pln_legAt_31 rfl (lo_at hl 3 rfl) ?_
        refine cg_iret C hr hlk hM d_Pln_legAt_32 ?_
        refine ⟨?_, rfl⟩
        have h1 : ¬ (g = 0 ∧ nI z = F 0) := fun h => hc3 (by rw [h.1]; rfl)
        unfold lgN
        rw [if_neg h1]
        have h2 : ¬ (g = 1 ∧ nI z = F 1) := fun h => hc26 h.2
        rw [if_neg h2]
        first | done | rfl
      · refine lv_iconst (v := 2) C.1 C.2.1 d_Pln_legAt_29 (by decide) ?_
        refine lo_istore_n C hl d_Pln_legAt_30 (Nat.le_of_ble_eq_true rfl) rfl (fun ls hl => ?_)
        refine lv_iload_n C.1 C.2.1 d_Pln_legAt_31 rfl (lo_at hl 3 rfl) ?_
        refine cg_iret C hr hlk hM d_Pln_legAt_32 ?_
        refine ⟨?_, rfl⟩
        have h1 : ¬ (g = 0 ∧ nI z = F 0) := fun h => hc3 (by rw [h.1]; rfl)
        unfold lgN
        rw [if_neg h1]
        have h2 : (g = 1 ∧ nI z = F 1) := ⟨nI_eqN (by omega) (by decide) hc18, hc26⟩
        rw [if_pos h2]
        first | done | rfl
  · refine lv_iload_n C.1 C.2.1 d_Pln_legAt_6 rfl (lo_at hl 1 rfl) ?_
    refine lv_aload_n C.1 C.2.1 d_Pln_legAt_7 rfl (lo_at hl 0 rfl) ?_
    refine pg_get C hE hM hP.1.1 hP.2.2.1.1 rfl in_Pln 8 (Nat.le_of_ble_eq_true rfl) tw_537 rfl rfl d_Pln_legAt_8 ?_
    refine lv_icmp_ne (tgt := 16) C.1 C.2.1 d_Pln_legAt_11 (by decide) (fun hc11 => ?_) (fun hc11 => ?_)
    · refine lv_iload_n C.1 C.2.1 d_Pln_legAt_16 rfl (lo_at hl 3 rfl) ?_
      refine lv_iconst (v := 1) C.1 C.2.1 d_Pln_legAt_17 (by decide) ?_
      refine lv_icmp_ne (tgt := 31) C.1 C.2.1 d_Pln_legAt_18 (by decide) (fun hc18 => ?_) (fun hc18 => ?_)
      · refine lv_iload_n C.1 C.2.1 d_Pln_legAt_31 rfl (lo_at hl 3 rfl) ?_
        refine cg_iret C hr hlk hM d_Pln_legAt_32 ?_
        refine ⟨?_, rfl⟩
        have h1 : ¬ (g = 0 ∧ nI z = F 0) := fun h => hc11 h.2
        unfold lgN
        rw [if_neg h1]
        have h2 : ¬ (g = 1 ∧ nI z = F 1) := fun h => hc18 (by rw [h.1]; rfl)
        rw [if_neg h2]
        first | done | rfl
      · refine lv_iload_n C.1 C.2.1 d_Pln_legAt_21 rfl (lo_at hl 1 rfl) ?_
        refine lv_aload_n C.1 C.2.1 d_Pln_legAt_22 rfl (lo_at hl 0 rfl) ?_
        refine pg_get C hE hM hP.1.1 hP.2.2.1.1 rfl in_Pln 9 (Nat.le_of_ble_eq_true rfl) tw_538 rfl rfl d_Pln_legAt_23 ?_
        refine lv_icmp_ne (tgt := 31) C.1 C.2.1 d_Pln_legAt_26 (by decide) (fun hc26 => ?_) (fun hc26 => ?_)
        · refine lv_iload_n C.1 C.2.1 d_Pln_legAt_31 rfl (lo_at hl 3 rfl) ?_
          refine cg_iret C hr hlk hM d_Pln_legAt_32 ?_
          refine ⟨?_, rfl⟩
          have h1 : ¬ (g = 0 ∧ nI z = F 0) := fun h => hc11 h.2
          unfold lgN
          rw [if_neg h1]
          have h2 : ¬ (g = 1 ∧ nI z = F 1) := fun h => hc26 h.2
          rw [if_neg h2]
          first | done | rfl
        · refine lv_iconst (v := 2) C.1 C.2.1 d_Pln_legAt_29 (by decide) ?_
          refine lo_istore_n C hl d_Pln_legAt_30 (Nat.le_of_ble_eq_true rfl) rfl (fun ls hl => ?_)
          refine lv_iload_n C.1 C.2.1 d_Pln_legAt_31 rfl (lo_at hl 3 rfl) ?_
          refine cg_iret C hr hlk hM d_Pln_legAt_32 ?_
          refine ⟨?_, rfl⟩
          have h1 : ¬ (g = 0 ∧ nI z = F 0) := fun h => hc11 h.2
          unfold lgN
          rw [if_neg h1]
          have h2 : (g = 1 ∧ nI z = F 1) := ⟨nI_eqN (by omega) (by decide) hc18, hc26⟩
          rw [if_pos h2]
          first | done | rfl
    · refine lv_iconst (v := 1) C.1 C.2.1 d_Pln_legAt_14 (by decide) ?_
      refine lo_istore_n C hl d_Pln_legAt_15 (Nat.le_of_ble_eq_true rfl) rfl (fun ls hl => ?_)
      refine lv_iload_n C.1 C.2.1 d_Pln_legAt_16 rfl (lo_at hl 3 rfl) ?_
      refine lv_iconst (v := 1) C.1 C.2.1 d_Pln_legAt_17 (by decide) ?_
      refine lv_icmp_ne (tgt := 31) C.1 C.2.1 d_Pln_legAt_18 (by decide) (fun hc18 => ?_) (fun hc18 => ?_)
      · refine lv_iload_n C.1 C.2.1 d_Pln_legAt_31 rfl (lo_at hl 3 rfl) ?_
        refine cg_iret C hr hlk hM d_Pln_legAt_32 ?_
        exact absurd rfl hc18
      · refine lv_iload_n C.1 C.2.1 d_Pln_legAt_21 rfl (lo_at hl 1 rfl) ?_
        refine lv_aload_n C.1 C.2.1 d_Pln_legAt_22 rfl (lo_at hl 0 rfl) ?_
        refine pg_get C hE hM hP.1.1 hP.2.2.1.1 rfl in_Pln 9 (Nat.le_of_ble_eq_true rfl) tw_538 rfl rfl d_Pln_legAt_23 ?_
        refine lv_icmp_ne (tgt := 31) C.1 C.2.1 d_Pln_legAt_26 (by decide) (fun hc26 => ?_) (fun hc26 => ?_)
        · refine lv_iload_n C.1 C.2.1 d_Pln_legAt_31 rfl (lo_at hl 3 rfl) ?_
          refine cg_iret C hr hlk hM d_Pln_legAt_32 ?_
          refine ⟨?_, rfl⟩
          have h1 : (g = 0 ∧ nI z = F 0) := ⟨nI_eqN (by omega) (by decide) hc3, hc11⟩
          unfold lgN
          rw [if_pos h1]
          have h2 : ¬ (1 = 1 ∧ nI z = F 1) := fun h => hc26 h.2
          rw [if_neg h2]
          first | done | rfl
        · refine lv_iconst (v := 2) C.1 C.2.1 d_Pln_legAt_29 (by decide) ?_
          refine lo_istore_n C hl d_Pln_legAt_30 (Nat.le_of_ble_eq_true rfl) rfl (fun ls hl => ?_)
          refine lv_iload_n C.1 C.2.1 d_Pln_legAt_31 rfl (lo_at hl 3 rfl) ?_
          refine cg_iret C hr hlk hM d_Pln_legAt_32 ?_
          refine ⟨?_, rfl⟩
          have h1 : (g = 0 ∧ nI z = F 0) := ⟨nI_eqN (by omega) (by decide) hc3, hc11⟩
          unfold lgN
          rw [if_pos h1]
          have h2 : (1 = 1 ∧ nI z = F 1) := ⟨rfl, hc26⟩
          rw [if_pos h2]
          first | done | rfl
/-- one step on one leg -/
def stp (X E B : Nat → Bool) : Nat → Bool := fun d => (nbS X d && E d) || (X d && B d)
def stS (S : Nat → Nat → Bool) (t g : Nat) (S' : Nat → Nat → Bool) : Prop := ∀ i, i < 762 → i ≠ 2 → ∀ d, d < 96 → S' i d = (va_up S (309 + (t * 3 + g)) (stp (S (309 + ((t - 1) * 3 + g))) (S (3 + t)) (S (156 + t)))) i d
set_option maxHeartbeats 4000000 in
set_option maxRecDepth 100000 in
theorem k_Pln_stepOn (l : Launch) (G : GG) {P : List Nat} {f : Nat → va_E} {pl va : Nat} {da ca : Nat → Nat} {f0 : Nat → va_E} {S : Nat → Nat → Bool} {Wy F : Nat → Int32} (hP : pS G pl va da ca P f0 f S Wy F) (t g : Nat) (ht : 1 ≤ t) (ht2 : t < 151) (hg : g < 3)  : ct0 l G y_Pln_stepOn c_Pln_stepOn 5 none 2 46 [.ref pl, .int (nI t), .int (nI g)] P f (fun x f1 => x = none ∧ ∃ S', stS S t g S' ∧ pS G pl va da ca P f0 f1 S' Wy F) := by
  refine ct_intro (by decide) [some (.ref pl), some (.int (nI t)), some (.int (nI g)), none, none] rfl rfl (Nat.le_of_ble_eq_true rfl) ?_
  intro p e s m below meth c ls C hr hlk hnm hE hM hl
  refine lv_aload_n C.1 C.2.1 d_Pln_stepOn_0 rfl (lo_at hl 0 rfl) ?_
  refine lv_iload_n C.1 C.2.1 d_Pln_stepOn_1 rfl (lo_at hl 1 rfl) ?_
  refine lv_iconst (v := 1) C.1 C.2.1 d_Pln_stepOn_2 (by decide) ?_
  refine lv_isub C.1 C.2.1 d_Pln_stepOn_3 ?_
  rw [show (1 : Int32) = nI 1 from rfl, pk_sub (by omega)]
  refine lv_iload_n C.1 C.2.1 d_Pln_stepOn_4 rfl (lo_at hl 2 rfl) ?_
  refine cg_callV C hE hM (k_Pln_at l G hP (t - 1) (g) (by omega) (by omega)) hP.1.1 hP.2.2.1.1 rfl tw_700 cy_Pln_at ⟨(Nat.le_of_ble_eq_true rfl), (Nat.le_of_ble_eq_true rfl)⟩ rfl hl.1 rfl (Nat.le_of_ble_eq_true rfl) ⟨Nat.zero_le _, Nat.zero_le _⟩ d_Pln_stepOn_5 (fun x9 f11 H1 locs1 hp hM => ?_)
  obtain ⟨rfl, h9⟩ := hp
  rw [h9] at hM
  clear h9
  refine W.eq (g2 := F0 m 8 ls [_]) rfl ?_
  refine lo_astore_n C hl d_Pln_stepOn_8 (Nat.le_of_ble_eq_true rfl) rfl (fun ls hl => ?_)
  refine lv_aload_n C.1 C.2.1 d_Pln_stepOn_9 rfl (lo_at hl 0 rfl) ?_
  refine lv_iload_n C.1 C.2.1 d_Pln_stepOn_10 rfl (lo_at hl 1 rfl) ?_
  refine lv_iload_n C.1 C.2.1 d_Pln_stepOn_11 rfl (lo_at hl 2 rfl) ?_
  refine cg_callV C hE hM (k_Pln_at l G hP (t) (g) (by omega) (by omega)) hP.1.1 hP.2.2.1.1 rfl tw_700 cy_Pln_at ⟨(Nat.le_of_ble_eq_true rfl), (Nat.le_of_ble_eq_true rfl)⟩ rfl hl.1 rfl (Nat.le_of_ble_eq_true rfl) ⟨Nat.zero_le _, Nat.zero_le _⟩ d_Pln_stepOn_12 (fun x9 f12 H1 locs1 hp hM => ?_)
  obtain ⟨rfl, h9⟩ := hp
  rw [h9] at hM
  clear h9
  refine W.eq (g2 := F0 m 15 ls [_]) rfl ?_
  refine lo_astore C hl d_Pln_stepOn_15 (Nat.le_of_ble_eq_true rfl) rfl (fun ls hl => ?_)
  refine lv_aload C.1 C.2.1 d_Pln_stepOn_17 (lo_at hl 4 rfl) ?_
  refine lv_aload_n C.1 C.2.1 d_Pln_stepOn_19 rfl (lo_at hl 3 rfl) ?_
  obtain ⟨_, _, hc9, -⟩ := (hP.2.2.2.1 (309 + (t * 3 + g)) (show 309 + (t * 3 + g) < 762 by omega)).words
  refine cg_callV C hE hM (k_Cel_becomeNeighboursOf l G (ca (309 + (t * 3 + g))) _ (hP.1.2.2.1 (309 + (t * 3 + g)) (show 309 + (t * 3 + g) < 762 by omega)) (hP.2.2.2.1 (309 + (t * 3 + g)) (show 309 + (t * 3 + g) < 762 by omega)) (ca (309 + ((t - 1) * 3 + g))) _ (hP.1.2.2.1 (309 + ((t - 1) * 3 + g)) (show 309 + ((t - 1) * 3 + g) < 762 by omega)) (hP.2.2.2.1 (309 + ((t - 1) * 3 + g)) (show 309 + ((t - 1) * 3 + g) < 762 by omega)) (hP.ne (show 309 + (t * 3 + g) < 762 by omega) (show 309 + ((t - 1) * 3 + g) < 762 by omega) (by omega))) (hP.1.2.2.1 (309 + (t * 3 + g)) (show 309 + (t * 3 + g) < 762 by omega)) hc9 rfl tw_712 cy_Cel_becomeNeighboursOf ⟨(Nat.le_of_ble_eq_true rfl), (Nat.le_of_ble_eq_true rfl)⟩ rfl hl.1 rfl (Nat.le_of_ble_eq_true rfl) ⟨Nat.zero_le _, Nat.zero_le _⟩ d_Pln_stepOn_20 (fun x9 f13 H1 locs1 hp hM => ?_)
  have hx9 := hp.1
  subst hx9
  have hP := hP.setc (show 309 + (t * 3 + g) < 762 by omega) hp.2
  clear hc9
  refine W.eq (g2 := F0 m 23 ls []) rfl ?_
  refine lv_aload C.1 C.2.1 d_Pln_stepOn_23 (lo_at hl 4 rfl) ?_
  refine lv_aload_n C.1 C.2.1 d_Pln_stepOn_25 rfl (lo_at hl 0 rfl) ?_
  refine pg_get C hE hM hP.1.1 hP.2.2.1.1 rfl in_Pln 2 (Nat.le_of_ble_eq_true rfl) tw_531 rfl rfl d_Pln_stepOn_26 ?_
  refine lv_iload_n C.1 C.2.1 d_Pln_stepOn_29 rfl (lo_at hl 1 rfl) ?_
  refine cg_aald C hE hM (hP.1.2.1 0 (Nat.le_of_ble_eq_true rfl)) hP.2.2.1.2.1 rfl (t) rfl (by omega) (Nat.le_of_ble_eq_true rfl) rfl d_Pln_stepOn_30 ?_
  obtain ⟨_, _, hc9, -⟩ := (hP.2.2.2.1 (309 + (t * 3 + g)) (show 309 + (t * 3 + g) < 762 by omega)).words
  refine cg_callV C hE hM (k_Cel_keep l G (ca (309 + (t * 3 + g))) _ (hP.1.2.2.1 (309 + (t * 3 + g)) (show 309 + (t * 3 + g) < 762 by omega)) (hP.2.2.2.1 (309 + (t * 3 + g)) (show 309 + (t * 3 + g) < 762 by omega)) (ca (3 + (t))) _ (hP.1.2.2.1 (3 + (t)) (show 3 + (t) < 762 by omega)) (hP.2.2.2.1 (3 + (t)) (show 3 + (t) < 762 by omega)) (hP.ne (show 309 + (t * 3 + g) < 762 by omega) (show 3 + (t) < 762 by omega) (by omega))) (hP.1.2.2.1 (309 + (t * 3 + g)) (show 309 + (t * 3 + g) < 762 by omega)) hc9 rfl tw_695 cy_Cel_keep ⟨(Nat.le_of_ble_eq_true rfl), (Nat.le_of_ble_eq_true rfl)⟩ rfl hl.1 rfl (Nat.le_of_ble_eq_true rfl) ⟨Nat.zero_le _, Nat.zero_le _⟩ d_Pln_stepOn_31 (fun x9 f14 H1 locs1 hp hM => ?_)
  have hx9 := hp.1
  subst hx9
  have hP := hP.setc (show 309 + (t * 3 + g) < 762 by omega) hp.2
  clear hc9
  refine W.eq (g2 := F0 m 34 ls []) rfl ?_
  refine lv_aload_n C.1 C.2.1 d_Pln_stepOn_34 rfl (lo_at hl 0 rfl) ?_
  refine pg_get C hE hM hP.1.1 hP.2.2.1.1 rfl in_Pln 6 (Nat.le_of_ble_eq_true rfl) tw_535 rfl rfl d_Pln_stepOn_35 ?_
  refine lv_aload_n C.1 C.2.1 d_Pln_stepOn_38 rfl (lo_at hl 3 rfl) ?_
  obtain ⟨_, _, hc9, -⟩ := (hP.2.2.2.1 (2) (show 2 < 762 by omega)).words
  refine cg_callV C hE hM (k_Cel_copy l G (ca (2)) _ (hP.1.2.2.1 (2) (show 2 < 762 by omega)) (hP.2.2.2.1 (2) (show 2 < 762 by omega)) (ca (309 + ((t - 1) * 3 + g))) _ (hP.1.2.2.1 (309 + ((t - 1) * 3 + g)) (show 309 + ((t - 1) * 3 + g) < 762 by omega)) (hP.2.2.2.1 (309 + ((t - 1) * 3 + g)) (show 309 + ((t - 1) * 3 + g) < 762 by omega)) (hP.ne (show 2 < 762 by omega) (show 309 + ((t - 1) * 3 + g) < 762 by omega) (by omega))) (hP.1.2.2.1 (2) (show 2 < 762 by omega)) hc9 rfl tw_672 cy_Cel_copy ⟨(Nat.le_of_ble_eq_true rfl), (Nat.le_of_ble_eq_true rfl)⟩ rfl hl.1 rfl (Nat.le_of_ble_eq_true rfl) ⟨Nat.zero_le _, Nat.zero_le _⟩ d_Pln_stepOn_39 (fun x9 f15 H1 locs1 hp hM => ?_)
  have hx9 := hp.1
  subst hx9
  have hP := hP.setc (show 2 < 762 by omega) hp.2
  clear hc9
  refine W.eq (g2 := F0 m 42 ls []) rfl ?_
  refine lv_aload_n C.1 C.2.1 d_Pln_stepOn_42 rfl (lo_at hl 0 rfl) ?_
  refine pg_get C hE hM hP.1.1 hP.2.2.1.1 rfl in_Pln 6 (Nat.le_of_ble_eq_true rfl) tw_535 rfl rfl d_Pln_stepOn_43 ?_
  refine lv_aload_n C.1 C.2.1 d_Pln_stepOn_46 rfl (lo_at hl 0 rfl) ?_
  refine pg_get C hE hM hP.1.1 hP.2.2.1.1 rfl in_Pln 3 (Nat.le_of_ble_eq_true rfl) tw_532 rfl rfl d_Pln_stepOn_47 ?_
  refine lv_iload_n C.1 C.2.1 d_Pln_stepOn_50 rfl (lo_at hl 1 rfl) ?_
  refine cg_aald C hE hM (hP.1.2.1 1 (Nat.le_of_ble_eq_true rfl)) hP.2.2.1.2.2.1 rfl (t) rfl (by omega) (Nat.le_of_ble_eq_true rfl) rfl d_Pln_stepOn_51 ?_
  obtain ⟨_, _, hc9, -⟩ := (hP.2.2.2.1 (2) (show 2 < 762 by omega)).words
  refine cg_callV C hE hM (k_Cel_keep l G (ca (2)) _ (hP.1.2.2.1 (2) (show 2 < 762 by omega)) (hP.2.2.2.1 (2) (show 2 < 762 by omega)) (ca (156 + (t))) _ (hP.1.2.2.1 (156 + (t)) (show 156 + (t) < 762 by omega)) (hP.2.2.2.1 (156 + (t)) (show 156 + (t) < 762 by omega)) (hP.ne (show 2 < 762 by omega) (show 156 + (t) < 762 by omega) (by omega))) (hP.1.2.2.1 (2) (show 2 < 762 by omega)) hc9 rfl tw_695 cy_Cel_keep ⟨(Nat.le_of_ble_eq_true rfl), (Nat.le_of_ble_eq_true rfl)⟩ rfl hl.1 rfl (Nat.le_of_ble_eq_true rfl) ⟨Nat.zero_le _, Nat.zero_le _⟩ d_Pln_stepOn_52 (fun x9 f16 H1 locs1 hp hM => ?_)
  have hx9 := hp.1
  subst hx9
  have hP := hP.setc (show 2 < 762 by omega) hp.2
  clear hc9
  refine W.eq (g2 := F0 m 55 ls []) rfl ?_
  refine lv_aload C.1 C.2.1 d_Pln_stepOn_55 (lo_at hl 4 rfl) ?_
  refine lv_aload_n C.1 C.2.1 d_Pln_stepOn_57 rfl (lo_at hl 0 rfl) ?_
  refine pg_get C hE hM hP.1.1 hP.2.2.1.1 rfl in_Pln 6 (Nat.le_of_ble_eq_true rfl) tw_535 rfl rfl d_Pln_stepOn_58 ?_
  obtain ⟨_, _, hc9, -⟩ := (hP.2.2.2.1 (309 + (t * 3 + g)) (show 309 + (t * 3 + g) < 762 by omega)).words
  refine cg_callV C hE hM (k_Cel_join l G (ca (309 + (t * 3 + g))) _ (hP.1.2.2.1 (309 + (t * 3 + g)) (show 309 + (t * 3 + g) < 762 by omega)) (hP.2.2.2.1 (309 + (t * 3 + g)) (show 309 + (t * 3 + g) < 762 by omega)) (ca (2)) _ (hP.1.2.2.1 (2) (show 2 < 762 by omega)) (hP.2.2.2.1 (2) (show 2 < 762 by omega)) (hP.ne (show 309 + (t * 3 + g) < 762 by omega) (show 2 < 762 by omega) (by omega))) (hP.1.2.2.1 (309 + (t * 3 + g)) (show 309 + (t * 3 + g) < 762 by omega)) hc9 rfl tw_713 cy_Cel_join ⟨(Nat.le_of_ble_eq_true rfl), (Nat.le_of_ble_eq_true rfl)⟩ rfl hl.1 rfl (Nat.le_of_ble_eq_true rfl) ⟨Nat.zero_le _, Nat.zero_le _⟩ d_Pln_stepOn_61 (fun x9 f17 H1 locs1 hp hM => ?_)
  have hx9 := hp.1
  subst hx9
  have hP := hP.setc (show 309 + (t * 3 + g) < 762 by omega) hp.2
  clear hc9
  refine W.eq (g2 := F0 m 64 ls []) rfl ?_
  refine cg_vret C hr hlk hM d_Pln_stepOn_64 ?_
  refine ⟨rfl, _, ?_, hP⟩
  intro i hi h2 k hk
  by_cases e : i = 309 + (t * 3 + g)
  · subst e
    simp only [va_up_self]
    unfold stp
    simp only [va_up_ne (α := Nat → Bool) _ _ (show 309 + (t * 3 + g) ≠ 2 by omega), va_up_self, va_up_ne (α := Nat → Bool) _ _ (show 2 ≠ 309 + (t * 3 + g) by omega), va_up_ne (α := Nat → Bool) _ _ (show 309 + ((t - 1) * 3 + g) ≠ 309 + (t * 3 + g) by omega), va_up_ne (α := Nat → Bool) _ _ (show 156 + t ≠ 2 by omega), va_up_ne (α := Nat → Bool) _ _ (show 156 + t ≠ 309 + (t * 3 + g) by omega), va_up_ne (α := Nat → Bool) _ _ (show 3 + t ≠ 309 + (t * 3 + g) by omega)]
  · simp only [va_up_ne (α := Nat → Bool) _ _ e, va_up_ne (α := Nat → Bool) _ _ h2]
/-- a leg is ended at its goal q -/
def chL (S : Nat → Nat → Bool) (t g q i k : Nat) : Bool := if i = 309 + (t * 3 + g) then S i k && !decide (k = q) else if i = 309 + (t * 3 + (g + 1)) then S i k || (decide (k = q) && S (309 + (t * 3 + g)) q) else S i k
set_option maxHeartbeats 4000000 in
set_option maxRecDepth 100000 in
theorem k_Pln_changeLeg (l : Launch) (G : GG) {P : List Nat} {f : Nat → va_E} {pl va : Nat} {da ca : Nat → Nat} {f0 : Nat → va_E} {S : Nat → Nat → Bool} {Wy F : Nat → Int32} (hP : pS G pl va da ca P f0 f S Wy F) (t g q : Nat) (ht2 : t < 151) (hg : g < 2) (hq : glI F g = nI q) (hq9 : q < 96)  : ct0 l G y_Pln_changeLeg c_Pln_changeLeg 3 none 1 22 [.ref pl, .int (nI t), .int (nI g)] P f (fun x f1 => x = none ∧ ∃ S', (∀ i, i < 762 → ∀ k, k < 96 → S' i k = chL S t g q i k) ∧ pS G pl va da ca P f0 f1 S' Wy F) := by
  refine ct_intro (by decide) [some (.ref pl), some (.int (nI t)), some (.int (nI g))] rfl rfl (Nat.le_of_ble_eq_true rfl) ?_
  intro p e s m below meth c ls C hr hlk hnm hE hM hl
  refine lv_aload_n C.1 C.2.1 d_Pln_changeLeg_0 rfl (lo_at hl 0 rfl) ?_
  refine lv_iload_n C.1 C.2.1 d_Pln_changeLeg_1 rfl (lo_at hl 1 rfl) ?_
  refine lv_iload_n C.1 C.2.1 d_Pln_changeLeg_2 rfl (lo_at hl 2 rfl) ?_
  refine cg_callV C hE hM (k_Pln_at l G hP (t) (g) (by omega) (by omega)) hP.1.1 hP.2.2.1.1 rfl tw_700 cy_Pln_at ⟨(Nat.le_of_ble_eq_true rfl), (Nat.le_of_ble_eq_true rfl)⟩ rfl hl.1 rfl (Nat.le_of_ble_eq_true rfl) ⟨Nat.zero_le _, Nat.zero_le _⟩ d_Pln_changeLeg_3 (fun x9 f11 H1 locs1 hp hM => ?_)
  obtain ⟨rfl, h9⟩ := hp
  rw [h9] at hM
  clear h9
  refine W.eq (g2 := F0 m 6 ls [_]) rfl ?_
  refine lv_aload_n C.1 C.2.1 d_Pln_changeLeg_6 rfl (lo_at hl 0 rfl) ?_
  refine lv_iload_n C.1 C.2.1 d_Pln_changeLeg_7 rfl (lo_at hl 2 rfl) ?_
  refine cg_callV C hE hM (k_Pln_goalOf l G hP g (by omega)) hP.1.1 hP.2.2.1.1 rfl tw_718 cy_Pln_goalOf ⟨(Nat.le_of_ble_eq_true rfl), (Nat.le_of_ble_eq_true rfl)⟩ rfl hl.1 rfl (Nat.le_of_ble_eq_true rfl) ⟨Nat.zero_le _, Nat.zero_le _⟩ d_Pln_changeLeg_8 (fun x9 f12 H1 locs1 hp hM => ?_)
  obtain ⟨rfl, h9⟩ := hp
  rw [h9] at hM
  clear h9
  refine W.eq (g2 := F0 m 11 ls [_, _]) rfl ?_
  rw [hq]
  obtain ⟨_, _, hc9, -⟩ := (hP.2.2.2.1 (309 + (t * 3 + g)) (show 309 + (t * 3 + g) < 762 by omega)).words
  refine cg_callV C hE hM (k_Cel_has l G (ca (309 + (t * 3 + g))) _ (hP.1.2.2.1 (309 + (t * 3 + g)) (show 309 + (t * 3 + g) < 762 by omega)) (hP.2.2.2.1 (309 + (t * 3 + g)) (show 309 + (t * 3 + g) < 762 by omega)) q hq9) (hP.1.2.2.1 (309 + (t * 3 + g)) (show 309 + (t * 3 + g) < 762 by omega)) hc9 rfl tw_722 cy_Cel_has ⟨(Nat.le_of_ble_eq_true rfl), (Nat.le_of_ble_eq_true rfl)⟩ rfl hl.1 rfl (Nat.le_of_ble_eq_true rfl) ⟨Nat.zero_le _, Nat.zero_le _⟩ d_Pln_changeLeg_11 (fun x9 f13 H1 locs1 hp hM => ?_)
  obtain ⟨rfl, h9⟩ := hp
  rw [h9] at hM
  clear h9
  clear hc9
  refine W.eq (g2 := F0 m 14 ls [_]) rfl ?_
  refine lv_if_eq (tgt := 47) C.1 C.2.1 d_Pln_changeLeg_14 (by decide) (fun hc14 => ?_) (fun hc14 => ?_)
  · replace hc14 := bz_0.mp hc14
    refine cg_vret C hr hlk hM d_Pln_changeLeg_47 ?_
    refine ⟨rfl, _, ?_, hP⟩
    intro i hi k hk
    unfold chL
    by_cases e : i = 309 + (t * 3 + (g + 1))
    · subst e
      have h9 : ¬ (S (309 + (t * 3 + g)) q = true) := hc14
      rw [if_neg (by omega), if_pos rfl]
      simp [h9]
    · rw [if_neg e]
      by_cases e2 : i = 309 + (t * 3 + g)
      · subst e2
        rw [if_pos rfl]
        by_cases e3 : k = q
        · rw [e3]; simp only [Bool.not_eq_true] at hc14; rw [hc14]; rfl
        · simp [e3]
      · rw [if_neg e2]
  · replace hc14 := bz_1.mp hc14
    refine lv_aload_n C.1 C.2.1 d_Pln_changeLeg_17 rfl (lo_at hl 0 rfl) ?_
    refine lv_iload_n C.1 C.2.1 d_Pln_changeLeg_18 rfl (lo_at hl 1 rfl) ?_
    refine lv_iload_n C.1 C.2.1 d_Pln_changeLeg_19 rfl (lo_at hl 2 rfl) ?_
    refine cg_callV C hE hM (k_Pln_at l G hP (t) (g) (by omega) (by omega)) hP.1.1 hP.2.2.1.1 rfl tw_700 cy_Pln_at ⟨(Nat.le_of_ble_eq_true rfl), (Nat.le_of_ble_eq_true rfl)⟩ rfl hl.1 rfl (Nat.le_of_ble_eq_true rfl) ⟨Nat.zero_le _, Nat.zero_le _⟩ d_Pln_changeLeg_20 (fun x9 f14 H1 locs1 hp hM => ?_)
    obtain ⟨rfl, h9⟩ := hp
    rw [h9] at hM
    clear h9
    refine W.eq (g2 := F0 m 23 ls [_]) rfl ?_
    refine lv_aload_n C.1 C.2.1 d_Pln_changeLeg_23 rfl (lo_at hl 0 rfl) ?_
    refine lv_iload_n C.1 C.2.1 d_Pln_changeLeg_24 rfl (lo_at hl 2 rfl) ?_
    refine cg_callV C hE hM (k_Pln_goalOf l G hP g (by omega)) hP.1.1 hP.2.2.1.1 rfl tw_718 cy_Pln_goalOf ⟨(Nat.le_of_ble_eq_true rfl), (Nat.le_of_ble_eq_true rfl)⟩ rfl hl.1 rfl (Nat.le_of_ble_eq_true rfl) ⟨Nat.zero_le _, Nat.zero_le _⟩ d_Pln_changeLeg_25 (fun x9 f15 H1 locs1 hp hM => ?_)
    obtain ⟨rfl, h9⟩ := hp
    rw [h9] at hM
    clear h9
    refine W.eq (g2 := F0 m 28 ls [_, _]) rfl ?_
    rw [hq]
    obtain ⟨_, _, hc9, -⟩ := (hP.2.2.2.1 (309 + (t * 3 + g)) (show 309 + (t * 3 + g) < 762 by omega)).words
    refine cg_callV C hE hM (k_Cel_drop l G (ca (309 + (t * 3 + g))) _ (hP.1.2.2.1 (309 + (t * 3 + g)) (show 309 + (t * 3 + g) < 762 by omega)) (hP.2.2.2.1 (309 + (t * 3 + g)) (show 309 + (t * 3 + g) < 762 by omega)) q hq9) (hP.1.2.2.1 (309 + (t * 3 + g)) (show 309 + (t * 3 + g) < 762 by omega)) hc9 rfl tw_687 cy_Cel_drop ⟨(Nat.le_of_ble_eq_true rfl), (Nat.le_of_ble_eq_true rfl)⟩ rfl hl.1 rfl (Nat.le_of_ble_eq_true rfl) ⟨Nat.zero_le _, Nat.zero_le _⟩ d_Pln_changeLeg_28 (fun x9 f16 H1 locs1 hp hM => ?_)
    have hx9 := hp.1
    subst hx9
    have hP := hP.setc (show 309 + (t * 3 + g) < 762 by omega) hp.2
    clear hc9
    refine W.eq (g2 := F0 m 31 ls []) rfl ?_
    refine lv_aload_n C.1 C.2.1 d_Pln_changeLeg_31 rfl (lo_at hl 0 rfl) ?_
    refine lv_iload_n C.1 C.2.1 d_Pln_changeLeg_32 rfl (lo_at hl 1 rfl) ?_
    refine lv_iload_n C.1 C.2.1 d_Pln_changeLeg_33 rfl (lo_at hl 2 rfl) ?_
    refine lv_iconst (v := 1) C.1 C.2.1 d_Pln_changeLeg_34 (by decide) ?_
    refine lv_iadd C.1 C.2.1 d_Pln_changeLeg_35 ?_
    rw [show (1 : Int32) = nI 1 from rfl, nI_add]
    refine cg_callV C hE hM (k_Pln_at l G hP (t) (g + 1) (by omega) (by omega)) hP.1.1 hP.2.2.1.1 rfl tw_700 cy_Pln_at ⟨(Nat.le_of_ble_eq_true rfl), (Nat.le_of_ble_eq_true rfl)⟩ rfl hl.1 rfl (Nat.le_of_ble_eq_true rfl) ⟨Nat.zero_le _, Nat.zero_le _⟩ d_Pln_changeLeg_36 (fun x9 f17 H1 locs1 hp hM => ?_)
    obtain ⟨rfl, h9⟩ := hp
    rw [h9] at hM
    clear h9
    refine W.eq (g2 := F0 m 39 ls [_]) rfl ?_
    refine lv_aload_n C.1 C.2.1 d_Pln_changeLeg_39 rfl (lo_at hl 0 rfl) ?_
    refine lv_iload_n C.1 C.2.1 d_Pln_changeLeg_40 rfl (lo_at hl 2 rfl) ?_
    refine cg_callV C hE hM (k_Pln_goalOf l G hP g (by omega)) hP.1.1 hP.2.2.1.1 rfl tw_718 cy_Pln_goalOf ⟨(Nat.le_of_ble_eq_true rfl), (Nat.le_of_ble_eq_true rfl)⟩ rfl hl.1 rfl (Nat.le_of_ble_eq_true rfl) ⟨Nat.zero_le _, Nat.zero_le _⟩ d_Pln_changeLeg_41 (fun x9 f18 H1 locs1 hp hM => ?_)
    obtain ⟨rfl, h9⟩ := hp
    rw [h9] at hM
    clear h9
    refine W.eq (g2 := F0 m 44 ls [_, _]) rfl ?_
    rw [hq]
    obtain ⟨_, _, hc9, -⟩ := (hP.2.2.2.1 (309 + (t * 3 + (g + 1))) (show 309 + (t * 3 + (g + 1)) < 762 by omega)).words
    refine cg_callV C hE hM (k_Cel_put l G (ca (309 + (t * 3 + (g + 1)))) _ (hP.1.2.2.1 (309 + (t * 3 + (g + 1))) (show 309 + (t * 3 + (g + 1)) < 762 by omega)) (hP.2.2.2.1 (309 + (t * 3 + (g + 1))) (show 309 + (t * 3 + (g + 1)) < 762 by omega)) q hq9) (hP.1.2.2.1 (309 + (t * 3 + (g + 1))) (show 309 + (t * 3 + (g + 1)) < 762 by omega)) hc9 rfl tw_676 cy_Cel_put ⟨(Nat.le_of_ble_eq_true rfl), (Nat.le_of_ble_eq_true rfl)⟩ rfl hl.1 rfl (Nat.le_of_ble_eq_true rfl) ⟨Nat.zero_le _, Nat.zero_le _⟩ d_Pln_changeLeg_44 (fun x9 f19 H1 locs1 hp hM => ?_)
    have hx9 := hp.1
    subst hx9
    have hP := hP.setc (show 309 + (t * 3 + (g + 1)) < 762 by omega) hp.2
    clear hc9
    refine W.eq (g2 := F0 m 47 ls []) rfl ?_
    refine cg_vret C hr hlk hM d_Pln_changeLeg_47 ?_
    refine ⟨rfl, _, ?_, hP⟩
    intro i hi k hk
    unfold chL
    by_cases e : i = 309 + (t * 3 + (g + 1))
    · subst e
      rw [va_up_self, va_up_ne _ _ (by omega), if_neg (by omega), if_pos rfl]
      simp [hc14]
    · rw [va_up_ne _ _ e, if_neg e]
      by_cases e2 : i = 309 + (t * 3 + g)
      · subst e2
        rw [va_up_self, if_pos rfl]
      · rw [va_up_ne _ _ e2, if_neg e2]
set_option maxHeartbeats 4000000 in
set_option maxRecDepth 100000 in
theorem k_Pln_keepThoseBefore (l : Launch) (G : GG) {P : List Nat} {f : Nat → va_E} {pl va : Nat} {da ca : Nat → Nat} {f0 : Nat → va_E} {S : Nat → Nat → Bool} {Wy F : Nat → Int32} (hP : pS G pl va da ca P f0 f S Wy F) (t g : Nat) (ht2 : t < 151) (hg : g < 3)  : ct0 l G y_Pln_keepThoseBefore c_Pln_keepThoseBefore 3 none 2 46 [.ref pl, .int (nI t), .int (nI g)] P f (fun x f1 => x = none ∧ ∃ S', (∀ i, i < 762 → i ≠ 2 → ∀ k, k < 96 → S' i k = if i = 309 + (t * 3 + g) then (S i k && (nbS (S 1) k || S 1 k)) else S i k) ∧ pS G pl va da ca P f0 f1 S' Wy F) := by
  refine ct_intro (by decide) [some (.ref pl), some (.int (nI t)), some (.int (nI g))] rfl rfl (Nat.le_of_ble_eq_true rfl) ?_
  intro p e s m below meth c ls C hr hlk hnm hE hM hl
  refine lv_aload_n C.1 C.2.1 d_Pln_keepThoseBefore_0 rfl (lo_at hl 0 rfl) ?_
  refine pg_get C hE hM hP.1.1 hP.2.2.1.1 rfl in_Pln 6 (Nat.le_of_ble_eq_true rfl) tw_535 rfl rfl d_Pln_keepThoseBefore_1 ?_
  refine lv_aload_n C.1 C.2.1 d_Pln_keepThoseBefore_4 rfl (lo_at hl 0 rfl) ?_
  refine pg_get C hE hM hP.1.1 hP.2.2.1.1 rfl in_Pln 5 (Nat.le_of_ble_eq_true rfl) tw_534 rfl rfl d_Pln_keepThoseBefore_5 ?_
  obtain ⟨_, _, hc9, -⟩ := (hP.2.2.2.1 (2) (show 2 < 762 by omega)).words
  refine cg_callV C hE hM (k_Cel_becomeNeighboursOf l G (ca (2)) _ (hP.1.2.2.1 (2) (show 2 < 762 by omega)) (hP.2.2.2.1 (2) (show 2 < 762 by omega)) (ca (1)) _ (hP.1.2.2.1 (1) (show 1 < 762 by omega)) (hP.2.2.2.1 (1) (show 1 < 762 by omega)) (hP.ne (show 2 < 762 by omega) (show 1 < 762 by omega) (by omega))) (hP.1.2.2.1 (2) (show 2 < 762 by omega)) hc9 rfl tw_712 cy_Cel_becomeNeighboursOf ⟨(Nat.le_of_ble_eq_true rfl), (Nat.le_of_ble_eq_true rfl)⟩ rfl hl.1 rfl (Nat.le_of_ble_eq_true rfl) ⟨Nat.zero_le _, Nat.zero_le _⟩ d_Pln_keepThoseBefore_8 (fun x9 f11 H1 locs1 hp hM => ?_)
  have hx9 := hp.1
  subst hx9
  have hP := hP.setc (show 2 < 762 by omega) hp.2
  clear hc9
  refine W.eq (g2 := F0 m 11 ls []) rfl ?_
  refine lv_aload_n C.1 C.2.1 d_Pln_keepThoseBefore_11 rfl (lo_at hl 0 rfl) ?_
  refine pg_get C hE hM hP.1.1 hP.2.2.1.1 rfl in_Pln 6 (Nat.le_of_ble_eq_true rfl) tw_535 rfl rfl d_Pln_keepThoseBefore_12 ?_
  refine lv_aload_n C.1 C.2.1 d_Pln_keepThoseBefore_15 rfl (lo_at hl 0 rfl) ?_
  refine pg_get C hE hM hP.1.1 hP.2.2.1.1 rfl in_Pln 5 (Nat.le_of_ble_eq_true rfl) tw_534 rfl rfl d_Pln_keepThoseBefore_16 ?_
  obtain ⟨_, _, hc9, -⟩ := (hP.2.2.2.1 (2) (show 2 < 762 by omega)).words
  refine cg_callV C hE hM (k_Cel_join l G (ca (2)) _ (hP.1.2.2.1 (2) (show 2 < 762 by omega)) (hP.2.2.2.1 (2) (show 2 < 762 by omega)) (ca (1)) _ (hP.1.2.2.1 (1) (show 1 < 762 by omega)) (hP.2.2.2.1 (1) (show 1 < 762 by omega)) (hP.ne (show 2 < 762 by omega) (show 1 < 762 by omega) (by omega))) (hP.1.2.2.1 (2) (show 2 < 762 by omega)) hc9 rfl tw_713 cy_Cel_join ⟨(Nat.le_of_ble_eq_true rfl), (Nat.le_of_ble_eq_true rfl)⟩ rfl hl.1 rfl (Nat.le_of_ble_eq_true rfl) ⟨Nat.zero_le _, Nat.zero_le _⟩ d_Pln_keepThoseBefore_19 (fun x9 f12 H1 locs1 hp hM => ?_)
  have hx9 := hp.1
  subst hx9
  have hP := hP.setc (show 2 < 762 by omega) hp.2
  clear hc9
  refine W.eq (g2 := F0 m 22 ls []) rfl ?_
  refine lv_aload_n C.1 C.2.1 d_Pln_keepThoseBefore_22 rfl (lo_at hl 0 rfl) ?_
  refine lv_iload_n C.1 C.2.1 d_Pln_keepThoseBefore_23 rfl (lo_at hl 1 rfl) ?_
  refine lv_iload_n C.1 C.2.1 d_Pln_keepThoseBefore_24 rfl (lo_at hl 2 rfl) ?_
  refine cg_callV C hE hM (k_Pln_at l G hP (t) (g) (by omega) (by omega)) hP.1.1 hP.2.2.1.1 rfl tw_700 cy_Pln_at ⟨(Nat.le_of_ble_eq_true rfl), (Nat.le_of_ble_eq_true rfl)⟩ rfl hl.1 rfl (Nat.le_of_ble_eq_true rfl) ⟨Nat.zero_le _, Nat.zero_le _⟩ d_Pln_keepThoseBefore_25 (fun x9 f13 H1 locs1 hp hM => ?_)
  obtain ⟨rfl, h9⟩ := hp
  rw [h9] at hM
  clear h9
  refine W.eq (g2 := F0 m 28 ls [_]) rfl ?_
  refine lv_aload_n C.1 C.2.1 d_Pln_keepThoseBefore_28 rfl (lo_at hl 0 rfl) ?_
  refine pg_get C hE hM hP.1.1 hP.2.2.1.1 rfl in_Pln 6 (Nat.le_of_ble_eq_true rfl) tw_535 rfl rfl d_Pln_keepThoseBefore_29 ?_
  obtain ⟨_, _, hc9, -⟩ := (hP.2.2.2.1 (309 + (t * 3 + g)) (show 309 + (t * 3 + g) < 762 by omega)).words
  refine cg_callV C hE hM (k_Cel_keep l G (ca (309 + (t * 3 + g))) _ (hP.1.2.2.1 (309 + (t * 3 + g)) (show 309 + (t * 3 + g) < 762 by omega)) (hP.2.2.2.1 (309 + (t * 3 + g)) (show 309 + (t * 3 + g) < 762 by omega)) (ca (2)) _ (hP.1.2.2.1 (2) (show 2 < 762 by omega)) (hP.2.2.2.1 (2) (show 2 < 762 by omega)) (hP.ne (show 309 + (t * 3 + g) < 762 by omega) (show 2 < 762 by omega) (by omega))) (hP.1.2.2.1 (309 + (t * 3 + g)) (show 309 + (t * 3 + g) < 762 by omega)) hc9 rfl tw_695 cy_Cel_keep ⟨(Nat.le_of_ble_eq_true rfl), (Nat.le_of_ble_eq_true rfl)⟩ rfl hl.1 rfl (Nat.le_of_ble_eq_true rfl) ⟨Nat.zero_le _, Nat.zero_le _⟩ d_Pln_keepThoseBefore_32 (fun x9 f14 H1 locs1 hp hM => ?_)
  have hx9 := hp.1
  subst hx9
  have hP := hP.setc (show 309 + (t * 3 + g) < 762 by omega) hp.2
  clear hc9
  refine W.eq (g2 := F0 m 35 ls []) rfl ?_
  refine cg_vret C hr hlk hM d_Pln_keepThoseBefore_35 ?_
  refine ⟨rfl, _, ?_, hP⟩
  intro i hi h2 k hk
  by_cases e : i = 309 + (t * 3 + g)
  · subst e
    simp only [va_up_self, if_true]
    simp only [va_up_ne (α := Nat → Bool) _ _ (show 309 + (t * 3 + g) ≠ 2 by omega), va_up_ne (α := Nat → Bool) _ _ (show 1 ≠ 2 by omega)]
  · simp only [va_up_ne (α := Nat → Bool) _ _ e, va_up_ne (α := Nat → Bool) _ _ h2, if_neg e]
