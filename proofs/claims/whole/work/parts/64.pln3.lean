/-! the marks from which the end is reached in time -/
def gl (fs sn pk g : Nat) : Nat := if g = 0 then fs else if g = 1 then sn else pk
theorem gl_lt {fs sn pk g : Nat} (h1 : fs < 96) (h2 : sn < 96) (h3 : pk < 96) : gl fs sn pk g < 96 := by
  unfold gl
  split
  · exact h1
  · split <;> assumption
theorem glI_eq {F : Nat → Int32} {fs sn pk g : Nat} (h0 : F 0 = nI fs) (h1 : F 1 = nI sn) (h2 : F 2 = nI pk) : glI F g = nI (gl fs sn pk g) := by
  unfold glI gl
  split
  · exact h0
  · split <;> assumption
def aimS (fs sn : Nat) (Z : Nat → Nat → Bool) (g k : Nat) : Bool :=
  if g = 2 then Z 2 k else if g = 1 then Z 1 k || (decide (k = sn) && Z 2 sn) else Z 0 k || (decide (k = fs) && (Z 1 fs || (decide (fs = sn) && Z 2 sn)))
theorem aim_s {fs sn pk : Nat} {Z : Nat → Nat → Bool} {g k : Nat} (hg : g < 3) : aimS fs sn Z g k = (Z g k || (decide (k = gl fs sn pk g) && (if g = 2 then false else aimS fs sn Z (g + 1) (gl fs sn pk g)))) := by
  unfold aimS gl
  rcases (show g = 0 ∨ g = 1 ∨ g = 2 by omega) with rfl | rfl | rfl
  · simp
  · simp
  · simp
/-- j steps before the end -/
def PR (X : Nat → Nat → Nat → Bool) (fs sn pk e : Nat) : Nat → Nat → Nat → Bool
  | 0, g, k => decide (g = 2) && decide (k = pk)
  | j + 1, g, k => X (e - (j + 1)) g k && (nbS (aimS fs sn (PR X fs sn pk e j) g) k || aimS fs sn (PR X fs sn pk e j) g k)
abbrev rowX (S : Nat → Nat → Bool) : Nat → Nat → Nat → Bool := fun t g k => S (309 + (t * 3 + g)) k
def prI (S1 S : Nat → Nat → Bool) (fs sn pk e m : Nat) : Prop := (∀ t g k, t ≤ e → g < 3 → k < 96 → S1 (309 + (t * 3 + g)) k = if m ≤ t then PR (rowX S) fs sn pk e (e - t) g k else S (309 + (t * 3 + g)) k) ∧ ∀ i, i < 309 → i ≠ 1 → i ≠ 2 → ∀ k, k < 96 → S1 i k = S i k
def prG (S2 S1 S : Nat → Nat → Bool) (fs sn pk e t q : Nat) : Prop := (∀ t' g k, t' ≤ e → g < 3 → k < 96 → S2 (309 + (t' * 3 + g)) k = if t' = t ∧ q ≤ g then PR (rowX S) fs sn pk e (e - t) g k else S1 (309 + (t' * 3 + g)) k) ∧ (∀ i, i < 309 → i ≠ 1 → i ≠ 2 → ∀ k, k < 96 → S2 i k = S1 i k) ∧ ∀ k, k < 96 → S2 1 k = if q = 3 then false else aimS fs sn (PR (rowX S) fs sn pk e (e - (t + 1))) q k
theorem prI_0 {S1 S : Nat → Nat → Bool} {fs sn pk e : Nat} (h : ∀ i, i < 762 → ∀ k, k < 96 → S1 i k = if 309 + (e * 3) ≤ i ∧ i < 309 + (e * 3) + 3 then (decide (i = 309 + (e * 3 + 2)) && decide (k = pk)) else S i k) (he : e ≤ 150) : prI S1 S fs sn pk e e := by
  refine ⟨fun t g k ht hg hk => ?_, fun i hi _ _ k hk => ?_⟩
  · rw [h _ (by omega) k hk]
    by_cases q : t = e
    · subst q
      rw [if_pos (by omega), if_pos (Nat.le_refl _), Nat.sub_self, PR]
      congr 1
      exact decide_eq_decide.mpr (by omega)
    · rw [if_neg (by omega), if_neg (by omega)]
  · rw [h i (by omega) k hk, if_neg (by omega)]
theorem prG_0 {S1 S : Nat → Nat → Bool} {fs sn pk e t : Nat} (_h : prI S1 S fs sn pk e (t + 1)) : prG (va_up S1 1 (fun _ => false)) S1 S fs sn pk e t 3 := by
  refine ⟨fun t' g k ht hg hk => ?_, fun i hi h1 _ k hk => ?_, fun k hk => ?_⟩
  · rw [if_neg (by omega), va_up_ne _ _ (by omega)]
  · rw [va_up_ne _ _ h1]
  · rw [va_up_self, if_pos rfl]
theorem aim_congr {fs sn : Nat} (hfs : fs < 96) (hsn : sn < 96) {Z Y : Nat → Nat → Bool} (h : ∀ g k, g < 3 → k < 96 → Z g k = Y g k) {g k : Nat} (hk : k < 96) : aimS fs sn Z g k = aimS fs sn Y g k := by
  unfold aimS
  rw [h 2 k (by decide) hk, h 1 k (by decide) hk, h 2 sn (by decide) hsn, h 0 k (by decide) hk, h 1 fs (by decide) hfs]
theorem prG_s {S1 S2 S3 T S : Nat → Nat → Bool} {fs sn pk e t g : Nat} (he : e ≤ 150) (ht : t + 1 ≤ e) (hg : g < 3) (h1 : prI S1 S fs sn pk e (t + 1)) (h2 : prG S2 S1 S fs sn pk e t (g + 1)) (hT : ∀ i, i < 762 → i ≠ 1 → ∀ k, k < 96 → T i k = S2 i k) (hT1 : ∀ k, k < 96 → T 1 k = aimS fs sn (PR (rowX S) fs sn pk e (e - (t + 1))) g k) (h3 : ∀ i, i < 762 → i ≠ 2 → ∀ k, k < 96 → S3 i k = if i = 309 + (t * 3 + g) then (T i k && (nbS (T 1) k || T 1 k)) else T i k) : prG S3 S1 S fs sn pk e t g := by
  refine ⟨fun t' g' k ht' hg' hk => ?_, fun i hi i1 i2 k hk => ?_, fun k hk => ?_⟩
  · rw [h3 _ (by omega) (by omega) k hk]
    by_cases q : 309 + (t' * 3 + g') = 309 + (t * 3 + g)
    · obtain ⟨rfl, rfl⟩ : t' = t ∧ g' = g := by omega
      rw [if_pos rfl, if_pos ⟨rfl, Nat.le_refl _⟩, hT _ (by omega) (by omega) k hk, h2.1 t' g' k ht' hg' hk, if_neg (by omega), h1.1 t' g' k ht' hg' hk, if_neg (by omega), nbS_congr hT1 hk, hT1 k hk]
      rw [show e - t' = (e - (t' + 1)) + 1 by omega, PR, show e - (e - (t' + 1) + 1) = t' by omega]
    · rw [if_neg q, hT _ (by omega) (by omega) k hk, h2.1 t' g' k ht' hg' hk]
      by_cases q2 : t' = t ∧ g + 1 ≤ g'
      · rw [if_pos q2, if_pos (by omega)]
      · rw [if_neg q2, if_neg (by omega)]
  · rw [h3 i (by omega) i2 k hk, if_neg (by omega), hT i (by omega) i1 k hk]
    exact h2.2.1 i hi i1 i2 k hk
  · rw [h3 1 (by omega) (by omega) k hk, if_neg (by omega), hT1 k hk, if_neg (by omega)]
theorem prI_s {S1 S2 S : Nat → Nat → Bool} {fs sn pk e t : Nat} (h1 : prI S1 S fs sn pk e (t + 1)) (h2 : prG S2 S1 S fs sn pk e t 0) : prI S2 S fs sn pk e t := by
  refine ⟨fun t' g k ht' hg hk => ?_, fun i hi i1 i2 k hk => ?_⟩
  · rw [h2.1 t' g k ht' hg hk]
    by_cases q : t' = t
    · subst q; rw [if_pos ⟨rfl, Nat.zero_le _⟩, if_pos (Nat.le_refl _)]
    · rw [if_neg (by omega), h1.1 t' g k ht' hg hk]
      by_cases q2 : t + 1 ≤ t'
      · rw [if_pos q2, if_pos (by omega)]
      · rw [if_neg q2, if_neg (by omega)]
  · rw [h2.2.1 i hi i1 i2 k hk]; exact h1.2 i hi i1 i2 k hk
set_option maxHeartbeats 4000000 in
set_option maxRecDepth 100000 in
theorem k_Pln_prune (l : Launch) (G : GG) {P : List Nat} {f : Nat → va_E} {pl va : Nat} {da ca : Nat → Nat} {f0 : Nat → va_E} {S : Nat → Nat → Bool} {Wy F : Nat → Int32} (hP : pS G pl va da ca P f0 f S Wy F) (fs sn pk e0 : Nat) (hfs : fs < 96) (hsn : sn < 96) (hpk : pk < 96) (h0 : F 0 = nI fs) (h1 : F 1 = nI sn) (h2 : F 2 = nI pk) (h3 : F 3 = nI e0) (he1 : 1 ≤ e0) (he : e0 ≤ 150)  : ct0 l G y_Pln_prune c_Pln_prune 4 none 3 68 [.ref pl] P f (fun x f1 => x = none ∧ ∃ S', prI S' S fs sn pk e0 0 ∧ pS G pl va da ca P f0 f1 S' Wy F) := by
  refine ct_intro (by decide) [some (.ref pl), none, none, none] rfl rfl (Nat.le_of_ble_eq_true rfl) ?_
  intro p e s m below meth c ls C hr hlk hnm hE hM hl
  refine lv_iconst (v := 0) C.1 C.2.1 d_Pln_prune_0 (by decide) ?_
  refine lo_istore_n C hl d_Pln_prune_1 (Nat.le_of_ble_eq_true rfl) rfl (fun ls hl => ?_)
  refine W.loop (α := (Nat) × (Nat → Nat → Bool) × (Array Slot) × (Heap) × (List Loc) × (Nat → va_E)) (fun zz => 3 - zz.1) (fun zz => (zz.1 ≤ 3) ∧ (∀ i, i < 762 → ∀ k, k < 96 → zz.2.1 i k = if 309 + (e0 * 3) ≤ i ∧ i < 309 + (e0 * 3) + zz.1 then false else S i k) ∧ (pS G pl va da ca P f0 zz.2.2.2.2.2 zz.2.1 Wy F) ∧ lo zz.2.2.1 [some (.ref pl), some (.int (nI zz.1)), none, none] ∧ pgS G (pgA P s.heap.size) s.heap P zz.2.2.2.2.2 zz.2.2.2.1 zz.2.2.2.2.1) (fun zz => zz.2.2.2.1) (fun zz => zz.2.2.2.2.1) (fun zz => 0) (fun zz => 0) (fun zz => F0 m 2 zz.2.2.1 []) ?_ (0, S, ls, s.heap, [], f) ⟨Nat.zero_le _, fun i _ k _ => by rw [if_neg (by omega)], hP, lo_weak hl ⟨rfl, rfl, trivial⟩, hM⟩
  rintro ⟨g, S1, ls, H1, locs1, f1⟩ ⟨hg, hZ, hP, hl, hM⟩ ih2
  dsimp only at hg hZ hP hl hM
  show W _ _ _ _ _ _ _ _ _ _ _ _ _ _ _ (F0 m 2 ls [])
  refine lv_iload_n C.1 C.2.1 d_Pln_prune_2 rfl (lo_at hl 1 rfl) ?_
  refine lv_iconst (v := 3) C.1 C.2.1 d_Pln_prune_3 (by decide) ?_
  rw [show (3 : Int32) = nI 3 from rfl]
  refine lv_icmp_ge (tgt := 25) C.1 C.2.1 d_Pln_prune_4 (by decide) (fun hc4 => ?_) (fun hc4 => ?_)
  · have hg9 : g = 3 := Nat.le_antisymm hg (nI_leN (by omega) (by omega) hc4)
    refine lv_aload_n C.1 C.2.1 d_Pln_prune_25 rfl (lo_at hl 0 rfl) ?_
    refine lv_aload_n C.1 C.2.1 d_Pln_prune_26 rfl (lo_at hl 0 rfl) ?_
    refine pg_get C hE hM hP.1.1 hP.2.2.1.1 rfl in_Pln 11 (Nat.le_of_ble_eq_true rfl) tw_540 rfl rfl d_Pln_prune_27 ?_
    refine lv_iconst (v := 2) C.1 C.2.1 d_Pln_prune_30 (by decide) ?_
    rw [h3, show (2 : Int32) = nI 2 from rfl]
    refine cg_callV C hE hM (k_Pln_at l G hP (e0) (2) (by omega) (by omega)) hP.1.1 hP.2.2.1.1 rfl tw_700 cy_Pln_at ⟨(Nat.le_of_ble_eq_true rfl), (Nat.le_of_ble_eq_true rfl)⟩ rfl hl.1 rfl (Nat.le_of_ble_eq_true rfl) ⟨Nat.zero_le _, Nat.zero_le _⟩ d_Pln_prune_31 (fun x9 f11 H1 locs1 hp hM => ?_)
    obtain ⟨rfl, h9⟩ := hp
    rw [h9] at hM
    clear h9
    refine W.eq (g2 := F0 m 34 ls [_]) rfl ?_
    refine lv_aload_n C.1 C.2.1 d_Pln_prune_34 rfl (lo_at hl 0 rfl) ?_
    refine pg_get C hE hM hP.1.1 hP.2.2.1.1 rfl in_Pln 10 (Nat.le_of_ble_eq_true rfl) tw_539 rfl rfl d_Pln_prune_35 ?_
    rw [h2]
    obtain ⟨_, _, hc9, -⟩ := (hP.2.2.2.1 (309 + (e0 * 3 + 2)) (show 309 + (e0 * 3 + 2) < 762 by omega)).words
    refine cg_callV C hE hM (k_Cel_put l G (ca (309 + (e0 * 3 + 2))) _ (hP.1.2.2.1 (309 + (e0 * 3 + 2)) (show 309 + (e0 * 3 + 2) < 762 by omega)) (hP.2.2.2.1 (309 + (e0 * 3 + 2)) (show 309 + (e0 * 3 + 2) < 762 by omega)) pk hpk) (hP.1.2.2.1 (309 + (e0 * 3 + 2)) (show 309 + (e0 * 3 + 2) < 762 by omega)) hc9 rfl tw_676 cy_Cel_put ⟨(Nat.le_of_ble_eq_true rfl), (Nat.le_of_ble_eq_true rfl)⟩ rfl hl.1 rfl (Nat.le_of_ble_eq_true rfl) ⟨Nat.zero_le _, Nat.zero_le _⟩ d_Pln_prune_38 (fun x9 f12 H1 locs1 hp hM => ?_)
    have hx9 := hp.1
    subst hx9
    have hP := hP.setc (show 309 + (e0 * 3 + 2) < 762 by omega) hp.2
    clear hc9
    have hI0 : prI (va_up S1 (309 + (e0 * 3 + 2)) (fun k => S1 (309 + (e0 * 3 + 2)) k || decide (k = pk))) S fs sn pk e0 e0 := by
      refine prI_0 (fun i hi k hk => ?_) he
      by_cases q : i = 309 + (e0 * 3 + 2)
      · rw [q, va_up_self, hZ _ (by omega) k hk, if_pos (by omega), if_pos (by omega)]; simp
      · rw [va_up_ne _ _ q, hZ i hi k hk]
        by_cases q2 : 309 + e0 * 3 ≤ i ∧ i < 309 + e0 * 3 + g
        · rw [if_pos q2, if_pos (by omega)]; simp [q]
        · rw [if_neg q2, if_neg (by omega)]
    refine W.eq (g2 := F0 m 41 ls []) rfl ?_
    refine lv_aload_n C.1 C.2.1 d_Pln_prune_41 rfl (lo_at hl 0 rfl) ?_
    refine pg_get C hE hM hP.1.1 hP.2.2.1.1 rfl in_Pln 11 (Nat.le_of_ble_eq_true rfl) tw_540 rfl rfl d_Pln_prune_42 ?_
    refine lv_iconst (v := 1) C.1 C.2.1 d_Pln_prune_45 (by decide) ?_
    rw [h3]
    refine lv_isub C.1 C.2.1 d_Pln_prune_46 ?_
    refine lo_istore_n C hl d_Pln_prune_47 (Nat.le_of_ble_eq_true rfl) rfl (fun ls hl => ?_)
    refine W.loop (α := (Nat) × (Nat → Nat → Bool) × (Array Slot) × (Heap) × (List Loc) × (Nat → va_E)) (fun zz => zz.1) (fun zz => (zz.1 ≤ e0) ∧ (prI zz.2.1 S fs sn pk e0 zz.1) ∧ (pS G pl va da ca P f0 zz.2.2.2.2.2 zz.2.1 Wy F) ∧ lo zz.2.2.1 [some (.ref pl), some (.int (nI zz.1 - 1)), none, none] ∧ pgS G (pgA P s.heap.size) s.heap P zz.2.2.2.2.2 zz.2.2.2.1 zz.2.2.2.2.1) (fun zz => zz.2.2.2.1) (fun zz => zz.2.2.2.2.1) (fun zz => 0) (fun zz => 0) (fun zz => F0 m 48 zz.2.2.1 []) ?_ (e0, _, ls, H1, locs1, f12) ⟨Nat.le_refl _, hI0, hP, lo_weak hl ⟨rfl, rfl, trivial⟩, hM⟩
    rintro ⟨m1, S1, ls, H1, locs1, f1⟩ ⟨hm1, hI, hP, hl, hM⟩ ih48
    dsimp only at hm1 hI hP hl hM
    show W _ _ _ _ _ _ _ _ _ _ _ _ _ _ _ (F0 m 48 ls [])
    refine lv_iload_n C.1 C.2.1 d_Pln_prune_48 rfl (lo_at hl 1 rfl) ?_
    refine lv_if_lt (tgt := 127) C.1 C.2.1 d_Pln_prune_49 (by decide) (fun hc49 => ?_) (fun hc49 => ?_)
    · have hm9 : m1 = 0 := by
        cases m1 with
        | zero => rfl
        | succ t => rw [nI_pred] at hc49; exact absurd hc49 (nI_nn (by omega))
      refine cg_vret C hr hlk hM d_Pln_prune_127 ?_
      rw [hm9] at hI
      exact ⟨rfl, _, hI, hP⟩
    · obtain ⟨t, rfl⟩ : ∃ t, m1 = t + 1 := by
        cases m1 with
        | zero => exact absurd (by decide) hc49
        | succ t => exact ⟨t, rfl⟩
      have hl := hl
      rw [nI_pred] at hl
      refine lv_aload_n C.1 C.2.1 d_Pln_prune_52 rfl (lo_at hl 0 rfl) ?_
      refine pg_get C hE hM hP.1.1 hP.2.2.1.1 rfl in_Pln 5 (Nat.le_of_ble_eq_true rfl) tw_534 rfl rfl d_Pln_prune_53 ?_
      obtain ⟨_, _, hc9, -⟩ := (hP.2.2.2.1 (1) (show 1 < 762 by omega)).words
      refine cg_callV C hE hM (k_Cel_clear l G (ca (1)) _ (hP.1.2.2.1 (1) (show 1 < 762 by omega)) (hP.2.2.2.1 (1) (show 1 < 762 by omega))) (hP.1.2.2.1 (1) (show 1 < 762 by omega)) hc9 rfl tw_704 cy_Cel_clear ⟨(Nat.le_of_ble_eq_true rfl), (Nat.le_of_ble_eq_true rfl)⟩ rfl hl.1 rfl (Nat.le_of_ble_eq_true rfl) ⟨Nat.zero_le _, Nat.zero_le _⟩ d_Pln_prune_56 (fun x9 f13 H1 locs1 hp hM => ?_)
      have hx9 := hp.1
      subst hx9
      have hP := hP.setc (show 1 < 762 by omega) hp.2
      clear hc9
      refine W.eq (g2 := F0 m 59 ls []) rfl ?_
      refine lv_iconst (v := 2) C.1 C.2.1 d_Pln_prune_59 (by decide) ?_
      rw [show (2 : Int32) = nI 3 - 1 from by decide]
      refine lo_istore_n C hl d_Pln_prune_60 (Nat.le_of_ble_eq_true rfl) rfl (fun ls hl => ?_)
      refine W.loop (α := (Nat) × (Nat → Nat → Bool) × (Array Slot) × (Heap) × (List Loc) × (Nat → va_E)) (fun zz => zz.1) (fun zz => (zz.1 ≤ 3) ∧ (prG zz.2.1 S1 S fs sn pk e0 t zz.1) ∧ (pS G pl va da ca P f0 zz.2.2.2.2.2 zz.2.1 Wy F) ∧ lo zz.2.2.1 [some (.ref pl), some (.int (nI t)), some (.int (nI zz.1 - 1)), none] ∧ pgS G (pgA P s.heap.size) s.heap P zz.2.2.2.2.2 zz.2.2.2.1 zz.2.2.2.2.1) (fun zz => zz.2.2.2.1) (fun zz => zz.2.2.2.2.1) (fun zz => 0) (fun zz => 0) (fun zz => F0 m 61 zz.2.2.1 []) ?_ (3, _, ls, H1, locs1, f13) ⟨Nat.le_refl _, prG_0 hI, hP, lo_weak hl ⟨rfl, rfl, rfl, trivial⟩, hM⟩
      rintro ⟨q, S2, ls, H1, locs1, f1⟩ ⟨hq, hG, hP, hl, hM⟩ ih61
      dsimp only at hq hG hP hl hM
      show W _ _ _ _ _ _ _ _ _ _ _ _ _ _ _ (F0 m 61 ls [])
      refine lv_iload_n C.1 C.2.1 d_Pln_prune_61 rfl (lo_at hl 2 rfl) ?_
      refine lv_if_lt (tgt := 121) C.1 C.2.1 d_Pln_prune_62 (by decide) (fun hc62 => ?_) (fun hc62 => ?_)
      · have hq9 : q = 0 := by
          cases q with
          | zero => rfl
          | succ g => rw [nI_pred] at hc62; exact absurd hc62 (nI_nn (by omega))
        rw [hq9] at hG
        refine lo_iinc C hl d_Pln_prune_121 rfl rfl (fun ls hl => ?_)
        refine lv_goto (tgt := 48) C.1 C.2.1 d_Pln_prune_124 (by decide) ?_
        have h9 := hl
        rw [m1_add] at h9
        exact ih48 (t, S2, ls, H1, locs1, f1) ⟨by (try dsimp only); omega, prI_s hI hG, hP, lo_weak h9 ⟨rfl, rfl, trivial⟩, hM⟩ (by show (t) < t + 1; omega)
      · obtain ⟨g, rfl⟩ : ∃ g, q = g + 1 := by
          cases q with
          | zero => exact absurd (by decide) hc62
          | succ g => exact ⟨g, rfl⟩
        have hl := hl
        rw [nI_pred] at hl
        refine lv_aload_n C.1 C.2.1 d_Pln_prune_65 rfl (lo_at hl 0 rfl) ?_
        refine pg_get C hE hM hP.1.1 hP.2.2.1.1 rfl in_Pln 5 (Nat.le_of_ble_eq_true rfl) tw_534 rfl rfl d_Pln_prune_66 ?_
        refine lv_aload_n C.1 C.2.1 d_Pln_prune_69 rfl (lo_at hl 0 rfl) ?_
        refine lv_iload_n C.1 C.2.1 d_Pln_prune_70 rfl (lo_at hl 2 rfl) ?_
        refine cg_callV C hE hM (k_Pln_goalOf l G hP g (by omega)) hP.1.1 hP.2.2.1.1 rfl tw_718 cy_Pln_goalOf ⟨(Nat.le_of_ble_eq_true rfl), (Nat.le_of_ble_eq_true rfl)⟩ rfl hl.1 rfl (Nat.le_of_ble_eq_true rfl) ⟨Nat.zero_le _, Nat.zero_le _⟩ d_Pln_prune_71 (fun x9 f14 H1 locs1 hp hM => ?_)
        obtain ⟨rfl, h9⟩ := hp
        rw [h9] at hM
        clear h9
        refine W.eq (g2 := F0 m 74 ls [_, _]) rfl ?_
        rw [glI_eq h0 h1 h2]
        obtain ⟨_, _, hc9, -⟩ := (hP.2.2.2.1 (1) (show 1 < 762 by omega)).words
        refine cg_callV C hE hM (k_Cel_has l G (ca (1)) _ (hP.1.2.2.1 (1) (show 1 < 762 by omega)) (hP.2.2.2.1 (1) (show 1 < 762 by omega)) (gl fs sn pk g) (gl_lt hfs hsn hpk)) (hP.1.2.2.1 (1) (show 1 < 762 by omega)) hc9 rfl tw_722 cy_Cel_has ⟨(Nat.le_of_ble_eq_true rfl), (Nat.le_of_ble_eq_true rfl)⟩ rfl hl.1 rfl (Nat.le_of_ble_eq_true rfl) ⟨Nat.zero_le _, Nat.zero_le _⟩ d_Pln_prune_74 (fun x9 f15 H1 locs1 hp hM => ?_)
        obtain ⟨rfl, h9⟩ := hp
        rw [h9] at hM
        clear h9
        clear hc9
        refine W.eq (g2 := F0 m 77 ls [_]) rfl ?_
        refine lo_istore_n C hl d_Pln_prune_77 (Nat.le_of_ble_eq_true rfl) rfl (fun ls hl => ?_)
        refine lv_aload_n C.1 C.2.1 d_Pln_prune_78 rfl (lo_at hl 0 rfl) ?_
        refine pg_get C hE hM hP.1.1 hP.2.2.1.1 rfl in_Pln 5 (Nat.le_of_ble_eq_true rfl) tw_534 rfl rfl d_Pln_prune_79 ?_
        refine lv_aload_n C.1 C.2.1 d_Pln_prune_82 rfl (lo_at hl 0 rfl) ?_
        refine lv_iload_n C.1 C.2.1 d_Pln_prune_83 rfl (lo_at hl 1 rfl) ?_
        refine lv_iconst (v := 1) C.1 C.2.1 d_Pln_prune_84 (by decide) ?_
        refine lv_iadd C.1 C.2.1 d_Pln_prune_85 ?_
        refine lv_iload_n C.1 C.2.1 d_Pln_prune_86 rfl (lo_at hl 2 rfl) ?_
        rw [show (1 : Int32) = nI 1 from rfl, nI_add]
        refine cg_callV C hE hM (k_Pln_at l G hP (t + 1) (g) (by omega) (by omega)) hP.1.1 hP.2.2.1.1 rfl tw_700 cy_Pln_at ⟨(Nat.le_of_ble_eq_true rfl), (Nat.le_of_ble_eq_true rfl)⟩ rfl hl.1 rfl (Nat.le_of_ble_eq_true rfl) ⟨Nat.zero_le _, Nat.zero_le _⟩ d_Pln_prune_87 (fun x9 f16 H1 locs1 hp hM => ?_)
        obtain ⟨rfl, h9⟩ := hp
        rw [h9] at hM
        clear h9
        refine W.eq (g2 := F0 m 90 ls [_, _]) rfl ?_
        obtain ⟨_, _, hc9, -⟩ := (hP.2.2.2.1 (1) (show 1 < 762 by omega)).words
        refine cg_callV C hE hM (k_Cel_copy l G (ca (1)) _ (hP.1.2.2.1 (1) (show 1 < 762 by omega)) (hP.2.2.2.1 (1) (show 1 < 762 by omega)) (ca (309 + ((t + 1) * 3 + g))) _ (hP.1.2.2.1 (309 + ((t + 1) * 3 + g)) (show 309 + ((t + 1) * 3 + g) < 762 by omega)) (hP.2.2.2.1 (309 + ((t + 1) * 3 + g)) (show 309 + ((t + 1) * 3 + g) < 762 by omega)) (hP.ne (show 1 < 762 by omega) (show 309 + ((t + 1) * 3 + g) < 762 by omega) (by omega))) (hP.1.2.2.1 (1) (show 1 < 762 by omega)) hc9 rfl tw_672 cy_Cel_copy ⟨(Nat.le_of_ble_eq_true rfl), (Nat.le_of_ble_eq_true rfl)⟩ rfl hl.1 rfl (Nat.le_of_ble_eq_true rfl) ⟨Nat.zero_le _, Nat.zero_le _⟩ d_Pln_prune_90 (fun x9 f17 H1 locs1 hp hM => ?_)
        have hx9 := hp.1
        subst hx9
        have hP := hP.setc (show 1 < 762 by omega) hp.2
        clear hc9
        refine W.eq (g2 := F0 m 93 ls []) rfl ?_
        refine lv_iload_n C.1 C.2.1 d_Pln_prune_93 rfl (lo_at hl 3 rfl) ?_
        refine lv_if_eq (tgt := 109) C.1 C.2.1 d_Pln_prune_94 (by decide) (fun hc94 => ?_) (fun hc94 => ?_)
        · replace hc94 := bz_0.mp hc94
          refine lv_aload_n C.1 C.2.1 d_Pln_prune_109 rfl (lo_at hl 0 rfl) ?_
          refine lv_iload_n C.1 C.2.1 d_Pln_prune_110 rfl (lo_at hl 1 rfl) ?_
          refine lv_iload_n C.1 C.2.1 d_Pln_prune_111 rfl (lo_at hl 2 rfl) ?_
          refine cg_callV C hE hM (k_Pln_keepThoseBefore l G hP t g (by omega) (by omega)) hP.1.1 hP.2.2.1.1 rfl tw_727 cy_Pln_keepThoseBefore ⟨(Nat.le_of_ble_eq_true rfl), (Nat.le_of_ble_eq_true rfl)⟩ rfl hl.1 rfl (Nat.le_of_ble_eq_true rfl) ⟨Nat.zero_le _, Nat.zero_le _⟩ d_Pln_prune_112 (fun x9 f18 H1 locs1 hp hM => ?_)
          obtain ⟨hx9, S9, hS9, hP⟩ := hp
          subst hx9
          refine W.eq (g2 := F0 m 115 ls []) rfl ?_
          refine lo_iinc C hl d_Pln_prune_115 rfl rfl (fun ls hl => ?_)
          refine lv_goto (tgt := 61) C.1 C.2.1 d_Pln_prune_118 (by decide) ?_
          have hZ : ∀ k, k < 96 → S2 (309 + ((t + 1) * 3 + g)) k = PR (rowX S) fs sn pk e0 (e0 - (t + 1)) g k := fun k hk => by rw [hG.1 (t + 1) g k (by omega) (by omega) hk, if_neg (by omega), hI.1 (t + 1) g k (by omega) (by omega) hk, if_pos (Nat.le_refl _)]
          have hA := hG.2.2 (gl fs sn pk g) (gl_lt hfs hsn hpk)
          have hA2 : (if g = 2 then false else aimS fs sn (PR (rowX S) fs sn pk e0 (e0 - (t + 1))) (g + 1) (gl fs sn pk g)) = false := by
            by_cases e2 : g = 2
            · rw [if_pos e2]
            · rw [if_neg e2, ← (if_neg (c := g + 1 = 3) (by omega) : _ = aimS fs sn (PR (rowX S) fs sn pk e0 (e0 - (t + 1))) (g + 1) (gl fs sn pk g)), ← hA]; simpa using hc94
          have hGn := prG_s (T := (va_up S2 1 (S2 (309 + ((t + 1) * 3 + g))))) he (by omega) (by omega) hI hG (fun i hi i1 k hk => by rw [va_up_ne (α := Nat → Bool) _ _ i1]) (fun k hk => by rw [va_up_self, aim_s (pk := pk) (by omega), hZ k hk, hA2, Bool.and_false, Bool.or_false]) hS9
          have h9 := hl
          rw [m1_add] at h9
          exact ih61 (g, S9, ls, H1, locs1, f18) ⟨by (try dsimp only); omega, hGn, hP, lo_weak h9 ⟨rfl, rfl, rfl, trivial⟩, hM⟩ (by show (g) < g + 1; omega)
        · replace hc94 := bz_1.mp hc94
          refine lv_aload_n C.1 C.2.1 d_Pln_prune_97 rfl (lo_at hl 0 rfl) ?_
          refine pg_get C hE hM hP.1.1 hP.2.2.1.1 rfl in_Pln 5 (Nat.le_of_ble_eq_true rfl) tw_534 rfl rfl d_Pln_prune_98 ?_
          refine lv_aload_n C.1 C.2.1 d_Pln_prune_101 rfl (lo_at hl 0 rfl) ?_
          refine lv_iload_n C.1 C.2.1 d_Pln_prune_102 rfl (lo_at hl 2 rfl) ?_
          refine cg_callV C hE hM (k_Pln_goalOf l G hP g (by omega)) hP.1.1 hP.2.2.1.1 rfl tw_718 cy_Pln_goalOf ⟨(Nat.le_of_ble_eq_true rfl), (Nat.le_of_ble_eq_true rfl)⟩ rfl hl.1 rfl (Nat.le_of_ble_eq_true rfl) ⟨Nat.zero_le _, Nat.zero_le _⟩ d_Pln_prune_103 (fun x9 f18 H1 locs1 hp hM => ?_)
          obtain ⟨rfl, h9⟩ := hp
          rw [h9] at hM
          clear h9
          refine W.eq (g2 := F0 m 106 ls [_, _]) rfl ?_
          rw [glI_eq h0 h1 h2]
          obtain ⟨_, _, hc9, -⟩ := (hP.2.2.2.1 (1) (show 1 < 762 by omega)).words
          refine cg_callV C hE hM (k_Cel_put l G (ca (1)) _ (hP.1.2.2.1 (1) (show 1 < 762 by omega)) (hP.2.2.2.1 (1) (show 1 < 762 by omega)) (gl fs sn pk g) (gl_lt hfs hsn hpk)) (hP.1.2.2.1 (1) (show 1 < 762 by omega)) hc9 rfl tw_676 cy_Cel_put ⟨(Nat.le_of_ble_eq_true rfl), (Nat.le_of_ble_eq_true rfl)⟩ rfl hl.1 rfl (Nat.le_of_ble_eq_true rfl) ⟨Nat.zero_le _, Nat.zero_le _⟩ d_Pln_prune_106 (fun x9 f19 H1 locs1 hp hM => ?_)
          have hx9 := hp.1
          subst hx9
          have hP := hP.setc (show 1 < 762 by omega) hp.2
          clear hc9
          refine W.eq (g2 := F0 m 109 ls []) rfl ?_
          refine lv_aload_n C.1 C.2.1 d_Pln_prune_109 rfl (lo_at hl 0 rfl) ?_
          refine lv_iload_n C.1 C.2.1 d_Pln_prune_110 rfl (lo_at hl 1 rfl) ?_
          refine lv_iload_n C.1 C.2.1 d_Pln_prune_111 rfl (lo_at hl 2 rfl) ?_
          refine cg_callV C hE hM (k_Pln_keepThoseBefore l G hP t g (by omega) (by omega)) hP.1.1 hP.2.2.1.1 rfl tw_727 cy_Pln_keepThoseBefore ⟨(Nat.le_of_ble_eq_true rfl), (Nat.le_of_ble_eq_true rfl)⟩ rfl hl.1 rfl (Nat.le_of_ble_eq_true rfl) ⟨Nat.zero_le _, Nat.zero_le _⟩ d_Pln_prune_112 (fun x9 f20 H1 locs1 hp hM => ?_)
          obtain ⟨hx9, S9, hS9, hP⟩ := hp
          subst hx9
          refine W.eq (g2 := F0 m 115 ls []) rfl ?_
          refine lo_iinc C hl d_Pln_prune_115 rfl rfl (fun ls hl => ?_)
          refine lv_goto (tgt := 61) C.1 C.2.1 d_Pln_prune_118 (by decide) ?_
          have hZ : ∀ k, k < 96 → S2 (309 + ((t + 1) * 3 + g)) k = PR (rowX S) fs sn pk e0 (e0 - (t + 1)) g k := fun k hk => by rw [hG.1 (t + 1) g k (by omega) (by omega) hk, if_neg (by omega), hI.1 (t + 1) g k (by omega) (by omega) hk, if_pos (Nat.le_refl _)]
          have hA := hG.2.2 (gl fs sn pk g) (gl_lt hfs hsn hpk)
          have hA2 : (if g = 2 then false else aimS fs sn (PR (rowX S) fs sn pk e0 (e0 - (t + 1))) (g + 1) (gl fs sn pk g)) = true := by
            by_cases e2 : g = 2
            · rw [if_pos e2]; rw [if_pos (by omega)] at hA; rw [hA] at hc94; exact absurd hc94 (by decide)
            · rw [if_neg e2, ← (if_neg (c := g + 1 = 3) (by omega) : _ = aimS fs sn (PR (rowX S) fs sn pk e0 (e0 - (t + 1))) (g + 1) (gl fs sn pk g)), ← hA]; exact hc94
          have hGn := prG_s (T := (va_up (va_up S2 1 (S2 (309 + ((t + 1) * 3 + g)))) 1 (fun k => (va_up S2 1 (S2 (309 + ((t + 1) * 3 + g)))) 1 k || decide (k = gl fs sn pk g)))) he (by omega) (by omega) hI hG (fun i hi i1 k hk => by rw [va_up_ne (α := Nat → Bool) _ _ i1, va_up_ne (α := Nat → Bool) _ _ i1]) (fun k hk => by rw [va_up_self, va_up_self, aim_s (pk := pk) (by omega), hZ k hk, hA2, Bool.and_true]) hS9
          have h9 := hl
          rw [m1_add] at h9
          exact ih61 (g, S9, ls, H1, locs1, f20) ⟨by (try dsimp only); omega, hGn, hP, lo_weak h9 ⟨rfl, rfl, rfl, trivial⟩, hM⟩ (by show (g) < g + 1; omega)
  · have hg9 : g < 3 := nI_ltN (by omega) (by omega) hc4
    refine lv_aload_n C.1 C.2.1 d_Pln_prune_7 rfl (lo_at hl 0 rfl) ?_
    refine lv_aload_n C.1 C.2.1 d_Pln_prune_8 rfl (lo_at hl 0 rfl) ?_
    refine pg_get C hE hM hP.1.1 hP.2.2.1.1 rfl in_Pln 11 (Nat.le_of_ble_eq_true rfl) tw_540 rfl rfl d_Pln_prune_9 ?_
    refine lv_iload_n C.1 C.2.1 d_Pln_prune_12 rfl (lo_at hl 1 rfl) ?_
    rw [h3]
    refine cg_callV C hE hM (k_Pln_at l G hP (e0) (g) (by omega) (by omega)) hP.1.1 hP.2.2.1.1 rfl tw_700 cy_Pln_at ⟨(Nat.le_of_ble_eq_true rfl), (Nat.le_of_ble_eq_true rfl)⟩ rfl hl.1 rfl (Nat.le_of_ble_eq_true rfl) ⟨Nat.zero_le _, Nat.zero_le _⟩ d_Pln_prune_13 (fun x9 f11 H1 locs1 hp hM => ?_)
    obtain ⟨rfl, h9⟩ := hp
    rw [h9] at hM
    clear h9
    refine W.eq (g2 := F0 m 16 ls [_]) rfl ?_
    obtain ⟨_, _, hc9, -⟩ := (hP.2.2.2.1 (309 + (e0 * 3 + g)) (show 309 + (e0 * 3 + g) < 762 by omega)).words
    refine cg_callV C hE hM (k_Cel_clear l G (ca (309 + (e0 * 3 + g))) _ (hP.1.2.2.1 (309 + (e0 * 3 + g)) (show 309 + (e0 * 3 + g) < 762 by omega)) (hP.2.2.2.1 (309 + (e0 * 3 + g)) (show 309 + (e0 * 3 + g) < 762 by omega))) (hP.1.2.2.1 (309 + (e0 * 3 + g)) (show 309 + (e0 * 3 + g) < 762 by omega)) hc9 rfl tw_704 cy_Cel_clear ⟨(Nat.le_of_ble_eq_true rfl), (Nat.le_of_ble_eq_true rfl)⟩ rfl hl.1 rfl (Nat.le_of_ble_eq_true rfl) ⟨Nat.zero_le _, Nat.zero_le _⟩ d_Pln_prune_16 (fun x9 f12 H1 locs1 hp hM => ?_)
    have hx9 := hp.1
    subst hx9
    have hP := hP.setc (show 309 + (e0 * 3 + g) < 762 by omega) hp.2
    clear hc9
    refine W.eq (g2 := F0 m 19 ls []) rfl ?_
    refine lo_iinc C hl d_Pln_prune_19 rfl rfl (fun ls hl => ?_)
    refine lv_goto (tgt := 2) C.1 C.2.1 d_Pln_prune_22 (by decide) ?_
    have hZn : ∀ i, i < 762 → ∀ k, k < 96 → (va_up S1 (309 + (e0 * 3 + g)) (fun _ => false)) i k = if 309 + (e0 * 3) ≤ i ∧ i < 309 + (e0 * 3) + (g + 1) then false else S i k := fun i hi k hk => by
      by_cases q : i = 309 + (e0 * 3 + g)
      · rw [q, va_up_self, if_pos (by omega)]
      · rw [va_up_ne _ _ q, hZ i hi k hk]
        by_cases q2 : 309 + e0 * 3 ≤ i ∧ i < 309 + e0 * 3 + g
        · rw [if_pos q2, if_pos (by omega)]
        · rw [if_neg q2, if_neg (by omega)]
    have h9 := hl
    rw [nI_pl] at h9
    exact ih2 (g + 1, _, ls, H1, locs1, f12) ⟨by (try dsimp only); omega, hZn, hP, lo_weak h9 ⟨rfl, rfl, trivial⟩, hM⟩ (by show 3 - (g + 1) < 3 - g; omega)
