/-! where a vehicle can be: the class's sets -/
theorem nbS_congr {X Y : Nat → Bool} (h : ∀ k, k < 96 → X k = Y k) {k : Nat} (hk : k < 96) : nbS X k = nbS Y k := by
  unfold nbS
  rw [h (k - 12) (by omega), h (k - 1) (by omega)]
  by_cases e : k + 12 < 96
  · rw [h (k + 12) e]
    by_cases e2 : k % 12 = 11
    · simp [e2]
    · rw [h (k + 1) (by omega)]
  · have e1 : decide (k + 12 < 96) = false := decide_eq_false e
    rw [e1]
    by_cases e2 : k % 12 = 11
    · simp [e2]
    · rw [h (k + 1) (by omega)]; simp
theorem stp_congr {X Y E E' B B' : Nat → Bool} (h : ∀ k, k < 96 → X k = Y k) (hE : ∀ k, k < 96 → E k = E' k) (hB : ∀ k, k < 96 → B k = B' k) {k : Nat} (hk : k < 96) : stp X E B k = stp Y E' B' k := by
  unfold stp
  rw [nbS_congr h hk, h k hk, hE k hk, hB k hk]
def chg (fs sn : Nat) (Y : Nat → Nat → Bool) (g k : Nat) : Bool :=
  if g = 0 then Y 0 k && !decide (k = fs) else if g = 1 then (Y 1 k || (decide (k = fs) && Y 0 fs)) && !decide (k = sn) else (Y 2 k || (decide (k = sn) && (Y 1 sn || (decide (sn = fs) && Y 0 fs))))
/-- where the vehicle can be at the time t, on the leg g -/
def FW (E B : Nat → Nat → Bool) (fs sn pk : Nat) : Nat → Nat → Nat → Bool
  | 0, g, k => decide (g = 0) && decide (k = pk)
  | t + 1, g, k => chg fs sn (fun g => stp (FW E B fs sn pk t g) (E (t + 1)) (B (t + 1))) g k
def chK (S : Nat → Nat → Bool) (t fs sn : Nat) : Nat → Nat → Nat → Bool
  | 0 => S
  | 1 => chL S t 0 fs
  | _ => chL (chL S t 0 fs) t 1 sn
theorem chL_congr {S T : Nat → Nat → Bool} (h : ∀ i, i < 762 → ∀ k, k < 96 → S i k = T i k) {t g q i k : Nat} (ht : t < 151) (hg : g < 2) (hq : q < 96) (hi : i < 762) (hk : k < 96) : chL S t g q i k = chL T t g q i k := by
  unfold chL
  rw [h i hi k hk, h (309 + (t * 3 + g)) (by omega) q hq]
theorem chK_row {S : Nat → Nat → Bool} {t fs sn g k : Nat} (hg : g < 3) : chK S t fs sn 2 (309 + (t * 3 + g)) k = chg fs sn (fun g => S (309 + (t * 3 + g))) g k := by
  show chL (chL S t 0 fs) t 1 sn (309 + (t * 3 + g)) k = _
  unfold chg
  rcases (show g = 0 ∨ g = 1 ∨ g = 2 by omega) with rfl | rfl | rfl
  · rw [if_pos rfl]
    unfold chL
    rw [if_neg (by omega), if_neg (by omega), if_pos rfl]
  · rw [if_neg (by decide), if_pos rfl]
    unfold chL
    rw [if_pos rfl, if_neg (by omega), if_pos rfl]
  · rw [if_neg (by decide), if_neg (by decide)]
    unfold chL
    rw [if_neg (by omega), if_pos rfl, if_neg (by omega), if_neg (by omega), if_neg (by omega), if_pos rfl]
theorem chK_out {S : Nat → Nat → Bool} {t fs sn i k : Nat} (h : i < 309 + t * 3 ∨ 309 + t * 3 + 3 ≤ i) : chK S t fs sn 2 i k = S i k := by
  show chL (chL S t 0 fs) t 1 sn i k = _
  unfold chL
  rw [if_neg (by omega), if_neg (by omega), if_neg (by omega), if_neg (by omega)]
/-- the rows up to t are marked -/
def rwI (S S0 : Nat → Nat → Bool) (fs sn pk t : Nat) : Prop := (∀ t' g k, t' < t → g < 3 → k < 96 → S (309 + (t' * 3 + g)) k = FW (fun t => S0 (3 + t)) (fun t => S0 (156 + t)) fs sn pk t' g k) ∧ ∀ i, i < 309 → i ≠ 2 → ∀ k, k < 96 → S i k = S0 i k
/-- .. and g legs of the row t are stepped on -/
def rwG (S S1 : Nat → Nat → Bool) (t g : Nat) : Prop := ∀ i, i < 762 → i ≠ 2 → ∀ k, k < 96 → S i k = if 309 + t * 3 ≤ i ∧ i < 309 + t * 3 + g then stp (S1 (i - 3)) (S1 (3 + t)) (S1 (156 + t)) k else S1 i k
theorem rwG_s {S S' S1 : Nat → Nat → Bool} {t g : Nat} (ht : 1 ≤ t) (ht2 : t < 151) (hg : g < 3) (h : rwG S S1 t g) (h' : stS S t g S') : rwG S' S1 t (g + 1) := by
  intro i hi h2 k hk
  rw [h' i hi h2 k hk]
  by_cases e : i = 309 + (t * 3 + g)
  · subst e
    rw [va_up_self, if_pos (by omega)]
    refine stp_congr (fun k hk => ?_) (fun k hk => ?_) (fun k hk => ?_) hk
    · rw [h _ (by omega) (by omega) k hk, if_neg (by omega), show 309 + ((t - 1) * 3 + g) = 309 + (t * 3 + g) - 3 by omega]
    · rw [h _ (by omega) (by omega) k hk, if_neg (by omega)]
    · rw [h _ (by omega) (by omega) k hk, if_neg (by omega)]
  · rw [va_up_ne (α := Nat → Bool) _ _ e, h i hi h2 k hk]
    by_cases q : 309 + t * 3 ≤ i ∧ i < 309 + t * 3 + g
    · rw [if_pos q, if_pos (by omega)]
    · rw [if_neg q, if_neg (by omega)]
/-- the row t is done -/
theorem rw_s {S1 S2 S3 S0 : Nat → Nat → Bool} {fs sn pk t : Nat} (ht : 1 ≤ t) (ht2 : t < 151) (hfs : fs < 96) (hsn : sn < 96) (h1 : rwI S1 S0 fs sn pk t) (h2 : rwG S2 S1 t 3) (h3 : ∀ i, i < 762 → ∀ k, k < 96 → S3 i k = chK S2 t fs sn 2 i k) : rwI S3 S0 fs sn pk (t + 1) := by
  refine ⟨fun t' g k ht' hg hk => ?_, fun i hi hi2 k hk => ?_⟩
  · rw [h3 _ (by omega) k hk]
    by_cases e : t' = t
    · subst e
      rw [chK_row hg]
      obtain ⟨s, rfl⟩ : ∃ s, t' = s + 1 := ⟨t' - 1, by omega⟩
      rw [FW]
      have key : ∀ g k, g < 3 → k < 96 → S2 (309 + ((s + 1) * 3 + g)) k = stp (FW (fun t => S0 (3 + t)) (fun t => S0 (156 + t)) fs sn pk s g) (S0 (3 + (s + 1))) (S0 (156 + (s + 1))) k := by
        intro g k hg hk
        rw [h2 _ (by omega) (by omega) k hk, if_pos (by omega)]
        refine stp_congr (fun k hk => ?_) (fun k hk => ?_) (fun k hk => ?_) hk
        · rw [show 309 + ((s + 1) * 3 + g) - 3 = 309 + (s * 3 + g) by omega]
          exact h1.1 s g k (by omega) hg hk
        · exact h1.2 _ (by omega) (by omega) k hk
        · exact h1.2 _ (by omega) (by omega) k hk
      unfold chg
      dsimp only
      rw [key 0 k (by decide) hk, key 0 fs (by decide) hfs, key 1 k (by decide) hk, key 1 sn (by decide) hsn, key 2 k (by decide) hk]
    · rw [chK_out (by omega), h2 _ (by omega) (by omega) k hk, if_neg (by omega)]
      exact h1.1 t' g k (by omega) hg hk
  · rw [h3 _ (by omega) k hk, chK_out (by omega), h2 _ (by omega) hi2 k hk, if_neg (by omega)]
    exact h1.2 i hi hi2 k hk
set_option maxHeartbeats 4000000 in
set_option maxRecDepth 100000 in
theorem k_Pln_spread (l : Launch) (G : GG) {P : List Nat} {f : Nat → va_E} {pl va : Nat} {da ca : Nat → Nat} {f0 : Nat → va_E} {S : Nat → Nat → Bool} {Wy F : Nat → Int32} (hP : pS G pl va da ca P f0 f S Wy F) (fs sn pk : Nat) (hfs : fs < 96) (hsn : sn < 96) (hpk : pk < 96) (h0 : F 0 = nI fs) (h1 : F 1 = nI sn) (h2 : F 2 = nI pk)  : ct0 l G y_Pln_spread c_Pln_spread 3 (some .int) 3 70 [.ref pl] P f (fun x f1 => (x = some (.int (-1)) ∧ (∀ e, 1 ≤ e → e ≤ 150 → FW (fun t => S (3 + t)) (fun t => S (156 + t)) fs sn pk e 2 pk = false) ∧ ∃ S', (∀ i, i < 309 → i ≠ 2 → ∀ k, k < 96 → S' i k = S i k) ∧ pS G pl va da ca P f0 f1 S' Wy F) ∨ ∃ e : Nat, 1 ≤ e ∧ e ≤ 150 ∧ x = some (.int (nI e)) ∧ FW (fun t => S (3 + t)) (fun t => S (156 + t)) fs sn pk e 2 pk = true ∧ (∀ e2, 1 ≤ e2 → e2 < e → FW (fun t => S (3 + t)) (fun t => S (156 + t)) fs sn pk e2 2 pk = false) ∧ ∃ S', rwI S' S fs sn pk (e + 1) ∧ pS G pl va da ca P f0 f1 S' Wy F) := by
  refine ct_intro (by decide) [some (.ref pl), none, none] rfl rfl (Nat.le_of_ble_eq_true rfl) ?_
  intro p e s m below meth c ls C hr hlk hnm hE hM hl
  refine lv_iconst (v := 0) C.1 C.2.1 d_Pln_spread_0 (by decide) ?_
  refine lo_istore_n C hl d_Pln_spread_1 (Nat.le_of_ble_eq_true rfl) rfl (fun ls hl => ?_)
  refine W.loop (α := (Nat) × (Nat → Nat → Bool) × (Array Slot) × (Heap) × (List Loc) × (Nat → va_E)) (fun zz => 3 - zz.1) (fun zz => (zz.1 ≤ 3) ∧ ((∀ j, j < zz.1 → ∀ k, k < 96 → zz.2.1 (309 + j) k = false) ∧ ∀ i, i < 309 → ∀ k, k < 96 → zz.2.1 i k = S i k) ∧ (pS G pl va da ca P f0 zz.2.2.2.2.2 zz.2.1 Wy F) ∧ lo zz.2.2.1 [some (.ref pl), some (.int (nI zz.1)), none] ∧ pgS G (pgA P s.heap.size) s.heap P zz.2.2.2.2.2 zz.2.2.2.1 zz.2.2.2.2.1) (fun zz => zz.2.2.2.1) (fun zz => zz.2.2.2.2.1) (fun zz => 0) (fun zz => 0) (fun zz => F0 m 2 zz.2.2.1 []) ?_ (0, S, ls, s.heap, [], f) ⟨Nat.zero_le _, ⟨fun j h => absurd h (Nat.not_lt_zero _), fun _ _ _ _ => rfl⟩, hP, lo_weak hl ⟨rfl, rfl, trivial⟩, hM⟩
  rintro ⟨g, S1, ls, H1, locs1, f1⟩ ⟨hg, hZ, hP, hl, hM⟩ ih2
  dsimp only at hg hZ hP hl hM
  show W _ _ _ _ _ _ _ _ _ _ _ _ _ _ _ (F0 m 2 ls [])
  refine lv_iload_n C.1 C.2.1 d_Pln_spread_2 rfl (lo_at hl 1 rfl) ?_
  refine lv_iconst (v := 3) C.1 C.2.1 d_Pln_spread_3 (by decide) ?_
  rw [show (3 : Int32) = nI 3 from rfl]
  refine lv_icmp_ge (tgt := 22) C.1 C.2.1 d_Pln_spread_4 (by decide) (fun hc4 => ?_) (fun hc4 => ?_)
  · have hg9 : g = 3 := Nat.le_antisymm hg (nI_leN (by omega) (by omega) hc4)
    refine lv_aload_n C.1 C.2.1 d_Pln_spread_22 rfl (lo_at hl 0 rfl) ?_
    refine lv_iconst (v := 0) C.1 C.2.1 d_Pln_spread_23 (by decide) ?_
    refine lv_iconst (v := 0) C.1 C.2.1 d_Pln_spread_24 (by decide) ?_
    rw [show (0 : Int32) = nI 0 from rfl]
    refine cg_callV C hE hM (k_Pln_at l G hP (0) (0) (by omega) (by omega)) hP.1.1 hP.2.2.1.1 rfl tw_700 cy_Pln_at ⟨(Nat.le_of_ble_eq_true rfl), (Nat.le_of_ble_eq_true rfl)⟩ rfl hl.1 rfl (Nat.le_of_ble_eq_true rfl) ⟨Nat.zero_le _, Nat.zero_le _⟩ d_Pln_spread_25 (fun x9 f11 H1 locs1 hp hM => ?_)
    obtain ⟨rfl, h9⟩ := hp
    rw [h9] at hM
    clear h9
    refine W.eq (g2 := F0 m 28 ls [_]) rfl ?_
    refine lv_aload_n C.1 C.2.1 d_Pln_spread_28 rfl (lo_at hl 0 rfl) ?_
    refine pg_get C hE hM hP.1.1 hP.2.2.1.1 rfl in_Pln 10 (Nat.le_of_ble_eq_true rfl) tw_539 rfl rfl d_Pln_spread_29 ?_
    rw [h2]
    obtain ⟨_, _, hc9, -⟩ := (hP.2.2.2.1 (309 + (0 * 3 + 0)) (show 309 + (0 * 3 + 0) < 762 by omega)).words
    refine cg_callV C hE hM (k_Cel_put l G (ca (309 + (0 * 3 + 0))) _ (hP.1.2.2.1 (309 + (0 * 3 + 0)) (show 309 + (0 * 3 + 0) < 762 by omega)) (hP.2.2.2.1 (309 + (0 * 3 + 0)) (show 309 + (0 * 3 + 0) < 762 by omega)) pk hpk) (hP.1.2.2.1 (309 + (0 * 3 + 0)) (show 309 + (0 * 3 + 0) < 762 by omega)) hc9 rfl tw_676 cy_Cel_put ⟨(Nat.le_of_ble_eq_true rfl), (Nat.le_of_ble_eq_true rfl)⟩ rfl hl.1 rfl (Nat.le_of_ble_eq_true rfl) ⟨Nat.zero_le _, Nat.zero_le _⟩ d_Pln_spread_32 (fun x9 f12 H1 locs1 hp hM => ?_)
    have hx9 := hp.1
    subst hx9
    have hP := hP.setc (show 309 + (0 * 3 + 0) < 762 by omega) hp.2
    clear hc9
    have hI0 : rwI (va_up S1 (309 + (0 * 3 + 0)) (fun k => S1 (309 + (0 * 3 + 0)) k || decide (k = pk))) S fs sn pk 1 := by
      refine ⟨fun t' g0 k a1 a2 hk => ?_, fun i hi _ k hk => ?_⟩
      · rw [show t' = 0 by omega, FW]
        by_cases e : g0 = 0
        · rw [e, va_up_self, show 309 + (0 * 3 + 0) = 309 + 0 from rfl, hZ.1 0 (by omega) k hk]; simp
        · rw [va_up_ne _ _ (by omega), show 309 + (0 * 3 + g0) = 309 + g0 by omega, hZ.1 g0 (by omega) k hk]; simp [e]
      · rw [va_up_ne _ _ (by omega)]; exact hZ.2 i hi k hk
    refine W.eq (g2 := F0 m 35 ls []) rfl ?_
    refine lv_iconst (v := 1) C.1 C.2.1 d_Pln_spread_35 (by decide) ?_
    refine lo_istore_n C hl d_Pln_spread_36 (Nat.le_of_ble_eq_true rfl) rfl (fun ls hl => ?_)
    refine W.loop (α := (Nat) × (Nat → Nat → Bool) × (Array Slot) × (Heap) × (List Loc) × (Nat → va_E)) (fun zz => 151 - zz.1) (fun zz => (1 ≤ zz.1) ∧ (zz.1 ≤ 151) ∧ (rwI zz.2.1 S fs sn pk zz.1) ∧ (∀ e, 1 ≤ e → e < zz.1 → FW (fun t => S (3 + t)) (fun t => S (156 + t)) fs sn pk e 2 pk = false) ∧ (pS G pl va da ca P f0 zz.2.2.2.2.2 zz.2.1 Wy F) ∧ lo zz.2.2.1 [some (.ref pl), some (.int (nI zz.1)), none] ∧ pgS G (pgA P s.heap.size) s.heap P zz.2.2.2.2.2 zz.2.2.2.1 zz.2.2.2.2.1) (fun zz => zz.2.2.2.1) (fun zz => zz.2.2.2.2.1) (fun zz => 0) (fun zz => 0) (fun zz => F0 m 37 zz.2.2.1 []) ?_ (1, _, ls, H1, locs1, f12) ⟨Nat.le_refl _, by (try dsimp only); omega, hI0, fun e a1 a2 => absurd a1 (by omega), hP, lo_weak hl ⟨rfl, rfl, trivial⟩, hM⟩
    rintro ⟨t, S1, ls, H1, locs1, f1⟩ ⟨h1t, ht, hI, hno, hP, hl, hM⟩ ih37
    dsimp only at h1t ht hI hno hP hl hM
    show W _ _ _ _ _ _ _ _ _ _ _ _ _ _ _ (F0 m 37 ls [])
    refine lv_iload_n C.1 C.2.1 d_Pln_spread_37 rfl (lo_at hl 1 rfl) ?_
    refine lv_sipush (v := 150) C.1 C.2.1 d_Pln_spread_38 (by decide) ?_
    rw [show (150 : Int32) = nI 150 from rfl]
    refine lv_icmp_gt (tgt := 106) C.1 C.2.1 d_Pln_spread_41 (by decide) (fun hc41 => ?_) (fun hc41 => ?_)
    · refine lv_iconst (v := (-1)) C.1 C.2.1 d_Pln_spread_106 (by decide) ?_
      refine cg_iret C hr hlk hM d_Pln_spread_107 ?_
      refine Or.inl ⟨rfl, fun e a1 a2 => hno e a1 ?_, _, hI.2, hP⟩
      have : 150 < t := (nI_ltI (by omega) (by omega)).mp hc41
      omega
    · have ht9 : t ≤ 150 := Nat.le_of_not_lt (fun z => hc41 ((nI_ltI (by omega) (by omega)).mpr z))
      refine lv_iconst (v := 0) C.1 C.2.1 d_Pln_spread_44 (by decide) ?_
      refine lo_istore_n C hl d_Pln_spread_45 (Nat.le_of_ble_eq_true rfl) rfl (fun ls hl => ?_)
      refine W.loop (α := (Nat) × (Nat → Nat → Bool) × (Array Slot) × (Heap) × (List Loc) × (Nat → va_E)) (fun zz => 3 - zz.1) (fun zz => (zz.1 ≤ 3) ∧ (rwG zz.2.1 S1 t zz.1) ∧ (pS G pl va da ca P f0 zz.2.2.2.2.2 zz.2.1 Wy F) ∧ lo zz.2.2.1 [some (.ref pl), some (.int (nI t)), some (.int (nI zz.1))] ∧ pgS G (pgA P s.heap.size) s.heap P zz.2.2.2.2.2 zz.2.2.2.1 zz.2.2.2.2.1) (fun zz => zz.2.2.2.1) (fun zz => zz.2.2.2.2.1) (fun zz => 0) (fun zz => 0) (fun zz => F0 m 46 zz.2.2.1 []) ?_ (0, S1, ls, H1, locs1, f1) ⟨Nat.zero_le _, fun i _ _ k _ => by rw [if_neg (by omega)], hP, lo_weak hl ⟨rfl, rfl, rfl, trivial⟩, hM⟩
      rintro ⟨g, S2, ls, H1, locs1, f1⟩ ⟨hg, hG, hP, hl, hM⟩ ih46
      dsimp only at hg hG hP hl hM
      show W _ _ _ _ _ _ _ _ _ _ _ _ _ _ _ (F0 m 46 ls [])
      refine lv_iload_n C.1 C.2.1 d_Pln_spread_46 rfl (lo_at hl 2 rfl) ?_
      refine lv_iconst (v := 3) C.1 C.2.1 d_Pln_spread_47 (by decide) ?_
      rw [show (3 : Int32) = nI 3 from rfl]
      refine lv_icmp_ge (tgt := 63) C.1 C.2.1 d_Pln_spread_48 (by decide) (fun hc48 => ?_) (fun hc48 => ?_)
      · have hg9 : g = 3 := Nat.le_antisymm hg (nI_leN (by omega) (by omega) hc48)
        rw [hg9] at hG
        refine lv_iconst (v := 0) C.1 C.2.1 d_Pln_spread_63 (by decide) ?_
        refine lo_istore_n C hl d_Pln_spread_64 (Nat.le_of_ble_eq_true rfl) rfl (fun ls hl => ?_)
        refine W.loop (α := (Nat) × (Nat → Nat → Bool) × (Array Slot) × (Heap) × (List Loc) × (Nat → va_E)) (fun zz => 2 - zz.1) (fun zz => (zz.1 ≤ 2) ∧ (∀ i, i < 762 → ∀ k, k < 96 → zz.2.1 i k = chK S2 t fs sn zz.1 i k) ∧ (pS G pl va da ca P f0 zz.2.2.2.2.2 zz.2.1 Wy F) ∧ lo zz.2.2.1 [some (.ref pl), some (.int (nI t)), some (.int (nI zz.1))] ∧ pgS G (pgA P s.heap.size) s.heap P zz.2.2.2.2.2 zz.2.2.2.1 zz.2.2.2.2.1) (fun zz => zz.2.2.2.1) (fun zz => zz.2.2.2.2.1) (fun zz => 0) (fun zz => 0) (fun zz => F0 m 65 zz.2.2.1 []) ?_ (0, S2, ls, H1, locs1, f1) ⟨Nat.zero_le _, fun i _ k _ => rfl, hP, lo_weak hl ⟨rfl, rfl, rfl, trivial⟩, hM⟩
        rintro ⟨g, S3, ls, H1, locs1, f1⟩ ⟨hg, hK, hP, hl, hM⟩ ih65
        dsimp only at hg hK hP hl hM
        show W _ _ _ _ _ _ _ _ _ _ _ _ _ _ _ (F0 m 65 ls [])
        refine lv_iload_n C.1 C.2.1 d_Pln_spread_65 rfl (lo_at hl 2 rfl) ?_
        refine lv_iconst (v := 2) C.1 C.2.1 d_Pln_spread_66 (by decide) ?_
        rw [show (2 : Int32) = nI 2 from rfl]
        refine lv_icmp_ge (tgt := 82) C.1 C.2.1 d_Pln_spread_67 (by decide) (fun hc67 => ?_) (fun hc67 => ?_)
        · have hg9 : g = 2 := Nat.le_antisymm hg (nI_leN (by omega) (by omega) hc67)
          rw [hg9] at hK
          have hIn := rw_s h1t (by omega) hfs hsn hI hG hK
          refine lv_aload_n C.1 C.2.1 d_Pln_spread_82 rfl (lo_at hl 0 rfl) ?_
          refine lv_iload_n C.1 C.2.1 d_Pln_spread_83 rfl (lo_at hl 1 rfl) ?_
          refine lv_iconst (v := 2) C.1 C.2.1 d_Pln_spread_84 (by decide) ?_
          rw [show (2 : Int32) = nI 2 from rfl]
          refine cg_callV C hE hM (k_Pln_at l G hP (t) (2) (by omega) (by omega)) hP.1.1 hP.2.2.1.1 rfl tw_700 cy_Pln_at ⟨(Nat.le_of_ble_eq_true rfl), (Nat.le_of_ble_eq_true rfl)⟩ rfl hl.1 rfl (Nat.le_of_ble_eq_true rfl) ⟨Nat.zero_le _, Nat.zero_le _⟩ d_Pln_spread_85 (fun x9 f13 H1 locs1 hp hM => ?_)
          obtain ⟨rfl, h9⟩ := hp
          rw [h9] at hM
          clear h9
          refine W.eq (g2 := F0 m 88 ls [_]) rfl ?_
          refine lv_aload_n C.1 C.2.1 d_Pln_spread_88 rfl (lo_at hl 0 rfl) ?_
          refine pg_get C hE hM hP.1.1 hP.2.2.1.1 rfl in_Pln 10 (Nat.le_of_ble_eq_true rfl) tw_539 rfl rfl d_Pln_spread_89 ?_
          rw [h2]
          obtain ⟨_, _, hc9, -⟩ := (hP.2.2.2.1 (309 + (t * 3 + 2)) (show 309 + (t * 3 + 2) < 762 by omega)).words
          refine cg_callV C hE hM (k_Cel_has l G (ca (309 + (t * 3 + 2))) _ (hP.1.2.2.1 (309 + (t * 3 + 2)) (show 309 + (t * 3 + 2) < 762 by omega)) (hP.2.2.2.1 (309 + (t * 3 + 2)) (show 309 + (t * 3 + 2) < 762 by omega)) pk hpk) (hP.1.2.2.1 (309 + (t * 3 + 2)) (show 309 + (t * 3 + 2) < 762 by omega)) hc9 rfl tw_722 cy_Cel_has ⟨(Nat.le_of_ble_eq_true rfl), (Nat.le_of_ble_eq_true rfl)⟩ rfl hl.1 rfl (Nat.le_of_ble_eq_true rfl) ⟨Nat.zero_le _, Nat.zero_le _⟩ d_Pln_spread_92 (fun x9 f14 H1 locs1 hp hM => ?_)
          obtain ⟨rfl, h9⟩ := hp
          rw [h9] at hM
          clear h9
          clear hc9
          refine W.eq (g2 := F0 m 95 ls [_]) rfl ?_
          refine lv_if_eq (tgt := 100) C.1 C.2.1 d_Pln_spread_95 (by decide) (fun hc95 => ?_) (fun hc95 => ?_)
          · replace hc95 := bz_0.mp hc95
            refine lo_iinc C hl d_Pln_spread_100 rfl rfl (fun ls hl => ?_)
            refine lv_goto (tgt := 37) C.1 C.2.1 d_Pln_spread_103 (by decide) ?_
            have hnn : ∀ e, 1 ≤ e → e < t + 1 → FW (fun t => S (3 + t)) (fun t => S (156 + t)) fs sn pk e 2 pk = false := fun e a1 a2 => by
              by_cases q : e = t
              · rw [q, ← hIn.1 t 2 pk (by omega) (by decide) hpk]
                simpa using hc95
              · exact hno e a1 (by omega)
            have h9 := hl
            rw [nI_pl] at h9
            exact ih37 (t + 1, _, ls, H1, locs1, f1) ⟨by (try dsimp only); omega, by (try dsimp only); omega, hIn, hnn, hP, lo_weak h9 ⟨rfl, rfl, trivial⟩, hM⟩ (by show 151 - (t + 1) < 151 - t; omega)
          · replace hc95 := bz_1.mp hc95
            refine lv_iload_n C.1 C.2.1 d_Pln_spread_98 rfl (lo_at hl 1 rfl) ?_
            refine cg_iret C hr hlk hM d_Pln_spread_99 ?_
            refine Or.inr ⟨t, h1t, ht9, rfl, ?_, hno, _, hIn, hP⟩
            rw [← hIn.1 t 2 pk (by omega) (by decide) hpk]
            exact hc95
        · have hg9 : g < 2 := nI_ltN (by omega) (by omega) hc67
          refine lv_aload_n C.1 C.2.1 d_Pln_spread_70 rfl (lo_at hl 0 rfl) ?_
          refine lv_iload_n C.1 C.2.1 d_Pln_spread_71 rfl (lo_at hl 1 rfl) ?_
          refine lv_iload_n C.1 C.2.1 d_Pln_spread_72 rfl (lo_at hl 2 rfl) ?_
          refine cg_callV C hE hM (k_Pln_changeLeg l G hP t g (if g = 0 then fs else sn) (by omega) (by omega) (by unfold glI; rcases (show g = 0 ∨ g = 1 by omega) with h | h <;> rw [h] <;> first | exact h0 | exact h1) (by split <;> omega)) hP.1.1 hP.2.2.1.1 rfl tw_714 cy_Pln_changeLeg ⟨(Nat.le_of_ble_eq_true rfl), (Nat.le_of_ble_eq_true rfl)⟩ rfl hl.1 rfl (Nat.le_of_ble_eq_true rfl) ⟨Nat.zero_le _, Nat.zero_le _⟩ d_Pln_spread_73 (fun x9 f13 H1 locs1 hp hM => ?_)
          obtain ⟨hx9, S9, hS9, hP⟩ := hp
          subst hx9
          refine W.eq (g2 := F0 m 76 ls []) rfl ?_
          refine lo_iinc C hl d_Pln_spread_76 rfl rfl (fun ls hl => ?_)
          refine lv_goto (tgt := 65) C.1 C.2.1 d_Pln_spread_79 (by decide) ?_
          have hKn : ∀ i, i < 762 → ∀ k, k < 96 → S9 i k = chK S2 t fs sn (g + 1) i k := fun i hi k hk => by
            rw [hS9 i hi k hk, chL_congr hK (by omega) hg9 (by split <;> omega) hi hk]
            rcases (show g = 0 ∨ g = 1 by omega) with h | h <;> subst h <;> rfl
          have h9 := hl
          rw [nI_pl] at h9
          exact ih65 (g + 1, S9, ls, H1, locs1, f13) ⟨by (try dsimp only); omega, hKn, hP, lo_weak h9 ⟨rfl, rfl, rfl, trivial⟩, hM⟩ (by show 2 - (g + 1) < 2 - g; omega)
      · have hg9 : g < 3 := nI_ltN (by omega) (by omega) hc48
        refine lv_aload_n C.1 C.2.1 d_Pln_spread_51 rfl (lo_at hl 0 rfl) ?_
        refine lv_iload_n C.1 C.2.1 d_Pln_spread_52 rfl (lo_at hl 1 rfl) ?_
        refine lv_iload_n C.1 C.2.1 d_Pln_spread_53 rfl (lo_at hl 2 rfl) ?_
        refine cg_callV C hE hM (k_Pln_stepOn l G hP t g (by omega) (by omega) (by omega)) hP.1.1 hP.2.2.1.1 rfl tw_708 cy_Pln_stepOn ⟨(Nat.le_of_ble_eq_true rfl), (Nat.le_of_ble_eq_true rfl)⟩ rfl hl.1 rfl (Nat.le_of_ble_eq_true rfl) ⟨Nat.zero_le _, Nat.zero_le _⟩ d_Pln_spread_54 (fun x9 f13 H1 locs1 hp hM => ?_)
        obtain ⟨hx9, S9, hS9, hP⟩ := hp
        subst hx9
        refine W.eq (g2 := F0 m 57 ls []) rfl ?_
        refine lo_iinc C hl d_Pln_spread_57 rfl rfl (fun ls hl => ?_)
        refine lv_goto (tgt := 46) C.1 C.2.1 d_Pln_spread_60 (by decide) ?_
        have h9 := hl
        rw [nI_pl] at h9
        exact ih46 (g + 1, S9, ls, H1, locs1, f13) ⟨by (try dsimp only); omega, rwG_s h1t (by omega) hg9 hG hS9, hP, lo_weak h9 ⟨rfl, rfl, rfl, trivial⟩, hM⟩ (by show 3 - (g + 1) < 3 - g; omega)
  · have hg9 : g < 3 := nI_ltN (by omega) (by omega) hc4
    refine lv_aload_n C.1 C.2.1 d_Pln_spread_7 rfl (lo_at hl 0 rfl) ?_
    refine lv_iconst (v := 0) C.1 C.2.1 d_Pln_spread_8 (by decide) ?_
    refine lv_iload_n C.1 C.2.1 d_Pln_spread_9 rfl (lo_at hl 1 rfl) ?_
    rw [show (0 : Int32) = nI 0 from rfl]
    refine cg_callV C hE hM (k_Pln_at l G hP (0) (g) (by omega) (by omega)) hP.1.1 hP.2.2.1.1 rfl tw_700 cy_Pln_at ⟨(Nat.le_of_ble_eq_true rfl), (Nat.le_of_ble_eq_true rfl)⟩ rfl hl.1 rfl (Nat.le_of_ble_eq_true rfl) ⟨Nat.zero_le _, Nat.zero_le _⟩ d_Pln_spread_10 (fun x9 f11 H1 locs1 hp hM => ?_)
    obtain ⟨rfl, h9⟩ := hp
    rw [h9] at hM
    clear h9
    refine W.eq (g2 := F0 m 13 ls [_]) rfl ?_
    obtain ⟨_, _, hc9, -⟩ := (hP.2.2.2.1 (309 + (0 * 3 + g)) (show 309 + (0 * 3 + g) < 762 by omega)).words
    refine cg_callV C hE hM (k_Cel_clear l G (ca (309 + (0 * 3 + g))) _ (hP.1.2.2.1 (309 + (0 * 3 + g)) (show 309 + (0 * 3 + g) < 762 by omega)) (hP.2.2.2.1 (309 + (0 * 3 + g)) (show 309 + (0 * 3 + g) < 762 by omega))) (hP.1.2.2.1 (309 + (0 * 3 + g)) (show 309 + (0 * 3 + g) < 762 by omega)) hc9 rfl tw_704 cy_Cel_clear ⟨(Nat.le_of_ble_eq_true rfl), (Nat.le_of_ble_eq_true rfl)⟩ rfl hl.1 rfl (Nat.le_of_ble_eq_true rfl) ⟨Nat.zero_le _, Nat.zero_le _⟩ d_Pln_spread_13 (fun x9 f12 H1 locs1 hp hM => ?_)
    have hx9 := hp.1
    subst hx9
    have hP := hP.setc (show 309 + (0 * 3 + g) < 762 by omega) hp.2
    clear hc9
    refine W.eq (g2 := F0 m 16 ls []) rfl ?_
    refine lo_iinc C hl d_Pln_spread_16 rfl rfl (fun ls hl => ?_)
    refine lv_goto (tgt := 2) C.1 C.2.1 d_Pln_spread_19 (by decide) ?_
    have hZn : (∀ j, j < g + 1 → ∀ k, k < 96 → (va_up S1 (309 + (0 * 3 + g)) (fun _ => false)) (309 + j) k = false) ∧ ∀ i, i < 309 → ∀ k, k < 96 → (va_up S1 (309 + (0 * 3 + g)) (fun _ => false)) i k = S i k := by
      refine ⟨fun j hj k hk => ?_, fun i hi k hk => ?_⟩
      · by_cases e : j = g
        · rw [e, show 309 + (0 * 3 + g) = 309 + g by omega, va_up_self]
        · rw [va_up_ne _ _ (by omega)]; exact hZ.1 j (by omega) k hk
      · rw [va_up_ne _ _ (by omega)]; exact hZ.2 i hi k hk
    have h9 := hl
    rw [nI_pl] at h9
    exact ih2 (g + 1, _, ls, H1, locs1, f12) ⟨by (try dsimp only); omega, hZn, hP, lo_weak h9 ⟨rfl, rfl, trivial⟩, hM⟩ (by show 3 - (g + 1) < 3 - g; omega)
