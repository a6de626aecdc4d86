/-! where others are: laid out -/
theorem pS.arr {G : GG} {pl va : Nat} {d c : Nat → Nat} {P : List Nat} {f0 f : Nat → va_E} {S S0 : Nat → Nat → Bool} {Wy F W0 F0 : Nat → Int32} (h : pS G pl va d c P f0 f S Wy F) (h0 : pS G pl va d c P f0 f0 S0 W0 F0) {y t n : Nat} {g : Nat → Option Nat} (hy : f0 y = arR G t n g) : f y = arR G t n g := by
  refine (h.2.2.2.2 y (ar_ne hy h0.2.2.1.1) (fun z => ?_) (fun i hi => (h0.2.2.2.1 i hi).ne hy)).trans hy
  rw [z, h0.2.2.1.2.2.2.2] at hy
  have := congrArg (fun q => q.2.2) (Sum.inl.inj hy)
  cases this
/-- all vehicles, with their moves -/
def vOne (G : GG) (P : List Nat) (f : Nat → va_E) (a pk mv cap n : Nat) (ga cc tt : Nat → Nat) : Prop :=
  a ∈ P ∧ (∃ num made alw knw grt lat fin jm : Int32, f a = .inr (8, [.int num, .int (nI pk), .ref mv, .int made, .int alw, .int knw, .int grt, .int lat, .int fin, .int jm])) ∧ lsS G P f mv cap n ga ∧ ∀ i, i < n → ga i ∈ P ∧ f (ga i) = .inr (6, [.int (nI (cc i)), .int (nI (tt i))])
def vPure (n pk cl : Nat) (cc tt nq : Nat → Nat) : Prop := n < 60000 ∧ (∀ i, i < n → tt i < 1000000) ∧ (∀ k, k ≤ n → cel pk cc k < 96) ∧ inc n tt ∧ tOk n cl tt nq ∧ cel pk cc n = pk
theorem vOne.pl {G : GG} {pl va : Nat} {d c : Nat → Nat} {P : List Nat} {f0 f : Nat → va_E} {S S0 : Nat → Nat → Bool} {Wy F W0 F0 : Nat → Int32} (h : pS G pl va d c P f0 f S Wy F) (h0 : pS G pl va d c P f0 f0 S0 W0 F0) {a pk mv cap n : Nat} {ga cc tt : Nat → Nat} (hv : vOne G P f0 a pk mv cap n ga cc tt) : vOne G P f a pk mv cap n ga cc tt := by
  obtain ⟨h1, ⟨x1, x2, x3, x4, x5, x6, x7, x8, h2⟩, h3, h4⟩ := hv
  exact ⟨h1, ⟨x1, x2, x3, x4, x5, x6, x7, x8, h.oth h0 h2 (by decide) (by decide)⟩, h.lst h0 h3, fun i hi => ⟨(h4 i hi).1, h.oth h0 (h4 i hi).2 (by decide) (by decide)⟩⟩
def loB (S1 S : Nat → Nat → Bool) (pk t : Nat) : Prop := (∀ s k, s < t → k < 96 → S1 (3 + s) k = (S 0 k || decide (k = pk)) ∧ S1 (156 + s) k = (S 0 k || decide (k = pk))) ∧ ∀ i k, i < 762 → (i < 3 ∨ 309 ≤ i) → k < 96 → S1 i k = S i k
theorem loB_s {S1 S : Nat → Nat → Bool} {pk t : Nat} (h : loB S1 S pk t) (ht : t < 153) {S2 : Nat → Nat → Bool} (h2 : ∀ i, i < 762 → ∀ k, k < 96 → S2 i k = if i = 3 + t ∨ i = 156 + t then (S1 0 k || decide (k = pk)) else S1 i k) : loB S2 S pk (t + 1) := by
  refine ⟨fun s k hs hk => ?_, fun i k hi hi2 hk => ?_⟩
  · rw [h2 _ (by omega) k hk, h2 _ (by omega) k hk]
    by_cases e : s = t
    · rw [if_pos (by omega), if_pos (by omega), h.2 0 k (by omega) (by omega) hk]
      exact ⟨rfl, rfl⟩
    · rw [if_neg (by omega), if_neg (by omega)]
      exact h.1 s k (by omega) hk
  · rw [h2 i hi k hk, if_neg (by omega)]
    exact h.2 i k hi hi2 hk
/-- of the vehicles before u, w apart, nobody is met -/
def loV (S1 S : Nat → Nat → Bool) (w : Nat) (pk : Nat → Nat) (cc nq : Nat → Nat → Nat) (u : Nat) : Prop :=
  (∀ s k, 1 ≤ s → s ≤ 150 → k < 96 → (S1 (3 + s) k = true ↔ ((S 0 k = true ∨ k = pk w) ∧ ∀ x, x < u → x ≠ w → ¬ k = heX (pk x) (cc x) (nq x) s ∧ ¬ k = heX (pk x) (cc x) (nq x) (s - 1)))) ∧
  (∀ s k, 1 ≤ s → s ≤ 150 → k < 96 → (S1 (156 + s) k = true ↔ ((S 0 k = true ∨ k = pk w) ∧ ∀ x, x < u → x ≠ w → ¬ (nq x (s + 1) ≠ nq x s ∧ k = heX (pk x) (cc x) (nq x) s) ∧ ¬ (nq x (s + 2) ≠ nq x (s + 1) ∧ k = heX (pk x) (cc x) (nq x) (s + 1))))) ∧
  ∀ i k, i < 762 → (i < 3 ∨ 309 ≤ i) → k < 96 → S1 i k = S i k
theorem loV_0 {S1 S : Nat → Nat → Bool} {w : Nat} {pk : Nat → Nat} {cc nq : Nat → Nat → Nat} (h : loB S1 S (pk w) 153) : loV S1 S w pk cc nq 0 := by
  refine ⟨fun s k h1 h2 hk => ?_, fun s k h1 h2 hk => ?_, h.2⟩
  · rw [(h.1 s k (by omega) hk).1]
    simp
  · rw [(h.1 s k (by omega) hk).2]
    simp
theorem loV_w {S1 S : Nat → Nat → Bool} {w : Nat} {pk : Nat → Nat} {cc nq : Nat → Nat → Nat} (h : loV S1 S w pk cc nq w) : loV S1 S w pk cc nq (w + 1) := by
  have key : ∀ {p : Nat → Prop}, (∀ x, x < w → x ≠ w → p x) ↔ (∀ x, x < w + 1 → x ≠ w → p x) := by
    intro p
    exact ⟨fun h x h1 h2 => h x (by omega) h2, fun h x h1 h2 => h x (by omega) h2⟩
  exact ⟨fun s k h1 h2 hk => (h.1 s k h1 h2 hk).trans (and_congr_right (fun _ => key)), fun s k h1 h2 hk => (h.2.1 s k h1 h2 hk).trans (and_congr_right (fun _ => key)), h.2.2⟩
theorem loV_s {S1 S2 S : Nat → Nat → Bool} {w u : Nat} {pk : Nat → Nat} {cc nq : Nat → Nat → Nat} (h : loV S1 S w pk cc nq u) (hu : u ≠ w) (h2 : kcE S2 S1 (pk u) (cc u) (nq u)) : loV S2 S w pk cc nq (u + 1) := by
  refine ⟨fun s k a1 a2 hk => ?_, fun s k a1 a2 hk => ?_, fun i k hi hi2 hk => (h2.2.2 i k hi hi2 hk).trans (h.2.2 i k hi hi2 hk)⟩
  · rw [h2.1 s k a1 a2 hk, Bool.and_eq_true, h.1 s k a1 a2 hk, and_assoc]
    refine and_congr_right (fun _ => ?_)
    simp only [Bool.not_eq_true', Bool.or_eq_false_iff, decide_eq_false_iff_not]
    constructor
    · rintro ⟨b1, b2⟩ x hx hxw
      by_cases e : x = u
      · subst e; exact b2
      · exact b1 x (by omega) hxw
    · exact fun b => ⟨fun x hx hxw => b x (by omega) hxw, b u (by omega) hu⟩
  · rw [h2.2.1 s k a1 a2 hk, Bool.and_eq_true, h.2.1 s k a1 a2 hk, and_assoc]
    refine and_congr_right (fun _ => ?_)
    simp only [Bool.not_eq_true', Bool.or_eq_false_iff, decide_eq_false_iff_not]
    constructor
    · rintro ⟨b1, b2⟩ x hx hxw
      by_cases e : x = u
      · subst e; exact b2
      · exact b1 x (by omega) hxw
    · exact fun b => ⟨fun x hx hxw => b x (by omega) hxw, b u (by omega) hu⟩
/-- at last: whoever may not be somewhere may not come there -/
def loE (S2 S1 : Nat → Nat → Bool) (t : Nat) : Prop := ∀ i k, i < 762 → k < 96 → S2 i k = if 3 ≤ i ∧ i < 3 + t then (S1 i k && S1 (i + 153) k) else S1 i k
theorem loE_s {S1 S2 S3 : Nat → Nat → Bool} {t : Nat} (h : loE S2 S1 t) (ht : t < 153) (h3 : ∀ i k, i < 762 → k < 96 → S3 i k = if i = 3 + t then (S2 i k && S2 (156 + t) k) else S2 i k) : loE S3 S1 (t + 1) := by
  intro i k hi hk
  rw [h3 i k hi hk]
  by_cases e : i = 3 + t
  · rw [if_pos e, h i k hi hk, if_neg (by omega), h (156 + t) k (by omega) hk, if_neg (by omega), if_pos (by omega), show i + 153 = 156 + t by omega]
  · rw [if_neg e, h i k hi hk]
    by_cases q : 3 ≤ i ∧ i < 3 + t
    · rw [if_pos q, if_pos (by omega)]
    · rw [if_neg q, if_neg (by omega)]
/-- the planner's sets when others are laid out -/
def loS (S2 S : Nat → Nat → Bool) (w nv : Nat) (pk : Nat → Nat) (cc nq : Nat → Nat → Nat) : Prop := ∃ S1, loV S1 S w pk cc nq nv ∧ loE S2 S1 153
set_option maxHeartbeats 4000000 in
set_option maxRecDepth 100000 in
theorem k_Pln_layOut (l : Launch) (G : GG) {P : List Nat} {f : Nat → va_E} {pl va : Nat} {da ca : Nat → Nat} {f0 : Nat → va_E} {S : Nat → Nat → Bool} {Wy F : Nat → Int32} (hP : pS G pl va da ca P f0 f S Wy F) (w nv : Nat) (vh pk mv cap n : Nat → Nat) (ga cc tt nq : Nat → Nat → Nat) (cl : Nat) (hcl : cl < 1000000) (hw : w < nv) (hnv : nv ≤ 6) (hc_va : f va = arR G 3 nv (fun u => some (vh u))) (hinj : ∀ u x, u < nv → x < nv → vh u = vh x → u = x) (hV : ∀ u, u < nv → vOne G P f (vh u) (pk u) (mv u) (cap u) (n u) (ga u) (cc u) (tt u)) (hVp : ∀ u, u < nv → vPure (n u) (pk u) cl (cc u) (tt u) (nq u)) (hcom : ∀ u, u < nv → u ≠ w → ∀ k, k < 96 → (S 0 k = true ∨ k = pk w) → k ≠ pk u) (hpw : pk w < 96) (h2 : F 2 = nI (pk w))  : ct0 l G y_Pln_layOut c_Pln_layOut 4 none 5 111 [.ref pl, .ref (vh w), .int (nI cl)] P f (fun x f1 => x = none ∧ ∃ S', loS S' S w nv pk cc nq ∧ pS G pl va da ca P f0 f1 S' Wy F) := by
  refine ct_intro (by decide) [some (.ref pl), some (.ref (vh w)), some (.int (nI cl)), none] rfl rfl (Nat.le_of_ble_eq_true rfl) ?_
  intro p e s m below meth c ls C hr hlk hnm hE hM hl
  have hPo := hP
  have hP0 := hPo.self
  have hP := hPo.self
  have hva0 := hc_va
  have hcom0 := hcom
  have hm_w := (hV w hw).1
  have hS0 : ∀ k, S 0 k = S 0 k := fun _ => rfl
  refine lv_iconst (v := 0) C.1 C.2.1 d_Pln_layOut_0 (by decide) ?_
  refine lo_istore_n C hl d_Pln_layOut_1 (Nat.le_of_ble_eq_true rfl) rfl (fun ls hl => ?_)
  refine W.loop (α := (Nat) × (Nat → Nat → Bool) × (Array Slot) × (Heap) × (List Loc) × (Nat → va_E)) (fun zz => 153 - zz.1) (fun zz => (zz.1 ≤ 153) ∧ (loB zz.2.1 S (pk w) zz.1) ∧ (pS G pl va da ca P f zz.2.2.2.2.2 zz.2.1 Wy F) ∧ lo zz.2.2.1 [some (.ref pl), some (.ref (vh w)), some (.int (nI cl)), some (.int (nI zz.1))] ∧ pgS G (pgA P s.heap.size) s.heap P zz.2.2.2.2.2 zz.2.2.2.1 zz.2.2.2.2.1) (fun zz => zz.2.2.2.1) (fun zz => zz.2.2.2.2.1) (fun zz => 0) (fun zz => 0) (fun zz => F0 m 2 zz.2.2.1 []) ?_ (0, S, ls, s.heap, [], f) ⟨Nat.zero_le _, ⟨fun s k h => absurd h (Nat.not_lt_zero _), fun _ _ _ _ _ => rfl⟩, hP, lo_weak hl ⟨rfl, rfl, rfl, rfl, trivial⟩, hM⟩
  rintro ⟨t, S1, ls, H1, locs1, f1⟩ ⟨ht, hI, hP, hl, hM⟩ ih2
  dsimp only at ht hI hP hl hM
  show W _ _ _ _ _ _ _ _ _ _ _ _ _ _ _ (F0 m 2 ls [])
  refine lv_iload_n C.1 C.2.1 d_Pln_layOut_2 rfl (lo_at hl 3 rfl) ?_
  refine lv_sipush (v := 153) C.1 C.2.1 d_Pln_layOut_3 (by decide) ?_
  rw [show (153 : Int32) = nI 153 from rfl]
  refine lv_icmp_ge (tgt := 56) C.1 C.2.1 d_Pln_layOut_6 (by decide) (fun hc6 => ?_) (fun hc6 => ?_)
  · have ht9 : t = 153 := Nat.le_antisymm ht (nI_leN (by omega) (by omega) hc6)
    rw [ht9] at hI
    refine lv_iconst (v := 0) C.1 C.2.1 d_Pln_layOut_56 (by decide) ?_
    refine lo_istore_n C hl d_Pln_layOut_57 (Nat.le_of_ble_eq_true rfl) rfl (fun ls hl => ?_)
    refine W.loop (α := (Nat) × (Nat → Nat → Bool) × (Array Slot) × (Heap) × (List Loc) × (Nat → va_E)) (fun zz => nv - zz.1) (fun zz => (zz.1 ≤ nv) ∧ (loV zz.2.1 S w pk cc nq zz.1) ∧ (pS G pl va da ca P f zz.2.2.2.2.2 zz.2.1 Wy F) ∧ lo zz.2.2.1 [some (.ref pl), some (.ref (vh w)), some (.int (nI cl)), some (.int (nI zz.1))] ∧ pgS G (pgA P s.heap.size) s.heap P zz.2.2.2.2.2 zz.2.2.2.1 zz.2.2.2.2.1) (fun zz => zz.2.2.2.1) (fun zz => zz.2.2.2.2.1) (fun zz => 0) (fun zz => 0) (fun zz => F0 m 58 zz.2.2.1 []) ?_ (0, _, ls, H1, locs1, f1) ⟨Nat.zero_le _, loV_0 hI, hP, lo_weak hl ⟨rfl, rfl, rfl, rfl, trivial⟩, hM⟩
    rintro ⟨v, S1, ls, H1, locs1, f1⟩ ⟨hv, hI, hP, hl, hM⟩ ih58
    dsimp only at hv hI hP hl hM
    show W _ _ _ _ _ _ _ _ _ _ _ _ _ _ _ (F0 m 58 ls [])
    refine lv_iload_n C.1 C.2.1 d_Pln_layOut_58 rfl (lo_at hl 3 rfl) ?_
    refine lv_aload_n C.1 C.2.1 d_Pln_layOut_59 rfl (lo_at hl 0 rfl) ?_
    refine pg_get C hE hM hP.1.1 hP.2.2.1.1 rfl in_Pln 1 (Nat.le_of_ble_eq_true rfl) tw_530 rfl rfl d_Pln_layOut_60 ?_
    have hc_va := hP.arr hP0 hva0
    refine pg_alen C hE hM hP.1.2.2.2 (t0 := 3) (Nat.le_of_ble_eq_true rfl) hc_va d_Pln_layOut_63 ?_
    refine lv_icmp_ge (tgt := 94) C.1 C.2.1 d_Pln_layOut_64 (by decide) (fun hc64 => ?_) (fun hc64 => ?_)
    · have hv9 : v = nv := Nat.le_antisymm hv (nI_leN (by omega) (by omega) hc64)
      rw [hv9] at hI
      refine lv_iconst (v := 0) C.1 C.2.1 d_Pln_layOut_94 (by decide) ?_
      refine lo_istore_n C hl d_Pln_layOut_95 (Nat.le_of_ble_eq_true rfl) rfl (fun ls hl => ?_)
      refine W.loop (α := (Nat) × (Nat → Nat → Bool) × (Array Slot) × (Heap) × (List Loc) × (Nat → va_E)) (fun zz => 153 - zz.1) (fun zz => (zz.1 ≤ 153) ∧ (loE zz.2.1 S1 zz.1) ∧ (pS G pl va da ca P f zz.2.2.2.2.2 zz.2.1 Wy F) ∧ lo zz.2.2.1 [some (.ref pl), some (.ref (vh w)), some (.int (nI cl)), some (.int (nI zz.1))] ∧ pgS G (pgA P s.heap.size) s.heap P zz.2.2.2.2.2 zz.2.2.2.1 zz.2.2.2.2.1) (fun zz => zz.2.2.2.1) (fun zz => zz.2.2.2.2.1) (fun zz => 0) (fun zz => 0) (fun zz => F0 m 96 zz.2.2.1 []) ?_ (0, S1, ls, H1, locs1, f1) ⟨Nat.zero_le _, fun i k _ _ => by rw [if_neg (by omega)], hP, lo_weak hl ⟨rfl, rfl, rfl, rfl, trivial⟩, hM⟩
      rintro ⟨t, S2, ls, H1, locs1, f1⟩ ⟨ht, hE2, hP, hl, hM⟩ ih96
      dsimp only at ht hE2 hP hl hM
      show W _ _ _ _ _ _ _ _ _ _ _ _ _ _ _ (F0 m 96 ls [])
      refine lv_iload_n C.1 C.2.1 d_Pln_layOut_96 rfl (lo_at hl 3 rfl) ?_
      refine lv_sipush (v := 153) C.1 C.2.1 d_Pln_layOut_97 (by decide) ?_
      rw [show (153 : Int32) = nI 153 from rfl]
      refine lv_icmp_ge (tgt := 124) C.1 C.2.1 d_Pln_layOut_100 (by decide) (fun hc100 => ?_) (fun hc100 => ?_)
      · refine cg_vret C hr hlk hM d_Pln_layOut_124 ?_
        have ht9 : t = 153 := Nat.le_antisymm ht (nI_leN (by omega) (by omega) hc100)
        rw [ht9] at hE2
        exact ⟨rfl, S2, ⟨S1, hI, hE2⟩, hPo.trans hP⟩
      · have ht9 : t < 153 := nI_ltN (by omega) (by omega) hc100
        refine lv_aload_n C.1 C.2.1 d_Pln_layOut_103 rfl (lo_at hl 0 rfl) ?_
        refine pg_get C hE hM hP.1.1 hP.2.2.1.1 rfl in_Pln 2 (Nat.le_of_ble_eq_true rfl) tw_531 rfl rfl d_Pln_layOut_104 ?_
        refine lv_iload_n C.1 C.2.1 d_Pln_layOut_107 rfl (lo_at hl 3 rfl) ?_
        refine cg_aald C hE hM (hP.1.2.1 0 (Nat.le_of_ble_eq_true rfl)) hP.2.2.1.2.1 rfl (t) rfl (by omega) (Nat.le_of_ble_eq_true rfl) rfl d_Pln_layOut_108 ?_
        refine lv_aload_n C.1 C.2.1 d_Pln_layOut_109 rfl (lo_at hl 0 rfl) ?_
        refine pg_get C hE hM hP.1.1 hP.2.2.1.1 rfl in_Pln 3 (Nat.le_of_ble_eq_true rfl) tw_532 rfl rfl d_Pln_layOut_110 ?_
        refine lv_iload_n C.1 C.2.1 d_Pln_layOut_113 rfl (lo_at hl 3 rfl) ?_
        refine cg_aald C hE hM (hP.1.2.1 1 (Nat.le_of_ble_eq_true rfl)) hP.2.2.1.2.2.1 rfl (t) rfl (by omega) (Nat.le_of_ble_eq_true rfl) rfl d_Pln_layOut_114 ?_
        obtain ⟨_, _, hc9, -⟩ := (hP.2.2.2.1 (3 + (t)) (show 3 + (t) < 762 by omega)).words
        refine cg_callV C hE hM (k_Cel_keep l G (ca (3 + (t))) _ (hP.1.2.2.1 (3 + (t)) (show 3 + (t) < 762 by omega)) (hP.2.2.2.1 (3 + (t)) (show 3 + (t) < 762 by omega)) (ca (156 + (t))) _ (hP.1.2.2.1 (156 + (t)) (show 156 + (t) < 762 by omega)) (hP.2.2.2.1 (156 + (t)) (show 156 + (t) < 762 by omega)) (hP.ne (show 3 + (t) < 762 by omega) (show 156 + (t) < 762 by omega) (by omega))) (hP.1.2.2.1 (3 + (t)) (show 3 + (t) < 762 by omega)) hc9 rfl tw_695 cy_Cel_keep ⟨(Nat.le_of_ble_eq_true rfl), (Nat.le_of_ble_eq_true rfl)⟩ rfl hl.1 rfl (Nat.le_of_ble_eq_true rfl) ⟨Nat.zero_le _, Nat.zero_le _⟩ d_Pln_layOut_115 (fun x9 f11 H1 locs1 hp hM => ?_)
        have hx9 := hp.1
        subst hx9
        have hP := hP.setc (show 3 + (t) < 762 by omega) hp.2
        clear hc9
        refine W.eq (g2 := F0 m 118 ls []) rfl ?_
        refine lo_iinc C hl d_Pln_layOut_118 rfl rfl (fun ls hl => ?_)
        refine lv_goto (tgt := 96) C.1 C.2.1 d_Pln_layOut_121 (by decide) ?_
        have hEn : loE (va_up S2 (3 + t) (fun k => S2 (3 + t) k && S2 (156 + t) k)) S1 (t + 1) := loE_s hE2 ht9 (fun i k hi hk => by
          by_cases e1 : i = 3 + t
          · rw [if_pos e1, e1, va_up_self]
          · rw [if_neg e1, va_up_ne (α := Nat → Bool) _ _ e1])
        have h9 := hl
        rw [nI_pl] at h9
        exact ih96 (t + 1, _, ls, H1, locs1, f11) ⟨by (try dsimp only); omega, hEn, hP, lo_weak h9 ⟨rfl, rfl, rfl, rfl, trivial⟩, hM⟩ (by show 153 - (t + 1) < 153 - t; omega)
    · have hv9 : v < nv := nI_ltN (by omega) (by omega) hc64
      have hV1 := (hV v hv9).pl hP hP0
      obtain ⟨hm_u, ⟨x1, x2, x3, x4, x5, x6, x7, x8, hc_u⟩, hL9, hmv9⟩ := id hV1
      obtain ⟨p1, p2, p3, p4, p5, p6⟩ := hVp v hv9
      refine lv_aload_n C.1 C.2.1 d_Pln_layOut_67 rfl (lo_at hl 0 rfl) ?_
      refine pg_get C hE hM hP.1.1 hP.2.2.1.1 rfl in_Pln 1 (Nat.le_of_ble_eq_true rfl) tw_530 rfl rfl d_Pln_layOut_68 ?_
      refine lv_iload_n C.1 C.2.1 d_Pln_layOut_71 rfl (lo_at hl 3 rfl) ?_
      refine cg_aald C hE hM hP.1.2.2.2 hc_va rfl v rfl hv9 (by omega) rfl d_Pln_layOut_72 ?_
      refine lv_aload_n C.1 C.2.1 d_Pln_layOut_73 rfl (lo_at hl 1 rfl) ?_
      refine cg_acmp_eq (tgt := 88) C d_Pln_layOut_74 (by decide) (fun hc74 => ?_) (fun hc74 => ?_)
      · refine lo_iinc C hl d_Pln_layOut_88 rfl rfl (fun ls hl => ?_)
        refine lv_goto (tgt := 58) C.1 C.2.1 d_Pln_layOut_91 (by decide) ?_
        have hvw : v = w := hinj v w hv9 hw hc74
        have hIn : loV S1 S w pk cc nq (v + 1) := by rw [hvw]; rw [hvw] at hI; exact loV_w hI
        have h9 := hl
        rw [nI_pl] at h9
        exact ih58 (v + 1, S1, ls, H1, locs1, f1) ⟨by (try dsimp only); omega, hIn, hP, lo_weak h9 ⟨rfl, rfl, rfl, rfl, trivial⟩, hM⟩ (by show nv - (v + 1) < nv - v; omega)
      · refine lv_aload_n C.1 C.2.1 d_Pln_layOut_77 rfl (lo_at hl 0 rfl) ?_
        refine lv_aload_n C.1 C.2.1 d_Pln_layOut_78 rfl (lo_at hl 0 rfl) ?_
        refine pg_get C hE hM hP.1.1 hP.2.2.1.1 rfl in_Pln 1 (Nat.le_of_ble_eq_true rfl) tw_530 rfl rfl d_Pln_layOut_79 ?_
        refine lv_iload_n C.1 C.2.1 d_Pln_layOut_82 rfl (lo_at hl 3 rfl) ?_
        refine cg_aald C hE hM hP.1.2.2.2 hc_va rfl v rfl hv9 (by omega) rfl d_Pln_layOut_83 ?_
        refine lv_iload_n C.1 C.2.1 d_Pln_layOut_84 rfl (lo_at hl 2 rfl) ?_
        refine cg_callV C hE hM (k_Pln_keepClearOf l G hP (vh v) _ _ _ _ _ _ _ _ _ hm_u (pk v) hc_u _ _ _ hL9 _ _ hmv9 p1 (cc v) (tt v) (nq v) cl hcl (fun _ _ => rfl) (fun _ _ => rfl) p2 p3 p4 p5 p6 (fun s k a1 a2 hk h => hcom0 v hv9 (fun z => hc74 (by rw [z])) k hk ((hI.1 s k a1 a2 hk).mp h).1)) hP.1.1 hP.2.2.1.1 rfl tw_677 cy_Pln_keepClearOf ⟨(Nat.le_of_ble_eq_true rfl), (Nat.le_of_ble_eq_true rfl)⟩ rfl hl.1 rfl (Nat.le_of_ble_eq_true rfl) ⟨Nat.zero_le _, Nat.zero_le _⟩ d_Pln_layOut_85 (fun x9 f11 H1 locs1 hp hM => ?_)
        obtain ⟨hx9, S9, hS9, hP⟩ := hp
        subst hx9
        refine W.eq (g2 := F0 m 88 ls []) rfl ?_
        refine lo_iinc C hl d_Pln_layOut_88 rfl rfl (fun ls hl => ?_)
        refine lv_goto (tgt := 58) C.1 C.2.1 d_Pln_layOut_91 (by decide) ?_
        have hIn : loV S9 S w pk cc nq (v + 1) := loV_s hI (fun z => hc74 (by rw [z])) hS9
        have h9 := hl
        rw [nI_pl] at h9
        exact ih58 (v + 1, S9, ls, H1, locs1, f11) ⟨by (try dsimp only); omega, hIn, hP, lo_weak h9 ⟨rfl, rfl, rfl, rfl, trivial⟩, hM⟩ (by show nv - (v + 1) < nv - v; omega)
  · have ht9 : t < 153 := nI_ltN (by omega) (by omega) hc6
    refine lv_aload_n C.1 C.2.1 d_Pln_layOut_9 rfl (lo_at hl 0 rfl) ?_
    refine pg_get C hE hM hP.1.1 hP.2.2.1.1 rfl in_Pln 3 (Nat.le_of_ble_eq_true rfl) tw_532 rfl rfl d_Pln_layOut_10 ?_
    refine lv_iload_n C.1 C.2.1 d_Pln_layOut_13 rfl (lo_at hl 3 rfl) ?_
    refine cg_aald C hE hM (hP.1.2.1 1 (Nat.le_of_ble_eq_true rfl)) hP.2.2.1.2.2.1 rfl (t) rfl (by omega) (Nat.le_of_ble_eq_true rfl) rfl d_Pln_layOut_14 ?_
    refine lv_aload_n C.1 C.2.1 d_Pln_layOut_15 rfl (lo_at hl 0 rfl) ?_
    refine pg_get C hE hM hP.1.1 hP.2.2.1.1 rfl in_Pln 0 (Nat.le_of_ble_eq_true rfl) tw_529 rfl rfl d_Pln_layOut_16 ?_
    obtain ⟨_, _, hc9, -⟩ := (hP.2.2.2.1 (156 + (t)) (show 156 + (t) < 762 by omega)).words
    refine cg_callV C hE hM (k_Cel_copy l G (ca (156 + (t))) _ (hP.1.2.2.1 (156 + (t)) (show 156 + (t) < 762 by omega)) (hP.2.2.2.1 (156 + (t)) (show 156 + (t) < 762 by omega)) (ca (0)) _ (hP.1.2.2.1 (0) (show 0 < 762 by omega)) (hP.2.2.2.1 (0) (show 0 < 762 by omega)) (hP.ne (show 156 + (t) < 762 by omega) (show 0 < 762 by omega) (by omega))) (hP.1.2.2.1 (156 + (t)) (show 156 + (t) < 762 by omega)) hc9 rfl tw_672 cy_Cel_copy ⟨(Nat.le_of_ble_eq_true rfl), (Nat.le_of_ble_eq_true rfl)⟩ rfl hl.1 rfl (Nat.le_of_ble_eq_true rfl) ⟨Nat.zero_le _, Nat.zero_le _⟩ d_Pln_layOut_19 (fun x9 f11 H1 locs1 hp hM => ?_)
    have hx9 := hp.1
    subst hx9
    have hP := hP.setc (show 156 + (t) < 762 by omega) hp.2
    clear hc9
    refine W.eq (g2 := F0 m 22 ls []) rfl ?_
    refine lv_aload_n C.1 C.2.1 d_Pln_layOut_22 rfl (lo_at hl 0 rfl) ?_
    refine pg_get C hE hM hP.1.1 hP.2.2.1.1 rfl in_Pln 3 (Nat.le_of_ble_eq_true rfl) tw_532 rfl rfl d_Pln_layOut_23 ?_
    refine lv_iload_n C.1 C.2.1 d_Pln_layOut_26 rfl (lo_at hl 3 rfl) ?_
    refine cg_aald C hE hM (hP.1.2.1 1 (Nat.le_of_ble_eq_true rfl)) hP.2.2.1.2.2.1 rfl (t) rfl (by omega) (Nat.le_of_ble_eq_true rfl) rfl d_Pln_layOut_27 ?_
    refine lv_aload_n C.1 C.2.1 d_Pln_layOut_28 rfl (lo_at hl 0 rfl) ?_
    refine pg_get C hE hM hP.1.1 hP.2.2.1.1 rfl in_Pln 10 (Nat.le_of_ble_eq_true rfl) tw_539 rfl rfl d_Pln_layOut_29 ?_
    rw [h2]
    obtain ⟨_, _, hc9, -⟩ := (hP.2.2.2.1 (156 + (t)) (show 156 + (t) < 762 by omega)).words
    refine cg_callV C hE hM (k_Cel_put l G (ca (156 + (t))) _ (hP.1.2.2.1 (156 + (t)) (show 156 + (t) < 762 by omega)) (hP.2.2.2.1 (156 + (t)) (show 156 + (t) < 762 by omega)) (pk w) hpw) (hP.1.2.2.1 (156 + (t)) (show 156 + (t) < 762 by omega)) hc9 rfl tw_676 cy_Cel_put ⟨(Nat.le_of_ble_eq_true rfl), (Nat.le_of_ble_eq_true rfl)⟩ rfl hl.1 rfl (Nat.le_of_ble_eq_true rfl) ⟨Nat.zero_le _, Nat.zero_le _⟩ d_Pln_layOut_32 (fun x9 f12 H1 locs1 hp hM => ?_)
    have hx9 := hp.1
    subst hx9
    have hP := hP.setc (show 156 + (t) < 762 by omega) hp.2
    clear hc9
    refine W.eq (g2 := F0 m 35 ls []) rfl ?_
    refine lv_aload_n C.1 C.2.1 d_Pln_layOut_35 rfl (lo_at hl 0 rfl) ?_
    refine pg_get C hE hM hP.1.1 hP.2.2.1.1 rfl in_Pln 2 (Nat.le_of_ble_eq_true rfl) tw_531 rfl rfl d_Pln_layOut_36 ?_
    refine lv_iload_n C.1 C.2.1 d_Pln_layOut_39 rfl (lo_at hl 3 rfl) ?_
    refine cg_aald C hE hM (hP.1.2.1 0 (Nat.le_of_ble_eq_true rfl)) hP.2.2.1.2.1 rfl (t) rfl (by omega) (Nat.le_of_ble_eq_true rfl) rfl d_Pln_layOut_40 ?_
    refine lv_aload_n C.1 C.2.1 d_Pln_layOut_41 rfl (lo_at hl 0 rfl) ?_
    refine pg_get C hE hM hP.1.1 hP.2.2.1.1 rfl in_Pln 3 (Nat.le_of_ble_eq_true rfl) tw_532 rfl rfl d_Pln_layOut_42 ?_
    refine lv_iload_n C.1 C.2.1 d_Pln_layOut_45 rfl (lo_at hl 3 rfl) ?_
    refine cg_aald C hE hM (hP.1.2.1 1 (Nat.le_of_ble_eq_true rfl)) hP.2.2.1.2.2.1 rfl (t) rfl (by omega) (Nat.le_of_ble_eq_true rfl) rfl d_Pln_layOut_46 ?_
    obtain ⟨_, _, hc9, -⟩ := (hP.2.2.2.1 (3 + (t)) (show 3 + (t) < 762 by omega)).words
    refine cg_callV C hE hM (k_Cel_copy l G (ca (3 + (t))) _ (hP.1.2.2.1 (3 + (t)) (show 3 + (t) < 762 by omega)) (hP.2.2.2.1 (3 + (t)) (show 3 + (t) < 762 by omega)) (ca (156 + (t))) _ (hP.1.2.2.1 (156 + (t)) (show 156 + (t) < 762 by omega)) (hP.2.2.2.1 (156 + (t)) (show 156 + (t) < 762 by omega)) (hP.ne (show 3 + (t) < 762 by omega) (show 156 + (t) < 762 by omega) (by omega))) (hP.1.2.2.1 (3 + (t)) (show 3 + (t) < 762 by omega)) hc9 rfl tw_672 cy_Cel_copy ⟨(Nat.le_of_ble_eq_true rfl), (Nat.le_of_ble_eq_true rfl)⟩ rfl hl.1 rfl (Nat.le_of_ble_eq_true rfl) ⟨Nat.zero_le _, Nat.zero_le _⟩ d_Pln_layOut_47 (fun x9 f13 H1 locs1 hp hM => ?_)
    have hx9 := hp.1
    subst hx9
    have hP := hP.setc (show 3 + (t) < 762 by omega) hp.2
    clear hc9
    refine W.eq (g2 := F0 m 50 ls []) rfl ?_
    refine lo_iinc C hl d_Pln_layOut_50 rfl rfl (fun ls hl => ?_)
    refine lv_goto (tgt := 2) C.1 C.2.1 d_Pln_layOut_53 (by decide) ?_
    have hIn : loB _ S (pk w) (t + 1) := loB_s hI ht9 (S2 := va_up (va_up (va_up S1 (156 + t) (S1 0)) (156 + t) (fun k => va_up S1 (156 + t) (S1 0) (156 + t) k || decide (k = pk w))) (3 + t) ((va_up (va_up S1 (156 + t) (S1 0)) (156 + t) (fun k => va_up S1 (156 + t) (S1 0) (156 + t) k || decide (k = pk w))) (156 + t))) (fun i hi k hk => by
      by_cases e1 : i = 3 + t
      · rw [if_pos (Or.inl e1), e1, va_up_self, va_up_self, va_up_self]
      · by_cases e2 : i = 156 + t
        · rw [if_pos (Or.inr e2), e2, va_up_ne (α := Nat → Bool) _ _ (by omega), va_up_self, va_up_self]
        · rw [if_neg (by omega), va_up_ne (α := Nat → Bool) _ _ e1, va_up_ne (α := Nat → Bool) _ _ e2, va_up_ne (α := Nat → Bool) _ _ e2])
    have h9 := hl
    rw [nI_pl] at h9
    exact ih2 (t + 1, _, ls, H1, locs1, f13) ⟨by (try dsimp only); omega, hIn, hP, lo_weak h9 ⟨rfl, rfl, rfl, rfl, trivial⟩, hM⟩ (by show 153 - (t + 1) < 153 - t; omega)
