/-- where the vehicle can be after r steps, g stations behind it -/
def RR (v : Nat → Int32) (A : Nat → Nat → Int32) (B : Nat → Nat → Int64) (t home : Nat) : Nat → Nat → Nat → Prop
  | 0, g, c => g = 0 ∧ c = home
  | r + 1, g2, d => ∃ g c w, g < 3 ∧ c < 96 ∧ w < 5 ∧ RR v A B t home r g c ∧ gz v A B c w (r + 1) = some d ∧ g2 = dnN A t d g
theorem RR_lt {v : Nat → Int32} {A : Nat → Nat → Int32} {B : Nat → Nat → Int64} {t home : Nat} (hh : home < 96) {r g c : Nat} (h : RR v A B t home r g c) : g < 3 ∧ c < 96 := by
  cases r with
  | zero => obtain ⟨h1, h2⟩ := h; omega
  | succ r =>
    obtain ⟨g', c', w, h1, h2, h3, _, h5, h6⟩ := h
    exact ⟨by rw [h6]; exact dnN_le h1, gz_lt h2 h3 h5⟩
/-- the marks up to row r -/
def mkM (Q : Nat → Nat → Nat → Prop) (r : Nat) (b : Nat → Int64) : Prop := ∀ s d, s < 454 → d < 96 → (bt b s d ↔ ∃ r' g, r' ≤ r ∧ g < 3 ∧ s = 3 * r' + g ∧ Q r' g d)
/-- .. and those of the next row that the cells before (g, c) give -/
def mkP (Q : Nat → Nat → Nat → Prop) (gf : Nat → Nat → Option Nat) (dn : Nat → Nat → Nat) (r g c : Nat) (b : Nat → Int64) : Prop := ∀ s d, s < 454 → d < 96 →
  (bt b s d ↔ ((∃ r' g', r' ≤ r ∧ g' < 3 ∧ s = 3 * r' + g' ∧ Q r' g' d) ∨ ∃ g' c' w, (g' < g ∨ (g' = g ∧ c' < c)) ∧ g' < 3 ∧ c' < 96 ∧ w < 5 ∧ Q r g' c' ∧ gf c' w = some d ∧ s = 3 * r + 3 + dn d g'))
theorem mkP_0 {Q : Nat → Nat → Nat → Prop} {gf : Nat → Nat → Option Nat} {dn : Nat → Nat → Nat} {r : Nat} {b : Nat → Int64} (h : mkM Q r b) : mkP Q gf dn r 0 0 b := by
  intro s d hs hd
  rw [h s d hs hd]
  constructor
  · exact Or.inl
  · rintro (h | ⟨g', c', w, h1, _⟩)
    · exact h
    · omega
theorem mkP_row {Q : Nat → Nat → Nat → Prop} {gf : Nat → Nat → Option Nat} {dn : Nat → Nat → Nat} {r g : Nat} {b : Nat → Int64} (h : mkP Q gf dn r g 96 b) : mkP Q gf dn r (g + 1) 0 b := by
  intro s d hs hd
  rw [h s d hs hd]
  constructor
  · rintro (h | ⟨g', c', w, h1, h2, h3, h4⟩)
    · exact Or.inl h
    · exact Or.inr ⟨g', c', w, by omega, h2, h3, h4⟩
  · rintro (h | ⟨g', c', w, h1, h2, h3, h4⟩)
    · exact Or.inl h
    · exact Or.inr ⟨g', c', w, by omega, h2, h3, h4⟩
theorem mkP_at {Q : Nat → Nat → Nat → Prop} {gf : Nat → Nat → Option Nat} {dn : Nat → Nat → Nat} {r g c : Nat} {b : Nat → Int64} (h : mkP Q gf dn r g c b) (hr : r < 150) (hg : g < 3) (hc : c < 96) : bt b (3 * r + g) c ↔ Q r g c := by
  rw [h (3 * r + g) c (by omega) hc]
  constructor
  · rintro (⟨r', g', h1, h2, h3, h4⟩ | ⟨g', c', w, h1, h2, h3, h4, h5, h6, h7⟩)
    · have e1 : r' = r := by omega
      have e2 : g' = g := by omega
      subst e1 e2
      exact h4
    · omega
  · exact fun h => Or.inl ⟨r, g, Nat.le_refl _, hg, rfl, h⟩
theorem mkP_skip {Q : Nat → Nat → Nat → Prop} {gf : Nat → Nat → Option Nat} {dn : Nat → Nat → Nat} {r g c : Nat} {b : Nat → Int64} (h : mkP Q gf dn r g c b) (hq : ¬ Q r g c) : mkP Q gf dn r g (c + 1) b := by
  intro s d hs hd
  rw [h s d hs hd]
  constructor
  · rintro (h | ⟨g', c', w, h1, h2, h3, h4⟩)
    · exact Or.inl h
    · exact Or.inr ⟨g', c', w, by omega, h2, h3, h4⟩
  · rintro (h | ⟨g', c', w, h1, h2, h3, h4, h5, h6⟩)
    · exact Or.inl h
    · by_cases e : g' = g ∧ c' = c
      · rw [e.1, e.2] at h5; exact absurd h5 hq
      · exact Or.inr ⟨g', c', w, by omega, h2, h3, h4, h5, h6⟩
theorem mkP_step {Q : Nat → Nat → Nat → Prop} {gf : Nat → Nat → Option Nat} {dn : Nat → Nat → Nat} {r g c : Nat} {b b2 : Nat → Int64} (h : mkP Q gf dn r g c b) (hg : g < 3) (hc : c < 96) (hq : Q r g c) (hs : sfI b b2 (fun y => gf c y) (fun d => 3 * r + 3 + dn d g) 5) : mkP Q gf dn r g (c + 1) b2 := by
  intro s d hs' hd
  rw [hs s d hd, h s d hs' hd]
  constructor
  · rintro ((h | ⟨g', c', w, h1, h2, h3, h4⟩) | ⟨y, h1, h2, h3⟩)
    · exact Or.inl h
    · exact Or.inr ⟨g', c', w, by omega, h2, h3, h4⟩
    · exact Or.inr ⟨g, c, y, by omega, hg, hc, h1, hq, h2, h3⟩
  · rintro (h | ⟨g', c', w, h1, h2, h3, h4, h5, h6, h7⟩)
    · exact Or.inl (Or.inl h)
    · by_cases e : g' = g ∧ c' = c
      · rw [e.2] at h6
        rw [e.1] at h7
        exact Or.inr ⟨w, h4, h6, h7⟩
      · exact Or.inl (Or.inr ⟨g', c', w, by omega, h2, h3, h4, h5, h6, h7⟩)
theorem mkP_done {v : Nat → Int32} {A : Nat → Nat → Int32} {B : Nat → Nat → Int64} {t home r : Nat} {b : Nat → Int64} (h : mkP (RR v A B t home) (fun c w => gz v A B c w (r + 1)) (fun d g => dnN A t d g) r 3 0 b) : mkM (RR v A B t home) (r + 1) b := by
  intro s d hs hd
  rw [h s d hs hd]
  constructor
  · rintro (⟨r', g', h1, h2, h3, h4⟩ | ⟨g', c', w, h1, h2, h3, h4, h5, h6, h7⟩)
    · exact ⟨r', g', by omega, h2, h3, h4⟩
    · exact ⟨r + 1, dnN A t d g', by omega, dnN_le h2, by have h8 : s = 3 * r + 3 + dnN A t d g' := h7; omega, ⟨g', c', w, h2, h3, h4, h5, h6, rfl⟩⟩
  · rintro ⟨r', g', h1, h2, h3, h4⟩
    by_cases e : r' = r + 1
    · subst e
      obtain ⟨g2, c2, w, q1, q2, q3, q4, q5, q6⟩ := h4
      exact Or.inr ⟨g2, c2, w, by omega, q1, q2, q3, q4, q5, by show s = 3 * r + 3 + dnN A t d g2; omega⟩
    · exact Or.inl ⟨r', g', by omega, h2, h3, h4⟩
theorem mkM_0 {v : Nat → Int32} {A : Nat → Nat → Int32} {B : Nat → Nat → Int64} {t home : Nat} {b : Nat → Int64} (hh : home < 96) (h : ∀ j, j < 908 → b j = 0) : mkM (RR v A B t home) 0 (addL b (nI 0) (nI home)) := by
  intro s d hs hd
  rw [bb_add (by decide) hh hd]
  constructor
  · rintro (h1 | ⟨h1, h2⟩)
    · exact absurd h1 (bb_zero (h _ (by omega)))
    · exact ⟨0, 0, by omega, by omega, by omega, rfl, h2⟩
  · rintro ⟨r', g', h1, h2, h3, h4⟩
    have e : r' = 0 := by omega
    subst e
    obtain ⟨h5, h6⟩ := h4
    exact Or.inr ⟨by omega, h6⟩
/-- how the search ends -/
def spE (Q : Nat → Nat → Nat → Prop) (home : Nat) (z : Int32) (b : Nat → Int64) : Prop :=
  (z = -1 ∧ ∀ e, 1 ≤ e → e ≤ 150 → ¬ Q e 2 home) ∨ ∃ e, 1 ≤ e ∧ e ≤ 150 ∧ z = nI e ∧ Q e 2 home ∧ (∀ e2, 1 ≤ e2 → e2 < e → ¬ Q e2 2 home) ∧ mkM Q e b
set_option maxHeartbeats 4000000 in
set_option maxRecDepth 100000 in
theorem k_Mod_spread (l : Launch) (G : GG) (o : Nat) (r : Nat → Nat) (v : Nat → Int32) (A : Nat → Nat → Int32) (B : Nat → Nat → Int64) (t0 : Nat) {pu home : Nat} (ht : t0 < 24) (h38 : v 38 = nI pu) (hpu : pu < 6) (hhome : A 6 pu = nI home) (hh : home < 96) : mct l G y_Mod_spread c_Mod_spread 6 (some .int) 3 72 [.ref o, .int (nI t0)] o r v A B (fun x v1 A1 B1 => v1 = v ∧ A1 = A ∧ ∃ b1, B1 = va_up B 37 b1 ∧ ∃ z, x = some (.int z) ∧ spE (RR v A B t0 home) home z b1) := by
  refine mct_intro (by decide) [some (.ref o), some (.int (nI t0)), none, none, none, none] rfl rfl (Nat.le_of_ble_eq_true rfl) ?_
  intro p e s m below meth c ls P f C hr hlk hE hM hm hl
  refine lv_iconst (v := 0) C.1 C.2.1 d_Mod_spread_0 (by decide) ?_
  refine lo_istore_n C hl d_Mod_spread_1 (Nat.le_of_ble_eq_true rfl) rfl (fun ls hl => ?_)
  refine W.loop (α := (Nat) × (Nat → Int64) × (Array Slot) × (Heap) × (List Loc) × (Nat → va_E)) (fun a => 908 - a.1) (fun a => (a.1 ≤ 908) ∧ (∀ j, j < a.1 → a.2.1 j = 0) ∧ lo a.2.2.1 [some (.ref o), some (.int (nI t0)), some (.int (nI a.1)), none, none, none] ∧ pgS G (pgA P s.heap.size) s.heap P a.2.2.2.2.2 a.2.2.2.1 a.2.2.2.2.1 ∧ mdS G o r P f a.2.2.2.2.2 (v) (A) (va_up B 37 a.2.1)) (fun a => a.2.2.2.1) (fun a => a.2.2.2.2.1) (fun _ => 0) (fun _ => 0) (fun a => F0 m 2 a.2.2.1 []) ?_ (0, B 37, ls, s.heap, [], f) ⟨Nat.zero_le _, fun j hj => absurd hj (Nat.not_lt_zero _), lo_weak hl ⟨rfl, rfl, rfl, trivial⟩, hM, (by rw [va_up_id]; exact hm)⟩
  rintro ⟨k, b1, ls, H1, locs1, f1⟩ ⟨hk, hz, hl, hM, hm⟩ ih2
  dsimp only at hk hz hl hM hm
  show W _ _ _ _ _ _ _ _ _ _ _ _ _ _ _ (F0 m 2 ls [])
  refine lv_iload_n C.1 C.2.1 d_Mod_spread_2 rfl (lo_at hl 2 rfl) ?_
  refine lv_sipush (v := 908) C.1 C.2.1 d_Mod_spread_3 (by decide) ?_
  rw [show (908 : Int32) = nI 908 from rfl]
  refine lv_icmp_ge (tgt := 22) C.1 C.2.1 d_Mod_spread_6 (by decide) (fun hc6 => ?_) (fun hc6 => ?_)
  · have hk9 : k = 908 := Nat.le_antisymm hk (nI_leN (by omega) (by omega) hc6)
    refine lv_aload_n C.1 C.2.1 d_Mod_spread_22 rfl (lo_at hl 0 rfl) ?_
    refine md_get C hE hM hm 6 (Nat.le_of_ble_eq_true rfl) tw_788 rfl rfl d_Mod_spread_23 ?_
    refine lv_aload_n C.1 C.2.1 d_Mod_spread_26 rfl (lo_at hl 0 rfl) ?_
    refine md_get (x := .int (v 38)) C hE hM hm 38 (Nat.le_of_ble_eq_true rfl) tw_820 rfl rfl d_Mod_spread_27 ?_
    refine md_ialdN C hE hM hm 6 rfl pu h38 (show pu < 96 by omega) d_Mod_spread_30 ?_
    rw [hhome]
    refine lo_istore_n C hl d_Mod_spread_31 (Nat.le_of_ble_eq_true rfl) rfl (fun ls hl => ?_)
    refine lv_aload_n C.1 C.2.1 d_Mod_spread_32 rfl (lo_at hl 0 rfl) ?_
    refine md_get C hE hM hm 37 (Nat.le_of_ble_eq_true rfl) tw_819 rfl rfl d_Mod_spread_33 ?_
    refine lv_iconst (v := 0) C.1 C.2.1 d_Mod_spread_36 (by decide) ?_
    refine lv_iload_n C.1 C.2.1 d_Mod_spread_37 rfl (lo_at hl 2 rfl) ?_
    refine md_callS C hE hM hm (k_Mod_add l G o r _ _ _ 37 rfl _ _ (vp_lj (s := 0) (N := 908) (by decide) hh (by decide) (by decide))) tw_1006 cy_Mod_add ⟨(Nat.le_of_ble_eq_true rfl), (Nat.le_of_ble_eq_true rfl)⟩ rfl hl.1 rfl (Nat.le_of_ble_eq_true rfl) ⟨Nat.zero_le _, Nat.zero_le _⟩ d_Mod_spread_38 (fun x9 f1 H1 locs1 v9 A9 B9 hp hM hm => ?_)
    obtain ⟨hx9, hv9, hA9, hB9⟩ := hp
    subst hx9
    rw [hv9, hA9, hB9] at hm
    refine W.eq (g2 := F0 m 41 ls _) rfl ?_
    refine lv_iconst (v := 0) C.1 C.2.1 d_Mod_spread_41 (by decide) ?_
    refine lo_istore_n C hl d_Mod_spread_42 (Nat.le_of_ble_eq_true rfl) rfl (fun ls hl => ?_)
    refine W.loop (α := (Nat) × (Nat → Int64) × (Array Slot) × (Heap) × (List Loc) × (Nat → va_E)) (fun a => 150 - a.1) (fun a => (a.1 ≤ 150) ∧ (mkM (RR v A B t0 home) a.1 a.2.1) ∧ (∀ e, 1 ≤ e → e ≤ a.1 → ¬ (RR v A B t0 home) e 2 home) ∧ lo a.2.2.1 [some (.ref o), some (.int (nI t0)), some (.int (nI home)), some (.int (nI a.1)), none, none] ∧ pgS G (pgA P s.heap.size) s.heap P a.2.2.2.2.2 a.2.2.2.1 a.2.2.2.2.1 ∧ mdS G o r P f a.2.2.2.2.2 (v) (A) (va_up B 37 a.2.1)) (fun a => a.2.2.2.1) (fun a => a.2.2.2.2.1) (fun _ => 0) (fun _ => 0) (fun a => F0 m 43 a.2.2.1 []) ?_ (0, addL b1 (nI 0) (nI home), ls, H1, locs1, f1) ⟨Nat.zero_le _, mkM_0 hh (fun j hj => hz j (by omega)), fun e h1 h2 => absurd h1 (by omega), lo_weak hl ⟨rfl, rfl, rfl, rfl, trivial⟩, hM, (by rw [bx_uu, va_up_self] at hm; exact hm)⟩
    rintro ⟨r0, b1, ls, H1, locs1, f1⟩ ⟨hr0, hMr, hno, hl, hM, hm⟩ ih43
    dsimp only at hr0 hMr hno hl hM hm
    show W _ _ _ _ _ _ _ _ _ _ _ _ _ _ _ (F0 m 43 ls [])
    refine lv_iload_n C.1 C.2.1 d_Mod_spread_43 rfl (lo_at hl 3 rfl) ?_
    refine lv_sipush (v := 150) C.1 C.2.1 d_Mod_spread_44 (by decide) ?_
    rw [show (150 : Int32) = nI 150 from rfl]
    refine lv_icmp_ge (tgt := 135) C.1 C.2.1 d_Mod_spread_47 (by decide) (fun hc47 => ?_) (fun hc47 => ?_)
    · have hr9 : r0 = 150 := Nat.le_antisymm hr0 (nI_leN (by omega) (by omega) hc47)
      refine lv_iconst (v := (-1)) C.1 C.2.1 d_Mod_spread_135 (by decide) ?_
      refine md_iret C hr hlk hM hm d_Mod_spread_136 ?_
      refine ⟨rfl, rfl, b1, rfl, _, rfl, Or.inl ⟨rfl, fun e h1 h2 => hno e h1 (by omega)⟩⟩
    · have hr9 : r0 < 150 := nI_ltN (by omega) (by omega) hc47
      refine lv_iconst (v := 0) C.1 C.2.1 d_Mod_spread_50 (by decide) ?_
      refine lo_istore C hl d_Mod_spread_51 (Nat.le_of_ble_eq_true rfl) rfl (fun ls hl => ?_)
      refine W.loop (α := (Nat) × (Nat → Int64) × (Array Slot) × (Heap) × (List Loc) × (Nat → va_E)) (fun a => 3 - a.1) (fun a => (a.1 ≤ 3) ∧ (mkP (RR v A B t0 home) (fun c w => gz v A B c w (r0 + 1)) (fun d g => dnN A t0 d g) r0 a.1 0 a.2.1) ∧ lo a.2.2.1 [some (.ref o), some (.int (nI t0)), some (.int (nI home)), some (.int (nI r0)), some (.int (nI a.1)), none] ∧ pgS G (pgA P s.heap.size) s.heap P a.2.2.2.2.2 a.2.2.2.1 a.2.2.2.2.1 ∧ mdS G o r P f a.2.2.2.2.2 (v) (A) (va_up B 37 a.2.1)) (fun a => a.2.2.2.1) (fun a => a.2.2.2.2.1) (fun _ => 0) (fun _ => 0) (fun a => F0 m 53 a.2.2.1 []) ?_ (0, b1, ls, H1, locs1, f1) ⟨Nat.zero_le _, mkP_0 hMr, lo_weak hl ⟨rfl, rfl, rfl, rfl, rfl, trivial⟩, hM, hm⟩
      rintro ⟨g0, b1, ls, H1, locs1, f1⟩ ⟨hg0, hPg, hl, hM, hm⟩ ih53
      dsimp only at hg0 hPg hl hM hm
      show W _ _ _ _ _ _ _ _ _ _ _ _ _ _ _ (F0 m 53 ls [])
      refine lv_iload C.1 C.2.1 d_Mod_spread_53 (lo_at hl 4 rfl) ?_
      refine lv_iconst (v := 3) C.1 C.2.1 d_Mod_spread_55 (by decide) ?_
      rw [show (3 : Int32) = nI 3 from rfl]
      refine lv_icmp_ge (tgt := 109) C.1 C.2.1 d_Mod_spread_56 (by decide) (fun hc56 => ?_) (fun hc56 => ?_)
      · have hg9 : g0 = 3 := Nat.le_antisymm hg0 (nI_leN (by omega) (by omega) hc56)
        rw [hg9] at hPg
        have hMn := mkP_done hPg
        refine lv_aload_n C.1 C.2.1 d_Mod_spread_109 rfl (lo_at hl 0 rfl) ?_
        refine md_get C hE hM hm 37 (Nat.le_of_ble_eq_true rfl) tw_819 rfl rfl d_Mod_spread_110 ?_
        refine lv_iconst (v := 3) C.1 C.2.1 d_Mod_spread_113 (by decide) ?_
        refine lv_iload_n C.1 C.2.1 d_Mod_spread_114 rfl (lo_at hl 3 rfl) ?_
        refine lv_imul C.1 C.2.1 d_Mod_spread_115 ?_
        refine lv_iconst (v := 5) C.1 C.2.1 d_Mod_spread_116 (by decide) ?_
        refine lv_iadd C.1 C.2.1 d_Mod_spread_117 ?_
        refine lv_iload_n C.1 C.2.1 d_Mod_spread_118 rfl (lo_at hl 2 rfl) ?_
        rw [show (3 : Int32) * nI r0 + 5 = nI (3 * r0 + 5) from nI3 r0 5]
        refine md_callS C hE hM hm (k_Mod_isIn l G o r _ _ _ 37 rfl _ _ (vp_lj (N := 908) (by omega) hh (by omega) (by decide))) tw_1013 cy_Mod_isIn ⟨(Nat.le_of_ble_eq_true rfl), (Nat.le_of_ble_eq_true rfl)⟩ rfl hl.1 rfl (Nat.le_of_ble_eq_true rfl) ⟨Nat.zero_le _, Nat.zero_le _⟩ d_Mod_spread_119 (fun x9 f1 H1 locs1 v9 A9 B9 hp hM hm => ?_)
        obtain ⟨hx9, hv9, hA9, hB9⟩ := hp
        subst hx9
        rw [hv9, hA9, hB9] at hm
        refine W.eq (g2 := F0 m 122 ls (_ :: _)) rfl ?_
        refine lv_if_eq (tgt := 129) C.1 C.2.1 d_Mod_spread_122 (by decide) (fun hc122 => ?_) (fun hc122 => ?_)
        · replace hc122 := bz_0.mp hc122
          refine lo_iinc C hl d_Mod_spread_129 rfl rfl (fun ls hl => ?_)
          refine lv_goto (tgt := 43) C.1 C.2.1 d_Mod_spread_132 (by decide) ?_
          have h9 := hl
          rw [nI_pl] at h9
          exact ih43 (r0 + 1, b1, ls, H1, locs1, f1) ⟨by omega, hMn, fun e h1 h2 => by by_cases q : e = r0 + 1; (rw [q]; exact fun z => hc122 ((bb_isI (by omega) hh).mpr ((hMn (3 * r0 + 5) home (by omega) hh).mpr ⟨r0 + 1, 2, Nat.le_refl _, by omega, by omega, z⟩))); exact hno e h1 (by show e ≤ r0; have : e ≤ r0 + 1 := h2; omega), lo_weak h9 ⟨rfl, rfl, rfl, rfl, trivial⟩, hM, hm⟩ (by show 150 - (r0 + 1) < 150 - r0; omega)
        · replace hc122 := bz_1.mp hc122
          refine lv_iload_n C.1 C.2.1 d_Mod_spread_125 rfl (lo_at hl 3 rfl) ?_
          refine lv_iconst (v := 1) C.1 C.2.1 d_Mod_spread_126 (by decide) ?_
          refine lv_iadd C.1 C.2.1 d_Mod_spread_127 ?_
          rw [nI_1]
          refine md_iret C hr hlk hM hm d_Mod_spread_128 ?_
          refine ⟨rfl, rfl, b1, rfl, _, rfl, Or.inr ⟨r0 + 1, by omega, by omega, rfl, ?_, fun e h1 h2 => hno e h1 (by omega), hMn⟩⟩
          obtain ⟨r2, g2, q1, q2, q3, q4⟩ := (hMn (3 * r0 + 5) home (by omega) hh).mp ((bb_isI (by omega) hh).mp hc122)
          have e1 : r2 = r0 + 1 := by omega
          have e2 : g2 = 2 := by omega
          rw [e1, e2] at q4; exact q4
      · have hg9 : g0 < 3 := nI_ltN (by omega) (by omega) hc56
        refine lv_iconst (v := 0) C.1 C.2.1 d_Mod_spread_59 (by decide) ?_
        refine lo_istore C hl d_Mod_spread_60 (Nat.le_of_ble_eq_true rfl) rfl (fun ls hl => ?_)
        refine W.loop (α := (Nat) × (Nat → Int64) × (Array Slot) × (Heap) × (List Loc) × (Nat → va_E)) (fun a => 96 - a.1) (fun a => (a.1 ≤ 96) ∧ (mkP (RR v A B t0 home) (fun c w => gz v A B c w (r0 + 1)) (fun d g => dnN A t0 d g) r0 g0 a.1 a.2.1) ∧ lo a.2.2.1 [some (.ref o), some (.int (nI t0)), some (.int (nI home)), some (.int (nI r0)), some (.int (nI g0)), some (.int (nI a.1))] ∧ pgS G (pgA P s.heap.size) s.heap P a.2.2.2.2.2 a.2.2.2.1 a.2.2.2.2.1 ∧ mdS G o r P f a.2.2.2.2.2 (v) (A) (va_up B 37 a.2.1)) (fun a => a.2.2.2.1) (fun a => a.2.2.2.2.1) (fun _ => 0) (fun _ => 0) (fun a => F0 m 62 a.2.2.1 []) ?_ (0, b1, ls, H1, locs1, f1) ⟨Nat.zero_le _, hPg, lo_weak hl ⟨rfl, rfl, rfl, rfl, rfl, rfl, trivial⟩, hM, hm⟩
        rintro ⟨c0, b1, ls, H1, locs1, f1⟩ ⟨hc0, hPc, hl, hM, hm⟩ ih62
        dsimp only at hc0 hPc hl hM hm
        show W _ _ _ _ _ _ _ _ _ _ _ _ _ _ _ (F0 m 62 ls [])
        refine lv_iload C.1 C.2.1 d_Mod_spread_62 (lo_at hl 5 rfl) ?_
        refine lv_bipush (v := 96) C.1 C.2.1 d_Mod_spread_64 (by decide) ?_
        rw [show (96 : Int32) = nI 96 from rfl]
        refine lv_icmp_ge (tgt := 103) C.1 C.2.1 d_Mod_spread_66 (by decide) (fun hc66 => ?_) (fun hc66 => ?_)
        · have hc9 : c0 = 96 := Nat.le_antisymm hc0 (nI_leN (by omega) (by omega) hc66)
          rw [hc9] at hPc
          refine lo_iinc C hl d_Mod_spread_103 rfl rfl (fun ls hl => ?_)
          refine lv_goto (tgt := 53) C.1 C.2.1 d_Mod_spread_106 (by decide) ?_
          have h9 := hl
          rw [nI_pl] at h9
          exact ih53 (g0 + 1, b1, ls, H1, locs1, f1) ⟨by omega, mkP_row hPc, lo_weak h9 ⟨rfl, rfl, rfl, rfl, rfl, trivial⟩, hM, hm⟩ (by show 3 - (g0 + 1) < 3 - g0; omega)
        · have hc9 : c0 < 96 := nI_ltN (by omega) (by omega) hc66
          refine lv_aload_n C.1 C.2.1 d_Mod_spread_69 rfl (lo_at hl 0 rfl) ?_
          refine md_get C hE hM hm 37 (Nat.le_of_ble_eq_true rfl) tw_819 rfl rfl d_Mod_spread_70 ?_
          refine lv_iconst (v := 3) C.1 C.2.1 d_Mod_spread_73 (by decide) ?_
          refine lv_iload_n C.1 C.2.1 d_Mod_spread_74 rfl (lo_at hl 3 rfl) ?_
          refine lv_imul C.1 C.2.1 d_Mod_spread_75 ?_
          refine lv_iload C.1 C.2.1 d_Mod_spread_76 (lo_at hl 4 rfl) ?_
          refine lv_iadd C.1 C.2.1 d_Mod_spread_78 ?_
          refine lv_iload C.1 C.2.1 d_Mod_spread_79 (lo_at hl 5 rfl) ?_
          rw [nI3]
          refine md_callS C hE hM hm (k_Mod_isIn l G o r _ _ _ 37 rfl _ _ (vp_lj (N := 908) (by omega) hc9 (by omega) (by decide))) tw_1013 cy_Mod_isIn ⟨(Nat.le_of_ble_eq_true rfl), (Nat.le_of_ble_eq_true rfl)⟩ rfl hl.1 rfl (Nat.le_of_ble_eq_true rfl) ⟨Nat.zero_le _, Nat.zero_le _⟩ d_Mod_spread_81 (fun x9 f1 H1 locs1 v9 A9 B9 hp hM hm => ?_)
          obtain ⟨hx9, hv9, hA9, hB9⟩ := hp
          subst hx9
          rw [hv9, hA9, hB9] at hm
          refine W.eq (g2 := F0 m 84 ls (_ :: _)) rfl ?_
          refine lv_if_eq (tgt := 97) C.1 C.2.1 d_Mod_spread_84 (by decide) (fun hc84 => ?_) (fun hc84 => ?_)
          · replace hc84 := bz_0.mp hc84
            refine lo_iinc C hl d_Mod_spread_97 rfl rfl (fun ls hl => ?_)
            refine lv_goto (tgt := 62) C.1 C.2.1 d_Mod_spread_100 (by decide) ?_
            have hPn := mkP_skip hPc (fun z => hc84 ((bb_isI (by omega) hc9).mpr ((mkP_at hPc hr9 hg9 hc9).mpr z)))
            have h9 := hl
            rw [nI_pl] at h9
            exact ih62 (c0 + 1, b1, ls, H1, locs1, f1) ⟨by omega, hPn, lo_weak h9 ⟨rfl, rfl, rfl, rfl, rfl, rfl, trivial⟩, hM, hm⟩ (by show 96 - (c0 + 1) < 96 - c0; omega)
          · replace hc84 := bz_1.mp hc84
            refine lv_aload_n C.1 C.2.1 d_Mod_spread_87 rfl (lo_at hl 0 rfl) ?_
            refine lv_iload_n C.1 C.2.1 d_Mod_spread_88 rfl (lo_at hl 1 rfl) ?_
            refine lv_iload_n C.1 C.2.1 d_Mod_spread_89 rfl (lo_at hl 3 rfl) ?_
            refine lv_iload C.1 C.2.1 d_Mod_spread_90 (lo_at hl 4 rfl) ?_
            refine lv_iload C.1 C.2.1 d_Mod_spread_92 (lo_at hl 5 rfl) ?_
            refine md_callV C hE hM hm (k_Mod_spreadFrom l G o r v A (va_up B 37 b1) t0 r0 g0 c0 (pu := pu) ht hr9 hg9 hc9 h38 hpu) rfl tw_1016 cy_Mod_spreadFrom ⟨(Nat.le_of_ble_eq_true rfl), (Nat.le_of_ble_eq_true rfl)⟩ rfl hl.1 rfl (Nat.le_of_ble_eq_true rfl) ⟨Nat.zero_le _, Nat.zero_le _⟩ d_Mod_spread_94 (fun x9 f1 H1 locs1 v9 A9 B9 hp hM hm => ?_)
            obtain ⟨hx9, hv9, hA9, b2, hB9, hsf⟩ := hp
            subst hx9
            rw [hv9, hA9, hB9, bx_uu] at hm
            refine W.eq (g2 := F0 m 97 ls _) rfl ?_
            refine lo_iinc C hl d_Mod_spread_97 rfl rfl (fun ls hl => ?_)
            refine lv_goto (tgt := 62) C.1 C.2.1 d_Mod_spread_100 (by decide) ?_
            have hPn := mkP_step (gf := (fun c w => gz v A B c w (r0 + 1))) (dn := (fun d g => dnN A t0 d g)) hPc hg9 hc9 ((mkP_at hPc hr9 hg9 hc9).mp ((bb_isI (by omega) hc9).mp hc84)) hsf
            have h9 := hl
            rw [nI_pl] at h9
            exact ih62 (c0 + 1, b2, ls, H1, locs1, f1) ⟨by omega, hPn, lo_weak h9 ⟨rfl, rfl, rfl, rfl, rfl, rfl, trivial⟩, hM, hm⟩ (by show 96 - (c0 + 1) < 96 - c0; omega)
  · have hk9 : k < 908 := nI_ltN (by omega) (by omega) hc6
    refine lv_aload_n C.1 C.2.1 d_Mod_spread_9 rfl (lo_at hl 0 rfl) ?_
    refine md_get C hE hM hm 37 (Nat.le_of_ble_eq_true rfl) tw_819 rfl rfl d_Mod_spread_10 ?_
    refine lv_iload_n C.1 C.2.1 d_Mod_spread_13 rfl (lo_at hl 2 rfl) ?_
    refine lv_lconst (v := 0) C.1 C.2.1 d_Mod_spread_14 (by decide) ?_
    refine md_lastN C hE hM hm 37 rfl k rfl (show k < 908 by omega) d_Mod_spread_15 (fun f1 H1 locs1 hM hm => ?_)
    refine lo_iinc C hl d_Mod_spread_16 rfl rfl (fun ls hl => ?_)
    refine lv_goto (tgt := 2) C.1 C.2.1 d_Mod_spread_19 (by decide) ?_
    have h9 := hl
    rw [nI_pl] at h9
    exact ih2 (k + 1, vp_updL b1 k 0, ls, H1, locs1, f1) ⟨by omega, fun j hj => by show vp_updL b1 k 0 j = 0; unfold vp_updL; split; rfl; exact hz j (by omega), lo_weak h9 ⟨rfl, rfl, rfl, trivial⟩, hM, (by rw [bx_uu] at hm; exact hm)⟩ (by show 908 - (k + 1) < 908 - k; omega)
