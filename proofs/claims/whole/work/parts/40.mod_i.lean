/-- the marks from which the end is reached in time: k steps before it -/
def NN (v : Nat → Int32) (A : Nat → Nat → Int32) (B : Nat → Nat → Int64) (t home e : Nat) : Nat → Nat → Nat → Prop
  | 0, g, c => g = 2 ∧ c = home
  | k + 1, g, c => RR v A B t home (e - (k + 1)) g c ∧ ∃ w d, w < 5 ∧ gz v A B c w (e - k) = some d ∧ NN v A B t home e k (dnN A t d g) d
/-- rows from m on are narrowed -/
def nwM (Q N : Nat → Nat → Nat → Prop) (e m : Nat) (b : Nat → Int64) : Prop := ∀ r g d, r ≤ e → g < 3 → d < 96 → (bt b (3 * r + g) d ↔ ((r < m ∧ Q r g d) ∨ (m ≤ r ∧ N (e - r) g d)))
/-- .. and of row m - 1 what comes before (g, c) -/
def nwP (Q N : Nat → Nat → Nat → Prop) (e m g c : Nat) (b : Nat → Int64) : Prop := ∀ r g2 d, r ≤ e → g2 < 3 → d < 96 →
  (bt b (3 * r + g2) d ↔ ((r < m ∧ Q r g2 d) ∨ (m < r ∧ N (e - r) g2 d) ∨ (r = m ∧ ((g2 < g ∨ (g2 = g ∧ d < c)) ∧ N (e - r) g2 d ∨ ¬ (g2 < g ∨ (g2 = g ∧ d < c)) ∧ Q r g2 d))))
theorem nwP_0 {Q N : Nat → Nat → Nat → Prop} {e m : Nat} {b : Nat → Int64} (h : nwM Q N e (m + 1) b) : nwP Q N e m 0 0 b := by
  intro r g2 d hr hg hd
  rw [h r g2 d hr hg hd]
  constructor
  · rintro (⟨h1, h2⟩ | ⟨h1, h2⟩)
    · by_cases q : r = m
      · exact Or.inr (Or.inr ⟨q, Or.inr ⟨by omega, h2⟩⟩)
      · exact Or.inl ⟨by omega, h2⟩
    · exact Or.inr (Or.inl ⟨by omega, h2⟩)
  · rintro (⟨h1, h2⟩ | ⟨h1, h2⟩ | ⟨h1, ⟨h2, _⟩ | ⟨_, h3⟩⟩)
    · exact Or.inl ⟨by omega, h2⟩
    · exact Or.inr ⟨by omega, h2⟩
    · omega
    · exact Or.inl ⟨by omega, h3⟩
theorem nwP_row {Q N : Nat → Nat → Nat → Prop} {e m g : Nat} {b : Nat → Int64} (h : nwP Q N e m g 96 b) : nwP Q N e m (g + 1) 0 b := by
  intro r g2 d hr hg hd
  rw [h r g2 d hr hg hd]
  have e1 : (g2 < g ∨ (g2 = g ∧ d < 96)) ↔ (g2 < g + 1 ∨ (g2 = g + 1 ∧ d < 0)) := by omega
  rw [e1]
theorem nwP_done {Q N : Nat → Nat → Nat → Prop} {e m : Nat} {b : Nat → Int64} (h : nwP Q N e m 3 0 b) : nwM Q N e m b := by
  intro r g2 d hr hg hd
  rw [h r g2 d hr hg hd]
  constructor
  · rintro (⟨h1, h2⟩ | ⟨h1, h2⟩ | ⟨h1, ⟨_, h3⟩ | ⟨h2, _⟩⟩)
    · exact Or.inl ⟨h1, h2⟩
    · exact Or.inr ⟨by omega, h2⟩
    · exact Or.inr ⟨by omega, h3⟩
    · omega
  · rintro (⟨h1, h2⟩ | ⟨h1, h2⟩)
    · exact Or.inl ⟨h1, h2⟩
    · by_cases q : r = m
      · exact Or.inr (Or.inr ⟨q, Or.inl ⟨by omega, h2⟩⟩)
      · exact Or.inr (Or.inl ⟨by omega, h2⟩)
theorem nwP_at {Q N : Nat → Nat → Nat → Prop} {e m g c : Nat} {b : Nat → Int64} (h : nwP Q N e m g c b) (hm : m ≤ e) (hg : g < 3) (hc : c < 96) : bt b (3 * m + g) c ↔ Q m g c := by
  rw [h m g c hm hg hc]
  constructor
  · rintro (⟨h1, h2⟩ | ⟨h1, h2⟩ | ⟨h1, ⟨h2, _⟩ | ⟨_, h3⟩⟩)
    · omega
    · omega
    · omega
    · exact h3
  · exact fun h => Or.inr (Or.inr ⟨rfl, Or.inr ⟨by omega, h⟩⟩)
theorem nwP_next {Q N : Nat → Nat → Nat → Prop} {e m g c : Nat} {b : Nat → Int64} (h : nwP Q N e m g c b) (hm : m < e) {g2 d : Nat} (hg : g2 < 3) (hd : d < 96) : bt b (3 * m + 3 + g2) d ↔ N (e - (m + 1)) g2 d := by
  have := h (m + 1) g2 d (by omega) hg hd
  rw [show 3 * (m + 1) + g2 = 3 * m + 3 + g2 by omega] at this
  rw [this]
  constructor
  · rintro (⟨h1, h2⟩ | ⟨h1, h2⟩ | ⟨h1, _⟩)
    · omega
    · exact h2
    · omega
  · exact fun h => Or.inr (Or.inl ⟨by omega, h⟩)
theorem nwP_keep {Q N : Nat → Nat → Nat → Prop} {e m g c : Nat} {b : Nat → Int64} (h : nwP Q N e m g c b) (hq : Q m g c ↔ N (e - m) g c) : nwP Q N e m g (c + 1) b := by
  intro r g2 d hr hg hd
  rw [h r g2 d hr hg hd]
  by_cases q : r = m ∧ g2 = g ∧ d = c
  · obtain ⟨q1, q2, q3⟩ := q
    subst q1 q2 q3
    have e1 : ¬ (g2 < g2 ∨ (g2 = g2 ∧ d < d)) := by omega
    have e2 : (g2 < g2 ∨ (g2 = g2 ∧ d < d + 1)) := by omega
    constructor
    · rintro (⟨h1, _⟩ | ⟨h1, _⟩ | ⟨_, ⟨h1, _⟩ | ⟨_, h2⟩⟩)
      · omega
      · omega
      · exact absurd h1 e1
      · exact Or.inr (Or.inr ⟨rfl, Or.inl ⟨e2, hq.mp h2⟩⟩)
    · rintro (⟨h1, _⟩ | ⟨h1, _⟩ | ⟨_, ⟨_, h2⟩ | ⟨h1, _⟩⟩)
      · omega
      · omega
      · exact Or.inr (Or.inr ⟨rfl, Or.inr ⟨e1, hq.mpr h2⟩⟩)
      · exact absurd e2 h1
  · have e1 : r = m → ((g2 < g ∨ (g2 = g ∧ d < c)) ↔ (g2 < g ∨ (g2 = g ∧ d < c + 1))) := by intro; omega
    constructor
    · rintro (h1 | h1 | ⟨h1, h2⟩)
      · exact Or.inl h1
      · exact Or.inr (Or.inl h1)
      · exact Or.inr (Or.inr ⟨h1, by rw [← e1 h1]; exact h2⟩)
    · rintro (h1 | h1 | ⟨h1, h2⟩)
      · exact Or.inl h1
      · exact Or.inr (Or.inl h1)
      · exact Or.inr (Or.inr ⟨h1, by rw [e1 h1]; exact h2⟩)
theorem nwP_clr {Q N : Nat → Nat → Nat → Prop} {e m g c : Nat} {b : Nat → Int64} (h : nwP Q N e m g c b) (hm : m < 300) (hg3 : g < 3) (hc : c < 96) (hn : ¬ N (e - m) g c) : nwP Q N e m g (c + 1) (clrL b (nI (3 * m + g)) (nI c)) := by
  intro r g2 d hr hg hd
  rw [bb_clr (by omega) hc hd, h r g2 d hr hg hd]
  by_cases q : r = m ∧ g2 = g ∧ d = c
  · obtain ⟨q1, q2, q3⟩ := q
    subst q1 q2 q3
    have e2 : (g2 < g2 ∨ (g2 = g2 ∧ d < d + 1)) := by omega
    constructor
    · rintro ⟨_, h2⟩
      exact absurd ⟨rfl, rfl⟩ h2
    · rintro (⟨h1, _⟩ | ⟨h1, _⟩ | ⟨_, ⟨_, h2⟩ | ⟨h2, _⟩⟩)
      · omega
      · omega
      · exact absurd h2 hn
      · exact absurd e2 h2
  · have e0 : ¬ (3 * r + g2 = 3 * m + g ∧ d = c) := by omega
    have e1 : r = m → ((g2 < g ∨ (g2 = g ∧ d < c)) ↔ (g2 < g ∨ (g2 = g ∧ d < c + 1))) := by intro; omega
    constructor
    · rintro ⟨h1 | h1 | ⟨h1, h2⟩, _⟩
      · exact Or.inl h1
      · exact Or.inr (Or.inl h1)
      · exact Or.inr (Or.inr ⟨h1, by rw [← e1 h1]; exact h2⟩)
    · rintro (h1 | h1 | ⟨h1, h2⟩)
      · exact ⟨Or.inl h1, e0⟩
      · exact ⟨Or.inr (Or.inl h1), e0⟩
      · exact ⟨Or.inr (Or.inr ⟨h1, by rw [e1 h1]; exact h2⟩), e0⟩
theorem lwF_spec {ok : Nat → Prop} : ∀ (n w0 : Nat), (∀ w, lwF ok n w0 = some w → ok w ∧ w0 ≤ w ∧ w < w0 + n ∧ ∀ y, w0 ≤ y → y < w → ¬ ok y) ∧ (lwF ok n w0 = none → ∀ y, w0 ≤ y → y < w0 + n → ¬ ok y) := by
  intro n
  induction n with
  | zero => intro w0; exact ⟨fun w h => (by cases h), fun _ y h1 h2 => (by omega)⟩
  | succ n ih =>
    intro w0
    by_cases h : ok w0
    · rw [lwF_t h]
      refine ⟨fun w hw => ?_, fun h => by cases h⟩
      cases hw
      exact ⟨h, Nat.le_refl _, by omega, fun y h1 h2 => by omega⟩
    · rw [lwF_f h]
      obtain ⟨i1, i2⟩ := ih (w0 + 1)
      refine ⟨fun w hw => ?_, fun hn y h1 h2 => ?_⟩
      · obtain ⟨a1, a2, a3, a4⟩ := i1 w hw
        refine ⟨a1, by omega, by omega, fun y h1 h2 => ?_⟩
        by_cases q : y = w0
        · rw [q]; exact h
        · exact a4 y (by omega) h2
      · by_cases q : y = w0
        · rw [q]; exact h
        · exact i2 hn y (by omega) (by omega)
theorem lwF_lt {ok : Nat → Prop} {w : Nat} (h : lwF ok 5 0 = some w) : w < 96 := by
  have := (lwF_spec 5 0).1 w h
  omega
/-- a cell is kept if and only if a step leads on -/
theorem NN_iff {v : Nat → Int32} {A : Nat → Nat → Int32} {B : Nat → Nat → Int64} {t home e m g c : Nat} {b : Nat → Int64} {g0 c0 : Nat} (h : nwP (RR v A B t home) (NN v A B t home e) e m g0 c0 b) (hm : m < e) (hg : g < 3) (hc : c < 96) (hq : RR v A B t home m g c) : NN v A B t home e (e - m) g c ↔ ∃ w, w < 5 ∧ okW v A (va_up B 37 b) t m g c w := by
  rw [show e - m = (e - (m + 1)) + 1 by omega]
  show (RR v A B t home (e - (e - (m + 1) + 1)) g c ∧ ∃ w d, w < 5 ∧ gz v A B c w (e - (e - (m + 1))) = some d ∧ NN v A B t home e (e - (m + 1)) (dnN A t d g) d) ↔ _
  rw [show e - (e - (m + 1) + 1) = m by omega, show e - (e - (m + 1)) = m + 1 by omega]
  constructor
  · rintro ⟨_, w, d, h1, h2, h3⟩
    exact ⟨w, h1, d, h2, (nwP_next h hm (dnN_le hg) (gz_lt hc h1 h2)).mpr h3⟩
  · rintro ⟨w, h1, d, h2, h3⟩
    exact ⟨hq, w, d, h1, h2, (nwP_next h hm (dnN_le hg) (gz_lt hc h1 h2)).mp h3⟩
theorem m1_add (x : Int32) : x + Int32.ofInt (-1) = x - 1 := by
  rw [show Int32.ofInt (-1) = -1 from by decide, Int32.sub_eq_add_neg]
theorem nwM_0 {v : Nat → Int32} {A : Nat → Nat → Int32} {B : Nat → Nat → Int64} {t home e : Nat} {b b1 : Nat → Int64} (he : e ≤ 150) (hh : home < 96) (hM : mkM (RR v A B t home) e b) (h1 : ∀ j, j < 6 * e → b1 j = b j) (h2 : ∀ j, 6 * e ≤ j → j < 6 * e + 6 → b1 j = 0) : nwM (RR v A B t home) (NN v A B t home e) e e (addL b1 (nI (3 * e + 2)) (nI home)) := by
  intro r g d hr hg hd
  rw [bb_add (by omega) hh hd]
  by_cases q : r = e
  · subst q
    have z : ¬ bt b1 (3 * r + g) d := bb_zero (h2 _ (by omega) (by omega))
    constructor
    · rintro (h | ⟨h3, h4⟩)
      · exact absurd h z
      · refine Or.inr ⟨Nat.le_refl _, ?_⟩
        rw [Nat.sub_self]
        exact ⟨by omega, h4⟩
    · rintro (⟨h3, _⟩ | ⟨_, h4⟩)
      · omega
      · rw [Nat.sub_self] at h4
        obtain ⟨h5, h6⟩ := h4
        exact Or.inr ⟨by omega, h6⟩
  · have z : bt b1 (3 * r + g) d ↔ bt b (3 * r + g) d := by
      unfold bt
      rw [h1 _ (by omega)]
    rw [z, hM (3 * r + g) d (by omega) hd]
    constructor
    · rintro (⟨r', g', a1, a2, a3, a4⟩ | ⟨a1, _⟩)
      · have e1 : r' = r := by omega
        have e2 : g' = g := by omega
        subst e1 e2
        exact Or.inl ⟨by omega, a4⟩
      · omega
    · rintro (⟨_, h4⟩ | ⟨h3, _⟩)
      · exact Or.inl ⟨r, g, by omega, hg, rfl, h4⟩
      · omega
theorem nI6 (e : Nat) : (6 : Int32) * nI e = nI (6 * e) := by rw [show (6 : Int32) = nI 6 from rfl, pk_mul]
set_option maxHeartbeats 4000000 in
set_option maxRecDepth 100000 in
theorem k_Mod_narrow (l : Launch) (G : GG) (o : Nat) (r : Nat → Nat) (v : Nat → Int32) (A : Nat → Nat → Int32) (B : Nat → Nat → Int64) (t0 e0 : Nat) {pu home : Nat} (ht : t0 < 24) (he : e0 ≤ 150) (h38 : v 38 = nI pu) (hpu : pu < 6) (hhome : A 6 pu = nI home) (hh : home < 96) (hM0 : mkM (RR v A B t0 home) e0 (B 37)) : mct l G y_Mod_narrow c_Mod_narrow 6 none 3 72 [.ref o, .int (nI t0), .int (nI e0)] o r v A B (fun x v1 A1 B1 => x = none ∧ v1 = v ∧ A1 = A ∧ ∃ b1, B1 = va_up B 37 b1 ∧ nwM (RR v A B t0 home) (NN v A B t0 home e0) e0 0 b1) := by
  refine mct_intro (by decide) [some (.ref o), some (.int (nI t0)), some (.int (nI e0)), none, none, none] rfl rfl (Nat.le_of_ble_eq_true rfl) ?_
  intro p e s m below meth c ls P f C hr hlk hE hM hm hl
  refine lv_bipush (v := 6) C.1 C.2.1 d_Mod_narrow_0 (by decide) ?_
  refine lv_iload_n C.1 C.2.1 d_Mod_narrow_2 rfl (lo_at hl 2 rfl) ?_
  refine lv_imul C.1 C.2.1 d_Mod_narrow_3 ?_
  rw [nI6]
  refine lo_istore_n C hl d_Mod_narrow_4 (Nat.le_of_ble_eq_true rfl) rfl (fun ls hl => ?_)
  refine W.loop (α := (Nat) × (Nat → Int64) × (Array Slot) × (Heap) × (List Loc) × (Nat → va_E)) (fun a => 6 * e0 + 6 - a.1) (fun a => (6 * e0 ≤ a.1) ∧ (a.1 ≤ 6 * e0 + 6) ∧ (∀ j, 6 * e0 ≤ j → j < a.1 → a.2.1 j = 0) ∧ (∀ j, j < 6 * e0 → a.2.1 j = B 37 j) ∧ lo a.2.2.1 [some (.ref o), some (.int (nI t0)), some (.int (nI e0)), some (.int (nI a.1)), none, none] ∧ pgS G (pgA P s.heap.size) s.heap P a.2.2.2.2.2 a.2.2.2.1 a.2.2.2.2.1 ∧ mdS G o r P f a.2.2.2.2.2 (v) (A) (va_up B 37 a.2.1)) (fun a => a.2.2.2.1) (fun a => a.2.2.2.2.1) (fun _ => 0) (fun _ => 0) (fun a => F0 m 5 a.2.2.1 []) ?_ (6 * e0, B 37, ls, s.heap, [], f) ⟨Nat.le_refl _, by omega, fun j h1 h2 => absurd h1 (by omega), fun j _ => rfl, lo_weak hl ⟨rfl, rfl, rfl, rfl, trivial⟩, hM, (by rw [va_up_id]; exact hm)⟩
  rintro ⟨k, b1, ls, H1, locs1, f1⟩ ⟨hk, hk2, hz, hs, hl, hM, hm⟩ ih5
  dsimp only at hk hk2 hz hs hl hM hm
  show W _ _ _ _ _ _ _ _ _ _ _ _ _ _ _ (F0 m 5 ls [])
  refine lv_iload_n C.1 C.2.1 d_Mod_narrow_5 rfl (lo_at hl 3 rfl) ?_
  refine lv_bipush (v := 6) C.1 C.2.1 d_Mod_narrow_6 (by decide) ?_
  refine lv_iload_n C.1 C.2.1 d_Mod_narrow_8 rfl (lo_at hl 2 rfl) ?_
  refine lv_imul C.1 C.2.1 d_Mod_narrow_9 ?_
  refine lv_bipush (v := 6) C.1 C.2.1 d_Mod_narrow_10 (by decide) ?_
  refine lv_iadd C.1 C.2.1 d_Mod_narrow_12 ?_
  rw [nI6, show nI (6 * e0) + 6 = nI (6 * e0 + 6) from nI_add (6 * e0) 6]
  refine lv_icmp_ge (tgt := 29) C.1 C.2.1 d_Mod_narrow_13 (by decide) (fun hc13 => ?_) (fun hc13 => ?_)
  · have hk9 : k = 6 * e0 + 6 := Nat.le_antisymm hk2 (nI_leN (by omega) (by omega) hc13)
    refine lv_aload_n C.1 C.2.1 d_Mod_narrow_29 rfl (lo_at hl 0 rfl) ?_
    refine md_get C hE hM hm 37 (Nat.le_of_ble_eq_true rfl) tw_819 rfl rfl d_Mod_narrow_30 ?_
    refine lv_iconst (v := 3) C.1 C.2.1 d_Mod_narrow_33 (by decide) ?_
    refine lv_iload_n C.1 C.2.1 d_Mod_narrow_34 rfl (lo_at hl 2 rfl) ?_
    refine lv_imul C.1 C.2.1 d_Mod_narrow_35 ?_
    refine lv_iconst (v := 2) C.1 C.2.1 d_Mod_narrow_36 (by decide) ?_
    refine lv_iadd C.1 C.2.1 d_Mod_narrow_37 ?_
    refine lv_aload_n C.1 C.2.1 d_Mod_narrow_38 rfl (lo_at hl 0 rfl) ?_
    refine md_get C hE hM hm 6 (Nat.le_of_ble_eq_true rfl) tw_788 rfl rfl d_Mod_narrow_39 ?_
    refine lv_aload_n C.1 C.2.1 d_Mod_narrow_42 rfl (lo_at hl 0 rfl) ?_
    refine md_get (x := .int (v 38)) C hE hM hm 38 (Nat.le_of_ble_eq_true rfl) tw_820 rfl rfl d_Mod_narrow_43 ?_
    refine md_ialdN C hE hM hm 6 rfl pu h38 (show pu < 96 by omega) d_Mod_narrow_46 ?_
    rw [hhome, show (3 : Int32) * nI e0 + 2 = nI (3 * e0 + 2) from nI3 e0 2]
    refine md_callS C hE hM hm (k_Mod_add l G o r _ _ _ 37 rfl _ _ (vp_lj (N := 908) (by omega) hh (by omega) (by decide))) tw_1006 cy_Mod_add ⟨(Nat.le_of_ble_eq_true rfl), (Nat.le_of_ble_eq_true rfl)⟩ rfl hl.1 rfl (Nat.le_of_ble_eq_true rfl) ⟨Nat.zero_le _, Nat.zero_le _⟩ d_Mod_narrow_47 (fun x9 f1 H1 locs1 v9 A9 B9 hp hM hm => ?_)
    obtain ⟨hx9, hv9, hA9, hB9⟩ := hp
    subst hx9
    rw [hv9, hA9, hB9] at hm
    refine W.eq (g2 := F0 m 50 ls _) rfl ?_
    refine lv_iload_n C.1 C.2.1 d_Mod_narrow_50 rfl (lo_at hl 2 rfl) ?_
    refine lv_iconst (v := 1) C.1 C.2.1 d_Mod_narrow_51 (by decide) ?_
    refine lv_isub C.1 C.2.1 d_Mod_narrow_52 ?_
    refine lo_istore_n C hl d_Mod_narrow_53 (Nat.le_of_ble_eq_true rfl) rfl (fun ls hl => ?_)
    refine W.loop (α := (Nat) × (Nat → Int64) × (Array Slot) × (Heap) × (List Loc) × (Nat → va_E)) (fun a => a.1) (fun a => (a.1 ≤ e0) ∧ (nwM (RR v A B t0 home) (NN v A B t0 home e0) e0 a.1 a.2.1) ∧ lo a.2.2.1 [some (.ref o), some (.int (nI t0)), some (.int (nI e0)), some (.int (nI a.1 - 1)), none, none] ∧ pgS G (pgA P s.heap.size) s.heap P a.2.2.2.2.2 a.2.2.2.1 a.2.2.2.2.1 ∧ mdS G o r P f a.2.2.2.2.2 (v) (A) (va_up B 37 a.2.1)) (fun a => a.2.2.2.1) (fun a => a.2.2.2.2.1) (fun _ => 0) (fun _ => 0) (fun a => F0 m 54 a.2.2.1 []) ?_ (e0, addL b1 (nI (3 * e0 + 2)) (nI home), ls, H1, locs1, f1) ⟨Nat.le_refl _, nwM_0 he hh hM0 hs (fun j h1 h2 => hz j h1 (by omega)), lo_weak hl ⟨rfl, rfl, rfl, rfl, trivial⟩, hM, (by rw [bx_uu, va_up_self] at hm; exact hm)⟩
    rintro ⟨m1, b1, ls, H1, locs1, f1⟩ ⟨hm1, hMm, hl, hM, hm⟩ ih54
    dsimp only at hm1 hMm hl hM hm
    show W _ _ _ _ _ _ _ _ _ _ _ _ _ _ _ (F0 m 54 ls [])
    refine lv_iload_n C.1 C.2.1 d_Mod_narrow_54 rfl (lo_at hl 3 rfl) ?_
    refine lv_if_lt (tgt := 156) C.1 C.2.1 d_Mod_narrow_55 (by decide) (fun hc55 => ?_) (fun hc55 => ?_)
    · have hm9 : m1 = 0 := by
        cases m1 with
        | zero => rfl
        | succ m0 => rw [nI_pred] at hc55; exact absurd hc55 (nI_pos (by omega))
      refine md_vret C hr hlk hM hm d_Mod_narrow_156 ?_
      refine ⟨rfl, rfl, rfl, b1, rfl, ?_⟩
      rw [hm9] at hMm; exact hMm
    · obtain ⟨m0, rfl⟩ : ∃ m0, m1 = m0 + 1 := by
        cases m1 with
        | zero => exact absurd (by decide) hc55
        | succ m0 => exact ⟨m0, rfl⟩
      have hl := hl
      rw [nI_pred] at hl
      refine lv_iconst (v := 0) C.1 C.2.1 d_Mod_narrow_58 (by decide) ?_
      refine lo_istore C hl d_Mod_narrow_59 (Nat.le_of_ble_eq_true rfl) rfl (fun ls hl => ?_)
      refine W.loop (α := (Nat) × (Nat → Int64) × (Array Slot) × (Heap) × (List Loc) × (Nat → va_E)) (fun a => 3 - a.1) (fun a => (a.1 ≤ 3) ∧ (nwP (RR v A B t0 home) (NN v A B t0 home e0) e0 m0 a.1 0 a.2.1) ∧ lo a.2.2.1 [some (.ref o), some (.int (nI t0)), some (.int (nI e0)), some (.int (nI m0)), some (.int (nI a.1)), none] ∧ pgS G (pgA P s.heap.size) s.heap P a.2.2.2.2.2 a.2.2.2.1 a.2.2.2.2.1 ∧ mdS G o r P f a.2.2.2.2.2 (v) (A) (va_up B 37 a.2.1)) (fun a => a.2.2.2.1) (fun a => a.2.2.2.2.1) (fun _ => 0) (fun _ => 0) (fun a => F0 m 61 a.2.2.1 []) ?_ (0, b1, ls, H1, locs1, f1) ⟨Nat.zero_le _, nwP_0 hMm, lo_weak hl ⟨rfl, rfl, rfl, rfl, rfl, trivial⟩, hM, hm⟩
      rintro ⟨g0, b1, ls, H1, locs1, f1⟩ ⟨hg0, hPg, hl, hM, hm⟩ ih61
      dsimp only at hg0 hPg hl hM hm
      show W _ _ _ _ _ _ _ _ _ _ _ _ _ _ _ (F0 m 61 ls [])
      refine lv_iload C.1 C.2.1 d_Mod_narrow_61 (lo_at hl 4 rfl) ?_
      refine lv_iconst (v := 3) C.1 C.2.1 d_Mod_narrow_63 (by decide) ?_
      rw [show (3 : Int32) = nI 3 from rfl]
      refine lv_icmp_ge (tgt := 150) C.1 C.2.1 d_Mod_narrow_64 (by decide) (fun hc64 => ?_) (fun hc64 => ?_)
      · have hg9 : g0 = 3 := Nat.le_antisymm hg0 (nI_leN (by omega) (by omega) hc64)
        rw [hg9] at hPg
        have hMn := nwP_done hPg
        refine lo_iinc C hl d_Mod_narrow_150 rfl rfl (fun ls hl => ?_)
        refine lv_goto (tgt := 54) C.1 C.2.1 d_Mod_narrow_153 (by decide) ?_
        have h9 := hl
        rw [m1_add] at h9
        exact ih54 (m0, b1, ls, H1, locs1, f1) ⟨by omega, hMn, lo_weak h9 ⟨rfl, rfl, rfl, rfl, trivial⟩, hM, hm⟩ (by show (m0) < m0 + 1; omega)
      · have hg9 : g0 < 3 := nI_ltN (by omega) (by omega) hc64
        refine lv_iconst (v := 0) C.1 C.2.1 d_Mod_narrow_67 (by decide) ?_
        refine lo_istore C hl d_Mod_narrow_68 (Nat.le_of_ble_eq_true rfl) rfl (fun ls hl => ?_)
        refine W.loop (α := (Nat) × (Nat → Int64) × (Array Slot) × (Heap) × (List Loc) × (Nat → va_E)) (fun a => 96 - a.1) (fun a => (a.1 ≤ 96) ∧ (nwP (RR v A B t0 home) (NN v A B t0 home e0) e0 m0 g0 a.1 a.2.1) ∧ lo a.2.2.1 [some (.ref o), some (.int (nI t0)), some (.int (nI e0)), some (.int (nI m0)), some (.int (nI g0)), some (.int (nI a.1))] ∧ pgS G (pgA P s.heap.size) s.heap P a.2.2.2.2.2 a.2.2.2.1 a.2.2.2.2.1 ∧ mdS G o r P f a.2.2.2.2.2 (v) (A) (va_up B 37 a.2.1)) (fun a => a.2.2.2.1) (fun a => a.2.2.2.2.1) (fun _ => 0) (fun _ => 0) (fun a => F0 m 70 a.2.2.1 []) ?_ (0, b1, ls, H1, locs1, f1) ⟨Nat.zero_le _, hPg, lo_weak hl ⟨rfl, rfl, rfl, rfl, rfl, rfl, trivial⟩, hM, hm⟩
        rintro ⟨c0, b1, ls, H1, locs1, f1⟩ ⟨hc0, hPc, hl, hM, hm⟩ ih70
        dsimp only at hc0 hPc hl hM hm
        show W _ _ _ _ _ _ _ _ _ _ _ _ _ _ _ (F0 m 70 ls [])
        refine lv_iload C.1 C.2.1 d_Mod_narrow_70 (lo_at hl 5 rfl) ?_
        refine lv_bipush (v := 96) C.1 C.2.1 d_Mod_narrow_72 (by decide) ?_
        rw [show (96 : Int32) = nI 96 from rfl]
        refine lv_icmp_ge (tgt := 144) C.1 C.2.1 d_Mod_narrow_74 (by decide) (fun hc74 => ?_) (fun hc74 => ?_)
        · have hc9 : c0 = 96 := Nat.le_antisymm hc0 (nI_leN (by omega) (by omega) hc74)
          rw [hc9] at hPc
          refine lo_iinc C hl d_Mod_narrow_144 rfl rfl (fun ls hl => ?_)
          refine lv_goto (tgt := 61) C.1 C.2.1 d_Mod_narrow_147 (by decide) ?_
          have h9 := hl
          rw [nI_pl] at h9
          exact ih61 (g0 + 1, b1, ls, H1, locs1, f1) ⟨by omega, nwP_row hPc, lo_weak h9 ⟨rfl, rfl, rfl, rfl, rfl, trivial⟩, hM, hm⟩ (by show 3 - (g0 + 1) < 3 - g0; omega)
        · have hc9 : c0 < 96 := nI_ltN (by omega) (by omega) hc74
          refine lv_aload_n C.1 C.2.1 d_Mod_narrow_77 rfl (lo_at hl 0 rfl) ?_
          refine md_get C hE hM hm 37 (Nat.le_of_ble_eq_true rfl) tw_819 rfl rfl d_Mod_narrow_78 ?_
          refine lv_iconst (v := 3) C.1 C.2.1 d_Mod_narrow_81 (by decide) ?_
          refine lv_iload_n C.1 C.2.1 d_Mod_narrow_82 rfl (lo_at hl 3 rfl) ?_
          refine lv_imul C.1 C.2.1 d_Mod_narrow_83 ?_
          refine lv_iload C.1 C.2.1 d_Mod_narrow_84 (lo_at hl 4 rfl) ?_
          refine lv_iadd C.1 C.2.1 d_Mod_narrow_86 ?_
          refine lv_iload C.1 C.2.1 d_Mod_narrow_87 (lo_at hl 5 rfl) ?_
          rw [nI3]
          refine md_callS C hE hM hm (k_Mod_isIn l G o r _ _ _ 37 rfl _ _ (vp_lj (N := 908) (by omega) hc9 (by omega) (by decide))) tw_1013 cy_Mod_isIn ⟨(Nat.le_of_ble_eq_true rfl), (Nat.le_of_ble_eq_true rfl)⟩ rfl hl.1 rfl (Nat.le_of_ble_eq_true rfl) ⟨Nat.zero_le _, Nat.zero_le _⟩ d_Mod_narrow_89 (fun x9 f1 H1 locs1 v9 A9 B9 hp hM hm => ?_)
          obtain ⟨hx9, hv9, hA9, hB9⟩ := hp
          subst hx9
          rw [hv9, hA9, hB9] at hm
          refine W.eq (g2 := F0 m 92 ls (_ :: _)) rfl ?_
          refine lv_if_eq (tgt := 138) C.1 C.2.1 d_Mod_narrow_92 (by decide) (fun hc92 => ?_) (fun hc92 => ?_)
          · replace hc92 := bz_0.mp hc92
            refine lo_iinc C hl d_Mod_narrow_138 rfl rfl (fun ls hl => ?_)
            refine lv_goto (tgt := 70) C.1 C.2.1 d_Mod_narrow_141 (by decide) ?_
            have hPn := nwP_keep hPc (show RR v A B t0 home m0 g0 c0 ↔ _ from ⟨fun z => absurd ((bb_isI (by omega) hc9).mpr ((nwP_at hPc (by omega) hg9 hc9).mpr z)) hc92, fun z => absurd ((bb_isI (by omega) hc9).mpr ((nwP_at hPc (by omega) hg9 hc9).mpr (by rw [show e0 - m0 = (e0 - (m0 + 1)) + 1 by omega] at z; have z1 := z.1; rw [show e0 - (e0 - (m0 + 1) + 1) = m0 by omega] at z1; exact z1))) hc92⟩)
            have h9 := hl
            rw [nI_pl] at h9
            exact ih70 (c0 + 1, b1, ls, H1, locs1, f1) ⟨by omega, hPn, lo_weak h9 ⟨rfl, rfl, rfl, rfl, rfl, rfl, trivial⟩, hM, hm⟩ (by show 96 - (c0 + 1) < 96 - c0; omega)
          · replace hc92 := bz_1.mp hc92
            refine lv_aload_n C.1 C.2.1 d_Mod_narrow_95 rfl (lo_at hl 0 rfl) ?_
            refine lv_iload_n C.1 C.2.1 d_Mod_narrow_96 rfl (lo_at hl 1 rfl) ?_
            refine lv_iload_n C.1 C.2.1 d_Mod_narrow_97 rfl (lo_at hl 3 rfl) ?_
            refine lv_iload C.1 C.2.1 d_Mod_narrow_98 (lo_at hl 4 rfl) ?_
            refine lv_iload C.1 C.2.1 d_Mod_narrow_100 (lo_at hl 5 rfl) ?_
            refine md_callV C hE hM hm (k_Mod_lowest l G o r v A (va_up B 37 b1) t0 m0 g0 c0 (pu := pu) ht (by omega) hg9 hc9 h38 hpu) rfl tw_1036 cy_Mod_lowest ⟨(Nat.le_of_ble_eq_true rfl), (Nat.le_of_ble_eq_true rfl)⟩ rfl hl.1 rfl (Nat.le_of_ble_eq_true rfl) ⟨Nat.zero_le _, Nat.zero_le _⟩ d_Mod_narrow_102 (fun x9 f1 H1 locs1 v9 A9 B9 hp hM hm => ?_)
            obtain ⟨hx9, hv9, hA9, hB9⟩ := hp
            subst hx9
            rw [hv9, hA9, hB9] at hm
            refine W.eq (g2 := F0 m 105 ls (_ :: _)) rfl ?_
            refine lv_if_ge (tgt := 138) C.1 C.2.1 d_Mod_narrow_105 (by decide) (fun hc105 => ?_) (fun hc105 => ?_)
            · refine lo_iinc C hl d_Mod_narrow_138 rfl rfl (fun ls hl => ?_)
              refine lv_goto (tgt := 70) C.1 C.2.1 d_Mod_narrow_141 (by decide) ?_
              have hq := ((nwP_at hPc (by omega) hg9 hc9).mp ((bb_isI (by omega) hc9).mp hc92))
              have hPn := nwP_keep hPc (show RR v A B t0 home m0 g0 c0 ↔ _ from ⟨fun _ => (NN_iff hPc (by omega) hg9 hc9 hq).mpr (by
                cases hlw : lwF (okW v A (va_up B 37 b1) t0 m0 g0 c0) 5 0 with
                | none => rw [hlw] at hc105; exact absurd hc105 (by decide)
                | some y => obtain ⟨y1, y2, y3, _⟩ := (lwF_spec 5 0).1 y hlw; exact ⟨y, by omega, y1⟩), fun _ => hq⟩)
              have h9 := hl
              rw [nI_pl] at h9
              exact ih70 (c0 + 1, b1, ls, H1, locs1, f1) ⟨by omega, hPn, lo_weak h9 ⟨rfl, rfl, rfl, rfl, rfl, rfl, trivial⟩, hM, hm⟩ (by show 96 - (c0 + 1) < 96 - c0; omega)
            · refine lv_aload_n C.1 C.2.1 d_Mod_narrow_108 rfl (lo_at hl 0 rfl) ?_
              refine md_get C hE hM hm 37 (Nat.le_of_ble_eq_true rfl) tw_819 rfl rfl d_Mod_narrow_109 ?_
              refine lv_iconst (v := 2) C.1 C.2.1 d_Mod_narrow_112 (by decide) ?_
              refine lv_iconst (v := 3) C.1 C.2.1 d_Mod_narrow_113 (by decide) ?_
              refine lv_iload_n C.1 C.2.1 d_Mod_narrow_114 rfl (lo_at hl 3 rfl) ?_
              refine lv_imul C.1 C.2.1 d_Mod_narrow_115 ?_
              refine lv_iload C.1 C.2.1 d_Mod_narrow_116 (lo_at hl 4 rfl) ?_
              refine lv_iadd C.1 C.2.1 d_Mod_narrow_118 ?_
              rw [nI3]
              refine lv_imul C.1 C.2.1 d_Mod_narrow_119 ?_
              refine lv_iload C.1 C.2.1 d_Mod_narrow_120 (lo_at hl 5 rfl) ?_
              refine lv_bipush (v := 6) C.1 C.2.1 d_Mod_narrow_122 (by decide) ?_
              refine lv_ishr C.1 C.2.1 d_Mod_narrow_124 ?_
              refine lv_iadd C.1 C.2.1 d_Mod_narrow_125 ?_
              refine lv_dup2_11 C.1 C.2.1 d_Mod_narrow_126 rfl rfl ?_
              refine md_lald C hE hM hm 37 rfl (vp_lj (N := 908) (by omega) hc9 (by omega) (by decide)) d_Mod_narrow_127 ?_
              refine lv_lconst (v := 1) C.1 C.2.1 d_Mod_narrow_128 (by decide) ?_
              refine lv_iload C.1 C.2.1 d_Mod_narrow_129 (lo_at hl 5 rfl) ?_
              refine lv_lshl C.1 C.2.1 d_Mod_narrow_131 rfl ?_
              refine lv_ldc2 C.1 C.2.1 C.2.2.2.1 (C.2.2.2.2 _ tw_1040) d_Mod_narrow_132 ?_
              refine lv_lxor C.1 C.2.1 d_Mod_narrow_135 ?_
              refine lv_land C.1 C.2.1 d_Mod_narrow_136 ?_
              refine md_last C hE hM hm 37 rfl (vp_lj (N := 908) (by omega) hc9 (by omega) (by decide)) d_Mod_narrow_137 (fun f1 H1 locs1 hM hm => ?_)
              refine lo_iinc C hl d_Mod_narrow_138 rfl rfl (fun ls hl => ?_)
              refine lv_goto (tgt := 70) C.1 C.2.1 d_Mod_narrow_141 (by decide) ?_
              have hq := ((nwP_at hPc (by omega) hg9 hc9).mp ((bb_isI (by omega) hc9).mp hc92))
              have hPn := nwP_clr hPc (by omega) hg9 hc9 (fun z => by
                obtain ⟨y, y1, y2⟩ := (NN_iff hPc (by omega) hg9 hc9 hq).mp z
                cases hlw : lwF (okW v A (va_up B 37 b1) t0 m0 g0 c0) 5 0 with
                | none => exact (lwF_spec 5 0).2 hlw y (Nat.zero_le _) (by omega) y2
                | some y => rw [hlw] at hc105; exact hc105 (nI_pos' (by have := lwF_lt hlw; omega)))
              rw [bx_uu] at hm
              have h9 := hl
              rw [nI_pl] at h9
              exact ih70 (c0 + 1, clrL b1 (nI (3 * m0 + g0)) (nI c0), ls, H1, locs1, f1) ⟨by omega, hPn, lo_weak h9 ⟨rfl, rfl, rfl, rfl, rfl, rfl, trivial⟩, hM, hm⟩ (by show 96 - (c0 + 1) < 96 - c0; omega)
  · have hk9 : k < 6 * e0 + 6 := nI_ltN (by omega) (by omega) hc13
    refine lv_aload_n C.1 C.2.1 d_Mod_narrow_16 rfl (lo_at hl 0 rfl) ?_
    refine md_get C hE hM hm 37 (Nat.le_of_ble_eq_true rfl) tw_819 rfl rfl d_Mod_narrow_17 ?_
    refine lv_iload_n C.1 C.2.1 d_Mod_narrow_20 rfl (lo_at hl 3 rfl) ?_
    refine lv_lconst (v := 0) C.1 C.2.1 d_Mod_narrow_21 (by decide) ?_
    refine md_lastN C hE hM hm 37 rfl k rfl (show k < 908 by omega) d_Mod_narrow_22 (fun f1 H1 locs1 hM hm => ?_)
    refine lo_iinc C hl d_Mod_narrow_23 rfl rfl (fun ls hl => ?_)
    refine lv_goto (tgt := 5) C.1 C.2.1 d_Mod_narrow_26 (by decide) ?_
    have h9 := hl
    rw [nI_pl] at h9
    exact ih5 (k + 1, vp_updL b1 k 0, ls, H1, locs1, f1) ⟨by omega, by omega, fun j h1 h2 => by show vp_updL b1 k 0 j = 0; unfold vp_updL; split; rfl; exact hz j h1 (by omega), fun j h1 => by show vp_updL b1 k 0 j = _; unfold vp_updL; rw [if_neg (by omega)]; exact hs j h1, lo_weak h9 ⟨rfl, rfl, rfl, rfl, trivial⟩, hM, (by rw [bx_uu] at hm; exact hm)⟩ (by show 6 * e0 + 6 - (k + 1) < 6 * e0 + 6 - k; omega)
