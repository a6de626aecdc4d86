/-! lists, as their users see them -/
theorem ct_post {l : Launch} {G : GG} {y : MethodName} {cc : ByteArray} {nL : Nat} {rt : Option FieldType} {fr lc mc ms : Nat} {av : List Value} {P : List Nat} {f : Nat → va_E} {post post' : Option Value → List Nat → (Nat → va_E) → Prop} (h : ct l G y cc nL rt fr lc mc ms av P f post) (hq : ∀ x N f1, post x N f1 → (∀ q ∈ N, q ∉ P ∧ q ≠ G.2.2) → post' x N f1) : ct l G y cc nL rt fr lc mc ms av P f post' := by
  intro sz p e ha hc hk s m args below hf happ hPc hK
  have hsz : s.heap.size = sz := hPc.2.1
  have hR : pgR G P f s.heap := hPc.2.2.1
  obtain ⟨n, o, h1, h2, h3, ⟨⟨v, N, f', g1, g2, g3, g4, g5⟩, h5⟩⟩ := h sz p e ha hc hk s m args below hf happ hPc hK
  refine ⟨n, o, h1, h2, h3, ⟨v, N, f', g1, hq v N f' g2 (fun q hq => ⟨fun hqP => ?_, fun hz => ?_⟩), g3, g4, g5⟩, h5⟩
  · have h8 := va_pl_lt (X := []) hR.1 hqP
    have h9 := g4 q hq
    omega
  · obtain ⟨cell, hcell, -⟩ := hPc.2.2.2.2.1.2
    have h8 := (Array.getElem?_eq_some_iff.mp hcell).1
    have h9 := g4 q hq
    rw [hz] at h9
    omega
def lsS (G : GG) (P : List Nat) (f : Nat → va_E) (b cap n : Nat) (g : Nat → Nat) : Prop :=
  b ∈ P ∧ ∃ d m0, f b = .inr (3, [.ref d, .int (nI n), .int m0]) ∧ n ≤ cap ∧ cap < 60000 ∧ ((cap = 0 ∧ d = G.2.2) ∨ (0 < cap ∧ d ∈ P ∧ ∃ h, f d = arR G 5 cap h ∧ ∀ i, i < n → h i = some (g i)))
/-- an array of the pool is one list's alone -/
def sepL (P : List Nat) (f : Nat → va_E) : Prop := ∀ b1 b2 d n1 n2 m1 m2, b1 ∈ P → b2 ∈ P → f b1 = .inr (3, [.ref d, n1, m1]) → f b2 = .inr (3, [.ref d, n2, m2]) → d ∈ P → b1 = b2
/-- lists' arrays are of the pool, or the empty one -/
def inP (G : GG) (P : List Nat) (f : Nat → va_E) : Prop := ∀ a d n m, a ∈ P → f a = .inr (3, [.ref d, n, m]) → d ∈ P ∨ d = G.2.2
def lsW (G : GG) (P : List Nat) (f : Nat → va_E) : Prop := sepL P f ∧ inP G P f
/-- what a write to the list b leaves -/
def frL (G : GG) (P : List Nat) (f : Nat → va_E) (P1 : List Nat) (f1 : Nat → va_E) (b : Nat) : Prop :=
  (∀ a, a ∈ P → a ≠ b → (∀ n h, f a ≠ arR G 5 n h) → f1 a = f a) ∧ (∀ b2 cap2 n2 g2, b2 ≠ b → lsS G P f b2 cap2 n2 g2 → lsS G P1 f1 b2 cap2 n2 g2) ∧ lsW G P1 f1
theorem frL.ob {G : GG} {P P1 : List Nat} {f f1 : Nat → va_E} {b a ci : Nat} {fs : List Value} (h : frL G P f P1 f1 b) (ha : a ∈ P) (hab : a ≠ b) (hf : f a = .inr (ci, fs)) : f1 a = .inr (ci, fs) :=
  (h.1 a ha hab (fun n h z => by rw [hf] at z; cases z)).trans hf
theorem frL.ai {G : GG} {P P1 : List Nat} {f f1 : Nat → va_E} {b a n t : Nat} {g : Nat → Int32} (h : frL G P f P1 f1 b) (ha : a ∈ P) (hab : a ≠ b) (hf : f a = .inl (G.2.1 t, n, .inl g)) : f1 a = .inl (G.2.1 t, n, .inl g) :=
  (h.1 a ha hab (fun n h z => by rw [hf] at z; have := congrArg (fun q => q.2.2) (Sum.inl.inj z); cases this)).trans hf
theorem frL.ar {G : GG} {P P1 : List Nat} {f f1 : Nat → va_E} {b a n t : Nat} {g : Nat → Option Nat} (h : frL G P f P1 f1 b) (ha : a ∈ P) (hab : a ≠ b) (hf : f a = arR G t n g) (ht : G.2.1 t ≠ G.2.1 5) : f1 a = arR G t n g :=
  (h.1 a ha hab (fun n h z => by rw [hf] at z; exact ht (congrArg Prod.fst (Sum.inl.inj z)))).trans hf
theorem oOk.fr {G : GG} {P P1 : List Nat} {f f1 : Nat → va_E} {b y : Nat} (h : frL G P f P1 f1 b) (hb : ∃ fs, f b = .inr (3, fs)) (hy : oOk P f y) (hP : y ∈ P1) : oOk P1 f1 y := by
  obtain ⟨fs, hb⟩ := hb
  obtain ⟨h1, ci, gs, r, h2, h3⟩ := hy
  exact ⟨hP, ci, gs, r, h.ob h1 (ob_ne h2 hb h3.2.2) h2, h3⟩
def gzc (cap n : Nat) : Nat := if n < cap then 0 else ncap cap
def nc (cap n : Nat) : Nat := if n < cap then cap else ncap cap
theorem lsS.cell {G : GG} {P : List Nat} {f : Nat → va_E} {b cap n : Nat} {g : Nat → Nat} (h : lsS G P f b cap n g) : ∃ d m0, f b = .inr (3, [.ref d, .int (nI n), .int m0]) := by
  obtain ⟨-, d, m0, h1, -⟩ := h
  exact ⟨d, m0, h1⟩
theorem lsS.cel {G : GG} {P : List Nat} {f : Nat → va_E} {b cap n : Nat} {g : Nat → Nat} (h : lsS G P f b cap n g) : ∃ fs, f b = .inr (3, fs) := by
  obtain ⟨d, m0, h1⟩ := h.cell
  exact ⟨_, h1⟩
theorem lsS.fun {G : GG} {P : List Nat} {f : Nat → va_E} {b cap n : Nat} {g g' : Nat → Nat} (h : lsS G P f b cap n g) (hg : ∀ i, i < n → g' i = g i) : lsS G P f b cap n g' := by
  obtain ⟨h0, d, m0, h1, h2, h3, h4⟩ := h
  refine ⟨h0, d, m0, h1, h2, h3, h4.imp id ?_⟩
  rintro ⟨a1, a2, hh, a3, a4⟩
  exact ⟨a1, a2, hh, a3, fun i hi => by rw [hg i hi]; exact a4 i hi⟩
/-- other cells are written or made: a list stays -/
theorem lsS.keep {G : GG} {P P1 : List Nat} {f f1 : Nat → va_E} {b cap n : Nat} {g : Nat → Nat} (h : lsS G P f b cap n g) (hP : ∀ a, a ∈ P → a ∈ P1) (hb : f1 b = f b) (ha : ∀ a, a ∈ P → (∃ n h, f a = arR G 5 n h) → f1 a = f a) : lsS G P1 f1 b cap n g := by
  obtain ⟨h0, d, m0, h1, h2, h3, h4⟩ := h
  refine ⟨hP _ h0, d, m0, hb.trans h1, h2, h3, h4.imp id ?_⟩
  rintro ⟨a1, a2, hh, a3, a4⟩
  exact ⟨a1, hP _ a2, hh, (ha d a2 ⟨_, _, a3⟩).trans a3, a4⟩
theorem q_size (l : Launch) (G : GG) {P : List Nat} {f : Nat → va_E} {b cap n : Nat} {g : Nat → Nat} (h : lsS G P f b cap n g) : ct0 l G y_AL_size c_AL_size 1 (some .int) 0 0 [.ref b] P f (fun x f1 => x = some (.int (nI n)) ∧ f1 = f) := by
  obtain ⟨h0, d, m0, h1, -⟩ := h
  exact k_AL_size l G b d m0 n h0 h1
theorem q_get (l : Launch) (G : GG) {P : List Nat} {f : Nat → va_E} {b cap n : Nat} {g : Nat → Nat} (h : lsS G P f b cap n g) (i : Nat) (hi : i < n) : ct0 l G y_AL_get c_AL_get 2 (some (.object "java/lang/Object")) 2 43 [.ref b, .int (nI i)] P f (fun x f1 => x = some (.ref (g i)) ∧ f1 = f) := by
  obtain ⟨h0, d, m0, h1, h2, h3, h4⟩ := h
  rcases h4 with ⟨h5, h6⟩ | ⟨h5, h6, hh, h7, h8⟩
  · omega
  · exact k_AL_get l G b d m0 n h0 h1 cap hh h6 h7 (by omega) i (g i) hi h2 (h8 i hi)
theorem sep_up {P P1 : List Nat} {f f1 : Nat → va_E} {b d : Nat} {n m : Value} (hs : sepL P f) (hP : ∀ a, a ∈ P1 → a ∈ P ∨ ¬ ∃ fs, f1 a = .inr (3, fs)) (hfb : f1 b = .inr (3, [.ref d, n, m])) (ho : ∀ a, a ∈ P → a ≠ b → (∃ fs, f1 a = .inr (3, fs)) → f1 a = f a) (hd : ∀ a n' m', a ∈ P → a ≠ b → f a = .inr (3, [.ref d, n', m']) → d ∉ P1) (hnew : ∀ a, a ∈ P → a ≠ b → ∀ d' n' m', f a = .inr (3, [.ref d', n', m']) → d' ∈ P1 → d' ∈ P) : sepL P1 f1 := by
  intro b1 b2 d' n1 n2 m1 m2 hb1 hb2 h1 h2 hdP
  have hb1' := (hP b1 hb1).resolve_right (fun z => z ⟨_, h1⟩)
  have hb2' := (hP b2 hb2).resolve_right (fun z => z ⟨_, h2⟩)
  by_cases e1 : b1 = b
  · by_cases e2 : b2 = b
    · rw [e1, e2]
    · exfalso
      rw [e1, hfb] at h1
      have hx := (ho b2 hb2' e2 ⟨_, h2⟩).symm.trans h2
      cases h1
      exact hd b2 _ _ hb2' e2 hx hdP
  · by_cases e2 : b2 = b
    · exfalso
      rw [e2, hfb] at h2
      have hx := (ho b1 hb1' e1 ⟨_, h1⟩).symm.trans h1
      cases h2
      exact hd b1 _ _ hb1' e1 hx hdP
    · have hx1 := (ho b1 hb1' e1 ⟨_, h1⟩).symm.trans h1
      have hx2 := (ho b2 hb2' e2 ⟨_, h2⟩).symm.trans h2
      exact hs b1 b2 d' n1 n2 m1 m2 hb1' hb2' hx1 hx2 (hnew b1 hb1' e1 d' n1 m1 hx1 hdP)
/-- a list's own array, or a new one in its place, is written, and its head -/
theorem fr_old {G : GG} {P : List Nat} {f : Nat → va_E} {b d cap : Nat} {h h' : Nat → Option Nat} {n m n' m' : Value} (hsw : lsW G P f) (hb : b ∈ P) (hfb : f b = .inr (3, [.ref d, n, m])) (hd : d ∈ P) (hfd : f d = arR G 5 cap h) : frL G P f P (va_up (va_up f d (arR G 5 cap h')) b (.inr (3, [.ref d, n', m']))) b := by
  obtain ⟨hs, hi⟩ := hsw
  have hbd : d ≠ b := ar_ne hfd hfb
  have ho : ∀ a, a ≠ b → a ≠ d → va_up (va_up f d (arR G 5 cap h')) b (.inr (3, [.ref d, n', m'])) a = f a := fun a h1 h2 => by rw [va_up_ne _ _ h1, va_up_ne _ _ h2]
  have ho3 : ∀ a fs, a ≠ b → f a = .inr (3, fs) → va_up (va_up f d (arR G 5 cap h')) b (.inr (3, [.ref d, n', m'])) a = f a := fun a fs h1 h2 => ho a h1 (ar_ne hfd h2).symm
  refine ⟨fun a _ h1 h2 => ho a h1 (fun z => h2 cap h (by rw [z]; exact hfd)), fun b2 cap2 n2 g2 hne hl => ?_, ?_⟩
  · obtain ⟨h0, d2, m2, h1, h2, h3, h4⟩ := hl
    refine ⟨h0, d2, m2, (ho3 b2 _ hne h1).trans h1, h2, h3, h4.imp id ?_⟩
    rintro ⟨a1, a2, hh, a3, a4⟩
    have hdd : d2 ≠ d := fun z => hne (hs b2 b d2 _ _ _ _ h0 hb h1 (by rw [z]; exact hfb) a2)
    exact ⟨a1, a2, hh, by rw [ho d2 (ar_ne a3 hfb) hdd]; exact a3, a4⟩
  · have key : ∀ a, a ≠ b → (∃ fs, va_up (va_up f d (arR G 5 cap h')) b (.inr (3, [.ref d, n', m'])) a = .inr (3, fs)) → va_up (va_up f d (arR G 5 cap h')) b (.inr (3, [.ref d, n', m'])) a = f a := by
      rintro a h1 ⟨fs, h2⟩
      refine ho a h1 (fun z => ?_)
      rw [z, va_up_ne _ _ hbd, va_up_self] at h2
      cases h2
    refine ⟨sep_up hs (fun a h => Or.inl h) (va_up_self _ _ _) (fun a _ h1 h2 => key a h1 h2) (fun a x y ha h1 h2 h3 => h1 (hs a b d _ _ _ _ ha hb h2 hfb h3)) (fun _ _ _ _ _ _ _ h => h), fun a d' x y ha h1 => ?_⟩
    by_cases e : a = b
    · rw [e, va_up_self] at h1
      cases h1
      exact Or.inl hd
    · exact hi a d' x y ha ((key a e ⟨_, h1⟩).symm.trans h1)
theorem fr_new {G : GG} {P : List Nat} {f : Nat → va_E} {b q cap : Nat} {h' : Nat → Option Nat} {n' m' : Value} (hsw : lsW G P f) (hqz : q ≠ G.2.2) (hq : q ∉ P) (hb : b ∈ P) (hfb : ∃ fs, f b = .inr (3, fs)) : frL G P f (P ++ [q]) (va_up (va_up f q (arR G 5 cap h')) b (.inr (3, [.ref q, n', m']))) b := by
  obtain ⟨hs, hi⟩ := hsw
  have hpr : ∀ a d n m, a ∈ P → f a = .inr (3, [.ref d, n, m]) → d ≠ q := fun a d n m ha h z => (hi a d n m ha h).elim (fun h => hq (z ▸ h)) (fun h => hqz (z ▸ h))
  obtain ⟨fs0, hfb⟩ := hfb
  have hqb : q ≠ b := fun z => hq (z ▸ hb)
  have ho : ∀ a, a ∈ P → a ≠ b → va_up (va_up f q (arR G 5 cap h')) b (.inr (3, [.ref q, n', m'])) a = f a := fun a h1 h2 => by rw [va_up_ne _ _ h2, va_up_ne _ _ (fun z : a = q => hq (z ▸ h1))]
  refine ⟨fun a h1 h2 _ => ho a h1 h2, fun b2 cap2 n2 g2 hne hl => ?_, ?_⟩
  · exact hl.keep (fun a h => List.mem_append_left _ h) (ho b2 hl.1 hne) (fun a ha ⟨n, h, z⟩ => ho a ha (ar_ne z hfb))
  · have hq3 : ∀ a, a ∈ P ++ [q] → a ∈ P ∨ ¬ ∃ fs, va_up (va_up f q (arR G 5 cap h')) b (.inr (3, [.ref q, n', m'])) a = .inr (3, fs) := by
      intro a h
      rcases List.mem_append.mp h with h | h
      · exact Or.inl h
      · refine Or.inr ?_
        rw [List.mem_singleton.mp h]
        rintro ⟨fs, z⟩
        rw [va_up_ne _ _ hqb, va_up_self] at z
        cases z
    refine ⟨sep_up hs hq3 (va_up_self _ _ _) (fun a ha h1 _ => ho a ha h1) (fun a x y ha h1 h2 => absurd rfl (hpr a q _ _ ha h2)) (fun a ha h1 d' x y h2 h3 => ?_), fun a d' x y ha h1 => ?_⟩
    rotate_left
    · have haP := (hq3 a ha).resolve_right (fun z => z ⟨_, h1⟩)
      by_cases e : a = b
      · rw [e, va_up_self] at h1
        cases h1
        exact Or.inl (List.mem_append_right _ (List.mem_singleton.mpr rfl))
      · exact (hi a d' x y haP ((ho a haP e).symm.trans h1)).imp (fun h => List.mem_append_left _ h) id
    · exact (List.mem_append.mp h3).resolve_right (fun z => hpr a d' _ _ ha h2 (List.mem_singleton.mp z))
theorem q_add (l : Launch) (G : GG) {P : List Nat} {f : Nat → va_E} {b cap n : Nat} {g : Nat → Nat} (hL : lsS G P f b cap n g) (hW : lsW G P f) (hel : ∀ i, i < n → oOk P f (g i)) (y : Nat) (hy : oOk P f y) (hc : cap < 30000) : ct l G y_AL_add c_AL_add 2 (some .boolean) 6 150 1 (gzc cap n) [.ref b, .ref y] P f (fun x N f1 => x = some (.int 1) ∧ N.length ≤ 1 ∧ lsS G (P ++ N) f1 b (nc cap n) (n + 1) (va_up g n y) ∧ frL G P f (P ++ N) f1 b) := by
  obtain ⟨h0, d, m0, h1, h2, h3, h4⟩ := hL
  rcases h4 with ⟨h5, h6⟩ | ⟨h5, h6, hh, h7, h8⟩
  · have hn : n = 0 := by omega
    subst h5; subst hn; subst h6
    refine ct_post (k_AL_addB l G b m0 h0 h1 y hy) (fun x N f1 hp hN => ?_)
    obtain ⟨q, rfl, rfl, hq, rfl⟩ := hp
    have hqb : q ≠ b := fun z => hq (z ▸ h0)
    refine ⟨rfl, Nat.le_refl _, ⟨List.mem_append_left _ h0, q, m0 + 1, va_up_self _ _ _, by decide, by decide, Or.inr ⟨by decide, List.mem_append_right _ (List.mem_singleton.mpr rfl), va_up (fun _ => none) 0 (some y), by rw [va_up_ne _ _ hqb, va_up_self]; rfl, fun i hi => ?_⟩⟩, fr_new hW (hN q (List.mem_singleton.mpr rfl)).2 hq h0 ⟨_, h1⟩⟩
    have : i = 0 := by omega
    rw [this, va_up_self, va_up_self]
  · by_cases e : n < cap
    · rw [gzc, nc, if_pos e, if_pos e]
      refine ct_post (k_AL_add0 l G b d m0 n h0 h1 cap hh h6 h7 (by omega) e y hy) (fun x N f1 hp hN => ?_)
      obtain ⟨rfl, rfl, rfl⟩ := hp
      rw [List.append_nil]
      refine ⟨rfl, Nat.zero_le _, ⟨h0, d, m0 + 1, va_up_self _ _ _, e, h3, Or.inr ⟨h5, h6, va_up hh n (some y), by rw [va_up_ne _ _ (ar_ne h7 h1), va_up_self], fun i hi => ?_⟩⟩, fr_old hW h0 h1 h6 h7⟩
      by_cases q : i = n
      · rw [q, va_up_self, va_up_self]
      · rw [va_up_ne _ _ q, va_up_ne _ _ q]; exact h8 i (by omega)
    · have hn : n = cap := by omega
      rw [gzc, nc, if_neg e, if_neg e]
      refine ct_post (k_AL_addG l G b d m0 n h0 h1 cap hh h6 h7 (by omega) h5 h3 hn (fun i hi z hz => ?_) y hy) (fun x N f1 hp hN => ?_)
      · rw [h8 i (by omega)] at hz
        cases hz
        exact hel i (by omega)
      · obtain ⟨q, rfl, rfl, hq, h', rfl, hh'⟩ := hp
        have hqb : q ≠ b := fun z => hq (z ▸ h0)
        have hnc : ncap cap = cap + max 1 (cap / 2) := if_neg (by omega)
        refine ⟨rfl, Nat.le_refl _, ⟨List.mem_append_left _ h0, q, m0 + 1, va_up_self _ _ _, by omega, by omega, Or.inr ⟨by omega, List.mem_append_right _ (List.mem_singleton.mpr rfl), va_up h' n (some y), by rw [va_up_ne _ _ hqb, va_up_self], fun i hi => ?_⟩⟩, fr_new hW (hN q (List.mem_singleton.mpr rfl)).2 hq h0 ⟨_, h1⟩⟩
        by_cases q : i = n
        · rw [q, va_up_self, va_up_self]
        · rw [va_up_ne _ _ q, va_up_ne _ _ q, hh' i (by omega)]; exact h8 i (by omega)
theorem q_remove (l : Launch) (G : GG) {P : List Nat} {f : Nat → va_E} {b cap n : Nat} {g : Nat → Nat} (hL : lsS G P f b cap n g) (hW : lsW G P f) (hel : ∀ i, i < n → oOk P f (g i)) (i : Nat) (hi : i < n) : ct0 l G y_AL_remove c_AL_remove 4 (some (.object "java/lang/Object")) 2 63 [.ref b, .int (nI i)] P f (fun x f1 => x = some (.ref (g i)) ∧ lsS G P f1 b cap (n - 1) (fun j => if j < i then g j else g (j + 1)) ∧ frL G P f P f1 b) := by
  obtain ⟨h0, d, m0, h1, h2, h3, h4⟩ := hL
  rcases h4 with ⟨h5, h6⟩ | ⟨h5, h6, hh, h7, h8⟩
  · omega
  · refine ct_post (k_AL_remove l G b d m0 n h0 h1 cap hh h6 h7 (by omega) i (g i) hi h2 (h8 i hi) (fun j hj z hz => ?_)) (fun x N f1 hp _ => ?_)
    · rw [h8 j hj] at hz
      cases hz
      exact hel j hj
    · obtain ⟨rfl, rfl, h', rfl, hh'⟩ := hp
      refine ⟨rfl, rfl, ⟨h0, d, m0 + 1, va_up_self _ _ _, by omega, h3, Or.inr ⟨h5, h6, h', by rw [va_up_ne _ _ (ar_ne h7 h1), va_up_self], fun j hj => ?_⟩⟩, fr_old hW h0 h1 h6 h7⟩
      rw [hh' j hj]
      dsimp only
      by_cases e : j < i
      · rw [if_pos e, if_pos e]; exact h8 j (by omega)
      · rw [if_neg e, if_neg e]; exact h8 (j + 1) (by omega)
theorem lsS.wr {G : GG} {P : List Nat} {f f1 : Nat → va_E} {b cap n x ci : Nat} {g : Nat → Nat} {e : va_E} {fs : List Value} (h : lsS G P f b cap n g) (hf1 : f1 = va_up f x e) (hx : f x = .inr (ci, fs)) (hci : ci ≠ 3) : lsS G P f1 b cap n g := by
  obtain ⟨d, m0, hb⟩ := h.cell
  subst hf1
  exact h.keep (fun _ h => h) (va_up_ne _ _ (ob_ne hb hx (Ne.symm hci))) (fun a _ ⟨k, q, z⟩ => va_up_ne _ _ (ar_ne z hx))
theorem lsW.wr {G : GG} {P : List Nat} {f f1 : Nat → va_E} {x ci : Nat} {fs gs : List Value} (h : lsW G P f) (hf1 : f1 = va_up f x (.inr (ci, gs))) (hx : f x = .inr (ci, fs)) (hci : ci ≠ 3) : lsW G P f1 := by
  subst hf1
  have key : ∀ a fs, va_up f x (.inr (ci, gs)) a = .inr (3, fs) → f a = .inr (3, fs) := by
    intro a fs h1
    by_cases e : a = x
    · rw [e, va_up_self] at h1
      cases h1
      exact absurd rfl hci
    · rw [va_up_ne _ _ e] at h1; exact h1
  exact ⟨fun b1 b2 d n1 n2 m1 m2 h1 h2 h3 h4 h5 => h.1 b1 b2 d n1 n2 m1 m2 h1 h2 (key _ _ h3) (key _ _ h4) h5, fun a d n m h1 h2 => h.2 a d n m h1 (key _ _ h2)⟩
theorem lsS.nw {G : GG} {P P1 : List Nat} {f f1 : Nat → va_E} {b cap n q : Nat} {g : Nat → Nat} {e : va_E} (h : lsS G P f b cap n g) (hf1 : f1 = va_up f q e) (hq : q ∉ P) (hP1 : P1 = P ++ [q]) : lsS G P1 f1 b cap n g := by
  subst hf1; subst hP1
  exact h.keep (fun _ h => List.mem_append_left _ h) (va_up_ne _ _ (fun z : b = q => hq (z ▸ h.1))) (fun a ha _ => va_up_ne _ _ (fun z : a = q => hq (z ▸ ha)))
theorem lsW.nw {G : GG} {P P1 : List Nat} {f f1 : Nat → va_E} {q : Nat} {e : va_E} (h : lsW G P f) (hf1 : f1 = va_up f q e) (hq : q ∉ P) (hP1 : P1 = P ++ [q]) (hqz : q ≠ G.2.2) (he : ∀ d n m, e ≠ .inr (3, [.ref d, n, m])) : lsW G P1 f1 := by
  subst hf1; subst hP1
  have key : ∀ a d n m, a ∈ P ++ [q] → va_up f q e a = .inr (3, [.ref d, n, m]) → a ∈ P ∧ f a = .inr (3, [.ref d, n, m]) := by
    intro a d n m h0 h1
    by_cases z : a = q
    · rw [z, va_up_self] at h1
      exact absurd h1 (he d n m)
    · rw [va_up_ne _ _ z] at h1
      exact ⟨(List.mem_append.mp h0).resolve_right (fun y => z (List.mem_singleton.mp y)), h1⟩
  refine ⟨fun b1 b2 d n1 n2 m1 m2 h1 h2 h3 h4 h5 => ?_, fun a d n m h1 h2 => ?_⟩
  · obtain ⟨a1, a2⟩ := key _ _ _ _ h1 h3
    obtain ⟨a3, a4⟩ := key _ _ _ _ h2 h4
    refine h.1 b1 b2 d n1 n2 m1 m2 a1 a3 a2 a4 ((List.mem_append.mp h5).resolve_right (fun y => ?_))
    rcases h.2 b1 d n1 m1 a1 a2 with z | z
    · exact hq ((List.mem_singleton.mp y) ▸ z)
    · exact hqz ((List.mem_singleton.mp y).symm.trans z)
  · obtain ⟨a1, a2⟩ := key _ _ _ _ h1 h2
    exact (h.2 a d n m a1 a2).imp (fun z => List.mem_append_left _ z) id
