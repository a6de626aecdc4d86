/-! a plan's moves are given to the vehicle -/
theorem ids_ne {G : GG} {A : Nat → Prop} {s : State} {H : Heap} (hE : ev G A s H) : G.2.1 3 ≠ G.2.1 5 ∧ G.2.1 4 ≠ G.2.1 5 := by
  obtain ⟨k3, c3, a1, a2, -⟩ := (hE.1.1.2 3 _ rfl).2
  obtain ⟨k4, c4, b1, b2, -⟩ := (hE.1.1.2 4 _ rfl).2
  obtain ⟨k5, c5, d1, d2, -⟩ := (hE.1.1.2 5 _ rfl).2
  constructor
  · intro z
    rw [z] at a1
    cases Option.some.inj (a1.symm.trans d1)
    have := a2.symm.trans d2
    simp at this
  · intro z
    rw [z] at b1
    cases Option.some.inj (b1.symm.trans d1)
    have := b2.symm.trans d2
    simp at this
section PSX
variable {G : GG} {pl va : Nat} {d c : Nat → Nat} {P P1 : List Nat} {f0 f f1 : Nat → va_E} {S : Nat → Nat → Bool} {Wy F : Nat → Int32}
/-- cells elsewhere are written or made -/
theorem pS.any (h : pS G pl va d c P f0 f S Wy F) (hsub : ∀ a, a ∈ P → a ∈ P1) (hk : ∀ a, a ∈ P → ((∃ fs, f a = .inr (9, fs)) ∨ (∃ fs, f a = .inr (4, fs)) ∨ (∃ n g, f a = arR G 4 n g) ∨ ∃ n g, f a = .inl (G.2.1 0, n, .inl g)) → f1 a = f a) : pS G pl va d c P1 f1 f1 S Wy F := by
  obtain ⟨⟨m1, m2, m3, m4⟩, h2, ⟨h3, h4, h5, h6, h7⟩, h8, h9⟩ := h
  refine ⟨⟨hsub _ m1, fun k hk => hsub _ (m2 k hk), fun i hi => hsub _ (m3 i hi), hsub _ m4⟩, h2, ⟨(hk _ m1 (Or.inl ⟨_, h3⟩)).trans h3, (hk _ (m2 0 (by decide)) (Or.inr (Or.inr (Or.inl ⟨_, _, h4⟩)))).trans h4, (hk _ (m2 1 (by decide)) (Or.inr (Or.inr (Or.inl ⟨_, _, h5⟩)))).trans h5, (hk _ (m2 2 (by decide)) (Or.inr (Or.inr (Or.inl ⟨_, _, h6⟩)))).trans h6, (hk _ (m2 3 (by decide)) (Or.inr (Or.inr (Or.inr ⟨_, _, h7⟩)))).trans h7⟩, fun i hi => ?_, fun _ _ _ _ => rfl⟩
  obtain ⟨u, w, q, -⟩ := (h8 i hi).words
  exact (h8 i hi).congr (hk _ (m3 i hi) (Or.inr (Or.inl ⟨_, q⟩)))
theorem pS.nw (h : pS G pl va d c P f0 f S Wy F) {q : Nat} {e : va_E} (hf1 : f1 = va_up f q e) (hq : q ∉ P) (hP1 : P1 = P ++ [q]) : pS G pl va d c P1 f1 f1 S Wy F := by
  subst hf1; subst hP1
  exact h.any (fun a ha => List.mem_append_left _ ha) (fun a ha _ => va_up_ne _ _ (fun z : a = q => hq (z ▸ ha)))
theorem pS.wr (h : pS G pl va d c P f0 f S Wy F) {x ci : Nat} {e : va_E} {fs : List Value} (hf1 : f1 = va_up f x e) (hx : f x = .inr (ci, fs)) (h4 : ci ≠ 4) (h9 : ci ≠ 9) : pS G pl va d c P f1 f1 S Wy F := by
  subst hf1
  refine h.any (fun a ha => ha) (fun a ha hk => va_up_ne _ _ ?_)
  rcases hk with ⟨gs, hk⟩ | ⟨gs, hk⟩ | ⟨n, g, hk⟩ | ⟨n, g, hk⟩
  · exact ob_ne hk hx (Ne.symm h9)
  · exact ob_ne hk hx (Ne.symm h4)
  · exact ar_ne hk hx
  · exact ar_ne hk hx
theorem pS.fr (h : pS G pl va d c P f0 f S Wy F) {b : Nat} {fs : List Value} (hfr : frL G P f P1 f1 b) (hsub : ∀ a, a ∈ P → a ∈ P1) (hb : f b = .inr (3, fs)) (h45 : G.2.1 4 ≠ G.2.1 5) : pS G pl va d c P1 f1 f1 S Wy F := by
  refine h.any hsub (fun a ha hk => ?_)
  rcases hk with ⟨gs, hk⟩ | ⟨gs, hk⟩ | ⟨n, g, hk⟩ | ⟨n, g, hk⟩
  · exact (hfr.ob ha (ob_ne hk hb (by decide)) hk).trans hk.symm
  · exact (hfr.ob ha (ob_ne hk hb (by decide)) hk).trans hk.symm
  · exact (hfr.ar ha (ar_ne hk hb) hk h45).trans hk.symm
  · exact (hfr.ai ha (ar_ne hk hb) hk).trans hk.symm
end PSX
theorem gz_nc (cap n : Nat) : gzc cap n ≤ 4 * (nc cap n - cap) ∧ cap ≤ nc cap n := by
  unfold gzc nc ncap
  by_cases h : n < cap
  · rw [if_pos h, if_pos h]; omega
  · rw [if_neg h, if_neg h]
    by_cases e : cap = 0
    · rw [if_pos e]; omega
    · rw [if_neg e]
      omega
theorem nc_le {cap n : Nat} (hc : cap ≤ 2 * n + 10) (hn : n ≤ cap) : nc cap n ≤ 2 * (n + 1) + 10 := by
  unfold nc ncap
  by_cases h : n < cap
  · rw [if_pos h]; omega
  · rw [if_neg h]
    by_cases e : cap = 0
    · rw [if_pos e]; omega
    · rw [if_neg e]; omega
/-- how many of the first t steps are moves -/
def apn (wy : Nat → Nat) : Nat → Nat
  | 0 => 0
  | t + 1 => apn wy t + (if wy (t + 1) = wy t then 0 else 1)
theorem apn_le (wy : Nat → Nat) : ∀ t, apn wy t ≤ t := by
  intro t
  induction t with
  | zero => exact Nat.le_refl _
  | succ t ih => rw [apn]; split <;> omega
theorem apn_mono {wy : Nat → Nat} {a : Nat} : ∀ b, a ≤ b → apn wy a ≤ apn wy b := by
  intro b
  induction b with
  | zero => intro h; rw [show a = 0 by omega]; exact Nat.le_refl _
  | succ b ih =>
    intro h
    by_cases q : a = b + 1
    · rw [q]; exact Nat.le_refl _
    · rw [apn]; have := ih (by omega); omega
/-- the moves behind t steps of the way: n old ones, and the new ones -/
def apM (n : Nat) (cc tt cc1 tt1 : Nat → Nat) (wy : Nat → Nat) (cl t : Nat) : Prop := (∀ i, i < n → cc1 i = cc i ∧ tt1 i = tt i) ∧ ∀ s, 1 ≤ s → s ≤ t → wy s ≠ wy (s - 1) → cc1 (n + apn wy (s - 1)) = wy s ∧ tt1 (n + apn wy (s - 1)) = cl + s
theorem apM_s {n : Nat} {cc tt cc1 tt1 : Nat → Nat} {wy : Nat → Nat} {cl t : Nat} (ht : 1 ≤ t) (h : apM n cc tt cc1 tt1 wy cl (t - 1)) (hw : wy t ≠ wy (t - 1)) : apM n cc tt (va_up cc1 (n + apn wy (t - 1)) (wy t)) (va_up tt1 (n + apn wy (t - 1)) (cl + t)) wy cl t := by
  refine ⟨fun i hi => ?_, fun s h1 h2 h3 => ?_⟩
  · rw [va_up_ne _ _ (by omega), va_up_ne _ _ (by omega)]; exact h.1 i hi
  · by_cases e : s = t
    · subst e; rw [va_up_self, va_up_self]; exact ⟨rfl, rfl⟩
    · have h4 : apn wy s = apn wy (s - 1) + 1 := by
        obtain ⟨r, rfl⟩ : ∃ r, s = r + 1 := ⟨s - 1, by omega⟩
        rw [Nat.add_sub_cancel] at h3 ⊢
        rw [apn, if_neg h3]
      have h5 := apn_mono (wy := wy) (a := s) (t - 1) (by omega)
      rw [va_up_ne _ _ (by omega), va_up_ne _ _ (by omega)]
      exact h.2 s h1 (by omega) h3
theorem apM_n {n : Nat} {cc tt cc1 tt1 : Nat → Nat} {wy : Nat → Nat} {cl t : Nat} (ht : 1 ≤ t) (h : apM n cc tt cc1 tt1 wy cl (t - 1)) (hw : wy t = wy (t - 1)) : apM n cc tt cc1 tt1 wy cl t := by
  refine ⟨h.1, fun s h1 h2 h3 => ?_⟩
  by_cases e : s = t
  · subst e; exact absurd hw h3
  · exact h.2 s h1 (by omega) h3
theorem oOk_mov {P : List Nat} {f : Nat → va_E} {y : Nat} {fs : List Value} (h : y ∈ P) (hf : f y = .inr (6, fs)) : oOk P f y := ⟨h, 6, fs, _, hf, rfl, nw_1085, by decide⟩
theorem oOk_let {P : List Nat} {f : Nat → va_E} {y : Nat} {fs : List Value} (h : y ∈ P) (hf : f y = .inr (5, fs)) : oOk P f y := ⟨h, 5, fs, _, hf, rfl, nw_1084, by decide⟩
theorem oOk_tsk {P : List Nat} {f : Nat → va_E} {y : Nat} {fs : List Value} (h : y ∈ P) (hf : f y = .inr (7, fs)) : oOk P f y := ⟨h, 7, fs, _, hf, rfl, nw_1083, by decide⟩
/-- what giving moves to a vehicle leaves of other cells -/
def apF (G : GG) (P : List Nat) (f : Nat → va_E) (P1 : List Nat) (f1 : Nat → va_E) (a mv : Nat) : Prop := (∀ y, y ∈ P → y ∈ P1) ∧ (∀ y, y ∈ P → y ≠ a → y ≠ mv → (∀ n h, f y ≠ arR G 5 n h) → f1 y = f y) ∧ (∀ b2 cap2 n2 g2, b2 ≠ mv → lsS G P f b2 cap2 n2 g2 → lsS G P1 f1 b2 cap2 n2 g2) ∧ lsW G P1 f1
theorem apF.nw {G : GG} {P P1 P2 : List Nat} {f f1 f2 : Nat → va_E} {a mv q : Nat} {e : va_E} (h : apF G P f P1 f1 a mv) (hf : f2 = va_up f1 q e) (hq : q ∉ P1) (hP : P2 = P1 ++ [q]) (hqz : q ≠ G.2.2) (he : ∀ d n m, e ≠ .inr (3, [.ref d, n, m])) : apF G P f P2 f2 a mv := by
  refine ⟨fun y hy => by rw [hP]; exact List.mem_append_left _ (h.1 y hy), fun y hy h1 h2 h3 => ?_, fun b2 c2 n2 g2 h1 h2 => (h.2.2.1 b2 c2 n2 g2 h1 h2).nw hf hq hP, h.2.2.2.nw hf hq hP hqz he⟩
  rw [hf, va_up_ne _ _ (fun z : y = q => hq (z ▸ h.1 y hy))]
  exact h.2.1 y hy h1 h2 h3
theorem apF.wrn {G : GG} {P P1 : List Nat} {f f1 f2 : Nat → va_E} {a mv q ci : Nat} {fs gs : List Value} (h : apF G P f P1 f1 a mv) (hf : f2 = va_up f1 q (.inr (ci, gs))) (hq : q ∉ P ∨ q = a) (hx : f1 q = .inr (ci, fs)) (hci : ci ≠ 3) : apF G P f P1 f2 a mv := by
  refine ⟨h.1, fun y hy h1 h2 h3 => ?_, fun b2 c2 n2 g2 h1 h2 => (h.2.2.1 b2 c2 n2 g2 h1 h2).wr hf hx hci, h.2.2.2.wr hf hx hci⟩
  rw [hf, va_up_ne _ _ (fun z : y = q => hq.elim (fun k => k (z ▸ hy)) (fun k => h1 (z.trans k)))]
  exact h.2.1 y hy h1 h2 h3
theorem apF.fr {G : GG} {P P1 P2 : List Nat} {f f1 f2 : Nat → va_E} {a mv : Nat} (h : apF G P f P1 f1 a mv) (hsub : ∀ y, y ∈ P1 → y ∈ P2) (hfr : frL G P1 f1 P2 f2 mv) : apF G P f P2 f2 a mv := by
  refine ⟨fun y hy => hsub y (h.1 y hy), fun y hy h1 h2 h3 => ?_, fun b2 c2 n2 g2 h1 h2 => hfr.2.1 b2 c2 n2 g2 h1 (h.2.2.1 b2 c2 n2 g2 h1 h2), hfr.2.2⟩
  have e := h.2.1 y hy h1 h2 h3
  rw [hfr.1 y (h.1 y hy) h2 (fun n hh z => h3 n hh (e.symm.trans z))]
  exact e
/-- when the second station is reached, in moves -/
def finF (fn fin : Int32) (n : Nat) (wy : Nat → Nat) : Nat → Int32
  | 0 => fin
  | t + 1 => if nI (t + 1) = fn then nI (n + apn wy (t + 1)) else finF fn fin n wy t
set_option maxHeartbeats 4000000 in
set_option maxRecDepth 100000 in
theorem k_Pln_append (l : Launch) (G : GG) {P : List Nat} {f : Nat → va_E} {pl va : Nat} {da ca : Nat → Nat} {f0 : Nat → va_E} {S : Nat → Nat → Bool} {Wy F : Nat → Int32} (hP : pS G pl va da ca P f0 f S Wy F) (a : Nat) (num park made alw knw grt lat fin jm : Int32) (mv : Nat) (hm_a : a ∈ P) (hc_a : f a = .inr (8, [.int num, .int park, .ref mv, .int made, .int alw, .int knw, .int grt, .int lat, .int (fin), .int jm])) (cap n : Nat) (ga cc tt : Nat → Nat) (hL : lsS G P f mv cap n ga) (hmv : ∀ i, i < n → ga i ∈ P ∧ f (ga i) = .inr (6, [.int (nI (cc i)), .int (nI (tt i))])) (hW0 : lsW G P f) (hcap : cap ≤ 2 * n + 10) (hn : n ≤ 3450) (cl e0 : Nat) (he : e0 ≤ 150) (wy : Nat → Nat) (hW : ∀ i, i ≤ e0 → Wy i = nI (wy i)) (hwy : ∀ i, i ≤ e0 → wy i < 96) (h3 : F 3 = nI e0)  : ct l G y_Pln_append c_Pln_append 4 none 7 171 (300) (30000) [.ref pl, .ref a, .int (nI cl)] P f (fun x N f1 => x = none ∧ ∃ cap1 g1 cc1 tt1, (cap ≤ cap1 ∧ cap1 ≤ 2 * (n + apn wy (e0)) + 10) ∧ lsS G (P ++ N) f1 mv cap1 (n + apn wy (e0)) g1 ∧ (∀ i, i < (n + apn wy (e0)) → g1 i ∈ P ++ N ∧ f1 (g1 i) = .inr (6, [.int (nI (cc1 i)), .int (nI (tt1 i))])) ∧ apM n cc tt cc1 tt1 wy cl e0 ∧ (∀ i, i < n → g1 i = ga i) ∧ f1 a = .inr (8, [.int num, .int park, .ref mv, .int made, .int alw, .int knw, .int grt, .int lat, .int (finF (F 4) fin n wy e0), .int jm]) ∧ apF G P f (P ++ N) f1 a mv ∧ pS G pl va da ca (P ++ N) f1 f1 S Wy F) := by
  refine ct_intro (by decide) [some (.ref pl), some (.ref a), some (.int (nI cl)), none] rfl rfl (Nat.le_of_ble_eq_true rfl) ?_
  intro p e s m below meth c ls C hr hlk hnm hE hM hl
  have hP := hP.self
  have hF : apF G P f P f a mv := ⟨fun _ h => h, fun _ _ _ _ _ => rfl, fun _ _ _ _ _ h => h, hW0⟩
  have hPN : P = P ++ [] := (List.append_nil P).symm
  refine lv_iconst (v := 1) C.1 C.2.1 d_Pln_append_0 (by decide) ?_
  refine lo_istore_n C hl d_Pln_append_1 (Nat.le_of_ble_eq_true rfl) rfl (fun ls hl => ?_)
  refine W.widen (k := 2 * (1 - 1)) (n := 2 * (1 - 1) + 4 * (cap - cap)) (by omega) (by omega) ?_
  refine W.loop (α := (Nat) × (Nat) × (Nat → Nat) × (Nat → Nat) × (Nat → Nat) × (Array Slot) × (List Nat) × (Heap) × (List Loc) × (Nat → va_E)) (fun zz => e0 + 1 - zz.1) (fun zz => (1 ≤ zz.1) ∧ (zz.1 ≤ e0 + 1) ∧ (cap ≤ zz.2.1 ∧ zz.2.1 ≤ 2 * (n + apn wy (zz.1 - 1)) + 10) ∧ (lsS G (P ++ zz.2.2.2.2.2.2.1) zz.2.2.2.2.2.2.2.2.2 mv zz.2.1 (n + apn wy (zz.1 - 1)) zz.2.2.1) ∧ (∀ i, i < (n + apn wy (zz.1 - 1)) → zz.2.2.1 i ∈ P ++ zz.2.2.2.2.2.2.1 ∧ zz.2.2.2.2.2.2.2.2.2 (zz.2.2.1 i) = .inr (6, [.int (nI (zz.2.2.2.1 i)), .int (nI (zz.2.2.2.2.1 i))])) ∧ (apM n cc tt zz.2.2.2.1 zz.2.2.2.2.1 wy cl (zz.1 - 1)) ∧ (∀ i, i < n → zz.2.2.1 i = ga i) ∧ (a ∈ P ++ zz.2.2.2.2.2.2.1) ∧ (zz.2.2.2.2.2.2.2.2.2 a = .inr (8, [.int num, .int park, .ref mv, .int made, .int alw, .int knw, .int grt, .int lat, .int (finF (F 4) fin n wy (zz.1 - 1)), .int jm])) ∧ (apF G P f (P ++ zz.2.2.2.2.2.2.1) zz.2.2.2.2.2.2.2.2.2 a mv) ∧ (pS G pl va da ca (P ++ zz.2.2.2.2.2.2.1) zz.2.2.2.2.2.2.2.2.2 zz.2.2.2.2.2.2.2.2.2 S Wy F) ∧ lo zz.2.2.2.2.2.1 [some (.ref pl), some (.ref a), some (.int (nI cl)), some (.int (nI zz.1))] ∧ pgS G (pgA P s.heap.size) s.heap (P ++ zz.2.2.2.2.2.2.1) zz.2.2.2.2.2.2.2.2.2 zz.2.2.2.2.2.2.2.1 zz.2.2.2.2.2.2.2.2.1) (fun zz => zz.2.2.2.2.2.2.2.1) (fun zz => zz.2.2.2.2.2.2.2.2.1) (fun zz => 2 * (zz.1 - 1)) (fun zz => 2 * (zz.1 - 1) + 4 * (zz.2.1 - cap)) (fun zz => F0 m 2 zz.2.2.2.2.2.1 []) ?_ (1, cap, ga, cc, tt, ls, _, s.heap, [], f) ⟨Nat.le_refl _, by (try dsimp only); omega, ⟨Nat.le_refl _, hcap⟩, (hPN ▸ hL), (fun i hi => ⟨List.mem_append_left _ (hmv i hi).1, (hmv i hi).2⟩), ⟨fun i hi => ⟨rfl, rfl⟩, fun s h1 h2 => absurd h1 (by omega)⟩, fun i hi => rfl, (hPN ▸ hm_a), hc_a, (hPN ▸ hF), (hPN ▸ hP), lo_weak hl ⟨rfl, rfl, rfl, rfl, trivial⟩, (hPN ▸ hM)⟩
  rintro ⟨t, cap1, g1, cc1, tt1, ls, N1, H1, locs1, f1⟩ ⟨h1t, ht, hcp, hL, hmv, hM2, hg, hm_a, hc_a, hF, hP, hl, hM⟩ ih2
  dsimp only at h1t ht hcp hL hmv hM2 hg hm_a hc_a hF hP hl hM
  show W _ _ _ _ _ _ _ _ _ _ _ _ (2 * (t - 1)) (2 * (t - 1) + 4 * (cap1 - cap)) _ (F0 m 2 ls [])
  have hPN : P ++ N1 = P ++ N1 := rfl
  refine lv_iload_n C.1 C.2.1 d_Pln_append_2 rfl (lo_at hl 3 rfl) ?_
  refine lv_aload_n C.1 C.2.1 d_Pln_append_3 rfl (lo_at hl 0 rfl) ?_
  refine pg_get C hE hM hP.1.1 hP.2.2.1.1 rfl in_Pln 11 (Nat.le_of_ble_eq_true rfl) tw_540 rfl rfl d_Pln_append_4 ?_
  rw [h3]
  refine lv_icmp_gt (tgt := 85) C.1 C.2.1 d_Pln_append_7 (by decide) (fun hc7 => ?_) (fun hc7 => ?_)
  · refine pg_vret C hr hlk hM hPN (by show _ ≤ 300; omega) (by show _ ≤ 30000; have := hcp.2; have := apn_le wy (t - 1); omega) d_Pln_append_85 ?_
    have ht9 : t = e0 + 1 := by
      have : e0 < t := (nI_ltI (by omega) (by omega)).mp hc7
      omega
    rw [ht9, Nat.add_sub_cancel] at hL hmv hM2 hc_a hcp
    exact ⟨rfl, cap1, g1, cc1, tt1, hcp, hL, hmv, hM2, hg, hc_a, hF, hP⟩
  · have ht9 : t ≤ e0 := Nat.le_of_not_lt (fun z => hc7 ((nI_ltI (by omega) (by omega)).mpr z))
    refine lv_iload_n C.1 C.2.1 d_Pln_append_10 rfl (lo_at hl 3 rfl) ?_
    refine lv_aload_n C.1 C.2.1 d_Pln_append_11 rfl (lo_at hl 0 rfl) ?_
    refine pg_get C hE hM hP.1.1 hP.2.2.1.1 rfl in_Pln 7 (Nat.le_of_ble_eq_true rfl) tw_536 rfl rfl d_Pln_append_12 ?_
    refine pg_alen C hE hM (hP.1.2.1 3 (Nat.le_of_ble_eq_true rfl)) (t0 := 0) (Nat.le_of_ble_eq_true rfl) hP.2.2.1.2.2.2.2 d_Pln_append_15 ?_
    refine lv_icmp_ge (tgt := 85) C.1 C.2.1 d_Pln_append_16 (by decide) (fun hc16 => False.elim (by have := (nI_leI (a := 151) (b := t) (by decide) (by omega)).mp hc16; omega)) (fun hc16 => ?_)
    refine lv_aload_n C.1 C.2.1 d_Pln_append_19 rfl (lo_at hl 0 rfl) ?_
    refine pg_get C hE hM hP.1.1 hP.2.2.1.1 rfl in_Pln 7 (Nat.le_of_ble_eq_true rfl) tw_536 rfl rfl d_Pln_append_20 ?_
    refine lv_iload_n C.1 C.2.1 d_Pln_append_23 rfl (lo_at hl 3 rfl) ?_
    refine cg_iald C hE hM (hP.1.2.1 3 (Nat.le_of_ble_eq_true rfl)) hP.2.2.1.2.2.2.2 (t) rfl (by omega) (Nat.le_of_ble_eq_true rfl) d_Pln_append_24 ?_
    refine lv_aload_n C.1 C.2.1 d_Pln_append_25 rfl (lo_at hl 0 rfl) ?_
    refine pg_get C hE hM hP.1.1 hP.2.2.1.1 rfl in_Pln 7 (Nat.le_of_ble_eq_true rfl) tw_536 rfl rfl d_Pln_append_26 ?_
    refine lv_iload_n C.1 C.2.1 d_Pln_append_29 rfl (lo_at hl 3 rfl) ?_
    refine lv_iconst (v := 1) C.1 C.2.1 d_Pln_append_30 (by decide) ?_
    refine lv_isub C.1 C.2.1 d_Pln_append_31 ?_
    rw [show (1 : Int32) = nI 1 from rfl, pk_sub (by omega)]
    refine cg_iald C hE hM (hP.1.2.1 3 (Nat.le_of_ble_eq_true rfl)) hP.2.2.1.2.2.2.2 (t - 1) rfl (by omega) (Nat.le_of_ble_eq_true rfl) d_Pln_append_32 ?_
    rw [hW t (by omega), hW (t - 1) (by omega)]
    refine lv_icmp_eq (tgt := 60) C.1 C.2.1 d_Pln_append_33 (by decide) (fun hc33 => ?_) (fun hc33 => ?_)
    · have heq : wy t = wy (t - 1) := nI_eqN (by have := hwy t ht9; omega) (by have := hwy (t - 1) (by omega); omega) hc33
      have hap : apn wy t = apn wy (t - 1) := by
        obtain ⟨r, rfl⟩ : ∃ r, t = r + 1 := ⟨t - 1, by omega⟩
        rw [Nat.add_sub_cancel] at heq ⊢
        rw [apn, if_pos heq]; rfl
      rw [← hap] at hmv hL
      have hal := apn_le wy (t - 1)
      have hM2 := apM_n h1t hM2 heq
      have hb2 := hcp.2
      refine W.widen (k := 2 * t) (n := 2 * t + 4 * (cap1 - cap)) (by omega) (by omega) ?_
      refine lv_iload_n C.1 C.2.1 d_Pln_append_60 rfl (lo_at hl 3 rfl) ?_
      refine lv_aload_n C.1 C.2.1 d_Pln_append_61 rfl (lo_at hl 0 rfl) ?_
      refine pg_get C hE hM hP.1.1 hP.2.2.1.1 rfl in_Pln 12 (Nat.le_of_ble_eq_true rfl) tw_541 rfl rfl d_Pln_append_62 ?_
      refine lv_icmp_ne (tgt := 79) C.1 C.2.1 d_Pln_append_65 (by decide) (fun hc65 => ?_) (fun hc65 => ?_)
      · refine lo_iinc C hl d_Pln_append_79 rfl rfl (fun ls hl => ?_)
        refine lv_goto (tgt := 2) C.1 C.2.1 d_Pln_append_82 (by decide) ?_
        have hfin : finF (F 4) fin n wy t = finF (F 4) fin n wy (t - 1) := by
          obtain ⟨r, rfl⟩ : ∃ r, t = r + 1 := ⟨t - 1, by omega⟩
          rw [finF, if_neg hc65]; rfl
        have hcan : f1 a = .inr (8, [.int num, .int park, .ref mv, .int made, .int alw, .int knw, .int grt, .int lat, .int (finF (F 4) fin n wy (t + 1 - 1)), .int jm]) := by rw [Nat.add_sub_cancel, hfin]; exact hc_a
        have hgg : ∀ i, i < n → (g1) i = ga i := fun i hi => by exact hg i hi
        have hcpn : cap ≤ cap1 ∧ cap1 ≤ 2 * (n + apn wy (t)) + 10 := ⟨hcp.1, by rw [hap]; exact hcp.2⟩
        have h9 := hl
        rw [nI_pl] at h9
        exact ih2 (t + 1, cap1, g1, cc1, tt1, ls, _, H1, locs1, f1) ⟨by (try dsimp only); omega, by (try dsimp only); omega, hcpn, (hPN ▸ hL), (fun i hi => ⟨hPN ▸ (hmv i hi).1, (hmv i hi).2⟩), hM2, hgg, (hPN ▸ hm_a), hcan, (hPN ▸ hF), (hPN ▸ hP), lo_weak h9 ⟨rfl, rfl, rfl, rfl, trivial⟩, (hPN ▸ hM)⟩ (by show e0 + 1 - (t + 1) < e0 + 1 - t; omega)
      · have hca0 := hc_a
        refine lv_aload_n C.1 C.2.1 d_Pln_append_68 rfl (lo_at hl 1 rfl) ?_
        refine lv_aload_n C.1 C.2.1 d_Pln_append_69 rfl (lo_at hl 1 rfl) ?_
        refine pg_getN C hE hM hm_a hc_a rfl in_Veh 2 (Nat.le_of_ble_eq_true rfl) nw_479 rfl rfl d_Pln_append_70 ?_
        obtain ⟨_, _, hc_mv⟩ := hL.cell
        refine cg_callV C hE hM (q_size l G hL) hL.1 hc_mv rfl tw_691 cy_AL_size ⟨(Nat.le_of_ble_eq_true rfl), (Nat.le_of_ble_eq_true rfl)⟩ rfl hl.1 rfl (Nat.le_of_ble_eq_true rfl) ⟨by (try show _ ≤ 300); omega, by (try show _ ≤ 30000); omega⟩ d_Pln_append_73 (fun x9 f11 H1 locs1 hp hM => ?_)
        obtain ⟨rfl, h9⟩ := hp
        rw [h9] at hM
        clear h9
        refine W.eq (g2 := F0 m 76 ls [_, _]) rfl ?_
        refine cg_putN C hE hM hm_a hc_a rfl in_Veh ok_Veh n_Veh 8 (Nat.le_of_ble_eq_true rfl) nw_492 rfl rfl rfl rfl rfl (Nat.le_of_ble_eq_true rfl) d_Pln_append_76 (fun f12 H1 locs1 hf12 hM => ?_)
        have hL := hL.wr hf12 hc_a (by decide)
        have hc_a := (congrFun hf12 a).trans (va_up_self _ _ _)
        have hF := hF.wrn hf12 (Or.inr rfl) hca0 (by decide)
        have hP := hP.wr hf12 hca0 (by decide) (by decide)
        have hmv := fun (i : Nat) (hi : i < (n + apn wy (t))) => (⟨(hmv i hi).1, ((congrFun hf12 _).trans (va_up_ne _ _ (ob_ne (hmv i hi).2 hca0 (by decide)))).trans (hmv i hi).2⟩ : _ ∧ _)
        refine lo_iinc C hl d_Pln_append_79 rfl rfl (fun ls hl => ?_)
        refine lv_goto (tgt := 2) C.1 C.2.1 d_Pln_append_82 (by decide) ?_
        have hfin : finF (F 4) fin n wy t = nI (n + apn wy (t)) := by
          obtain ⟨r, rfl⟩ : ∃ r, t = r + 1 := ⟨t - 1, by omega⟩
          rw [finF, if_pos hc65]
        have hcan : f12 a = .inr (8, [.int num, .int park, .ref mv, .int made, .int alw, .int knw, .int grt, .int lat, .int (finF (F 4) fin n wy (t + 1 - 1)), .int jm]) := by rw [Nat.add_sub_cancel, hfin]; exact hc_a
        have hgg : ∀ i, i < n → (g1) i = ga i := fun i hi => by exact hg i hi
        have hcpn : cap ≤ cap1 ∧ cap1 ≤ 2 * (n + apn wy (t)) + 10 := ⟨hcp.1, by rw [hap]; exact hcp.2⟩
        have h9 := hl
        rw [nI_pl] at h9
        exact ih2 (t + 1, cap1, g1, cc1, tt1, ls, _, H1, locs1, f12) ⟨by (try dsimp only); omega, by (try dsimp only); omega, hcpn, (hPN ▸ hL), (fun i hi => ⟨hPN ▸ (hmv i hi).1, (hmv i hi).2⟩), hM2, hgg, (hPN ▸ hm_a), hcan, (hPN ▸ hF), (hPN ▸ hP), lo_weak h9 ⟨rfl, rfl, rfl, rfl, trivial⟩, (hPN ▸ hM)⟩ (by show e0 + 1 - (t + 1) < e0 + 1 - t; omega)
    · have hne : wy t ≠ wy (t - 1) := fun z => hc33 (by rw [z])
      have hap : apn wy t = apn wy (t - 1) + 1 := by
        obtain ⟨r, rfl⟩ : ∃ r, t = r + 1 := ⟨t - 1, by omega⟩
        rw [Nat.add_sub_cancel] at hne ⊢
        rw [apn, if_neg hne]
      have hal := apn_le wy (t - 1)
      have hmv0 := hmv
      refine lv_aload_n C.1 C.2.1 d_Pln_append_36 rfl (lo_at hl 1 rfl) ?_
      refine pg_getN C hE hM hm_a hc_a rfl in_Veh 2 (Nat.le_of_ble_eq_true rfl) nw_479 rfl rfl d_Pln_append_37 ?_
      refine cg_new C hE hM (ci := 6) (fs := [.int 0, .int 0]) rfl in_Mov ok_Mov tw_693 tw_750 tw_25 (by decide) (by show _ ≤ 300; omega) (by show _ ≤ 30000; have := hcp.2; omega) d_Pln_append_40 (fun q P1 f11 H1 hq hP1 hf11 hM => ?_)
      have hc_a := ((congrFun hf11 a).trans (va_up_ne _ _ (fun z => hq (z ▸ hm_a)))).trans hc_a
      have hm_a := (show a ∈ P1 by rw [hP1]; exact List.mem_append_left _ hm_a)
      have hL := hL.nw hf11 hq hP1
      have hm_q : q ∈ P1 := by rw [hP1]; exact List.mem_append_right _ (List.mem_singleton.mpr rfl)
      have hc_q := (congrFun hf11 q).trans (va_up_self _ _ _)
      have hPN := hPN_new hPN hP1
      have hqz : q ≠ G.2.2 := fun z => cg_z0P hE hM (z ▸ hm_q)
      have hF := hF.nw hf11 hq hP1 hqz (by intros _ _ _ z; cases z)
      have hP := hP.nw hf11 hq hP1
      have hqP : q ∉ P := fun z => hq (List.mem_append_left _ z)
      have hmv : ∀ i, i < (n + apn wy (t - 1)) → g1 i ∈ P1 ∧ f11 (g1 i) = .inr (6, [.int (nI (cc1 i)), .int (nI (tt1 i))]) := fun i hi => ⟨by rw [hP1]; exact List.mem_append_left _ (hmv i hi).1, ((congrFun hf11 _).trans (va_up_ne _ _ (fun z => hq (z ▸ (hmv i hi).1)))).trans (hmv i hi).2⟩
      refine W.widen (k := 2 * (t - 1) + 1) (n := 2 * (t - 1) + 4 * (cap1 - cap) + 2) (by omega) (by omega) ?_
      refine lv_dup C.1 C.2.1 d_Pln_append_43 rfl ?_
      refine lv_aload_n C.1 C.2.1 d_Pln_append_44 rfl (lo_at hl 0 rfl) ?_
      refine pg_get C hE hM hP.1.1 hP.2.2.1.1 rfl in_Pln 7 (Nat.le_of_ble_eq_true rfl) tw_536 rfl rfl d_Pln_append_45 ?_
      refine lv_iload_n C.1 C.2.1 d_Pln_append_48 rfl (lo_at hl 3 rfl) ?_
      refine cg_iald C hE hM (hP.1.2.1 3 (Nat.le_of_ble_eq_true rfl)) hP.2.2.1.2.2.2.2 (t) rfl (by omega) (Nat.le_of_ble_eq_true rfl) d_Pln_append_49 ?_
      refine lv_iload_n C.1 C.2.1 d_Pln_append_50 rfl (lo_at hl 2 rfl) ?_
      refine lv_iload_n C.1 C.2.1 d_Pln_append_51 rfl (lo_at hl 3 rfl) ?_
      refine lv_iadd C.1 C.2.1 d_Pln_append_52 ?_
      rw [hW t (by omega), nI_add]
      have hcq0 := hc_q
      refine cg_callIN C hE hM (k_Mov_init l G q _ _ hm_q hc_q) nw_751 cy_Mov_init ⟨(Nat.le_of_ble_eq_true rfl), (Nat.le_of_ble_eq_true rfl)⟩ rfl hl.1 rfl (Nat.le_of_ble_eq_true rfl) ⟨by (try show _ ≤ 300); omega, by (try show _ ≤ 30000); omega⟩ d_Pln_append_53 (fun x9 f12 H1 locs1 hp hM => ?_)
      have hx9 := hp.1
      subst hx9
      have hf12 := hp.2
      have hc_a := ((congrFun hf12 a).trans (va_up_ne _ _ (ob_ne hc_a hc_q (by decide)))).trans hc_a
      have hL := hL.wr hf12 hc_q (by decide)
      have hc_q := (congrFun hf12 q).trans (va_up_self _ _ _)
      have hF := hF.wrn hf12 (Or.inl hqP) hcq0 (by decide)
      have hP := hP.wr hf12 hcq0 (by decide) (by decide)
      have hmv : ∀ i, i < (n + apn wy (t - 1)) → g1 i ∈ P1 ∧ f12 (g1 i) = .inr (6, [.int (nI (cc1 i)), .int (nI (tt1 i))]) := fun i hi => ⟨(hmv i hi).1, ((congrFun hf12 _).trans (va_up_ne _ _ (fun z => hq (z ▸ (hmv0 i hi).1)))).trans (hmv i hi).2⟩
      refine W.eq (g2 := F0 m 56 ls [_, _]) rfl ?_
      have hgn := gz_nc cap1 (n + apn wy (t - 1))
      have hncl := nc_le hcp.2 (by obtain ⟨-, _, _, -, h8, -⟩ := hL; exact h8)
      have hcap9 := hcp
      obtain ⟨_, _, hc_mv⟩ := hL.cell
      refine cg_callVA C hE hM (q_add l G hL hF.2.2.2 (fun i hi => oOk_mov (hmv i hi).1 (hmv i hi).2) q (oOk_mov hm_q hc_q) (by have := hcp.2; omega)) hL.1 hc_mv rfl tw_762 cy_AL_add ⟨(Nat.le_of_ble_eq_true rfl), (Nat.le_of_ble_eq_true rfl)⟩ rfl hl.1 rfl (Nat.le_of_ble_eq_true rfl) ⟨by show _ ≤ 300; omega, by show _ ≤ 30000; omega⟩ d_Pln_append_56 (fun x9 N2 P2 f13 H1 locs1 hP2 hp hM => ?_)
      obtain ⟨hx9, hN9, hL9, hfr⟩ := hp
      subst hx9
      rw [← hP2] at hL9 hfr
      have hsub : ∀ y, y ∈ P1 → y ∈ P2 := fun y hy => by rw [hP2]; exact List.mem_append_left _ hy
      obtain ⟨fs9, hb9⟩ := hL.cel
      have hc_a := hfr.ob hm_a (ob_ne hc_a hb9 (by decide)) hc_a
      have hc_q := hfr.ob hm_q (ob_ne hc_q hb9 (by decide)) hc_q
      have hF := hF.fr hsub hfr
      have hP := hP.fr hfr hsub hb9 (ids_ne hE).2
      have hmv : ∀ i, i < (n + apn wy (t - 1)) + 1 → va_up g1 (n + apn wy (t - 1)) q i ∈ P2 ∧ f13 (va_up g1 (n + apn wy (t - 1)) q i) = .inr (6, [.int (nI (va_up cc1 (n + apn wy (t - 1)) (wy t) i)), .int (nI (va_up tt1 (n + apn wy (t - 1)) (cl + t) i))]) := fun i hi => by
        by_cases e9 : i = (n + apn wy (t - 1))
        · rw [e9, va_up_self, va_up_self, va_up_self]; exact ⟨hsub _ hm_q, hc_q⟩
        · rw [va_up_ne _ _ e9, va_up_ne _ _ e9, va_up_ne _ _ e9]
          obtain ⟨y1, y2⟩ := hmv i (by omega)
          exact ⟨hsub _ y1, hfr.ob y1 (ob_ne y2 hb9 (by decide)) y2⟩
      have hL := hL9
      rw [show (n + apn wy (t - 1)) + 1 = (n + apn wy (t)) from by rw [hap]; omega] at hmv hL
      have hM2 := apM_s h1t hM2 hne
      have hm_a := (show a ∈ P2 by rw [hP2]; exact List.mem_append_left _ hm_a)
      have hm_q := (show q ∈ P2 by rw [hP2]; exact List.mem_append_left _ hm_q)
      have hPN := hPN_app hPN hP2
      refine W.eq (g2 := F0 m 59 ls [_]) rfl ?_
      refine W.widen (k := 2 * t) (n := 2 * t + 4 * (nc cap1 (n + apn wy (t - 1)) - cap)) (by omega) (by omega) ?_
      refine lv_pop C.1 C.2.1 d_Pln_append_59 rfl ?_
      refine lv_iload_n C.1 C.2.1 d_Pln_append_60 rfl (lo_at hl 3 rfl) ?_
      refine lv_aload_n C.1 C.2.1 d_Pln_append_61 rfl (lo_at hl 0 rfl) ?_
      refine pg_get C hE hM hP.1.1 hP.2.2.1.1 rfl in_Pln 12 (Nat.le_of_ble_eq_true rfl) tw_541 rfl rfl d_Pln_append_62 ?_
      refine lv_icmp_ne (tgt := 79) C.1 C.2.1 d_Pln_append_65 (by decide) (fun hc65 => ?_) (fun hc65 => ?_)
      · refine lo_iinc C hl d_Pln_append_79 rfl rfl (fun ls hl => ?_)
        refine lv_goto (tgt := 2) C.1 C.2.1 d_Pln_append_82 (by decide) ?_
        have hfin : finF (F 4) fin n wy t = finF (F 4) fin n wy (t - 1) := by
          obtain ⟨r, rfl⟩ : ∃ r, t = r + 1 := ⟨t - 1, by omega⟩
          rw [finF, if_neg hc65]; rfl
        have hcan : f13 a = .inr (8, [.int num, .int park, .ref mv, .int made, .int alw, .int knw, .int grt, .int lat, .int (finF (F 4) fin n wy (t + 1 - 1)), .int jm]) := by rw [Nat.add_sub_cancel, hfin]; exact hc_a
        have hgg : ∀ i, i < n → (va_up g1 (n + apn wy (t - 1)) q) i = ga i := fun i hi => by rw [va_up_ne _ _ (by omega)]; exact hg i hi
        have hcpn : cap ≤ nc cap1 (n + apn wy (t - 1)) ∧ nc cap1 (n + apn wy (t - 1)) ≤ 2 * (n + apn wy (t)) + 10 := ⟨by omega, by rw [hap]; omega⟩
        have h9 := hl
        rw [nI_pl] at h9
        exact ih2 (t + 1, nc cap1 (n + apn wy (t - 1)), va_up g1 (n + apn wy (t - 1)) q, va_up cc1 (n + apn wy (t - 1)) (wy t), va_up tt1 (n + apn wy (t - 1)) (cl + t), ls, _, H1, locs1, f13) ⟨by (try dsimp only); omega, by (try dsimp only); omega, hcpn, (hPN ▸ hL), (fun i hi => ⟨hPN ▸ (hmv i hi).1, (hmv i hi).2⟩), hM2, hgg, (hPN ▸ hm_a), hcan, (hPN ▸ hF), (hPN ▸ hP), lo_weak h9 ⟨rfl, rfl, rfl, rfl, trivial⟩, (hPN ▸ hM)⟩ (by show e0 + 1 - (t + 1) < e0 + 1 - t; omega)
      · have hca0 := hc_a
        refine lv_aload_n C.1 C.2.1 d_Pln_append_68 rfl (lo_at hl 1 rfl) ?_
        refine lv_aload_n C.1 C.2.1 d_Pln_append_69 rfl (lo_at hl 1 rfl) ?_
        refine pg_getN C hE hM hm_a hc_a rfl in_Veh 2 (Nat.le_of_ble_eq_true rfl) nw_479 rfl rfl d_Pln_append_70 ?_
        obtain ⟨_, _, hc_mv⟩ := hL.cell
        refine cg_callV C hE hM (q_size l G hL) hL.1 hc_mv rfl tw_691 cy_AL_size ⟨(Nat.le_of_ble_eq_true rfl), (Nat.le_of_ble_eq_true rfl)⟩ rfl hl.1 rfl (Nat.le_of_ble_eq_true rfl) ⟨by (try show _ ≤ 300); omega, by (try show _ ≤ 30000); omega⟩ d_Pln_append_73 (fun x9 f14 H1 locs1 hp hM => ?_)
        obtain ⟨rfl, h9⟩ := hp
        rw [h9] at hM
        clear h9
        refine W.eq (g2 := F0 m 76 ls [_, _]) rfl ?_
        refine cg_putN C hE hM hm_a hc_a rfl in_Veh ok_Veh n_Veh 8 (Nat.le_of_ble_eq_true rfl) nw_492 rfl rfl rfl rfl rfl (Nat.le_of_ble_eq_true rfl) d_Pln_append_76 (fun f15 H1 locs1 hf15 hM => ?_)
        have hL := hL.wr hf15 hc_a (by decide)
        have hc_q := ((congrFun hf15 q).trans (va_up_ne _ _ (ob_ne hc_q hc_a (by decide)))).trans hc_q
        have hc_a := (congrFun hf15 a).trans (va_up_self _ _ _)
        have hF := hF.wrn hf15 (Or.inr rfl) hca0 (by decide)
        have hP := hP.wr hf15 hca0 (by decide) (by decide)
        have hmv := fun (i : Nat) (hi : i < (n + apn wy (t))) => (⟨(hmv i hi).1, ((congrFun hf15 _).trans (va_up_ne _ _ (ob_ne (hmv i hi).2 hca0 (by decide)))).trans (hmv i hi).2⟩ : _ ∧ _)
        refine lo_iinc C hl d_Pln_append_79 rfl rfl (fun ls hl => ?_)
        refine lv_goto (tgt := 2) C.1 C.2.1 d_Pln_append_82 (by decide) ?_
        have hfin : finF (F 4) fin n wy t = nI (n + apn wy (t)) := by
          obtain ⟨r, rfl⟩ : ∃ r, t = r + 1 := ⟨t - 1, by omega⟩
          rw [finF, if_pos hc65]
        have hcan : f15 a = .inr (8, [.int num, .int park, .ref mv, .int made, .int alw, .int knw, .int grt, .int lat, .int (finF (F 4) fin n wy (t + 1 - 1)), .int jm]) := by rw [Nat.add_sub_cancel, hfin]; exact hc_a
        have hgg : ∀ i, i < n → (va_up g1 (n + apn wy (t - 1)) q) i = ga i := fun i hi => by rw [va_up_ne _ _ (by omega)]; exact hg i hi
        have hcpn : cap ≤ nc cap1 (n + apn wy (t - 1)) ∧ nc cap1 (n + apn wy (t - 1)) ≤ 2 * (n + apn wy (t)) + 10 := ⟨by omega, by rw [hap]; omega⟩
        have h9 := hl
        rw [nI_pl] at h9
        exact ih2 (t + 1, nc cap1 (n + apn wy (t - 1)), va_up g1 (n + apn wy (t - 1)) q, va_up cc1 (n + apn wy (t - 1)) (wy t), va_up tt1 (n + apn wy (t - 1)) (cl + t), ls, _, H1, locs1, f15) ⟨by (try dsimp only); omega, by (try dsimp only); omega, hcpn, (hPN ▸ hL), (fun i hi => ⟨hPN ▸ (hmv i hi).1, (hmv i hi).2⟩), hM2, hgg, (hPN ▸ hm_a), hcan, (hPN ▸ hF), (hPN ▸ hP), lo_weak h9 ⟨rfl, rfl, rfl, rfl, trivial⟩, (hPN ▸ hM)⟩ (by show e0 + 1 - (t + 1) < e0 + 1 - t; omega)
