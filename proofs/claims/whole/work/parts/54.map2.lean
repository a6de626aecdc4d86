/-! whether a way leads from an end to all others -/
theorem nbS_iff {S : Nat → Bool} {d : Nat} (hd : d < 96) : nbS S d = true ↔ ∃ c w, c < 96 ∧ w < 4 ∧ S c = true ∧ nbq c w = some d := by
  unfold nbS
  simp only [Bool.or_eq_true, Bool.and_eq_true, decide_eq_true_eq]
  constructor
  · rintro (((⟨h1, h2⟩ | ⟨h1, h2⟩) | ⟨h1, h2⟩) | ⟨h1, h2⟩)
    · refine ⟨d - 12, 2, by omega, by decide, h2, ?_⟩
      unfold nbq
      rw [if_neg (by decide), if_neg (by decide), if_pos rfl, if_neg (by omega)]
      congr 1; omega
    · refine ⟨d + 12, 0, by omega, by decide, h2, ?_⟩
      unfold nbq
      rw [if_pos rfl, if_neg (by omega)]
      congr 1
    · refine ⟨d - 1, 1, by omega, by decide, h2, ?_⟩
      unfold nbq
      rw [if_neg (by decide), if_pos rfl, if_neg (by omega)]
      congr 1; omega
    · refine ⟨d + 1, 3, by omega, by decide, h2, ?_⟩
      unfold nbq
      rw [if_neg (by decide), if_neg (by decide), if_neg (by decide), if_pos rfl, if_neg (by omega)]
      congr 1
  · rintro ⟨c, w, hc, hw, hS, hn⟩
    unfold nbq at hn
    split at hn
    · split at hn
      · cases hn
      · cases hn; exact Or.inl (Or.inl (Or.inr ⟨by omega, by rw [show c - 12 + 12 = c by omega]; exact hS⟩))
    · split at hn
      · split at hn
        · cases hn
        · cases hn; exact Or.inl (Or.inr ⟨by omega, by rw [Nat.add_sub_cancel]; exact hS⟩)
      · split at hn
        · split at hn
          · cases hn
          · cases hn; exact Or.inl (Or.inl (Or.inl ⟨by omega, by rw [Nat.add_sub_cancel]; exact hS⟩))
        · split at hn
          · split at hn
            · cases hn
            · cases hn; exact Or.inr ⟨by omega, by rw [show c - 1 + 1 = c by omega]; exact hS⟩
          · omega
def sz (S : Nat → Bool) : Nat → Nat
  | 0 => 0
  | n + 1 => sz S n + (if S n = true then 1 else 0)
theorem sz_le {S : Nat → Bool} : ∀ n, sz S n ≤ n := by
  intro n
  induction n with
  | zero => exact Nat.le_refl _
  | succ n ih => rw [sz]; split <;> omega
theorem sz_mono {S T : Nat → Bool} : ∀ n, (∀ d, d < n → S d = true → T d = true) → sz S n ≤ sz T n := by
  intro n
  induction n with
  | zero => intro _; exact Nat.le_refl _
  | succ n ih =>
    intro h
    have := ih (fun d hd => h d (by omega))
    have h1 := h n (by omega)
    rw [sz, sz]
    by_cases e : S n = true
    · rw [if_pos e, if_pos (h1 e)]; omega
    · rw [if_neg e]; omega
theorem sz_lt {S T : Nat → Bool} : ∀ n, (∀ d, d < n → S d = true → T d = true) → (∃ d, d < n ∧ T d = true ∧ ¬ S d = true) → sz S n < sz T n := by
  intro n
  induction n with
  | zero => rintro _ ⟨d, hd, _⟩; omega
  | succ n ih =>
    rintro h ⟨d, hd, h2, h3⟩
    have hm := sz_mono (S := S) (T := T) n (fun d hd => h d (by omega))
    have h1 := h n (by omega)
    rw [sz, sz]
    by_cases e : d = n
    · rw [e] at h2 h3
      rw [if_neg h3, if_pos h2]; omega
    · have := ih (fun d hd => h d (by omega)) ⟨d, by omega, h2, h3⟩
      by_cases q : S n = true
      · rw [if_pos q, if_pos (h1 q)]; omega
      · rw [if_neg q]; omega
theorem sz_pos {S : Nat → Bool} {d : Nat} : ∀ n, d < n → S d = true → 1 ≤ sz S n := by
  intro n
  induction n with
  | zero => intro h; omega
  | succ n ih =>
    intro h hS
    rw [sz]
    by_cases e : d = n
    · rw [← e, if_pos hS]; omega
    · have := ih (by omega) hS; omega
/-- what is crossed behind i steps -/
def crO (K : Nat → Int32) (st i : Nat) (C : Nat → Bool) : Prop := ∀ d, d < 96 → (C d = true ↔ (RS K st i d ∧ (d = st ∨ K d = 1)))
theorem RS_lt {K : Nat → Int32} {st : Nat} (hs : st < 96) : ∀ i d, RS K st i d → d < 96 := by
  intro i
  induction i with
  | zero => intro d h; rw [show d = st from h]; exact hs
  | succ i ih =>
    rintro d (h | ⟨c, w, hc, hw, _, _, hn, _⟩)
    · exact ih d h
    · exact nbq_lt hc (by omega) hn
/-- an end that is come to behind i steps is a neighbour of what is crossed -/
theorem RS_nb {K : Nat → Int32} {st : Nat} {C : Nat → Bool} : ∀ i, crO K st i C → ∀ d, d < 96 → (RS K st (i + 1) d ↔ (d = st ∨ (nbS C d = true ∧ ¬ K d = 0))) := by
  have key : ∀ i d, RS K st i d → d = st ∨ ∃ c w, c < 96 ∧ w < 4 ∧ RS K st i c ∧ (c = st ∨ K c = 1) ∧ nbq c w = some d ∧ ¬ K d = 0 := by
    intro i
    induction i with
    | zero => intro d h; exact Or.inl h
    | succ i ih =>
      rintro d (h | ⟨c, w, h1, h2, h3, h4, h5, h6⟩)
      · rcases ih d h with h | ⟨c, w, h1, h2, h3, h4⟩
        · exact Or.inl h
        · exact Or.inr ⟨c, w, h1, h2, Or.inl h3, h4⟩
      · exact Or.inr ⟨c, w, h1, h2, Or.inl h3, h4, h5, h6⟩
  intro i hC d hd
  rw [nbS_iff hd]
  constructor
  · rintro (h | ⟨c, w, h1, h2, h3, h4, h5, h6⟩)
    · rcases key i d h with h | ⟨c, w, h1, h2, h3, h4, h5, h6⟩
      · exact Or.inl h
      · exact Or.inr ⟨⟨c, w, h1, h2, (hC c h1).mpr ⟨h3, h4⟩, h5⟩, h6⟩
    · exact Or.inr ⟨⟨c, w, h1, h2, (hC c h1).mpr ⟨h3, h4⟩, h5⟩, h6⟩
  · rintro (h | ⟨⟨c, w, h1, h2, h3, h5⟩, h6⟩)
    · subst h
      have : ∀ i, RS K d i d := by
        intro i
        induction i with
        | zero => exact rfl
        | succ i ih => exact Or.inl ih
      exact this _
    · obtain ⟨h7, h8⟩ := (hC c h1).mp h3
      exact Or.inr ⟨c, w, h1, h2, h7, h8, h5, h6⟩
theorem crO_0 {K : Nat → Int32} {st : Nat} : crO K st 0 (fun d => false || decide (d = st)) := by
  intro d hd
  simp only [Bool.false_or, decide_eq_true_eq]
  exact ⟨fun h => ⟨h, Or.inl h⟩, fun h => h.1⟩
/-- the next step -/
theorem crO_s {K : Nat → Int32} {st i : Nat} {C F : Nat → Bool} (hs : st < 96) (hF : ∀ d, d < 96 → (F d = true ↔ K d = 1)) (hC : crO K st i C) : crO K st (i + 1) (fun d => C d || ((nbS C d || decide (d = st)) && F d)) := by
  intro d hd
  have h1 := RS_nb i hC d hd
  simp only [Bool.or_eq_true, Bool.and_eq_true, decide_eq_true_eq]
  rw [h1, hF d hd, hC d hd]
  constructor
  · rintro (⟨h2, h3⟩ | ⟨h2 | h2, h3⟩)
    · refine ⟨?_, h3⟩
      exact (RS_nb i hC d hd).mp (Or.inl h2)
    · exact ⟨Or.inr ⟨h2, by rw [h3]; decide⟩, Or.inr h3⟩
    · exact ⟨Or.inl h2, Or.inl h2⟩
  · rintro ⟨h2 | ⟨h2, h3⟩, h4⟩
    · subst h2
      have hst : C d = true := (hC d hd).mpr ⟨by
        have : ∀ i, RS K d i d := by
          intro i
          induction i with
          | zero => exact rfl
          | succ i ih => exact Or.inl ih
        exact this i, Or.inl rfl⟩
      exact Or.inl ((hC d hd).mp hst)
    · rcases h4 with h4 | h4
      · subst h4
        have hst : C d = true := (hC d hd).mpr ⟨by
          have : ∀ i, RS K d i d := by
            intro i
            induction i with
            | zero => exact rfl
            | succ i ih => exact Or.inl ih
          exact this i, Or.inl rfl⟩
        exact Or.inl ((hC d hd).mp hst)
      · exact Or.inr ⟨Or.inl h2, h4⟩
/-- nothing more is crossed: what is come to is all -/
theorem crO_end {K : Nat → Int32} {st i : Nat} {C F : Nat → Bool} (hs : st < 96) (hF : ∀ d, d < 96 → (F d = true ↔ K d = 1)) (hC : crO K st i C) (hsub : ∀ d, d < 96 → ((nbS C d || decide (d = st)) && F d) = true → C d = true) : ∀ d, RE K st d → RS K st (i + 1) d := by
  have hsame : crO K st (i + 1) C := by
    intro d hd
    rw [← crO_s hs hF hC d hd]
    simp only [Bool.or_eq_true]
    exact ⟨Or.inl, fun h => h.elim id (hsub d hd)⟩
  have step : ∀ k, crO K st (i + 1 + k) C ∧ ∀ d, RS K st (i + 1 + k) d → RS K st (i + 1) d := by
    intro k
    induction k with
    | zero => exact ⟨hsame, fun _ h => h⟩
    | succ k ih =>
      obtain ⟨a1, a2⟩ := ih
      have h9 : ∀ d, RS K st (i + 1 + k + 1) d → RS K st (i + 1) d := by
        intro d hr
        have hd := RS_lt hs _ d hr
        exact (RS_nb i hC d hd).mpr ((RS_nb (i + 1 + k) a1 d hd).mp hr)
      refine ⟨fun d hd => ?_, h9⟩
      constructor
      · intro h
        obtain ⟨h1, h2⟩ := (a1 d hd).mp h
        exact ⟨Or.inl h1, h2⟩
      · rintro ⟨h1, h2⟩
        exact (hsame d hd).mpr ⟨h9 d h1, h2⟩
  rintro d ⟨n, hn⟩
  by_cases e : n ≤ i + 1
  · have up : ∀ k m d, RS K st m d → RS K st (m + k) d := by
      intro k
      induction k with
      | zero => intro m d h; exact h
      | succ k ih => intro m d h; exact Or.inl (ih m d h)
    have := up (i + 1 - n) n d hn
    rwa [show n + (i + 1 - n) = i + 1 by omega] at this
  · obtain ⟨k, hk⟩ : ∃ k, n = i + 1 + k := ⟨n - (i + 1), by omega⟩
    rw [hk] at hn
    exact (step k).2 d hn
set_option maxHeartbeats 4000000 in
set_option maxRecDepth 100000 in
theorem k_Map_reachesAll (l : Launch) (G : GG) {P : List Nat} {f : Nat → va_E} (st : Nat) (hst : st < 96) (b ep : Nat) (SF SE : Nat → Bool) (K : Nat → Int32) (hm_b : b ∈ P) (hm_e : ep ∈ P) (hs_b : ce f b SF) (hs_e : ce f ep SE) (hbe : b ≠ ep) (hF : ∀ d, d < 96 → (SF d = true ↔ K d = 1)) (hSE : ∀ d, d < 96 → SE d = true → ¬ K d = 0)  : ct l G y_Map_reachesAll c_Map_reachesAll 6 (some .boolean) 2 46 (2) (4) [.int (nI st), .ref b, .ref ep] P f (fun x N f1 => ∃ qs, N = qs ∧ ∃ z : Bool, x = some (.int (bz (z = true))) ∧ (z = true ↔ ∀ d, d < 96 → SE d = true → RE K st d) ∧ kp P f f1) := by
  refine ct_intro (by decide) [some (.int (nI st)), some (.ref b), some (.ref ep), none, none, none] rfl rfl (Nat.le_of_ble_eq_true rfl) ?_
  intro p e s m below meth c ls C hr hlk hnm hE hM hl
  have hb0 := hm_b
  have he0 := hm_e
  have hPN : P = P ++ [] := (List.append_nil P).symm
  refine cg_new C hE hM (ci := 4) (fs := [.long 0, .long 0]) rfl in_Cel ok_Cel tw_396 tw_397 tw_12 (by decide) (Nat.le_of_ble_eq_true rfl) (Nat.le_of_ble_eq_true rfl) d_Map_reachesAll_0 (fun q1 P1 f11 H1 hq1 hP1 hf11 hM => ?_)
  have hs_b := hs_b.congr ((congrFun hf11 b).trans (va_up_ne _ _ (fun z => hq1 (z ▸ hm_b))))
  have hm_b := (show b ∈ P1 by rw [hP1]; exact List.mem_append_left _ hm_b)
  have hs_e := hs_e.congr ((congrFun hf11 ep).trans (va_up_ne _ _ (fun z => hq1 (z ▸ hm_e))))
  have hm_e := (show ep ∈ P1 by rw [hP1]; exact List.mem_append_left _ hm_e)
  have hm_c : q1 ∈ P1 := by rw [hP1]; exact List.mem_append_right _ (List.mem_singleton.mpr rfl)
  have hc_c := (congrFun hf11 q1).trans (va_up_self _ _ _)
  have hPN := hPN_new hPN hP1
  have hs_c : ce f11 q1 (fun _ => false) := ⟨0, 0, hc_c, hi_0, hi_0, fun d _ => by unfold cb; split <;> exact (gb_zero _).symm⟩
  have hkp : kp P f f11 := fun y hy => (congrFun hf11 y).trans (va_up_ne _ _ (fun z => hq1 (z ▸ hy)))
  have nb1 : q1 ≠ b := fun z => hq1 (z ▸ hb0)
  have ne1 : q1 ≠ ep := fun z => hq1 (z ▸ he0)
  refine W.widen (k := 1) (n := 2) (by omega) (by omega) ?_
  refine lv_dup C.1 C.2.1 d_Map_reachesAll_3 rfl ?_
  refine cg_callIN C hE hM (k_Cel_init l G _) nw_398 cy_Cel_init ⟨(Nat.le_of_ble_eq_true rfl), (Nat.le_of_ble_eq_true rfl)⟩ rfl hl.1 rfl (Nat.le_of_ble_eq_true rfl) ⟨by (try show _ ≤ 2); omega, by (try show _ ≤ 4); omega⟩ d_Map_reachesAll_4 (fun x9 f12 H1 locs1 hp hM => ?_)
  obtain ⟨rfl, h9⟩ := hp
  rw [h9] at hM
  clear h9
  refine W.eq (g2 := F0 m 7 ls [_]) rfl ?_
  refine lo_astore_n C hl d_Map_reachesAll_7 (Nat.le_of_ble_eq_true rfl) rfl (fun ls hl => ?_)
  refine lv_aload_n C.1 C.2.1 d_Map_reachesAll_8 rfl (lo_at hl 3 rfl) ?_
  refine lv_iload_n C.1 C.2.1 d_Map_reachesAll_9 rfl (lo_at hl 0 rfl) ?_
  obtain ⟨_, _, hc_c, -⟩ := hs_c.words
  refine cg_callV C hE hM (k_Cel_put l G q1 _ hm_c hs_c st hst) hm_c hc_c rfl tw_413 cy_Cel_put ⟨(Nat.le_of_ble_eq_true rfl), (Nat.le_of_ble_eq_true rfl)⟩ rfl hl.1 rfl (Nat.le_of_ble_eq_true rfl) ⟨by (try show _ ≤ 2); omega, by (try show _ ≤ 4); omega⟩ d_Map_reachesAll_10 (fun x9 f13 H1 locs1 hp hM => ?_)
  have hx9 := hp.1
  subst hx9
  have hs_b := hs_b.congr (hp.2.there (Ne.symm (nb1)))
  have hs_e := hs_e.congr (hp.2.there (Ne.symm (ne1)))
  have hkp : kp P f f13 := fun y hy => (hp.2.there (fun z => hq1 (z ▸ hy))).trans (hkp y hy)
  have hs_c := hp.2.here
  refine W.eq (g2 := F0 m 13 ls []) rfl ?_
  refine cg_new C hE hM (ci := 4) (fs := [.long 0, .long 0]) rfl in_Cel ok_Cel tw_396 tw_397 tw_12 (by decide) (by (try show _ ≤ 2); omega) (by (try show _ ≤ 4); omega) d_Map_reachesAll_13 (fun q2 P2 f14 H1 hq2 hP2 hf14 hM => ?_)
  have hs_b := hs_b.congr ((congrFun hf14 b).trans (va_up_ne _ _ (fun z => hq2 (z ▸ hm_b))))
  have hm_b := (show b ∈ P2 by rw [hP2]; exact List.mem_append_left _ hm_b)
  have hs_e := hs_e.congr ((congrFun hf14 ep).trans (va_up_ne _ _ (fun z => hq2 (z ▸ hm_e))))
  have hm_e := (show ep ∈ P2 by rw [hP2]; exact List.mem_append_left _ hm_e)
  have hs_c := hs_c.congr ((congrFun hf14 q1).trans (va_up_ne _ _ (fun z => hq2 (z ▸ hm_c))))
  have hm_c := (show q1 ∈ P2 by rw [hP2]; exact List.mem_append_left _ hm_c)
  have hm_r : q2 ∈ P2 := by rw [hP2]; exact List.mem_append_right _ (List.mem_singleton.mpr rfl)
  have hc_r := (congrFun hf14 q2).trans (va_up_self _ _ _)
  have hPN := hPN_new hPN hP2
  have hs_r : ce f14 q2 (fun _ => false) := ⟨0, 0, hc_r, hi_0, hi_0, fun d _ => by unfold cb; split <;> exact (gb_zero _).symm⟩
  have hkp : kp P f f14 := fun y hy => ((congrFun hf14 y).trans (va_up_ne _ _ (fun z => hq2 (by rw [hP1, ← z]; exact List.mem_append_left _ hy)))).trans (hkp y hy)
  have hq2P : q2 ∉ P := fun z => hq2 (by rw [hP1]; exact List.mem_append_left _ z)
  have nb2 : q2 ≠ b := fun z => hq2P (z ▸ hb0)
  have ne2 : q2 ≠ ep := fun z => hq2P (z ▸ he0)
  have n21 : q2 ≠ q1 := fun z => hq2 (by rw [hP1, z]; exact List.mem_append_right _ (List.mem_singleton.mpr rfl))
  refine W.widen (k := 2) (n := 4) (by omega) (by omega) ?_
  refine lv_dup C.1 C.2.1 d_Map_reachesAll_16 rfl ?_
  refine cg_callIN C hE hM (k_Cel_init l G _) nw_398 cy_Cel_init ⟨(Nat.le_of_ble_eq_true rfl), (Nat.le_of_ble_eq_true rfl)⟩ rfl hl.1 rfl (Nat.le_of_ble_eq_true rfl) ⟨by (try show _ ≤ 2); omega, by (try show _ ≤ 4); omega⟩ d_Map_reachesAll_17 (fun x9 f15 H1 locs1 hp hM => ?_)
  obtain ⟨rfl, h9⟩ := hp
  rw [h9] at hM
  clear h9
  refine W.eq (g2 := F0 m 20 ls [_]) rfl ?_
  refine lo_astore C hl d_Map_reachesAll_20 (Nat.le_of_ble_eq_true rfl) rfl (fun ls hl => ?_)
  refine lv_iconst (v := 0) C.1 C.2.1 d_Map_reachesAll_22 (by decide) ?_
  refine lo_istore C hl d_Map_reachesAll_23 (Nat.le_of_ble_eq_true rfl) rfl (fun ls hl => ?_)
  refine W.loop (α := (Nat) × (Nat → Bool) × (Nat → Bool) × (Array Slot) × (Heap) × (List Loc) × (Nat → va_E)) (fun a => 96 - a.1) (fun a => (a.1 ≤ 96) ∧ (crO K st a.1 a.2.1) ∧ (a.1 + 1 ≤ sz a.2.1 96) ∧ (ce a.2.2.2.2.2.2 b SF) ∧ (ce a.2.2.2.2.2.2 ep SE) ∧ (ce a.2.2.2.2.2.2 q1 a.2.1) ∧ (ce a.2.2.2.2.2.2 q2 a.2.2.1) ∧ (kp P f a.2.2.2.2.2.2) ∧ lo a.2.2.2.1 [some (.int (nI st)), some (.ref b), some (.ref ep), some (.ref q1), some (.ref q2), some (.int (nI a.1))] ∧ pgS G (pgA P s.heap.size) s.heap P2 a.2.2.2.2.2.2 a.2.2.2.2.1 a.2.2.2.2.2.1) (fun a => a.2.2.2.2.1) (fun a => a.2.2.2.2.2.1) (fun a => 2) (fun a => 4) (fun a => F0 m 25 a.2.2.2.1 []) ?_ (0, _, _, ls, H1, locs1, f14) ⟨Nat.zero_le _, crO_0, sz_pos (S := fun d => false || decide (d = st)) 96 hst (by simp), hs_b, hs_e, hs_c, hs_r, hkp, lo_weak hl ⟨rfl, rfl, rfl, rfl, rfl, rfl, trivial⟩, hM⟩
  rintro ⟨i, Cc, Rr, ls, H1, locs1, f1⟩ ⟨hi, hC, hsz, hs_b, hs_e, hs_c, hs_r, hkp, hl, hM⟩ ih25
  dsimp only at hi hC hsz hs_b hs_e hs_c hs_r hkp hl hM
  show W _ _ _ _ _ _ _ _ _ _ _ _ (2) (4) _ (F0 m 25 ls [])
  refine lv_iload C.1 C.2.1 d_Map_reachesAll_25 (lo_at hl 5 rfl) ?_
  refine lv_bipush (v := 96) C.1 C.2.1 d_Map_reachesAll_27 (by decide) ?_
  rw [show (96 : Int32) = nI 96 from rfl]
  refine lv_icmp_ge (tgt := 84) C.1 C.2.1 d_Map_reachesAll_29 (by decide) (fun hc29 => ?_) (fun hc29 => ?_)
  · have hi9 : i = 96 := Nat.le_antisymm hi (nI_leN (by omega) (by omega) hc29)
    have h97 := sz_le (S := Cc) 96
    refine lv_iconst (v := 0) C.1 C.2.1 d_Map_reachesAll_84 (by decide) ?_
    refine pg_zret C hr hlk hM hPN (by omega) (by omega) d_Map_reachesAll_85 (by decide) ?_
    omega
  · have hi9 : i < 96 := nI_ltN (by omega) (by omega) hc29
    refine lv_aload C.1 C.2.1 d_Map_reachesAll_32 (lo_at hl 4 rfl) ?_
    refine lv_aload_n C.1 C.2.1 d_Map_reachesAll_34 rfl (lo_at hl 3 rfl) ?_
    obtain ⟨_, _, hc_r, -⟩ := hs_r.words
    refine cg_callV C hE hM (k_Cel_becomeNeighboursOf l G q2 _ hm_r hs_r q1 _ hm_c hs_c (n21)) hm_r hc_r rfl tw_424 cy_Cel_becomeNeighboursOf ⟨(Nat.le_of_ble_eq_true rfl), (Nat.le_of_ble_eq_true rfl)⟩ rfl hl.1 rfl (Nat.le_of_ble_eq_true rfl) ⟨by (try show _ ≤ 2); omega, by (try show _ ≤ 4); omega⟩ d_Map_reachesAll_35 (fun x9 f16 H1 locs1 hp hM => ?_)
    have hx9 := hp.1
    subst hx9
    have hs_b := hs_b.congr (hp.2.there (Ne.symm (nb2)))
    have hs_e := hs_e.congr (hp.2.there (Ne.symm (ne2)))
    have hs_c := hs_c.congr (hp.2.there (Ne.symm (n21)))
    have hkp : kp P f f16 := fun y hy => (hp.2.there (fun z => hq2P (z ▸ hy))).trans (hkp y hy)
    have hs_r := hp.2.here
    refine W.eq (g2 := F0 m 38 ls []) rfl ?_
    refine lv_aload C.1 C.2.1 d_Map_reachesAll_38 (lo_at hl 4 rfl) ?_
    refine lv_iload_n C.1 C.2.1 d_Map_reachesAll_40 rfl (lo_at hl 0 rfl) ?_
    obtain ⟨_, _, hc_r, -⟩ := hs_r.words
    refine cg_callV C hE hM (k_Cel_put l G q2 _ hm_r hs_r st hst) hm_r hc_r rfl tw_413 cy_Cel_put ⟨(Nat.le_of_ble_eq_true rfl), (Nat.le_of_ble_eq_true rfl)⟩ rfl hl.1 rfl (Nat.le_of_ble_eq_true rfl) ⟨by (try show _ ≤ 2); omega, by (try show _ ≤ 4); omega⟩ d_Map_reachesAll_41 (fun x9 f17 H1 locs1 hp hM => ?_)
    have hx9 := hp.1
    subst hx9
    have hs_b := hs_b.congr (hp.2.there (Ne.symm (nb2)))
    have hs_e := hs_e.congr (hp.2.there (Ne.symm (ne2)))
    have hs_c := hs_c.congr (hp.2.there (Ne.symm (n21)))
    have hkp : kp P f f17 := fun y hy => (hp.2.there (fun z => hq2P (z ▸ hy))).trans (hkp y hy)
    have hs_r := hp.2.here
    refine W.eq (g2 := F0 m 44 ls []) rfl ?_
    refine lv_aload C.1 C.2.1 d_Map_reachesAll_44 (lo_at hl 4 rfl) ?_
    refine lv_aload_n C.1 C.2.1 d_Map_reachesAll_46 rfl (lo_at hl 2 rfl) ?_
    obtain ⟨_, _, hc_r, -⟩ := hs_r.words
    refine cg_callV C hE hM (k_Cel_hasAll l G q2 _ hm_r hs_r ep _ hm_e hs_e) hm_r hc_r rfl tw_434 cy_Cel_hasAll ⟨(Nat.le_of_ble_eq_true rfl), (Nat.le_of_ble_eq_true rfl)⟩ rfl hl.1 rfl (Nat.le_of_ble_eq_true rfl) ⟨by (try show _ ≤ 2); omega, by (try show _ ≤ 4); omega⟩ d_Map_reachesAll_47 (fun x9 f18 H1 locs1 hp hM => ?_)
    obtain ⟨rfl, h9⟩ := hp
    rw [h9] at hM
    clear h9
    refine W.eq (g2 := F0 m 50 ls [_]) rfl ?_
    refine lv_if_eq (tgt := 55) C.1 C.2.1 d_Map_reachesAll_50 (by decide) (fun hc50 => ?_) (fun hc50 => ?_)
    · replace hc50 := bz_0.mp hc50
      refine lv_aload C.1 C.2.1 d_Map_reachesAll_55 (lo_at hl 4 rfl) ?_
      refine lv_aload_n C.1 C.2.1 d_Map_reachesAll_57 rfl (lo_at hl 1 rfl) ?_
      obtain ⟨_, _, hc_r, -⟩ := hs_r.words
      refine cg_callV C hE hM (k_Cel_keep l G q2 _ hm_r hs_r b _ hm_b hs_b (nb2)) hm_r hc_r rfl tw_439 cy_Cel_keep ⟨(Nat.le_of_ble_eq_true rfl), (Nat.le_of_ble_eq_true rfl)⟩ rfl hl.1 rfl (Nat.le_of_ble_eq_true rfl) ⟨by (try show _ ≤ 2); omega, by (try show _ ≤ 4); omega⟩ d_Map_reachesAll_58 (fun x9 f19 H1 locs1 hp hM => ?_)
      have hx9 := hp.1
      subst hx9
      have hs_b := hs_b.congr (hp.2.there (Ne.symm (nb2)))
      have hs_e := hs_e.congr (hp.2.there (Ne.symm (ne2)))
      have hs_c := hs_c.congr (hp.2.there (Ne.symm (n21)))
      have hkp : kp P f f19 := fun y hy => (hp.2.there (fun z => hq2P (z ▸ hy))).trans (hkp y hy)
      have hs_r := hp.2.here
      refine W.eq (g2 := F0 m 61 ls []) rfl ?_
      refine lv_aload_n C.1 C.2.1 d_Map_reachesAll_61 rfl (lo_at hl 3 rfl) ?_
      refine lv_aload C.1 C.2.1 d_Map_reachesAll_62 (lo_at hl 4 rfl) ?_
      obtain ⟨_, _, hc_c, -⟩ := hs_c.words
      refine cg_callV C hE hM (k_Cel_hasAll l G q1 _ hm_c hs_c q2 _ hm_r hs_r) hm_c hc_c rfl tw_434 cy_Cel_hasAll ⟨(Nat.le_of_ble_eq_true rfl), (Nat.le_of_ble_eq_true rfl)⟩ rfl hl.1 rfl (Nat.le_of_ble_eq_true rfl) ⟨by (try show _ ≤ 2); omega, by (try show _ ≤ 4); omega⟩ d_Map_reachesAll_64 (fun x9 f20 H1 locs1 hp hM => ?_)
      obtain ⟨rfl, h9⟩ := hp
      rw [h9] at hM
      clear h9
      refine W.eq (g2 := F0 m 67 ls [_]) rfl ?_
      refine lv_if_eq (tgt := 72) C.1 C.2.1 d_Map_reachesAll_67 (by decide) (fun hc67 => ?_) (fun hc67 => ?_)
      · replace hc67 := bz_0.mp hc67
        refine lv_aload_n C.1 C.2.1 d_Map_reachesAll_72 rfl (lo_at hl 3 rfl) ?_
        refine lv_aload C.1 C.2.1 d_Map_reachesAll_73 (lo_at hl 4 rfl) ?_
        obtain ⟨_, _, hc_c, -⟩ := hs_c.words
        refine cg_callV C hE hM (k_Cel_join l G q1 _ hm_c hs_c q2 _ hm_r hs_r (Ne.symm (n21))) hm_c hc_c rfl tw_443 cy_Cel_join ⟨(Nat.le_of_ble_eq_true rfl), (Nat.le_of_ble_eq_true rfl)⟩ rfl hl.1 rfl (Nat.le_of_ble_eq_true rfl) ⟨by (try show _ ≤ 2); omega, by (try show _ ≤ 4); omega⟩ d_Map_reachesAll_75 (fun x9 f21 H1 locs1 hp hM => ?_)
        have hx9 := hp.1
        subst hx9
        have hs_b := hs_b.congr (hp.2.there (Ne.symm (nb1)))
        have hs_e := hs_e.congr (hp.2.there (Ne.symm (ne1)))
        have hs_r := hs_r.congr (hp.2.there (n21))
        have hkp : kp P f f21 := fun y hy => (hp.2.there (fun z => hq1 (z ▸ hy))).trans (hkp y hy)
        have hs_c := hp.2.here
        refine W.eq (g2 := F0 m 78 ls []) rfl ?_
        refine lo_iinc C hl d_Map_reachesAll_78 rfl rfl (fun ls hl => ?_)
        refine lv_goto (tgt := 25) C.1 C.2.1 d_Map_reachesAll_81 (by decide) ?_
        have hszn : i + 1 + 1 ≤ sz (fun d => Cc d || ((nbS Cc d || decide (d = st)) && SF d)) 96 := by
          have := sz_lt (S := Cc) (T := fun d => Cc d || ((nbS Cc d || decide (d = st)) && SF d)) 96 (fun d _ h => by simp [h]) (by
            refine Classical.byContradiction (fun hn => hc67 (sub96_iff.mpr (fun d hd h => Classical.byContradiction (fun h2 => hn ⟨d, hd, by (show (Cc d || _) = true); rw [h, Bool.or_true], h2⟩))))
            )
          omega
        have h9 := hl
        rw [nI_pl] at h9
        exact ih25 (i + 1, fun d => Cc d || ((nbS Cc d || decide (d = st)) && SF d), _, ls, H1, locs1, f21) ⟨by (try dsimp only); omega, crO_s hst hF hC, hszn, hs_b, hs_e, hs_c, hs_r, hkp, lo_weak h9 ⟨rfl, rfl, rfl, rfl, rfl, rfl, trivial⟩, hM⟩ (by show 96 - (i + 1) < 96 - i; omega)
      · replace hc67 := bz_1.mp hc67
        refine lv_iconst (v := 0) C.1 C.2.1 d_Map_reachesAll_70 (by decide) ?_
        refine pg_zret C hr hlk hM hPN (by omega) (by omega) d_Map_reachesAll_71 (by decide) ?_
        refine ⟨[q1, q2], rfl, false, rfl, ⟨fun z => absurd z (by decide), fun hall => ?_⟩, hkp⟩
        exfalso
        refine hc50 (sub96_iff.mpr (fun d hd hE2 => ?_))
        have h1 := crO_end hst hF hC (fun d hd h => sub96_iff.mp hc67 d hd h) d (hall d hd hE2)
        simp only [Bool.or_eq_true, decide_eq_true_eq]
        exact ((RS_nb i hC d hd).mp h1).elim Or.inr (fun h => Or.inl h.1)
    · replace hc50 := bz_1.mp hc50
      refine lv_iconst (v := 1) C.1 C.2.1 d_Map_reachesAll_53 (by decide) ?_
      refine pg_zret C hr hlk hM hPN (by omega) (by omega) d_Map_reachesAll_54 (by decide) ?_
      refine ⟨[q1, q2], rfl, true, rfl, ⟨fun _ => fun d hd hE2 => ?_, fun _ => rfl⟩, hkp⟩
      have h1 := sub96_iff.mp hc50 d hd hE2
      simp only [Bool.or_eq_true, decide_eq_true_eq] at h1
      exact ⟨i + 1, (RS_nb i hC d hd).mpr (h1.elim (fun h => Or.inr ⟨h, hSE d hd hE2⟩) Or.inl)⟩
