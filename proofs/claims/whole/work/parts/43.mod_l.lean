/-- what the plans of all others forbid -/
def fa36 (hq : Nat → Nat → Nat) (pu u : Nat) (b : Nat → Int64) : Prop := ∀ k d, k ≤ 150 → d < 96 → (bt b k d ↔ ∃ w, w < u ∧ w ≠ pu ∧ ∃ x, x < 153 ∧ (k + 1 = x ∨ k = x) ∧ d = hq w x)
def fa35 (hq : Nat → Nat → Nat) (pu u : Nat) (b : Nat → Int64) : Prop := ∀ k d, k ≤ 150 → d < 96 → (bt b k d ↔ ∃ w, w < u ∧ w ≠ pu ∧ ∃ x, x < 153 ∧ 1 ≤ x ∧ hq w x ≠ hq w (x - 1) ∧ (k + 1 = x ∨ k + 2 = x) ∧ d = hq w x)
theorem fa36_0 {hq : Nat → Nat → Nat} {pu : Nat} {b : Nat → Int64} (h : ∀ j, j < 304 → b j = 0) : fa36 hq pu 0 b := fun k d hk hd => ⟨fun z => absurd z (bb_zero (h _ (by omega))), fun ⟨w, z, _⟩ => absurd z (Nat.not_lt_zero _)⟩
theorem fa35_0 {hq : Nat → Nat → Nat} {pu : Nat} {b : Nat → Int64} (h : ∀ j, j < 304 → b j = 0) : fa35 hq pu 0 b := fun k d hk hd => ⟨fun z => absurd z (bb_zero (h _ (by omega))), fun ⟨w, z, _⟩ => absurd z (Nat.not_lt_zero _)⟩
theorem fa36_skip {hq : Nat → Nat → Nat} {pu : Nat} {b : Nat → Int64} (h : fa36 hq pu pu b) : fa36 hq pu (pu + 1) b := by
  intro k d hk hd
  rw [h k d hk hd]
  constructor
  · rintro ⟨w, z1, z2⟩; exact ⟨w, by omega, z2⟩
  · rintro ⟨w, z1, z2, z3⟩; exact ⟨w, by omega, z2, z3⟩
theorem fa35_skip {hq : Nat → Nat → Nat} {pu : Nat} {b : Nat → Int64} (h : fa35 hq pu pu b) : fa35 hq pu (pu + 1) b := by
  intro k d hk hd
  rw [h k d hk hd]
  constructor
  · rintro ⟨w, z1, z2⟩; exact ⟨w, by omega, z2⟩
  · rintro ⟨w, z1, z2, z3⟩; exact ⟨w, by omega, z2, z3⟩
theorem fa36_step {hq : Nat → Nat → Nat} {pu u : Nat} {b b1 : Nat → Int64} (h : fa36 hq pu u b) (hu : u ≠ pu) (h1 : fb36 b b1 (fun x => hq u x) 153) : fa36 hq pu (u + 1) b1 := by
  intro k d hk hd
  rw [h1 k d hk hd, h k d hk hd]
  constructor
  · rintro (⟨w, z1, z2⟩ | ⟨x, z1, z2, z3⟩)
    · exact ⟨w, by omega, z2⟩
    · exact ⟨u, by omega, hu, x, z1, z2, z3⟩
  · rintro ⟨w, z1, z2, x, z3, z4, z5⟩
    by_cases q : w = u
    · subst q; exact Or.inr ⟨x, z3, z4, z5⟩
    · exact Or.inl ⟨w, by omega, z2, x, z3, z4, z5⟩
theorem fa35_step {hq : Nat → Nat → Nat} {pu u : Nat} {b b1 : Nat → Int64} (h : fa35 hq pu u b) (hu : u ≠ pu) (h1 : fb35 b b1 (fun x => hq u x) 153) : fa35 hq pu (u + 1) b1 := by
  intro k d hk hd
  rw [h1 k d hk hd, h k d hk hd]
  constructor
  · rintro (⟨w, z1, z2⟩ | ⟨x, z1, z2, z3⟩)
    · exact ⟨w, by omega, z2⟩
    · exact ⟨u, by omega, hu, x, z1, z2, z3⟩
  · rintro ⟨w, z1, z2, x, z3, z4, z5⟩
    by_cases q : w = u
    · subst q; exact Or.inr ⟨x, z3, z4, z5⟩
    · exact Or.inl ⟨w, by omega, z2, x, z3, z4, z5⟩
/-- all vehicles' moves -/
def avOk (v : Nat → Int32) (A : Nat → Nat → Int32) (nv cl : Nat) (pk mu : Nat → Nat) (ce tm nq : Nat → Nat → Nat) : Prop := ∀ u, u < nv → vOk v A u (pk u) (mu u) (ce u) (tm u) ∧ tOk (mu u) cl (tm u) (nq u)
abbrev hqF (pk : Nat → Nat) (ce nq : Nat → Nat → Nat) : Nat → Nat → Nat := fun u x => cel (pk u) (ce u) (nq u x)
set_option maxHeartbeats 4000000 in
set_option maxRecDepth 100000 in
theorem k_Mod_forbidAll (l : Launch) (G : GG) (o : Nat) (r : Nat → Nat) (v : Nat → Int32) (A : Nat → Nat → Int32) (B : Nat → Nat → Int64)  {nv np cl pu : Nat} {pk mu : Nat → Nat} {ce tm nq : Nat → Nat → Nat} (hnv : nv ≤ 6) (h4 : v 4 = nI nv) (hnp : np ≤ 24) (h10 : v 10 = nI np) (h29 : v 29 = nI cl) (hcl : cl < 1000000) (hav : avOk v A nv cl pk mu ce tm nq) (h38 : v 38 = nI pu) (hpu : pu < 6) : mct l G y_Mod_forbidAll c_Mod_forbidAll 2 none 2 49 [.ref o] o r v A B (fun x v1 A1 B1 => x = none ∧ v1 = v ∧ A1 = A ∧ (∀ k, k ≠ 35 → k ≠ 36 → B1 k = B k) ∧ fa36 (hqF pk ce nq) pu nv (B1 36) ∧ fa35 (hqF pk ce nq) pu nv (B1 35)) := by
  refine mct_intro (by decide) [some (.ref o), none] rfl rfl (Nat.le_of_ble_eq_true rfl) ?_
  intro p e s m below meth c ls P f C hr hlk hE hM hm hl
  refine lv_iconst (v := 0) C.1 C.2.1 d_Mod_forbidAll_0 (by decide) ?_
  refine lo_istore_n C hl d_Mod_forbidAll_1 (Nat.le_of_ble_eq_true rfl) rfl (fun ls hl => ?_)
  refine W.loop (α := (Nat) × (Nat → Nat → Int64) × (Array Slot) × (Heap) × (List Loc) × (Nat → va_E)) (fun a => 304 - a.1) (fun a => (a.1 ≤ 304) ∧ (∀ j, j ≠ 35 → j ≠ 36 → a.2.1 j = B j) ∧ (∀ j, j < a.1 → a.2.1 35 j = 0) ∧ (∀ j, j < a.1 → a.2.1 36 j = 0) ∧ lo a.2.2.1 [some (.ref o), some (.int (nI a.1))] ∧ pgS G (pgA P s.heap.size) s.heap P a.2.2.2.2.2 a.2.2.2.1 a.2.2.2.2.1 ∧ mdS G o r P f a.2.2.2.2.2 (v) (A) (a.2.1)) (fun a => a.2.2.2.1) (fun a => a.2.2.2.2.1) (fun _ => 0) (fun _ => 0) (fun a => F0 m 2 a.2.2.1 []) ?_ (0, B, ls, s.heap, [], f) ⟨Nat.zero_le _, fun _ _ _ => rfl, fun j hj => absurd hj (Nat.not_lt_zero _), fun j hj => absurd hj (Nat.not_lt_zero _), lo_weak hl ⟨rfl, rfl, trivial⟩, hM, hm⟩
  rintro ⟨k, B1, ls, H1, locs1, f1⟩ ⟨hk, hBk, hz5, hz6, hl, hM, hm⟩ ih2
  dsimp only at hk hBk hz5 hz6 hl hM hm
  show W _ _ _ _ _ _ _ _ _ _ _ _ _ _ _ (F0 m 2 ls [])
  refine lv_iload_n C.1 C.2.1 d_Mod_forbidAll_2 rfl (lo_at hl 1 rfl) ?_
  refine lv_sipush (v := 304) C.1 C.2.1 d_Mod_forbidAll_3 (by decide) ?_
  rw [show (304 : Int32) = nI 304 from rfl]
  refine lv_icmp_ge (tgt := 29) C.1 C.2.1 d_Mod_forbidAll_6 (by decide) (fun hc6 => ?_) (fun hc6 => ?_)
  · have hk9 : k = 304 := Nat.le_antisymm hk (nI_leN (by omega) (by omega) hc6)
    refine lv_iconst (v := 0) C.1 C.2.1 d_Mod_forbidAll_29 (by decide) ?_
    refine lo_istore_n C hl d_Mod_forbidAll_30 (Nat.le_of_ble_eq_true rfl) rfl (fun ls hl => ?_)
    refine W.loop (α := (Nat) × (Nat → Nat → Int64) × (Array Slot) × (Heap) × (List Loc) × (Nat → va_E)) (fun a => nv - a.1) (fun a => (a.1 ≤ nv) ∧ (∀ j, j ≠ 35 → j ≠ 36 → a.2.1 j = B j) ∧ (fa36 (hqF pk ce nq) pu a.1 (a.2.1 36)) ∧ (fa35 (hqF pk ce nq) pu a.1 (a.2.1 35)) ∧ lo a.2.2.1 [some (.ref o), some (.int (nI a.1))] ∧ pgS G (pgA P s.heap.size) s.heap P a.2.2.2.2.2 a.2.2.2.1 a.2.2.2.2.1 ∧ mdS G o r P f a.2.2.2.2.2 (v) (A) (a.2.1)) (fun a => a.2.2.2.1) (fun a => a.2.2.2.2.1) (fun _ => 0) (fun _ => 0) (fun a => F0 m 31 a.2.2.1 []) ?_ (0, B1, ls, H1, locs1, f1) ⟨Nat.zero_le _, hBk, fa36_0 (fun j hj => hz6 j (by omega)), fa35_0 (fun j hj => hz5 j (by omega)), lo_weak hl ⟨rfl, rfl, trivial⟩, hM, hm⟩
    rintro ⟨u, B1, ls, H1, locs1, f1⟩ ⟨hu, hBk, h36, h35, hl, hM, hm⟩ ih31
    dsimp only at hu hBk h36 h35 hl hM hm
    show W _ _ _ _ _ _ _ _ _ _ _ _ _ _ _ (F0 m 31 ls [])
    refine lv_iload_n C.1 C.2.1 d_Mod_forbidAll_31 rfl (lo_at hl 1 rfl) ?_
    refine lv_aload_n C.1 C.2.1 d_Mod_forbidAll_32 rfl (lo_at hl 0 rfl) ?_
    refine md_get (x := .int (v 4)) C hE hM hm 4 (Nat.le_of_ble_eq_true rfl) tw_786 rfl rfl d_Mod_forbidAll_33 ?_
    rw [h4]
    refine lv_icmp_ge (tgt := 58) C.1 C.2.1 d_Mod_forbidAll_36 (by decide) (fun hc36 => ?_) (fun hc36 => ?_)
    · have hu9 : u = nv := Nat.le_antisymm hu (nI_leN (by omega) (by omega) hc36)
      refine md_vret C hr hlk hM hm d_Mod_forbidAll_58 ?_
      rw [hu9] at h36 h35
      exact ⟨rfl, rfl, rfl, hBk, h36, h35⟩
    · have hu9 : u < nv := nI_ltN (by omega) (by omega) hc36
      refine lv_iload_n C.1 C.2.1 d_Mod_forbidAll_39 rfl (lo_at hl 1 rfl) ?_
      refine lv_aload_n C.1 C.2.1 d_Mod_forbidAll_40 rfl (lo_at hl 0 rfl) ?_
      refine md_get (x := .int (v 38)) C hE hM hm 38 (Nat.le_of_ble_eq_true rfl) tw_820 rfl rfl d_Mod_forbidAll_41 ?_
      rw [h38]
      refine lv_icmp_eq (tgt := 52) C.1 C.2.1 d_Mod_forbidAll_44 (by decide) (fun hc44 => ?_) (fun hc44 => ?_)
      · refine lo_iinc C hl d_Mod_forbidAll_52 rfl rfl (fun ls hl => ?_)
        refine lv_goto (tgt := 31) C.1 C.2.1 d_Mod_forbidAll_55 (by decide) ?_
        have hup : u = pu := (nI_eq (by omega) (by omega)).mp hc44
        have s36 : fa36 (hqF pk ce nq) pu (u + 1) (B1 36) := by rw [hup] at h36 ⊢; exact fa36_skip h36
        have s35 : fa35 (hqF pk ce nq) pu (u + 1) (B1 35) := by rw [hup] at h35 ⊢; exact fa35_skip h35
        have h9 := hl
        rw [nI_pl] at h9
        exact ih31 (u + 1, B1, ls, H1, locs1, f1) ⟨by (try dsimp only); omega, hBk, s36 , s35 , lo_weak h9 ⟨rfl, rfl, trivial⟩, hM, hm⟩ (by show nv - (u + 1) < nv - u; omega)
      · have hup : u ≠ pu := fun z => hc44 (by rw [z])
        refine lv_aload_n C.1 C.2.1 d_Mod_forbidAll_47 rfl (lo_at hl 0 rfl) ?_
        refine lv_iload_n C.1 C.2.1 d_Mod_forbidAll_48 rfl (lo_at hl 1 rfl) ?_
        refine md_callV C hE hM hm (k_Mod_forbid l G o r v A B1 u (np := np) (cl := cl) (park := pk u) (mu := mu u) (ce := ce u) (tm := tm u) (nq := nq u) (by omega) hnp h10 h29 hcl (hav u hu9).1 (hav u hu9).2) rfl tw_1002 cy_Mod_forbid ⟨(Nat.le_of_ble_eq_true rfl), (Nat.le_of_ble_eq_true rfl)⟩ rfl hl.1 rfl (Nat.le_of_ble_eq_true rfl) ⟨Nat.zero_le _, Nat.zero_le _⟩ d_Mod_forbidAll_49 (fun x9 f1 H1 locs1 v9 A9 B9 hp hM hm => ?_)
        obtain ⟨hx9, hv9, hA9, hBk9, hf36, hf35⟩ := hp
        subst hx9
        rw [hv9, hA9] at hm
        refine W.eq (g2 := F0 m 52 ls _) rfl ?_
        refine lo_iinc C hl d_Mod_forbidAll_52 rfl rfl (fun ls hl => ?_)
        refine lv_goto (tgt := 31) C.1 C.2.1 d_Mod_forbidAll_55 (by decide) ?_
        have s36 := fa36_step h36 hup hf36
        have s35 := fa35_step h35 hup hf35
        have h9 := hl
        rw [nI_pl] at h9
        exact ih31 (u + 1, B9, ls, H1, locs1, f1) ⟨by (try dsimp only); omega, fun j h1 h2 => (hBk9 j h1 h2).trans (hBk j h1 h2), s36 , s35 , lo_weak h9 ⟨rfl, rfl, trivial⟩, hM, hm⟩ (by show nv - (u + 1) < nv - u; omega)
  · have hk9 : k < 304 := nI_ltN (by omega) (by omega) hc6
    refine lv_aload_n C.1 C.2.1 d_Mod_forbidAll_9 rfl (lo_at hl 0 rfl) ?_
    refine md_get C hE hM hm 35 (Nat.le_of_ble_eq_true rfl) tw_817 rfl rfl d_Mod_forbidAll_10 ?_
    refine lv_iload_n C.1 C.2.1 d_Mod_forbidAll_13 rfl (lo_at hl 1 rfl) ?_
    refine lv_lconst (v := 0) C.1 C.2.1 d_Mod_forbidAll_14 (by decide) ?_
    refine md_lastN C hE hM hm 35 rfl k rfl (show k < 304 by omega) d_Mod_forbidAll_15 (fun f1 H1 locs1 hM hm => ?_)
    refine lv_aload_n C.1 C.2.1 d_Mod_forbidAll_16 rfl (lo_at hl 0 rfl) ?_
    refine md_get C hE hM hm 36 (Nat.le_of_ble_eq_true rfl) tw_818 rfl rfl d_Mod_forbidAll_17 ?_
    refine lv_iload_n C.1 C.2.1 d_Mod_forbidAll_20 rfl (lo_at hl 1 rfl) ?_
    refine lv_lconst (v := 0) C.1 C.2.1 d_Mod_forbidAll_21 (by decide) ?_
    refine md_lastN C hE hM hm 36 rfl k rfl (show k < 304 by omega) d_Mod_forbidAll_22 (fun f1 H1 locs1 hM hm => ?_)
    refine lo_iinc C hl d_Mod_forbidAll_23 rfl rfl (fun ls hl => ?_)
    refine lv_goto (tgt := 2) C.1 C.2.1 d_Mod_forbidAll_26 (by decide) ?_
    have h9 := hl
    rw [nI_pl] at h9
    exact ih2 (k + 1, va_up (va_up B1 35 (vp_updL (B1 35) k 0)) 36 (vp_updL (B1 36) k 0), ls, H1, locs1, f1) ⟨by (try dsimp only); omega, fun j h1 h2 => (va_up_ne _ _ h2).trans ((va_up_ne _ _ h1).trans (hBk j h1 h2)), fun j hj => by show vp_updL (B1 35) k 0 j = 0; unfold vp_updL; split; rfl; exact hz5 j (by have : j < k + 1 := hj; omega), fun j hj => by show vp_updL (B1 36) k 0 j = 0; unfold vp_updL; split; rfl; exact hz6 j (by have : j < k + 1 := hj; omega), lo_weak h9 ⟨rfl, rfl, trivial⟩, hM, hm⟩ (by show 304 - (k + 1) < 304 - k; omega)
