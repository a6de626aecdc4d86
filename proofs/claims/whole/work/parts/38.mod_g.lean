/-! the search, step by step -/
/-- the cell that lies one step off; way 4 is to stay -/
def nbq (c w : Nat) : Option Nat := if w = 0 then (if c < 12 then none else some (c - 12)) else if w = 1 then (if 11 ≤ c % 12 then none else some (c + 1)) else if w = 2 then (if 84 ≤ c then none else some (c + 12)) else if w = 3 then (if c % 12 = 0 then none else some (c - 1)) else some c
def on : Option Nat → Int32
  | none => -1
  | some d => nI d
theorem nbq_all : ∀ c : Fin 96, ∀ w : Fin 5, nb (nI c.val) (nI w.val) = on (nbq c.val w.val) := by decide +kernel
theorem nbq_lt {c w d : Nat} (hc : c < 96) (_hw : w < 5) (h : nbq c w = some d) : d < 96 := by
  unfold nbq at h
  split at h
  · split at h
    · cases h
    · have := Option.some.inj h; omega
  · split at h
    · split at h
      · cases h
      · have := Option.some.inj h; omega
    · split at h
      · split at h
        · cases h
        · have := Option.some.inj h; omega
      · split at h
        · split at h
          · cases h
          · have := Option.some.inj h; omega
        · have := Option.some.inj h; omega
theorem nb_on {c w : Nat} (hc : c < 96) (hw : w < 5) : nb (nI c) (nI w) = on (nbq c w) := nbq_all ⟨c, hc⟩ ⟨w, hw⟩
theorem on_neg {q : Option Nat} (h : ∀ d, q = some d → d < 96) : on q < 0 ↔ q = none := by
  cases q with
  | none => simp [on]
  | some d =>
    have := h d rfl
    simp only [on, reduceCtorEq, iff_false]
    exact nI_pos (by omega)
/-- a step that the plans of others forbid, or walls, or others' parkings -/
abbrev bad (v : Nat → Int32) (A : Nat → Nat → Int32) (B : Nat → Nat → Int64) (d w k : Nat) : Prop := A 2 d = 0 ∨ isOt v A (nI d) ∨ bt (B 35) k d ∨ (w < 4 ∧ bt (B 36) k d)
noncomputable def gz (v : Nat → Int32) (A : Nat → Nat → Int32) (B : Nat → Nat → Int64) (c w k : Nat) : Option Nat := (nbq c w).bind (fun d => @ite _ (bad v A B d w k) (Classical.propDecidable _) none (some d))
theorem gz_lt {v : Nat → Int32} {A : Nat → Nat → Int32} {B : Nat → Nat → Int64} {c w k d : Nat} (hc : c < 96) (hw : w < 5) (h : gz v A B c w k = some d) : d < 96 := by
  unfold gz at h
  cases e : nbq c w with
  | none => rw [e] at h; cases h
  | some d' =>
    rw [e] at h
    simp only [Option.bind_some] at h
    split at h
    · cases h
    · cases h; exact nbq_lt hc hw e
theorem gz_none {v : Nat → Int32} {A : Nat → Nat → Int32} {B : Nat → Nat → Int64} {c w k d : Nat} (e : nbq c w = some d) (h : bad v A B d w k) : gz v A B c w k = none := by
  unfold gz; rw [e]; simp only [Option.bind_some]; exact if_pos h
theorem gz_some {v : Nat → Int32} {A : Nat → Nat → Int32} {B : Nat → Nat → Int64} {c w k d : Nat} (e : nbq c w = some d) (h : ¬ bad v A B d w k) : gz v A B c w k = some d := by
  unfold gz; rw [e]; simp only [Option.bind_some]; exact if_neg h
theorem gz_0 {v : Nat → Int32} {A : Nat → Nat → Int32} {B : Nat → Nat → Int64} {c w k : Nat} (e : nbq c w = none) : gz v A B c w k = none := by
  unfold gz; rw [e]; rfl
def dnN (A : Nat → Nat → Int32) (t d g : Nat) : Nat := if (if g = 0 ∧ nI d = A 11 t then 1 else g) = 1 ∧ nI d = A 12 t then 2 else (if g = 0 ∧ nI d = A 11 t then 1 else g)
theorem dnN_le {A : Nat → Nat → Int32} {t d g : Nat} (hg : g < 3) : dnN A t d g < 3 := by
  unfold dnN
  by_cases h1 : g = 0 ∧ nI d = A 11 t
  · rw [if_pos h1]; split <;> omega
  · rw [if_neg h1]; split <;> omega
theorem dnA_N {A : Nat → Nat → Int32} {t d g : Nat} (ht : t < 24) (hg : g < 3) : dnA A (nI t) (nI d) (nI g) = nI (dnN A t d g) := by
  have e1 : dn1 A (nI t) (nI d) (nI g) = nI (if g = 0 ∧ nI d = A 11 t then 1 else g) := by
    unfold dn1
    rw [show ix (nI t) = t from ix_nI (by omega)]
    by_cases h : g = 0 ∧ nI d = A 11 t
    · rw [if_pos ⟨by rw [h.1]; rfl, h.2⟩, if_pos h]; rfl
    · rw [if_neg (fun z => h ⟨(nI_eq (by omega) (by decide)).mp z.1, z.2⟩), if_neg h]
  unfold dnA dnN
  rw [e1, show ix (nI t) = t from ix_nI (by omega)]
  have hlt : (if g = 0 ∧ nI d = A 11 t then 1 else g) < 2147483648 := by split <;> omega
  by_cases h : (if g = 0 ∧ nI d = A 11 t then 1 else g) = 1 ∧ nI d = A 12 t
  · rw [if_pos ⟨by rw [h.1]; rfl, h.2⟩, if_pos h]; rfl
  · rw [if_neg (fun z => h ⟨(nI_eq hlt (by decide)).mp z.1, z.2⟩), if_neg h]
theorem va_up_id {α : Type} (f : Nat → α) (k : Nat) : va_up f k (f k) = f := by
  funext j
  unfold va_up
  split
  · rename_i h; rw [h]
  · rfl
theorem nI3 (r g : Nat) : (3 : Int32) * nI r + nI g = nI (3 * r + g) := by rw [show (3 : Int32) = nI 3 from rfl, pk_mul, nI_add]
theorem nI33 (r g : Nat) : (3 : Int32) * nI r + 3 + nI g = nI (3 * r + 3 + g) := by rw [show (3 : Int32) = nI 3 from rfl, pk_mul, nI_add, nI_add]
set_option maxHeartbeats 4000000 in
set_option maxRecDepth 100000 in
theorem k_Mod_goes (l : Launch) (G : GG) (o : Nat) (r : Nat → Nat) (v : Nat → Int32) (A : Nat → Nat → Int32) (B : Nat → Nat → Int64) (c0 w k : Nat) {pu : Nat} (hc : c0 < 96) (hw : w < 5) (hk : k ≤ 150) (h38 : v 38 = nI pu) (hpu : pu < 6) : mct l G y_Mod_goes c_Mod_goes 5 (some .int) 1 22 [.ref o, .int (nI c0), .int (nI w), .int (nI k)] o r v A B (fun x v1 A1 B1 => x = some (.int (on (gz v A B c0 w k))) ∧ v1 = v ∧ A1 = A ∧ B1 = B) := by
  refine mct_intro (by decide) [some (.ref o), some (.int (nI c0)), some (.int (nI w)), some (.int (nI k)), none] rfl rfl (Nat.le_of_ble_eq_true rfl) ?_
  intro p e s m below meth c ls P f C hr hlk hE hM hm hl
  refine lv_iload_n C.1 C.2.1 d_Mod_goes_0 rfl (lo_at hl 1 rfl) ?_
  refine lv_iload_n C.1 C.2.1 d_Mod_goes_1 rfl (lo_at hl 2 rfl) ?_
  refine md_callS C hE hM hm (k_Mod_neighbour l G o r _ _ _ _ _) tw_927 cy_Mod_neighbour ⟨(Nat.le_of_ble_eq_true rfl), (Nat.le_of_ble_eq_true rfl)⟩ rfl hl.1 rfl (Nat.le_of_ble_eq_true rfl) ⟨Nat.zero_le _, Nat.zero_le _⟩ d_Mod_goes_2 (fun x9 f1 H1 locs1 v9 A9 B9 hp hM hm => ?_)
  obtain ⟨hx9, hv9, hA9, hB9⟩ := hp
  subst hx9
  rw [hv9, hA9, hB9] at hm
  rw [nb_on hc hw]
  refine W.eq (g2 := F0 m 5 ls (_ :: _)) rfl ?_
  refine lo_istore C hl d_Mod_goes_5 (Nat.le_of_ble_eq_true rfl) rfl (fun ls hl => ?_)
  refine lv_iload C.1 C.2.1 d_Mod_goes_7 (lo_at hl 4 rfl) ?_
  refine lv_if_lt (tgt := 44) C.1 C.2.1 d_Mod_goes_9 (by decide) (fun hc9 => ?_) (fun hc9 => ?_)
  · refine lv_iconst (v := (-1)) C.1 C.2.1 d_Mod_goes_44 (by decide) ?_
    refine md_iret C hr hlk hM hm d_Mod_goes_45 ?_
    refine ⟨?_, rfl, rfl, rfl⟩
    rw [gz_0 ((on_neg (fun d h => nbq_lt hc hw h)).mp hc9)]; rfl
  · obtain ⟨d, hq⟩ : ∃ d, nbq c0 w = some d := by
      cases e : nbq c0 w with
      | none => exact absurd ((on_neg (fun d h => nbq_lt hc hw h)).mpr e) hc9
      | some d => exact ⟨d, rfl⟩
    have hd : d < 96 := nbq_lt hc hw hq
    rw [hq] at hl
    refine lv_aload_n C.1 C.2.1 d_Mod_goes_12 rfl (lo_at hl 0 rfl) ?_
    refine md_get C hE hM hm 2 (Nat.le_of_ble_eq_true rfl) tw_784 rfl rfl d_Mod_goes_13 ?_
    refine lv_iload C.1 C.2.1 d_Mod_goes_16 (lo_at hl 4 rfl) ?_
    refine md_ialdN C hE hM hm 2 rfl d rfl (show d < 96 by omega) d_Mod_goes_18 ?_
    refine lv_if_eq (tgt := 44) C.1 C.2.1 d_Mod_goes_19 (by decide) (fun hc19 => ?_) (fun hc19 => ?_)
    · refine lv_iconst (v := (-1)) C.1 C.2.1 d_Mod_goes_44 (by decide) ?_
      refine md_iret C hr hlk hM hm d_Mod_goes_45 ?_
      refine ⟨?_, rfl, rfl, rfl⟩
      rw [gz_none hq (Or.inl hc19)]; rfl
    · refine lv_aload_n C.1 C.2.1 d_Mod_goes_22 rfl (lo_at hl 0 rfl) ?_
      refine lv_iload C.1 C.2.1 d_Mod_goes_23 (lo_at hl 4 rfl) ?_
      refine md_callV C hE hM hm (k_Mod_isOthers l G o r _ _ _ _ (vp_in_nI hd (by decide)) (by rw [h38]; exact vp_in_nI (by omega) (by decide))) rfl tw_1024 cy_Mod_isOthers ⟨(Nat.le_of_ble_eq_true rfl), (Nat.le_of_ble_eq_true rfl)⟩ rfl hl.1 rfl (Nat.le_of_ble_eq_true rfl) ⟨Nat.zero_le _, Nat.zero_le _⟩ d_Mod_goes_25 (fun x9 f1 H1 locs1 v9 A9 B9 hp hM hm => ?_)
      obtain ⟨hx9, hv9, hA9, hB9⟩ := hp
      subst hx9
      rw [hv9, hA9, hB9] at hm
      refine W.eq (g2 := F0 m 28 ls (_ :: _)) rfl ?_
      refine lv_if_ne (tgt := 44) C.1 C.2.1 d_Mod_goes_28 (by decide) (fun hc28 => ?_) (fun hc28 => ?_)
      · replace hc28 := bz_1.mp hc28
        refine lv_iconst (v := (-1)) C.1 C.2.1 d_Mod_goes_44 (by decide) ?_
        refine md_iret C hr hlk hM hm d_Mod_goes_45 ?_
        refine ⟨?_, rfl, rfl, rfl⟩
        rw [gz_none hq (Or.inr (Or.inl hc28))]; rfl
      · replace hc28 := bz_0.mp hc28
        refine lv_aload_n C.1 C.2.1 d_Mod_goes_31 rfl (lo_at hl 0 rfl) ?_
        refine md_get C hE hM hm 35 (Nat.le_of_ble_eq_true rfl) tw_817 rfl rfl d_Mod_goes_32 ?_
        refine lv_iload_n C.1 C.2.1 d_Mod_goes_35 rfl (lo_at hl 3 rfl) ?_
        refine lv_iload C.1 C.2.1 d_Mod_goes_36 (lo_at hl 4 rfl) ?_
        refine md_callS C hE hM hm (k_Mod_isIn l G o r _ _ _ 35 rfl _ _ (vp_lj (N := 304) (by omega) hd (by omega) (by decide))) tw_1013 cy_Mod_isIn ⟨(Nat.le_of_ble_eq_true rfl), (Nat.le_of_ble_eq_true rfl)⟩ rfl hl.1 rfl (Nat.le_of_ble_eq_true rfl) ⟨Nat.zero_le _, Nat.zero_le _⟩ d_Mod_goes_38 (fun x9 f1 H1 locs1 v9 A9 B9 hp hM hm => ?_)
        obtain ⟨hx9, hv9, hA9, hB9⟩ := hp
        subst hx9
        rw [hv9, hA9, hB9] at hm
        refine W.eq (g2 := F0 m 41 ls (_ :: _)) rfl ?_
        refine lv_if_eq (tgt := 46) C.1 C.2.1 d_Mod_goes_41 (by decide) (fun hc41 => ?_) (fun hc41 => ?_)
        · replace hc41 := bz_0.mp hc41
          refine lv_iload_n C.1 C.2.1 d_Mod_goes_46 rfl (lo_at hl 2 rfl) ?_
          refine lv_iconst (v := 4) C.1 C.2.1 d_Mod_goes_47 (by decide) ?_
          refine lv_icmp_ge (tgt := 68) C.1 C.2.1 d_Mod_goes_48 (by decide) (fun hc48 => ?_) (fun hc48 => ?_)
          · refine lv_iload C.1 C.2.1 d_Mod_goes_68 (lo_at hl 4 rfl) ?_
            refine md_iret C hr hlk hM hm d_Mod_goes_70 ?_
            refine ⟨?_, rfl, rfl, rfl⟩
            rw [gz_some hq (fun z => z.elim hc19 (fun z => z.elim hc28 (fun z => z.elim (fun z => hc41 ((bb_isI (by omega) hd).mpr z)) (fun z => absurd z.1 (by have := nI_leN (b := w) (a := 4) (by decide) (by omega) hc48; omega)))))]
          · refine lv_aload_n C.1 C.2.1 d_Mod_goes_51 rfl (lo_at hl 0 rfl) ?_
            refine md_get C hE hM hm 36 (Nat.le_of_ble_eq_true rfl) tw_818 rfl rfl d_Mod_goes_52 ?_
            refine lv_iload_n C.1 C.2.1 d_Mod_goes_55 rfl (lo_at hl 3 rfl) ?_
            refine lv_iload C.1 C.2.1 d_Mod_goes_56 (lo_at hl 4 rfl) ?_
            refine md_callS C hE hM hm (k_Mod_isIn l G o r _ _ _ 36 rfl _ _ (vp_lj (N := 304) (by omega) hd (by omega) (by decide))) tw_1013 cy_Mod_isIn ⟨(Nat.le_of_ble_eq_true rfl), (Nat.le_of_ble_eq_true rfl)⟩ rfl hl.1 rfl (Nat.le_of_ble_eq_true rfl) ⟨Nat.zero_le _, Nat.zero_le _⟩ d_Mod_goes_58 (fun x9 f1 H1 locs1 v9 A9 B9 hp hM hm => ?_)
            obtain ⟨hx9, hv9, hA9, hB9⟩ := hp
            subst hx9
            rw [hv9, hA9, hB9] at hm
            refine W.eq (g2 := F0 m 61 ls (_ :: _)) rfl ?_
            refine lv_if_eq (tgt := 68) C.1 C.2.1 d_Mod_goes_61 (by decide) (fun hc61 => ?_) (fun hc61 => ?_)
            · replace hc61 := bz_0.mp hc61
              refine lv_iload C.1 C.2.1 d_Mod_goes_68 (lo_at hl 4 rfl) ?_
              refine md_iret C hr hlk hM hm d_Mod_goes_70 ?_
              refine ⟨?_, rfl, rfl, rfl⟩
              rw [gz_some hq (fun z => z.elim hc19 (fun z => z.elim hc28 (fun z => z.elim (fun z => hc41 ((bb_isI (by omega) hd).mpr z)) (fun z => hc61 ((bb_isI (by omega) hd).mpr z.2)))))]
            · replace hc61 := bz_1.mp hc61
              refine lv_iconst (v := (-1)) C.1 C.2.1 d_Mod_goes_64 (by decide) ?_
              refine lv_goto (tgt := 70) C.1 C.2.1 d_Mod_goes_65 (by decide) ?_
              refine md_iret C hr hlk hM hm d_Mod_goes_70 ?_
              refine ⟨?_, rfl, rfl, rfl⟩
              rw [gz_none hq (Or.inr (Or.inr (Or.inr ⟨nI_ltN (by omega) (by decide) hc48, (bb_isI (by omega) hd).mp hc61⟩)))]; rfl
        · replace hc41 := bz_1.mp hc41
          refine lv_iconst (v := (-1)) C.1 C.2.1 d_Mod_goes_44 (by decide) ?_
          refine md_iret C hr hlk hM hm d_Mod_goes_45 ?_
          refine ⟨?_, rfl, rfl, rfl⟩
          rw [gz_none hq (Or.inr (Or.inr (Or.inl ((bb_isI (by omega) hd).mp hc41))))]; rfl
/-- what one cell's steps add to the marks -/
def sfI (b g1 : Nat → Int64) (gf : Nat → Option Nat) (S : Nat → Nat) (w : Nat) : Prop := ∀ s d, d < 96 → (bt g1 s d ↔ (bt b s d ∨ ∃ y, y < w ∧ gf y = some d ∧ s = S d))
theorem sfI_0 {b : Nat → Int64} {gf : Nat → Option Nat} {S : Nat → Nat} : sfI b b gf S 0 := fun s d _ => ⟨Or.inl, fun h => h.elim id (fun ⟨y, hy, _⟩ => by omega)⟩
theorem sfI_none {b g1 : Nat → Int64} {gf : Nat → Option Nat} {S : Nat → Nat} {w : Nat} (h : sfI b g1 gf S w) (e : gf w = none) : sfI b g1 gf S (w + 1) := by
  intro s d hd
  rw [h s d hd]
  constructor
  · rintro (h | ⟨y, h1, h2⟩)
    · exact Or.inl h
    · exact Or.inr ⟨y, by omega, h2⟩
  · rintro (h | ⟨y, h1, h2, h3⟩)
    · exact Or.inl h
    · by_cases q : y = w
      · rw [q, e] at h2; cases h2
      · exact Or.inr ⟨y, by omega, h2, h3⟩
theorem sfI_add {b g1 : Nat → Int64} {gf : Nat → Option Nat} {S : Nat → Nat} {w d0 : Nat} (h : sfI b g1 gf S w) (e : gf w = some d0) (hd0 : d0 < 96) (hS : S d0 < 1000) : sfI b (addL g1 (nI (S d0)) (nI d0)) gf S (w + 1) := by
  intro s d hd
  rw [bb_add hS hd0 hd, h s d hd]
  constructor
  · rintro ((h | ⟨y, h1, h2⟩) | ⟨h1, h2⟩)
    · exact Or.inl h
    · exact Or.inr ⟨y, by omega, h2⟩
    · exact Or.inr ⟨w, by omega, by rw [h2]; exact e, by rw [h1, h2]⟩
  · rintro (h | ⟨y, h1, h2, h3⟩)
    · exact Or.inl (Or.inl h)
    · by_cases q : y = w
      · rw [q, e] at h2
        have := Option.some.inj h2
        exact Or.inr ⟨by rw [h3, this], this.symm⟩
      · exact Or.inl (Or.inr ⟨y, by omega, h2, h3⟩)
theorem on_some (d : Nat) : on (some d) = nI d := rfl
theorem on_nn {q : Option Nat} (h : ¬ on q < 0) : ∃ d, q = some d := by
  cases q with
  | none => exact absurd (by decide) h
  | some d => exact ⟨d, rfl⟩
theorem on_ng {q : Option Nat} (hq : ∀ d, q = some d → d < 96) (h : on q < 0) : q = none := (on_neg hq).mp h
abbrev okW (v : Nat → Int32) (A : Nat → Nat → Int32) (B : Nat → Nat → Int64) (t r g c w : Nat) : Prop := ∃ d, gz v A B c w (r + 1) = some d ∧ bt (B 37) (3 * r + 3 + dnN A t d g) d
noncomputable def lwF (ok : Nat → Prop) : Nat → Nat → Option Nat
  | 0, _ => none
  | n + 1, w => @ite _ (ok w) (Classical.propDecidable _) (some w) (lwF ok n (w + 1))
theorem lwF_t {ok : Nat → Prop} {n w : Nat} (h : ok w) : lwF ok (n + 1) w = some w := if_pos h
theorem lwF_f {ok : Nat → Prop} {n w : Nat} (h : ¬ ok w) : lwF ok (n + 1) w = lwF ok n (w + 1) := if_neg h
theorem nI_gt4 {w : Nat} (hw : w < 1000) (h : (4 : Int32) < nI w) : 4 < w := (nI_ltI (a := 4) (b := w) (by decide) (by omega)).mp h
theorem nI_ng4 {w : Nat} (hw : w < 1000) (h : ¬ (4 : Int32) < nI w) : w < 5 := by
  have : ¬ 4 < w := fun z => h ((nI_ltI (a := 4) (b := w) (by decide) (by omega)).mpr z)
  omega
set_option maxHeartbeats 4000000 in
set_option maxRecDepth 100000 in
theorem k_Mod_spreadFrom (l : Launch) (G : GG) (o : Nat) (r : Nat → Nat) (v : Nat → Int32) (A : Nat → Nat → Int32) (B : Nat → Nat → Int64) (t0 r0 g0 c0 : Nat) {pu : Nat} (ht : t0 < 24) (hr0 : r0 < 150) (hg : g0 < 3) (hc : c0 < 96) (h38 : v 38 = nI pu) (hpu : pu < 6) : mct l G y_Mod_spreadFrom c_Mod_spreadFrom 7 none 2 46 [.ref o, .int (nI t0), .int (nI r0), .int (nI g0), .int (nI c0)] o r v A B (fun x v1 A1 B1 => x = none ∧ v1 = v ∧ A1 = A ∧ ∃ g1, B1 = va_up B 37 g1 ∧ sfI (B 37) g1 (fun y => gz v A B c0 y (r0 + 1)) (fun d => 3 * r0 + 3 + dnN A t0 d g0) 5) := by
  refine mct_intro (by decide) [some (.ref o), some (.int (nI t0)), some (.int (nI r0)), some (.int (nI g0)), some (.int (nI c0)), none, none] rfl rfl (Nat.le_of_ble_eq_true rfl) ?_
  intro p e s m below meth c ls P f C hr hlk hE hM hm hl
  refine lv_iconst (v := 0) C.1 C.2.1 d_Mod_spreadFrom_0 (by decide) ?_
  refine lo_istore C hl d_Mod_spreadFrom_1 (Nat.le_of_ble_eq_true rfl) rfl (fun ls hl => ?_)
  refine W.loop (α := (Nat) × (Nat → Int64) × (Array Slot) × (Heap) × (List Loc) × (Nat → va_E)) (fun a => 5 - a.1) (fun a => (a.1 ≤ 5) ∧ (sfI (B 37) a.2.1 (fun y => gz v A B c0 y (r0 + 1)) (fun d => 3 * r0 + 3 + dnN A t0 d g0) a.1) ∧ lo a.2.2.1 [some (.ref o), some (.int (nI t0)), some (.int (nI r0)), some (.int (nI g0)), some (.int (nI c0)), some (.int (nI a.1)), none] ∧ pgS G (pgA P s.heap.size) s.heap P a.2.2.2.2.2 a.2.2.2.1 a.2.2.2.2.1 ∧ mdS G o r P f a.2.2.2.2.2 (v) (A) (va_up B 37 a.2.1)) (fun a => a.2.2.2.1) (fun a => a.2.2.2.2.1) (fun _ => 0) (fun _ => 0) (fun a => F0 m 3 a.2.2.1 []) ?_ (0, B 37, ls, s.heap, [], f) ⟨Nat.zero_le _, sfI_0, lo_weak hl ⟨rfl, rfl, rfl, rfl, rfl, rfl, trivial⟩, hM, (by rw [va_up_id]; exact hm)⟩
  rintro ⟨w, g1, ls, H1, locs1, f1⟩ ⟨hw, hsf, hl, hM, hm⟩ ih3
  dsimp only at hw hsf hl hM hm
  show W _ _ _ _ _ _ _ _ _ _ _ _ _ _ _ (F0 m 3 ls [])
  refine lv_iload C.1 C.2.1 d_Mod_spreadFrom_3 (lo_at hl 5 rfl) ?_
  refine lv_iconst (v := 4) C.1 C.2.1 d_Mod_spreadFrom_5 (by decide) ?_
  refine lv_icmp_gt (tgt := 56) C.1 C.2.1 d_Mod_spreadFrom_6 (by decide) (fun hc6 => ?_) (fun hc6 => ?_)
  · have hw5 : w = 5 := by have := nI_gt4 (by omega) hc6; omega
    refine md_vret C hr hlk hM hm d_Mod_spreadFrom_56 ?_
    refine ⟨rfl, rfl, rfl, g1, rfl, ?_⟩
    rw [hw5] at hsf; exact hsf
  · have hw5 : w < 5 := nI_ng4 (by omega) hc6
    refine lv_aload_n C.1 C.2.1 d_Mod_spreadFrom_9 rfl (lo_at hl 0 rfl) ?_
    refine lv_iload C.1 C.2.1 d_Mod_spreadFrom_10 (lo_at hl 4 rfl) ?_
    refine lv_iload C.1 C.2.1 d_Mod_spreadFrom_12 (lo_at hl 5 rfl) ?_
    refine lv_iload_n C.1 C.2.1 d_Mod_spreadFrom_14 rfl (lo_at hl 2 rfl) ?_
    refine lv_iconst (v := 1) C.1 C.2.1 d_Mod_spreadFrom_15 (by decide) ?_
    refine lv_iadd C.1 C.2.1 d_Mod_spreadFrom_16 ?_
    rw [nI_1]
    refine md_callV C hE hM hm (k_Mod_goes l G o r _ _ _ c0 w (r0 + 1) (pu := pu) hc hw5 (by omega) h38 hpu) rfl tw_1020 cy_Mod_goes ⟨(Nat.le_of_ble_eq_true rfl), (Nat.le_of_ble_eq_true rfl)⟩ rfl hl.1 rfl (Nat.le_of_ble_eq_true rfl) ⟨Nat.zero_le _, Nat.zero_le _⟩ d_Mod_spreadFrom_17 (fun x9 f1 H1 locs1 v9 A9 B9 hp hM hm => ?_)
    obtain ⟨hx9, hv9, hA9, hB9⟩ := hp
    subst hx9
    rw [hv9, hA9, hB9] at hm
    refine W.eq (g2 := F0 m 20 ls (_ :: _)) rfl ?_
    refine lo_istore C hl d_Mod_spreadFrom_20 (Nat.le_of_ble_eq_true rfl) rfl (fun ls hl => ?_)
    refine lv_iload C.1 C.2.1 d_Mod_spreadFrom_22 (lo_at hl 6 rfl) ?_
    refine lv_if_lt (tgt := 50) C.1 C.2.1 d_Mod_spreadFrom_24 (by decide) (fun hc24 => ?_) (fun hc24 => ?_)
    · refine lo_iinc C hl d_Mod_spreadFrom_50 rfl rfl (fun ls hl => ?_)
      refine lv_goto (tgt := 3) C.1 C.2.1 d_Mod_spreadFrom_53 (by decide) ?_
      have h9 := hl
      rw [nI_pl] at h9
      exact ih3 (w + 1, g1, ls, H1, locs1, f1) ⟨by omega, sfI_none hsf (on_ng (fun d h => gz_lt hc hw5 h) hc24), lo_weak h9 ⟨rfl, rfl, rfl, rfl, rfl, rfl, trivial⟩, hM, hm⟩ (by show 5 - (w + 1) < 5 - w; omega)
    · obtain ⟨d, hq⟩ := on_nn hc24
      have hq : gz v A B c0 w (r0 + 1) = some d := hq
      have hd : d < 96 := gz_lt hc hw5 hq
      have hl := hl
      rw [show gz v A (va_up B 37 g1) c0 w (r0 + 1) = some d from hq, on_some] at hl
      have hdn := dnN_le (A := A) (t := t0) (d := d) hg
      refine lv_aload_n C.1 C.2.1 d_Mod_spreadFrom_27 rfl (lo_at hl 0 rfl) ?_
      refine md_get C hE hM hm 37 (Nat.le_of_ble_eq_true rfl) tw_819 rfl rfl d_Mod_spreadFrom_28 ?_
      refine lv_iconst (v := 3) C.1 C.2.1 d_Mod_spreadFrom_31 (by decide) ?_
      refine lv_iload_n C.1 C.2.1 d_Mod_spreadFrom_32 rfl (lo_at hl 2 rfl) ?_
      refine lv_imul C.1 C.2.1 d_Mod_spreadFrom_33 ?_
      refine lv_iconst (v := 3) C.1 C.2.1 d_Mod_spreadFrom_34 (by decide) ?_
      refine lv_iadd C.1 C.2.1 d_Mod_spreadFrom_35 ?_
      refine lv_aload_n C.1 C.2.1 d_Mod_spreadFrom_36 rfl (lo_at hl 0 rfl) ?_
      refine lv_iload_n C.1 C.2.1 d_Mod_spreadFrom_37 rfl (lo_at hl 1 rfl) ?_
      refine lv_iload C.1 C.2.1 d_Mod_spreadFrom_38 (lo_at hl 6 rfl) ?_
      refine lv_iload_n C.1 C.2.1 d_Mod_spreadFrom_40 rfl (lo_at hl 3 rfl) ?_
      refine md_callV C hE hM hm (k_Mod_doneAt l G o r _ _ _ _ _ _ (vp_in_nI ht (by decide))) rfl tw_1028 cy_Mod_doneAt ⟨(Nat.le_of_ble_eq_true rfl), (Nat.le_of_ble_eq_true rfl)⟩ rfl hl.1 rfl (Nat.le_of_ble_eq_true rfl) ⟨Nat.zero_le _, Nat.zero_le _⟩ d_Mod_spreadFrom_41 (fun x9 f1 H1 locs1 v9 A9 B9 hp hM hm => ?_)
      obtain ⟨hx9, hv9, hA9, hB9⟩ := hp
      subst hx9
      rw [hv9, hA9, hB9] at hm
      refine W.eq (g2 := F0 m 44 ls (_ :: _)) rfl ?_
      refine lv_iadd C.1 C.2.1 d_Mod_spreadFrom_44 ?_
      refine lv_iload C.1 C.2.1 d_Mod_spreadFrom_45 (lo_at hl 6 rfl) ?_
      rw [dnA_N ht hg, nI33]
      refine md_callS C hE hM hm (k_Mod_add l G o r _ _ _ 37 rfl _ _ (vp_lj (N := 908) (by omega) hd (by omega) (by decide))) tw_1006 cy_Mod_add ⟨(Nat.le_of_ble_eq_true rfl), (Nat.le_of_ble_eq_true rfl)⟩ rfl hl.1 rfl (Nat.le_of_ble_eq_true rfl) ⟨Nat.zero_le _, Nat.zero_le _⟩ d_Mod_spreadFrom_47 (fun x9 f1 H1 locs1 v9 A9 B9 hp hM hm => ?_)
      obtain ⟨hx9, hv9, hA9, hB9⟩ := hp
      subst hx9
      rw [hv9, hA9, hB9] at hm
      refine W.eq (g2 := F0 m 50 ls _) rfl ?_
      refine lo_iinc C hl d_Mod_spreadFrom_50 rfl rfl (fun ls hl => ?_)
      refine lv_goto (tgt := 3) C.1 C.2.1 d_Mod_spreadFrom_53 (by decide) ?_
      have hS : 3 * r0 + 3 + dnN A t0 d g0 < 1000 := by omega
      have hsf2 := sfI_add (S := fun d => 3 * r0 + 3 + dnN A t0 d g0) (gf := fun y => gz v A B c0 y (r0 + 1)) (d0 := d) hsf hq hd hS
      rw [bx_uu, va_up_self] at hm
      have hm2 := hm
      have h9 := hl
      rw [nI_pl] at h9
      exact ih3 (w + 1, addL g1 (nI (3 * r0 + 3 + dnN A t0 d g0)) (nI d), ls, H1, locs1, f1) ⟨by omega, hsf2, lo_weak h9 ⟨rfl, rfl, rfl, rfl, rfl, rfl, trivial⟩, hM, hm2⟩ (by show 5 - (w + 1) < 5 - w; omega)
set_option maxHeartbeats 4000000 in
set_option maxRecDepth 100000 in
theorem k_Mod_lowest (l : Launch) (G : GG) (o : Nat) (r : Nat → Nat) (v : Nat → Int32) (A : Nat → Nat → Int32) (B : Nat → Nat → Int64) (t0 r0 g0 c0 : Nat) {pu : Nat} (ht : t0 < 24) (hr0 : r0 < 150) (hg : g0 < 3) (hc : c0 < 96) (h38 : v 38 = nI pu) (hpu : pu < 6) : mct l G y_Mod_lowest c_Mod_lowest 7 (some .int) 2 46 [.ref o, .int (nI t0), .int (nI r0), .int (nI g0), .int (nI c0)] o r v A B (fun x v1 A1 B1 => x = some (.int (on (lwF (okW v A B t0 r0 g0 c0) 5 0))) ∧ v1 = v ∧ A1 = A ∧ B1 = B) := by
  refine mct_intro (by decide) [some (.ref o), some (.int (nI t0)), some (.int (nI r0)), some (.int (nI g0)), some (.int (nI c0)), none, none] rfl rfl (Nat.le_of_ble_eq_true rfl) ?_
  intro p e s m below meth c ls P f C hr hlk hE hM hm hl
  refine lv_iconst (v := 0) C.1 C.2.1 d_Mod_lowest_0 (by decide) ?_
  refine lo_istore C hl d_Mod_lowest_1 (Nat.le_of_ble_eq_true rfl) rfl (fun ls hl => ?_)
  refine W.loop (α := (Nat) × (Array Slot) × (Heap) × (List Loc) × (Nat → va_E)) (fun a => 5 - a.1) (fun a => (a.1 ≤ 5) ∧ (lwF (okW v A B t0 r0 g0 c0) (5 - a.1) a.1 = lwF (okW v A B t0 r0 g0 c0) 5 0) ∧ lo a.2.1 [some (.ref o), some (.int (nI t0)), some (.int (nI r0)), some (.int (nI g0)), some (.int (nI c0)), some (.int (nI a.1)), none] ∧ pgS G (pgA P s.heap.size) s.heap P a.2.2.2.2 a.2.2.1 a.2.2.2.1 ∧ mdS G o r P f a.2.2.2.2 (v) (A) (B)) (fun a => a.2.2.1) (fun a => a.2.2.2.1) (fun _ => 0) (fun _ => 0) (fun a => F0 m 3 a.2.1 []) ?_ (0, ls, s.heap, [], f) ⟨Nat.zero_le _, rfl, lo_weak hl ⟨rfl, rfl, rfl, rfl, rfl, rfl, trivial⟩, hM, hm⟩
  rintro ⟨w, ls, H1, locs1, f1⟩ ⟨hw, hval, hl, hM, hm⟩ ih3
  dsimp only at hw hval hl hM hm
  show W _ _ _ _ _ _ _ _ _ _ _ _ _ _ _ (F0 m 3 ls [])
  refine lv_iload C.1 C.2.1 d_Mod_lowest_3 (lo_at hl 5 rfl) ?_
  refine lv_iconst (v := 4) C.1 C.2.1 d_Mod_lowest_5 (by decide) ?_
  refine lv_icmp_gt (tgt := 62) C.1 C.2.1 d_Mod_lowest_6 (by decide) (fun hc6 => ?_) (fun hc6 => ?_)
  · have hw5 : w = 5 := by have := nI_gt4 (by omega) hc6; omega
    refine lv_iconst (v := (-1)) C.1 C.2.1 d_Mod_lowest_62 (by decide) ?_
    refine md_iret C hr hlk hM hm d_Mod_lowest_63 ?_
    refine ⟨?_, rfl, rfl, rfl⟩
    rw [← hval, hw5]; rfl
  · have hw5 : w < 5 := nI_ng4 (by omega) hc6
    refine lv_aload_n C.1 C.2.1 d_Mod_lowest_9 rfl (lo_at hl 0 rfl) ?_
    refine lv_iload C.1 C.2.1 d_Mod_lowest_10 (lo_at hl 4 rfl) ?_
    refine lv_iload C.1 C.2.1 d_Mod_lowest_12 (lo_at hl 5 rfl) ?_
    refine lv_iload_n C.1 C.2.1 d_Mod_lowest_14 rfl (lo_at hl 2 rfl) ?_
    refine lv_iconst (v := 1) C.1 C.2.1 d_Mod_lowest_15 (by decide) ?_
    refine lv_iadd C.1 C.2.1 d_Mod_lowest_16 ?_
    rw [nI_1]
    refine md_callV C hE hM hm (k_Mod_goes l G o r _ _ _ c0 w (r0 + 1) (pu := pu) hc hw5 (by omega) h38 hpu) rfl tw_1020 cy_Mod_goes ⟨(Nat.le_of_ble_eq_true rfl), (Nat.le_of_ble_eq_true rfl)⟩ rfl hl.1 rfl (Nat.le_of_ble_eq_true rfl) ⟨Nat.zero_le _, Nat.zero_le _⟩ d_Mod_lowest_17 (fun x9 f1 H1 locs1 v9 A9 B9 hp hM hm => ?_)
    obtain ⟨hx9, hv9, hA9, hB9⟩ := hp
    subst hx9
    rw [hv9, hA9, hB9] at hm
    refine W.eq (g2 := F0 m 20 ls (_ :: _)) rfl ?_
    refine lo_istore C hl d_Mod_lowest_20 (Nat.le_of_ble_eq_true rfl) rfl (fun ls hl => ?_)
    refine lv_iload C.1 C.2.1 d_Mod_lowest_22 (lo_at hl 6 rfl) ?_
    refine lv_if_lt (tgt := 56) C.1 C.2.1 d_Mod_lowest_24 (by decide) (fun hc24 => ?_) (fun hc24 => ?_)
    · refine lo_iinc C hl d_Mod_lowest_56 rfl rfl (fun ls hl => ?_)
      refine lv_goto (tgt := 3) C.1 C.2.1 d_Mod_lowest_59 (by decide) ?_
      have h9 := hl
      rw [nI_pl] at h9
      exact ih3 (w + 1, ls, H1, locs1, f1) ⟨by omega, by rw [← hval, show 5 - w = (5 - (w + 1)) + 1 by omega, lwF_f (fun z => by obtain ⟨d, z1, _⟩ := z; rw [on_ng (fun d h => gz_lt hc hw5 h) hc24] at z1; cases z1)], lo_weak h9 ⟨rfl, rfl, rfl, rfl, rfl, rfl, trivial⟩, hM, hm⟩ (by show 5 - (w + 1) < 5 - w; omega)
    · obtain ⟨d, hq⟩ := on_nn hc24
      have hd : d < 96 := gz_lt hc hw5 hq
      have hl := hl
      rw [hq, on_some] at hl
      have hdn := dnN_le (A := A) (t := t0) (d := d) hg
      refine lv_aload_n C.1 C.2.1 d_Mod_lowest_27 rfl (lo_at hl 0 rfl) ?_
      refine md_get C hE hM hm 37 (Nat.le_of_ble_eq_true rfl) tw_819 rfl rfl d_Mod_lowest_28 ?_
      refine lv_iconst (v := 3) C.1 C.2.1 d_Mod_lowest_31 (by decide) ?_
      refine lv_iload_n C.1 C.2.1 d_Mod_lowest_32 rfl (lo_at hl 2 rfl) ?_
      refine lv_imul C.1 C.2.1 d_Mod_lowest_33 ?_
      refine lv_iconst (v := 3) C.1 C.2.1 d_Mod_lowest_34 (by decide) ?_
      refine lv_iadd C.1 C.2.1 d_Mod_lowest_35 ?_
      refine lv_aload_n C.1 C.2.1 d_Mod_lowest_36 rfl (lo_at hl 0 rfl) ?_
      refine lv_iload_n C.1 C.2.1 d_Mod_lowest_37 rfl (lo_at hl 1 rfl) ?_
      refine lv_iload C.1 C.2.1 d_Mod_lowest_38 (lo_at hl 6 rfl) ?_
      refine lv_iload_n C.1 C.2.1 d_Mod_lowest_40 rfl (lo_at hl 3 rfl) ?_
      refine md_callV C hE hM hm (k_Mod_doneAt l G o r _ _ _ _ _ _ (vp_in_nI ht (by decide))) rfl tw_1028 cy_Mod_doneAt ⟨(Nat.le_of_ble_eq_true rfl), (Nat.le_of_ble_eq_true rfl)⟩ rfl hl.1 rfl (Nat.le_of_ble_eq_true rfl) ⟨Nat.zero_le _, Nat.zero_le _⟩ d_Mod_lowest_41 (fun x9 f1 H1 locs1 v9 A9 B9 hp hM hm => ?_)
      obtain ⟨hx9, hv9, hA9, hB9⟩ := hp
      subst hx9
      rw [hv9, hA9, hB9] at hm
      refine W.eq (g2 := F0 m 44 ls (_ :: _)) rfl ?_
      refine lv_iadd C.1 C.2.1 d_Mod_lowest_44 ?_
      refine lv_iload C.1 C.2.1 d_Mod_lowest_45 (lo_at hl 6 rfl) ?_
      rw [dnA_N ht hg, nI33]
      refine md_callS C hE hM hm (k_Mod_isIn l G o r _ _ _ 37 rfl _ _ (vp_lj (N := 908) (by omega) hd (by omega) (by decide))) tw_1013 cy_Mod_isIn ⟨(Nat.le_of_ble_eq_true rfl), (Nat.le_of_ble_eq_true rfl)⟩ rfl hl.1 rfl (Nat.le_of_ble_eq_true rfl) ⟨Nat.zero_le _, Nat.zero_le _⟩ d_Mod_lowest_47 (fun x9 f1 H1 locs1 v9 A9 B9 hp hM hm => ?_)
      obtain ⟨hx9, hv9, hA9, hB9⟩ := hp
      subst hx9
      rw [hv9, hA9, hB9] at hm
      refine W.eq (g2 := F0 m 50 ls (_ :: _)) rfl ?_
      refine lv_if_eq (tgt := 56) C.1 C.2.1 d_Mod_lowest_50 (by decide) (fun hc50 => ?_) (fun hc50 => ?_)
      · replace hc50 := bz_0.mp hc50
        refine lo_iinc C hl d_Mod_lowest_56 rfl rfl (fun ls hl => ?_)
        refine lv_goto (tgt := 3) C.1 C.2.1 d_Mod_lowest_59 (by decide) ?_
        have h9 := hl
        rw [nI_pl] at h9
        exact ih3 (w + 1, ls, H1, locs1, f1) ⟨by omega, by rw [← hval, show 5 - w = (5 - (w + 1)) + 1 by omega, lwF_f (fun z => by obtain ⟨d2, z1, z2⟩ := z; rw [hq] at z1; cases z1; exact hc50 ((bb_isI (by omega) hd).mpr z2))], lo_weak h9 ⟨rfl, rfl, rfl, rfl, rfl, rfl, trivial⟩, hM, hm⟩ (by show 5 - (w + 1) < 5 - w; omega)
      · replace hc50 := bz_1.mp hc50
        refine lv_iload C.1 C.2.1 d_Mod_lowest_53 (lo_at hl 5 rfl) ?_
        refine md_iret C hr hlk hM hm d_Mod_lowest_55 ?_
        refine ⟨?_, rfl, rfl, rfl⟩
        rw [← hval, show 5 - w = (5 - (w + 1)) + 1 by omega, lwF_t ⟨d, hq, (bb_isI (by omega) hd).mp hc50⟩]; rfl
