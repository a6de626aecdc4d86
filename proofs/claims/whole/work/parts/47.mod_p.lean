def op1 (v : Nat → Int32) (A : Nat → Nat → Int32) (c : Nat) : (Nat → Int32) × (Nat → Nat → Int32) := if A 2 c = 2 then (upd v 3 (v 3 + 1), va_up A 5 (upd (A 5) (ix (v 3)) (nI c))) else (v, A)
def op2 (v : Nat → Int32) (A : Nat → Nat → Int32) (c : Nat) : (Nat → Int32) × (Nat → Nat → Int32) := if A 2 c = 3 then
    (upd v 4 (v 4 + 1), va_up (va_up (va_up A 6 (upd (A 6) (ix (v 4)) (nI c))) 22 (upd (A 22) (ix (v 4)) (nI c))) 28 (upd (A 28) (ix (v 4)) (-1))) else (v, A)
def op3 (v : Nat → Int32) (A : Nat → Nat → Int32) (c : Nat) : (Nat → Int32) × (Nat → Nat → Int32) := op2 (op1 v A c).1 (op1 v A c).2 c
/-- the floor is opened: stations and parkings by rising cells -/
def opL : Nat → Nat → (Nat → Int32) → (Nat → Nat → Int32) → (Nat → Int32) × (Nat → Nat → Int32)
  | 0, _, v, A => (v, A)
  | n + 1, c, v, A => opL n (c + 1) (op3 v A c).1 (op3 v A c).2
def opR (v : Nat → Int32) (A : Nat → Nat → Int32) (g pl : Nat → Int32) : (Nat → Int32) × (Nat → Nat → Int32) := opL 96 0 (upd (upd v 0 0) 1 1) (va_up (va_up A 7 g) 8 pl)
abbrev opT (v : Nat → Int32) (z : Bool) : Int32 := thr (bz (¬ z = true)) (v 1)
theorem op3_K (v : Nat → Int32) (A : Nat → Nat → Int32) (c : Nat) : (op3 v A c).2 2 = A 2 := by
  have h1 : (op1 v A c).2 2 = A 2 := by unfold op1; split <;> rfl
  unfold op3 op2
  split
  · exact h1
  · exact h1
theorem op3_3 {v : Nat → Int32} {A : Nat → Nat → Int32} {c : Nat} (h : v 3 = nI (cn (A 2) 2 c)) : (op3 v A c).1 3 = nI (cn (A 2) 2 (c + 1)) := by
  have h2 : (op3 v A c).1 3 = (op1 v A c).1 3 := by unfold op3 op2; split <;> rfl
  rw [h2, cn]
  unfold op1
  split
  · show v 3 + 1 = _; rw [h, nI_1]
  · show v 3 = _; rw [h]; rfl
theorem op3_4 {v : Nat → Int32} {A : Nat → Nat → Int32} {c : Nat} (h : v 4 = nI (cn (A 2) 3 c)) : (op3 v A c).1 4 = nI (cn (A 2) 3 (c + 1)) := by
  have h1 : (op1 v A c).2 2 = A 2 := by unfold op1; split <;> rfl
  have h2 : (op1 v A c).1 4 = v 4 := by unfold op1; split <;> rfl
  rw [cn]
  unfold op3 op2
  rw [h1]
  split
  · show (op1 v A c).1 4 + 1 = _; rw [h2, h, nI_1]
  · rw [h2, h]; rfl
set_option maxHeartbeats 4000000 in
set_option maxRecDepth 100000 in
theorem k_Mod_open (l : Launch) (G : GG) (o : Nat) (r : Nat → Nat) (v : Nat → Int32) (A : Nat → Nat → Int32) (B : Nat → Nat → Int64)  (hini : v 1 = 0 → v 3 = 0 ∧ v 4 = 0) : mct l G y_Mod_open c_Mod_open 2 (some .int) 3 71 [.ref o] o r v A B (fun x v1 A1 B1 => ∃ z : Bool, (z = true ↔ good (A 2)) ∧ ∃ g pl, (if opT v z = 0 then (x = some (.int ((opR v A g pl).1 4)) ∧ v1 = (opR v A g pl).1 ∧ A1 = (opR v A g pl).2) else (x = some (.int 0) ∧ v1 = upd v 0 (opT v z) ∧ A1 = va_up (va_up A 7 g) 8 pl)) ∧ B1 = B) := by
  refine mct_intro (by decide) [some (.ref o), none] rfl rfl (Nat.le_of_ble_eq_true rfl) ?_
  intro p e s m below meth c ls P f C hr hlk hE hM hm hl
  refine lv_aload_n C.1 C.2.1 d_Mod_open_0 rfl (lo_at hl 0 rfl) ?_
  refine lv_aload_n C.1 C.2.1 d_Mod_open_1 rfl (lo_at hl 0 rfl) ?_
  refine md_callV C hE hM hm (k_Mod_isGood l G o r v A B) rfl tw_919 cy_Mod_isGood ⟨(Nat.le_of_ble_eq_true rfl), (Nat.le_of_ble_eq_true rfl)⟩ rfl hl.1 rfl (Nat.le_of_ble_eq_true rfl) ⟨Nat.zero_le _, Nat.zero_le _⟩ d_Mod_open_2 (fun x9 f1 H1 locs1 v9 A9 B9 hp hM hm => ?_)
  obtain ⟨q, hx9, hq9, hv9, ⟨g, pl, hA9⟩, hB9⟩ := hp
  subst hx9
  rw [hv9, hA9, hB9] at hm
  refine W.eq (g2 := F0 m 5 ls (_ :: _)) rfl ?_
  refine W.join (I := fun z => z = bz (¬ q = true)) (gf := fun z => F0 m 13 ls [.int z, .ref o]) (fun K13 => ?_) (fun z hz13 => ?_)
  · refine lv_if_ne (tgt := 12) C.1 C.2.1 d_Mod_open_5 (by decide) (fun hc5 => ?_) (fun hc5 => ?_)
    · replace hc5 := bz_1.mp hc5
      refine lv_iconst (v := 0) C.1 C.2.1 d_Mod_open_12 (by decide) ?_
      exact K13 _ (by simp [bz, hc5])
    · replace hc5 := bz_0.mp hc5
      refine lv_iconst (v := 1) C.1 C.2.1 d_Mod_open_8 (by decide) ?_
      refine lv_goto (tgt := 13) C.1 C.2.1 d_Mod_open_9 (by decide) ?_
      exact K13 _ (by simp [bz, hc5])
  · refine lv_aload_n C.1 C.2.1 d_Mod_open_13 rfl (lo_at hl 0 rfl) ?_
    refine md_get C hE hM hm 1 (Nat.le_of_ble_eq_true rfl) tw_783 rfl rfl d_Mod_open_14 ?_
    refine md_callV C hE hM hm (k_Mod_throwing l G o r _ _ _ _ _) rfl tw_930 cy_Mod_throwing ⟨(Nat.le_of_ble_eq_true rfl), (Nat.le_of_ble_eq_true rfl)⟩ rfl hl.1 rfl (Nat.le_of_ble_eq_true rfl) ⟨Nat.zero_le _, Nat.zero_le _⟩ d_Mod_open_17 (fun x9 f1 H1 locs1 v9 A9 B9 hp hM hm => ?_)
    obtain ⟨hx9, hv9, hA9, hB9⟩ := hp
    subst hx9
    rw [hv9, hA9, hB9] at hm
    subst hz13
    refine W.eq (g2 := F0 m 20 ls (_ :: _)) rfl ?_
    refine lv_if_eq (tgt := 25) C.1 C.2.1 d_Mod_open_20 (by decide) (fun hc20 => ?_) (fun hc20 => ?_)
    · replace hc20 := bz_0.mp hc20
      have hT0 : opT v q = 0 := Decidable.not_not.mp hc20
      have hq : q = true ∧ v 1 = 0 := by
        have h : thr (bz (¬ q = true)) (v 1) = 0 := hT0
        unfold thr at h
        by_cases e : q = true
        · refine ⟨e, ?_⟩
          rw [if_pos (by simp [bz, e])] at h
          by_cases e1 : v 1 = 0
          · exact e1
          · rw [if_neg e1] at h; exact absurd h (by decide)
        · rw [if_neg (by simp [bz, e])] at h; exact absurd h (by decide)
      have hgd := hq9.mp hq.1
      obtain ⟨i3, i4⟩ := hini hq.2
      refine lv_aload_n C.1 C.2.1 d_Mod_open_25 rfl (lo_at hl 0 rfl) ?_
      refine lv_iconst (v := 1) C.1 C.2.1 d_Mod_open_26 (by decide) ?_
      refine md_put C hE hM hm 1 (Nat.le_of_ble_eq_true rfl) tw_783 rfl rfl rfl rfl rfl d_Mod_open_27 (fun f1 H1 locs1 hM hm => ?_)
      refine lv_iconst (v := 0) C.1 C.2.1 d_Mod_open_30 (by decide) ?_
      refine lo_istore_n C hl d_Mod_open_31 (Nat.le_of_ble_eq_true rfl) rfl (fun ls hl => ?_)
      refine W.loop (α := (Nat) × (Nat → Int32) × (Nat → Nat → Int32) × (Array Slot) × (Heap) × (List Loc) × (Nat → va_E)) (fun a => 96 - a.1) (fun a => (a.1 ≤ 96) ∧ (a.2.1 3 = nI (cn (A 2) 2 a.1)) ∧ (a.2.1 4 = nI (cn (A 2) 3 a.1)) ∧ (a.2.2.1 2 = A 2) ∧ (opL (96 - a.1) a.1 a.2.1 a.2.2.1 = opR v A g pl) ∧ lo a.2.2.2.1 [some (.ref o), some (.int (nI a.1))] ∧ pgS G (pgA P s.heap.size) s.heap P a.2.2.2.2.2.2 a.2.2.2.2.1 a.2.2.2.2.2.1 ∧ mdS G o r P f a.2.2.2.2.2.2 (a.2.1) (a.2.2.1) (B)) (fun a => a.2.2.2.2.1) (fun a => a.2.2.2.2.2.1) (fun _ => 0) (fun _ => 0) (fun a => F0 m 32 a.2.2.2.1 []) ?_ (0, upd (upd v 0 0) 1 1, va_up (va_up A 7 g) 8 pl, ls, H1, locs1, f1) ⟨Nat.zero_le _, i3, i4, rfl, rfl, lo_weak hl ⟨rfl, rfl, trivial⟩, hM, (by rw [show thr (bz (¬ q = true)) (v 1) = 0 from hT0] at hm; exact hm)⟩
      rintro ⟨k, v1, A1, ls, H1, locs1, f1⟩ ⟨hk, h3, h4, hK, hval, hl, hM, hm⟩ ih32
      dsimp only at hk h3 h4 hK hval hl hM hm
      show W _ _ _ _ _ _ _ _ _ _ _ _ _ _ _ (F0 m 32 ls [])
      refine lv_iload_n C.1 C.2.1 d_Mod_open_32 rfl (lo_at hl 1 rfl) ?_
      refine lv_bipush (v := 96) C.1 C.2.1 d_Mod_open_33 (by decide) ?_
      rw [show (96 : Int32) = nI 96 from rfl]
      refine lv_icmp_ge (tgt := 124) C.1 C.2.1 d_Mod_open_35 (by decide) (fun hc35 => ?_) (fun hc35 => ?_)
      · have hk9 : k = 96 := Nat.le_antisymm hk (nI_leN (by omega) (by omega) hc35)
        refine lv_aload_n C.1 C.2.1 d_Mod_open_124 rfl (lo_at hl 0 rfl) ?_
        refine md_get C hE hM hm 4 (Nat.le_of_ble_eq_true rfl) tw_786 rfl rfl d_Mod_open_125 ?_
        refine md_iret C hr hlk hM hm d_Mod_open_128 ?_
        refine ⟨q, hq9, g, pl, ?_, rfl⟩
        have hfin : opR v A g pl = (v1, A1) := by rw [← hval, show 96 - k = 0 by omega]; rfl
        rw [if_pos hT0, hfin]; exact ⟨rfl, rfl, rfl⟩
      · have hk9 : k < 96 := nI_ltN (by omega) (by omega) hc35
        refine lv_aload_n C.1 C.2.1 d_Mod_open_38 rfl (lo_at hl 0 rfl) ?_
        refine md_get C hE hM hm 2 (Nat.le_of_ble_eq_true rfl) tw_784 rfl rfl d_Mod_open_39 ?_
        refine lv_iload_n C.1 C.2.1 d_Mod_open_42 rfl (lo_at hl 1 rfl) ?_
        refine md_ialdN C hE hM hm 2 rfl k rfl (show k < 96 by omega) d_Mod_open_43 ?_
        refine lv_iconst (v := 2) C.1 C.2.1 d_Mod_open_44 (by decide) ?_
        rw [hK]
        refine lv_icmp_ne (tgt := 68) C.1 C.2.1 d_Mod_open_45 (by decide) (fun hc45 => ?_) (fun hc45 => ?_)
        · refine lv_aload_n C.1 C.2.1 d_Mod_open_68 rfl (lo_at hl 0 rfl) ?_
          refine md_get C hE hM hm 2 (Nat.le_of_ble_eq_true rfl) tw_784 rfl rfl d_Mod_open_69 ?_
          refine lv_iload_n C.1 C.2.1 d_Mod_open_72 rfl (lo_at hl 1 rfl) ?_
          refine md_ialdN C hE hM hm 2 rfl k rfl (show k < 96 by omega) d_Mod_open_73 ?_
          refine lv_iconst (v := 3) C.1 C.2.1 d_Mod_open_74 (by decide) ?_
          refine lv_icmp_ne (tgt := 118) C.1 C.2.1 d_Mod_open_75 (by decide) (fun hc75 => ?_) (fun hc75 => ?_)
          · refine lo_iinc C hl d_Mod_open_118 rfl rfl (fun ls hl => ?_)
            refine lv_goto (tgt := 32) C.1 C.2.1 d_Mod_open_121 (by decide) ?_
            have e1 : op1 v1 A1 k = (v1, A1) := by rw [op1, hK, if_neg hc45]
            have hm : mdS G o r P f f1 (op3 v1 A1 k).1 (op3 v1 A1 k).2 B := by
              rw [op3, e1, op2, if_neg (fun z => hc75 z)]; exact hm
            have hval2 : opL (96 - (k + 1)) (k + 1) (op3 v1 A1 k).1 (op3 v1 A1 k).2 = opR v A g pl := by rw [← hval, show 96 - k = (96 - (k + 1)) + 1 by omega]; rfl
            have h9 := hl
            rw [nI_pl] at h9
            exact ih32 (k + 1, (op3 v1 A1 k).1, (op3 v1 A1 k).2, ls, H1, locs1, f1) ⟨by (try dsimp only); omega, (by have := op3_3 (v := v1) (A := A1) (c := k) (by rw [hK]; exact h3); rw [hK] at this; exact this), (by have := op3_4 (v := v1) (A := A1) (c := k) (by rw [hK]; exact h4); rw [hK] at this; exact this), ((op3_K v1 A1 k).trans hK), hval2, lo_weak h9 ⟨rfl, rfl, trivial⟩, hM, hm⟩ (by show 96 - (k + 1) < 96 - k; omega)
          · have hc75 : A 2 k = 3 := by rw [← hK]; exact hc75
            have h6 : cn (A 2) 3 k < 6 := by
              have e1 : cn (A 2) 3 (k + 1) = cn (A 2) 3 k + 1 := by rw [cn, if_pos hc75]
              have e2 := cn_mono (K := A 2) (k := 3) (a := k + 1) 96 (by omega)
              have := hgd.1.1.2
              omega
            refine lv_aload_n C.1 C.2.1 d_Mod_open_78 rfl (lo_at hl 0 rfl) ?_
            refine md_get C hE hM hm 6 (Nat.le_of_ble_eq_true rfl) tw_788 rfl rfl d_Mod_open_79 ?_
            refine lv_aload_n C.1 C.2.1 d_Mod_open_82 rfl (lo_at hl 0 rfl) ?_
            refine md_get C hE hM hm 4 (Nat.le_of_ble_eq_true rfl) tw_786 rfl rfl d_Mod_open_83 ?_
            refine lv_iload_n C.1 C.2.1 d_Mod_open_86 rfl (lo_at hl 1 rfl) ?_
            refine md_iast C hE hM hm 6 rfl (by rw [show _ = nI (cn (A 2) 3 k) from h4]; exact vp_in_nI (show cn (A 2) 3 k < 96 by omega) (by decide)) d_Mod_open_87 (fun f1 H1 locs1 hM hm => ?_)
            refine lv_aload_n C.1 C.2.1 d_Mod_open_88 rfl (lo_at hl 0 rfl) ?_
            refine md_get C hE hM hm 22 (Nat.le_of_ble_eq_true rfl) tw_804 rfl rfl d_Mod_open_89 ?_
            refine lv_aload_n C.1 C.2.1 d_Mod_open_92 rfl (lo_at hl 0 rfl) ?_
            refine md_get C hE hM hm 4 (Nat.le_of_ble_eq_true rfl) tw_786 rfl rfl d_Mod_open_93 ?_
            refine lv_iload_n C.1 C.2.1 d_Mod_open_96 rfl (lo_at hl 1 rfl) ?_
            refine md_iast C hE hM hm 22 rfl (by rw [show _ = nI (cn (A 2) 3 k) from h4]; exact vp_in_nI (show cn (A 2) 3 k < 6 by omega) (by decide)) d_Mod_open_97 (fun f1 H1 locs1 hM hm => ?_)
            refine lv_aload_n C.1 C.2.1 d_Mod_open_98 rfl (lo_at hl 0 rfl) ?_
            refine md_get C hE hM hm 28 (Nat.le_of_ble_eq_true rfl) tw_810 rfl rfl d_Mod_open_99 ?_
            refine lv_aload_n C.1 C.2.1 d_Mod_open_102 rfl (lo_at hl 0 rfl) ?_
            refine md_get C hE hM hm 4 (Nat.le_of_ble_eq_true rfl) tw_786 rfl rfl d_Mod_open_103 ?_
            refine lv_iconst (v := (-1)) C.1 C.2.1 d_Mod_open_106 (by decide) ?_
            refine md_iast C hE hM hm 28 rfl (by rw [show _ = nI (cn (A 2) 3 k) from h4]; exact vp_in_nI (show cn (A 2) 3 k < 6 by omega) (by decide)) d_Mod_open_107 (fun f1 H1 locs1 hM hm => ?_)
            refine lv_aload_n C.1 C.2.1 d_Mod_open_108 rfl (lo_at hl 0 rfl) ?_
            refine lv_dup C.1 C.2.1 d_Mod_open_109 rfl ?_
            refine md_get C hE hM hm 4 (Nat.le_of_ble_eq_true rfl) tw_786 rfl rfl d_Mod_open_110 ?_
            refine lv_iconst (v := 1) C.1 C.2.1 d_Mod_open_113 (by decide) ?_
            refine lv_iadd C.1 C.2.1 d_Mod_open_114 ?_
            refine md_put C hE hM hm 4 (Nat.le_of_ble_eq_true rfl) tw_786 rfl rfl rfl rfl rfl d_Mod_open_115 (fun f1 H1 locs1 hM hm => ?_)
            refine lo_iinc C hl d_Mod_open_118 rfl rfl (fun ls hl => ?_)
            refine lv_goto (tgt := 32) C.1 C.2.1 d_Mod_open_121 (by decide) ?_
            have e1 : op1 v1 A1 k = (v1, A1) := by rw [op1, hK, if_neg hc45]
            have hm : mdS G o r P f f1 (op3 v1 A1 k).1 (op3 v1 A1 k).2 B := by
              rw [op3, e1, op2, if_pos (show _ = (3 : Int32) from (congrFun hK k).trans hc75)]; exact hm
            have hval2 : opL (96 - (k + 1)) (k + 1) (op3 v1 A1 k).1 (op3 v1 A1 k).2 = opR v A g pl := by rw [← hval, show 96 - k = (96 - (k + 1)) + 1 by omega]; rfl
            have h9 := hl
            rw [nI_pl] at h9
            exact ih32 (k + 1, (op3 v1 A1 k).1, (op3 v1 A1 k).2, ls, H1, locs1, f1) ⟨by (try dsimp only); omega, (by have := op3_3 (v := v1) (A := A1) (c := k) (by rw [hK]; exact h3); rw [hK] at this; exact this), (by have := op3_4 (v := v1) (A := A1) (c := k) (by rw [hK]; exact h4); rw [hK] at this; exact this), ((op3_K v1 A1 k).trans hK), hval2, lo_weak h9 ⟨rfl, rfl, trivial⟩, hM, hm⟩ (by show 96 - (k + 1) < 96 - k; omega)
        · refine lv_aload_n C.1 C.2.1 d_Mod_open_48 rfl (lo_at hl 0 rfl) ?_
          refine md_get C hE hM hm 5 (Nat.le_of_ble_eq_true rfl) tw_787 rfl rfl d_Mod_open_49 ?_
          refine lv_aload_n C.1 C.2.1 d_Mod_open_52 rfl (lo_at hl 0 rfl) ?_
          refine md_get C hE hM hm 3 (Nat.le_of_ble_eq_true rfl) tw_785 rfl rfl d_Mod_open_53 ?_
          refine lv_iload_n C.1 C.2.1 d_Mod_open_56 rfl (lo_at hl 1 rfl) ?_
          refine md_iast C hE hM hm 5 rfl (by rw [show _ = nI (cn (A 2) 2 k) from h3]; exact vp_in_nI (by have := cn_le (K := A 2) (k := 2) k; show _ < 96; omega) (by decide)) d_Mod_open_57 (fun f1 H1 locs1 hM hm => ?_)
          refine lv_aload_n C.1 C.2.1 d_Mod_open_58 rfl (lo_at hl 0 rfl) ?_
          refine lv_dup C.1 C.2.1 d_Mod_open_59 rfl ?_
          refine md_get C hE hM hm 3 (Nat.le_of_ble_eq_true rfl) tw_785 rfl rfl d_Mod_open_60 ?_
          refine lv_iconst (v := 1) C.1 C.2.1 d_Mod_open_63 (by decide) ?_
          refine lv_iadd C.1 C.2.1 d_Mod_open_64 ?_
          refine md_put C hE hM hm 3 (Nat.le_of_ble_eq_true rfl) tw_785 rfl rfl rfl rfl rfl d_Mod_open_65 (fun f1 H1 locs1 hM hm => ?_)
          refine lv_aload_n C.1 C.2.1 d_Mod_open_68 rfl (lo_at hl 0 rfl) ?_
          refine md_get C hE hM hm 2 (Nat.le_of_ble_eq_true rfl) tw_784 rfl rfl d_Mod_open_69 ?_
          refine lv_iload_n C.1 C.2.1 d_Mod_open_72 rfl (lo_at hl 1 rfl) ?_
          refine md_ialdN C hE hM hm 2 rfl k rfl (show k < 96 by omega) d_Mod_open_73 ?_
          refine lv_iconst (v := 3) C.1 C.2.1 d_Mod_open_74 (by decide) ?_
          refine lv_icmp_ne (tgt := 118) C.1 C.2.1 d_Mod_open_75 (by decide) (fun hc75 => ?_) (fun hc75 => False.elim (absurd (hc45.symm.trans (show A 2 k = 3 from (congrFun hK k).symm.trans hc75)) (by decide)))
          refine lo_iinc C hl d_Mod_open_118 rfl rfl (fun ls hl => ?_)
          refine lv_goto (tgt := 32) C.1 C.2.1 d_Mod_open_121 (by decide) ?_
          have e1 : op1 v1 A1 k = (upd v1 3 (v1 3 + 1), va_up A1 5 (upd (A1 5) (ix (v1 3)) (nI k))) := by rw [op1, hK, if_pos hc45]
          have hm : mdS G o r P f f1 (op3 v1 A1 k).1 (op3 v1 A1 k).2 B := by
            rw [op3, e1, op2, if_neg (fun z => hc75 z)]; exact hm
          have hval2 : opL (96 - (k + 1)) (k + 1) (op3 v1 A1 k).1 (op3 v1 A1 k).2 = opR v A g pl := by rw [← hval, show 96 - k = (96 - (k + 1)) + 1 by omega]; rfl
          have h9 := hl
          rw [nI_pl] at h9
          exact ih32 (k + 1, (op3 v1 A1 k).1, (op3 v1 A1 k).2, ls, H1, locs1, f1) ⟨by (try dsimp only); omega, (by have := op3_3 (v := v1) (A := A1) (c := k) (by rw [hK]; exact h3); rw [hK] at this; exact this), (by have := op3_4 (v := v1) (A := A1) (c := k) (by rw [hK]; exact h4); rw [hK] at this; exact this), ((op3_K v1 A1 k).trans hK), hval2, lo_weak h9 ⟨rfl, rfl, trivial⟩, hM, hm⟩ (by show 96 - (k + 1) < 96 - k; omega)
    · replace hc20 := bz_1.mp hc20
      refine lv_iconst (v := 0) C.1 C.2.1 d_Mod_open_23 (by decide) ?_
      refine md_iret C hr hlk hM hm d_Mod_open_24 ?_
      refine ⟨q, hq9, g, pl, ?_, rfl⟩
      rw [if_neg hc20]; exact ⟨rfl, rfl, rfl⟩
