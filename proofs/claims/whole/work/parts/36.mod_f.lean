theorem plo_congr {A A' : Nat → Nat → Int32} (h13 : A' 13 = A 13) (h14 : A' 14 = A 14) (h15 : A' 15 = A 15) (h16 : A' 16 = A 16) (u i : Int32) : ∀ n t, plo A' u i n t = plo A u i n t := by
  intro n
  induction n with
  | zero => intro t; rfl
  | succ n ih => intro t; rw [plo, plo, h13, h14, h15, h16, ih]
theorem plc_congr {v v' : Nat → Int32} {A A' : Nat → Nat → Int32} (h10 : v' 10 = v 10) (h13 : A' 13 = A 13) (h14 : A' 14 = A 14) (h15 : A' 15 = A 15) (h16 : A' 16 = A 16) (u i : Int32) : plc v' A' u i = plc v A u i := by
  rw [plc, plc, h10, plo_congr h13 h14 h15 h16]
theorem bz_t {p : Prop} [Decidable p] (h : p) : bz p = bz (true = true) := by simp [bz, h]
theorem bz_f {p : Prop} [Decidable p] (h : ¬ p) : bz p = bz (false = true) := by simp [bz, h]
/-- moves are granted as long as the next one is free -/
def grL (w np : Nat) : Nat → (Nat → Int32) → (Nat → Nat → Int32) → (Nat → Int32) × (Nat → Nat → Int32)
  | 0, v, A => (v, A)
  | n + 1, v, A => if frO A (nI w) (A 20 (ix (plc v A (nI w) (A 26 w)))) (A 21 (ix (plc v A (nI w) (A 26 w)))) np 0 = true then
      grL w np n (upd v 29 (mx (A 21 (ix (plc v A (nI w) (A 26 w)))) (v 29))) (va_up A 26 (upd (A 26) w (A 26 w + 1))) else (v, A)
def grE (v : Nat → Int32) (A : Nat → Nat → Int32) (w np : Nat) : (Nat → Int32) × (Nat → Nat → Int32) := grL w np (ix (A 27 w) - ix (A 26 w)) v A
def grT (v : Nat → Int32) (A : Nat → Nat → Int32) (w np : Nat) : (Nat → Int32) × (Nat → Nat → Int32) :=
  if A 26 w < (grE v A w np).2 26 w ∨ isTn (grE v A w np).1 (nI w) then (sndV (grE v A w np).1, sndA (grE v A w np).1 (grE v A w np).2 0 (nI w) ((grE v A w np).2 26 w)) else grE v A w np
set_option maxHeartbeats 4000000 in
set_option maxRecDepth 100000 in
theorem k_Mod_grant (l : Launch) (G : GG) (o : Nat) (r : Nat → Nat) (v : Nat → Int32) (A : Nat → Nat → Int32) (B : Nat → Nat → Int64) (w : Nat) {np nl g0 gm : Nat} (hw : w < 6) (hnp : np ≤ 24) (h10 : v 10 = nI np) (hnl : nl ≤ 60) (h31 : v 31 = nI nl) (hok : plOk A np) (hg0 : A 26 w = nI g0) (hm27 : A 27 w = nI gm) (hg0m : g0 ≤ gm) (hgm3 : gm ≤ 3600) (hpl : ∀ i, i < gm → vp_in (plc v A (nI w) (nI i)) 3600) : mct l G y_Mod_grant c_Mod_grant 5 none 1 27 [.ref o, .int (nI w)] o r v A B (fun x v1 A1 B1 => x = none ∧ v1 = (grT v A w np).1 ∧ A1 = (grT v A w np).2 ∧ B1 = B) := by
  refine mct_intro (by decide) [some (.ref o), some (.int (nI w)), none, none, none] rfl rfl (Nat.le_of_ble_eq_true rfl) ?_
  intro p e s m below meth c ls P f C hr hlk hE hM hm hl
  refine lv_aload_n C.1 C.2.1 d_Mod_grant_0 rfl (lo_at hl 0 rfl) ?_
  refine md_get C hE hM hm 26 (Nat.le_of_ble_eq_true rfl) tw_808 rfl rfl d_Mod_grant_1 ?_
  refine lv_iload_n C.1 C.2.1 d_Mod_grant_4 rfl (lo_at hl 1 rfl) ?_
  refine md_ialdN C hE hM hm 26 rfl w rfl (show w < 6 by omega) d_Mod_grant_5 ?_
  refine lo_istore_n C hl d_Mod_grant_6 (Nat.le_of_ble_eq_true rfl) rfl (fun ls hl => ?_)
  refine lv_iconst (v := 1) C.1 C.2.1 d_Mod_grant_7 (by decide) ?_
  refine lo_istore_n C hl d_Mod_grant_8 (Nat.le_of_ble_eq_true rfl) rfl (fun ls hl => ?_)
  refine W.loop (α := (Nat) × (Bool) × (Nat → Int32) × (Nat → Nat → Int32) × (Array Slot) × (Heap) × (List Loc) × (Nat → va_E)) (fun a => 2 * (gm - a.1) + (if a.2.1 = true then 1 else 0)) (fun a => (a.1 ≤ gm) ∧ (a.2.2.1 10 = nI np) ∧ (a.2.2.1 31 = nI nl) ∧ (plOk a.2.2.2.1 np) ∧ (a.2.2.2.1 26 w = nI a.1) ∧ (a.2.2.2.1 27 w = nI gm) ∧ (∀ i, i < gm → vp_in (plc a.2.2.1 a.2.2.2.1 (nI w) (nI i)) 3600) ∧ ((if a.2.1 = true then grL w np (gm - a.1) a.2.2.1 a.2.2.2.1 else (a.2.2.1, a.2.2.2.1)) = grE v A w np) ∧ lo a.2.2.2.2.1 [some (.ref o), some (.int (nI w)), some (.int (A 26 w)), some (.int (bz (a.2.1 = true))), none] ∧ pgS G (pgA P s.heap.size) s.heap P a.2.2.2.2.2.2.2 a.2.2.2.2.2.1 a.2.2.2.2.2.2.1 ∧ mdS G o r P f a.2.2.2.2.2.2.2 (a.2.2.1) (a.2.2.2.1) (B)) (fun a => a.2.2.2.2.2.1) (fun a => a.2.2.2.2.2.2.1) (fun _ => 0) (fun _ => 0) (fun a => F0 m 9 a.2.2.2.2.1 []) ?_ (g0, true, v, A, ls, s.heap, [], f) ⟨hg0m, h10, h31, hok, hg0, hm27, hpl, by rw [grE, hg0, hm27, show ix (nI gm) = gm from ix_nI (by omega), show ix (nI g0) = g0 from ix_nI (by omega)]; rfl, lo_weak hl ⟨rfl, rfl, rfl, rfl, trivial⟩, hM, hm⟩
  rintro ⟨g, q, v1, A1, ls, H1, locs1, f1⟩ ⟨hgm, h10, h31, hok, hg, hm27, hpl, hval, hl, hM, hm⟩ ih9
  dsimp only at hgm h10 h31 hok hg hm27 hpl hval hl hM hm
  show W _ _ _ _ _ _ _ _ _ _ _ _ _ _ _ (F0 m 9 ls [])
  refine lv_iload_n C.1 C.2.1 d_Mod_grant_9 rfl (lo_at hl 3 rfl) ?_
  refine lv_if_eq (tgt := 113) C.1 C.2.1 d_Mod_grant_10 (by decide) (fun hc10 => ?_) (fun hc10 => ?_)
  · replace hc10 := bz_0.mp hc10
    refine lv_aload_n C.1 C.2.1 d_Mod_grant_113 rfl (lo_at hl 0 rfl) ?_
    refine md_get C hE hM hm 26 (Nat.le_of_ble_eq_true rfl) tw_808 rfl rfl d_Mod_grant_114 ?_
    refine lv_iload_n C.1 C.2.1 d_Mod_grant_117 rfl (lo_at hl 1 rfl) ?_
    refine md_ialdN C hE hM hm 26 rfl w rfl (show w < 6 by omega) d_Mod_grant_118 ?_
    refine lv_iload_n C.1 C.2.1 d_Mod_grant_119 rfl (lo_at hl 2 rfl) ?_
    refine lv_icmp_gt (tgt := 131) C.1 C.2.1 d_Mod_grant_120 (by decide) (fun hc120 => ?_) (fun hc120 => ?_)
    · refine lv_aload_n C.1 C.2.1 d_Mod_grant_131 rfl (lo_at hl 0 rfl) ?_
      refine lv_iconst (v := 0) C.1 C.2.1 d_Mod_grant_132 (by decide) ?_
      refine lv_iload_n C.1 C.2.1 d_Mod_grant_133 rfl (lo_at hl 1 rfl) ?_
      refine lv_aload_n C.1 C.2.1 d_Mod_grant_134 rfl (lo_at hl 0 rfl) ?_
      refine md_get C hE hM hm 26 (Nat.le_of_ble_eq_true rfl) tw_808 rfl rfl d_Mod_grant_135 ?_
      refine lv_iload_n C.1 C.2.1 d_Mod_grant_138 rfl (lo_at hl 1 rfl) ?_
      refine md_ialdN C hE hM hm 26 rfl w rfl (show w < 6 by omega) d_Mod_grant_139 ?_
      refine md_callV C hE hM hm (k_Mod_send l G o r _ _ _ _ _ _ (nl := nl) hnl h31) rfl tw_966 cy_Mod_send ⟨(Nat.le_of_ble_eq_true rfl), (Nat.le_of_ble_eq_true rfl)⟩ rfl hl.1 rfl (Nat.le_of_ble_eq_true rfl) ⟨Nat.zero_le _, Nat.zero_le _⟩ d_Mod_grant_140 (fun x9 f1 H1 locs1 v9 A9 B9 hp hM hm => ?_)
      obtain ⟨hx9, hv9, hA9, hB9⟩ := hp
      subst hx9
      rw [hv9, hA9, hB9] at hm
      refine W.eq (g2 := F0 m 143 ls _) rfl ?_
      refine md_vret C hr hlk hM hm d_Mod_grant_143 ?_
      have hfin : grE v A w np = (v1, A1) := by rw [← hval, if_neg hc10]
      refine ⟨rfl, ?_, ?_, rfl⟩ <;> rw [grT, hfin, if_pos (Or.inl hc120)]
    · refine lv_aload_n C.1 C.2.1 d_Mod_grant_123 rfl (lo_at hl 0 rfl) ?_
      refine lv_iload_n C.1 C.2.1 d_Mod_grant_124 rfl (lo_at hl 1 rfl) ?_
      refine md_callV C hE hM hm (k_Mod_isTurn l G o r _ _ _ _) rfl tw_982 cy_Mod_isTurn ⟨(Nat.le_of_ble_eq_true rfl), (Nat.le_of_ble_eq_true rfl)⟩ rfl hl.1 rfl (Nat.le_of_ble_eq_true rfl) ⟨Nat.zero_le _, Nat.zero_le _⟩ d_Mod_grant_125 (fun x9 f1 H1 locs1 v9 A9 B9 hp hM hm => ?_)
      obtain ⟨hx9, hv9, hA9, hB9⟩ := hp
      subst hx9
      rw [hv9, hA9, hB9] at hm
      refine W.eq (g2 := F0 m 128 ls (_ :: _)) rfl ?_
      refine lv_if_eq (tgt := 143) C.1 C.2.1 d_Mod_grant_128 (by decide) (fun hc128 => ?_) (fun hc128 => ?_)
      · replace hc128 := bz_0.mp hc128
        refine md_vret C hr hlk hM hm d_Mod_grant_143 ?_
        have hfin : grE v A w np = (v1, A1) := by rw [← hval, if_neg hc10]
        refine ⟨rfl, ?_, ?_, rfl⟩ <;> rw [grT, hfin, if_neg (fun z => z.elim hc120 hc128)]
      · replace hc128 := bz_1.mp hc128
        refine lv_aload_n C.1 C.2.1 d_Mod_grant_131 rfl (lo_at hl 0 rfl) ?_
        refine lv_iconst (v := 0) C.1 C.2.1 d_Mod_grant_132 (by decide) ?_
        refine lv_iload_n C.1 C.2.1 d_Mod_grant_133 rfl (lo_at hl 1 rfl) ?_
        refine lv_aload_n C.1 C.2.1 d_Mod_grant_134 rfl (lo_at hl 0 rfl) ?_
        refine md_get C hE hM hm 26 (Nat.le_of_ble_eq_true rfl) tw_808 rfl rfl d_Mod_grant_135 ?_
        refine lv_iload_n C.1 C.2.1 d_Mod_grant_138 rfl (lo_at hl 1 rfl) ?_
        refine md_ialdN C hE hM hm 26 rfl w rfl (show w < 6 by omega) d_Mod_grant_139 ?_
        refine md_callV C hE hM hm (k_Mod_send l G o r _ _ _ _ _ _ (nl := nl) hnl h31) rfl tw_966 cy_Mod_send ⟨(Nat.le_of_ble_eq_true rfl), (Nat.le_of_ble_eq_true rfl)⟩ rfl hl.1 rfl (Nat.le_of_ble_eq_true rfl) ⟨Nat.zero_le _, Nat.zero_le _⟩ d_Mod_grant_140 (fun x9 f1 H1 locs1 v9 A9 B9 hp hM hm => ?_)
        obtain ⟨hx9, hv9, hA9, hB9⟩ := hp
        subst hx9
        rw [hv9, hA9, hB9] at hm
        refine W.eq (g2 := F0 m 143 ls _) rfl ?_
        refine md_vret C hr hlk hM hm d_Mod_grant_143 ?_
        have hfin : grE v A w np = (v1, A1) := by rw [← hval, if_neg hc10]
        refine ⟨rfl, ?_, ?_, rfl⟩ <;> rw [grT, hfin, if_pos (Or.inr hc128)]
  · replace hc10 := bz_1.mp hc10
    refine lv_aload_n C.1 C.2.1 d_Mod_grant_13 rfl (lo_at hl 0 rfl) ?_
    refine md_get C hE hM hm 26 (Nat.le_of_ble_eq_true rfl) tw_808 rfl rfl d_Mod_grant_14 ?_
    refine lv_iload_n C.1 C.2.1 d_Mod_grant_17 rfl (lo_at hl 1 rfl) ?_
    refine md_ialdN C hE hM hm 26 rfl w rfl (show w < 6 by omega) d_Mod_grant_18 ?_
    refine lv_aload_n C.1 C.2.1 d_Mod_grant_19 rfl (lo_at hl 0 rfl) ?_
    refine md_get C hE hM hm 27 (Nat.le_of_ble_eq_true rfl) tw_809 rfl rfl d_Mod_grant_20 ?_
    refine lv_iload_n C.1 C.2.1 d_Mod_grant_23 rfl (lo_at hl 1 rfl) ?_
    refine md_ialdN C hE hM hm 27 rfl w rfl (show w < 6 by omega) d_Mod_grant_24 ?_
    rw [hg, hm27]
    refine lv_icmp_ge (tgt := 113) C.1 C.2.1 d_Mod_grant_25 (by decide) (fun hc25 => ?_) (fun hc25 => ?_)
    · refine lv_aload_n C.1 C.2.1 d_Mod_grant_113 rfl (lo_at hl 0 rfl) ?_
      refine md_get C hE hM hm 26 (Nat.le_of_ble_eq_true rfl) tw_808 rfl rfl d_Mod_grant_114 ?_
      refine lv_iload_n C.1 C.2.1 d_Mod_grant_117 rfl (lo_at hl 1 rfl) ?_
      refine md_ialdN C hE hM hm 26 rfl w rfl (show w < 6 by omega) d_Mod_grant_118 ?_
      refine lv_iload_n C.1 C.2.1 d_Mod_grant_119 rfl (lo_at hl 2 rfl) ?_
      refine lv_icmp_gt (tgt := 131) C.1 C.2.1 d_Mod_grant_120 (by decide) (fun hc120 => ?_) (fun hc120 => ?_)
      · refine lv_aload_n C.1 C.2.1 d_Mod_grant_131 rfl (lo_at hl 0 rfl) ?_
        refine lv_iconst (v := 0) C.1 C.2.1 d_Mod_grant_132 (by decide) ?_
        refine lv_iload_n C.1 C.2.1 d_Mod_grant_133 rfl (lo_at hl 1 rfl) ?_
        refine lv_aload_n C.1 C.2.1 d_Mod_grant_134 rfl (lo_at hl 0 rfl) ?_
        refine md_get C hE hM hm 26 (Nat.le_of_ble_eq_true rfl) tw_808 rfl rfl d_Mod_grant_135 ?_
        refine lv_iload_n C.1 C.2.1 d_Mod_grant_138 rfl (lo_at hl 1 rfl) ?_
        refine md_ialdN C hE hM hm 26 rfl w rfl (show w < 6 by omega) d_Mod_grant_139 ?_
        refine md_callV C hE hM hm (k_Mod_send l G o r _ _ _ _ _ _ (nl := nl) hnl h31) rfl tw_966 cy_Mod_send ⟨(Nat.le_of_ble_eq_true rfl), (Nat.le_of_ble_eq_true rfl)⟩ rfl hl.1 rfl (Nat.le_of_ble_eq_true rfl) ⟨Nat.zero_le _, Nat.zero_le _⟩ d_Mod_grant_140 (fun x9 f1 H1 locs1 v9 A9 B9 hp hM hm => ?_)
        obtain ⟨hx9, hv9, hA9, hB9⟩ := hp
        subst hx9
        rw [hv9, hA9, hB9] at hm
        refine W.eq (g2 := F0 m 143 ls _) rfl ?_
        refine md_vret C hr hlk hM hm d_Mod_grant_143 ?_
        have hfin : grE v A w np = (v1, A1) := by
          have hge : gm ≤ g := nI_leN (by omega) (by omega) hc25
          rw [← hval, if_pos hc10, show gm - g = 0 by omega]; rfl
        refine ⟨rfl, ?_, ?_, rfl⟩ <;> rw [grT, hfin, if_pos (Or.inl hc120)]
      · refine lv_aload_n C.1 C.2.1 d_Mod_grant_123 rfl (lo_at hl 0 rfl) ?_
        refine lv_iload_n C.1 C.2.1 d_Mod_grant_124 rfl (lo_at hl 1 rfl) ?_
        refine md_callV C hE hM hm (k_Mod_isTurn l G o r _ _ _ _) rfl tw_982 cy_Mod_isTurn ⟨(Nat.le_of_ble_eq_true rfl), (Nat.le_of_ble_eq_true rfl)⟩ rfl hl.1 rfl (Nat.le_of_ble_eq_true rfl) ⟨Nat.zero_le _, Nat.zero_le _⟩ d_Mod_grant_125 (fun x9 f1 H1 locs1 v9 A9 B9 hp hM hm => ?_)
        obtain ⟨hx9, hv9, hA9, hB9⟩ := hp
        subst hx9
        rw [hv9, hA9, hB9] at hm
        refine W.eq (g2 := F0 m 128 ls (_ :: _)) rfl ?_
        refine lv_if_eq (tgt := 143) C.1 C.2.1 d_Mod_grant_128 (by decide) (fun hc128 => ?_) (fun hc128 => ?_)
        · replace hc128 := bz_0.mp hc128
          refine md_vret C hr hlk hM hm d_Mod_grant_143 ?_
          have hfin : grE v A w np = (v1, A1) := by
            have hge : gm ≤ g := nI_leN (by omega) (by omega) hc25
            rw [← hval, if_pos hc10, show gm - g = 0 by omega]; rfl
          refine ⟨rfl, ?_, ?_, rfl⟩ <;> rw [grT, hfin, if_neg (fun z => z.elim hc120 hc128)]
        · replace hc128 := bz_1.mp hc128
          refine lv_aload_n C.1 C.2.1 d_Mod_grant_131 rfl (lo_at hl 0 rfl) ?_
          refine lv_iconst (v := 0) C.1 C.2.1 d_Mod_grant_132 (by decide) ?_
          refine lv_iload_n C.1 C.2.1 d_Mod_grant_133 rfl (lo_at hl 1 rfl) ?_
          refine lv_aload_n C.1 C.2.1 d_Mod_grant_134 rfl (lo_at hl 0 rfl) ?_
          refine md_get C hE hM hm 26 (Nat.le_of_ble_eq_true rfl) tw_808 rfl rfl d_Mod_grant_135 ?_
          refine lv_iload_n C.1 C.2.1 d_Mod_grant_138 rfl (lo_at hl 1 rfl) ?_
          refine md_ialdN C hE hM hm 26 rfl w rfl (show w < 6 by omega) d_Mod_grant_139 ?_
          refine md_callV C hE hM hm (k_Mod_send l G o r _ _ _ _ _ _ (nl := nl) hnl h31) rfl tw_966 cy_Mod_send ⟨(Nat.le_of_ble_eq_true rfl), (Nat.le_of_ble_eq_true rfl)⟩ rfl hl.1 rfl (Nat.le_of_ble_eq_true rfl) ⟨Nat.zero_le _, Nat.zero_le _⟩ d_Mod_grant_140 (fun x9 f1 H1 locs1 v9 A9 B9 hp hM hm => ?_)
          obtain ⟨hx9, hv9, hA9, hB9⟩ := hp
          subst hx9
          rw [hv9, hA9, hB9] at hm
          refine W.eq (g2 := F0 m 143 ls _) rfl ?_
          refine md_vret C hr hlk hM hm d_Mod_grant_143 ?_
          have hfin : grE v A w np = (v1, A1) := by
            have hge : gm ≤ g := nI_leN (by omega) (by omega) hc25
            rw [← hval, if_pos hc10, show gm - g = 0 by omega]; rfl
          refine ⟨rfl, ?_, ?_, rfl⟩ <;> rw [grT, hfin, if_pos (Or.inr hc128)]
    · have hgn : g < gm := nI_ltN (by omega) (by omega) hc25
      have hpp : vp_in (plc v1 A1 (nI w) (A1 26 w)) 3600 := by rw [hg]; exact hpl g hgn
      refine lv_aload_n C.1 C.2.1 d_Mod_grant_28 rfl (lo_at hl 0 rfl) ?_
      refine lv_iload_n C.1 C.2.1 d_Mod_grant_29 rfl (lo_at hl 1 rfl) ?_
      refine lv_aload_n C.1 C.2.1 d_Mod_grant_30 rfl (lo_at hl 0 rfl) ?_
      refine md_get C hE hM hm 26 (Nat.le_of_ble_eq_true rfl) tw_808 rfl rfl d_Mod_grant_31 ?_
      refine lv_iload_n C.1 C.2.1 d_Mod_grant_34 rfl (lo_at hl 1 rfl) ?_
      refine md_ialdN C hE hM hm 26 rfl w rfl (show w < 6 by omega) d_Mod_grant_35 ?_
      refine md_callV C hE hM hm (k_Mod_placeOf l G o r _ _ _ _ _ (np := np) hnp h10) rfl tw_978 cy_Mod_placeOf ⟨(Nat.le_of_ble_eq_true rfl), (Nat.le_of_ble_eq_true rfl)⟩ rfl hl.1 rfl (Nat.le_of_ble_eq_true rfl) ⟨Nat.zero_le _, Nat.zero_le _⟩ d_Mod_grant_36 (fun x9 f1 H1 locs1 v9 A9 B9 hp hM hm => ?_)
      obtain ⟨hx9, hv9, hA9, hB9⟩ := hp
      subst hx9
      rw [hv9, hA9, hB9] at hm
      refine W.eq (g2 := F0 m 39 ls (_ :: _)) rfl ?_
      refine lo_istore C hl d_Mod_grant_39 (Nat.le_of_ble_eq_true rfl) rfl (fun ls hl => ?_)
      refine lv_aload_n C.1 C.2.1 d_Mod_grant_41 rfl (lo_at hl 0 rfl) ?_
      refine lv_iload_n C.1 C.2.1 d_Mod_grant_42 rfl (lo_at hl 1 rfl) ?_
      refine lv_aload_n C.1 C.2.1 d_Mod_grant_43 rfl (lo_at hl 0 rfl) ?_
      refine md_get C hE hM hm 20 (Nat.le_of_ble_eq_true rfl) tw_802 rfl rfl d_Mod_grant_44 ?_
      refine lv_iload C.1 C.2.1 d_Mod_grant_47 (lo_at hl 4 rfl) ?_
      refine md_iald C hE hM hm 20 rfl hpp d_Mod_grant_49 ?_
      refine lv_aload_n C.1 C.2.1 d_Mod_grant_50 rfl (lo_at hl 0 rfl) ?_
      refine md_get C hE hM hm 21 (Nat.le_of_ble_eq_true rfl) tw_803 rfl rfl d_Mod_grant_51 ?_
      refine lv_iload C.1 C.2.1 d_Mod_grant_54 (lo_at hl 4 rfl) ?_
      refine md_iald C hE hM hm 21 rfl hpp d_Mod_grant_56 ?_
      refine md_callV C hE hM hm (k_Mod_isFree l G o r _ _ _ _ _ _ (np := np) hnp h10 hok) rfl tw_1049 cy_Mod_isFree ⟨(Nat.le_of_ble_eq_true rfl), (Nat.le_of_ble_eq_true rfl)⟩ rfl hl.1 rfl (Nat.le_of_ble_eq_true rfl) ⟨Nat.zero_le _, Nat.zero_le _⟩ d_Mod_grant_57 (fun x9 f1 H1 locs1 v9 A9 B9 hp hM hm => ?_)
      obtain ⟨hx9, hv9, hA9, hB9⟩ := hp
      subst hx9
      rw [hv9, hA9, hB9] at hm
      refine W.eq (g2 := F0 m 60 ls (_ :: _)) rfl ?_
      refine lo_istore_n C hl d_Mod_grant_60 (Nat.le_of_ble_eq_true rfl) rfl (fun ls hl => ?_)
      refine lv_iload_n C.1 C.2.1 d_Mod_grant_61 rfl (lo_at hl 3 rfl) ?_
      refine lv_if_ne (tgt := 68) C.1 C.2.1 d_Mod_grant_62 (by decide) (fun hc62 => ?_) (fun hc62 => ?_)
      · replace hc62 := bz_1.mp hc62
        refine lv_aload_n C.1 C.2.1 d_Mod_grant_68 rfl (lo_at hl 0 rfl) ?_
        refine md_get C hE hM hm 26 (Nat.le_of_ble_eq_true rfl) tw_808 rfl rfl d_Mod_grant_69 ?_
        refine lv_iload_n C.1 C.2.1 d_Mod_grant_72 rfl (lo_at hl 1 rfl) ?_
        refine lv_dup2_11 C.1 C.2.1 d_Mod_grant_73 rfl rfl ?_
        refine md_ialdN C hE hM hm 26 rfl w rfl (show w < 6 by omega) d_Mod_grant_74 ?_
        refine lv_iconst (v := 1) C.1 C.2.1 d_Mod_grant_75 (by decide) ?_
        refine lv_iadd C.1 C.2.1 d_Mod_grant_76 ?_
        refine md_iastN C hE hM hm 26 rfl w rfl (show w < 6 by omega) d_Mod_grant_77 (fun f1 H1 locs1 hM hm => ?_)
        refine lv_aload_n C.1 C.2.1 d_Mod_grant_78 rfl (lo_at hl 0 rfl) ?_
        refine W.join (I := fun z => z = mx (A1 21 (ix (plc v1 A1 (nI w) (A1 26 w)))) (v1 29)) (gf := fun z => F0 m 107 ls [.int z, .ref o]) (fun K107 => ?_) (fun z hz107 => ?_)
        · refine lv_aload_n C.1 C.2.1 d_Mod_grant_79 rfl (lo_at hl 0 rfl) ?_
          refine md_get C hE hM hm 21 (Nat.le_of_ble_eq_true rfl) tw_803 rfl rfl d_Mod_grant_80 ?_
          refine lv_iload C.1 C.2.1 d_Mod_grant_83 (lo_at hl 4 rfl) ?_
          refine md_iald C hE hM hm 21 rfl hpp d_Mod_grant_85 ?_
          refine lv_aload_n C.1 C.2.1 d_Mod_grant_86 rfl (lo_at hl 0 rfl) ?_
          refine md_get C hE hM hm 29 (Nat.le_of_ble_eq_true rfl) tw_811 rfl rfl d_Mod_grant_87 ?_
          refine lv_icmp_le (tgt := 103) C.1 C.2.1 d_Mod_grant_90 (by decide) (fun hc90 => ?_) (fun hc90 => ?_)
          · refine lv_aload_n C.1 C.2.1 d_Mod_grant_103 rfl (lo_at hl 0 rfl) ?_
            refine md_get C hE hM hm 29 (Nat.le_of_ble_eq_true rfl) tw_811 rfl rfl d_Mod_grant_104 ?_
            exact K107 _ (Eq.symm (if_pos (c := A1 21 (ix (plc v1 A1 (nI w) (A1 26 w))) ≤ v1 29) hc90))
          · refine lv_aload_n C.1 C.2.1 d_Mod_grant_93 rfl (lo_at hl 0 rfl) ?_
            refine md_get C hE hM hm 21 (Nat.le_of_ble_eq_true rfl) tw_803 rfl rfl d_Mod_grant_94 ?_
            refine lv_iload C.1 C.2.1 d_Mod_grant_97 (lo_at hl 4 rfl) ?_
            refine md_iald C hE hM hm 21 rfl hpp d_Mod_grant_99 ?_
            refine lv_goto (tgt := 107) C.1 C.2.1 d_Mod_grant_100 (by decide) ?_
            exact K107 _ (Eq.symm (if_neg (c := A1 21 (ix (plc v1 A1 (nI w) (A1 26 w))) ≤ v1 29) hc90))
        · subst hz107
          refine md_put C hE hM hm 29 (Nat.le_of_ble_eq_true rfl) tw_811 rfl rfl rfl rfl rfl d_Mod_grant_107 (fun f1 H1 locs1 hM hm => ?_)
          refine lv_goto (tgt := 9) C.1 C.2.1 d_Mod_grant_110 (by decide) ?_
          have h9 := hl
          rw [bz_t hc62] at h9
          exact ih9 (g + 1, true, upd v1 29 (mx (A1 21 (ix (plc v1 A1 (nI w) (A1 26 w)))) (v1 29)), va_up A1 26 (upd (A1 26) w (A1 26 w + 1)), ls, H1, locs1, f1) ⟨by omega, h10, h31, hok, by show upd (A1 26) w (A1 26 w + 1) w = _; rw [pk_us, hg, nI_1], hm27, fun i hi => (congrArg (fun z => vp_in z 3600) (plc_congr (v := v1) (A := A1) (v' := upd v1 29 (mx (A1 21 (ix (plc v1 A1 (nI w) (A1 26 w)))) (v1 29))) (A' := va_up A1 26 (upd (A1 26) w (A1 26 w + 1))) rfl rfl rfl rfl rfl (nI w) (nI i))).mpr (hpl i hi), by rw [← hval, if_pos hc10, if_pos rfl, show gm - g = (gm - (g + 1)) + 1 by omega, grL, if_pos hc62], lo_weak h9 ⟨rfl, rfl, rfl, rfl, trivial⟩, hM, hm⟩ (by show 2 * (gm - (g + 1)) + (if (true) = true then 1 else 0) < 2 * (gm - g) + (if q = true then 1 else 0); (simp only [if_true]; rw [if_pos hc10]; omega))
      · replace hc62 := bz_0.mp hc62
        refine lv_goto (tgt := 9) C.1 C.2.1 d_Mod_grant_65 (by decide) ?_
        have h9 := hl
        rw [bz_f hc62] at h9
        exact ih9 (g, false, v1, A1, ls, H1, locs1, f1) ⟨hgm, h10, h31, hok, hg, hm27, hpl, by rw [← hval, if_pos hc10, show gm - g = (gm - (g + 1)) + 1 by omega, grL, if_neg hc62]; rfl, lo_weak h9 ⟨rfl, rfl, rfl, rfl, trivial⟩, hM, hm⟩ (by show 2 * (gm - (g)) + (if (false) = true then 1 else 0) < 2 * (gm - g) + (if q = true then 1 else 0); (rw [if_pos hc10]; simp; done))
