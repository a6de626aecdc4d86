def cn (K : Nat → Int32) (k : Int32) : Nat → Nat
  | 0 => 0
  | n + 1 => cn K k n + (if K n = k then 1 else 0)
theorem cn_le {K : Nat → Int32} {k : Int32} : ∀ n, cn K k n ≤ n := by
  intro n
  induction n with
  | zero => exact Nat.le_refl _
  | succ n ih => rw [cn]; split <;> omega
theorem cn_mono {K : Nat → Int32} {k : Int32} {a : Nat} : ∀ b, a ≤ b → cn K k a ≤ cn K k b := by
  intro b
  induction b with
  | zero => intro h; rw [show a = 0 by omega]; exact Nat.le_refl _
  | succ b ih =>
    intro h
    by_cases q : a = b + 1
    · rw [q]; exact Nat.le_refl _
    · rw [cn]; have := ih (by omega); omega
theorem nI_bz (n : Nat) (p : Prop) [Decidable p] : nI n + bz p = nI (n + (if p then 1 else 0)) := by
  by_cases h : p
  · rw [if_pos h, bz, if_pos h, nI_1]
  · rw [if_neg h, bz, if_neg h]; exact Int32.add_zero _
theorem inb_nI {n a b : Nat} (hn : n < 1000) (ha : a < 1000) (hb : b < 1000) : inb (nI n) (nI a) (nI b) ↔ (a ≤ n ∧ n ≤ b) := by
  unfold inb
  rw [nI_ltI (by omega) (by omega), nI_ltI (by omega) (by omega)]
  omega
/-- the map's two counts -/
def gdC (K : Nat → Int32) : Prop := (1 ≤ cn K 3 96 ∧ cn K 3 96 ≤ 6) ∧ (2 ≤ cn K 2 96 ∧ cn K 2 96 ≤ 16)
def gdE (K : Nat → Int32) (x : Nat) : Prop := K x < 2 ∨ ∀ d, d < 96 → (K d < 2 ∨ RE K x d)
/-- the map is good -/
def good (K : Nat → Int32) : Prop := gdC K ∧ ∀ x, x < 96 → gdE K x
set_option maxHeartbeats 4000000 in
set_option maxRecDepth 100000 in
theorem k_Mod_isGood (l : Launch) (G : GG) (o : Nat) (r : Nat → Nat) (v : Nat → Int32) (A : Nat → Nat → Int32) (B : Nat → Nat → Int64)   : mct l G y_Mod_isGood c_Mod_isGood 5 (some .boolean) 2 47 [.ref o] o r v A B (fun x v1 A1 B1 => ∃ z : Bool, x = some (.int (bz (z = true))) ∧ (z = true ↔ good (A 2)) ∧ v1 = v ∧ (∃ g pl, A1 = va_up (va_up A 7 g) 8 pl) ∧ B1 = B) := by
  refine mct_intro (by decide) [some (.ref o), none, none, none, none] rfl rfl (Nat.le_of_ble_eq_true rfl) ?_
  intro p e s m below meth c ls P f C hr hlk hE hM hm hl
  refine lv_iconst (v := 0) C.1 C.2.1 d_Mod_isGood_0 (by decide) ?_
  refine lo_istore_n C hl d_Mod_isGood_1 (Nat.le_of_ble_eq_true rfl) rfl (fun ls hl => ?_)
  refine lv_iconst (v := 0) C.1 C.2.1 d_Mod_isGood_2 (by decide) ?_
  refine lo_istore_n C hl d_Mod_isGood_3 (Nat.le_of_ble_eq_true rfl) rfl (fun ls hl => ?_)
  refine lv_iconst (v := 0) C.1 C.2.1 d_Mod_isGood_4 (by decide) ?_
  refine lo_istore_n C hl d_Mod_isGood_5 (Nat.le_of_ble_eq_true rfl) rfl (fun ls hl => ?_)
  refine W.loop (α := (Nat) × (Array Slot)) (fun a => 96 - a.1) (fun a => (a.1 ≤ 96) ∧ lo a.2 [some (.ref o), some (.int (nI (cn (A 2) 2 a.1))), some (.int (nI (cn (A 2) 3 a.1))), some (.int (nI a.1)), none]) (fun a => s.heap) (fun a => []) (fun _ => 0) (fun _ => 0) (fun a => F0 m 6 a.2 []) ?_ (0, ls) ⟨Nat.zero_le _, lo_weak hl ⟨rfl, rfl, rfl, rfl, trivial⟩⟩
  rintro ⟨k, ls⟩ ⟨hk, hl⟩ ih6
  dsimp only at hk hl
  show W _ _ _ _ _ _ _ _ _ _ _ _ _ _ _ (F0 m 6 ls [])
  refine lv_iload_n C.1 C.2.1 d_Mod_isGood_6 rfl (lo_at hl 3 rfl) ?_
  refine lv_bipush (v := 96) C.1 C.2.1 d_Mod_isGood_7 (by decide) ?_
  rw [show (96 : Int32) = nI 96 from rfl]
  refine lv_icmp_ge (tgt := 54) C.1 C.2.1 d_Mod_isGood_9 (by decide) (fun hc9 => ?_) (fun hc9 => ?_)
  · refine W.joinH hM hm (I := fun z => ∃ q : Bool, z = bz (q = true) ∧ (q = true ↔ gdC (A 2))) (gf := fun z => F0 m 79 ls [.int z]) (fun K79 => ?_) (fun z H1 locs1 f1 hz79 hM hm => ?_)
    · have hk9 : k = 96 := Nat.le_antisymm hk (nI_leN (by omega) (by omega) hc9)
      rw [hk9] at hl
      refine lv_iload_n C.1 C.2.1 d_Mod_isGood_54 rfl (lo_at hl 2 rfl) ?_
      refine lv_iconst (v := 1) C.1 C.2.1 d_Mod_isGood_55 (by decide) ?_
      refine lv_bipush (v := 6) C.1 C.2.1 d_Mod_isGood_56 (by decide) ?_
      have hcn3 := cn_le (K := A 2) (k := 3) 96
      have hcn2 := cn_le (K := A 2) (k := 2) 96
      refine md_callS C hE hM hm (k_Mod_in l G o r _ _ _ _ _ _) tw_912 cy_Mod_in ⟨(Nat.le_of_ble_eq_true rfl), (Nat.le_of_ble_eq_true rfl)⟩ rfl hl.1 rfl (Nat.le_of_ble_eq_true rfl) ⟨Nat.zero_le _, Nat.zero_le _⟩ d_Mod_isGood_58 (fun x9 f1 H1 locs1 v9 A9 B9 hp hM hm => ?_)
      obtain ⟨hx9, hv9, hA9, hB9⟩ := hp
      subst hx9
      rw [hv9, hA9, hB9] at hm
      refine W.eq (g2 := F0 m 61 ls (_ :: _)) rfl ?_
      refine lv_if_eq (tgt := 78) C.1 C.2.1 d_Mod_isGood_61 (by decide) (fun hc61 => ?_) (fun hc61 => ?_)
      · replace hc61 := bz_0.mp hc61
        refine lv_iconst (v := 0) C.1 C.2.1 d_Mod_isGood_78 (by decide) ?_
        exact K79 _ _ _ _ ⟨false, rfl, ⟨fun z => absurd z (by decide), fun z => absurd ((inb_nI (a := 1) (b := 6) (by omega) (by omega) (by omega)).mpr z.1) hc61⟩⟩ hM hm
      · replace hc61 := bz_1.mp hc61
        refine lv_iload_n C.1 C.2.1 d_Mod_isGood_64 rfl (lo_at hl 1 rfl) ?_
        refine lv_iconst (v := 2) C.1 C.2.1 d_Mod_isGood_65 (by decide) ?_
        refine lv_bipush (v := 16) C.1 C.2.1 d_Mod_isGood_66 (by decide) ?_
        refine md_callS C hE hM hm (k_Mod_in l G o r _ _ _ _ _ _) tw_912 cy_Mod_in ⟨(Nat.le_of_ble_eq_true rfl), (Nat.le_of_ble_eq_true rfl)⟩ rfl hl.1 rfl (Nat.le_of_ble_eq_true rfl) ⟨Nat.zero_le _, Nat.zero_le _⟩ d_Mod_isGood_68 (fun x9 f1 H1 locs1 v9 A9 B9 hp hM hm => ?_)
        obtain ⟨hx9, hv9, hA9, hB9⟩ := hp
        subst hx9
        rw [hv9, hA9, hB9] at hm
        refine W.eq (g2 := F0 m 71 ls (_ :: _)) rfl ?_
        refine lv_if_eq (tgt := 78) C.1 C.2.1 d_Mod_isGood_71 (by decide) (fun hc71 => ?_) (fun hc71 => ?_)
        · replace hc71 := bz_0.mp hc71
          refine lv_iconst (v := 0) C.1 C.2.1 d_Mod_isGood_78 (by decide) ?_
          exact K79 _ _ _ _ ⟨false, rfl, ⟨fun z => absurd z (by decide), fun z => absurd ((inb_nI (a := 2) (b := 16) (by omega) (by omega) (by omega)).mpr z.2) hc71⟩⟩ hM hm
        · replace hc71 := bz_1.mp hc71
          refine lv_iconst (v := 1) C.1 C.2.1 d_Mod_isGood_74 (by decide) ?_
          refine lv_goto (tgt := 79) C.1 C.2.1 d_Mod_isGood_75 (by decide) ?_
          exact K79 _ _ _ _ ⟨true, rfl, ⟨fun _ => ⟨(inb_nI (a := 1) (b := 6) (by omega) (by omega) (by omega)).mp hc61, (inb_nI (a := 2) (b := 16) (by omega) (by omega) (by omega)).mp hc71⟩, fun _ => rfl⟩⟩ hM hm
    · obtain ⟨q0, hz79, hq0⟩ := hz79
      subst hz79
      refine lo_istore_n C hl d_Mod_isGood_79 (Nat.le_of_ble_eq_true rfl) rfl (fun ls hl => ?_)
      refine lv_iconst (v := 0) C.1 C.2.1 d_Mod_isGood_80 (by decide) ?_
      refine lo_istore C hl d_Mod_isGood_81 (Nat.le_of_ble_eq_true rfl) rfl (fun ls hl => ?_)
      refine W.loop (α := (Nat) × (Bool) × (Nat → Int32) × (Nat → Int32) × (Array Slot) × (Heap) × (List Loc) × (Nat → va_E)) (fun a => 96 - a.1) (fun a => (a.1 ≤ 96) ∧ ((a.2.1 = true) ↔ (gdC (A 2) ∧ ∀ x, x < a.1 → gdE (A 2) x)) ∧ lo a.2.2.2.2.1 [some (.ref o), none, none, some (.int (bz (a.2.1 = true))), some (.int (nI a.1))] ∧ pgS G (pgA P s.heap.size) s.heap P a.2.2.2.2.2.2.2 a.2.2.2.2.2.1 a.2.2.2.2.2.2.1 ∧ mdS G o r P f a.2.2.2.2.2.2.2 (v) (va_up (va_up A 7 a.2.2.1) 8 a.2.2.2.1) (B)) (fun a => a.2.2.2.2.2.1) (fun a => a.2.2.2.2.2.2.1) (fun _ => 0) (fun _ => 0) (fun a => F0 m 83 a.2.2.2.2.1 []) ?_ (0, q0, A 7, A 8, ls, H1, locs1, f1) ⟨Nat.zero_le _, ⟨fun z => ⟨hq0.mp z, fun x hx => absurd hx (Nat.not_lt_zero _)⟩, fun z => hq0.mpr z.1⟩, lo_weak hl ⟨rfl, rfl, rfl, trivial⟩, hM, (by rw [va_up_id]; rw [show va_up A 8 (A 8) = A from va_up_id A 8]; exact hm)⟩
      rintro ⟨k, q, g, pl, ls, H1, locs1, f1⟩ ⟨hk, hq, hl, hM, hm⟩ ih83
      dsimp only at hk hq hl hM hm
      show W _ _ _ _ _ _ _ _ _ _ _ _ _ _ _ (F0 m 83 ls [])
      refine lv_iload C.1 C.2.1 d_Mod_isGood_83 (lo_at hl 4 rfl) ?_
      refine lv_bipush (v := 96) C.1 C.2.1 d_Mod_isGood_85 (by decide) ?_
      rw [show (96 : Int32) = nI 96 from rfl]
      refine lv_icmp_ge (tgt := 126) C.1 C.2.1 d_Mod_isGood_87 (by decide) (fun hc87 => ?_) (fun hc87 => ?_)
      · refine lv_iload_n C.1 C.2.1 d_Mod_isGood_126 rfl (lo_at hl 3 rfl) ?_
        refine md_zret C hr hlk hM hm d_Mod_isGood_127 bz_nar ?_
        refine ⟨q, rfl, ?_, rfl, ⟨g, pl, rfl⟩, rfl⟩
        have hk9 : k = 96 := Nat.le_antisymm hk (nI_leN (by omega) (by omega) hc87)
        rw [hq, hk9]; exact Iff.rfl
      · have hk9 : k < 96 := nI_ltN (by omega) (by omega) hc87
        refine lv_iload_n C.1 C.2.1 d_Mod_isGood_90 rfl (lo_at hl 3 rfl) ?_
        refine lv_if_eq (tgt := 126) C.1 C.2.1 d_Mod_isGood_91 (by decide) (fun hc91 => ?_) (fun hc91 => ?_)
        · replace hc91 := bz_0.mp hc91
          refine lv_iload_n C.1 C.2.1 d_Mod_isGood_126 rfl (lo_at hl 3 rfl) ?_
          refine md_zret C hr hlk hM hm d_Mod_isGood_127 bz_nar ?_
          refine ⟨q, rfl, ?_, rfl, ⟨g, pl, rfl⟩, rfl⟩
          exact ⟨fun z => absurd z hc91, fun z => absurd (hq.mpr ⟨z.1, fun x hx => z.2 x (by omega)⟩) hc91⟩
        · replace hc91 := bz_1.mp hc91
          refine lv_aload_n C.1 C.2.1 d_Mod_isGood_94 rfl (lo_at hl 0 rfl) ?_
          refine md_get C hE hM hm 2 (Nat.le_of_ble_eq_true rfl) tw_784 rfl rfl d_Mod_isGood_95 ?_
          refine lv_iload C.1 C.2.1 d_Mod_isGood_98 (lo_at hl 4 rfl) ?_
          refine md_ialdN C hE hM hm 2 rfl k rfl (show k < 96 by omega) d_Mod_isGood_100 ?_
          refine lv_iconst (v := 2) C.1 C.2.1 d_Mod_isGood_101 (by decide) ?_
          refine lv_icmp_lt (tgt := 114) C.1 C.2.1 d_Mod_isGood_102 (by decide) (fun hc102 => ?_) (fun hc102 => ?_)
          · refine lv_iconst (v := 1) C.1 C.2.1 d_Mod_isGood_114 (by decide) ?_
            refine lv_goto (tgt := 119) C.1 C.2.1 d_Mod_isGood_115 (by decide) ?_
            refine lo_istore_n C hl d_Mod_isGood_119 (Nat.le_of_ble_eq_true rfl) rfl (fun ls hl => ?_)
            refine lo_iinc C hl d_Mod_isGood_120 rfl rfl (fun ls hl => ?_)
            refine lv_goto (tgt := 83) C.1 C.2.1 d_Mod_isGood_123 (by decide) ?_
            have hqn : (true = true) ↔ (gdC (A 2) ∧ ∀ x, x < k + 1 → gdE (A 2) x) := by
              have hok : gdE (A 2) k := Or.inl hc102
              exact ⟨fun _ => ⟨(hq.mp hc91).1, fun x hx => by by_cases e : x = k; (rw [e]; exact hok); (exact (hq.mp hc91).2 x (by omega))⟩, fun _ => rfl⟩
            have h9 := hl
            rw [nI_pl] at h9
            exact ih83 (k + 1, true, g, pl, ls, H1, locs1, f1) ⟨by (try dsimp only); omega, hqn, lo_weak h9 ⟨rfl, rfl, rfl, trivial⟩, hM, hm⟩ (by show 96 - (k + 1) < 96 - k; omega)
          · refine lv_aload_n C.1 C.2.1 d_Mod_isGood_105 rfl (lo_at hl 0 rfl) ?_
            refine lv_iload C.1 C.2.1 d_Mod_isGood_106 (lo_at hl 4 rfl) ?_
            refine md_callV C hE hM hm (k_Mod_leadsToAll l G o r v (va_up (va_up A 7 g) 8 pl) B k hk9) rfl tw_923 cy_Mod_leadsToAll ⟨(Nat.le_of_ble_eq_true rfl), (Nat.le_of_ble_eq_true rfl)⟩ rfl hl.1 rfl (Nat.le_of_ble_eq_true rfl) ⟨Nat.zero_le _, Nat.zero_le _⟩ d_Mod_isGood_108 (fun x9 f1 H1 locs1 v9 A9 B9 hp hM hm => ?_)
            obtain ⟨q2, hx9, hq9, hv9, ⟨g9, pl9, hA9⟩, hB9⟩ := hp
            subst hx9
            rw [hv9, hA9, hB9, up78, bx_uu] at hm
            refine W.eq (g2 := F0 m 111 ls (_ :: _)) rfl ?_
            refine lv_if_eq (tgt := 118) C.1 C.2.1 d_Mod_isGood_111 (by decide) (fun hc111 => ?_) (fun hc111 => ?_)
            · replace hc111 := bz_0.mp hc111
              refine lv_iconst (v := 0) C.1 C.2.1 d_Mod_isGood_118 (by decide) ?_
              refine lo_istore_n C hl d_Mod_isGood_119 (Nat.le_of_ble_eq_true rfl) rfl (fun ls hl => ?_)
              refine lo_iinc C hl d_Mod_isGood_120 rfl rfl (fun ls hl => ?_)
              refine lv_goto (tgt := 83) C.1 C.2.1 d_Mod_isGood_123 (by decide) ?_
              have hqn : (false = true) ↔ (gdC (A 2) ∧ ∀ x, x < k + 1 → gdE (A 2) x) := by
                exact ⟨fun z => absurd z (by decide), fun z => by rcases z.2 k (by omega) with h | h; exact absurd h hc102; exact absurd (hq9.mpr h) hc111⟩
              have h9 := hl
              rw [nI_pl] at h9
              exact ih83 (k + 1, false, g9, pl9, ls, H1, locs1, f1) ⟨by (try dsimp only); omega, hqn, lo_weak h9 ⟨rfl, rfl, rfl, trivial⟩, hM, hm⟩ (by show 96 - (k + 1) < 96 - k; omega)
            · replace hc111 := bz_1.mp hc111
              refine lv_iconst (v := 1) C.1 C.2.1 d_Mod_isGood_114 (by decide) ?_
              refine lv_goto (tgt := 119) C.1 C.2.1 d_Mod_isGood_115 (by decide) ?_
              refine lo_istore_n C hl d_Mod_isGood_119 (Nat.le_of_ble_eq_true rfl) rfl (fun ls hl => ?_)
              refine lo_iinc C hl d_Mod_isGood_120 rfl rfl (fun ls hl => ?_)
              refine lv_goto (tgt := 83) C.1 C.2.1 d_Mod_isGood_123 (by decide) ?_
              have hqn : (true = true) ↔ (gdC (A 2) ∧ ∀ x, x < k + 1 → gdE (A 2) x) := by
                have hok : gdE (A 2) k := Or.inr (hq9.mp hc111)
                exact ⟨fun _ => ⟨(hq.mp hc91).1, fun x hx => by by_cases e : x = k; (rw [e]; exact hok); (exact (hq.mp hc91).2 x (by omega))⟩, fun _ => rfl⟩
              have h9 := hl
              rw [nI_pl] at h9
              exact ih83 (k + 1, true, g9, pl9, ls, H1, locs1, f1) ⟨by (try dsimp only); omega, hqn, lo_weak h9 ⟨rfl, rfl, rfl, trivial⟩, hM, hm⟩ (by show 96 - (k + 1) < 96 - k; omega)
  · have hk9 : k < 96 := nI_ltN (by omega) (by omega) hc9
    refine lv_iload_n C.1 C.2.1 d_Mod_isGood_12 rfl (lo_at hl 1 rfl) ?_
    refine W.join (I := fun z => z = bz (A 2 k = 2)) (gf := fun z => F0 m 28 ls [.int z, .int (nI (cn (A 2) 2 k))]) (fun K28 => ?_) (fun z hz28 => ?_)
    · refine lv_aload_n C.1 C.2.1 d_Mod_isGood_13 rfl (lo_at hl 0 rfl) ?_
      refine md_get C hE hM hm 2 (Nat.le_of_ble_eq_true rfl) tw_784 rfl rfl d_Mod_isGood_14 ?_
      refine lv_iload_n C.1 C.2.1 d_Mod_isGood_17 rfl (lo_at hl 3 rfl) ?_
      refine md_ialdN C hE hM hm 2 rfl k rfl (show k < 96 by omega) d_Mod_isGood_18 ?_
      refine lv_iconst (v := 2) C.1 C.2.1 d_Mod_isGood_19 (by decide) ?_
      refine lv_icmp_ne (tgt := 27) C.1 C.2.1 d_Mod_isGood_20 (by decide) (fun hc20 => ?_) (fun hc20 => ?_)
      · refine lv_iconst (v := 0) C.1 C.2.1 d_Mod_isGood_27 (by decide) ?_
        exact K28 _ (by simp [bz, hc20])
      · refine lv_iconst (v := 1) C.1 C.2.1 d_Mod_isGood_23 (by decide) ?_
        refine lv_goto (tgt := 28) C.1 C.2.1 d_Mod_isGood_24 (by decide) ?_
        exact K28 _ (by simp [bz, hc20])
    · refine lv_iadd C.1 C.2.1 d_Mod_isGood_28 ?_
      rw [hz28, nI_bz, show cn (A 2) 2 k + (if A 2 k = 2 then 1 else 0) = cn (A 2) 2 (k + 1) from rfl]
      refine lo_istore_n C hl d_Mod_isGood_29 (Nat.le_of_ble_eq_true rfl) rfl (fun ls hl => ?_)
      refine lv_iload_n C.1 C.2.1 d_Mod_isGood_30 rfl (lo_at hl 2 rfl) ?_
      refine W.join (I := fun z => z = bz (A 2 k = 3)) (gf := fun z => F0 m 46 ls [.int z, .int (nI (cn (A 2) 3 k))]) (fun K46 => ?_) (fun z hz46 => ?_)
      · refine lv_aload_n C.1 C.2.1 d_Mod_isGood_31 rfl (lo_at hl 0 rfl) ?_
        refine md_get C hE hM hm 2 (Nat.le_of_ble_eq_true rfl) tw_784 rfl rfl d_Mod_isGood_32 ?_
        refine lv_iload_n C.1 C.2.1 d_Mod_isGood_35 rfl (lo_at hl 3 rfl) ?_
        refine md_ialdN C hE hM hm 2 rfl k rfl (show k < 96 by omega) d_Mod_isGood_36 ?_
        refine lv_iconst (v := 3) C.1 C.2.1 d_Mod_isGood_37 (by decide) ?_
        refine lv_icmp_ne (tgt := 45) C.1 C.2.1 d_Mod_isGood_38 (by decide) (fun hc38 => ?_) (fun hc38 => ?_)
        · refine lv_iconst (v := 0) C.1 C.2.1 d_Mod_isGood_45 (by decide) ?_
          exact K46 _ (by simp [bz, hc38])
        · refine lv_iconst (v := 1) C.1 C.2.1 d_Mod_isGood_41 (by decide) ?_
          refine lv_goto (tgt := 46) C.1 C.2.1 d_Mod_isGood_42 (by decide) ?_
          exact K46 _ (by simp [bz, hc38])
      · refine lv_iadd C.1 C.2.1 d_Mod_isGood_46 ?_
        rw [hz46, nI_bz, show cn (A 2) 3 k + (if A 2 k = 3 then 1 else 0) = cn (A 2) 3 (k + 1) from rfl]
        refine lo_istore_n C hl d_Mod_isGood_47 (Nat.le_of_ble_eq_true rfl) rfl (fun ls hl => ?_)
        refine lo_iinc C hl d_Mod_isGood_48 rfl rfl (fun ls hl => ?_)
        refine lv_goto (tgt := 6) C.1 C.2.1 d_Mod_isGood_51 (by decide) ?_
        have h9 := hl
        rw [nI_pl] at h9
        exact ih6 (k + 1, ls) ⟨by (try dsimp only); omega, lo_weak h9 ⟨rfl, rfl, rfl, rfl, trivial⟩⟩ (by show 96 - (k + 1) < 96 - k; omega)
