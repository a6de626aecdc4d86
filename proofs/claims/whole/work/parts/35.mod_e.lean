/-- the tasks whose last move this is are finished -/
def goF (tk u : Int32) (w : Nat) : Nat → Nat → (Nat → Nat → Int32) → Nat → Nat → Int32
  | 0, _, A => A
  | n + 1, t, A => goF tk u w n (t + 1) (if A 13 t = u ∧ A 17 t = A 23 w then va_up A 18 (upd (A 18) t tk) else A)
def goA (v : Nat → Int32) (A : Nat → Nat → Int32) (w : Nat) : Nat → Nat → Int32 :=
  let A1 := va_up A 22 (upd (A 22) w (A 20 (ix (plc v A (nI w) (A 23 w)))))
  let A2 := goF (v 30) (nI w) w (ix (v 10)) 0 A1
  va_up A2 23 (upd (A2 23) w (A2 23 w + 1))
/-- another's move into the cell comes earlier, and isn't known to be over -/
abbrev blk (A : Nat → Nat → Int32) (c tm : Int32) (t k : Nat) : Prop := A 20 (ix (A 14 t + nI k)) = c ∧ ¬ tm ≤ A 21 (ix (A 14 t + nI k)) ∧ ¬ A 16 t + nI k + 1 < A 25 (ix (A 13 t))
def frI (A : Nat → Nat → Int32) (c tm : Int32) (t : Nat) : Nat → Nat → Bool
  | 0, _ => true
  | n + 1, k => if blk A c tm t k then false else frI A c tm t n (k + 1)
def frO (A : Nat → Nat → Int32) (u c tm : Int32) : Nat → Nat → Bool
  | 0, _ => true
  | n + 1, t => if A 13 t = u then frO A u c tm n (t + 1) else if frI A c tm t (ix (A 15 t)) 0 = true then frO A u c tm n (t + 1) else false
theorem vp_in_add {a b : Int32} {x y N : Nat} (ha : a = nI x) (hb : b = nI y) (h : x + y < N) (hN : N < 2147483648) : vp_in (a + b) N := by
  subst ha hb
  rw [nI_add]
  exact vp_in_nI h hN
/-- what the plans' tables hold -/
def plOk (A : Nat → Nat → Int32) (np : Nat) : Prop := ∀ t, t < np → ∃ a b w, A 14 t = nI a ∧ A 15 t = nI b ∧ a + b ≤ 3600 ∧ A 13 t = nI w ∧ w < 6
set_option maxHeartbeats 4000000 in
set_option maxRecDepth 100000 in
theorem k_Mod_go (l : Launch) (G : GG) (o : Nat) (r : Nat → Nat) (v : Nat → Int32) (A : Nat → Nat → Int32) (B : Nat → Nat → Int64) (w : Nat) {np : Nat} (hw : w < 6) (hnp : np ≤ 24) (h10 : v 10 = nI np) (hpl : vp_in (plc v A (nI w) (A 23 w)) 3600) : mct l G y_Mod_go c_Mod_go 3 none 1 23 [.ref o, .int (nI w)] o r v A B (fun x v1 A1 B1 => x = none ∧ v1 = v ∧ A1 = goA v A w ∧ B1 = B) := by
  refine mct_intro (by decide) [some (.ref o), some (.int (nI w)), none] rfl rfl (Nat.le_of_ble_eq_true rfl) ?_
  intro p e s m below meth c ls P f C hr hlk hE hM hm hl
  refine lv_aload_n C.1 C.2.1 d_Mod_go_0 rfl (lo_at hl 0 rfl) ?_
  refine md_get C hE hM hm 22 (Nat.le_of_ble_eq_true rfl) tw_804 rfl rfl d_Mod_go_1 ?_
  refine lv_iload_n C.1 C.2.1 d_Mod_go_4 rfl (lo_at hl 1 rfl) ?_
  refine lv_aload_n C.1 C.2.1 d_Mod_go_5 rfl (lo_at hl 0 rfl) ?_
  refine md_get C hE hM hm 20 (Nat.le_of_ble_eq_true rfl) tw_802 rfl rfl d_Mod_go_6 ?_
  refine lv_aload_n C.1 C.2.1 d_Mod_go_9 rfl (lo_at hl 0 rfl) ?_
  refine lv_iload_n C.1 C.2.1 d_Mod_go_10 rfl (lo_at hl 1 rfl) ?_
  refine lv_aload_n C.1 C.2.1 d_Mod_go_11 rfl (lo_at hl 0 rfl) ?_
  refine md_get C hE hM hm 23 (Nat.le_of_ble_eq_true rfl) tw_805 rfl rfl d_Mod_go_12 ?_
  refine lv_iload_n C.1 C.2.1 d_Mod_go_15 rfl (lo_at hl 1 rfl) ?_
  refine md_ialdN C hE hM hm 23 rfl w rfl (show w < 6 by omega) d_Mod_go_16 ?_
  refine md_callV C hE hM hm (k_Mod_placeOf l G o r _ _ _ _ _ (np := np) hnp h10) rfl tw_978 cy_Mod_placeOf ⟨(Nat.le_of_ble_eq_true rfl), (Nat.le_of_ble_eq_true rfl)⟩ rfl hl.1 rfl (Nat.le_of_ble_eq_true rfl) ⟨Nat.zero_le _, Nat.zero_le _⟩ d_Mod_go_17 (fun x9 f1 H1 locs1 v9 A9 B9 hp hM hm => ?_)
  obtain ⟨hx9, hv9, hA9, hB9⟩ := hp
  subst hx9
  rw [hv9, hA9, hB9] at hm
  refine W.eq (g2 := F0 m 20 ls (_ :: _)) rfl ?_
  refine md_iald C hE hM hm 20 rfl hpl d_Mod_go_20 ?_
  refine md_iastN C hE hM hm 22 rfl w rfl (show w < 6 by omega) d_Mod_go_21 (fun f1 H1 locs1 hM hm => ?_)
  refine lv_iconst (v := 0) C.1 C.2.1 d_Mod_go_22 (by decide) ?_
  refine lo_istore_n C hl d_Mod_go_23 (Nat.le_of_ble_eq_true rfl) rfl (fun ls hl => ?_)
  refine W.loop (α := (Nat) × (Nat → Nat → Int32) × (Array Slot) × (Heap) × (List Loc) × (Nat → va_E)) (fun a => np - a.1) (fun a => (a.1 ≤ np) ∧ (goF (v 30) (nI w) w (np - a.1) a.1 a.2.1 = goF (v 30) (nI w) w np 0 (va_up A 22 (upd (A 22) w (A 20 (ix (plc v A (nI w) (A 23 w))))))) ∧ lo a.2.2.1 [some (.ref o), some (.int (nI w)), some (.int (nI a.1))] ∧ pgS G (pgA P s.heap.size) s.heap P a.2.2.2.2.2 a.2.2.2.1 a.2.2.2.2.1 ∧ mdS G o r P f a.2.2.2.2.2 (v) (a.2.1) (B)) (fun a => a.2.2.2.1) (fun a => a.2.2.2.2.1) (fun _ => 0) (fun _ => 0) (fun a => F0 m 24 a.2.2.1 []) ?_ (0, _, ls, H1, locs1, f1) ⟨Nat.zero_le _, rfl, lo_weak hl ⟨rfl, rfl, rfl, trivial⟩, hM, hm⟩
  rintro ⟨t, A1, ls, H1, locs1, f1⟩ ⟨htp, hval, hl, hM, hm⟩ ih24
  dsimp only at htp hval hl hM hm
  show W _ _ _ _ _ _ _ _ _ _ _ _ _ _ _ (F0 m 24 ls [])
  refine lv_iload_n C.1 C.2.1 d_Mod_go_24 rfl (lo_at hl 2 rfl) ?_
  refine lv_aload_n C.1 C.2.1 d_Mod_go_25 rfl (lo_at hl 0 rfl) ?_
  refine md_get (x := .int (v 10)) C hE hM hm 10 (Nat.le_of_ble_eq_true rfl) tw_792 rfl rfl d_Mod_go_26 ?_
  rw [h10]
  refine lv_icmp_ge (tgt := 73) C.1 C.2.1 d_Mod_go_29 (by decide) (fun hc29 => ?_) (fun hc29 => ?_)
  · have htn : t = np := Nat.le_antisymm htp (nI_leN (by omega) (by omega) hc29)
    refine lv_aload_n C.1 C.2.1 d_Mod_go_73 rfl (lo_at hl 0 rfl) ?_
    refine md_get C hE hM hm 23 (Nat.le_of_ble_eq_true rfl) tw_805 rfl rfl d_Mod_go_74 ?_
    refine lv_iload_n C.1 C.2.1 d_Mod_go_77 rfl (lo_at hl 1 rfl) ?_
    refine lv_dup2_11 C.1 C.2.1 d_Mod_go_78 rfl rfl ?_
    refine md_ialdN C hE hM hm 23 rfl w rfl (show w < 6 by omega) d_Mod_go_79 ?_
    refine lv_iconst (v := 1) C.1 C.2.1 d_Mod_go_80 (by decide) ?_
    refine lv_iadd C.1 C.2.1 d_Mod_go_81 ?_
    refine md_iastN C hE hM hm 23 rfl w rfl (show w < 6 by omega) d_Mod_go_82 (fun f1 H1 locs1 hM hm => ?_)
    refine md_vret C hr hlk hM hm d_Mod_go_83 ?_
    refine ⟨rfl, rfl, ?_, rfl⟩
    rw [goA, h10, show ix (nI np) = np from ix_nI (by omega), ← hval, show np - t = 0 by omega]; rfl
  · have htn : t < np := nI_ltN (by omega) (by omega) hc29
    refine lv_aload_n C.1 C.2.1 d_Mod_go_32 rfl (lo_at hl 0 rfl) ?_
    refine md_get C hE hM hm 13 (Nat.le_of_ble_eq_true rfl) tw_795 rfl rfl d_Mod_go_33 ?_
    refine lv_iload_n C.1 C.2.1 d_Mod_go_36 rfl (lo_at hl 2 rfl) ?_
    refine md_ialdN C hE hM hm 13 rfl t rfl (show t < 24 by omega) d_Mod_go_37 ?_
    refine lv_iload_n C.1 C.2.1 d_Mod_go_38 rfl (lo_at hl 1 rfl) ?_
    refine lv_icmp_ne (tgt := 67) C.1 C.2.1 d_Mod_go_39 (by decide) (fun hc39 => ?_) (fun hc39 => ?_)
    · refine lo_iinc C hl d_Mod_go_67 rfl rfl (fun ls hl => ?_)
      refine lv_goto (tgt := 24) C.1 C.2.1 d_Mod_go_70 (by decide) ?_
      have h9 := hl
      rw [nI_pl] at h9
      exact ih24 (t + 1, A1, ls, H1, locs1, f1) ⟨by omega, by rw [← hval, show np - t = (np - (t + 1)) + 1 by omega, goF, if_neg (fun z => hc39 z.1)], lo_weak h9 ⟨rfl, rfl, rfl, trivial⟩, hM, hm⟩ (by show np - (t + 1) < np - t; omega)
    · refine lv_aload_n C.1 C.2.1 d_Mod_go_42 rfl (lo_at hl 0 rfl) ?_
      refine md_get C hE hM hm 17 (Nat.le_of_ble_eq_true rfl) tw_799 rfl rfl d_Mod_go_43 ?_
      refine lv_iload_n C.1 C.2.1 d_Mod_go_46 rfl (lo_at hl 2 rfl) ?_
      refine md_ialdN C hE hM hm 17 rfl t rfl (show t < 24 by omega) d_Mod_go_47 ?_
      refine lv_aload_n C.1 C.2.1 d_Mod_go_48 rfl (lo_at hl 0 rfl) ?_
      refine md_get C hE hM hm 23 (Nat.le_of_ble_eq_true rfl) tw_805 rfl rfl d_Mod_go_49 ?_
      refine lv_iload_n C.1 C.2.1 d_Mod_go_52 rfl (lo_at hl 1 rfl) ?_
      refine md_ialdN C hE hM hm 23 rfl w rfl (show w < 6 by omega) d_Mod_go_53 ?_
      refine lv_icmp_ne (tgt := 67) C.1 C.2.1 d_Mod_go_54 (by decide) (fun hc54 => ?_) (fun hc54 => ?_)
      · refine lo_iinc C hl d_Mod_go_67 rfl rfl (fun ls hl => ?_)
        refine lv_goto (tgt := 24) C.1 C.2.1 d_Mod_go_70 (by decide) ?_
        have h9 := hl
        rw [nI_pl] at h9
        exact ih24 (t + 1, A1, ls, H1, locs1, f1) ⟨by omega, by rw [← hval, show np - t = (np - (t + 1)) + 1 by omega, goF, if_neg (fun z => hc54 z.2)], lo_weak h9 ⟨rfl, rfl, rfl, trivial⟩, hM, hm⟩ (by show np - (t + 1) < np - t; omega)
      · refine lv_aload_n C.1 C.2.1 d_Mod_go_57 rfl (lo_at hl 0 rfl) ?_
        refine md_get C hE hM hm 18 (Nat.le_of_ble_eq_true rfl) tw_800 rfl rfl d_Mod_go_58 ?_
        refine lv_iload_n C.1 C.2.1 d_Mod_go_61 rfl (lo_at hl 2 rfl) ?_
        refine lv_aload_n C.1 C.2.1 d_Mod_go_62 rfl (lo_at hl 0 rfl) ?_
        refine md_get (x := .int (v 30)) C hE hM hm 30 (Nat.le_of_ble_eq_true rfl) tw_812 rfl rfl d_Mod_go_63 ?_
        refine md_iastN C hE hM hm 18 rfl t rfl (show t < 24 by omega) d_Mod_go_66 (fun f1 H1 locs1 hM hm => ?_)
        refine lo_iinc C hl d_Mod_go_67 rfl rfl (fun ls hl => ?_)
        refine lv_goto (tgt := 24) C.1 C.2.1 d_Mod_go_70 (by decide) ?_
        have h9 := hl
        rw [nI_pl] at h9
        exact ih24 (t + 1, va_up A1 18 (upd (A1 18) t (v 30)), ls, H1, locs1, f1) ⟨by omega, by rw [← hval, show np - t = (np - (t + 1)) + 1 by omega, goF, if_pos ⟨hc39, hc54⟩], lo_weak h9 ⟨rfl, rfl, rfl, trivial⟩, hM, hm⟩ (by show np - (t + 1) < np - t; omega)
set_option maxHeartbeats 4000000 in
set_option maxRecDepth 100000 in
theorem k_Mod_isFree (l : Launch) (G : GG) (o : Nat) (r : Nat → Nat) (v : Nat → Int32) (A : Nat → Nat → Int32) (B : Nat → Nat → Int64) (u0 c0 t0 : Int32) {np : Nat} (hnp : np ≤ 24) (h10 : v 10 = nI np) (hok : plOk A np) : mct l G y_Mod_isFree c_Mod_isFree 8 (some .boolean) 0 0 [.ref o, .int u0, .int c0, .int t0] o r v A B (fun x v1 A1 B1 => x = some (.int (bz (frO A u0 c0 t0 np 0 = true))) ∧ v1 = v ∧ A1 = A ∧ B1 = B) := by
  refine mct_intro (by decide) [some (.ref o), some (.int u0), some (.int c0), some (.int t0), none, none, none, none] rfl rfl (Nat.le_of_ble_eq_true rfl) ?_
  intro p e s m below meth c ls P f C hr hlk hE hM hm hl
  refine lv_iconst (v := 0) C.1 C.2.1 d_Mod_isFree_0 (by decide) ?_
  refine lo_istore C hl d_Mod_isFree_1 (Nat.le_of_ble_eq_true rfl) rfl (fun ls hl => ?_)
  refine W.loop (α := (Nat) × (Array Slot)) (fun a => np - a.1) (fun a => (a.1 ≤ np) ∧ (frO A u0 c0 t0 (np - a.1) a.1 = frO A u0 c0 t0 np 0) ∧ lo a.2 [some (.ref o), some (.int u0), some (.int c0), some (.int t0), some (.int (nI a.1)), none, none, none]) (fun a => s.heap) (fun a => []) (fun _ => 0) (fun _ => 0) (fun a => F0 m 3 a.2 []) ?_ (0, ls) ⟨Nat.zero_le _, rfl, lo_weak hl ⟨rfl, rfl, rfl, rfl, rfl, trivial⟩⟩
  rintro ⟨t, ls⟩ ⟨htp, hval, hl⟩ ih3
  dsimp only at htp hval hl
  show W _ _ _ _ _ _ _ _ _ _ _ _ _ _ _ (F0 m 3 ls [])
  refine lv_iload C.1 C.2.1 d_Mod_isFree_3 (lo_at hl 4 rfl) ?_
  refine lv_aload_n C.1 C.2.1 d_Mod_isFree_5 rfl (lo_at hl 0 rfl) ?_
  refine md_get (x := .int (v 10)) C hE hM hm 10 (Nat.le_of_ble_eq_true rfl) tw_792 rfl rfl d_Mod_isFree_6 ?_
  rw [h10]
  refine lv_icmp_ge (tgt := 115) C.1 C.2.1 d_Mod_isFree_9 (by decide) (fun hc9 => ?_) (fun hc9 => ?_)
  · have htn : t = np := Nat.le_antisymm htp (nI_leN (by omega) (by omega) hc9)
    refine lv_iconst (v := 1) C.1 C.2.1 d_Mod_isFree_115 (by decide) ?_
    refine md_zret C hr hlk hM hm d_Mod_isFree_116 (by decide) ?_
    refine ⟨?_, rfl, rfl, rfl⟩
    rw [← hval, show np - t = 0 by omega]; rfl
  · have htn : t < np := nI_ltN (by omega) (by omega) hc9
    obtain ⟨ta, tb, tw, hta, htb, htab, htw, htw6⟩ := hok t htn
    refine lv_aload_n C.1 C.2.1 d_Mod_isFree_12 rfl (lo_at hl 0 rfl) ?_
    refine md_get C hE hM hm 13 (Nat.le_of_ble_eq_true rfl) tw_795 rfl rfl d_Mod_isFree_13 ?_
    refine lv_iload C.1 C.2.1 d_Mod_isFree_16 (lo_at hl 4 rfl) ?_
    refine md_ialdN C hE hM hm 13 rfl t rfl (show t < 24 by omega) d_Mod_isFree_18 ?_
    refine lo_istore C hl d_Mod_isFree_19 (Nat.le_of_ble_eq_true rfl) rfl (fun ls hl => ?_)
    refine lv_iload C.1 C.2.1 d_Mod_isFree_21 (lo_at hl 5 rfl) ?_
    refine lv_iload_n C.1 C.2.1 d_Mod_isFree_23 rfl (lo_at hl 1 rfl) ?_
    refine lv_icmp_ne (tgt := 30) C.1 C.2.1 d_Mod_isFree_24 (by decide) (fun hc24 => ?_) (fun hc24 => ?_)
    · refine lv_iconst (v := 0) C.1 C.2.1 d_Mod_isFree_30 (by decide) ?_
      refine lo_istore C hl d_Mod_isFree_31 (Nat.le_of_ble_eq_true rfl) rfl (fun ls hl => ?_)
      refine W.loop (α := (Nat) × (Array Slot)) (fun a => tb - a.1) (fun a => (a.1 ≤ tb) ∧ (frI A c0 t0 t (tb - a.1) a.1 = frI A c0 t0 t tb 0) ∧ lo a.2 [some (.ref o), some (.int u0), some (.int c0), some (.int t0), some (.int (nI t)), some (.int (A 13 t)), some (.int (nI a.1)), none]) (fun a => s.heap) (fun a => []) (fun _ => 0) (fun _ => 0) (fun a => F0 m 33 a.2 []) ?_ (0, ls) ⟨Nat.zero_le _, rfl, lo_weak hl ⟨rfl, rfl, rfl, rfl, rfl, rfl, rfl, trivial⟩⟩
      rintro ⟨k, ls⟩ ⟨hkp, hvi, hl⟩ ih33
      dsimp only at hkp hvi hl
      show W _ _ _ _ _ _ _ _ _ _ _ _ _ _ _ (F0 m 33 ls [])
      refine lv_iload C.1 C.2.1 d_Mod_isFree_33 (lo_at hl 6 rfl) ?_
      refine lv_aload_n C.1 C.2.1 d_Mod_isFree_35 rfl (lo_at hl 0 rfl) ?_
      refine md_get C hE hM hm 15 (Nat.le_of_ble_eq_true rfl) tw_797 rfl rfl d_Mod_isFree_36 ?_
      refine lv_iload C.1 C.2.1 d_Mod_isFree_39 (lo_at hl 4 rfl) ?_
      refine md_ialdN C hE hM hm 15 rfl t rfl (show t < 24 by omega) d_Mod_isFree_41 ?_
      rw [htb]
      refine lv_icmp_ge (tgt := 109) C.1 C.2.1 d_Mod_isFree_42 (by decide) (fun hc42 => ?_) (fun hc42 => ?_)
      · refine lo_iinc C hl d_Mod_isFree_109 rfl rfl (fun ls hl => ?_)
        refine lv_goto (tgt := 3) C.1 C.2.1 d_Mod_isFree_112 (by decide) ?_
        have h9 := hl
        rw [nI_pl] at h9
        exact ih3 (t + 1, ls) ⟨by omega, by rw [← hval, show np - t = (np - (t + 1)) + 1 by omega, frO, if_neg hc24, if_pos (by rw [htb, show ix (nI tb) = tb from ix_nI (by omega), ← hvi, show tb - k = 0 by (have := nI_leN (by omega) (by omega) hc42; omega)]; rfl)], lo_weak h9 ⟨rfl, rfl, rfl, rfl, rfl, trivial⟩⟩ (by show np - (t + 1) < np - t; omega)
      · have hkn : k < tb := nI_ltN (by omega) (by omega) hc42
        refine lv_aload_n C.1 C.2.1 d_Mod_isFree_45 rfl (lo_at hl 0 rfl) ?_
        refine md_get C hE hM hm 14 (Nat.le_of_ble_eq_true rfl) tw_796 rfl rfl d_Mod_isFree_46 ?_
        refine lv_iload C.1 C.2.1 d_Mod_isFree_49 (lo_at hl 4 rfl) ?_
        refine md_ialdN C hE hM hm 14 rfl t rfl (show t < 24 by omega) d_Mod_isFree_51 ?_
        refine lv_iload C.1 C.2.1 d_Mod_isFree_52 (lo_at hl 6 rfl) ?_
        refine lv_iadd C.1 C.2.1 d_Mod_isFree_54 ?_
        refine lo_istore C hl d_Mod_isFree_55 (Nat.le_of_ble_eq_true rfl) rfl (fun ls hl => ?_)
        refine lv_aload_n C.1 C.2.1 d_Mod_isFree_57 rfl (lo_at hl 0 rfl) ?_
        refine md_get C hE hM hm 20 (Nat.le_of_ble_eq_true rfl) tw_802 rfl rfl d_Mod_isFree_58 ?_
        refine lv_iload C.1 C.2.1 d_Mod_isFree_61 (lo_at hl 7 rfl) ?_
        refine md_iald C hE hM hm 20 rfl (vp_in_add (N := 3600) hta rfl (by omega) (by decide)) d_Mod_isFree_63 ?_
        refine lv_iload_n C.1 C.2.1 d_Mod_isFree_64 rfl (lo_at hl 2 rfl) ?_
        refine lv_icmp_ne (tgt := 103) C.1 C.2.1 d_Mod_isFree_65 (by decide) (fun hc65 => ?_) (fun hc65 => ?_)
        · refine lo_iinc C hl d_Mod_isFree_103 rfl rfl (fun ls hl => ?_)
          refine lv_goto (tgt := 33) C.1 C.2.1 d_Mod_isFree_106 (by decide) ?_
          have h9 := hl
          rw [nI_pl] at h9
          exact ih33 (k + 1, ls) ⟨by omega, by rw [← hvi, show tb - k = (tb - (k + 1)) + 1 by omega, frI, if_neg (by rintro ⟨z1, z2, z3⟩; exact hc65 z1)], lo_weak h9 ⟨rfl, rfl, rfl, rfl, rfl, rfl, rfl, trivial⟩⟩ (by show tb - (k + 1) < tb - k; omega)
        · refine lv_aload_n C.1 C.2.1 d_Mod_isFree_68 rfl (lo_at hl 0 rfl) ?_
          refine md_get C hE hM hm 21 (Nat.le_of_ble_eq_true rfl) tw_803 rfl rfl d_Mod_isFree_69 ?_
          refine lv_iload C.1 C.2.1 d_Mod_isFree_72 (lo_at hl 7 rfl) ?_
          refine md_iald C hE hM hm 21 rfl (vp_in_add (N := 3600) hta rfl (by omega) (by decide)) d_Mod_isFree_74 ?_
          refine lv_iload_n C.1 C.2.1 d_Mod_isFree_75 rfl (lo_at hl 3 rfl) ?_
          refine lv_icmp_ge (tgt := 103) C.1 C.2.1 d_Mod_isFree_76 (by decide) (fun hc76 => ?_) (fun hc76 => ?_)
          · refine lo_iinc C hl d_Mod_isFree_103 rfl rfl (fun ls hl => ?_)
            refine lv_goto (tgt := 33) C.1 C.2.1 d_Mod_isFree_106 (by decide) ?_
            have h9 := hl
            rw [nI_pl] at h9
            exact ih33 (k + 1, ls) ⟨by omega, by rw [← hvi, show tb - k = (tb - (k + 1)) + 1 by omega, frI, if_neg (by rintro ⟨z1, z2, z3⟩; exact z2 hc76)], lo_weak h9 ⟨rfl, rfl, rfl, rfl, rfl, rfl, rfl, trivial⟩⟩ (by show tb - (k + 1) < tb - k; omega)
          · refine lv_aload_n C.1 C.2.1 d_Mod_isFree_79 rfl (lo_at hl 0 rfl) ?_
            refine md_get C hE hM hm 25 (Nat.le_of_ble_eq_true rfl) tw_807 rfl rfl d_Mod_isFree_80 ?_
            refine lv_iload C.1 C.2.1 d_Mod_isFree_83 (lo_at hl 5 rfl) ?_
            refine md_iald C hE hM hm 25 rfl (by rw [htw]; exact vp_in_nI htw6 (by decide)) d_Mod_isFree_85 ?_
            refine lv_aload_n C.1 C.2.1 d_Mod_isFree_86 rfl (lo_at hl 0 rfl) ?_
            refine md_get C hE hM hm 16 (Nat.le_of_ble_eq_true rfl) tw_798 rfl rfl d_Mod_isFree_87 ?_
            refine lv_iload C.1 C.2.1 d_Mod_isFree_90 (lo_at hl 4 rfl) ?_
            refine md_ialdN C hE hM hm 16 rfl t rfl (show t < 24 by omega) d_Mod_isFree_92 ?_
            refine lv_iload C.1 C.2.1 d_Mod_isFree_93 (lo_at hl 6 rfl) ?_
            refine lv_iadd C.1 C.2.1 d_Mod_isFree_95 ?_
            refine lv_iconst (v := 1) C.1 C.2.1 d_Mod_isFree_96 (by decide) ?_
            refine lv_iadd C.1 C.2.1 d_Mod_isFree_97 ?_
            refine lv_icmp_gt (tgt := 103) C.1 C.2.1 d_Mod_isFree_98 (by decide) (fun hc98 => ?_) (fun hc98 => ?_)
            · refine lo_iinc C hl d_Mod_isFree_103 rfl rfl (fun ls hl => ?_)
              refine lv_goto (tgt := 33) C.1 C.2.1 d_Mod_isFree_106 (by decide) ?_
              have h9 := hl
              rw [nI_pl] at h9
              exact ih33 (k + 1, ls) ⟨by omega, by rw [← hvi, show tb - k = (tb - (k + 1)) + 1 by omega, frI, if_neg (by rintro ⟨z1, z2, z3⟩; exact z3 hc98)], lo_weak h9 ⟨rfl, rfl, rfl, rfl, rfl, rfl, rfl, trivial⟩⟩ (by show tb - (k + 1) < tb - k; omega)
            · refine lv_iconst (v := 0) C.1 C.2.1 d_Mod_isFree_101 (by decide) ?_
              refine md_zret C hr hlk hM hm d_Mod_isFree_102 (by decide) ?_
              refine ⟨?_, rfl, rfl, rfl⟩
              rw [← hval, show np - t = (np - (t + 1)) + 1 by omega, frO, if_neg hc24, if_neg (by rw [htb, show ix (nI tb) = tb from ix_nI (by omega), ← hvi, show tb - k = (tb - (k + 1)) + 1 by omega, frI, if_pos ⟨hc65, hc76, hc98⟩]; decide)]; rfl
    · refine lv_goto (tgt := 109) C.1 C.2.1 d_Mod_isFree_27 (by decide) ?_
      refine lo_iinc C hl d_Mod_isFree_109 rfl rfl (fun ls hl => ?_)
      refine lv_goto (tgt := 3) C.1 C.2.1 d_Mod_isFree_112 (by decide) ?_
      have h9 := hl
      rw [nI_pl] at h9
      exact ih3 (t + 1, ls) ⟨by omega, by rw [← hval, show np - t = (np - (t + 1)) + 1 by omega, frO, if_pos hc24], lo_weak h9 ⟨rfl, rfl, rfl, rfl, rfl, trivial⟩⟩ (by show np - (t + 1) < np - t; omega)
