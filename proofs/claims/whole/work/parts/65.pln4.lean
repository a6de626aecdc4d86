/-! the way that is followed -/
def nbC (c w : Int32) : Int32 := if w = 0 then (if c / 12 ≤ 0 then -1 else c - 12) else if w = 1 then (if 11 ≤ c - c / 12 * 12 then -1 else c + 1) else if w = 2 then (if 7 ≤ c / 12 then -1 else c + 12) else if w = 3 then (if c - c / 12 * 12 ≤ 0 then -1 else c - 1) else -1
theorem nbC_all : ∀ c : Fin 96, ∀ w : Fin 4, nbC (nI c.val) (nI w.val) = on (nbq c.val w.val) := by decide +kernel
theorem nbC_on {c w : Nat} (hc : c < 96) (hw : w < 4) : nbC (nI c) (nI w) = on (nbq c w) := nbC_all ⟨c, hc⟩ ⟨w, hw⟩
set_option maxHeartbeats 4000000 in
set_option maxRecDepth 100000 in
theorem k_FF_neighbour (l : Launch) (G : GG) {P : List Nat} {f : Nat → va_E} (c0 w0 : Int32)  : ct0 l G y_FF_neighbour c_FF_neighbour 4 (some .int) 0 0 [.int c0, .int w0] P f (fun x f1 => x = some (.int (nbC c0 w0)) ∧ f1 = f) := by
  refine ct_intro (by decide) [some (.int c0), some (.int w0), none, none] rfl rfl (Nat.le_of_ble_eq_true rfl) ?_
  intro p e s m below meth c ls C hr hlk hnm hE hM hl
  refine lv_iload_n C.1 C.2.1 d_FF_neighbour_0 rfl (lo_at hl 0 rfl) ?_
  refine lv_bipush (v := 12) C.1 C.2.1 d_FF_neighbour_1 (by decide) ?_
  refine lv_irem C.1 C.2.1 d_FF_neighbour_3 (by decide) ?_
  refine lo_istore_n C hl d_FF_neighbour_4 (Nat.le_of_ble_eq_true rfl) rfl (fun ls hl => ?_)
  refine lv_iload_n C.1 C.2.1 d_FF_neighbour_5 rfl (lo_at hl 0 rfl) ?_
  refine lv_bipush (v := 12) C.1 C.2.1 d_FF_neighbour_6 (by decide) ?_
  refine lv_idiv C.1 C.2.1 d_FF_neighbour_8 (by decide) ?_
  refine lo_istore_n C hl d_FF_neighbour_9 (Nat.le_of_ble_eq_true rfl) rfl (fun ls hl => ?_)
  refine lv_iload_n C.1 C.2.1 d_FF_neighbour_10 rfl (lo_at hl 1 rfl) ?_
  refine lv_topi (fun sx1 he1 => ?_)
  by_cases hs1_0 : sx1 = 0
  · subst hs1_0
    refine lv_tableIn (tgt := 40) C.1 C.2.1 d_FF_neighbour_11 (by decide) (by decide) rfl (by decide) ?_
    refine lv_iload_n C.1 C.2.1 d_FF_neighbour_40 rfl (lo_at hl 3 rfl) ?_
    refine lv_if_le (tgt := 51) C.1 C.2.1 d_FF_neighbour_41 (by decide) (fun hc41 => ?_) (fun hc41 => ?_)
    · refine lv_iconst (v := (-1)) C.1 C.2.1 d_FF_neighbour_51 (by decide) ?_
      refine cg_iret C hr hlk hM d_FF_neighbour_52 ?_
      subst he1; refine ⟨?_, rfl⟩; simp [nbC, hc41]
    · refine lv_iload_n C.1 C.2.1 d_FF_neighbour_44 rfl (lo_at hl 0 rfl) ?_
      refine lv_bipush (v := 12) C.1 C.2.1 d_FF_neighbour_45 (by decide) ?_
      refine lv_isub C.1 C.2.1 d_FF_neighbour_47 ?_
      refine lv_goto (tgt := 52) C.1 C.2.1 d_FF_neighbour_48 (by decide) ?_
      refine cg_iret C hr hlk hM d_FF_neighbour_52 ?_
      subst he1; refine ⟨?_, rfl⟩; simp [nbC, hc41]
  by_cases hs1_1 : sx1 = 1
  · subst hs1_1
    refine lv_tableIn (tgt := 53) C.1 C.2.1 d_FF_neighbour_11 (by decide) (by decide) rfl (by decide) ?_
    refine lv_iload_n C.1 C.2.1 d_FF_neighbour_53 rfl (lo_at hl 2 rfl) ?_
    refine lv_bipush (v := 11) C.1 C.2.1 d_FF_neighbour_54 (by decide) ?_
    refine lv_icmp_ge (tgt := 65) C.1 C.2.1 d_FF_neighbour_56 (by decide) (fun hc56 => ?_) (fun hc56 => ?_)
    · refine lv_iconst (v := (-1)) C.1 C.2.1 d_FF_neighbour_65 (by decide) ?_
      refine cg_iret C hr hlk hM d_FF_neighbour_66 ?_
      subst he1; refine ⟨?_, rfl⟩; simp [nbC, hs1_0, hc56]
    · refine lv_iload_n C.1 C.2.1 d_FF_neighbour_59 rfl (lo_at hl 0 rfl) ?_
      refine lv_iconst (v := 1) C.1 C.2.1 d_FF_neighbour_60 (by decide) ?_
      refine lv_iadd C.1 C.2.1 d_FF_neighbour_61 ?_
      refine lv_goto (tgt := 66) C.1 C.2.1 d_FF_neighbour_62 (by decide) ?_
      refine cg_iret C hr hlk hM d_FF_neighbour_66 ?_
      subst he1; refine ⟨?_, rfl⟩; simp [nbC, hs1_0, hc56]
  by_cases hs1_2 : sx1 = 2
  · subst hs1_2
    refine lv_tableIn (tgt := 67) C.1 C.2.1 d_FF_neighbour_11 (by decide) (by decide) rfl (by decide) ?_
    refine lv_iload_n C.1 C.2.1 d_FF_neighbour_67 rfl (lo_at hl 3 rfl) ?_
    refine lv_bipush (v := 7) C.1 C.2.1 d_FF_neighbour_68 (by decide) ?_
    refine lv_icmp_ge (tgt := 80) C.1 C.2.1 d_FF_neighbour_70 (by decide) (fun hc70 => ?_) (fun hc70 => ?_)
    · refine lv_iconst (v := (-1)) C.1 C.2.1 d_FF_neighbour_80 (by decide) ?_
      refine cg_iret C hr hlk hM d_FF_neighbour_81 ?_
      subst he1; refine ⟨?_, rfl⟩; simp [nbC, hs1_0, hs1_1, hc70]
    · refine lv_iload_n C.1 C.2.1 d_FF_neighbour_73 rfl (lo_at hl 0 rfl) ?_
      refine lv_bipush (v := 12) C.1 C.2.1 d_FF_neighbour_74 (by decide) ?_
      refine lv_iadd C.1 C.2.1 d_FF_neighbour_76 ?_
      refine lv_goto (tgt := 81) C.1 C.2.1 d_FF_neighbour_77 (by decide) ?_
      refine cg_iret C hr hlk hM d_FF_neighbour_81 ?_
      subst he1; refine ⟨?_, rfl⟩; simp [nbC, hs1_0, hs1_1, hc70]
  by_cases hs1_3 : sx1 = 3
  · subst hs1_3
    refine lv_tableIn (tgt := 82) C.1 C.2.1 d_FF_neighbour_11 (by decide) (by decide) rfl (by decide) ?_
    refine lv_iload_n C.1 C.2.1 d_FF_neighbour_82 rfl (lo_at hl 2 rfl) ?_
    refine lv_if_le (tgt := 92) C.1 C.2.1 d_FF_neighbour_83 (by decide) (fun hc83 => ?_) (fun hc83 => ?_)
    · refine lv_iconst (v := (-1)) C.1 C.2.1 d_FF_neighbour_92 (by decide) ?_
      refine cg_iret C hr hlk hM d_FF_neighbour_93 ?_
      subst he1; refine ⟨?_, rfl⟩; simp [nbC, hs1_0, hs1_1, hs1_2, hc83]
    · refine lv_iload_n C.1 C.2.1 d_FF_neighbour_86 rfl (lo_at hl 0 rfl) ?_
      refine lv_iconst (v := 1) C.1 C.2.1 d_FF_neighbour_87 (by decide) ?_
      refine lv_isub C.1 C.2.1 d_FF_neighbour_88 ?_
      refine lv_goto (tgt := 93) C.1 C.2.1 d_FF_neighbour_89 (by decide) ?_
      refine cg_iret C hr hlk hM d_FF_neighbour_93 ?_
      subst he1; refine ⟨?_, rfl⟩; simp [nbC, hs1_0, hs1_1, hs1_2, hc83]
  refine lv_tableOut (tgt := 94) C.1 C.2.1 d_FF_neighbour_11 (sw_out4 hs1_0 hs1_1 hs1_2 hs1_3) (by decide) ?_
  refine lv_iconst (v := (-1)) C.1 C.2.1 d_FF_neighbour_94 (by decide) ?_
  refine cg_iret C hr hlk hM d_FF_neighbour_95 ?_
  subst he1; refine ⟨?_, rfl⟩; simp [nbC, hs1_0, hs1_1, hs1_2, hs1_3]
/-- the lowest way that a mark allows -/
def lst (Y : Nat → Nat → Bool) (L : Nat → Nat → Nat) (p g : Nat) : Nat → Nat → Nat
  | 0, _ => p
  | n + 1, w => match nbq p w with
    | some z => if Y (L z g) z = true then z else lst Y L p g n (w + 1)
    | none => lst Y L p g n (w + 1)
theorem lst_some {Y : Nat → Nat → Bool} {L : Nat → Nat → Nat} {p g n w z : Nat} (h : nbq p w = some z) (hY : Y (L z g) z = true) : lst Y L p g (n + 1) w = z := by rw [lst]; simp [h, hY]
theorem lst_no {Y : Nat → Nat → Bool} {L : Nat → Nat → Nat} {p g n w z : Nat} (h : nbq p w = some z) (hY : ¬ Y (L z g) z = true) : lst Y L p g (n + 1) w = lst Y L p g n (w + 1) := by rw [lst]; simp [h, hY]
theorem lst_none {Y : Nat → Nat → Bool} {L : Nat → Nat → Nat} {p g n w : Nat} (h : nbq p w = none) : lst Y L p g (n + 1) w = lst Y L p g n (w + 1) := by rw [lst]; simp [h]
theorem lst_lt {Y : Nat → Nat → Bool} {L : Nat → Nat → Nat} {p g : Nat} (hp : p < 96) : ∀ n w, n + w ≤ 4 → lst Y L p g n w < 96 := by
  intro n
  induction n with
  | zero => intro w _; exact hp
  | succ n ih =>
    intro w hw
    cases e : nbq p w with
    | none => rw [lst_none e]; exact ih (w + 1) (by omega)
    | some z =>
      by_cases h : Y (L z g) z = true
      · rw [lst_some e h]; exact nbq_lt hp (by omega) e
      · rw [lst_no e h]; exact ih (w + 1) (by omega)
theorem on_m1 {q : Option Nat} (h : ∀ z, q = some z → z < 96) : on q = -1 ↔ q = none := by
  cases q with
  | none => simp [on]
  | some z =>
    have hz := h z rfl
    constructor
    · intro h1
      have h2 := congrArg Int32.toInt (show nI z = -1 from h1)
      rw [nI_toInt (by omega), show (-1 : Int32).toInt = -1 from by decide] at h2
      omega
    · intro h1; cases h1
set_option maxHeartbeats 4000000 in
set_option maxRecDepth 100000 in
theorem k_Pln_lowestStep (l : Launch) (G : GG) {P : List Nat} {f : Nat → va_E} {pl va : Nat} {da ca : Nat → Nat} {f0 : Nat → va_E} {S : Nat → Nat → Bool} {Wy F : Nat → Int32} (hP : pS G pl va da ca P f0 f S Wy F) (t p0 g : Nat) (ht : t < 151) (hp : p0 < 96) (hg : g < 3)  : ct0 l G y_Pln_lowestStep c_Pln_lowestStep 6 (some .int) 1 23 [.ref pl, .int (nI t), .int (nI p0), .int (nI g)] P f (fun x f1 => x = some (.int (nI (lst (fun h => S (309 + (t * 3 + h))) (lgN F) p0 g 4 0))) ∧ f1 = f) := by
  refine ct_intro (by decide) [some (.ref pl), some (.int (nI t)), some (.int (nI p0)), some (.int (nI g)), none, none] rfl rfl (Nat.le_of_ble_eq_true rfl) ?_
  intro p e s m below meth c ls C hr hlk hnm hE hM hl
  refine lv_iconst (v := 0) C.1 C.2.1 d_Pln_lowestStep_0 (by decide) ?_
  refine lo_istore C hl d_Pln_lowestStep_1 (Nat.le_of_ble_eq_true rfl) rfl (fun ls hl => ?_)
  refine W.loop (α := (Nat) × (Array Slot) × (Heap) × (List Loc)) (fun zz => 4 - zz.1) (fun zz => (zz.1 ≤ 4) ∧ (lst (fun h => S (309 + (t * 3 + h))) (lgN F) p0 g 4 0 = lst (fun h => S (309 + (t * 3 + h))) (lgN F) p0 g (4 - zz.1) zz.1) ∧ lo zz.2.1 [some (.ref pl), some (.int (nI t)), some (.int (nI p0)), some (.int (nI g)), some (.int (nI zz.1)), none] ∧ pgS G (pgA P s.heap.size) s.heap P f zz.2.2.1 zz.2.2.2) (fun zz => zz.2.2.1) (fun zz => zz.2.2.2) (fun zz => 0) (fun zz => 0) (fun zz => F0 m 3 zz.2.1 []) ?_ (0, ls, s.heap, []) ⟨Nat.zero_le _, rfl, lo_weak hl ⟨rfl, rfl, rfl, rfl, rfl, trivial⟩, hM⟩
  rintro ⟨w, ls, H1, locs1⟩ ⟨hw, hL, hl, hM⟩ ih3
  dsimp only at hw hL hl hM
  show W _ _ _ _ _ _ _ _ _ _ _ _ _ _ _ (F0 m 3 ls [])
  refine lv_iload C.1 C.2.1 d_Pln_lowestStep_3 (lo_at hl 4 rfl) ?_
  refine lv_iconst (v := 4) C.1 C.2.1 d_Pln_lowestStep_5 (by decide) ?_
  rw [show (4 : Int32) = nI 4 from rfl]
  refine lv_icmp_ge (tgt := 52) C.1 C.2.1 d_Pln_lowestStep_6 (by decide) (fun hc6 => ?_) (fun hc6 => ?_)
  · have hw9 : w = 4 := Nat.le_antisymm hw (nI_leN (by omega) (by omega) hc6)
    refine lv_iload_n C.1 C.2.1 d_Pln_lowestStep_52 rfl (lo_at hl 2 rfl) ?_
    refine cg_iret C hr hlk hM d_Pln_lowestStep_53 ?_
    refine ⟨?_, rfl⟩
    rw [hL, hw9]; rfl
  · have hw9 : w < 4 := nI_ltN (by omega) (by omega) hc6
    refine lv_iload_n C.1 C.2.1 d_Pln_lowestStep_9 rfl (lo_at hl 2 rfl) ?_
    refine lv_iload C.1 C.2.1 d_Pln_lowestStep_10 (lo_at hl 4 rfl) ?_
    refine cg_callSN C hE hM (k_FF_neighbour l G _ _) nw_739 cy_FF_neighbour ⟨(Nat.le_of_ble_eq_true rfl), (Nat.le_of_ble_eq_true rfl)⟩ rfl hl.1 rfl (Nat.le_of_ble_eq_true rfl) ⟨Nat.zero_le _, Nat.zero_le _⟩ d_Pln_lowestStep_12 (fun x9 f11 H1 locs1 hp hM => ?_)
    obtain ⟨rfl, h9⟩ := hp
    rw [h9] at hM
    clear h9
    refine W.eq (g2 := F0 m 15 ls [_]) rfl ?_
    rw [nbC_on hp hw9]
    refine lo_istore C hl d_Pln_lowestStep_15 (Nat.le_of_ble_eq_true rfl) rfl (fun ls hl => ?_)
    refine lv_iload C.1 C.2.1 d_Pln_lowestStep_17 (lo_at hl 5 rfl) ?_
    refine lv_iconst (v := (-1)) C.1 C.2.1 d_Pln_lowestStep_19 (by decide) ?_
    refine lv_icmp_eq (tgt := 46) C.1 C.2.1 d_Pln_lowestStep_20 (by decide) (fun hc20 => ?_) (fun hc20 => ?_)
    · refine lo_iinc C hl d_Pln_lowestStep_46 rfl rfl (fun ls hl => ?_)
      refine lv_goto (tgt := 3) C.1 C.2.1 d_Pln_lowestStep_49 (by decide) ?_
      have hno : nbq p0 w = none := (on_m1 (fun z h => nbq_lt hp (by omega) h)).mp hc20
      have hLn : lst (fun h => S (309 + (t * 3 + h))) (lgN F) p0 g 4 0 = lst (fun h => S (309 + (t * 3 + h))) (lgN F) p0 g (4 - (w + 1)) (w + 1) := by rw [hL, show 4 - w = (4 - (w + 1)) + 1 by omega, lst_none hno]
      have h9 := hl
      rw [nI_pl] at h9
      exact ih3 (w + 1, ls, H1, locs1) ⟨by (try dsimp only); omega, hLn, lo_weak h9 ⟨rfl, rfl, rfl, rfl, rfl, trivial⟩, hM⟩ (by show 4 - (w + 1) < 4 - w; omega)
    · obtain ⟨z, hz⟩ : ∃ z, nbq p0 w = some z := by
        cases q : nbq p0 w with
        | none => rw [q] at hc20; exact absurd rfl hc20
        | some z => exact ⟨z, rfl⟩
      have hz96 := nbq_lt hp (by omega) hz
      have hlg := lgN_lt (F := F) (z := z) hg
      have hl := hl
      rw [hz] at hl
      change lo ls _ at hl
      refine lv_aload_n C.1 C.2.1 d_Pln_lowestStep_23 rfl (lo_at hl 0 rfl) ?_
      refine lv_iload_n C.1 C.2.1 d_Pln_lowestStep_24 rfl (lo_at hl 1 rfl) ?_
      refine lv_aload_n C.1 C.2.1 d_Pln_lowestStep_25 rfl (lo_at hl 0 rfl) ?_
      refine lv_iload C.1 C.2.1 d_Pln_lowestStep_26 (lo_at hl 5 rfl) ?_
      refine lv_iload_n C.1 C.2.1 d_Pln_lowestStep_28 rfl (lo_at hl 3 rfl) ?_
      refine cg_callV C hE hM (k_Pln_legAt l G hP z g hg) hP.1.1 hP.2.2.1.1 rfl tw_742 cy_Pln_legAt ⟨(Nat.le_of_ble_eq_true rfl), (Nat.le_of_ble_eq_true rfl)⟩ rfl hl.1 rfl (Nat.le_of_ble_eq_true rfl) ⟨Nat.zero_le _, Nat.zero_le _⟩ d_Pln_lowestStep_29 (fun x9 f12 H1 locs1 hp hM => ?_)
      obtain ⟨rfl, h9⟩ := hp
      rw [h9] at hM
      clear h9
      refine W.eq (g2 := F0 m 32 ls [_, _, _]) rfl ?_
      refine cg_callV C hE hM (k_Pln_at l G hP t (lgN F z g) (by omega) (lgN_lt hg)) hP.1.1 hP.2.2.1.1 rfl tw_700 cy_Pln_at ⟨(Nat.le_of_ble_eq_true rfl), (Nat.le_of_ble_eq_true rfl)⟩ rfl hl.1 rfl (Nat.le_of_ble_eq_true rfl) ⟨Nat.zero_le _, Nat.zero_le _⟩ d_Pln_lowestStep_32 (fun x9 f13 H1 locs1 hp hM => ?_)
      obtain ⟨rfl, h9⟩ := hp
      rw [h9] at hM
      clear h9
      refine W.eq (g2 := F0 m 35 ls [_]) rfl ?_
      refine lv_iload C.1 C.2.1 d_Pln_lowestStep_35 (lo_at hl 5 rfl) ?_
      obtain ⟨_, _, hc9, -⟩ := (hP.2.2.2.1 (309 + (t * 3 + lgN F z g)) (show 309 + (t * 3 + lgN F z g) < 762 by omega)).words
      refine cg_callV C hE hM (k_Cel_has l G (ca (309 + (t * 3 + lgN F z g))) _ (hP.1.2.2.1 (309 + (t * 3 + lgN F z g)) (show 309 + (t * 3 + lgN F z g) < 762 by omega)) (hP.2.2.2.1 (309 + (t * 3 + lgN F z g)) (show 309 + (t * 3 + lgN F z g) < 762 by omega)) z hz96) (hP.1.2.2.1 (309 + (t * 3 + lgN F z g)) (show 309 + (t * 3 + lgN F z g) < 762 by omega)) hc9 rfl tw_722 cy_Cel_has ⟨(Nat.le_of_ble_eq_true rfl), (Nat.le_of_ble_eq_true rfl)⟩ rfl hl.1 rfl (Nat.le_of_ble_eq_true rfl) ⟨Nat.zero_le _, Nat.zero_le _⟩ d_Pln_lowestStep_37 (fun x9 f14 H1 locs1 hp hM => ?_)
      obtain ⟨rfl, h9⟩ := hp
      rw [h9] at hM
      clear h9
      clear hc9
      refine W.eq (g2 := F0 m 40 ls [_]) rfl ?_
      refine lv_if_eq (tgt := 46) C.1 C.2.1 d_Pln_lowestStep_40 (by decide) (fun hc40 => ?_) (fun hc40 => ?_)
      · replace hc40 := bz_0.mp hc40
        refine lo_iinc C hl d_Pln_lowestStep_46 rfl rfl (fun ls hl => ?_)
        refine lv_goto (tgt := 3) C.1 C.2.1 d_Pln_lowestStep_49 (by decide) ?_
        have hLn : lst (fun h => S (309 + (t * 3 + h))) (lgN F) p0 g 4 0 = lst (fun h => S (309 + (t * 3 + h))) (lgN F) p0 g (4 - (w + 1)) (w + 1) := by rw [hL, show 4 - w = (4 - (w + 1)) + 1 by omega, lst_no hz hc40]
        have h9 := hl
        rw [nI_pl] at h9
        exact ih3 (w + 1, ls, H1, locs1) ⟨by (try dsimp only); omega, hLn, lo_weak h9 ⟨rfl, rfl, rfl, rfl, rfl, trivial⟩, hM⟩ (by show 4 - (w + 1) < 4 - w; omega)
      · replace hc40 := bz_1.mp hc40
        refine lv_iload C.1 C.2.1 d_Pln_lowestStep_43 (lo_at hl 5 rfl) ?_
        refine cg_iret C hr hlk hM d_Pln_lowestStep_45 ?_
        refine ⟨?_, rfl⟩
        rw [hL, show 4 - w = (4 - (w + 1)) + 1 by omega, lst_some hz hc40]; rfl
/-- the way: where, on which leg -/
def wf (X : Nat → Nat → Nat → Bool) (L : Nat → Nat → Nat) (pk : Nat) : Nat → Nat × Nat
  | 0 => (pk, 0)
  | t + 1 => (lst (X (t + 1)) L (wf X L pk t).1 (wf X L pk t).2 4 0, L (lst (X (t + 1)) L (wf X L pk t).1 (wf X L pk t).2 4 0) (wf X L pk t).2)
/-- when the second station is reached -/
def fnF (X : Nat → Nat → Nat → Bool) (L : Nat → Nat → Nat) (pk : Nat) : Nat → Int32
  | 0 => -1
  | t + 1 => if (wf X L pk (t + 1)).2 = 2 ∧ ¬ (wf X L pk t).2 = 2 then nI (t + 1) else fnF X L pk t
theorem wf_lt {X : Nat → Nat → Nat → Bool} {F : Nat → Int32} {pk : Nat} (hp : pk < 96) : ∀ t, (wf X (lgN F) pk t).1 < 96 ∧ (wf X (lgN F) pk t).2 < 3 := by
  intro t
  induction t with
  | zero => exact ⟨hp, Nat.zero_lt_succ _⟩
  | succ t ih => exact ⟨lst_lt ih.1 4 0 (by decide), lgN_lt ih.2⟩
theorem lgN_upd {F : Nat → Int32} {x : Int32} : lgN (upd F 4 x) = lgN F := rfl
theorem upd_uu {f : Nat → Int32} {k : Nat} {x y : Int32} : upd (upd f k x) k y = upd f k y := by
  funext j
  by_cases e : j = k
  · subst e; rw [pk_us, pk_us]
  · rw [pk_un e, pk_un e, pk_un e]
set_option maxHeartbeats 4000000 in
set_option maxRecDepth 100000 in
theorem k_Pln_follow (l : Launch) (G : GG) {P : List Nat} {f : Nat → va_E} {pl va : Nat} {da ca : Nat → Nat} {f0 : Nat → va_E} {S : Nat → Nat → Bool} {Wy F : Nat → Int32} (hP : pS G pl va da ca P f0 f S Wy F) (pk e0 : Nat) (hpk : pk < 96) (h2 : F 2 = nI pk) (h3 : F 3 = nI e0) (he1 : 1 ≤ e0) (he : e0 ≤ 150)  : ct0 l G y_Pln_follow c_Pln_follow 4 none 2 48 [.ref pl] P f (fun x f1 => x = none ∧ ∃ W1, (∀ i, i ≤ e0 → W1 i = nI (wf (rowX S) (lgN F) pk (i)).1) ∧ pS G pl va da ca P f0 f1 S W1 (upd F 4 (fnF (rowX S) (lgN F) pk (e0)))) := by
  refine ct_intro (by decide) [some (.ref pl), none, none, none] rfl rfl (Nat.le_of_ble_eq_true rfl) ?_
  intro p e s m below meth c ls C hr hlk hnm hE hM hl
  refine lv_aload_n C.1 C.2.1 d_Pln_follow_0 rfl (lo_at hl 0 rfl) ?_
  refine pg_get C hE hM hP.1.1 hP.2.2.1.1 rfl in_Pln 7 (Nat.le_of_ble_eq_true rfl) tw_536 rfl rfl d_Pln_follow_1 ?_
  refine lv_iconst (v := 0) C.1 C.2.1 d_Pln_follow_4 (by decide) ?_
  refine lv_aload_n C.1 C.2.1 d_Pln_follow_5 rfl (lo_at hl 0 rfl) ?_
  refine pg_get C hE hM hP.1.1 hP.2.2.1.1 rfl in_Pln 10 (Nat.le_of_ble_eq_true rfl) tw_539 rfl rfl d_Pln_follow_6 ?_
  rw [h2]
  refine cg_iast C hE hM (hP.1.2.1 3 (Nat.le_of_ble_eq_true rfl)) hP.2.2.1.2.2.2.2 (0) rfl (by omega) (Nat.le_of_ble_eq_true rfl) d_Pln_follow_9 (fun f11 H1 locs1 hf11 hM => ?_)
  have hP := hP.setw (Or.inr trivial) hf11
  refine lv_aload_n C.1 C.2.1 d_Pln_follow_10 rfl (lo_at hl 0 rfl) ?_
  refine lv_iconst (v := (-1)) C.1 C.2.1 d_Pln_follow_11 (by decide) ?_
  refine cg_put C hE hM hP.1.1 hP.2.2.1.1 rfl in_Pln ok_Pln n_Pln 12 (Nat.le_of_ble_eq_true rfl) tw_541 rfl rfl (fs' := plF va da ca (upd F 4 (-1))) rfl rfl rfl (Nat.le_of_ble_eq_true rfl) d_Pln_follow_12 (fun f12 H1 locs1 hf12 hM => ?_)
  have hP := hP.setf hf12
  refine lv_iconst (v := 0) C.1 C.2.1 d_Pln_follow_15 (by decide) ?_
  refine lo_istore_n C hl d_Pln_follow_16 (Nat.le_of_ble_eq_true rfl) rfl (fun ls hl => ?_)
  refine lv_iconst (v := 1) C.1 C.2.1 d_Pln_follow_17 (by decide) ?_
  refine lo_istore_n C hl d_Pln_follow_18 (Nat.le_of_ble_eq_true rfl) rfl (fun ls hl => ?_)
  refine W.loop (α := (Nat) × (Nat → Int32) × (Array Slot) × (Heap) × (List Loc) × (Nat → va_E)) (fun zz => e0 + 1 - zz.1) (fun zz => (1 ≤ zz.1) ∧ (zz.1 ≤ e0 + 1) ∧ (∀ i, i < zz.1 → zz.2.1 i = nI (wf (rowX S) (lgN F) pk (i)).1) ∧ (pS G pl va da ca P f0 zz.2.2.2.2.2 S zz.2.1 (upd F 4 (fnF (rowX S) (lgN F) pk (zz.1 - 1)))) ∧ lo zz.2.2.1 [some (.ref pl), some (.int (nI (wf (rowX S) (lgN F) pk (zz.1 - 1)).2)), some (.int (nI zz.1)), none] ∧ pgS G (pgA P s.heap.size) s.heap P zz.2.2.2.2.2 zz.2.2.2.1 zz.2.2.2.2.1) (fun zz => zz.2.2.2.1) (fun zz => zz.2.2.2.2.1) (fun zz => 0) (fun zz => 0) (fun zz => F0 m 19 zz.2.2.1 []) ?_ (1, upd Wy 0 (nI pk), ls, H1, locs1, f12) ⟨Nat.le_refl _, by (try dsimp only); omega, fun i hi => by have hi : i < 1 := hi; rw [show i = 0 by omega]; show upd Wy 0 (nI pk) 0 = nI pk; exact pk_us, hP, lo_weak hl ⟨rfl, rfl, rfl, trivial⟩, hM⟩
  rintro ⟨t, W1, ls, H1, locs1, f1⟩ ⟨h1t, ht, hW, hP, hl, hM⟩ ih19
  dsimp only at h1t ht hW hP hl hM
  show W _ _ _ _ _ _ _ _ _ _ _ _ _ _ _ (F0 m 19 ls [])
  refine lv_iload_n C.1 C.2.1 d_Pln_follow_19 rfl (lo_at hl 2 rfl) ?_
  refine lv_aload_n C.1 C.2.1 d_Pln_follow_20 rfl (lo_at hl 0 rfl) ?_
  refine pg_get C hE hM hP.1.1 hP.2.2.1.1 rfl in_Pln 11 (Nat.le_of_ble_eq_true rfl) tw_540 rfl rfl d_Pln_follow_21 ?_
  rw [show (upd F 4 (fnF (rowX S) (lgN F) pk (t - 1))) 3 = nI e0 from (pk_un (by decide)).trans h3]
  refine lv_icmp_gt (tgt := 91) C.1 C.2.1 d_Pln_follow_24 (by decide) (fun hc24 => ?_) (fun hc24 => ?_)
  · refine cg_vret C hr hlk hM d_Pln_follow_91 ?_
    refine ⟨rfl, W1, ?_, ?_⟩
    · intro i hi
      have : e0 < t := (nI_ltI (by omega) (by omega)).mp hc24
      exact hW i (by omega)
    · have : e0 < t := (nI_ltI (by omega) (by omega)).mp hc24
      rw [show t - 1 = e0 by omega] at hP
      exact hP
  · have ht9 : t ≤ e0 := Nat.le_of_not_lt (fun z => hc24 ((nI_ltI (by omega) (by omega)).mpr z))
    obtain ⟨hw1, hw2⟩ := wf_lt (X := rowX S) (F := F) hpk (t - 1)
    have hst : (wf (rowX S) (lgN F) pk (t)) = ((lst (fun h => S (309 + (t * 3 + h))) (lgN F) (wf (rowX S) (lgN F) pk (t - 1)).1 (wf (rowX S) (lgN F) pk (t - 1)).2 4 0), lgN F (lst (fun h => S (309 + (t * 3 + h))) (lgN F) (wf (rowX S) (lgN F) pk (t - 1)).1 (wf (rowX S) (lgN F) pk (t - 1)).2 4 0) (wf (rowX S) (lgN F) pk (t - 1)).2) := by
      obtain ⟨s, rfl⟩ : ∃ s, t = s + 1 := ⟨t - 1, by omega⟩
      rfl
    have hs1 : (lst (fun h => S (309 + (t * 3 + h))) (lgN F) (wf (rowX S) (lgN F) pk (t - 1)).1 (wf (rowX S) (lgN F) pk (t - 1)).2 4 0) = (wf (rowX S) (lgN F) pk (t)).1 := by rw [hst]
    have hs2 : lgN F (wf (rowX S) (lgN F) pk (t)).1 (wf (rowX S) (lgN F) pk (t - 1)).2 = (wf (rowX S) (lgN F) pk (t)).2 := by rw [hst]
    refine lv_iload_n C.1 C.2.1 d_Pln_follow_27 rfl (lo_at hl 2 rfl) ?_
    refine lv_aload_n C.1 C.2.1 d_Pln_follow_28 rfl (lo_at hl 0 rfl) ?_
    refine pg_get C hE hM hP.1.1 hP.2.2.1.1 rfl in_Pln 7 (Nat.le_of_ble_eq_true rfl) tw_536 rfl rfl d_Pln_follow_29 ?_
    refine pg_alen C hE hM (hP.1.2.1 3 (Nat.le_of_ble_eq_true rfl)) (t0 := 0) (Nat.le_of_ble_eq_true rfl) hP.2.2.1.2.2.2.2 d_Pln_follow_32 ?_
    refine lv_icmp_ge (tgt := 91) C.1 C.2.1 d_Pln_follow_33 (by decide) (fun hc33 => False.elim (by have := (nI_leI (a := 151) (b := t) (by decide) (by omega)).mp hc33; omega)) (fun hc33 => ?_)
    refine lv_aload_n C.1 C.2.1 d_Pln_follow_36 rfl (lo_at hl 0 rfl) ?_
    refine pg_get C hE hM hP.1.1 hP.2.2.1.1 rfl in_Pln 7 (Nat.le_of_ble_eq_true rfl) tw_536 rfl rfl d_Pln_follow_37 ?_
    refine lv_iload_n C.1 C.2.1 d_Pln_follow_40 rfl (lo_at hl 2 rfl) ?_
    refine lv_aload_n C.1 C.2.1 d_Pln_follow_41 rfl (lo_at hl 0 rfl) ?_
    refine lv_iload_n C.1 C.2.1 d_Pln_follow_42 rfl (lo_at hl 2 rfl) ?_
    refine lv_aload_n C.1 C.2.1 d_Pln_follow_43 rfl (lo_at hl 0 rfl) ?_
    refine pg_get C hE hM hP.1.1 hP.2.2.1.1 rfl in_Pln 7 (Nat.le_of_ble_eq_true rfl) tw_536 rfl rfl d_Pln_follow_44 ?_
    refine lv_iload_n C.1 C.2.1 d_Pln_follow_47 rfl (lo_at hl 2 rfl) ?_
    refine lv_iconst (v := 1) C.1 C.2.1 d_Pln_follow_48 (by decide) ?_
    refine lv_isub C.1 C.2.1 d_Pln_follow_49 ?_
    rw [show (1 : Int32) = nI 1 from rfl, pk_sub (by omega)]
    refine cg_iald C hE hM (hP.1.2.1 3 (Nat.le_of_ble_eq_true rfl)) hP.2.2.1.2.2.2.2 (t - 1) rfl (by omega) (Nat.le_of_ble_eq_true rfl) d_Pln_follow_50 ?_
    rw [hW (t - 1) (by omega)]
    refine lv_iload_n C.1 C.2.1 d_Pln_follow_51 rfl (lo_at hl 1 rfl) ?_
    refine cg_callV C hE hM (k_Pln_lowestStep l G hP t (wf (rowX S) (lgN F) pk (t - 1)).1 (wf (rowX S) (lgN F) pk (t - 1)).2 (by omega) hw1 hw2) hP.1.1 hP.2.2.1.1 rfl tw_735 cy_Pln_lowestStep ⟨(Nat.le_of_ble_eq_true rfl), (Nat.le_of_ble_eq_true rfl)⟩ rfl hl.1 rfl (Nat.le_of_ble_eq_true rfl) ⟨Nat.zero_le _, Nat.zero_le _⟩ d_Pln_follow_52 (fun x9 f13 H1 locs1 hp hM => ?_)
    obtain ⟨rfl, h9⟩ := hp
    rw [h9] at hM
    clear h9
    refine W.eq (g2 := F0 m 55 ls [_, _, _]) rfl ?_
    rw [lgN_upd, hs1]
    refine cg_iast C hE hM (hP.1.2.1 3 (Nat.le_of_ble_eq_true rfl)) hP.2.2.1.2.2.2.2 (t) rfl (by omega) (Nat.le_of_ble_eq_true rfl) d_Pln_follow_55 (fun f14 H1 locs1 hf14 hM => ?_)
    have hP := hP.setw (Or.inr trivial) hf14
    refine lv_aload_n C.1 C.2.1 d_Pln_follow_56 rfl (lo_at hl 0 rfl) ?_
    refine lv_aload_n C.1 C.2.1 d_Pln_follow_57 rfl (lo_at hl 0 rfl) ?_
    refine pg_get C hE hM hP.1.1 hP.2.2.1.1 rfl in_Pln 7 (Nat.le_of_ble_eq_true rfl) tw_536 rfl rfl d_Pln_follow_58 ?_
    refine lv_iload_n C.1 C.2.1 d_Pln_follow_61 rfl (lo_at hl 2 rfl) ?_
    refine cg_iald C hE hM (hP.1.2.1 3 (Nat.le_of_ble_eq_true rfl)) hP.2.2.1.2.2.2.2 (t) rfl (by omega) (Nat.le_of_ble_eq_true rfl) d_Pln_follow_62 ?_
    rw [pk_us]
    refine lv_iload_n C.1 C.2.1 d_Pln_follow_63 rfl (lo_at hl 1 rfl) ?_
    refine cg_callV C hE hM (k_Pln_legAt l G hP (wf (rowX S) (lgN F) pk (t)).1 (wf (rowX S) (lgN F) pk (t - 1)).2 hw2) hP.1.1 hP.2.2.1.1 rfl tw_742 cy_Pln_legAt ⟨(Nat.le_of_ble_eq_true rfl), (Nat.le_of_ble_eq_true rfl)⟩ rfl hl.1 rfl (Nat.le_of_ble_eq_true rfl) ⟨Nat.zero_le _, Nat.zero_le _⟩ d_Pln_follow_64 (fun x9 f15 H1 locs1 hp hM => ?_)
    obtain ⟨rfl, h9⟩ := hp
    rw [h9] at hM
    clear h9
    refine W.eq (g2 := F0 m 67 ls [_]) rfl ?_
    rw [lgN_upd, hs2]
    refine lo_istore_n C hl d_Pln_follow_67 (Nat.le_of_ble_eq_true rfl) rfl (fun ls hl => ?_)
    refine lv_iload_n C.1 C.2.1 d_Pln_follow_68 rfl (lo_at hl 3 rfl) ?_
    refine lv_iconst (v := 2) C.1 C.2.1 d_Pln_follow_69 (by decide) ?_
    rw [show (2 : Int32) = nI 2 from rfl]
    refine lv_icmp_ne (tgt := 83) C.1 C.2.1 d_Pln_follow_70 (by decide) (fun hc70 => ?_) (fun hc70 => ?_)
    · refine lv_iload_n C.1 C.2.1 d_Pln_follow_83 rfl (lo_at hl 3 rfl) ?_
      refine lo_istore_n C hl d_Pln_follow_84 (Nat.le_of_ble_eq_true rfl) rfl (fun ls hl => ?_)
      refine lo_iinc C hl d_Pln_follow_85 rfl rfl (fun ls hl => ?_)
      refine lv_goto (tgt := 19) C.1 C.2.1 d_Pln_follow_88 (by decide) ?_
      have hWn : ∀ i, i < t + 1 → (upd W1 t (nI (wf (rowX S) (lgN F) pk (t)).1)) i = nI (wf (rowX S) (lgN F) pk (i)).1 := fun i hi => by
        by_cases q : i = t
        · rw [q, pk_us]
        · rw [pk_un q]; exact hW i (by omega)
      have hb := wf_lt (X := rowX S) (F := F) hpk t
      have hfn : fnF (rowX S) (lgN F) pk t =  fnF (rowX S) (lgN F) pk (t - 1) := by
        obtain ⟨s, rfl⟩ : ∃ s, t = s + 1 := ⟨t - 1, by omega⟩
        rw [fnF, Nat.add_sub_cancel]
        rw [if_neg (fun h => hc70 (by rw [h.1]))]
      have hPn : pS G pl va da ca P f0 f14 S (upd W1 t (nI (wf (rowX S) (lgN F) pk (t)).1)) (upd F 4 (fnF (rowX S) (lgN F) pk (t + 1 - 1))) := by rw [Nat.add_sub_cancel, hfn]; exact hP
      have h9 := hl
      rw [nI_pl] at h9
      exact ih19 (t + 1, upd W1 t (nI (wf (rowX S) (lgN F) pk (t)).1), ls, H1, locs1, f14) ⟨by (try dsimp only); omega, by (try dsimp only); omega, hWn, hPn, lo_weak h9 ⟨rfl, rfl, rfl, trivial⟩, hM⟩ (by show e0 + 1 - (t + 1) < e0 + 1 - t; omega)
    · refine lv_iload_n C.1 C.2.1 d_Pln_follow_73 rfl (lo_at hl 1 rfl) ?_
      refine lv_iconst (v := 2) C.1 C.2.1 d_Pln_follow_74 (by decide) ?_
      rw [show (2 : Int32) = nI 2 from rfl]
      refine lv_icmp_eq (tgt := 83) C.1 C.2.1 d_Pln_follow_75 (by decide) (fun hc75 => ?_) (fun hc75 => ?_)
      · refine lv_iload_n C.1 C.2.1 d_Pln_follow_83 rfl (lo_at hl 3 rfl) ?_
        refine lo_istore_n C hl d_Pln_follow_84 (Nat.le_of_ble_eq_true rfl) rfl (fun ls hl => ?_)
        refine lo_iinc C hl d_Pln_follow_85 rfl rfl (fun ls hl => ?_)
        refine lv_goto (tgt := 19) C.1 C.2.1 d_Pln_follow_88 (by decide) ?_
        have hWn : ∀ i, i < t + 1 → (upd W1 t (nI (wf (rowX S) (lgN F) pk (t)).1)) i = nI (wf (rowX S) (lgN F) pk (i)).1 := fun i hi => by
          by_cases q : i = t
          · rw [q, pk_us]
          · rw [pk_un q]; exact hW i (by omega)
        have hb := wf_lt (X := rowX S) (F := F) hpk t
        have hfn : fnF (rowX S) (lgN F) pk t =  fnF (rowX S) (lgN F) pk (t - 1) := by
          obtain ⟨s, rfl⟩ : ∃ s, t = s + 1 := ⟨t - 1, by omega⟩
          rw [fnF, Nat.add_sub_cancel]
          rw [if_neg (fun h => h.2 (nI_eqN (Nat.lt_of_lt_of_le (wf_lt hpk _).2 (by decide)) (by decide) hc75))]
        have hPn : pS G pl va da ca P f0 f14 S (upd W1 t (nI (wf (rowX S) (lgN F) pk (t)).1)) (upd F 4 (fnF (rowX S) (lgN F) pk (t + 1 - 1))) := by rw [Nat.add_sub_cancel, hfn]; exact hP
        have h9 := hl
        rw [nI_pl] at h9
        exact ih19 (t + 1, upd W1 t (nI (wf (rowX S) (lgN F) pk (t)).1), ls, H1, locs1, f14) ⟨by (try dsimp only); omega, by (try dsimp only); omega, hWn, hPn, lo_weak h9 ⟨rfl, rfl, rfl, trivial⟩, hM⟩ (by show e0 + 1 - (t + 1) < e0 + 1 - t; omega)
      · refine lv_aload_n C.1 C.2.1 d_Pln_follow_78 rfl (lo_at hl 0 rfl) ?_
        refine lv_iload_n C.1 C.2.1 d_Pln_follow_79 rfl (lo_at hl 2 rfl) ?_
        refine cg_put C hE hM hP.1.1 hP.2.2.1.1 rfl in_Pln ok_Pln n_Pln 12 (Nat.le_of_ble_eq_true rfl) tw_541 rfl rfl (fs' := plF va da ca (upd (upd F 4 (fnF (rowX S) (lgN F) pk (t - 1))) 4 (nI t))) rfl rfl rfl (Nat.le_of_ble_eq_true rfl) d_Pln_follow_80 (fun f16 H1 locs1 hf16 hM => ?_)
        have hP := hP.setf hf16
        refine lv_iload_n C.1 C.2.1 d_Pln_follow_83 rfl (lo_at hl 3 rfl) ?_
        refine lo_istore_n C hl d_Pln_follow_84 (Nat.le_of_ble_eq_true rfl) rfl (fun ls hl => ?_)
        refine lo_iinc C hl d_Pln_follow_85 rfl rfl (fun ls hl => ?_)
        refine lv_goto (tgt := 19) C.1 C.2.1 d_Pln_follow_88 (by decide) ?_
        have hWn : ∀ i, i < t + 1 → (upd W1 t (nI (wf (rowX S) (lgN F) pk (t)).1)) i = nI (wf (rowX S) (lgN F) pk (i)).1 := fun i hi => by
          by_cases q : i = t
          · rw [q, pk_us]
          · rw [pk_un q]; exact hW i (by omega)
        have hb := wf_lt (X := rowX S) (F := F) hpk t
        have hfn : fnF (rowX S) (lgN F) pk t =  nI t := by
          obtain ⟨s, rfl⟩ : ∃ s, t = s + 1 := ⟨t - 1, by omega⟩
          rw [fnF, if_pos ⟨nI_eqN (by omega) (by decide) hc70, fun h => hc75 (by rw [Nat.add_sub_cancel, h])⟩]
        have hPn : pS G pl va da ca P f0 f16 S (upd W1 t (nI (wf (rowX S) (lgN F) pk (t)).1)) (upd F 4 (fnF (rowX S) (lgN F) pk (t + 1 - 1))) := by rw [Nat.add_sub_cancel, hfn]; rw [upd_uu] at hP; exact hP
        have h9 := hl
        rw [nI_pl] at h9
        exact ih19 (t + 1, upd W1 t (nI (wf (rowX S) (lgN F) pk (t)).1), ls, H1, locs1, f16) ⟨by (try dsimp only); omega, by (try dsimp only); omega, hWn, hPn, lo_weak h9 ⟨rfl, rfl, rfl, trivial⟩, hM⟩ (by show e0 + 1 - (t + 1) < e0 + 1 - t; omega)
