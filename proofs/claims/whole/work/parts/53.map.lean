/-! the map -/
/-- a set is written, and nothing else of the memory -/
def cR (f : Nat → va_E) (a : Nat) (f1 : Nat → va_E) (S : Nat → Bool) : Prop := (∀ b, b ≠ a → f1 b = f b) ∧ ce f1 a S
theorem cw.R {f f1 : Nat → va_E} {a : Nat} {S : Nat → Bool} (h : cw f a f1 S) : cR f a f1 S := ⟨fun _ hb => h.there hb, h.here⟩
theorem cR.start {f : Nat → va_E} {a : Nat} {S : Nat → Bool} (h : ce f a S) : cR f a f S := ⟨fun _ _ => rfl, h⟩
theorem cR.trans {f f1 f2 : Nat → va_E} {a : Nat} {S T : Nat → Bool} (h : cR f a f1 S) (h2 : cR f1 a f2 T) : cR f a f2 T := ⟨fun b hb => (h2.1 b hb).trans (h.1 b hb), h2.2⟩
theorem cR.fun {f f1 : Nat → va_E} {a : Nat} {S T : Nat → Bool} (h : cR f a f1 S) (hS : ∀ d, d < 96 → T d = S d) : cR f a f1 T := ⟨h.1, h.2.fun hS⟩
theorem cn_s {K : Nat → Int32} {k : Int32} {j : Nat} (h : K j = k) : cn K k j + 1 = cn K k (j + 1) := by rw [cn, if_pos h]
theorem cn_n {K : Nat → Int32} {k : Int32} {j : Nat} (h : ¬ K j = k) : cn K k j = cn K k (j + 1) := by rw [cn, if_neg h]; rfl
theorem ce.ne {f : Nat → va_E} {a b : Nat} {S : Nat → Bool} {x : ClassId × vp_A} (h : ce f b S) (ha : f a = .inl x) : a ≠ b := by
  obtain ⟨u, w, h0, _⟩ := h
  exact ar_ne ha h0
theorem ce.neO {f : Nat → va_E} {a b ci : Nat} {S : Nat → Bool} {fs : List Value} (h : ce f b S) (ha : f a = .inr (ci, fs)) (hc : ci ≠ 4) : a ≠ b := by
  obtain ⟨u, w, h0, _⟩ := h
  exact ob_ne ha h0 hc
set_option maxHeartbeats 4000000 in
set_option maxRecDepth 100000 in
theorem k_Map_countOf (l : Launch) (G : GG) {P : List Nat} {f : Nat → va_E} (mp ka : Nat) (K : Nat → Int32) (hm_m : mp ∈ P) (hc_m : f mp = .inr (1, [.ref ka])) (hm_k : ka ∈ P) (hc_k : f ka = .inl (G.2.1 0, 96, .inl K)) (k : Int32)  : ct0 l G y_Map_countOf c_Map_countOf 4 (some .int) 0 0 [.ref mp, .int k] P f (fun x f1 => x = some (.int (nI (cn K k 96))) ∧ f1 = f) := by
  refine ct_intro (by decide) [some (.ref mp), some (.int k), none, none] rfl rfl (Nat.le_of_ble_eq_true rfl) ?_
  intro p e s m below meth c ls C hr hlk hnm hE hM hl
  refine lv_iconst (v := 0) C.1 C.2.1 d_Map_countOf_0 (by decide) ?_
  refine lo_istore_n C hl d_Map_countOf_1 (Nat.le_of_ble_eq_true rfl) rfl (fun ls hl => ?_)
  refine lv_iconst (v := 0) C.1 C.2.1 d_Map_countOf_2 (by decide) ?_
  refine lo_istore_n C hl d_Map_countOf_3 (Nat.le_of_ble_eq_true rfl) rfl (fun ls hl => ?_)
  refine W.loop (α := (Nat) × (Array Slot)) (fun a => 96 - a.1) (fun a => (a.1 ≤ 96) ∧ lo a.2 [some (.ref mp), some (.int k), some (.int (nI (cn K k a.1))), some (.int (nI a.1))]) (fun a => s.heap) (fun a => []) (fun a => 0) (fun a => 0) (fun a => F0 m 4 a.2 []) ?_ (0, ls) ⟨Nat.zero_le _, lo_weak hl ⟨rfl, rfl, rfl, rfl, trivial⟩⟩
  rintro ⟨j, ls⟩ ⟨hj, hl⟩ ih4
  dsimp only at hj hl
  show W _ _ _ _ _ _ _ _ _ _ _ _ _ _ _ (F0 m 4 ls [])
  refine lv_iload_n C.1 C.2.1 d_Map_countOf_4 rfl (lo_at hl 3 rfl) ?_
  refine lv_bipush (v := 96) C.1 C.2.1 d_Map_countOf_5 (by decide) ?_
  rw [show (96 : Int32) = nI 96 from rfl]
  refine lv_icmp_ge (tgt := 29) C.1 C.2.1 d_Map_countOf_7 (by decide) (fun hc7 => ?_) (fun hc7 => ?_)
  · have hj9 : j = 96 := Nat.le_antisymm hj (nI_leN (by omega) (by omega) hc7)
    refine lv_iload_n C.1 C.2.1 d_Map_countOf_29 rfl (lo_at hl 2 rfl) ?_
    refine cg_iret C hr hlk hM d_Map_countOf_30 ?_
    exact ⟨by rw [hj9], rfl⟩
  · have hj9 : j < 96 := nI_ltN (by omega) (by omega) hc7
    refine lv_aload_n C.1 C.2.1 d_Map_countOf_10 rfl (lo_at hl 0 rfl) ?_
    refine pg_get C hE hM hm_m hc_m rfl in_Map 0 (Nat.le_of_ble_eq_true rfl) tw_40 rfl rfl d_Map_countOf_11 ?_
    refine lv_iload_n C.1 C.2.1 d_Map_countOf_14 rfl (lo_at hl 3 rfl) ?_
    refine cg_iald C hE hM hm_k hc_k j rfl hj9 (by decide) d_Map_countOf_15 ?_
    refine lv_iload_n C.1 C.2.1 d_Map_countOf_16 rfl (lo_at hl 1 rfl) ?_
    refine lv_icmp_ne (tgt := 23) C.1 C.2.1 d_Map_countOf_17 (by decide) (fun hc17 => ?_) (fun hc17 => ?_)
    · refine lo_iinc C hl d_Map_countOf_23 rfl rfl (fun ls hl => ?_)
      refine lv_goto (tgt := 4) C.1 C.2.1 d_Map_countOf_26 (by decide) ?_
      have h9 := hl
      rw [nI_pl, cn_n hc17] at h9
      exact ih4 (j + 1, ls) ⟨by (try dsimp only); omega, lo_weak h9 ⟨rfl, rfl, rfl, rfl, trivial⟩⟩ (by show 96 - (j + 1) < 96 - j; omega)
    · refine lo_iinc C hl d_Map_countOf_20 rfl rfl (fun ls hl => ?_)
      refine lo_iinc C hl d_Map_countOf_23 rfl rfl (fun ls hl => ?_)
      refine lv_goto (tgt := 4) C.1 C.2.1 d_Map_countOf_26 (by decide) ?_
      have h9 := hl
      rw [nI_pl, nI_pl, cn_s hc17] at h9
      exact ih4 (j + 1, ls) ⟨by (try dsimp only); omega, lo_weak h9 ⟨rfl, rfl, rfl, rfl, trivial⟩⟩ (by show 96 - (j + 1) < 96 - j; omega)
set_option maxHeartbeats 4000000 in
set_option maxRecDepth 100000 in
theorem k_Map_collect (l : Launch) (G : GG) {P : List Nat} {f : Nat → va_E} (mp ka : Nat) (K : Nat → Int32) (hm_m : mp ∈ P) (hc_m : f mp = .inr (1, [.ref ka])) (hm_k : ka ∈ P) (hc_k : f ka = .inl (G.2.1 0, 96, .inl K)) (k : Int32) (b : Nat) (S : Nat → Bool) (hm_b : b ∈ P) (hS : ce f b S)  : ct0 l G y_Map_collect c_Map_collect 4 none 1 21 [.ref mp, .int k, .ref b] P f (fun x f1 => x = none ∧ cR f b f1 (fun d => S d || decide (K d = k))) := by
  refine ct_intro (by decide) [some (.ref mp), some (.int k), some (.ref b), none] rfl rfl (Nat.le_of_ble_eq_true rfl) ?_
  intro p e s m below meth c ls C hr hlk hnm hE hM hl
  have hmb := hS.neO hc_m (by decide)
  have hkb := hS.ne hc_k
  refine lv_iconst (v := 0) C.1 C.2.1 d_Map_collect_0 (by decide) ?_
  refine lo_istore_n C hl d_Map_collect_1 (Nat.le_of_ble_eq_true rfl) rfl (fun ls hl => ?_)
  refine W.loop (α := (Nat) × (Array Slot) × (Heap) × (List Loc) × (Nat → va_E)) (fun a => 96 - a.1) (fun a => (a.1 ≤ 96) ∧ (cR f b a.2.2.2.2 (fun d => S d || decide (d < a.1 ∧ K d = k))) ∧ lo a.2.1 [some (.ref mp), some (.int k), some (.ref b), some (.int (nI a.1))] ∧ pgS G (pgA P s.heap.size) s.heap P a.2.2.2.2 a.2.2.1 a.2.2.2.1) (fun a => a.2.2.1) (fun a => a.2.2.2.1) (fun a => 0) (fun a => 0) (fun a => F0 m 2 a.2.1 []) ?_ (0, ls, s.heap, [], f) ⟨Nat.zero_le _, (cR.start hS).fun (fun d _ => by simp), lo_weak hl ⟨rfl, rfl, rfl, rfl, trivial⟩, hM⟩
  rintro ⟨j, ls, H1, locs1, f1⟩ ⟨hj, hR, hl, hM⟩ ih2
  dsimp only at hj hR hl hM
  show W _ _ _ _ _ _ _ _ _ _ _ _ _ _ _ (F0 m 2 ls [])
  refine lv_iload_n C.1 C.2.1 d_Map_collect_2 rfl (lo_at hl 3 rfl) ?_
  refine lv_bipush (v := 96) C.1 C.2.1 d_Map_collect_3 (by decide) ?_
  rw [show (96 : Int32) = nI 96 from rfl]
  refine lv_icmp_ge (tgt := 29) C.1 C.2.1 d_Map_collect_5 (by decide) (fun hc5 => ?_) (fun hc5 => ?_)
  · have hj9 : j = 96 := Nat.le_antisymm hj (nI_leN (by omega) (by omega) hc5)
    refine cg_vret C hr hlk hM d_Map_collect_29 ?_
    refine ⟨rfl, hR.fun (fun d hd => ?_)⟩
    rw [hj9]
    simp [hd]
  · have hj9 : j < 96 := nI_ltN (by omega) (by omega) hc5
    have hc_m := (hR.1 mp hmb).trans hc_m
    have hc_k := (hR.1 ka hkb).trans hc_k
    refine lv_aload_n C.1 C.2.1 d_Map_collect_8 rfl (lo_at hl 0 rfl) ?_
    refine pg_get C hE hM hm_m hc_m rfl in_Map 0 (Nat.le_of_ble_eq_true rfl) tw_40 rfl rfl d_Map_collect_9 ?_
    refine lv_iload_n C.1 C.2.1 d_Map_collect_12 rfl (lo_at hl 3 rfl) ?_
    refine cg_iald C hE hM hm_k hc_k j rfl hj9 (by decide) d_Map_collect_13 ?_
    refine lv_iload_n C.1 C.2.1 d_Map_collect_14 rfl (lo_at hl 1 rfl) ?_
    refine lv_icmp_ne (tgt := 23) C.1 C.2.1 d_Map_collect_15 (by decide) (fun hc15 => ?_) (fun hc15 => ?_)
    · refine lo_iinc C hl d_Map_collect_23 rfl rfl (fun ls hl => ?_)
      refine lv_goto (tgt := 2) C.1 C.2.1 d_Map_collect_26 (by decide) ?_
      have hRn : cR f b f1 (fun d => S d || decide (d < j + 1 ∧ K d = k)) := by
        refine hR.fun (fun d _ => ?_)
        by_cases e : d = j
        · rw [e]; simp [hc15]
        · have : (d < j + 1) ↔ (d < j) := by omega
          simp [this]
      have h9 := hl
      rw [nI_pl] at h9
      exact ih2 (j + 1, ls, H1, locs1, f1) ⟨by (try dsimp only); omega, hRn, lo_weak h9 ⟨rfl, rfl, rfl, rfl, trivial⟩, hM⟩ (by show 96 - (j + 1) < 96 - j; omega)
    · obtain ⟨u8, w8, hc_b, -⟩ := hR.2.words
      refine lv_aload_n C.1 C.2.1 d_Map_collect_18 rfl (lo_at hl 2 rfl) ?_
      refine lv_iload_n C.1 C.2.1 d_Map_collect_19 rfl (lo_at hl 3 rfl) ?_
      refine cg_callV C hE hM (k_Cel_put l G b _ hm_b hR.2 j hj9) hm_b hc_b rfl tw_413 cy_Cel_put ⟨(Nat.le_of_ble_eq_true rfl), (Nat.le_of_ble_eq_true rfl)⟩ rfl hl.1 rfl (Nat.le_of_ble_eq_true rfl) ⟨Nat.zero_le _, Nat.zero_le _⟩ d_Map_collect_20 (fun x9 f1 H1 locs1 hp hM => ?_)
      have hx9 := hp.1
      subst hx9
      refine W.eq (g2 := F0 m 23 ls []) rfl ?_
      refine lo_iinc C hl d_Map_collect_23 rfl rfl (fun ls hl => ?_)
      refine lv_goto (tgt := 2) C.1 C.2.1 d_Map_collect_26 (by decide) ?_
      have hRn : cR f b f1 (fun d => S d || decide (d < j + 1 ∧ K d = k)) := by
        refine (hR.trans hp.2.R).fun (fun d _ => ?_)
        by_cases e : d = j
        · rw [e]; simp [hc15]
        · have : (d < j + 1) ↔ (d < j) := by omega
          simp [this, e]
      have h9 := hl
      rw [nI_pl] at h9
      exact ih2 (j + 1, ls, H1, locs1, f1) ⟨by (try dsimp only); omega, hRn, lo_weak h9 ⟨rfl, rfl, rfl, rfl, trivial⟩, hM⟩ (by show 96 - (j + 1) < 96 - j; omega)
theorem nI_ex {x : Int32} {n : Nat} (h0 : 0 ≤ x.toInt) (h : x.toInt < n) : ∃ c : Nat, x = nI c ∧ c < n := by
  refine ⟨x.toInt.toNat, ?_, by omega⟩
  apply Int32.toInt_inj.mp
  have hb := Int32.toInt_lt x
  rw [nI_toInt (by omega)]
  omega
set_option maxHeartbeats 4000000 in
set_option maxRecDepth 100000 in
theorem k_Map_change (l : Launch) (G : GG) {P : List Nat} {f : Nat → va_E} (mp ka : Nat) (K : Nat → Int32) (hm_m : mp ∈ P) (hc_m : f mp = .inr (1, [.ref ka])) (hm_k : ka ∈ P) (hc_k : f ka = .inl (G.2.1 0, 96, .inl K)) (c0 k : Int32)  : ct0 l G y_Map_change c_Map_change 3 (some .boolean) 0 0 [.ref mp, .int c0, .int k] P f (fun x f1 => ((inb c0 0 95 ∧ inb k 0 3) ∧ x = some (.int 1) ∧ ∃ j : Nat, c0 = nI j ∧ j < 96 ∧ f1 = va_up f ka (.inl (G.2.1 0, 96, .inl (upd K j k)))) ∨ (¬ (inb c0 0 95 ∧ inb k 0 3) ∧ x = some (.int 0) ∧ f1 = f)) := by
  refine ct_intro (by decide) [some (.ref mp), some (.int c0), some (.int k)] rfl rfl (Nat.le_of_ble_eq_true rfl) ?_
  intro p e s m below meth c ls C hr hlk hnm hE hM hl
  refine lv_iload_n C.1 C.2.1 d_Map_change_0 rfl (lo_at hl 1 rfl) ?_
  refine lv_if_lt (tgt := 19) C.1 C.2.1 d_Map_change_1 (by decide) (fun hc1 => ?_) (fun hc1 => ?_)
  · refine lv_iconst (v := 0) C.1 C.2.1 d_Map_change_19 (by decide) ?_
    refine cg_zret C hr hlk hM d_Map_change_20 (by decide) ?_
    refine Or.inr ⟨?_, rfl, rfl⟩
    exact fun h => h.1.1 hc1
  · refine lv_iload_n C.1 C.2.1 d_Map_change_4 rfl (lo_at hl 1 rfl) ?_
    refine lv_bipush (v := 96) C.1 C.2.1 d_Map_change_5 (by decide) ?_
    refine lv_icmp_ge (tgt := 19) C.1 C.2.1 d_Map_change_7 (by decide) (fun hc7 => ?_) (fun hc7 => ?_)
    · refine lv_iconst (v := 0) C.1 C.2.1 d_Map_change_19 (by decide) ?_
      refine cg_zret C hr hlk hM d_Map_change_20 (by decide) ?_
      refine Or.inr ⟨?_, rfl, rfl⟩
      exact fun h => h.1.2 (by rw [Int32.lt_iff_toInt_lt, show (95 : Int32).toInt = 95 from by decide]; have := Int32.le_iff_toInt_le.mp hc7; rw [show (96 : Int32).toInt = 96 from by decide] at this; omega)
    · refine lv_iload_n C.1 C.2.1 d_Map_change_10 rfl (lo_at hl 2 rfl) ?_
      refine lv_if_lt (tgt := 19) C.1 C.2.1 d_Map_change_11 (by decide) (fun hc11 => ?_) (fun hc11 => ?_)
      · refine lv_iconst (v := 0) C.1 C.2.1 d_Map_change_19 (by decide) ?_
        refine cg_zret C hr hlk hM d_Map_change_20 (by decide) ?_
        refine Or.inr ⟨?_, rfl, rfl⟩
        exact fun h => h.2.1 hc11
      · refine lv_iload_n C.1 C.2.1 d_Map_change_14 rfl (lo_at hl 2 rfl) ?_
        refine lv_iconst (v := 3) C.1 C.2.1 d_Map_change_15 (by decide) ?_
        refine lv_icmp_le (tgt := 21) C.1 C.2.1 d_Map_change_16 (by decide) (fun hc16 => ?_) (fun hc16 => ?_)
        · have hcc0 : ∃ cc0 : Nat, c0 = nI cc0 ∧ cc0 < 96 := by
            have h1 : ¬ c0.toInt < 0 := fun q => hc1 (Int32.lt_iff_toInt_lt.mpr q)
            have h2 : ¬ (96 : Int).le c0.toInt := fun q => hc7 (Int32.le_iff_toInt_le.mpr q)
            exact nI_ex (by omega) (by have : ¬ (96 ≤ c0.toInt) := h2; omega)
          obtain ⟨cc0, rfl, hcc⟩ := hcc0
          refine lv_aload_n C.1 C.2.1 d_Map_change_21 rfl (lo_at hl 0 rfl) ?_
          refine pg_get C hE hM hm_m hc_m rfl in_Map 0 (Nat.le_of_ble_eq_true rfl) tw_40 rfl rfl d_Map_change_22 ?_
          refine lv_iload_n C.1 C.2.1 d_Map_change_25 rfl (lo_at hl 1 rfl) ?_
          refine lv_iload_n C.1 C.2.1 d_Map_change_26 rfl (lo_at hl 2 rfl) ?_
          refine cg_iast C hE hM hm_k hc_k cc0 rfl hcc (by decide) d_Map_change_27 (fun f1 H1 locs1 hf1 hM => ?_)
          have hc_m := ((congrFun hf1 mp).trans (va_up_ne _ _ ((ar_ne hc_k hc_m).symm))).trans hc_m
          have hc_k := (congrFun hf1 ka).trans (va_up_self _ _ _)
          refine lv_iconst (v := 1) C.1 C.2.1 d_Map_change_28 (by decide) ?_
          refine cg_zret C hr hlk hM d_Map_change_29 (by decide) ?_
          refine Or.inl ⟨⟨⟨hc1, ?_⟩, hc11, Int32.not_lt.mpr hc16⟩, rfl, cc0, rfl, hcc, hf1⟩
          intro h
          exact hc7 (by rw [Int32.le_iff_toInt_le, show (96 : Int32).toInt = 96 from by decide]; have := Int32.lt_iff_toInt_lt.mp h; rw [show (95 : Int32).toInt = 95 from by decide] at this; omega)
        · refine lv_iconst (v := 0) C.1 C.2.1 d_Map_change_19 (by decide) ?_
          refine cg_zret C hr hlk hM d_Map_change_20 (by decide) ?_
          refine Or.inr ⟨?_, rfl, rfl⟩
          exact fun h => h.2.2 (Int32.not_le.mp hc16)
set_option maxHeartbeats 4000000 in
set_option maxRecDepth 100000 in
theorem k_Map_init (l : Launch) (G : GG) {P : List Nat} {f : Nat → va_E} (mp : Nat) (hm_m : mp ∈ P) (hc_m : f mp = .inr (1, [.null]))  : ct l G y_Map_init c_Map_init 1 none 1 20 (1) (96) [.ref mp] P f (fun x N f1 => x = none ∧ ∃ q, N = [q] ∧ q ∉ P ∧ f1 = va_up (va_up f q (.inl (G.2.1 0, 96, .inl (fun _ => 0)))) mp (.inr (1, [.ref q]))) := by
  refine ct_intro (by decide) [some (.ref mp)] rfl rfl (Nat.le_of_ble_eq_true rfl) ?_
  intro p e s m below meth c ls C hr hlk hnm hE hM hl
  have hPN : P = P ++ [] := (List.append_nil P).symm
  refine lv_aload_n C.1 C.2.1 d_Map_init_0 rfl (lo_at hl 0 rfl) ?_
  refine W.objInit C.1 C.2.1 C.2.2.2.1 (C.2.2.2.2 _ tw_39) (C.2.2.2.2 _ tw_32) (C.2.2.2.2 _ tw_33) rfl (by rw [C.2.2.1]; exact hl.1) rfl d_Map_init_1 (Nat.le_of_ble_eq_true rfl) (Nat.le_of_ble_eq_true rfl) ?_
  refine W.eq (g2 := F0 m 4 ls []) rfl ?_
  refine lv_aload_n C.1 C.2.1 d_Map_init_4 rfl (lo_at hl 0 rfl) ?_
  refine lv_bipush (v := 96) C.1 C.2.1 d_Map_init_5 (by decide) ?_
  refine cg_newI C hE hM 96 rfl (by decide) (Nat.le_of_ble_eq_true rfl) (Nat.le_of_ble_eq_true rfl) d_Map_init_7 (fun q P1 f1 H1 hq hP1 hf1 hM => ?_)
  have hc_m := ((congrFun hf1 mp).trans (va_up_ne _ _ (fun z => hq (z ▸ hm_m)))).trans hc_m
  have hm_m := (show mp ∈ P1 by rw [hP1]; exact List.mem_append_left _ hm_m)
  have hm_q : q ∈ P1 := by rw [hP1]; exact List.mem_append_right _ (List.mem_singleton.mpr rfl)
  have hc_q := (congrFun hf1 q).trans (va_up_self _ _ _)
  have hPN := hPN_new hPN hP1
  refine W.widen (k := 1) (n := 96) (by omega) (by omega) ?_
  refine cg_putF C hE hM hm_m hc_m rfl in_Map ok_Map n_Map 0 (Nat.le_of_ble_eq_true rfl) tw_40 rfl rfl hnm rfl rfl rfl rfl (Nat.le_of_ble_eq_true rfl) d_Map_init_9 (fun f2 H1 locs1 hf2 hM => ?_)
  have hc_q := ((congrFun hf2 q).trans (va_up_ne _ _ (ar_ne hc_q hc_m))).trans hc_q
  have hc_m := (congrFun hf2 mp).trans (va_up_self _ _ _)
  refine pg_vret C hr hlk hM hPN (by omega) (by omega) d_Map_init_12 ?_
  refine ⟨rfl, q, rfl, hq, ?_⟩
  rw [hf2, hf1]; rfl
set_option maxHeartbeats 4000000 in
set_option maxRecDepth 100000 in
theorem k_Map_cellsOf (l : Launch) (G : GG) {P : List Nat} {f : Nat → va_E} (mp ka : Nat) (K : Nat → Int32) (hm_m : mp ∈ P) (hc_m : f mp = .inr (1, [.ref ka])) (hm_k : ka ∈ P) (hc_k : f ka = .inl (G.2.1 0, 96, .inl K)) (k : Int32)  : ct l G y_Map_cellsOf c_Map_cellsOf 5 (some (.array .int)) 1 23 (1) (96) [.ref mp, .int k] P f (fun x N f1 => ∃ q g, N = [q] ∧ x = some (.ref q) ∧ q ∉ P ∧ f1 = va_up f q (.inl (G.2.1 0, cn K k 96, .inl g)) ∧ ∀ d, d < 96 → K d = k → g (cn K k d) = nI d) := by
  refine ct_intro (by decide) [some (.ref mp), some (.int k), none, none, none] rfl rfl (Nat.le_of_ble_eq_true rfl) ?_
  intro p e s m below meth c ls C hr hlk hnm hE hM hl
  have hk0 := hm_k
  have hPN : P = P ++ [] := (List.append_nil P).symm
  refine lv_aload_n C.1 C.2.1 d_Map_cellsOf_0 rfl (lo_at hl 0 rfl) ?_
  refine lv_iload_n C.1 C.2.1 d_Map_cellsOf_1 rfl (lo_at hl 1 rfl) ?_
  refine cg_callV C hE hM (k_Map_countOf l G mp ka K hm_m hc_m hm_k hc_k k) hm_m hc_m rfl tw_388 cy_Map_countOf ⟨(Nat.le_of_ble_eq_true rfl), (Nat.le_of_ble_eq_true rfl)⟩ rfl hl.1 rfl (Nat.le_of_ble_eq_true rfl) ⟨by (try show _ ≤ 1); omega, by (try show _ ≤ 96); omega⟩ d_Map_cellsOf_2 (fun x9 f11 H1 locs1 hp hM => ?_)
  obtain ⟨rfl, h9⟩ := hp
  rw [h9] at hM
  clear h9
  refine W.eq (g2 := F0 m 5 ls [_]) rfl ?_
  refine cg_newI C hE hM (cn K k 96) rfl (by have := cn_le (K := K) (k := k) 96; omega) (by show _ ≤ 1; omega) (by show 0 + cn K k 96 ≤ 96; have := cn_le (K := K) (k := k) 96; omega) d_Map_cellsOf_5 (fun q P1 f12 H1 hq hP1 hf12 hM => ?_)
  have hc_m := ((congrFun hf12 mp).trans (va_up_ne _ _ (fun z => hq (z ▸ hm_m)))).trans hc_m
  have hm_m := (show mp ∈ P1 by rw [hP1]; exact List.mem_append_left _ hm_m)
  have hc_k := ((congrFun hf12 ka).trans (va_up_ne _ _ (fun z => hq (z ▸ hm_k)))).trans hc_k
  have hm_k := (show ka ∈ P1 by rw [hP1]; exact List.mem_append_left _ hm_k)
  have hm_q : q ∈ P1 := by rw [hP1]; exact List.mem_append_right _ (List.mem_singleton.mpr rfl)
  have hc_q := (congrFun hf12 q).trans (va_up_self _ _ _)
  have hPN := hPN_new hPN hP1
  refine W.widen (k := 1) (n := 96) (by omega) (by have := cn_le (K := K) (k := k) 96; omega) ?_
  refine lo_astore_n C hl d_Map_cellsOf_7 (Nat.le_of_ble_eq_true rfl) rfl (fun ls hl => ?_)
  refine lv_iconst (v := 0) C.1 C.2.1 d_Map_cellsOf_8 (by decide) ?_
  refine lo_istore_n C hl d_Map_cellsOf_9 (Nat.le_of_ble_eq_true rfl) rfl (fun ls hl => ?_)
  refine lv_iconst (v := 0) C.1 C.2.1 d_Map_cellsOf_10 (by decide) ?_
  refine lo_istore C hl d_Map_cellsOf_11 (Nat.le_of_ble_eq_true rfl) rfl (fun ls hl => ?_)
  refine W.loop (α := (Nat) × (Nat → Int32) × (Array Slot) × (Heap) × (List Loc) × (Nat → va_E)) (fun a => 96 - a.1) (fun a => (a.1 ≤ 96) ∧ (∀ d, d < a.1 → K d = k → a.2.1 (cn K k d) = nI d) ∧ (a.2.2.2.2.2 mp = .inr (1, [.ref ka])) ∧ (a.2.2.2.2.2 ka = .inl (G.2.1 0, 96, .inl K)) ∧ (a.2.2.2.2.2 q = .inl (G.2.1 0, cn K k 96, .inl a.2.1)) ∧ (∀ y, y ≠ q → a.2.2.2.2.2 y = f y) ∧ lo a.2.2.1 [some (.ref mp), some (.int k), some (.ref q), some (.int (nI (cn K k a.1))), some (.int (nI a.1))] ∧ pgS G (pgA P s.heap.size) s.heap P1 a.2.2.2.2.2 a.2.2.2.1 a.2.2.2.2.1) (fun a => a.2.2.2.1) (fun a => a.2.2.2.2.1) (fun a => 1) (fun a => 96) (fun a => F0 m 13 a.2.2.1 []) ?_ (0, fun _ => 0, ls, H1, locs1, f12) ⟨Nat.zero_le _, fun d h => absurd h (Nat.not_lt_zero _), hc_m, hc_k, hc_q, fun a ha => (congrFun hf12 a).trans (va_up_ne _ _ ha), lo_weak hl ⟨rfl, rfl, rfl, rfl, rfl, trivial⟩, hM⟩
  rintro ⟨j, g, ls, H1, locs1, f1⟩ ⟨hj, hg, hfm, hfk, hfq, hfo, hl, hM⟩ ih13
  dsimp only at hj hg hfm hfk hfq hfo hl hM
  show W _ _ _ _ _ _ _ _ _ _ _ _ (1) (96) _ (F0 m 13 ls [])
  refine lv_iload C.1 C.2.1 d_Map_cellsOf_13 (lo_at hl 4 rfl) ?_
  refine lv_bipush (v := 96) C.1 C.2.1 d_Map_cellsOf_15 (by decide) ?_
  rw [show (96 : Int32) = nI 96 from rfl]
  refine lv_icmp_ge (tgt := 51) C.1 C.2.1 d_Map_cellsOf_17 (by decide) (fun hc17 => ?_) (fun hc17 => ?_)
  · refine lv_aload_n C.1 C.2.1 d_Map_cellsOf_51 rfl (lo_at hl 2 rfl) ?_
    refine pg_aret C hr (Or.inr ⟨_, rfl⟩) hlk (Or.inr ⟨_, rfl⟩) hM hPN (by omega) (by omega) d_Map_cellsOf_52 ?_
    refine ⟨q, g, rfl, rfl, hq, ?_, ?_⟩
    · funext a
      by_cases e : a = q
      · rw [e, hfq, va_up_self]
      · rw [hfo a e, va_up_ne _ _ e]
    · have hj9 : j = 96 := Nat.le_antisymm hj (nI_leN (by omega) (by omega) hc17)
      rw [← hj9]; exact hg
  · have hj9 : j < 96 := nI_ltN (by omega) (by omega) hc17
    have hc_m : f1 mp = .inr (1, [.ref ka]) := hfm
    have hc_k := hfk
    have hc_q := hfq
    refine lv_iload_n C.1 C.2.1 d_Map_cellsOf_20 rfl (lo_at hl 3 rfl) ?_
    refine lv_aload_n C.1 C.2.1 d_Map_cellsOf_21 rfl (lo_at hl 2 rfl) ?_
    refine pg_alen C hE hM hm_q (t0 := 0) (Nat.le_of_ble_eq_true rfl) hc_q d_Map_cellsOf_22 ?_
    refine lv_icmp_ge (tgt := 51) C.1 C.2.1 d_Map_cellsOf_23 (by decide) (fun hc23 => ?_) (fun hc23 => ?_)
    · refine lv_aload_n C.1 C.2.1 d_Map_cellsOf_51 rfl (lo_at hl 2 rfl) ?_
      refine pg_aret C hr (Or.inr ⟨_, rfl⟩) hlk (Or.inr ⟨_, rfl⟩) hM hPN (by omega) (by omega) d_Map_cellsOf_52 ?_
      refine ⟨q, g, rfl, rfl, hq, ?_, ?_⟩
      · funext a
        by_cases e : a = q
        · rw [e, hfq, va_up_self]
        · rw [hfo a e, va_up_ne _ _ e]
      · intro d hd hk
        have h1 : cn K k 96 ≤ cn K k j := nI_leN (by have := cn_le (K := K) (k := k) 96; omega) (by have := cn_le (K := K) (k := k) j; omega) hc23
        by_cases e : d < j
        · exact hg d e hk
        · have h2 := cn_mono (K := K) (k := k) (a := j) d (by omega)
          have h3 := cn_mono (K := K) (k := k) (a := d + 1) 96 (by omega)
          rw [← cn_s hk] at h3
          omega
    · have hnx : cn K k j < cn K k 96 := nI_ltN (by have := cn_le (K := K) (k := k) j; omega) (by have := cn_le (K := K) (k := k) 96; omega) hc23
      refine lv_aload_n C.1 C.2.1 d_Map_cellsOf_26 rfl (lo_at hl 0 rfl) ?_
      refine pg_get C hE hM hm_m hc_m rfl in_Map 0 (Nat.le_of_ble_eq_true rfl) tw_40 rfl rfl d_Map_cellsOf_27 ?_
      refine lv_iload C.1 C.2.1 d_Map_cellsOf_30 (lo_at hl 4 rfl) ?_
      refine cg_iald C hE hM hm_k hc_k j rfl hj9 (by decide) d_Map_cellsOf_32 ?_
      refine lv_iload_n C.1 C.2.1 d_Map_cellsOf_33 rfl (lo_at hl 1 rfl) ?_
      refine lv_icmp_ne (tgt := 45) C.1 C.2.1 d_Map_cellsOf_34 (by decide) (fun hc34 => ?_) (fun hc34 => ?_)
      · refine lo_iinc C hl d_Map_cellsOf_45 rfl rfl (fun ls hl => ?_)
        refine lv_goto (tgt := 13) C.1 C.2.1 d_Map_cellsOf_48 (by decide) ?_
        have hfo9 := hfo
        have hgn : ∀ d, d < j + 1 → K d = k → g (cn K k d) = nI d := fun d hd hk => by
          by_cases e : d = j
          · rw [e] at hk; exact absurd hk hc34
          · exact hg d (by omega) hk
        have h9 := hl
        rw [nI_pl, cn_n hc34] at h9
        exact ih13 (j + 1, g, ls, H1, locs1, f1) ⟨by (try dsimp only); omega, hgn, hc_m, hc_k, hc_q, hfo9, lo_weak h9 ⟨rfl, rfl, rfl, rfl, rfl, trivial⟩, hM⟩ (by show 96 - (j + 1) < 96 - j; omega)
      · refine lv_aload_n C.1 C.2.1 d_Map_cellsOf_37 rfl (lo_at hl 2 rfl) ?_
        refine lv_iload_n C.1 C.2.1 d_Map_cellsOf_38 rfl (lo_at hl 3 rfl) ?_
        refine lv_iload C.1 C.2.1 d_Map_cellsOf_39 (lo_at hl 4 rfl) ?_
        refine cg_iast C hE hM hm_q hc_q (cn K k j) rfl hnx (by have := cn_le (K := K) (k := k) 96; omega) d_Map_cellsOf_41 (fun f13 H1 locs1 hf13 hM => ?_)
        have hc_m := ((congrFun hf13 mp).trans (va_up_ne _ _ ((ar_ne hc_q hc_m).symm))).trans hc_m
        have hc_k := ((congrFun hf13 ka).trans (va_up_ne _ _ (fun z => hq (z ▸ hk0)))).trans hc_k
        have hc_q := (congrFun hf13 q).trans (va_up_self _ _ _)
        refine lo_iinc C hl d_Map_cellsOf_42 rfl rfl (fun ls hl => ?_)
        refine lo_iinc C hl d_Map_cellsOf_45 rfl rfl (fun ls hl => ?_)
        refine lv_goto (tgt := 13) C.1 C.2.1 d_Map_cellsOf_48 (by decide) ?_
        have hfo9 : ∀ a, a ≠ q → f13 a = f a := fun a ha => ((congrFun hf13 a).trans (va_up_ne _ _ ha)).trans (hfo a ha)
        have hgn : ∀ d, d < j + 1 → K d = k → (upd g (cn K k j) (nI j)) (cn K k d) = nI d := fun d hd hk => by
          by_cases e : d = j
          · rw [e]; exact pk_us
          · have h1 := cn_mono (K := K) (k := k) (a := d + 1) j (by omega)
            rw [← cn_s hk] at h1
            rw [pk_un (by omega)]; exact hg d (by omega) hk
        have h9 := hl
        rw [nI_pl, nI_pl, cn_s hc34] at h9
        exact ih13 (j + 1, upd g (cn K k j) (nI j), ls, H1, locs1, f13) ⟨by (try dsimp only); omega, hgn, hc_m, hc_k, hc_q, hfo9, lo_weak h9 ⟨rfl, rfl, rfl, rfl, rfl, trivial⟩, hM⟩ (by show 96 - (j + 1) < 96 - j; omega)
