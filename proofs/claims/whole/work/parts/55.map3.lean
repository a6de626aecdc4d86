/-! whether the map is good -/
def kOk (K : Nat → Int32) : Prop := ∀ c, c < 96 → K c = 0 ∨ K c = 1 ∨ K c = 2 ∨ K c = 3
def isE (K : Nat → Int32) (d : Nat) : Prop := K d = 2 ∨ K d = 3
theorem isE_iff {K : Nat → Int32} (hK : kOk K) {d : Nat} (hd : d < 96) : isE K d ↔ ¬ K d < 2 := by
  unfold isE
  rcases hK d hd with h | h | h | h <;> rw [h] <;> decide
def joinedE (K : Nat → Int32) (n : Nat) : Prop := ∀ x, x < n → isE K x → ∀ d, d < 96 → isE K d → RE K x d
theorem joinedE_good {K : Nat → Int32} (hK : kOk K) : joinedE K 96 ↔ ∀ x, x < 96 → gdE K x := by
  unfold joinedE gdE
  constructor
  · intro h x hx
    by_cases e : K x < 2
    · exact Or.inl e
    · refine Or.inr (fun d hd => ?_)
      by_cases e2 : K d < 2
      · exact Or.inl e2
      · exact Or.inr (h x hx ((isE_iff hK hx).mpr e) d hd ((isE_iff hK hd).mpr e2))
  · intro h x hx hE d hd hE2
    rcases h x hx with h1 | h1
    · exact absurd h1 ((isE_iff hK hx).mp hE)
    · exact (h1 d hd).resolve_left ((isE_iff hK hd).mp hE2)
set_option maxHeartbeats 4000000 in
set_option maxRecDepth 100000 in
theorem k_Map_isJoined (l : Launch) (G : GG) {P : List Nat} {f : Nat → va_E} (mp ka : Nat) (K : Nat → Int32) (hm_m : mp ∈ P) (hc_m : f mp = .inr (1, [.ref ka])) (hm_k : ka ∈ P) (hc_k : f ka = .inl (G.2.1 0, 96, .inl K)) (hK : kOk K)  : ct l G y_Map_isJoined c_Map_isJoined 4 (some .boolean) 3 71 (194) (388) [.ref mp] P f (fun x N f1 => ∃ qs, N = qs ∧ ∃ z : Bool, x = some (.int (bz (z = true))) ∧ (z = true ↔ joinedE K 96) ∧ kp P f f1) := by
  refine ct_intro (by decide) [some (.ref mp), none, none, none] rfl rfl (Nat.le_of_ble_eq_true rfl) ?_
  intro p e s m below meth c ls C hr hlk hnm hE hM hl
  have hPN : P = P ++ [] := (List.append_nil P).symm
  refine cg_new C hE hM (ci := 4) (fs := [.long 0, .long 0]) rfl in_Cel ok_Cel tw_396 tw_397 tw_12 (by decide) (Nat.le_of_ble_eq_true rfl) (Nat.le_of_ble_eq_true rfl) d_Map_isJoined_0 (fun q1 P1 f11 H1 hq1 hP1 hf11 hM => ?_)
  have hc_m := ((congrFun hf11 mp).trans (va_up_ne _ _ (fun z => hq1 (z ▸ hm_m)))).trans hc_m
  have hm_m := (show mp ∈ P1 by rw [hP1]; exact List.mem_append_left _ hm_m)
  have hc_k := ((congrFun hf11 ka).trans (va_up_ne _ _ (fun z => hq1 (z ▸ hm_k)))).trans hc_k
  have hm_k := (show ka ∈ P1 by rw [hP1]; exact List.mem_append_left _ hm_k)
  have hm_c : q1 ∈ P1 := by rw [hP1]; exact List.mem_append_right _ (List.mem_singleton.mpr rfl)
  have hc_c := (congrFun hf11 q1).trans (va_up_self _ _ _)
  have hPN := hPN_new hPN hP1
  have hs_c : ce f11 q1 (fun _ => false) := ⟨0, 0, hc_c, hi_0, hi_0, fun d _ => by unfold cb; split <;> exact (gb_zero _).symm⟩
  have hkp : kp P f f11 := fun y hy => (congrFun hf11 y).trans (va_up_ne _ _ (fun z => hq1 (z ▸ hy)))
  refine W.widen (k := 1) (n := 2) (by omega) (by omega) ?_
  refine lv_dup C.1 C.2.1 d_Map_isJoined_3 rfl ?_
  refine cg_callIN C hE hM (k_Cel_init l G _) nw_398 cy_Cel_init ⟨(Nat.le_of_ble_eq_true rfl), (Nat.le_of_ble_eq_true rfl)⟩ rfl hl.1 rfl (Nat.le_of_ble_eq_true rfl) ⟨by (try show _ ≤ 194); omega, by (try show _ ≤ 388); omega⟩ d_Map_isJoined_4 (fun x9 f12 H1 locs1 hp hM => ?_)
  obtain ⟨rfl, h9⟩ := hp
  rw [h9] at hM
  clear h9
  refine W.eq (g2 := F0 m 7 ls [_]) rfl ?_
  refine lo_astore_n C hl d_Map_isJoined_7 (Nat.le_of_ble_eq_true rfl) rfl (fun ls hl => ?_)
  refine lv_aload_n C.1 C.2.1 d_Map_isJoined_8 rfl (lo_at hl 0 rfl) ?_
  refine lv_iconst (v := 1) C.1 C.2.1 d_Map_isJoined_9 (by decide) ?_
  refine lv_aload_n C.1 C.2.1 d_Map_isJoined_10 rfl (lo_at hl 1 rfl) ?_
  refine cg_callV C hE hM (k_Map_collect l G mp ka K hm_m hc_m hm_k hc_k 1 q1 _ hm_c hs_c) hm_m hc_m rfl tw_409 cy_Map_collect ⟨(Nat.le_of_ble_eq_true rfl), (Nat.le_of_ble_eq_true rfl)⟩ rfl hl.1 rfl (Nat.le_of_ble_eq_true rfl) ⟨by (try show _ ≤ 194); omega, by (try show _ ≤ 388); omega⟩ d_Map_isJoined_11 (fun x9 f13 H1 locs1 hp hM => ?_)
  have hx9 := hp.1
  subst hx9
  have hc_m := (hp.2.1 _ (hs_c.neO hc_m (by decide))).trans hc_m
  have hc_k := (hp.2.1 _ (hs_c.ne hc_k)).trans hc_k
  have hkp : kp P f f13 := fun y hy => (hp.2.1 y (fun z => hq1 (z ▸ hy))).trans (hkp y hy)
  have hs_c := hp.2.2
  refine W.eq (g2 := F0 m 14 ls []) rfl ?_
  refine cg_new C hE hM (ci := 4) (fs := [.long 0, .long 0]) rfl in_Cel ok_Cel tw_396 tw_397 tw_12 (by decide) (by (try show _ ≤ 194); omega) (by (try show _ ≤ 388); omega) d_Map_isJoined_14 (fun q2 P2 f14 H1 hq2 hP2 hf14 hM => ?_)
  have hc_m := ((congrFun hf14 mp).trans (va_up_ne _ _ (fun z => hq2 (z ▸ hm_m)))).trans hc_m
  have hm_m := (show mp ∈ P2 by rw [hP2]; exact List.mem_append_left _ hm_m)
  have hc_k := ((congrFun hf14 ka).trans (va_up_ne _ _ (fun z => hq2 (z ▸ hm_k)))).trans hc_k
  have hm_k := (show ka ∈ P2 by rw [hP2]; exact List.mem_append_left _ hm_k)
  have hs_c := hs_c.congr ((congrFun hf14 q1).trans (va_up_ne _ _ (fun z => hq2 (z ▸ hm_c))))
  have hm_c := (show q1 ∈ P2 by rw [hP2]; exact List.mem_append_left _ hm_c)
  have hm_r : q2 ∈ P2 := by rw [hP2]; exact List.mem_append_right _ (List.mem_singleton.mpr rfl)
  have hc_r := (congrFun hf14 q2).trans (va_up_self _ _ _)
  have hPN := hPN_new hPN hP2
  have hs_r : ce f14 q2 (fun _ => false) := ⟨0, 0, hc_r, hi_0, hi_0, fun d _ => by unfold cb; split <;> exact (gb_zero _).symm⟩
  have hkp : kp P f f14 := fun y hy => ((congrFun hf14 y).trans (va_up_ne _ _ (fun z => hq2 (by rw [hP1, ← z]; exact List.mem_append_left _ hy)))).trans (hkp y hy)
  have hq2P : q2 ∉ P := fun z => hq2 (by rw [hP1]; exact List.mem_append_left _ z)
  have n21 : q2 ≠ q1 := fun z => hq2 (by rw [hP1, z]; exact List.mem_append_right _ (List.mem_singleton.mpr rfl))
  refine W.widen (k := 2) (n := 4) (by omega) (by omega) ?_
  refine lv_dup C.1 C.2.1 d_Map_isJoined_17 rfl ?_
  refine cg_callIN C hE hM (k_Cel_init l G _) nw_398 cy_Cel_init ⟨(Nat.le_of_ble_eq_true rfl), (Nat.le_of_ble_eq_true rfl)⟩ rfl hl.1 rfl (Nat.le_of_ble_eq_true rfl) ⟨by (try show _ ≤ 194); omega, by (try show _ ≤ 388); omega⟩ d_Map_isJoined_18 (fun x9 f15 H1 locs1 hp hM => ?_)
  obtain ⟨rfl, h9⟩ := hp
  rw [h9] at hM
  clear h9
  refine W.eq (g2 := F0 m 21 ls [_]) rfl ?_
  refine lo_astore_n C hl d_Map_isJoined_21 (Nat.le_of_ble_eq_true rfl) rfl (fun ls hl => ?_)
  refine lv_aload_n C.1 C.2.1 d_Map_isJoined_22 rfl (lo_at hl 0 rfl) ?_
  refine lv_iconst (v := 2) C.1 C.2.1 d_Map_isJoined_23 (by decide) ?_
  refine lv_aload_n C.1 C.2.1 d_Map_isJoined_24 rfl (lo_at hl 2 rfl) ?_
  refine cg_callV C hE hM (k_Map_collect l G mp ka K hm_m hc_m hm_k hc_k 2 q2 _ hm_r hs_r) hm_m hc_m rfl tw_409 cy_Map_collect ⟨(Nat.le_of_ble_eq_true rfl), (Nat.le_of_ble_eq_true rfl)⟩ rfl hl.1 rfl (Nat.le_of_ble_eq_true rfl) ⟨by (try show _ ≤ 194); omega, by (try show _ ≤ 388); omega⟩ d_Map_isJoined_25 (fun x9 f16 H1 locs1 hp hM => ?_)
  have hx9 := hp.1
  subst hx9
  have hc_m := (hp.2.1 _ (hs_r.neO hc_m (by decide))).trans hc_m
  have hc_k := (hp.2.1 _ (hs_r.ne hc_k)).trans hc_k
  have hs_c := hs_c.congr (hp.2.1 _ (Ne.symm (n21)))
  have hkp : kp P f f16 := fun y hy => (hp.2.1 y (fun z => hq2P (z ▸ hy))).trans (hkp y hy)
  have hs_r := hp.2.2
  refine W.eq (g2 := F0 m 28 ls []) rfl ?_
  refine lv_aload_n C.1 C.2.1 d_Map_isJoined_28 rfl (lo_at hl 0 rfl) ?_
  refine lv_iconst (v := 3) C.1 C.2.1 d_Map_isJoined_29 (by decide) ?_
  refine lv_aload_n C.1 C.2.1 d_Map_isJoined_30 rfl (lo_at hl 2 rfl) ?_
  refine cg_callV C hE hM (k_Map_collect l G mp ka K hm_m hc_m hm_k hc_k 3 q2 _ hm_r hs_r) hm_m hc_m rfl tw_409 cy_Map_collect ⟨(Nat.le_of_ble_eq_true rfl), (Nat.le_of_ble_eq_true rfl)⟩ rfl hl.1 rfl (Nat.le_of_ble_eq_true rfl) ⟨by (try show _ ≤ 194); omega, by (try show _ ≤ 388); omega⟩ d_Map_isJoined_31 (fun x9 f17 H1 locs1 hp hM => ?_)
  have hx9 := hp.1
  subst hx9
  have hc_m := (hp.2.1 _ (hs_r.neO hc_m (by decide))).trans hc_m
  have hc_k := (hp.2.1 _ (hs_r.ne hc_k)).trans hc_k
  have hs_c := hs_c.congr (hp.2.1 _ (Ne.symm (n21)))
  have hkp : kp P f f17 := fun y hy => (hp.2.1 y (fun z => hq2P (z ▸ hy))).trans (hkp y hy)
  have hs_r := hp.2.2
  refine W.eq (g2 := F0 m 34 ls []) rfl ?_
  refine lv_iconst (v := 0) C.1 C.2.1 d_Map_isJoined_34 (by decide) ?_
  refine lo_istore_n C hl d_Map_isJoined_35 (Nat.le_of_ble_eq_true rfl) rfl (fun ls hl => ?_)
  refine W.loop (α := (Nat) × (Array Slot) × (List Nat) × (Heap) × (List Loc) × (Nat → va_E)) (fun a => 96 - a.1) (fun a => (a.1 ≤ 96) ∧ (joinedE K a.1) ∧ (a.2.2.2.2.2 mp = .inr (1, [.ref ka])) ∧ (mp ∈ P ++ a.2.2.1) ∧ (ce a.2.2.2.2.2 q1 (fun d => false || decide (K d = 1))) ∧ (q1 ∈ P ++ a.2.2.1) ∧ (ce a.2.2.2.2.2 q2 (fun d => (false || decide (K d = 2)) || decide (K d = 3))) ∧ (q2 ∈ P ++ a.2.2.1) ∧ (kp P f a.2.2.2.2.2) ∧ lo a.2.1 [some (.ref mp), some (.ref q1), some (.ref q2), some (.int (nI a.1))] ∧ pgS G (pgA P s.heap.size) s.heap (P ++ a.2.2.1) a.2.2.2.2.2 a.2.2.2.1 a.2.2.2.2.1) (fun a => a.2.2.2.1) (fun a => a.2.2.2.2.1) (fun a => 2 + 2 * a.1) (fun a => 4 + 4 * a.1) (fun a => F0 m 36 a.2.1 []) ?_ (0, ls, _, H1, locs1, f17) ⟨Nat.zero_le _, fun x hx => absurd hx (Nat.not_lt_zero _), hc_m, (hPN ▸ hm_m), hs_c, (hPN ▸ hm_c), hs_r, (hPN ▸ hm_r), hkp, lo_weak hl ⟨rfl, rfl, rfl, rfl, trivial⟩, (hPN ▸ hM)⟩
  rintro ⟨j, ls, N1, H1, locs1, f1⟩ ⟨hj, hJ, hc_m, hm_m, hs_c, hm_c, hs_r, hm_r, hkp, hl, hM⟩ ih36
  dsimp only at hj hJ hc_m hm_m hs_c hm_c hs_r hm_r hkp hl hM
  show W _ _ _ _ _ _ _ _ _ _ _ _ (2 + 2 * j) (4 + 4 * j) _ (F0 m 36 ls [])
  have hPN : P ++ N1 = P ++ N1 := rfl
  refine lv_iload_n C.1 C.2.1 d_Map_isJoined_36 rfl (lo_at hl 3 rfl) ?_
  refine lv_bipush (v := 96) C.1 C.2.1 d_Map_isJoined_37 (by decide) ?_
  rw [show (96 : Int32) = nI 96 from rfl]
  refine lv_icmp_ge (tgt := 67) C.1 C.2.1 d_Map_isJoined_39 (by decide) (fun hc39 => ?_) (fun hc39 => ?_)
  · refine lv_iconst (v := 1) C.1 C.2.1 d_Map_isJoined_67 (by decide) ?_
    refine pg_zret C hr hlk hM hPN (by omega) (by omega) d_Map_isJoined_68 (by decide) ?_
    refine ⟨_, rfl, true, rfl, ⟨fun _ => ?_, fun _ => rfl⟩, hkp⟩
    have hj9 : j = 96 := Nat.le_antisymm hj (nI_leN (by omega) (by omega) hc39)
    rw [← hj9]
    exact hJ
  · have hj9 : j < 96 := nI_ltN (by omega) (by omega) hc39
    refine lv_aload_n C.1 C.2.1 d_Map_isJoined_42 rfl (lo_at hl 2 rfl) ?_
    refine lv_iload_n C.1 C.2.1 d_Map_isJoined_43 rfl (lo_at hl 3 rfl) ?_
    obtain ⟨_, _, hc_r, -⟩ := hs_r.words
    refine cg_callV C hE hM (k_Cel_has l G q2 _ hm_r hs_r j hj9) hm_r hc_r rfl tw_417 cy_Cel_has ⟨(Nat.le_of_ble_eq_true rfl), (Nat.le_of_ble_eq_true rfl)⟩ rfl hl.1 rfl (Nat.le_of_ble_eq_true rfl) ⟨by (try show _ ≤ 194); omega, by (try show _ ≤ 388); omega⟩ d_Map_isJoined_44 (fun x9 f18 H1 locs1 hp hM => ?_)
    obtain ⟨rfl, h9⟩ := hp
    rw [h9] at hM
    clear h9
    refine W.eq (g2 := F0 m 47 ls [_]) rfl ?_
    refine lv_if_eq (tgt := 61) C.1 C.2.1 d_Map_isJoined_47 (by decide) (fun hc47 => ?_) (fun hc47 => ?_)
    · replace hc47 := bz_0.mp hc47
      refine lo_iinc C hl d_Map_isJoined_61 rfl rfl (fun ls hl => ?_)
      refine lv_goto (tgt := 36) C.1 C.2.1 d_Map_isJoined_64 (by decide) ?_
      have hJn : joinedE K (j + 1) := fun x hx hE d hd hE2 => by
        by_cases e : x = j
        · rw [e] at hE; exact absurd (show (fun d => (false || decide (K d = 2)) || decide (K d = 3)) j = true from by rcases hE with h | h <;> simp [h]) hc47
        · exact hJ x (by omega) hE d hd hE2
      refine W.widen (k := 2 + 2 * (j + 1)) (n := 4 + 4 * (j + 1)) (by omega) (by omega) ?_
      have h9 := hl
      rw [nI_pl] at h9
      exact ih36 (j + 1, ls, _, H1, locs1, f1) ⟨by (try dsimp only); omega, hJn, hc_m, (hPN ▸ hm_m), hs_c, (hPN ▸ hm_c), hs_r, (hPN ▸ hm_r), hkp, lo_weak h9 ⟨rfl, rfl, rfl, rfl, trivial⟩, (hPN ▸ hM)⟩ (by show 96 - (j + 1) < 96 - j; omega)
    · replace hc47 := bz_1.mp hc47
      refine lv_iload_n C.1 C.2.1 d_Map_isJoined_50 rfl (lo_at hl 3 rfl) ?_
      refine lv_aload_n C.1 C.2.1 d_Map_isJoined_51 rfl (lo_at hl 1 rfl) ?_
      refine lv_aload_n C.1 C.2.1 d_Map_isJoined_52 rfl (lo_at hl 2 rfl) ?_
      refine cg_callSA C hE hM (k_Map_reachesAll l G j hj9 q1 q2 _ _ K hm_c hm_r hs_c hs_r (Ne.symm n21) (fun d _ => by simp) (fun d _ h => by simp at h; rcases h with h | h <;> rw [h] <;> decide)) tw_421 cy_Map_reachesAll ⟨(Nat.le_of_ble_eq_true rfl), (Nat.le_of_ble_eq_true rfl)⟩ rfl hl.1 rfl (Nat.le_of_ble_eq_true rfl) ⟨by (try show _ ≤ 194); omega, by (try show _ ≤ 388); omega⟩ d_Map_isJoined_53 (fun x9 N3 P3 f19 H1 locs1 hP3 hp hM => ?_)
      obtain ⟨qs, hN9, z9, hx9, hz9, hkp9⟩ := hp
      subst hx9
      have hkp0 := hkp
      have hkp := hkp9
      have hc_m := (hkp mp hm_m).trans hc_m
      have hm_m := (show mp ∈ P3 by rw [hP3]; exact List.mem_append_left _ hm_m)
      have hs_c := hs_c.congr (hkp q1 hm_c)
      have hm_c := (show q1 ∈ P3 by rw [hP3]; exact List.mem_append_left _ hm_c)
      have hs_r := hs_r.congr (hkp q2 hm_r)
      have hm_r := (show q2 ∈ P3 by rw [hP3]; exact List.mem_append_left _ hm_r)
      have hPN := hPN_app hPN hP3
      have hkp : kp P f f19 := fun y hy => (hkp9 y (by exact List.mem_append_left _ hy)).trans (hkp0 y hy)
      refine W.eq (g2 := F0 m 56 ls [_]) rfl ?_
      refine W.widen (k := 2 + 2 * (j + 1)) (n := 4 + 4 * (j + 1)) (by omega) (by omega) ?_
      refine lv_if_ne (tgt := 61) C.1 C.2.1 d_Map_isJoined_56 (by decide) (fun hc56 => ?_) (fun hc56 => ?_)
      · replace hc56 := bz_1.mp hc56
        refine lo_iinc C hl d_Map_isJoined_61 rfl rfl (fun ls hl => ?_)
        refine lv_goto (tgt := 36) C.1 C.2.1 d_Map_isJoined_64 (by decide) ?_
        have hJn : joinedE K (j + 1) := fun x hx hE d hd hE2 => by
          by_cases e : x = j
          · rw [e]; exact hz9.mp hc56 d hd (show (fun d => (false || decide (K d = 2)) || decide (K d = 3)) d = true from by rcases hE2 with h | h <;> simp [h])
          · exact hJ x (by omega) hE d hd hE2
        have h9 := hl
        rw [nI_pl] at h9
        exact ih36 (j + 1, ls, _, H1, locs1, f19) ⟨by (try dsimp only); omega, hJn, hc_m, (hPN ▸ hm_m), hs_c, (hPN ▸ hm_c), hs_r, (hPN ▸ hm_r), hkp, lo_weak h9 ⟨rfl, rfl, rfl, rfl, trivial⟩, (hPN ▸ hM)⟩ (by show 96 - (j + 1) < 96 - j; omega)
      · replace hc56 := bz_0.mp hc56
        refine lv_iconst (v := 0) C.1 C.2.1 d_Map_isJoined_59 (by decide) ?_
        refine pg_zret C hr hlk hM hPN (by omega) (by omega) d_Map_isJoined_60 (by decide) ?_
        refine ⟨_, rfl, false, rfl, ⟨fun z => absurd z (by decide), fun hall => ?_⟩, hkp⟩
        refine absurd (hz9.mpr (fun d hd hE2 => ?_)) hc56
        simp only [Bool.false_or, Bool.or_eq_true, decide_eq_true_eq] at hE2
        refine hall j hj9 ?_ d hd hE2
        have := hc47
        simp only [Bool.false_or, Bool.or_eq_true, decide_eq_true_eq] at this
        exact this
set_option maxHeartbeats 4000000 in
set_option maxRecDepth 100000 in
theorem k_Map_isGood (l : Launch) (G : GG) {P : List Nat} {f : Nat → va_E} (mp ka : Nat) (K : Nat → Int32) (hm_m : mp ∈ P) (hc_m : f mp = .inr (1, [.ref ka])) (hm_k : ka ∈ P) (hc_k : f ka = .inl (G.2.1 0, 96, .inl K)) (hK : kOk K)  : ct l G y_Map_isGood c_Map_isGood 3 (some .boolean) 4 94 (194) (388) [.ref mp] P f (fun x N f1 => ∃ qs, N = qs ∧ ∃ z : Bool, x = some (.int (bz (z = true))) ∧ (z = true ↔ good K) ∧ kp P f f1) := by
  refine ct_intro (by decide) [some (.ref mp), none, none] rfl rfl (Nat.le_of_ble_eq_true rfl) ?_
  intro p e s m below meth c ls C hr hlk hnm hE hM hl
  have hPN : P = P ++ [] := (List.append_nil P).symm
  refine lv_aload_n C.1 C.2.1 d_Map_isGood_0 rfl (lo_at hl 0 rfl) ?_
  refine lv_iconst (v := 3) C.1 C.2.1 d_Map_isGood_1 (by decide) ?_
  refine cg_callV C hE hM (k_Map_countOf l G mp ka K hm_m hc_m hm_k hc_k _) hm_m hc_m rfl tw_388 cy_Map_countOf ⟨(Nat.le_of_ble_eq_true rfl), (Nat.le_of_ble_eq_true rfl)⟩ rfl hl.1 rfl (Nat.le_of_ble_eq_true rfl) ⟨by (try show _ ≤ 194); omega, by (try show _ ≤ 388); omega⟩ d_Map_isGood_2 (fun x9 f11 H1 locs1 hp hM => ?_)
  obtain ⟨rfl, h9⟩ := hp
  rw [h9] at hM
  clear h9
  refine W.eq (g2 := F0 m 5 ls [_]) rfl ?_
  refine lo_istore_n C hl d_Map_isGood_5 (Nat.le_of_ble_eq_true rfl) rfl (fun ls hl => ?_)
  refine lv_aload_n C.1 C.2.1 d_Map_isGood_6 rfl (lo_at hl 0 rfl) ?_
  refine lv_iconst (v := 2) C.1 C.2.1 d_Map_isGood_7 (by decide) ?_
  refine cg_callV C hE hM (k_Map_countOf l G mp ka K hm_m hc_m hm_k hc_k _) hm_m hc_m rfl tw_388 cy_Map_countOf ⟨(Nat.le_of_ble_eq_true rfl), (Nat.le_of_ble_eq_true rfl)⟩ rfl hl.1 rfl (Nat.le_of_ble_eq_true rfl) ⟨by (try show _ ≤ 194); omega, by (try show _ ≤ 388); omega⟩ d_Map_isGood_8 (fun x9 f12 H1 locs1 hp hM => ?_)
  obtain ⟨rfl, h9⟩ := hp
  rw [h9] at hM
  clear h9
  refine W.eq (g2 := F0 m 11 ls [_]) rfl ?_
  refine lo_istore_n C hl d_Map_isGood_11 (Nat.le_of_ble_eq_true rfl) rfl (fun ls hl => ?_)
  have h3 := cn_le (K := K) (k := 3) 96
  have h2 := cn_le (K := K) (k := 2) 96
  have i3 := nI_toInt (n := cn K 3 96) (by omega)
  have i2 := nI_toInt (n := cn K 2 96) (by omega)
  refine lv_iload_n C.1 C.2.1 d_Map_isGood_12 rfl (lo_at hl 1 rfl) ?_
  refine lv_iconst (v := 1) C.1 C.2.1 d_Map_isGood_13 (by decide) ?_
  refine lv_icmp_lt (tgt := 45) C.1 C.2.1 d_Map_isGood_14 (by decide) (fun hc14 => ?_) (fun hc14 => ?_)
  · refine lv_iconst (v := 0) C.1 C.2.1 d_Map_isGood_45 (by decide) ?_
    refine pg_zret C hr hlk hM hPN (by omega) (by omega) d_Map_isGood_46 (by decide) ?_
    have g14 : cn K 3 96 < 1 := by have := hc14; rw [Int32.lt_iff_toInt_lt, i3, show (1 : Int32).toInt = 1 from by decide] at this; omega
    refine ⟨_, rfl, false, rfl, ⟨fun z => absurd z (by decide), fun h => ?_⟩, fun _ _ => rfl⟩
    obtain ⟨⟨⟨a1, a2⟩, a3, a4⟩, -⟩ := h
    omega
  · refine lv_iload_n C.1 C.2.1 d_Map_isGood_17 rfl (lo_at hl 1 rfl) ?_
    refine lv_bipush (v := 6) C.1 C.2.1 d_Map_isGood_18 (by decide) ?_
    refine lv_icmp_gt (tgt := 45) C.1 C.2.1 d_Map_isGood_20 (by decide) (fun hc20 => ?_) (fun hc20 => ?_)
    · refine lv_iconst (v := 0) C.1 C.2.1 d_Map_isGood_45 (by decide) ?_
      refine pg_zret C hr hlk hM hPN (by omega) (by omega) d_Map_isGood_46 (by decide) ?_
      have g14 : ¬ cn K 3 96 < 1 := by have := hc14; rw [Int32.lt_iff_toInt_lt, i3, show (1 : Int32).toInt = 1 from by decide] at this; omega
      have g20 : 6 < cn K 3 96 := by have := hc20; rw [Int32.lt_iff_toInt_lt, i3, show (6 : Int32).toInt = 6 from by decide] at this; omega
      refine ⟨_, rfl, false, rfl, ⟨fun z => absurd z (by decide), fun h => ?_⟩, fun _ _ => rfl⟩
      obtain ⟨⟨⟨a1, a2⟩, a3, a4⟩, -⟩ := h
      omega
    · refine lv_iload_n C.1 C.2.1 d_Map_isGood_23 rfl (lo_at hl 2 rfl) ?_
      refine lv_iconst (v := 2) C.1 C.2.1 d_Map_isGood_24 (by decide) ?_
      refine lv_icmp_lt (tgt := 45) C.1 C.2.1 d_Map_isGood_25 (by decide) (fun hc25 => ?_) (fun hc25 => ?_)
      · refine lv_iconst (v := 0) C.1 C.2.1 d_Map_isGood_45 (by decide) ?_
        refine pg_zret C hr hlk hM hPN (by omega) (by omega) d_Map_isGood_46 (by decide) ?_
        have g14 : ¬ cn K 3 96 < 1 := by have := hc14; rw [Int32.lt_iff_toInt_lt, i3, show (1 : Int32).toInt = 1 from by decide] at this; omega
        have g20 : ¬ 6 < cn K 3 96 := by have := hc20; rw [Int32.lt_iff_toInt_lt, i3, show (6 : Int32).toInt = 6 from by decide] at this; omega
        have g25 : cn K 2 96 < 2 := by have := hc25; rw [Int32.lt_iff_toInt_lt, i2, show (2 : Int32).toInt = 2 from by decide] at this; omega
        refine ⟨_, rfl, false, rfl, ⟨fun z => absurd z (by decide), fun h => ?_⟩, fun _ _ => rfl⟩
        obtain ⟨⟨⟨a1, a2⟩, a3, a4⟩, -⟩ := h
        omega
      · refine lv_iload_n C.1 C.2.1 d_Map_isGood_28 rfl (lo_at hl 2 rfl) ?_
        refine lv_bipush (v := 16) C.1 C.2.1 d_Map_isGood_29 (by decide) ?_
        refine lv_icmp_gt (tgt := 45) C.1 C.2.1 d_Map_isGood_31 (by decide) (fun hc31 => ?_) (fun hc31 => ?_)
        · refine lv_iconst (v := 0) C.1 C.2.1 d_Map_isGood_45 (by decide) ?_
          refine pg_zret C hr hlk hM hPN (by omega) (by omega) d_Map_isGood_46 (by decide) ?_
          have g14 : ¬ cn K 3 96 < 1 := by have := hc14; rw [Int32.lt_iff_toInt_lt, i3, show (1 : Int32).toInt = 1 from by decide] at this; omega
          have g20 : ¬ 6 < cn K 3 96 := by have := hc20; rw [Int32.lt_iff_toInt_lt, i3, show (6 : Int32).toInt = 6 from by decide] at this; omega
          have g25 : ¬ cn K 2 96 < 2 := by have := hc25; rw [Int32.lt_iff_toInt_lt, i2, show (2 : Int32).toInt = 2 from by decide] at this; omega
          have g31 : 16 < cn K 2 96 := by have := hc31; rw [Int32.lt_iff_toInt_lt, i2, show (16 : Int32).toInt = 16 from by decide] at this; omega
          refine ⟨_, rfl, false, rfl, ⟨fun z => absurd z (by decide), fun h => ?_⟩, fun _ _ => rfl⟩
          obtain ⟨⟨⟨a1, a2⟩, a3, a4⟩, -⟩ := h
          omega
        · refine lv_aload_n C.1 C.2.1 d_Map_isGood_34 rfl (lo_at hl 0 rfl) ?_
          refine cg_callVA C hE hM (k_Map_isJoined l G mp ka K hm_m hc_m hm_k hc_k hK) hm_m hc_m rfl tw_392 cy_Map_isJoined ⟨(Nat.le_of_ble_eq_true rfl), (Nat.le_of_ble_eq_true rfl)⟩ rfl hl.1 rfl (Nat.le_of_ble_eq_true rfl) ⟨by (try show _ ≤ 194); omega, by (try show _ ≤ 388); omega⟩ d_Map_isGood_35 (fun x9 N1 P1 f13 H1 locs1 hP1 hp hM => ?_)
          obtain ⟨qs, hN9, z9, hx9, hz9, hkp⟩ := hp
          subst hx9
          have hc_m := (hkp mp hm_m).trans hc_m
          have hm_m := (show mp ∈ P1 by rw [hP1]; exact List.mem_append_left _ hm_m)
          have hc_k := (hkp ka hm_k).trans hc_k
          have hm_k := (show ka ∈ P1 by rw [hP1]; exact List.mem_append_left _ hm_k)
          have hPN := hPN_app hPN hP1
          refine W.eq (g2 := F0 m 38 ls [_]) rfl ?_
          refine W.widen (k := 194) (n := 388) (by omega) (by omega) ?_
          refine lv_if_eq (tgt := 45) C.1 C.2.1 d_Map_isGood_38 (by decide) (fun hc38 => ?_) (fun hc38 => ?_)
          · replace hc38 := bz_0.mp hc38
            refine lv_iconst (v := 0) C.1 C.2.1 d_Map_isGood_45 (by decide) ?_
            refine pg_zret C hr hlk hM hPN (by omega) (by omega) d_Map_isGood_46 (by decide) ?_
            have g14 : ¬ cn K 3 96 < 1 := by have := hc14; rw [Int32.lt_iff_toInt_lt, i3, show (1 : Int32).toInt = 1 from by decide] at this; omega
            have g20 : ¬ 6 < cn K 3 96 := by have := hc20; rw [Int32.lt_iff_toInt_lt, i3, show (6 : Int32).toInt = 6 from by decide] at this; omega
            have g25 : ¬ cn K 2 96 < 2 := by have := hc25; rw [Int32.lt_iff_toInt_lt, i2, show (2 : Int32).toInt = 2 from by decide] at this; omega
            have g31 : ¬ 16 < cn K 2 96 := by have := hc31; rw [Int32.lt_iff_toInt_lt, i2, show (16 : Int32).toInt = 16 from by decide] at this; omega
            have hg : gdC K := ⟨⟨by omega, by omega⟩, by omega, by omega⟩
            refine ⟨_, rfl, false, rfl, ⟨fun z => absurd z (by decide), fun h => absurd (hz9.mpr ((joinedE_good hK).mpr h.2)) hc38⟩, hkp⟩
          · replace hc38 := bz_1.mp hc38
            refine lv_iconst (v := 1) C.1 C.2.1 d_Map_isGood_41 (by decide) ?_
            refine lv_goto (tgt := 46) C.1 C.2.1 d_Map_isGood_42 (by decide) ?_
            refine pg_zret C hr hlk hM hPN (by omega) (by omega) d_Map_isGood_46 (by decide) ?_
            have g14 : ¬ cn K 3 96 < 1 := by have := hc14; rw [Int32.lt_iff_toInt_lt, i3, show (1 : Int32).toInt = 1 from by decide] at this; omega
            have g20 : ¬ 6 < cn K 3 96 := by have := hc20; rw [Int32.lt_iff_toInt_lt, i3, show (6 : Int32).toInt = 6 from by decide] at this; omega
            have g25 : ¬ cn K 2 96 < 2 := by have := hc25; rw [Int32.lt_iff_toInt_lt, i2, show (2 : Int32).toInt = 2 from by decide] at this; omega
            have g31 : ¬ 16 < cn K 2 96 := by have := hc31; rw [Int32.lt_iff_toInt_lt, i2, show (16 : Int32).toInt = 16 from by decide] at this; omega
            have hg : gdC K := ⟨⟨by omega, by omega⟩, by omega, by omega⟩
            refine ⟨_, rfl, true, rfl, ⟨fun _ => ⟨hg, (joinedE_good hK).mp (hz9.mp hc38)⟩, fun _ => rfl⟩, hkp⟩
