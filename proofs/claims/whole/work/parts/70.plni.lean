/-! the planner is made -/
theorem vp_arR {cA : ClassId} {n : Nat} {g g' : Nat → Option Nat} (h : ∀ j, j < n → g' j = g j) : vp_cell cA (n, .inr (.inr (.inr (.inr g)))) = vp_cell cA (n, .inr (.inr (.inr (.inr g')))) := by
  rw [vp_cell_q, vp_cell_q]
  unfold arrV
  congr 2
  funext j
  show va_rf (g j.val) = va_rf (g' j.val)
  rw [h j.val j.isLt]
/-- what stands behind an array's end doesn't matter -/
theorem pg_arR {G : GG} {A : Nat → Prop} {H0 H : Heap} {P : List Nat} {f : Nat → va_E} {locs : List Loc} (hM : pgS G A H0 P f H locs) {a t n : Nat} {g g' : Nat → Option Nat} (ha : a ∈ P) (hf : f a = arR G t n g) (hg : ∀ j, j < n → g' j = g j) : pgS G A H0 P (va_up f a (arR G t n g')) H locs := by
  obtain ⟨k, hk⟩ := hM.ix ha
  have hs := pg_set (e := arR G t n g') hM.2.1 ha hk
  refine ⟨?_, by rw [← hs]; exact hM.2.1.set hk, hM.2.2.1, hM.2.2.2⟩
  rw [← hs]
  intro j q hq
  by_cases e : j = k
  · subst e
    rw [List.getElem?_set_self (List.getElem?_eq_some_iff.mp hk).1] at hq
    cases Option.some.inj hq
    have h1 := hM.1 j _ hk
    rw [hf] at h1
    show H[a]? = some (vp_cell _ _)
    rw [← vp_arR hg]
    exact h1
  · rw [List.getElem?_set_ne (Ne.symm e)] at hq
    exact hM.1 j q hq
theorem lsW.wa {G : GG} {P : List Nat} {f f1 : Nat → va_E} {x : Nat} {y z : ClassId × vp_A} (h : lsW G P f) (hf1 : f1 = va_up f x (.inl y)) (hx : f x = .inl z) : lsW G P f1 := by
  subst hf1
  have key : ∀ a fs, va_up f x (.inl y) a = .inr (3, fs) → f a = .inr (3, fs) := by
    intro a fs h1
    by_cases e : a = x
    · rw [e, va_up_self] at h1; cases h1
    · rw [va_up_ne _ _ e] at h1; exact h1
  exact ⟨fun b1 b2 d n1 n2 m1 m2 h1 h2 h3 h4 h5 => h.1 b1 b2 d n1 n2 m1 m2 h1 h2 (key _ _ h3) (key _ _ h4) h5, fun a d n m h1 h2 => h.2 a d n m h1 (key _ _ h2)⟩
/-- the sets that are made so far -/
def fam (P : List Nat) (f : Nat → va_E) (Sc : Nat → Bool) (K : Nat → Option Nat) (lv : Nat → Prop) : Prop := (∀ i, lv i → ∃ x, K i = some x ∧ x ∈ P ∧ ce f x (if i = 0 then Sc else fun _ => false)) ∧ ∀ i j, lv i → lv j → K i = K j → i = j
theorem fam.nw {P P1 : List Nat} {f f1 : Nat → va_E} {Sc : Nat → Bool} {K : Nat → Option Nat} {lv : Nat → Prop} {q : Nat} {e : va_E} (h : fam P f Sc K lv) (hf : f1 = va_up f q e) (hq : q ∉ P) (hP : P1 = P ++ [q]) : fam P1 f1 Sc K lv := by
  refine ⟨fun i hi => ?_, h.2⟩
  obtain ⟨x, h1, h2, h3⟩ := h.1 i hi
  exact ⟨x, h1, by rw [hP]; exact List.mem_append_left _ h2, h3.congr (by rw [hf, va_up_ne _ _ (fun z : x = q => hq (z ▸ h2))])⟩
theorem fam.wa {P : List Nat} {f f1 : Nat → va_E} {Sc : Nat → Bool} {K : Nat → Option Nat} {lv : Nat → Prop} {a : Nat} {e : va_E} {z : ClassId × vp_A} (h : fam P f Sc K lv) (hf : f1 = va_up f a e) (ha : f a = .inl z) : fam P f1 Sc K lv := by
  refine ⟨fun i hi => ?_, h.2⟩
  obtain ⟨x, h1, h2, h3⟩ := h.1 i hi
  exact ⟨x, h1, h2, h3.congr (by rw [hf, va_up_ne _ _ (h3.ne ha).symm])⟩
theorem fam.wo {P : List Nat} {f f1 : Nat → va_E} {Sc : Nat → Bool} {K : Nat → Option Nat} {lv : Nat → Prop} {a ci : Nat} {e : va_E} {fs : List Value} (h : fam P f Sc K lv) (hf : f1 = va_up f a e) (ha : f a = .inr (ci, fs)) (hc : ci ≠ 4) : fam P f1 Sc K lv := by
  refine ⟨fun i hi => ?_, h.2⟩
  obtain ⟨x, h1, h2, h3⟩ := h.1 i hi
  exact ⟨x, h1, h2, h3.congr (by rw [hf, va_up_ne _ _ (h3.neO ha hc).symm])⟩
theorem fam.ext {P0 P : List Nat} {f0 f : Nat → va_E} {Sc : Nat → Bool} {K : Nat → Option Nat} {lv lv' : Nat → Prop} {q j : Nat} (h0 : fam P0 f0 Sc K lv) (h : fam P f Sc K lv) (hq0 : q ∉ P0) (hq : q ∈ P) (hce : ce f q (fun _ => false)) (hj : ¬ lv j) (hj0 : j ≠ 0) (hl : ∀ i, lv' i → lv i ∨ i = j) : fam P f Sc (va_up K j (some q)) lv' := by
  have hne : ∀ i, lv i → K i ≠ some q := fun i hi z => by
    obtain ⟨x, h1, h2, -⟩ := h0.1 i hi
    rw [z] at h1
    cases h1
    exact hq0 h2
  refine ⟨fun i hi => ?_, fun a b ha hb e => ?_⟩
  · rcases hl i hi with h1 | h1
    · rw [va_up_ne _ _ (fun z : i = j => hj (z ▸ h1))]; exact h.1 i h1
    · rw [h1, va_up_self]; exact ⟨q, rfl, hq, by rw [if_neg hj0]; exact hce⟩
  · rcases hl a ha with h1 | h1 <;> rcases hl b hb with h2 | h2
    · rw [va_up_ne _ _ (fun z : a = j => hj (z ▸ h1)), va_up_ne _ _ (fun z : b = j => hj (z ▸ h2))] at e; exact h.2 a b h1 h2 e
    · rw [va_up_ne _ _ (fun z : a = j => hj (z ▸ h1)), h2, va_up_self] at e; exact absurd e (hne a h1)
    · rw [h1, va_up_self, va_up_ne _ _ (fun z : b = j => hj (z ▸ h2))] at e; exact absurd e.symm (hne b h2)
    · rw [h1, h2]
theorem ce_0 {f : Nat → va_E} {q : Nat} (h : f q = .inr (4, [.long 0, .long 0])) : ce f q (fun _ => false) := ⟨0, 0, h, hi_0, hi_0, fun d _ => by unfold cb; split <;> exact (gb_zero _).symm⟩
def cut (K : Nat → Option Nat) (o t : Nat) : Nat → Option Nat := fun s => if s < t then K (o + s) else none
theorem cut_s {K : Nat → Option Nat} {o t q : Nat} : va_up (cut K o t) t (some q) = cut (va_up K (o + t) (some q)) o (t + 1) := by
  funext s
  unfold cut
  by_cases e : s = t
  · rw [e, va_up_self, if_pos (by omega), va_up_self]
  · rw [va_up_ne _ _ e]
    by_cases h : s < t
    · rw [if_pos h, if_pos (by omega), va_up_ne _ _ (by omega)]
    · rw [if_neg h, if_neg (by omega)]
theorem cut_k {K : Nat → Option Nat} {o t j q : Nat} (h : j < o ∨ o + t ≤ j) : cut (va_up K j (some q)) o t = cut K o t := by
  funext s
  unfold cut
  by_cases h1 : s < t
  · rw [if_pos h1, if_pos h1, va_up_ne _ _ (by omega)]
  · rw [if_neg h1, if_neg h1]
def lv1 (t : Nat) : Nat → Prop := fun i => i = 0 ∨ (3 ≤ i ∧ i < 3 + t) ∨ (156 ≤ i ∧ i < 156 + t)
def lv1b (t : Nat) : Nat → Prop := fun i => i = 0 ∨ (3 ≤ i ∧ i < 3 + (t + 1)) ∨ (156 ≤ i ∧ i < 156 + t)
def lv2 (t : Nat) : Nat → Prop := fun i => i = 0 ∨ (3 ≤ i ∧ i < 309 + t)
def lv3 : Nat → Prop := fun i => i ≠ 2 ∧ i < 762
def lv4 : Nat → Prop := fun i => i < 762
theorem pS_mk {G : GG} {pl va cm d0 d1 d2 d3 : Nat} {P : List Nat} {f : Nat → va_E} {Sc : Nat → Bool} {K : Nat → Option Nat} (hK : fam P f Sc K lv4) (h0 : K 0 = some cm) (a1 : pl ∈ P) (a2 : va ∈ P) (b0 : d0 ∈ P) (b1 : d1 ∈ P) (b2 : d2 ∈ P) (b3 : d3 ∈ P) {q r : Nat} (h1 : K 1 = some q) (h2 : K 2 = some r) (hp : f pl = .inr (9, [.ref cm, .ref va, .ref d0, .ref d1, .ref d2, .ref q, .ref r, .ref d3, .int 0, .int 0, .int 0, .int 0, .int 0])) (e0 : f d0 = arR G 4 153 (fun t => some ((K (3 + t)).getD 0))) (e1 : f d1 = arR G 4 153 (fun t => some ((K (156 + t)).getD 0))) (e2 : f d2 = arR G 4 453 (fun t => some ((K (309 + t)).getD 0))) (e3 : f d3 = .inl (G.2.1 0, 151, .inl (fun _ => 0))) : pS G pl va (fun k => if k = 0 then d0 else if k = 1 then d1 else if k = 2 then d2 else d3) (fun i => (K i).getD 0) P f f (fun i => if i = 0 then Sc else fun _ => false) (fun _ => 0) (fun _ => 0) := by
  have key : ∀ i, i < 762 → K i = some ((K i).getD 0) := fun i hi => by
    obtain ⟨x, hx, -⟩ := hK.1 i hi
    rw [hx]; rfl
  refine ⟨⟨a1, fun k hk => ?_, fun i hi => ?_, a2⟩, fun i j hi hj e => hK.2 i j hi hj (by rw [key i hi, key j hj]; exact congrArg some e), ⟨?_, e0, e1, e2, e3⟩, fun i hi => ?_, fun _ _ _ _ => rfl⟩
  · rcases (show k = 0 ∨ k = 1 ∨ k = 2 ∨ k = 3 by omega) with rfl | rfl | rfl | rfl
    · exact b0
    · exact b1
    · exact b2
    · exact b3
  · obtain ⟨x, hx, hm, -⟩ := hK.1 i hi
    dsimp only
    rw [hx]; exact hm
  · rw [hp]
    unfold plF
    simp only [h0, h1, h2]
    rfl
  · obtain ⟨x, hx, -, hc⟩ := hK.1 i hi
    dsimp only
    rw [hx]
    exact hc
theorem cut_eq {P : List Nat} {f : Nat → va_E} {Sc : Nat → Bool} {K : Nat → Option Nat} (hK : fam P f Sc K lv4) {o n : Nat} (h : o + n ≤ 762) : ∀ j, j < n → (fun t => some ((K (o + t)).getD 0)) j = cut K o n j := by
  intro j hj
  obtain ⟨x, hx, -⟩ := hK.1 (o + j) (show o + j < 762 by omega)
  unfold cut
  dsimp only
  rw [if_pos hj, hx]; rfl
set_option maxHeartbeats 4000000 in
set_option maxRecDepth 100000 in
theorem k_Pln_init (l : Launch) (G : GG) {P : List Nat} {f : Nat → va_E} (pl cm va : Nat) (Sc : Nat → Bool) (hm_p : pl ∈ P) (hc_p : f pl = .inr (9, [.null, .null, .null, .null, .null, .null, .null, .null, .int 0, .int 0, .int 0, .int 0, .int 0])) (hcm : cm ∈ P) (hs : ce f cm Sc) (hva : va ∈ P) (hW : lsW G P f)  : ct l G y_Pln_init c_Pln_init 4 none 2 40 (765) (2432) [.ref pl, .ref cm, .ref va] P f (fun x N f1 => x = none ∧ ∃ d c, c 0 = cm ∧ pS G pl va d c (P ++ N) f1 f1 (fun i => if i = 0 then Sc else fun _ => false) (fun _ => 0) (fun _ => 0) ∧ (∀ y, y ∈ P → y ≠ pl → f1 y = f y) ∧ lsW G (P ++ N) f1) := by
  refine ct_intro (by decide) [some (.ref pl), some (.ref cm), some (.ref va), none] rfl rfl (Nat.le_of_ble_eq_true rfl) ?_
  intro p e s m below meth c ls C hr hlk hnm hE hM hl
  have hK : fam P f Sc (fun _ => some cm) (lv1 0) := ⟨fun i hi => ⟨cm, rfl, hcm, by rw [if_pos (by unfold lv1 at hi; omega)]; exact hs⟩, fun i j hi hj _ => by unfold lv1 at hi hj; omega⟩
  have hPN : P = P ++ [] := (List.append_nil P).symm
  have hfr : ∀ y, y ∈ P → y ≠ pl → f y = f y := fun y _ _ => rfl
  refine lv_aload_n C.1 C.2.1 d_Pln_init_0 rfl (lo_at hl 0 rfl) ?_
  refine W.objInit C.1 C.2.1 C.2.2.2.1 (C.2.2.2.2 _ tw_525) (C.2.2.2.2 _ tw_32) (C.2.2.2.2 _ tw_33) rfl (by rw [C.2.2.1]; exact hl.1) rfl d_Pln_init_1 (Nat.le_of_ble_eq_true rfl) (Nat.le_of_ble_eq_true rfl) ?_
  refine W.eq (g2 := F0 m 4 ls []) rfl ?_
  refine lv_aload_n C.1 C.2.1 d_Pln_init_4 rfl (lo_at hl 0 rfl) ?_
  refine lv_aload_n C.1 C.2.1 d_Pln_init_5 rfl (lo_at hl 1 rfl) ?_
  have hp0 := hc_p
  refine cg_putF C hE hM hm_p hc_p rfl in_Pln ok_Pln n_Pln 0 (Nat.le_of_ble_eq_true rfl) tw_529 rfl rfl hnm rfl rfl rfl rfl (Nat.le_of_ble_eq_true rfl) d_Pln_init_6 (fun f11 H1 locs1 hf11 hM => ?_)
  have hW := hW.wr hf11 hc_p (by decide)
  have hc_p := (congrFun hf11 pl).trans (va_up_self _ _ _)
  have hfr : ∀ y, y ∈ P → y ≠ pl → f11 y = f y := fun y k0 k1 => ((congrFun hf11 y).trans (va_up_ne _ _ (k1))).trans (hfr y k0 k1)
  have hK := hK.wo hf11 hp0 (by decide)
  refine lv_aload_n C.1 C.2.1 d_Pln_init_9 rfl (lo_at hl 0 rfl) ?_
  refine lv_aload_n C.1 C.2.1 d_Pln_init_10 rfl (lo_at hl 2 rfl) ?_
  have hp0 := hc_p
  refine cg_putF C hE hM hm_p hc_p rfl in_Pln ok_Pln n_Pln 1 (Nat.le_of_ble_eq_true rfl) tw_530 rfl rfl hnm rfl rfl rfl rfl (Nat.le_of_ble_eq_true rfl) d_Pln_init_11 (fun f12 H1 locs1 hf12 hM => ?_)
  have hW := hW.wr hf12 hc_p (by decide)
  have hc_p := (congrFun hf12 pl).trans (va_up_self _ _ _)
  have hfr : ∀ y, y ∈ P → y ≠ pl → f12 y = f y := fun y k0 k1 => ((congrFun hf12 y).trans (va_up_ne _ _ (k1))).trans (hfr y k0 k1)
  have hK := hK.wo hf12 hp0 (by decide)
  refine lv_aload_n C.1 C.2.1 d_Pln_init_14 rfl (lo_at hl 0 rfl) ?_
  refine lv_sipush (v := 153) C.1 C.2.1 d_Pln_init_15 (by decide) ?_
  refine cg_newR C hE hM (t0 := 4) rfl hE.1.2.2.2.1 tw_526 153 rfl (by decide) (Nat.le_of_ble_eq_true rfl) (Nat.le_of_ble_eq_true rfl) d_Pln_init_18 (fun d0 P1 f13 H1 hd0 hP1 hf13 hM => ?_)
  have hc_p := ((congrFun hf13 pl).trans (va_up_ne _ _ (fun z => hd0 (z ▸ hm_p)))).trans hc_p
  have hm_p := (show pl ∈ P1 by rw [hP1]; exact List.mem_append_left _ hm_p)
  have hm_d0 : d0 ∈ P1 := by rw [hP1]; exact List.mem_append_right _ (List.mem_singleton.mpr rfl)
  have hc_d0 := (congrFun hf13 d0).trans (va_up_self _ _ _)
  have hW := hW.nw hf13 hd0 hP1 (fun z => cg_z0P hE hM (z ▸ hm_d0)) (by intros _ _ _ z; cases z)
  have hfr : ∀ y, y ∈ P → y ≠ pl → f13 y = f y := fun y k0 k1 => ((congrFun hf13 y).trans (va_up_ne _ _ (fun z => hd0 (z ▸ k0)))).trans (hfr y k0 k1)
  have hPN := hPN_new hPN hP1
  have hK := hK.nw hf13 hd0 hP1
  refine W.widen (k := 1) (n := 153) (by omega) (by omega) ?_
  have hp0 := hc_p
  refine cg_putF C hE hM hm_p hc_p rfl in_Pln ok_Pln n_Pln 2 (Nat.le_of_ble_eq_true rfl) tw_531 rfl rfl hnm rfl rfl rfl rfl (Nat.le_of_ble_eq_true rfl) d_Pln_init_21 (fun f14 H1 locs1 hf14 hM => ?_)
  have hc_d0 := ((congrFun hf14 d0).trans (va_up_ne _ _ (ar_ne hc_d0 hc_p))).trans hc_d0
  have hW := hW.wr hf14 hc_p (by decide)
  have hc_p := (congrFun hf14 pl).trans (va_up_self _ _ _)
  have hfr : ∀ y, y ∈ P → y ≠ pl → f14 y = f y := fun y k0 k1 => ((congrFun hf14 y).trans (va_up_ne _ _ (k1))).trans (hfr y k0 k1)
  have hK := hK.wo hf14 hp0 (by decide)
  refine lv_aload_n C.1 C.2.1 d_Pln_init_24 rfl (lo_at hl 0 rfl) ?_
  refine lv_sipush (v := 153) C.1 C.2.1 d_Pln_init_25 (by decide) ?_
  refine cg_newR C hE hM (t0 := 4) rfl hE.1.2.2.2.1 tw_526 153 rfl (by decide) (by (try show _ ≤ 765); omega) (by (try show _ ≤ 2432); omega) d_Pln_init_28 (fun d1 P2 f15 H1 hd1 hP2 hf15 hM => ?_)
  have hc_p := ((congrFun hf15 pl).trans (va_up_ne _ _ (fun z => hd1 (z ▸ hm_p)))).trans hc_p
  have hm_p := (show pl ∈ P2 by rw [hP2]; exact List.mem_append_left _ hm_p)
  have hc_d0 := ((congrFun hf15 d0).trans (va_up_ne _ _ (fun z => hd1 (z ▸ hm_d0)))).trans hc_d0
  have hm_d0 := (show d0 ∈ P2 by rw [hP2]; exact List.mem_append_left _ hm_d0)
  have hm_d1 : d1 ∈ P2 := by rw [hP2]; exact List.mem_append_right _ (List.mem_singleton.mpr rfl)
  have hc_d1 := (congrFun hf15 d1).trans (va_up_self _ _ _)
  have hW := hW.nw hf15 hd1 hP2 (fun z => cg_z0P hE hM (z ▸ hm_d1)) (by intros _ _ _ z; cases z)
  have hd1P : d1 ∉ P := fun z => hd1 (hPN ▸ List.mem_append_left _ z)
  have hfr : ∀ y, y ∈ P → y ≠ pl → f15 y = f y := fun y k0 k1 => ((congrFun hf15 y).trans (va_up_ne _ _ (fun z => hd1P (z ▸ k0)))).trans (hfr y k0 k1)
  have hPN := hPN_new hPN hP2
  have hK := hK.nw hf15 hd1 hP2
  have n01 : d0 ≠ d1 := fun z => hd1 (z ▸ (by rw [hP1]; exact List.mem_append_right _ (List.mem_singleton.mpr rfl)))
  refine W.widen (k := 2) (n := 306) (by omega) (by omega) ?_
  have hp0 := hc_p
  refine cg_putF C hE hM hm_p hc_p rfl in_Pln ok_Pln n_Pln 3 (Nat.le_of_ble_eq_true rfl) tw_532 rfl rfl hnm rfl rfl rfl rfl (Nat.le_of_ble_eq_true rfl) d_Pln_init_31 (fun f16 H1 locs1 hf16 hM => ?_)
  have hc_d0 := ((congrFun hf16 d0).trans (va_up_ne _ _ (ar_ne hc_d0 hc_p))).trans hc_d0
  have hc_d1 := ((congrFun hf16 d1).trans (va_up_ne _ _ (ar_ne hc_d1 hc_p))).trans hc_d1
  have hW := hW.wr hf16 hc_p (by decide)
  have hc_p := (congrFun hf16 pl).trans (va_up_self _ _ _)
  have hfr : ∀ y, y ∈ P → y ≠ pl → f16 y = f y := fun y k0 k1 => ((congrFun hf16 y).trans (va_up_ne _ _ (k1))).trans (hfr y k0 k1)
  have hK := hK.wo hf16 hp0 (by decide)
  refine lv_iconst (v := 0) C.1 C.2.1 d_Pln_init_34 (by decide) ?_
  refine lo_istore_n C hl d_Pln_init_35 (Nat.le_of_ble_eq_true rfl) rfl (fun ls hl => ?_)
  have hK0 : (fun _ => some cm : Nat → Option Nat) 0 = some cm := rfl
  have hcut : ∀ o, cut (fun _ => some cm) o 0 = fun _ => none := fun o => by funext s; unfold cut; rw [if_neg (by omega)]
  rw [← hcut 3] at hc_d0
  rw [← hcut 156] at hc_d1
  refine W.loop (α := (Nat) × (Nat → Option Nat) × (Array Slot) × (List Nat) × (Heap) × (List Loc) × (Nat → va_E)) (fun zz => 153 - zz.1) (fun zz => (zz.1 ≤ 153) ∧ (fam (P ++ zz.2.2.2.1) zz.2.2.2.2.2.2 Sc zz.2.1 (lv1 zz.1)) ∧ (zz.2.2.2.2.2.2 pl = .inr (9, [.ref cm, .ref va, .ref d0, .ref d1, .null, .null, .null, .null, .int 0, .int 0, .int 0, .int 0, .int 0])) ∧ (zz.2.2.2.2.2.2 d0 = arR G 4 153 (cut zz.2.1 3 zz.1)) ∧ (zz.2.2.2.2.2.2 d1 = arR G 4 153 (cut zz.2.1 156 zz.1)) ∧ (zz.2.1 0 = some cm) ∧ (pl ∈ P ++ zz.2.2.2.1) ∧ (d0 ∈ P ++ zz.2.2.2.1) ∧ (d1 ∈ P ++ zz.2.2.2.1) ∧ (lsW G (P ++ zz.2.2.2.1) zz.2.2.2.2.2.2) ∧ (∀ y, y ∈ P → y ≠ pl → zz.2.2.2.2.2.2 y = f y) ∧ lo zz.2.2.1 [some (.ref pl), some (.ref cm), some (.ref va), some (.int (nI zz.1))] ∧ pgS G (pgA P s.heap.size) s.heap (P ++ zz.2.2.2.1) zz.2.2.2.2.2.2 zz.2.2.2.2.1 zz.2.2.2.2.2.1) (fun zz => zz.2.2.2.2.1) (fun zz => zz.2.2.2.2.2.1) (fun zz => 2 + 2 * zz.1) (fun zz => 306 + 4 * zz.1) (fun zz => F0 m 36 zz.2.2.1 []) ?_ (0, (fun _ => some cm), ls, _, H1, locs1, f16) ⟨Nat.zero_le _, (hPN ▸ hK), hc_p, hc_d0, hc_d1, hK0, (hPN ▸ hm_p), (hPN ▸ hm_d0), (hPN ▸ hm_d1), (hPN ▸ hW), hfr, lo_weak hl ⟨rfl, rfl, rfl, rfl, trivial⟩, (hPN ▸ hM)⟩
  rintro ⟨t, K, ls, N1, H1, locs1, f1⟩ ⟨ht, hK, hc_p, hc_d0, hc_d1, hK0, hm_p, hm_d0, hm_d1, hW, hfr, hl, hM⟩ ih36
  dsimp only at ht hK hc_p hc_d0 hc_d1 hK0 hm_p hm_d0 hm_d1 hW hfr hl hM
  show W _ _ _ _ _ _ _ _ _ _ _ _ (2 + 2 * t) (306 + 4 * t) _ (F0 m 36 ls [])
  have hPN : P ++ N1 = P ++ N1 := rfl
  refine lv_iload_n C.1 C.2.1 d_Pln_init_36 rfl (lo_at hl 3 rfl) ?_
  refine lv_sipush (v := 153) C.1 C.2.1 d_Pln_init_37 (by decide) ?_
  rw [show (153 : Int32) = nI 153 from rfl]
  refine lv_icmp_ge (tgt := 75) C.1 C.2.1 d_Pln_init_40 (by decide) (fun hc40 => ?_) (fun hc40 => ?_)
  · have ht9 : t = 153 := Nat.le_antisymm ht (nI_leN (by omega) (by omega) hc40)
    refine lv_aload_n C.1 C.2.1 d_Pln_init_75 rfl (lo_at hl 0 rfl) ?_
    refine lv_sipush (v := 453) C.1 C.2.1 d_Pln_init_76 (by decide) ?_
    have hd0m := hm_d0
    have hd1m := hm_d1
    rw [ht9] at hK hc_d0 hc_d1
    refine cg_newR C hE hM (t0 := 4) rfl hE.1.2.2.2.1 tw_526 453 rfl (by decide) (by (try show _ ≤ 765); omega) (by (try show _ ≤ 2432); omega) d_Pln_init_79 (fun d2 P3 f17 H1 hd2 hP3 hf17 hM => ?_)
    have hc_p := ((congrFun hf17 pl).trans (va_up_ne _ _ (fun z => hd2 (z ▸ hm_p)))).trans hc_p
    have hm_p := (show pl ∈ P3 by rw [hP3]; exact List.mem_append_left _ hm_p)
    have hc_d0 := ((congrFun hf17 d0).trans (va_up_ne _ _ (fun z => hd2 (z ▸ hm_d0)))).trans hc_d0
    have hm_d0 := (show d0 ∈ P3 by rw [hP3]; exact List.mem_append_left _ hm_d0)
    have hc_d1 := ((congrFun hf17 d1).trans (va_up_ne _ _ (fun z => hd2 (z ▸ hm_d1)))).trans hc_d1
    have hm_d1 := (show d1 ∈ P3 by rw [hP3]; exact List.mem_append_left _ hm_d1)
    have hm_d2 : d2 ∈ P3 := by rw [hP3]; exact List.mem_append_right _ (List.mem_singleton.mpr rfl)
    have hc_d2 := (congrFun hf17 d2).trans (va_up_self _ _ _)
    have hW := hW.nw hf17 hd2 hP3 (fun z => cg_z0P hE hM (z ▸ hm_d2)) (by intros _ _ _ z; cases z)
    have hd2P : d2 ∉ P := fun z => hd2 (hPN ▸ List.mem_append_left _ z)
    have hfr : ∀ y, y ∈ P → y ≠ pl → f17 y = f y := fun y k0 k1 => ((congrFun hf17 y).trans (va_up_ne _ _ (fun z => hd2P (z ▸ k0)))).trans (hfr y k0 k1)
    have hPN := hPN_new hPN hP3
    have hK := hK.nw hf17 hd2 hP3
    have n02 : d0 ≠ d2 := fun z => hd2 (z ▸ hd0m)
    have n12 : d1 ≠ d2 := fun z => hd2 (z ▸ hd1m)
    refine W.widen (k := 309) (n := 1371) (by omega) (by omega) ?_
    have hp0 := hc_p
    refine cg_putF C hE hM hm_p hc_p rfl in_Pln ok_Pln n_Pln 4 (Nat.le_of_ble_eq_true rfl) tw_533 rfl rfl hnm rfl rfl rfl rfl (Nat.le_of_ble_eq_true rfl) d_Pln_init_82 (fun f18 H1 locs1 hf18 hM => ?_)
    have hc_d0 := ((congrFun hf18 d0).trans (va_up_ne _ _ (ar_ne hc_d0 hc_p))).trans hc_d0
    have hc_d1 := ((congrFun hf18 d1).trans (va_up_ne _ _ (ar_ne hc_d1 hc_p))).trans hc_d1
    have hc_d2 := ((congrFun hf18 d2).trans (va_up_ne _ _ (ar_ne hc_d2 hc_p))).trans hc_d2
    have hW := hW.wr hf18 hc_p (by decide)
    have hc_p := (congrFun hf18 pl).trans (va_up_self _ _ _)
    have hfr : ∀ y, y ∈ P → y ≠ pl → f18 y = f y := fun y k0 k1 => ((congrFun hf18 y).trans (va_up_ne _ _ (k1))).trans (hfr y k0 k1)
    have hK := hK.wo hf18 hp0 (by decide)
    refine lv_iconst (v := 0) C.1 C.2.1 d_Pln_init_85 (by decide) ?_
    refine lo_istore_n C hl d_Pln_init_86 (Nat.le_of_ble_eq_true rfl) rfl (fun ls hl => ?_)
    have hcut : cut K 309 0 = fun _ => none := by funext s; unfold cut; rw [if_neg (by omega)]
    rw [← hcut] at hc_d2
    refine W.loop (α := (Nat) × (Nat → Option Nat) × (Array Slot) × (List Nat) × (Heap) × (List Loc) × (Nat → va_E)) (fun zz => 453 - zz.1) (fun zz => (zz.1 ≤ 453) ∧ (fam (P ++ zz.2.2.2.1) zz.2.2.2.2.2.2 Sc zz.2.1 (lv2 zz.1)) ∧ (zz.2.2.2.2.2.2 pl = .inr (9, [.ref cm, .ref va, .ref d0, .ref d1, .ref d2, .null, .null, .null, .int 0, .int 0, .int 0, .int 0, .int 0])) ∧ (zz.2.2.2.2.2.2 d0 = arR G 4 153 (cut zz.2.1 3 153)) ∧ (zz.2.2.2.2.2.2 d1 = arR G 4 153 (cut zz.2.1 156 153)) ∧ (zz.2.2.2.2.2.2 d2 = arR G 4 453 (cut zz.2.1 309 zz.1)) ∧ (d2 ∈ P ++ zz.2.2.2.1) ∧ (zz.2.1 0 = some cm) ∧ (pl ∈ P ++ zz.2.2.2.1) ∧ (d0 ∈ P ++ zz.2.2.2.1) ∧ (d1 ∈ P ++ zz.2.2.2.1) ∧ (lsW G (P ++ zz.2.2.2.1) zz.2.2.2.2.2.2) ∧ (∀ y, y ∈ P → y ≠ pl → zz.2.2.2.2.2.2 y = f y) ∧ lo zz.2.2.1 [some (.ref pl), some (.ref cm), some (.ref va), some (.int (nI zz.1))] ∧ pgS G (pgA P s.heap.size) s.heap (P ++ zz.2.2.2.1) zz.2.2.2.2.2.2 zz.2.2.2.2.1 zz.2.2.2.2.2.1) (fun zz => zz.2.2.2.2.1) (fun zz => zz.2.2.2.2.2.1) (fun zz => 309 + zz.1) (fun zz => 1371 + 2 * zz.1) (fun zz => F0 m 87 zz.2.2.1 []) ?_ (0, K, ls, _, H1, locs1, f18) ⟨Nat.zero_le _, (hPN ▸ ⟨fun i hi => hK.1 i (by unfold lv2 at hi; unfold lv1; omega), fun i j hi hj => hK.2 i j (by unfold lv2 at hi; unfold lv1; omega) (by unfold lv2 at hj; unfold lv1; omega)⟩), hc_p, hc_d0, hc_d1, hc_d2, (hPN ▸ hm_d2), hK0, (hPN ▸ hm_p), (hPN ▸ hm_d0), (hPN ▸ hm_d1), (hPN ▸ hW), hfr, lo_weak hl ⟨rfl, rfl, rfl, rfl, trivial⟩, (hPN ▸ hM)⟩
    rintro ⟨j, K, ls, N1, H1, locs1, f1⟩ ⟨hj, hK, hc_p, hc_d0, hc_d1, hc_d2, hm_d2, hK0, hm_p, hm_d0, hm_d1, hW, hfr, hl, hM⟩ ih87
    dsimp only at hj hK hc_p hc_d0 hc_d1 hc_d2 hm_d2 hK0 hm_p hm_d0 hm_d1 hW hfr hl hM
    show W _ _ _ _ _ _ _ _ _ _ _ _ (309 + j) (1371 + 2 * j) _ (F0 m 87 ls [])
    have hPN : P ++ N1 = P ++ N1 := rfl
    refine lv_iload_n C.1 C.2.1 d_Pln_init_87 rfl (lo_at hl 3 rfl) ?_
    refine lv_aload_n C.1 C.2.1 d_Pln_init_88 rfl (lo_at hl 0 rfl) ?_
    refine pg_get C hE hM hm_p hc_p rfl in_Pln 4 (Nat.le_of_ble_eq_true rfl) tw_533 rfl rfl d_Pln_init_89 ?_
    refine pg_alen C hE hM hm_d2 (t0 := 4) (Nat.le_of_ble_eq_true rfl) hc_d2 d_Pln_init_92 ?_
    refine lv_icmp_ge (tgt := 115) C.1 C.2.1 d_Pln_init_93 (by decide) (fun hc93 => ?_) (fun hc93 => ?_)
    · have hj9 : j = 453 := Nat.le_antisymm hj (nI_leN (by omega) (by omega) hc93)
      rw [hj9] at hK hc_d2
      refine lv_aload_n C.1 C.2.1 d_Pln_init_115 rfl (lo_at hl 0 rfl) ?_
      refine cg_new C hE hM (ci := 4) (fs := [.long 0, .long 0]) rfl in_Cel ok_Cel tw_526 tw_397 tw_12 (by decide) (by (try show _ ≤ 765); omega) (by (try show _ ≤ 2432); omega) d_Pln_init_116 (fun q P4 f19 H1 hq hP4 hf19 hM => ?_)
      have hc_p := ((congrFun hf19 pl).trans (va_up_ne _ _ (fun z => hq (z ▸ hm_p)))).trans hc_p
      have hm_p := (show pl ∈ P4 by rw [hP4]; exact List.mem_append_left _ hm_p)
      have hc_d0 := ((congrFun hf19 d0).trans (va_up_ne _ _ (fun z => hq (z ▸ hm_d0)))).trans hc_d0
      have hm_d0 := (show d0 ∈ P4 by rw [hP4]; exact List.mem_append_left _ hm_d0)
      have hc_d1 := ((congrFun hf19 d1).trans (va_up_ne _ _ (fun z => hq (z ▸ hm_d1)))).trans hc_d1
      have hm_d1 := (show d1 ∈ P4 by rw [hP4]; exact List.mem_append_left _ hm_d1)
      have hc_d2 := ((congrFun hf19 d2).trans (va_up_ne _ _ (fun z => hq (z ▸ hm_d2)))).trans hc_d2
      have hm_d2 := (show d2 ∈ P4 by rw [hP4]; exact List.mem_append_left _ hm_d2)
      have hm_q : q ∈ P4 := by rw [hP4]; exact List.mem_append_right _ (List.mem_singleton.mpr rfl)
      have hc_q := (congrFun hf19 q).trans (va_up_self _ _ _)
      have hW := hW.nw hf19 hq hP4 (fun z => cg_z0P hE hM (z ▸ hm_q)) (by intros _ _ _ z; cases z)
      have hqP : q ∉ P := fun z => hq (hPN ▸ List.mem_append_left _ z)
      have hfr : ∀ y, y ∈ P → y ≠ pl → f19 y = f y := fun y k0 k1 => ((congrFun hf19 y).trans (va_up_ne _ _ (fun z => hqP (z ▸ k0)))).trans (hfr y k0 k1)
      have hPN := hPN_new hPN hP4
      have hK1 := hK.nw hf19 hq hP4
      have hK : fam P4 f19 Sc (va_up K (1) (some q)) (lv3) := fam.ext hK hK1 hq hm_q (ce_0 hc_q) (by unfold lv2; omega) (by omega) (fun i hi => by unfold lv3 at hi; unfold lv2; omega)
      refine W.widen (k := 763) (n := 2279) (by omega) (by omega) ?_
      refine lv_dup C.1 C.2.1 d_Pln_init_119 rfl ?_
      refine cg_callIN C hE hM (k_Cel_init l G _) nw_528 cy_Cel_init ⟨(Nat.le_of_ble_eq_true rfl), (Nat.le_of_ble_eq_true rfl)⟩ rfl hl.1 rfl (Nat.le_of_ble_eq_true rfl) ⟨by (try show _ ≤ 765); omega, by (try show _ ≤ 2432); omega⟩ d_Pln_init_120 (fun x9 f20 H1 locs1 hp hM => ?_)
      obtain ⟨rfl, h9⟩ := hp
      rw [h9] at hM
      clear h9
      refine W.eq (g2 := F0 m 123 ls [_, _]) rfl ?_
      have hp0 := hc_p
      refine cg_putF C hE hM hm_p hc_p rfl in_Pln ok_Pln n_Pln 5 (Nat.le_of_ble_eq_true rfl) tw_534 rfl rfl hnm rfl rfl rfl rfl (Nat.le_of_ble_eq_true rfl) d_Pln_init_123 (fun f21 H1 locs1 hf21 hM => ?_)
      have hc_d0 := ((congrFun hf21 d0).trans (va_up_ne _ _ (ar_ne hc_d0 hc_p))).trans hc_d0
      have hc_d1 := ((congrFun hf21 d1).trans (va_up_ne _ _ (ar_ne hc_d1 hc_p))).trans hc_d1
      have hc_d2 := ((congrFun hf21 d2).trans (va_up_ne _ _ (ar_ne hc_d2 hc_p))).trans hc_d2
      have hc_q := ((congrFun hf21 q).trans (va_up_ne _ _ (ob_ne hc_q hc_p (by decide)))).trans hc_q
      have hW := hW.wr hf21 hc_p (by decide)
      have hc_p := (congrFun hf21 pl).trans (va_up_self _ _ _)
      have hfr : ∀ y, y ∈ P → y ≠ pl → f21 y = f y := fun y k0 k1 => ((congrFun hf21 y).trans (va_up_ne _ _ (k1))).trans (hfr y k0 k1)
      have hK := hK.wo hf21 hp0 (by decide)
      refine lv_aload_n C.1 C.2.1 d_Pln_init_126 rfl (lo_at hl 0 rfl) ?_
      refine cg_new C hE hM (ci := 4) (fs := [.long 0, .long 0]) rfl in_Cel ok_Cel tw_526 tw_397 tw_12 (by decide) (by (try show _ ≤ 765); omega) (by (try show _ ≤ 2432); omega) d_Pln_init_127 (fun rr P5 f22 H1 hrr hP5 hf22 hM => ?_)
      have hc_p := ((congrFun hf22 pl).trans (va_up_ne _ _ (fun z => hrr (z ▸ hm_p)))).trans hc_p
      have hm_p := (show pl ∈ P5 by rw [hP5]; exact List.mem_append_left _ hm_p)
      have hc_d0 := ((congrFun hf22 d0).trans (va_up_ne _ _ (fun z => hrr (z ▸ hm_d0)))).trans hc_d0
      have hm_d0 := (show d0 ∈ P5 by rw [hP5]; exact List.mem_append_left _ hm_d0)
      have hc_d1 := ((congrFun hf22 d1).trans (va_up_ne _ _ (fun z => hrr (z ▸ hm_d1)))).trans hc_d1
      have hm_d1 := (show d1 ∈ P5 by rw [hP5]; exact List.mem_append_left _ hm_d1)
      have hc_d2 := ((congrFun hf22 d2).trans (va_up_ne _ _ (fun z => hrr (z ▸ hm_d2)))).trans hc_d2
      have hm_d2 := (show d2 ∈ P5 by rw [hP5]; exact List.mem_append_left _ hm_d2)
      have hc_q := ((congrFun hf22 q).trans (va_up_ne _ _ (fun z => hrr (z ▸ hm_q)))).trans hc_q
      have hm_q := (show q ∈ P5 by rw [hP5]; exact List.mem_append_left _ hm_q)
      have hm_rr : rr ∈ P5 := by rw [hP5]; exact List.mem_append_right _ (List.mem_singleton.mpr rfl)
      have hc_rr := (congrFun hf22 rr).trans (va_up_self _ _ _)
      have hW := hW.nw hf22 hrr hP5 (fun z => cg_z0P hE hM (z ▸ hm_rr)) (by intros _ _ _ z; cases z)
      have hrrP : rr ∉ P := fun z => hrr (hPN ▸ List.mem_append_left _ z)
      have hfr : ∀ y, y ∈ P → y ≠ pl → f22 y = f y := fun y k0 k1 => ((congrFun hf22 y).trans (va_up_ne _ _ (fun z => hrrP (z ▸ k0)))).trans (hfr y k0 k1)
      have hPN := hPN_new hPN hP5
      have hK1 := hK.nw hf22 hrr hP5
      have hK : fam P5 f22 Sc (va_up (va_up K 1 (some q)) (2) (some rr)) (lv4) := fam.ext hK hK1 hrr hm_rr (ce_0 hc_rr) (by unfold lv3; omega) (by omega) (fun i hi => by unfold lv4 at hi; unfold lv3; omega)
      refine W.widen (k := 764) (n := 2281) (by omega) (by omega) ?_
      refine lv_dup C.1 C.2.1 d_Pln_init_130 rfl ?_
      refine cg_callIN C hE hM (k_Cel_init l G _) nw_528 cy_Cel_init ⟨(Nat.le_of_ble_eq_true rfl), (Nat.le_of_ble_eq_true rfl)⟩ rfl hl.1 rfl (Nat.le_of_ble_eq_true rfl) ⟨by (try show _ ≤ 765); omega, by (try show _ ≤ 2432); omega⟩ d_Pln_init_131 (fun x9 f23 H1 locs1 hp hM => ?_)
      obtain ⟨rfl, h9⟩ := hp
      rw [h9] at hM
      clear h9
      refine W.eq (g2 := F0 m 134 ls [_, _]) rfl ?_
      have hp0 := hc_p
      refine cg_putF C hE hM hm_p hc_p rfl in_Pln ok_Pln n_Pln 6 (Nat.le_of_ble_eq_true rfl) tw_535 rfl rfl hnm rfl rfl rfl rfl (Nat.le_of_ble_eq_true rfl) d_Pln_init_134 (fun f24 H1 locs1 hf24 hM => ?_)
      have hc_d0 := ((congrFun hf24 d0).trans (va_up_ne _ _ (ar_ne hc_d0 hc_p))).trans hc_d0
      have hc_d1 := ((congrFun hf24 d1).trans (va_up_ne _ _ (ar_ne hc_d1 hc_p))).trans hc_d1
      have hc_d2 := ((congrFun hf24 d2).trans (va_up_ne _ _ (ar_ne hc_d2 hc_p))).trans hc_d2
      have hc_q := ((congrFun hf24 q).trans (va_up_ne _ _ (ob_ne hc_q hc_p (by decide)))).trans hc_q
      have hc_rr := ((congrFun hf24 rr).trans (va_up_ne _ _ (ob_ne hc_rr hc_p (by decide)))).trans hc_rr
      have hW := hW.wr hf24 hc_p (by decide)
      have hc_p := (congrFun hf24 pl).trans (va_up_self _ _ _)
      have hfr : ∀ y, y ∈ P → y ≠ pl → f24 y = f y := fun y k0 k1 => ((congrFun hf24 y).trans (va_up_ne _ _ (k1))).trans (hfr y k0 k1)
      have hK := hK.wo hf24 hp0 (by decide)
      refine lv_aload_n C.1 C.2.1 d_Pln_init_137 rfl (lo_at hl 0 rfl) ?_
      refine lv_sipush (v := 151) C.1 C.2.1 d_Pln_init_138 (by decide) ?_
      have d0m := hm_d0
      have d1m := hm_d1
      have d2m := hm_d2
      refine cg_newI C hE hM 151 rfl (by decide) (by (try show _ ≤ 765); omega) (by (try show _ ≤ 2432); omega) d_Pln_init_141 (fun d3 P6 f25 H1 hd3 hP6 hf25 hM => ?_)
      have hc_p := ((congrFun hf25 pl).trans (va_up_ne _ _ (fun z => hd3 (z ▸ hm_p)))).trans hc_p
      have hm_p := (show pl ∈ P6 by rw [hP6]; exact List.mem_append_left _ hm_p)
      have hc_d0 := ((congrFun hf25 d0).trans (va_up_ne _ _ (fun z => hd3 (z ▸ hm_d0)))).trans hc_d0
      have hm_d0 := (show d0 ∈ P6 by rw [hP6]; exact List.mem_append_left _ hm_d0)
      have hc_d1 := ((congrFun hf25 d1).trans (va_up_ne _ _ (fun z => hd3 (z ▸ hm_d1)))).trans hc_d1
      have hm_d1 := (show d1 ∈ P6 by rw [hP6]; exact List.mem_append_left _ hm_d1)
      have hc_d2 := ((congrFun hf25 d2).trans (va_up_ne _ _ (fun z => hd3 (z ▸ hm_d2)))).trans hc_d2
      have hm_d2 := (show d2 ∈ P6 by rw [hP6]; exact List.mem_append_left _ hm_d2)
      have hc_q := ((congrFun hf25 q).trans (va_up_ne _ _ (fun z => hd3 (z ▸ hm_q)))).trans hc_q
      have hm_q := (show q ∈ P6 by rw [hP6]; exact List.mem_append_left _ hm_q)
      have hc_rr := ((congrFun hf25 rr).trans (va_up_ne _ _ (fun z => hd3 (z ▸ hm_rr)))).trans hc_rr
      have hm_rr := (show rr ∈ P6 by rw [hP6]; exact List.mem_append_left _ hm_rr)
      have hm_d3 : d3 ∈ P6 := by rw [hP6]; exact List.mem_append_right _ (List.mem_singleton.mpr rfl)
      have hc_d3 := (congrFun hf25 d3).trans (va_up_self _ _ _)
      have hW := hW.nw hf25 hd3 hP6 (fun z => cg_z0P hE hM (z ▸ hm_d3)) (by intros _ _ _ z; cases z)
      have hd3P : d3 ∉ P := fun z => hd3 (hPN ▸ List.mem_append_left _ z)
      have hfr : ∀ y, y ∈ P → y ≠ pl → f25 y = f y := fun y k0 k1 => ((congrFun hf25 y).trans (va_up_ne _ _ (fun z => hd3P (z ▸ k0)))).trans (hfr y k0 k1)
      have hPN := hPN_new hPN hP6
      have hK := hK.nw hf25 hd3 hP6
      have n30 : d3 ≠ d0 := fun z => hd3 (z ▸ d0m)
      have n31 : d3 ≠ d1 := fun z => hd3 (z ▸ d1m)
      have n32 : d3 ≠ d2 := fun z => hd3 (z ▸ d2m)
      refine W.widen (k := 765) (n := 2432) (by omega) (by omega) ?_
      have hp0 := hc_p
      refine cg_putF C hE hM hm_p hc_p rfl in_Pln ok_Pln n_Pln 7 (Nat.le_of_ble_eq_true rfl) tw_536 rfl rfl hnm rfl rfl rfl rfl (Nat.le_of_ble_eq_true rfl) d_Pln_init_143 (fun f26 H1 locs1 hf26 hM => ?_)
      have hc_d0 := ((congrFun hf26 d0).trans (va_up_ne _ _ (ar_ne hc_d0 hc_p))).trans hc_d0
      have hc_d1 := ((congrFun hf26 d1).trans (va_up_ne _ _ (ar_ne hc_d1 hc_p))).trans hc_d1
      have hc_d2 := ((congrFun hf26 d2).trans (va_up_ne _ _ (ar_ne hc_d2 hc_p))).trans hc_d2
      have hc_q := ((congrFun hf26 q).trans (va_up_ne _ _ (ob_ne hc_q hc_p (by decide)))).trans hc_q
      have hc_rr := ((congrFun hf26 rr).trans (va_up_ne _ _ (ob_ne hc_rr hc_p (by decide)))).trans hc_rr
      have hc_d3 := ((congrFun hf26 d3).trans (va_up_ne _ _ (ar_ne hc_d3 hc_p))).trans hc_d3
      have hW := hW.wr hf26 hc_p (by decide)
      have hc_p := (congrFun hf26 pl).trans (va_up_self _ _ _)
      have hfr : ∀ y, y ∈ P → y ≠ pl → f26 y = f y := fun y k0 k1 => ((congrFun hf26 y).trans (va_up_ne _ _ (k1))).trans (hfr y k0 k1)
      have hK := hK.wo hf26 hp0 (by decide)
      rw [← cut_k (K := K) (o := 3) (t := 153) (j := 1) (q := q) (by omega), ← cut_k (o := 3) (t := 153) (j := 2) (q := rr) (by omega)] at hc_d0
      rw [← cut_k (K := K) (o := 156) (t := 153) (j := 1) (q := q) (by omega), ← cut_k (o := 156) (t := 153) (j := 2) (q := rr) (by omega)] at hc_d1
      rw [← cut_k (K := K) (o := 309) (t := 453) (j := 1) (q := q) (by omega), ← cut_k (o := 309) (t := 453) (j := 2) (q := rr) (by omega)] at hc_d2
      obtain ⟨fA, hfA⟩ : ∃ fA, fA = va_up f26 d0 (arR G 4 153 (fun t => some (((va_up (va_up K 1 (some q)) 2 (some rr)) (3 + t)).getD 0))) := ⟨_, rfl⟩
      have hM := pg_arR hM hm_d0 hc_d0 (cut_eq hK (o := 3) (n := 153) (by decide))
      rw [← hfA] at hM
      have hW := hW.wa hfA hc_d0
      have hK := hK.wa hfA hc_d0
      have hc_p := ((congrFun hfA pl).trans (va_up_ne _ _ (ar_ne hc_d0 hc_p).symm)).trans hc_p
      have hc_d1 := ((congrFun hfA d1).trans (va_up_ne _ _ (Ne.symm n01))).trans hc_d1
      have hc_d2 := ((congrFun hfA d2).trans (va_up_ne _ _ (Ne.symm n02))).trans hc_d2
      have hc_d3 := ((congrFun hfA d3).trans (va_up_ne _ _ n30)).trans hc_d3
      have hfr : ∀ y, y ∈ P → y ≠ pl → fA y = f y := fun y k0 k1 => ((congrFun hfA y).trans (va_up_ne _ _ (fun z => hd0 (z ▸ k0)))).trans (hfr y k0 k1)
      have hc_d0 := (congrFun hfA d0).trans (va_up_self _ _ _)
      obtain ⟨fB, hfB⟩ : ∃ fB, fB = va_up fA d1 (arR G 4 153 (fun t => some (((va_up (va_up K 1 (some q)) 2 (some rr)) (156 + t)).getD 0))) := ⟨_, rfl⟩
      have hM := pg_arR hM hm_d1 hc_d1 (cut_eq hK (o := 156) (n := 153) (by decide))
      rw [← hfB] at hM
      have hW := hW.wa hfB hc_d1
      have hK := hK.wa hfB hc_d1
      have hc_p := ((congrFun hfB pl).trans (va_up_ne _ _ (ar_ne hc_d1 hc_p).symm)).trans hc_p
      have hc_d0 := ((congrFun hfB d0).trans (va_up_ne _ _ n01)).trans hc_d0
      have hc_d2 := ((congrFun hfB d2).trans (va_up_ne _ _ (Ne.symm n12))).trans hc_d2
      have hc_d3 := ((congrFun hfB d3).trans (va_up_ne _ _ n31)).trans hc_d3
      have hfr : ∀ y, y ∈ P → y ≠ pl → fB y = f y := fun y k0 k1 => ((congrFun hfB y).trans (va_up_ne _ _ (fun z => hd1P (z ▸ k0)))).trans (hfr y k0 k1)
      have hc_d1 := (congrFun hfB d1).trans (va_up_self _ _ _)
      obtain ⟨fC, hfC⟩ : ∃ fC, fC = va_up fB d2 (arR G 4 453 (fun t => some (((va_up (va_up K 1 (some q)) 2 (some rr)) (309 + t)).getD 0))) := ⟨_, rfl⟩
      have hM := pg_arR hM hm_d2 hc_d2 (cut_eq hK (o := 309) (n := 453) (by decide))
      rw [← hfC] at hM
      have hW := hW.wa hfC hc_d2
      have hK := hK.wa hfC hc_d2
      have hc_p := ((congrFun hfC pl).trans (va_up_ne _ _ (ar_ne hc_d2 hc_p).symm)).trans hc_p
      have hc_d0 := ((congrFun hfC d0).trans (va_up_ne _ _ n02)).trans hc_d0
      have hc_d1 := ((congrFun hfC d1).trans (va_up_ne _ _ n12)).trans hc_d1
      have hc_d3 := ((congrFun hfC d3).trans (va_up_ne _ _ n32)).trans hc_d3
      have hfr : ∀ y, y ∈ P → y ≠ pl → fC y = f y := fun y k0 k1 => ((congrFun hfC y).trans (va_up_ne _ _ (fun z => hd2P (z ▸ k0)))).trans (hfr y k0 k1)
      have hc_d2 := (congrFun hfC d2).trans (va_up_self _ _ _)
      refine pg_vret C hr hlk hM hPN (by omega) (by omega) d_Pln_init_146 ?_
      rw [hPN] at hK hW hm_p hm_d0 hm_d1 hm_d2 hm_d3
      refine ⟨rfl, _, _, ?_, pS_mk hK (by rw [va_up_ne _ _ (by decide), va_up_ne _ _ (by decide)]; exact hK0) hm_p (List.mem_append_left _ hva) hm_d0 hm_d1 hm_d2 hm_d3 (by rw [va_up_ne _ _ (by decide), va_up_self]) (va_up_self _ _ _) hc_p hc_d0 hc_d1 hc_d2 hc_d3, hfr, hW⟩
      rw [va_up_ne _ _ (by decide), va_up_ne _ _ (by decide), hK0]; rfl
    · have hj9 : j < 453 := nI_ltN (by omega) (by omega) hc93
      refine lv_aload_n C.1 C.2.1 d_Pln_init_96 rfl (lo_at hl 0 rfl) ?_
      refine pg_get C hE hM hm_p hc_p rfl in_Pln 4 (Nat.le_of_ble_eq_true rfl) tw_533 rfl rfl d_Pln_init_97 ?_
      refine lv_iload_n C.1 C.2.1 d_Pln_init_100 rfl (lo_at hl 3 rfl) ?_
      refine cg_new C hE hM (ci := 4) (fs := [.long 0, .long 0]) rfl in_Cel ok_Cel tw_526 tw_397 tw_12 (by decide) (by (try show _ ≤ 765); omega) (by (try show _ ≤ 2432); omega) d_Pln_init_101 (fun q P4 f19 H1 hq hP4 hf19 hM => ?_)
      have hc_p := ((congrFun hf19 pl).trans (va_up_ne _ _ (fun z => hq (z ▸ hm_p)))).trans hc_p
      have hm_p := (show pl ∈ P4 by rw [hP4]; exact List.mem_append_left _ hm_p)
      have hc_d0 := ((congrFun hf19 d0).trans (va_up_ne _ _ (fun z => hq (z ▸ hm_d0)))).trans hc_d0
      have hm_d0 := (show d0 ∈ P4 by rw [hP4]; exact List.mem_append_left _ hm_d0)
      have hc_d1 := ((congrFun hf19 d1).trans (va_up_ne _ _ (fun z => hq (z ▸ hm_d1)))).trans hc_d1
      have hm_d1 := (show d1 ∈ P4 by rw [hP4]; exact List.mem_append_left _ hm_d1)
      have hc_d2 := ((congrFun hf19 d2).trans (va_up_ne _ _ (fun z => hq (z ▸ hm_d2)))).trans hc_d2
      have hm_d2 := (show d2 ∈ P4 by rw [hP4]; exact List.mem_append_left _ hm_d2)
      have hm_q : q ∈ P4 := by rw [hP4]; exact List.mem_append_right _ (List.mem_singleton.mpr rfl)
      have hc_q := (congrFun hf19 q).trans (va_up_self _ _ _)
      have hW := hW.nw hf19 hq hP4 (fun z => cg_z0P hE hM (z ▸ hm_q)) (by intros _ _ _ z; cases z)
      have hqP : q ∉ P := fun z => hq (hPN ▸ List.mem_append_left _ z)
      have hfr : ∀ y, y ∈ P → y ≠ pl → f19 y = f y := fun y k0 k1 => ((congrFun hf19 y).trans (va_up_ne _ _ (fun z => hqP (z ▸ k0)))).trans (hfr y k0 k1)
      have hPN := hPN_new hPN hP4
      have hK1 := hK.nw hf19 hq hP4
      refine W.widen (k := 309 + (j + 1)) (n := 1371 + 2 * (j + 1)) (by omega) (by omega) ?_
      refine lv_dup C.1 C.2.1 d_Pln_init_104 rfl ?_
      refine cg_callIN C hE hM (k_Cel_init l G _) nw_528 cy_Cel_init ⟨(Nat.le_of_ble_eq_true rfl), (Nat.le_of_ble_eq_true rfl)⟩ rfl hl.1 rfl (Nat.le_of_ble_eq_true rfl) ⟨by (try show _ ≤ 765); omega, by (try show _ ≤ 2432); omega⟩ d_Pln_init_105 (fun x9 f20 H1 locs1 hp hM => ?_)
      obtain ⟨rfl, h9⟩ := hp
      rw [h9] at hM
      clear h9
      refine W.eq (g2 := F0 m 108 ls [_, _, _]) rfl ?_
      have hd2o := hc_d2
      refine cg_aast C hE hM hm_d2 hc_d2 rfl hm_q hc_q rfl (Or.inl rfl) j rfl hj9 (by decide) d_Pln_init_108 (fun f21 H1 locs1 hf21 hM => ?_)
      have hc_p := ((congrFun hf21 pl).trans (va_up_ne _ _ ((ar_ne hc_d2 hc_p).symm))).trans hc_p
      have hc_d0 := ((congrFun hf21 d0).trans (va_up_ne _ _ (n02))).trans hc_d0
      have hc_d1 := ((congrFun hf21 d1).trans (va_up_ne _ _ (n12))).trans hc_d1
      have hc_q := ((congrFun hf21 q).trans (va_up_ne _ _ ((ar_ne hc_d2 hc_q).symm))).trans hc_q
      have hW := hW.wa hf21 hc_d2
      have hc_d2 := (congrFun hf21 d2).trans (va_up_self _ _ _)
      have hfr : ∀ y, y ∈ P → y ≠ pl → f21 y = f y := fun y k0 k1 => ((congrFun hf21 y).trans (va_up_ne _ _ (fun z => hd2P (z ▸ k0)))).trans (hfr y k0 k1)
      have hK2 := hK1.wa hf21 hd2o
      have hK3 : fam P4 f21 Sc (va_up K (309 + j) (some q)) (lv2 (j + 1)) := fam.ext hK hK2 hq hm_q (ce_0 hc_q) (by unfold lv2; omega) (by omega) (fun i hi => by unfold lv2 at hi; unfold lv2; omega)
      rw [cut_s] at hc_d2
      rw [← cut_k (K := K) (o := 3) (t := 153) (j := 309 + j) (q := q) (by omega)] at hc_d0
      rw [← cut_k (K := K) (o := 156) (t := 153) (j := 309 + j) (q := q) (by omega)] at hc_d1
      refine lo_iinc C hl d_Pln_init_109 rfl rfl (fun ls hl => ?_)
      refine lv_goto (tgt := 87) C.1 C.2.1 d_Pln_init_112 (by decide) ?_
      have hK0n : (va_up K (309 + j) (some q)) 0 = some cm := by rw [va_up_ne _ _ (by omega)]; exact hK0
      have h9 := hl
      rw [nI_pl] at h9
      exact ih87 (j + 1, va_up K (309 + j) (some q), ls, _, H1, locs1, f21) ⟨by (try dsimp only); omega, (hPN ▸ hK3), hc_p, hc_d0, hc_d1, hc_d2, (hPN ▸ hm_d2), hK0n, (hPN ▸ hm_p), (hPN ▸ hm_d0), (hPN ▸ hm_d1), (hPN ▸ hW), hfr, lo_weak h9 ⟨rfl, rfl, rfl, rfl, trivial⟩, (hPN ▸ hM)⟩ (by show 453 - (j + 1) < 453 - j; omega)
  · have ht9 : t < 153 := nI_ltN (by omega) (by omega) hc40
    refine lv_aload_n C.1 C.2.1 d_Pln_init_43 rfl (lo_at hl 0 rfl) ?_
    refine pg_get C hE hM hm_p hc_p rfl in_Pln 2 (Nat.le_of_ble_eq_true rfl) tw_531 rfl rfl d_Pln_init_44 ?_
    refine lv_iload_n C.1 C.2.1 d_Pln_init_47 rfl (lo_at hl 3 rfl) ?_
    refine cg_new C hE hM (ci := 4) (fs := [.long 0, .long 0]) rfl in_Cel ok_Cel tw_526 tw_397 tw_12 (by decide) (by (try show _ ≤ 765); omega) (by (try show _ ≤ 2432); omega) d_Pln_init_48 (fun q P3 f17 H1 hq hP3 hf17 hM => ?_)
    have hc_p := ((congrFun hf17 pl).trans (va_up_ne _ _ (fun z => hq (z ▸ hm_p)))).trans hc_p
    have hm_p := (show pl ∈ P3 by rw [hP3]; exact List.mem_append_left _ hm_p)
    have hc_d0 := ((congrFun hf17 d0).trans (va_up_ne _ _ (fun z => hq (z ▸ hm_d0)))).trans hc_d0
    have hm_d0 := (show d0 ∈ P3 by rw [hP3]; exact List.mem_append_left _ hm_d0)
    have hc_d1 := ((congrFun hf17 d1).trans (va_up_ne _ _ (fun z => hq (z ▸ hm_d1)))).trans hc_d1
    have hm_d1 := (show d1 ∈ P3 by rw [hP3]; exact List.mem_append_left _ hm_d1)
    have hm_q : q ∈ P3 := by rw [hP3]; exact List.mem_append_right _ (List.mem_singleton.mpr rfl)
    have hc_q := (congrFun hf17 q).trans (va_up_self _ _ _)
    have hW := hW.nw hf17 hq hP3 (fun z => cg_z0P hE hM (z ▸ hm_q)) (by intros _ _ _ z; cases z)
    have hqP : q ∉ P := fun z => hq (hPN ▸ List.mem_append_left _ z)
    have hfr : ∀ y, y ∈ P → y ≠ pl → f17 y = f y := fun y k0 k1 => ((congrFun hf17 y).trans (va_up_ne _ _ (fun z => hqP (z ▸ k0)))).trans (hfr y k0 k1)
    have hPN := hPN_new hPN hP3
    have hK1 := hK.nw hf17 hq hP3
    refine W.widen (k := 2 + 2 * t + 1) (n := 306 + 4 * t + 2) (by omega) (by omega) ?_
    refine lv_dup C.1 C.2.1 d_Pln_init_51 rfl ?_
    refine cg_callIN C hE hM (k_Cel_init l G _) nw_528 cy_Cel_init ⟨(Nat.le_of_ble_eq_true rfl), (Nat.le_of_ble_eq_true rfl)⟩ rfl hl.1 rfl (Nat.le_of_ble_eq_true rfl) ⟨by (try show _ ≤ 765); omega, by (try show _ ≤ 2432); omega⟩ d_Pln_init_52 (fun x9 f18 H1 locs1 hp hM => ?_)
    obtain ⟨rfl, h9⟩ := hp
    rw [h9] at hM
    clear h9
    refine W.eq (g2 := F0 m 55 ls [_, _, _]) rfl ?_
    have hd0o := hc_d0
    refine cg_aast C hE hM hm_d0 hc_d0 rfl hm_q hc_q rfl (Or.inl rfl) t rfl ht9 (by decide) d_Pln_init_55 (fun f19 H1 locs1 hf19 hM => ?_)
    have hc_p := ((congrFun hf19 pl).trans (va_up_ne _ _ ((ar_ne hc_d0 hc_p).symm))).trans hc_p
    have hc_d1 := ((congrFun hf19 d1).trans (va_up_ne _ _ (Ne.symm (n01)))).trans hc_d1
    have hc_q := ((congrFun hf19 q).trans (va_up_ne _ _ ((ar_ne hc_d0 hc_q).symm))).trans hc_q
    have hW := hW.wa hf19 hc_d0
    have hc_d0 := (congrFun hf19 d0).trans (va_up_self _ _ _)
    have hfr : ∀ y, y ∈ P → y ≠ pl → f19 y = f y := fun y k0 k1 => ((congrFun hf19 y).trans (va_up_ne _ _ (fun z => hd0 (z ▸ k0)))).trans (hfr y k0 k1)
    have hK2 := hK1.wa hf19 hd0o
    have hK3 : fam P3 f19 Sc (va_up K (3 + t) (some q)) (lv1b t) := fam.ext hK hK2 hq hm_q (ce_0 hc_q) (by unfold lv1; omega) (by omega) (fun i hi => by unfold lv1b at hi; unfold lv1; omega)
    rw [cut_s] at hc_d0
    rw [← cut_k (K := K) (o := 156) (t := t) (j := 3 + t) (q := q) (by omega)] at hc_d1
    refine lv_aload_n C.1 C.2.1 d_Pln_init_56 rfl (lo_at hl 0 rfl) ?_
    refine pg_get C hE hM hm_p hc_p rfl in_Pln 3 (Nat.le_of_ble_eq_true rfl) tw_532 rfl rfl d_Pln_init_57 ?_
    refine lv_iload_n C.1 C.2.1 d_Pln_init_60 rfl (lo_at hl 3 rfl) ?_
    refine cg_new C hE hM (ci := 4) (fs := [.long 0, .long 0]) rfl in_Cel ok_Cel tw_526 tw_397 tw_12 (by decide) (by (try show _ ≤ 765); omega) (by (try show _ ≤ 2432); omega) d_Pln_init_61 (fun rr P4 f20 H1 hrr hP4 hf20 hM => ?_)
    have hc_p := ((congrFun hf20 pl).trans (va_up_ne _ _ (fun z => hrr (z ▸ hm_p)))).trans hc_p
    have hm_p := (show pl ∈ P4 by rw [hP4]; exact List.mem_append_left _ hm_p)
    have hc_d0 := ((congrFun hf20 d0).trans (va_up_ne _ _ (fun z => hrr (z ▸ hm_d0)))).trans hc_d0
    have hm_d0 := (show d0 ∈ P4 by rw [hP4]; exact List.mem_append_left _ hm_d0)
    have hc_d1 := ((congrFun hf20 d1).trans (va_up_ne _ _ (fun z => hrr (z ▸ hm_d1)))).trans hc_d1
    have hm_d1 := (show d1 ∈ P4 by rw [hP4]; exact List.mem_append_left _ hm_d1)
    have hc_q := ((congrFun hf20 q).trans (va_up_ne _ _ (fun z => hrr (z ▸ hm_q)))).trans hc_q
    have hm_q := (show q ∈ P4 by rw [hP4]; exact List.mem_append_left _ hm_q)
    have hm_rr : rr ∈ P4 := by rw [hP4]; exact List.mem_append_right _ (List.mem_singleton.mpr rfl)
    have hc_rr := (congrFun hf20 rr).trans (va_up_self _ _ _)
    have hW := hW.nw hf20 hrr hP4 (fun z => cg_z0P hE hM (z ▸ hm_rr)) (by intros _ _ _ z; cases z)
    have hrrP : rr ∉ P := fun z => hrr (hPN ▸ List.mem_append_left _ z)
    have hfr : ∀ y, y ∈ P → y ≠ pl → f20 y = f y := fun y k0 k1 => ((congrFun hf20 y).trans (va_up_ne _ _ (fun z => hrrP (z ▸ k0)))).trans (hfr y k0 k1)
    have hPN := hPN_new hPN hP4
    have hK4 := hK3.nw hf20 hrr hP4
    refine W.widen (k := 2 + 2 * (t + 1)) (n := 306 + 4 * (t + 1)) (by omega) (by omega) ?_
    refine lv_dup C.1 C.2.1 d_Pln_init_64 rfl ?_
    refine cg_callIN C hE hM (k_Cel_init l G _) nw_528 cy_Cel_init ⟨(Nat.le_of_ble_eq_true rfl), (Nat.le_of_ble_eq_true rfl)⟩ rfl hl.1 rfl (Nat.le_of_ble_eq_true rfl) ⟨by (try show _ ≤ 765); omega, by (try show _ ≤ 2432); omega⟩ d_Pln_init_65 (fun x9 f21 H1 locs1 hp hM => ?_)
    obtain ⟨rfl, h9⟩ := hp
    rw [h9] at hM
    clear h9
    refine W.eq (g2 := F0 m 68 ls [_, _, _]) rfl ?_
    have hd1o := hc_d1
    refine cg_aast C hE hM hm_d1 hc_d1 rfl hm_rr hc_rr rfl (Or.inl rfl) t rfl ht9 (by decide) d_Pln_init_68 (fun f22 H1 locs1 hf22 hM => ?_)
    have hc_p := ((congrFun hf22 pl).trans (va_up_ne _ _ ((ar_ne hc_d1 hc_p).symm))).trans hc_p
    have hc_d0 := ((congrFun hf22 d0).trans (va_up_ne _ _ (n01))).trans hc_d0
    have hc_q := ((congrFun hf22 q).trans (va_up_ne _ _ ((ar_ne hc_d1 hc_q).symm))).trans hc_q
    have hc_rr := ((congrFun hf22 rr).trans (va_up_ne _ _ ((ar_ne hc_d1 hc_rr).symm))).trans hc_rr
    have hW := hW.wa hf22 hc_d1
    have hc_d1 := (congrFun hf22 d1).trans (va_up_self _ _ _)
    have hfr : ∀ y, y ∈ P → y ≠ pl → f22 y = f y := fun y k0 k1 => ((congrFun hf22 y).trans (va_up_ne _ _ (fun z => hd1P (z ▸ k0)))).trans (hfr y k0 k1)
    have hK5 := hK4.wa hf22 hd1o
    have hK6 : fam P4 f22 Sc (va_up (va_up K (3 + t) (some q)) (156 + t) (some rr)) (lv1 (t + 1)) := fam.ext hK3 hK5 hrr hm_rr (ce_0 hc_rr) (by unfold lv1b; omega) (by omega) (fun i hi => by unfold lv1 at hi; unfold lv1b; omega)
    rw [cut_s] at hc_d1
    rw [← cut_k (o := 3) (t := t + 1) (j := 156 + t) (q := rr) (by omega)] at hc_d0
    refine lo_iinc C hl d_Pln_init_69 rfl rfl (fun ls hl => ?_)
    refine lv_goto (tgt := 36) C.1 C.2.1 d_Pln_init_72 (by decide) ?_
    have hK0n : (va_up (va_up K (3 + t) (some q)) (156 + t) (some rr)) 0 = some cm := by rw [va_up_ne _ _ (by omega), va_up_ne _ _ (by omega)]; exact hK0
    have h9 := hl
    rw [nI_pl] at h9
    exact ih36 (t + 1, va_up (va_up K (3 + t) (some q)) (156 + t) (some rr), ls, _, H1, locs1, f22) ⟨by (try dsimp only); omega, (hPN ▸ hK6), hc_p, hc_d0, hc_d1, hK0n, (hPN ▸ hm_p), (hPN ▸ hm_d0), (hPN ▸ hm_d1), (hPN ▸ hW), hfr, lo_weak h9 ⟨rfl, rfl, rfl, rfl, trivial⟩, (hPN ▸ hM)⟩ (by show 153 - (t + 1) < 153 - t; omega)
