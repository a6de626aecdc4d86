/-! sets of cells: two words of 48 bits -/
theorem am_u : ∀ c : Fin 64, (nI c.val).toInt64.toUInt64 &&& Int64.toUInt64 63 = UInt64.ofNat c.val := by decide +kernel
theorem am_m : ∀ c : Fin 64, ((UInt64.ofNat c.val).toBitVec % 64).toNat = c.val := by decide +kernel
theorem am_l : ∀ c : Fin 64, (nI c.val).toInt64 &&& 63 = lN c.val := by decide +kernel
abbrev gb (x : Int64) (i : Nat) : Bool := x.toBitVec.getLsbD i
theorem lus_bit (x : Int64) {j : Nat} (hj : j < 64) (i : Nat) : gb ((x.toUInt64 >>> ((nI j).toInt64.toUInt64 &&& Int64.toUInt64 63)).toInt64) i = gb x (j + i) := by
  rw [am_u ⟨j, hj⟩]
  show ((x.toUInt64 >>> UInt64.ofNat j).toBitVec).getLsbD i = _
  rw [UInt64.toBitVec_shiftRight, BitVec.ushiftRight_eq', am_m ⟨j, hj⟩, BitVec.getLsbD_ushiftRight]
  rfl
theorem lsh_bit (x : Int64) {j : Nat} (hj : j < 64) (i : Nat) : gb (x <<< ((nI j).toInt64 &&& 63)) i = (decide (i < 64) && !decide (i < j) && gb x (i - j)) := by
  rw [am_l ⟨j, hj⟩]
  have hsm : ((lN j).toBitVec.smod 64).toNat = j := bb_sm ⟨j, hj⟩
  show ((x <<< lN j).toBitVec).getLsbD i = _
  rw [Int64.toBitVec_shiftLeft]
  show (x.toBitVec <<< ((lN j).toBitVec.smod 64).toNat).getLsbD i = _
  rw [hsm, BitVec.getLsbD_shiftLeft]
theorem gb_or (x y : Int64) (i : Nat) : gb (x ||| y) i = (gb x i || gb y i) := by
  show ((x ||| y).toBitVec).getLsbD i = _
  rw [Int64.toBitVec_or, BitVec.getLsbD_or]
theorem gb_and (x y : Int64) (i : Nat) : gb (x &&& y) i = (gb x i && gb y i) := by
  show ((x &&& y).toBitVec).getLsbD i = _
  rw [Int64.toBitVec_and, BitVec.getLsbD_and]
theorem gb_not (x : Int64) (i : Nat) : gb (x ^^^ (-1)) i = (decide (i < 64) && !gb x i) := by
  show ((x ^^^ (-1)).toBitVec).getLsbD i = _
  rw [Int64.toBitVec_xor, BitVec.getLsbD_xor, show ((-1 : Int64).toBitVec) = BitVec.allOnes 64 from by decide, BitVec.getLsbD_allOnes]
  by_cases h : i < 64
  · simp [h]
  · simp [h, BitVec.getLsbD_of_ge _ _ (Nat.le_of_not_lt h)]
theorem gb_zero (i : Nat) : gb 0 i = false := by
  show (0#64).getLsbD i = false
  simp
theorem gb_1 (i : Nat) : gb 1 i = decide (i = 0) := by
  show (1#64).getLsbD i = _
  rw [BitVec.getLsbD_one]
  simp
theorem gb_one (x : Int64) : x &&& 1 = 0 ↔ gb x 0 = false := by
  constructor
  · intro h
    have := gb_and x 1 0
    rw [h, gb_zero, gb_1] at this
    simpa using this.symm
  · intro h
    apply Int64.toBitVec_inj.mp
    apply BitVec.eq_of_getLsbD_eq
    intro i hi
    show gb (x &&& 1) i = gb 0 i
    rw [gb_and, gb_1, gb_zero]
    by_cases e : i = 0
    · subst e; rw [h]; rfl
    · simp [e]
theorem gb_eq0 (x : Int64) : x = 0 ↔ ∀ i, i < 64 → gb x i = false := by
  constructor
  · rintro rfl i _; exact gb_zero i
  · intro h
    apply Int64.toBitVec_inj.mp
    apply BitVec.eq_of_getLsbD_eq
    intro i hi
    show gb x i = gb 0 i
    rw [h i hi, gb_zero]
def cb (u w : Int64) (d : Nat) : Bool := if d < 48 then gb u d else gb w (d - 48)
def hi48 (u : Int64) : Prop := ∀ i, 48 ≤ i → gb u i = false
def ce (f : Nat → va_E) (a : Nat) (S : Nat → Bool) : Prop := ∃ u w, f a = .inr (4, [.long u, .long w]) ∧ hi48 u ∧ hi48 w ∧ ∀ d, d < 96 → S d = cb u w d
/-- a set is written: at a alone -/
def cw (f : Nat → va_E) (a : Nat) (f1 : Nat → va_E) (S : Nat → Bool) : Prop := ∃ u w, f1 = va_up f a (.inr (4, [.long u, .long w])) ∧ hi48 u ∧ hi48 w ∧ ∀ d, d < 96 → S d = cb u w d
theorem cw.here {f f1 : Nat → va_E} {a : Nat} {S : Nat → Bool} (h : cw f a f1 S) : ce f1 a S := by
  obtain ⟨u, w, rfl, h1, h2, h3⟩ := h
  exact ⟨u, w, va_up_self _ _ _, h1, h2, h3⟩
theorem cw.there {f f1 : Nat → va_E} {a b : Nat} {S : Nat → Bool} (h : cw f a f1 S) (hb : b ≠ a) : f1 b = f b := by
  obtain ⟨u, w, rfl, _⟩ := h
  exact va_up_ne _ _ hb
theorem ce.congr {f f1 : Nat → va_E} {a : Nat} {S : Nat → Bool} (h : ce f a S) (he : f1 a = f a) : ce f1 a S := by
  obtain ⟨u, w, h0, h1⟩ := h
  exact ⟨u, w, he.trans h0, h1⟩
theorem ce.fun {f : Nat → va_E} {a : Nat} {S T : Nat → Bool} (h : ce f a S) (hS : ∀ d, d < 96 → T d = S d) : ce f a T := by
  obtain ⟨u, w, h0, h1, h2, h3⟩ := h
  exact ⟨u, w, h0, h1, h2, fun d hd => (hS d hd).trans (h3 d hd)⟩
theorem cw.fun {f f1 : Nat → va_E} {a : Nat} {S T : Nat → Bool} (h : cw f a f1 S) (hS : ∀ d, d < 96 → T d = S d) : cw f a f1 T := by
  obtain ⟨u, w, h0, h1, h2, h3⟩ := h
  exact ⟨u, w, h0, h1, h2, fun d hd => (hS d hd).trans (h3 d hd)⟩
theorem cw.trans {f f1 f2 : Nat → va_E} {a : Nat} {S T : Nat → Bool} (h : cw f a f1 S) (h2 : cw f1 a f2 T) : cw f a f2 T := by
  obtain ⟨u, w, rfl, _⟩ := h
  obtain ⟨u2, w2, rfl, h3⟩ := h2
  exact ⟨u2, w2, bx_uu _ _ _ _, h3⟩
theorem hi_or {x y : Int64} (h1 : hi48 x) (h2 : hi48 y) : hi48 (x ||| y) := fun i hi => by rw [gb_or, h1 i hi, h2 i hi]; rfl
theorem hi_andl {x y : Int64} (h1 : hi48 x) : hi48 (x &&& y) := fun i hi => by rw [gb_and, h1 i hi]; rfl
theorem hi_andr {x y : Int64} (h1 : hi48 y) : hi48 (x &&& y) := fun i hi => by rw [gb_and, h1 i hi]; simp
theorem hi_0 : hi48 0 := fun i _ => gb_zero i
theorem hi_sh {j : Nat} (hj : j < 48) : hi48 ((1 : Int64) <<< ((nI j).toInt64 &&& 63)) := fun i hi => by
  rw [lsh_bit 1 (by omega), gb_1]
  have : ¬ (i - j = 0) := by omega
  simp [this]
theorem gb_sh {j : Nat} (hj : j < 48) (i : Nat) (hi : i < 48) : gb ((1 : Int64) <<< ((nI j).toInt64 &&& 63)) i = decide (i = j) := by
  rw [lsh_bit 1 (by omega), gb_1]
  by_cases h : i = j
  · subst h; simp; omega
  · simp only [h, decide_false, Bool.and_eq_false_iff, decide_eq_false_iff_not, Bool.not_eq_false', decide_eq_true_eq]
    omega
theorem cb_lo {u w : Int64} {d : Nat} (h : d < 48) : cb u w d = gb u d := if_pos h
theorem cb_hi {u w : Int64} {d : Nat} (h : ¬ d < 48) : cb u w d = gb w (d - 48) := if_neg h
theorem nI_48 {c : Nat} (h : ¬ c < 48) (hc : c < 96) : nI c - 48 = nI (c - 48) := by
  have : c = (c - 48) + 48 := by omega
  conv => lhs; rw [this]
  rw [← nI_add]
  show nI (c - 48) + 48 - 48 = _
  simp
theorem i48 {c : Nat} (hc : c < 96) : (48 ≤ nI c) ↔ ¬ c < 48 := by
  rw [Int32.le_iff_toInt_le, nI_toInt (by omega), show (48 : Int32).toInt = 48 from by decide]
  omega
def sub96 (S2 S : Nat → Bool) : Bool := (List.range 96).all (fun d => !S2 d || S d)
theorem sub96_iff {S2 S : Nat → Bool} : sub96 S2 S = true ↔ ∀ d, d < 96 → S2 d = true → S d = true := by
  unfold sub96
  rw [List.all_eq_true]
  constructor
  · intro h d hd h2
    have := h d (List.mem_range.mpr hd)
    rw [h2] at this
    simpa using this
  · intro h d hd
    cases e : S2 d
    · rfl
    · rw [h d (List.mem_range.mp hd) e]; rfl
theorem ce.words {f : Nat → va_E} {a : Nat} {S : Nat → Bool} (h : ce f a S) : ∃ u w, f a = .inr (4, [.long u, .long w]) ∧ hi48 u ∧ hi48 w ∧ ∀ d, d < 96 → S d = cb u w d := h
theorem cb_put {u w : Int64} {c d : Nat} (hc : c < 48) (hd : d < 96) : cb (u ||| (1 : Int64) <<< ((nI c).toInt64 &&& 63)) w d = (cb u w d || decide (d = c)) := by
  by_cases h : d < 48
  · rw [cb_lo h, cb_lo h, gb_or, gb_sh hc d h]
  · rw [cb_hi h, cb_hi h]
    have : ¬ d = c := by omega
    simp [this]
theorem cb_put2 {u w : Int64} {c d : Nat} (hc : ¬ c < 48) (hc2 : c < 96) (hd : d < 96) : cb u (w ||| (1 : Int64) <<< ((nI (c - 48)).toInt64 &&& 63)) d = (cb u w d || decide (d = c)) := by
  by_cases h : d < 48
  · rw [cb_lo h, cb_lo h]
    have : ¬ d = c := by omega
    simp [this]
  · rw [cb_hi h, cb_hi h, gb_or, gb_sh (j := c - 48) (by omega) (d - 48) (by omega)]
    congr 1
    apply decide_eq_decide.mpr
    omega
theorem cb_drop {u w : Int64} {c d : Nat} (hc : c < 48) (hd : d < 96) : cb (u &&& ((1 : Int64) <<< ((nI c).toInt64 &&& 63) ^^^ (-1))) w d = (cb u w d && !decide (d = c)) := by
  by_cases h : d < 48
  · rw [cb_lo h, cb_lo h, gb_and, gb_not, gb_sh hc d h]
    have : d < 64 := by omega
    simp [this]
  · rw [cb_hi h, cb_hi h]
    have : ¬ d = c := by omega
    simp [this]
theorem cb_drop2 {u w : Int64} {c d : Nat} (hc : ¬ c < 48) (hc2 : c < 96) (hd : d < 96) : cb u (w &&& ((1 : Int64) <<< ((nI (c - 48)).toInt64 &&& 63) ^^^ (-1))) d = (cb u w d && !decide (d = c)) := by
  by_cases h : d < 48
  · rw [cb_lo h, cb_lo h]
    have : ¬ d = c := by omega
    simp [this]
  · rw [cb_hi h, cb_hi h, gb_and, gb_not, gb_sh (j := c - 48) (by omega) (d - 48) (by omega)]
    have h1 : d - 48 < 64 := by omega
    have h2 : decide (d - 48 = c - 48) = decide (d = c) := decide_eq_decide.mpr (by omega)
    simp [h1, h2]
theorem cb_all {u w u2 w2 : Int64} (h1 : hi48 u2) (h2 : hi48 w2) : (u2 &&& (u ^^^ (-1)) = 0 ∧ w2 &&& (w ^^^ (-1)) = 0) ↔ ∀ d, d < 96 → cb u2 w2 d = true → cb u w d = true := by
  rw [gb_eq0, gb_eq0]
  constructor
  · rintro ⟨a1, a2⟩ d hd
    by_cases h : d < 48
    · rw [cb_lo h, cb_lo h]
      have := a1 d (by omega)
      rw [gb_and, gb_not] at this
      have h3 : d < 64 := by omega
      simp only [h3, decide_true, Bool.true_and] at this
      intro h4
      rw [h4] at this
      simpa using this
    · rw [cb_hi h, cb_hi h]
      have := a2 (d - 48) (by omega)
      rw [gb_and, gb_not] at this
      have h3 : d - 48 < 64 := by omega
      simp only [h3, decide_true, Bool.true_and] at this
      intro h4
      rw [h4] at this
      simpa using this
  · intro a
    constructor
    · intro i hi
      rw [gb_and, gb_not]
      by_cases h : i < 48
      · have := a i (by omega)
        rw [cb_lo h, cb_lo h] at this
        cases e : gb u2 i
        · rfl
        · simp [this e]
      · rw [h1 i (by omega)]; rfl
    · intro i hi
      rw [gb_and, gb_not]
      by_cases h : i < 48
      · have := a (i + 48) (by omega)
        rw [cb_hi (by omega), cb_hi (by omega), Nat.add_sub_cancel] at this
        cases e : gb w2 i
        · rfl
        · simp [this e]
      · rw [h2 i (by omega)]; rfl
set_option maxHeartbeats 4000000 in
set_option maxRecDepth 100000 in
theorem k_Cel_init (l : Launch) (G : GG) {P : List Nat} {f : Nat → va_E} (a : Nat)  : ct0 l G y_Cel_init c_Cel_init 1 none 1 20 [.ref a] P f (fun x f1 => x = none ∧ f1 = f) := by
  refine ct_intro (by decide) [some (.ref a)] rfl rfl (Nat.le_of_ble_eq_true rfl) ?_
  intro p e s m below meth c ls C hr hlk hnm hE hM hl
  refine lv_aload_n C.1 C.2.1 d_Cel_init_0 rfl (lo_at hl 0 rfl) ?_
  refine W.objInit C.1 C.2.1 C.2.2.2.1 (C.2.2.2.2 _ tw_401) (C.2.2.2.2 _ tw_32) (C.2.2.2.2 _ tw_33) rfl (by rw [C.2.2.1]; exact hl.1) rfl d_Cel_init_1 (Nat.le_of_ble_eq_true rfl) (Nat.le_of_ble_eq_true rfl) ?_
  refine W.eq (g2 := F0 m 4 ls []) rfl ?_
  refine cg_vret C hr hlk hM d_Cel_init_4 ?_
  exact ⟨rfl, rfl⟩
set_option maxHeartbeats 4000000 in
set_option maxRecDepth 100000 in
theorem k_Cel_clear (l : Launch) (G : GG) {P : List Nat} {f : Nat → va_E} (a : Nat) (S : Nat → Bool) (hm_a : a ∈ P) (hS : ce f a S)  : ct0 l G y_Cel_clear c_Cel_clear 1 none 0 0 [.ref a] P f (fun x f1 => x = none ∧ cw f a f1 (fun _ => false)) := by
  refine ct_intro (by decide) [some (.ref a)] rfl rfl (Nat.le_of_ble_eq_true rfl) ?_
  intro p e s m below meth c ls C hr hlk hnm hE hM hl
  obtain ⟨u, w, hc_a, hu, hw, hSd⟩ := hS
  refine lv_aload_n C.1 C.2.1 d_Cel_clear_0 rfl (lo_at hl 0 rfl) ?_
  refine lv_lconst (v := 0) C.1 C.2.1 d_Cel_clear_1 (by decide) ?_
  refine cg_put C hE hM hm_a hc_a rfl in_Cel ok_Cel n_Cel 0 (Nat.le_of_ble_eq_true rfl) tw_402 rfl rfl rfl rfl rfl (Nat.le_of_ble_eq_true rfl) d_Cel_clear_2 (fun f1 H1 locs1 hf1 hM => ?_)
  have hc_a := (congrFun hf1 a).trans (va_up_self _ _ _)
  refine lv_aload_n C.1 C.2.1 d_Cel_clear_5 rfl (lo_at hl 0 rfl) ?_
  refine lv_lconst (v := 0) C.1 C.2.1 d_Cel_clear_6 (by decide) ?_
  refine cg_put C hE hM hm_a hc_a rfl in_Cel ok_Cel n_Cel 1 (Nat.le_of_ble_eq_true rfl) tw_403 rfl rfl rfl rfl rfl (Nat.le_of_ble_eq_true rfl) d_Cel_clear_7 (fun f2 H1 locs1 hf2 hM => ?_)
  have hc_a := (congrFun hf2 a).trans (va_up_self _ _ _)
  refine cg_vret C hr hlk hM d_Cel_clear_10 ?_
  refine ⟨rfl, 0, 0, ?_, hi_0, hi_0, fun d hd => ?_⟩
  · rw [hf2, hf1]; exact bx_uu _ _ _ _
  · unfold cb; split <;> exact (gb_zero _).symm
set_option maxHeartbeats 4000000 in
set_option maxRecDepth 100000 in
theorem k_Cel_copy (l : Launch) (G : GG) {P : List Nat} {f : Nat → va_E} (a : Nat) (S : Nat → Bool) (hm_a : a ∈ P) (hS : ce f a S) (b : Nat) (S2 : Nat → Bool) (hm_b : b ∈ P) (hS2 : ce f b S2) (hne : a ≠ b) : ct0 l G y_Cel_copy c_Cel_copy 2 none 0 0 [.ref a, .ref b] P f (fun x f1 => x = none ∧ cw f a f1 S2) := by
  refine ct_intro (by decide) [some (.ref a), some (.ref b)] rfl rfl (Nat.le_of_ble_eq_true rfl) ?_
  intro p e s m below meth c ls C hr hlk hnm hE hM hl
  obtain ⟨u, w, hc_a, hu, hw, hSd⟩ := hS
  obtain ⟨u2, w2, hc_b, hu2, hw2, hSd2⟩ := hS2
  refine lv_aload_n C.1 C.2.1 d_Cel_copy_0 rfl (lo_at hl 0 rfl) ?_
  refine lv_aload_n C.1 C.2.1 d_Cel_copy_1 rfl (lo_at hl 1 rfl) ?_
  refine pg_get C hE hM hm_b hc_b rfl in_Cel 0 (Nat.le_of_ble_eq_true rfl) tw_402 rfl rfl d_Cel_copy_2 ?_
  refine cg_put C hE hM hm_a hc_a rfl in_Cel ok_Cel n_Cel 0 (Nat.le_of_ble_eq_true rfl) tw_402 rfl rfl rfl rfl rfl (Nat.le_of_ble_eq_true rfl) d_Cel_copy_5 (fun f1 H1 locs1 hf1 hM => ?_)
  have hc_b := ((congrFun hf1 b).trans (va_up_ne _ _ (Ne.symm (hne)))).trans hc_b
  have hc_a := (congrFun hf1 a).trans (va_up_self _ _ _)
  refine lv_aload_n C.1 C.2.1 d_Cel_copy_8 rfl (lo_at hl 0 rfl) ?_
  refine lv_aload_n C.1 C.2.1 d_Cel_copy_9 rfl (lo_at hl 1 rfl) ?_
  refine pg_get C hE hM hm_b hc_b rfl in_Cel 1 (Nat.le_of_ble_eq_true rfl) tw_403 rfl rfl d_Cel_copy_10 ?_
  refine cg_put C hE hM hm_a hc_a rfl in_Cel ok_Cel n_Cel 1 (Nat.le_of_ble_eq_true rfl) tw_403 rfl rfl rfl rfl rfl (Nat.le_of_ble_eq_true rfl) d_Cel_copy_13 (fun f2 H1 locs1 hf2 hM => ?_)
  have hc_b := ((congrFun hf2 b).trans (va_up_ne _ _ (Ne.symm (hne)))).trans hc_b
  have hc_a := (congrFun hf2 a).trans (va_up_self _ _ _)
  refine cg_vret C hr hlk hM d_Cel_copy_16 ?_
  refine ⟨rfl, u2, w2, ?_, hu2, hw2, hSd2⟩
  rw [hf2, hf1]; exact bx_uu _ _ _ _
set_option maxHeartbeats 4000000 in
set_option maxRecDepth 100000 in
theorem k_Cel_has (l : Launch) (G : GG) {P : List Nat} {f : Nat → va_E} (a : Nat) (S : Nat → Bool) (hm_a : a ∈ P) (hS : ce f a S) (c0 : Nat) (hcl : c0 < 96)  : ct0 l G y_Cel_has c_Cel_has 2 (some .boolean) 0 0 [.ref a, .int (nI c0)] P f (fun x f1 => x = some (.int (bz (S c0 = true))) ∧ f1 = f) := by
  refine ct_intro (by decide) [some (.ref a), some (.int (nI c0))] rfl rfl (Nat.le_of_ble_eq_true rfl) ?_
  intro p e s m below meth c ls C hr hlk hnm hE hM hl
  obtain ⟨u, w, hc_a, hu, hw, hSd⟩ := hS
  refine W.join (I := fun z => gb z 0 = S c0) (gf := fun z => F0 m 24 ls [.long z]) (fun K24 => ?_) (fun z hz24 => ?_)
  · refine lv_iload_n C.1 C.2.1 d_Cel_has_0 rfl (lo_at hl 1 rfl) ?_
    refine lv_bipush (v := 48) C.1 C.2.1 d_Cel_has_1 (by decide) ?_
    refine lv_icmp_ge (tgt := 15) C.1 C.2.1 d_Cel_has_3 (by decide) (fun hc3 => ?_) (fun hc3 => ?_)
    · have hc := (i48 hcl).mp hc3
      have hq := ((lus_bit w (j := c0 - 48) (by omega) 0).trans (cb_hi (u := u) (w := w) hc).symm).trans (hSd c0 hcl).symm
      rw [← nI_48 hc hcl] at hq
      refine lv_aload_n C.1 C.2.1 d_Cel_has_15 rfl (lo_at hl 0 rfl) ?_
      refine pg_get C hE hM hm_a hc_a rfl in_Cel 1 (Nat.le_of_ble_eq_true rfl) tw_403 rfl rfl d_Cel_has_16 ?_
      refine lv_iload_n C.1 C.2.1 d_Cel_has_19 rfl (lo_at hl 1 rfl) ?_
      refine lv_bipush (v := 48) C.1 C.2.1 d_Cel_has_20 (by decide) ?_
      refine lv_isub C.1 C.2.1 d_Cel_has_22 ?_
      refine lv_lushr C.1 C.2.1 d_Cel_has_23 rfl ?_
      exact K24 _ hq
    · have hc := Decidable.not_not.mp (fun h => hc3 ((i48 hcl).mpr h))
      have hq := ((lus_bit u (j := c0) (by omega) 0).trans (cb_lo (u := u) (w := w) hc).symm).trans (hSd c0 hcl).symm
      refine lv_aload_n C.1 C.2.1 d_Cel_has_6 rfl (lo_at hl 0 rfl) ?_
      refine pg_get C hE hM hm_a hc_a rfl in_Cel 0 (Nat.le_of_ble_eq_true rfl) tw_402 rfl rfl d_Cel_has_7 ?_
      refine lv_iload_n C.1 C.2.1 d_Cel_has_10 rfl (lo_at hl 1 rfl) ?_
      refine lv_lushr C.1 C.2.1 d_Cel_has_11 rfl ?_
      refine lv_goto (tgt := 24) C.1 C.2.1 d_Cel_has_12 (by decide) ?_
      exact K24 _ hq
  · refine lv_lconst (v := 1) C.1 C.2.1 d_Cel_has_24 (by decide) ?_
    refine lv_land C.1 C.2.1 d_Cel_has_25 ?_
    refine lv_lconst (v := 0) C.1 C.2.1 d_Cel_has_26 (by decide) ?_
    refine W.lcmp C.1 C.2.1 d_Cel_has_27 ?_
    refine lv_if_eq (tgt := 35) C.1 C.2.1 d_Cel_has_28 (by decide) (fun hc28 => ?_) (fun hc28 => ?_)
    · refine lv_iconst (v := 0) C.1 C.2.1 d_Cel_has_35 (by decide) ?_
      refine cg_zret C hr hlk hM d_Cel_has_36 (by decide) ?_
      refine ⟨?_, rfl⟩
      rw [lcmp_0] at hc28
      have hb : gb z 0 = true ↔ ¬ (z &&& 1 = 0) := by rw [gb_one]; simp
      rw [hz24] at hb
      simp [bz, hb, hc28]
    · refine lv_iconst (v := 1) C.1 C.2.1 d_Cel_has_31 (by decide) ?_
      refine lv_goto (tgt := 36) C.1 C.2.1 d_Cel_has_32 (by decide) ?_
      refine cg_zret C hr hlk hM d_Cel_has_36 (by decide) ?_
      refine ⟨?_, rfl⟩
      rw [lcmp_0] at hc28
      have hb : gb z 0 = true ↔ ¬ (z &&& 1 = 0) := by rw [gb_one]; simp
      rw [hz24] at hb
      simp [bz, hb, hc28]
set_option maxHeartbeats 4000000 in
set_option maxRecDepth 100000 in
theorem k_Cel_put (l : Launch) (G : GG) {P : List Nat} {f : Nat → va_E} (a : Nat) (S : Nat → Bool) (hm_a : a ∈ P) (hS : ce f a S) (c0 : Nat) (hcl : c0 < 96)  : ct0 l G y_Cel_put c_Cel_put 2 none 0 0 [.ref a, .int (nI c0)] P f (fun x f1 => x = none ∧ cw f a f1 (fun d => S d || decide (d = c0))) := by
  refine ct_intro (by decide) [some (.ref a), some (.int (nI c0))] rfl rfl (Nat.le_of_ble_eq_true rfl) ?_
  intro p e s m below meth c ls C hr hlk hnm hE hM hl
  obtain ⟨u, w, hc_a, hu, hw, hSd⟩ := hS
  refine lv_iload_n C.1 C.2.1 d_Cel_put_0 rfl (lo_at hl 1 rfl) ?_
  refine lv_bipush (v := 48) C.1 C.2.1 d_Cel_put_1 (by decide) ?_
  refine lv_icmp_ge (tgt := 21) C.1 C.2.1 d_Cel_put_3 (by decide) (fun hc3 => ?_) (fun hc3 => ?_)
  · have hc := (i48 hcl).mp hc3
    refine lv_aload_n C.1 C.2.1 d_Cel_put_21 rfl (lo_at hl 0 rfl) ?_
    refine lv_dup C.1 C.2.1 d_Cel_put_22 rfl ?_
    refine pg_get C hE hM hm_a hc_a rfl in_Cel 1 (Nat.le_of_ble_eq_true rfl) tw_403 rfl rfl d_Cel_put_23 ?_
    refine lv_lconst (v := 1) C.1 C.2.1 d_Cel_put_26 (by decide) ?_
    refine lv_iload_n C.1 C.2.1 d_Cel_put_27 rfl (lo_at hl 1 rfl) ?_
    refine lv_bipush (v := 48) C.1 C.2.1 d_Cel_put_28 (by decide) ?_
    refine lv_isub C.1 C.2.1 d_Cel_put_30 ?_
    refine lv_lshl C.1 C.2.1 d_Cel_put_31 rfl ?_
    refine lv_lor C.1 C.2.1 d_Cel_put_32 ?_
    refine cg_put C hE hM hm_a hc_a rfl in_Cel ok_Cel n_Cel 1 (Nat.le_of_ble_eq_true rfl) tw_403 rfl rfl rfl rfl rfl (Nat.le_of_ble_eq_true rfl) d_Cel_put_33 (fun f1 H1 locs1 hf1 hM => ?_)
    have hc_a := (congrFun hf1 a).trans (va_up_self _ _ _)
    refine cg_vret C hr hlk hM d_Cel_put_36 ?_
    refine ⟨rfl, _, _, hf1, hu, hi_or hw (by rw [nI_48 hc hcl]; exact hi_sh (by omega)), fun d hd => ?_⟩
    dsimp only
    rw [hSd d hd]
    rw [nI_48 hc hcl]; exact (cb_put2 hc hcl hd).symm
  · have hc := Decidable.not_not.mp (fun h => hc3 ((i48 hcl).mpr h))
    refine lv_aload_n C.1 C.2.1 d_Cel_put_6 rfl (lo_at hl 0 rfl) ?_
    refine lv_dup C.1 C.2.1 d_Cel_put_7 rfl ?_
    refine pg_get C hE hM hm_a hc_a rfl in_Cel 0 (Nat.le_of_ble_eq_true rfl) tw_402 rfl rfl d_Cel_put_8 ?_
    refine lv_lconst (v := 1) C.1 C.2.1 d_Cel_put_11 (by decide) ?_
    refine lv_iload_n C.1 C.2.1 d_Cel_put_12 rfl (lo_at hl 1 rfl) ?_
    refine lv_lshl C.1 C.2.1 d_Cel_put_13 rfl ?_
    refine lv_lor C.1 C.2.1 d_Cel_put_14 ?_
    refine cg_put C hE hM hm_a hc_a rfl in_Cel ok_Cel n_Cel 0 (Nat.le_of_ble_eq_true rfl) tw_402 rfl rfl rfl rfl rfl (Nat.le_of_ble_eq_true rfl) d_Cel_put_15 (fun f1 H1 locs1 hf1 hM => ?_)
    have hc_a := (congrFun hf1 a).trans (va_up_self _ _ _)
    refine lv_goto (tgt := 36) C.1 C.2.1 d_Cel_put_18 (by decide) ?_
    refine cg_vret C hr hlk hM d_Cel_put_36 ?_
    refine ⟨rfl, _, _, hf1, hi_or hu (hi_sh hc), hw, fun d hd => ?_⟩
    dsimp only
    rw [hSd d hd]
    exact (cb_put hc hd).symm
set_option maxHeartbeats 4000000 in
set_option maxRecDepth 100000 in
theorem k_Cel_drop (l : Launch) (G : GG) {P : List Nat} {f : Nat → va_E} (a : Nat) (S : Nat → Bool) (hm_a : a ∈ P) (hS : ce f a S) (c0 : Nat) (hcl : c0 < 96)  : ct0 l G y_Cel_drop c_Cel_drop 2 none 0 0 [.ref a, .int (nI c0)] P f (fun x f1 => x = none ∧ cw f a f1 (fun d => S d &&! decide (d = c0))) := by
  refine ct_intro (by decide) [some (.ref a), some (.int (nI c0))] rfl rfl (Nat.le_of_ble_eq_true rfl) ?_
  intro p e s m below meth c ls C hr hlk hnm hE hM hl
  obtain ⟨u, w, hc_a, hu, hw, hSd⟩ := hS
  refine lv_iload_n C.1 C.2.1 d_Cel_drop_0 rfl (lo_at hl 1 rfl) ?_
  refine lv_bipush (v := 48) C.1 C.2.1 d_Cel_drop_1 (by decide) ?_
  refine lv_icmp_ge (tgt := 25) C.1 C.2.1 d_Cel_drop_3 (by decide) (fun hc3 => ?_) (fun hc3 => ?_)
  · have hc := (i48 hcl).mp hc3
    refine lv_aload_n C.1 C.2.1 d_Cel_drop_25 rfl (lo_at hl 0 rfl) ?_
    refine lv_dup C.1 C.2.1 d_Cel_drop_26 rfl ?_
    refine pg_get C hE hM hm_a hc_a rfl in_Cel 1 (Nat.le_of_ble_eq_true rfl) tw_403 rfl rfl d_Cel_drop_27 ?_
    refine lv_lconst (v := 1) C.1 C.2.1 d_Cel_drop_30 (by decide) ?_
    refine lv_iload_n C.1 C.2.1 d_Cel_drop_31 rfl (lo_at hl 1 rfl) ?_
    refine lv_bipush (v := 48) C.1 C.2.1 d_Cel_drop_32 (by decide) ?_
    refine lv_isub C.1 C.2.1 d_Cel_drop_34 ?_
    refine lv_lshl C.1 C.2.1 d_Cel_drop_35 rfl ?_
    refine lv_ldc2 C.1 C.2.1 C.2.2.2.1 (C.2.2.2.2 _ tw_438) d_Cel_drop_36 ?_
    refine lv_lxor C.1 C.2.1 d_Cel_drop_39 ?_
    refine lv_land C.1 C.2.1 d_Cel_drop_40 ?_
    refine cg_put C hE hM hm_a hc_a rfl in_Cel ok_Cel n_Cel 1 (Nat.le_of_ble_eq_true rfl) tw_403 rfl rfl rfl rfl rfl (Nat.le_of_ble_eq_true rfl) d_Cel_drop_41 (fun f1 H1 locs1 hf1 hM => ?_)
    have hc_a := (congrFun hf1 a).trans (va_up_self _ _ _)
    refine cg_vret C hr hlk hM d_Cel_drop_44 ?_
    refine ⟨rfl, _, _, hf1, hu, hi_andl hw, fun d hd => ?_⟩
    dsimp only
    rw [hSd d hd]
    rw [nI_48 hc hcl]; exact (cb_drop2 hc hcl hd).symm
  · have hc := Decidable.not_not.mp (fun h => hc3 ((i48 hcl).mpr h))
    refine lv_aload_n C.1 C.2.1 d_Cel_drop_6 rfl (lo_at hl 0 rfl) ?_
    refine lv_dup C.1 C.2.1 d_Cel_drop_7 rfl ?_
    refine pg_get C hE hM hm_a hc_a rfl in_Cel 0 (Nat.le_of_ble_eq_true rfl) tw_402 rfl rfl d_Cel_drop_8 ?_
    refine lv_lconst (v := 1) C.1 C.2.1 d_Cel_drop_11 (by decide) ?_
    refine lv_iload_n C.1 C.2.1 d_Cel_drop_12 rfl (lo_at hl 1 rfl) ?_
    refine lv_lshl C.1 C.2.1 d_Cel_drop_13 rfl ?_
    refine lv_ldc2 C.1 C.2.1 C.2.2.2.1 (C.2.2.2.2 _ tw_438) d_Cel_drop_14 ?_
    refine lv_lxor C.1 C.2.1 d_Cel_drop_17 ?_
    refine lv_land C.1 C.2.1 d_Cel_drop_18 ?_
    refine cg_put C hE hM hm_a hc_a rfl in_Cel ok_Cel n_Cel 0 (Nat.le_of_ble_eq_true rfl) tw_402 rfl rfl rfl rfl rfl (Nat.le_of_ble_eq_true rfl) d_Cel_drop_19 (fun f1 H1 locs1 hf1 hM => ?_)
    have hc_a := (congrFun hf1 a).trans (va_up_self _ _ _)
    refine lv_goto (tgt := 44) C.1 C.2.1 d_Cel_drop_22 (by decide) ?_
    refine cg_vret C hr hlk hM d_Cel_drop_44 ?_
    refine ⟨rfl, _, _, hf1, hi_andl hu, hw, fun d hd => ?_⟩
    dsimp only
    rw [hSd d hd]
    exact (cb_drop hc hd).symm
set_option maxHeartbeats 4000000 in
set_option maxRecDepth 100000 in
theorem k_Cel_join (l : Launch) (G : GG) {P : List Nat} {f : Nat → va_E} (a : Nat) (S : Nat → Bool) (hm_a : a ∈ P) (hS : ce f a S) (b : Nat) (S2 : Nat → Bool) (hm_b : b ∈ P) (hS2 : ce f b S2) (hne : a ≠ b) : ct0 l G y_Cel_join c_Cel_join 2 none 0 0 [.ref a, .ref b] P f (fun x f1 => x = none ∧ cw f a f1 (fun d => S d || S2 d)) := by
  refine ct_intro (by decide) [some (.ref a), some (.ref b)] rfl rfl (Nat.le_of_ble_eq_true rfl) ?_
  intro p e s m below meth c ls C hr hlk hnm hE hM hl
  obtain ⟨u, w, hc_a, hu, hw, hSd⟩ := hS
  obtain ⟨u2, w2, hc_b, hu2, hw2, hSd2⟩ := hS2
  refine lv_aload_n C.1 C.2.1 d_Cel_join_0 rfl (lo_at hl 0 rfl) ?_
  refine lv_dup C.1 C.2.1 d_Cel_join_1 rfl ?_
  refine pg_get C hE hM hm_a hc_a rfl in_Cel 0 (Nat.le_of_ble_eq_true rfl) tw_402 rfl rfl d_Cel_join_2 ?_
  refine lv_aload_n C.1 C.2.1 d_Cel_join_5 rfl (lo_at hl 1 rfl) ?_
  refine pg_get C hE hM hm_b hc_b rfl in_Cel 0 (Nat.le_of_ble_eq_true rfl) tw_402 rfl rfl d_Cel_join_6 ?_
  refine lv_lor C.1 C.2.1 d_Cel_join_9 ?_
  refine cg_put C hE hM hm_a hc_a rfl in_Cel ok_Cel n_Cel 0 (Nat.le_of_ble_eq_true rfl) tw_402 rfl rfl rfl rfl rfl (Nat.le_of_ble_eq_true rfl) d_Cel_join_10 (fun f1 H1 locs1 hf1 hM => ?_)
  have hc_b := ((congrFun hf1 b).trans (va_up_ne _ _ (Ne.symm (hne)))).trans hc_b
  have hc_a := (congrFun hf1 a).trans (va_up_self _ _ _)
  refine lv_aload_n C.1 C.2.1 d_Cel_join_13 rfl (lo_at hl 0 rfl) ?_
  refine lv_dup C.1 C.2.1 d_Cel_join_14 rfl ?_
  refine pg_get C hE hM hm_a hc_a rfl in_Cel 1 (Nat.le_of_ble_eq_true rfl) tw_403 rfl rfl d_Cel_join_15 ?_
  refine lv_aload_n C.1 C.2.1 d_Cel_join_18 rfl (lo_at hl 1 rfl) ?_
  refine pg_get C hE hM hm_b hc_b rfl in_Cel 1 (Nat.le_of_ble_eq_true rfl) tw_403 rfl rfl d_Cel_join_19 ?_
  refine lv_lor C.1 C.2.1 d_Cel_join_22 ?_
  refine cg_put C hE hM hm_a hc_a rfl in_Cel ok_Cel n_Cel 1 (Nat.le_of_ble_eq_true rfl) tw_403 rfl rfl rfl rfl rfl (Nat.le_of_ble_eq_true rfl) d_Cel_join_23 (fun f2 H1 locs1 hf2 hM => ?_)
  have hc_b := ((congrFun hf2 b).trans (va_up_ne _ _ (Ne.symm (hne)))).trans hc_b
  have hc_a := (congrFun hf2 a).trans (va_up_self _ _ _)
  refine cg_vret C hr hlk hM d_Cel_join_26 ?_
  refine ⟨rfl, _, _, by rw [hf2, hf1]; exact bx_uu _ _ _ _, hi_or hu hu2, hi_or hw hw2, fun d hd => ?_⟩
  dsimp only
  rw [hSd d hd, hSd2 d hd]
  unfold cb
  split <;> exact (gb_or _ _ _).symm
set_option maxHeartbeats 4000000 in
set_option maxRecDepth 100000 in
theorem k_Cel_keep (l : Launch) (G : GG) {P : List Nat} {f : Nat → va_E} (a : Nat) (S : Nat → Bool) (hm_a : a ∈ P) (hS : ce f a S) (b : Nat) (S2 : Nat → Bool) (hm_b : b ∈ P) (hS2 : ce f b S2) (hne : a ≠ b) : ct0 l G y_Cel_keep c_Cel_keep 2 none 0 0 [.ref a, .ref b] P f (fun x f1 => x = none ∧ cw f a f1 (fun d => S d && S2 d)) := by
  refine ct_intro (by decide) [some (.ref a), some (.ref b)] rfl rfl (Nat.le_of_ble_eq_true rfl) ?_
  intro p e s m below meth c ls C hr hlk hnm hE hM hl
  obtain ⟨u, w, hc_a, hu, hw, hSd⟩ := hS
  obtain ⟨u2, w2, hc_b, hu2, hw2, hSd2⟩ := hS2
  refine lv_aload_n C.1 C.2.1 d_Cel_keep_0 rfl (lo_at hl 0 rfl) ?_
  refine lv_dup C.1 C.2.1 d_Cel_keep_1 rfl ?_
  refine pg_get C hE hM hm_a hc_a rfl in_Cel 0 (Nat.le_of_ble_eq_true rfl) tw_402 rfl rfl d_Cel_keep_2 ?_
  refine lv_aload_n C.1 C.2.1 d_Cel_keep_5 rfl (lo_at hl 1 rfl) ?_
  refine pg_get C hE hM hm_b hc_b rfl in_Cel 0 (Nat.le_of_ble_eq_true rfl) tw_402 rfl rfl d_Cel_keep_6 ?_
  refine lv_land C.1 C.2.1 d_Cel_keep_9 ?_
  refine cg_put C hE hM hm_a hc_a rfl in_Cel ok_Cel n_Cel 0 (Nat.le_of_ble_eq_true rfl) tw_402 rfl rfl rfl rfl rfl (Nat.le_of_ble_eq_true rfl) d_Cel_keep_10 (fun f1 H1 locs1 hf1 hM => ?_)
  have hc_b := ((congrFun hf1 b).trans (va_up_ne _ _ (Ne.symm (hne)))).trans hc_b
  have hc_a := (congrFun hf1 a).trans (va_up_self _ _ _)
  refine lv_aload_n C.1 C.2.1 d_Cel_keep_13 rfl (lo_at hl 0 rfl) ?_
  refine lv_dup C.1 C.2.1 d_Cel_keep_14 rfl ?_
  refine pg_get C hE hM hm_a hc_a rfl in_Cel 1 (Nat.le_of_ble_eq_true rfl) tw_403 rfl rfl d_Cel_keep_15 ?_
  refine lv_aload_n C.1 C.2.1 d_Cel_keep_18 rfl (lo_at hl 1 rfl) ?_
  refine pg_get C hE hM hm_b hc_b rfl in_Cel 1 (Nat.le_of_ble_eq_true rfl) tw_403 rfl rfl d_Cel_keep_19 ?_
  refine lv_land C.1 C.2.1 d_Cel_keep_22 ?_
  refine cg_put C hE hM hm_a hc_a rfl in_Cel ok_Cel n_Cel 1 (Nat.le_of_ble_eq_true rfl) tw_403 rfl rfl rfl rfl rfl (Nat.le_of_ble_eq_true rfl) d_Cel_keep_23 (fun f2 H1 locs1 hf2 hM => ?_)
  have hc_b := ((congrFun hf2 b).trans (va_up_ne _ _ (Ne.symm (hne)))).trans hc_b
  have hc_a := (congrFun hf2 a).trans (va_up_self _ _ _)
  refine cg_vret C hr hlk hM d_Cel_keep_26 ?_
  refine ⟨rfl, _, _, by rw [hf2, hf1]; exact bx_uu _ _ _ _, hi_andl hu, hi_andl hw, fun d hd => ?_⟩
  dsimp only
  rw [hSd d hd, hSd2 d hd]
  unfold cb
  split <;> exact (gb_and _ _ _).symm
set_option maxHeartbeats 4000000 in
set_option maxRecDepth 100000 in
theorem k_Cel_hasAll (l : Launch) (G : GG) {P : List Nat} {f : Nat → va_E} (a : Nat) (S : Nat → Bool) (hm_a : a ∈ P) (hS : ce f a S) (b : Nat) (S2 : Nat → Bool) (hm_b : b ∈ P) (hS2 : ce f b S2)  : ct0 l G y_Cel_hasAll c_Cel_hasAll 2 (some .boolean) 0 0 [.ref a, .ref b] P f (fun x f1 => x = some (.int (bz (sub96 S2 S = true))) ∧ f1 = f) := by
  refine ct_intro (by decide) [some (.ref a), some (.ref b)] rfl rfl (Nat.le_of_ble_eq_true rfl) ?_
  intro p e s m below meth c ls C hr hlk hnm hE hM hl
  obtain ⟨u, w, hc_a, hu, hw, hSd⟩ := hS
  obtain ⟨u2, w2, hc_b, hu2, hw2, hSd2⟩ := hS2
  refine lv_aload_n C.1 C.2.1 d_Cel_hasAll_0 rfl (lo_at hl 1 rfl) ?_
  refine pg_get C hE hM hm_b hc_b rfl in_Cel 0 (Nat.le_of_ble_eq_true rfl) tw_402 rfl rfl d_Cel_hasAll_1 ?_
  refine lv_aload_n C.1 C.2.1 d_Cel_hasAll_4 rfl (lo_at hl 0 rfl) ?_
  refine pg_get C hE hM hm_a hc_a rfl in_Cel 0 (Nat.le_of_ble_eq_true rfl) tw_402 rfl rfl d_Cel_hasAll_5 ?_
  refine lv_ldc2 C.1 C.2.1 C.2.2.2.1 (C.2.2.2.2 _ tw_438) d_Cel_hasAll_8 ?_
  refine lv_lxor C.1 C.2.1 d_Cel_hasAll_11 ?_
  refine lv_land C.1 C.2.1 d_Cel_hasAll_12 ?_
  refine lv_lconst (v := 0) C.1 C.2.1 d_Cel_hasAll_13 (by decide) ?_
  refine W.lcmp C.1 C.2.1 d_Cel_hasAll_14 ?_
  refine lv_if_ne (tgt := 40) C.1 C.2.1 d_Cel_hasAll_15 (by decide) (fun hc15 => ?_) (fun hc15 => ?_)
  · refine lv_iconst (v := 0) C.1 C.2.1 d_Cel_hasAll_40 (by decide) ?_
    refine cg_zret C hr hlk hM d_Cel_hasAll_41 (by decide) ?_
    refine ⟨?_, rfl⟩
    have hb := cb_all (u := u) (w := w) hu2 hw2
    have hS : sub96 S2 S = true ↔ (∀ d, d < 96 → cb u2 w2 d = true → cb u w d = true) := sub96_iff.trans (forall_congr' (fun d => forall_congr' (fun hd => by rw [hSd d hd, hSd2 d hd])))
    rw [← hb] at hS
    rw [lcmp_0] at hc15
    have : ¬ (sub96 S2 S = true) := fun h => hc15 (hS.mp h).1
    simp [bz, this]
  · refine lv_aload_n C.1 C.2.1 d_Cel_hasAll_18 rfl (lo_at hl 1 rfl) ?_
    refine pg_get C hE hM hm_b hc_b rfl in_Cel 1 (Nat.le_of_ble_eq_true rfl) tw_403 rfl rfl d_Cel_hasAll_19 ?_
    refine lv_aload_n C.1 C.2.1 d_Cel_hasAll_22 rfl (lo_at hl 0 rfl) ?_
    refine pg_get C hE hM hm_a hc_a rfl in_Cel 1 (Nat.le_of_ble_eq_true rfl) tw_403 rfl rfl d_Cel_hasAll_23 ?_
    refine lv_ldc2 C.1 C.2.1 C.2.2.2.1 (C.2.2.2.2 _ tw_438) d_Cel_hasAll_26 ?_
    refine lv_lxor C.1 C.2.1 d_Cel_hasAll_29 ?_
    refine lv_land C.1 C.2.1 d_Cel_hasAll_30 ?_
    refine lv_lconst (v := 0) C.1 C.2.1 d_Cel_hasAll_31 (by decide) ?_
    refine W.lcmp C.1 C.2.1 d_Cel_hasAll_32 ?_
    refine lv_if_ne (tgt := 40) C.1 C.2.1 d_Cel_hasAll_33 (by decide) (fun hc33 => ?_) (fun hc33 => ?_)
    · refine lv_iconst (v := 0) C.1 C.2.1 d_Cel_hasAll_40 (by decide) ?_
      refine cg_zret C hr hlk hM d_Cel_hasAll_41 (by decide) ?_
      refine ⟨?_, rfl⟩
      have hb := cb_all (u := u) (w := w) hu2 hw2
      have hS : sub96 S2 S = true ↔ (∀ d, d < 96 → cb u2 w2 d = true → cb u w d = true) := sub96_iff.trans (forall_congr' (fun d => forall_congr' (fun hd => by rw [hSd d hd, hSd2 d hd])))
      rw [← hb] at hS
      replace hc15 := lcmp_0.mp hc15
      rw [lcmp_0] at hc33
      have : ¬ (sub96 S2 S = true) := fun h => hc33 (hS.mp h).2
      simp [bz, this]
    · refine lv_iconst (v := 1) C.1 C.2.1 d_Cel_hasAll_36 (by decide) ?_
      refine lv_goto (tgt := 41) C.1 C.2.1 d_Cel_hasAll_37 (by decide) ?_
      refine cg_zret C hr hlk hM d_Cel_hasAll_41 (by decide) ?_
      refine ⟨?_, rfl⟩
      have hb := cb_all (u := u) (w := w) hu2 hw2
      have hS : sub96 S2 S = true ↔ (∀ d, d < 96 → cb u2 w2 d = true → cb u w d = true) := sub96_iff.trans (forall_congr' (fun d => forall_congr' (fun hd => by rw [hSd d hd, hSd2 d hd])))
      rw [← hb] at hS
      replace hc15 := lcmp_0.mp hc15
      replace hc33 := lcmp_0.mp hc33
      have : sub96 S2 S = true := hS.mpr ⟨hc15, hc33⟩
      simp [bz, this]
