/-! the neighbours of a set of cells -/
theorem lo_of {ls : Array Slot} {vs : List (Option Value)} {lv : List (Nat × Value)} (h : lv_has ls vs.length lv) (hs : ∀ q ∈ loL 0 vs, q ∈ lv) : lo ls vs := ⟨h.1, h.2.1, fun q hq => h.2.2 q (hs q hq)⟩
theorem gb_half : ∀ i : Fin 64, gb 281474976710655 i.val = decide (i.val < 48) := by decide +kernel
theorem gb_nr : ∀ i : Fin 64, gb 140703120226303 i.val = (decide (i.val < 48) && decide (i.val % 12 ≠ 11)) := by decide +kernel
theorem gb_nl : ∀ i : Fin 64, gb 281406240452606 i.val = (decide (i.val < 48) && decide (i.val % 12 ≠ 0)) := by decide +kernel
theorem gb_ge {x : Int64} {i : Nat} (h : 64 ≤ i) : gb x i = false := BitVec.getLsbD_of_ge _ _ h
def nhb (h : Int64) (i : Nat) : Bool := (decide (12 ≤ i) && gb h (i - 12)) || gb h (i + 12) || (decide (i % 12 ≠ 0) && gb h (i - 1)) || (decide (i % 12 ≠ 11) && gb h (i + 1))
def nih (h : Int64) : Int64 := (((h <<< ((nI 12).toInt64 &&& 63)) &&& 281474976710655 ||| (h.toUInt64 >>> ((nI 12).toInt64.toUInt64 &&& Int64.toUInt64 63)).toInt64) ||| (h &&& 140703120226303) <<< ((nI 1).toInt64 &&& 63)) ||| ((h &&& 281406240452606).toUInt64 >>> ((nI 1).toInt64.toUInt64 &&& Int64.toUInt64 63)).toInt64
theorem nih_hi {h : Int64} (hh : hi48 h) : hi48 (nih h) := by
  intro i hi
  by_cases h64 : 64 ≤ i
  · exact gb_ge h64
  · unfold nih
    rw [gb_or, gb_or, gb_or, gb_and, lus_bit h (by decide), lus_bit _ (by decide), lsh_bit (h &&& 140703120226303) (by decide), gb_and, gb_and]
    have h1 : gb 281474976710655 i = decide (i < 48) := gb_half ⟨i, by omega⟩
    have h2 : gb 140703120226303 (i - 1) = (decide (i - 1 < 48) && decide ((i - 1) % 12 ≠ 11)) := gb_nr ⟨i - 1, by omega⟩
    have e1 : ¬ i < 48 := by omega
    rw [h1, h2, hh (12 + i) (by omega), hh (1 + i) (by omega)]
    simp only [e1, decide_false, Bool.and_false, Bool.false_or, Bool.false_and, Bool.or_false]
    by_cases e2 : i - 1 < 48
    · have : i = 48 := by omega
      subst this; simp
    · simp [e2]
theorem nih_bit {h : Int64} {i : Nat} (hi : i < 48) : gb (nih h) i = nhb h i := by
  unfold nih nhb
  rw [gb_or, gb_or, gb_or, gb_and, lsh_bit h (by decide), lus_bit h (by decide), lus_bit _ (by decide), lsh_bit (h &&& 140703120226303) (by decide), gb_and, gb_and]
  have h1 : gb 281474976710655 i = decide (i < 48) := gb_half ⟨i, by omega⟩
  have h2 : gb 140703120226303 (i - 1) = (decide (i - 1 < 48) && decide ((i - 1) % 12 ≠ 11)) := gb_nr ⟨i - 1, by omega⟩
  have h3 : gb 281406240452606 (1 + i) = (decide (1 + i < 48) && decide ((1 + i) % 12 ≠ 0)) := gb_nl ⟨1 + i, by omega⟩
  rw [h1, h2, h3]
  have a1 : decide (i < 64) = true := decide_eq_true (by omega)
  have a2 : decide (i < 48) = true := decide_eq_true hi
  have a3 : decide (i - 1 < 48) = true := decide_eq_true (by omega)
  have a4 : (!decide (i < 12)) = decide (12 ≤ i) := by
    by_cases e : i < 12
    · simp [e]
    · simp [e]; omega
  rw [Nat.add_comm 12 i, Nat.add_comm 1 i]
  simp only [a1, a2, a3, a4, Bool.true_and, Bool.and_true]
  congr 1
  · congr 1
    by_cases e : i % 12 = 0
    · by_cases e2 : i = 0
      · subst e2; simp
      · have : (i - 1) % 12 = 11 := by omega
        simp [e, this]
    · have e3 : (i - 1) % 12 ≠ 11 := by omega
      have e4 : ¬ i < 1 := by omega
      have e5 : i ≠ 0 := by omega
      simp [e, e3, e4, e5]
  · by_cases e : i % 12 = 11
    · have : (i + 1) % 12 = 0 := by omega
      simp [e, this]
    · have e3 : (i + 1) % 12 ≠ 0 := by omega
      have e4 : i + 1 < 48 := by omega
      simp [e, e3, e4]
/-- where a vehicle can come from there by one step -/
def nbS (S : Nat → Bool) (d : Nat) : Bool := (decide (12 ≤ d) && S (d - 12)) || (decide (d + 12 < 96) && S (d + 12)) || (decide (d % 12 ≠ 0) && S (d - 1)) || (decide (d % 12 ≠ 11) && S (d + 1))
theorem nbS_bit {u w : Int64} {S : Nat → Bool} (hu : hi48 u) (hw : hi48 w) (hS : ∀ d, d < 96 → S d = cb u w d) {d : Nat} (hd : d < 96) : nbS S d = cb (nih u ||| (w <<< ((nI 36).toInt64 &&& 63)) &&& 281474976710655) (nih w ||| (u.toUInt64 >>> ((nI 36).toInt64.toUInt64 &&& Int64.toUInt64 63)).toInt64) d := by
  by_cases h : d < 48
  · rw [cb_lo h, gb_or, gb_and, lsh_bit w (by decide), nih_bit h, show gb 281474976710655 d = decide (d < 48) from gb_half ⟨d, by omega⟩]
    have a1 : decide (d < 64) = true := decide_eq_true (by omega)
    have a2 : decide (d < 48) = true := decide_eq_true h
    have a3 : decide (d + 12 < 96) = true := decide_eq_true (by omega)
    have a4 : (!decide (d < 36)) = decide (36 ≤ d) := by
      by_cases e : d < 36
      · simp [e]
      · simp [e]; omega
    unfold nbS nhb
    rw [hS (d - 12) (by omega), hS (d + 12) (by omega), hS (d - 1) (by omega), hS (d + 1) (by omega), cb_lo (d := d - 12) (by omega), cb_lo (d := d - 1) (by omega)]
    simp only [a1, a2, a3, a4, Bool.true_and, Bool.and_true]
    have b1 : (decide (d % 12 ≠ 11) && cb u w (d + 1)) = (decide (d % 12 ≠ 11) && gb u (d + 1)) := by
      by_cases e : d % 12 = 11
      · simp [e]
      · rw [cb_lo (by omega)]
    rw [b1]
    by_cases e : d < 36
    · have : ¬ 36 ≤ d := by omega
      rw [cb_lo (by omega)]
      simp [this]
    · have e2 : 36 ≤ d := by omega
      rw [cb_hi (by omega), hu (d + 12) (by omega), show d + 12 - 48 = d - 36 from by omega]
      simp only [e2, decide_true, Bool.true_and, Bool.or_false]
      cases decide (12 ≤ d) && gb u (d - 12) <;> cases gb w (d - 36) <;> simp
  · rw [cb_hi h, gb_or, lus_bit u (by decide), nih_bit (by omega)]
    have a0 : decide (12 ≤ d) = true := decide_eq_true (by omega)
    have m1 : (d - 48) % 12 = d % 12 := by omega
    unfold nbS nhb
    rw [hS (d - 12) (by omega), hS (d - 1) (by omega), a0, m1, show d - 48 + 12 = d + 12 - 48 from by omega, show d - 48 - 1 = d - 1 - 48 from by omega, show d - 48 + 1 = d + 1 - 48 from by omega, show d - 48 - 12 = d - 12 - 48 from by omega]
    have b1 : (decide (d % 12 ≠ 0) && cb u w (d - 1)) = (decide (d % 12 ≠ 0) && gb w (d - 1 - 48)) := by
      by_cases e : d % 12 = 0
      · simp [e]
      · rw [cb_hi (by omega)]
    have b2 : (decide (d % 12 ≠ 11) && S (d + 1)) = (decide (d % 12 ≠ 11) && gb w (d + 1 - 48)) := by
      by_cases e : d % 12 = 11
      · simp [e]
      · rw [hS _ (by omega), cb_hi (by omega)]
    have b3 : (decide (d + 12 < 96) && S (d + 12)) = gb w (d + 12 - 48) := by
      by_cases e : d + 12 < 96
      · rw [hS _ e, cb_hi (by omega)]; simp [e]
      · rw [hw (d + 12 - 48) (by omega)]; simp [e]
    rw [b1, b2, b3, Bool.true_and]
    by_cases e : d - 12 < 48
    · have : ¬ 12 ≤ d - 48 := by omega
      rw [cb_lo e, show 36 + (d - 48) = d - 12 from by omega]
      simp only [this, decide_false, Bool.false_and, Bool.false_or]
      cases gb u (d - 12) <;> simp
    · have : 12 ≤ d - 48 := by omega
      rw [cb_hi e, hu (36 + (d - 48)) (by omega)]
      simp [this]
set_option maxHeartbeats 4000000 in
set_option maxRecDepth 100000 in
theorem k_Cel_neighboursInHalf (l : Launch) (G : GG) {P : List Nat} {f : Nat → va_E} (h : Int64)  : ct0 l G y_Cel_neighboursInHalf c_Cel_neighboursInHalf 2 (some .long) 0 0 [.long h] P f (fun x f1 => x = some (.long (nih h)) ∧ f1 = f) := by
  refine ct_intro (by decide) [some (.long h), none] rfl rfl (Nat.le_of_ble_eq_true rfl) ?_
  intro p e s m below meth c ls C hr hlk hnm hE hM hl
  refine lv_lload_n C.1 C.2.1 d_Cel_neighboursInHalf_0 rfl (lo_at hl 0 rfl) ?_
  refine lv_bipush (v := 12) C.1 C.2.1 d_Cel_neighboursInHalf_1 (by decide) ?_
  refine lv_lshl C.1 C.2.1 d_Cel_neighboursInHalf_3 rfl ?_
  refine lv_ldc2 C.1 C.2.1 C.2.2.2.1 (C.2.2.2.2 _ tw_431) d_Cel_neighboursInHalf_4 ?_
  refine lv_land C.1 C.2.1 d_Cel_neighboursInHalf_7 ?_
  refine lv_lload_n C.1 C.2.1 d_Cel_neighboursInHalf_8 rfl (lo_at hl 0 rfl) ?_
  refine lv_bipush (v := 12) C.1 C.2.1 d_Cel_neighboursInHalf_9 (by decide) ?_
  refine lv_lushr C.1 C.2.1 d_Cel_neighboursInHalf_11 rfl ?_
  refine lv_lor C.1 C.2.1 d_Cel_neighboursInHalf_12 ?_
  refine lv_lload_n C.1 C.2.1 d_Cel_neighboursInHalf_13 rfl (lo_at hl 0 rfl) ?_
  refine lv_ldc2 C.1 C.2.1 C.2.2.2.1 (C.2.2.2.2 _ tw_432) d_Cel_neighboursInHalf_14 ?_
  refine lv_land C.1 C.2.1 d_Cel_neighboursInHalf_17 ?_
  refine lv_iconst (v := 1) C.1 C.2.1 d_Cel_neighboursInHalf_18 (by decide) ?_
  refine lv_lshl C.1 C.2.1 d_Cel_neighboursInHalf_19 rfl ?_
  refine lv_lor C.1 C.2.1 d_Cel_neighboursInHalf_20 ?_
  refine lv_lload_n C.1 C.2.1 d_Cel_neighboursInHalf_21 rfl (lo_at hl 0 rfl) ?_
  refine lv_ldc2 C.1 C.2.1 C.2.2.2.1 (C.2.2.2.2 _ tw_433) d_Cel_neighboursInHalf_22 ?_
  refine lv_land C.1 C.2.1 d_Cel_neighboursInHalf_25 ?_
  refine lv_iconst (v := 1) C.1 C.2.1 d_Cel_neighboursInHalf_26 (by decide) ?_
  refine lv_lushr C.1 C.2.1 d_Cel_neighboursInHalf_27 rfl ?_
  refine lv_lor C.1 C.2.1 d_Cel_neighboursInHalf_28 ?_
  refine cg_lret C hr hlk hM d_Cel_neighboursInHalf_29 ?_
  exact ⟨rfl, rfl⟩
set_option maxHeartbeats 4000000 in
set_option maxRecDepth 100000 in
theorem k_Cel_becomeNeighboursOf (l : Launch) (G : GG) {P : List Nat} {f : Nat → va_E} (a : Nat) (S : Nat → Bool) (hm_a : a ∈ P) (hS : ce f a S) (b : Nat) (S2 : Nat → Bool) (hm_b : b ∈ P) (hS2 : ce f b S2) (hne : a ≠ b) : ct0 l G y_Cel_becomeNeighboursOf c_Cel_becomeNeighboursOf 6 none 1 21 [.ref a, .ref b] P f (fun x f1 => x = none ∧ cw f a f1 (nbS S2)) := by
  refine ct_intro (by decide) [some (.ref a), some (.ref b), none, none, none, none] rfl rfl (Nat.le_of_ble_eq_true rfl) ?_
  intro p e s m below meth c ls C hr hlk hnm hE hM hl
  obtain ⟨u, w, hc_a, hu, hw, hSd⟩ := hS
  obtain ⟨u2, w2, hc_b, hu2, hw2, hSd2⟩ := hS2
  refine lv_aload_n C.1 C.2.1 d_Cel_becomeNeighboursOf_0 rfl (lo_at hl 1 rfl) ?_
  refine pg_get C hE hM hm_b hc_b rfl in_Cel 0 (Nat.le_of_ble_eq_true rfl) tw_402 rfl rfl d_Cel_becomeNeighboursOf_1 ?_
  refine lv_lstore_n C.1 C.2.1 d_Cel_becomeNeighboursOf_4 rfl hl (Nat.le_of_ble_eq_true rfl) rfl (fun ls hl => ?_)
  have hl : lo ls [some (.ref a), some (.ref b), some (.long u2), none, none, none] := lo_of hl (by simp [loL, Value.category])
  refine lv_aload_n C.1 C.2.1 d_Cel_becomeNeighboursOf_5 rfl (lo_at hl 1 rfl) ?_
  refine pg_get C hE hM hm_b hc_b rfl in_Cel 1 (Nat.le_of_ble_eq_true rfl) tw_403 rfl rfl d_Cel_becomeNeighboursOf_6 ?_
  refine lv_lstore C.1 C.2.1 d_Cel_becomeNeighboursOf_9 hl (Nat.le_of_ble_eq_true rfl) rfl (fun ls hl => ?_)
  have hl : lo ls [some (.ref a), some (.ref b), some (.long u2), none, some (.long w2), none] := lo_of hl (by simp [loL, Value.category])
  refine lv_aload_n C.1 C.2.1 d_Cel_becomeNeighboursOf_11 rfl (lo_at hl 0 rfl) ?_
  refine lv_lload_n C.1 C.2.1 d_Cel_becomeNeighboursOf_12 rfl (lo_at hl 2 rfl) ?_
  refine cg_callS C hE hM (k_Cel_neighboursInHalf l G _) tw_428 cy_Cel_neighboursInHalf ⟨(Nat.le_of_ble_eq_true rfl), (Nat.le_of_ble_eq_true rfl)⟩ rfl hl.1 rfl (Nat.le_of_ble_eq_true rfl) ⟨Nat.zero_le _, Nat.zero_le _⟩ d_Cel_becomeNeighboursOf_13 (fun x9 f1 H1 locs1 hp hM => ?_)
  obtain ⟨rfl, h9⟩ := hp
  rw [h9] at hM
  clear h9
  refine W.eq (g2 := F0 m 16 ls [_, _]) rfl ?_
  refine lv_lload C.1 C.2.1 d_Cel_becomeNeighboursOf_16 (lo_at hl 4 rfl) ?_
  refine lv_bipush (v := 36) C.1 C.2.1 d_Cel_becomeNeighboursOf_18 (by decide) ?_
  refine lv_lshl C.1 C.2.1 d_Cel_becomeNeighboursOf_20 rfl ?_
  refine lv_ldc2 C.1 C.2.1 C.2.2.2.1 (C.2.2.2.2 _ tw_431) d_Cel_becomeNeighboursOf_21 ?_
  refine lv_land C.1 C.2.1 d_Cel_becomeNeighboursOf_24 ?_
  refine lv_lor C.1 C.2.1 d_Cel_becomeNeighboursOf_25 ?_
  refine cg_put C hE hM hm_a hc_a rfl in_Cel ok_Cel n_Cel 0 (Nat.le_of_ble_eq_true rfl) tw_402 rfl rfl rfl rfl rfl (Nat.le_of_ble_eq_true rfl) d_Cel_becomeNeighboursOf_26 (fun f2 H1 locs1 hf2 hM => ?_)
  have hc_b := ((congrFun hf2 b).trans (va_up_ne _ _ (Ne.symm (hne)))).trans hc_b
  have hc_a := (congrFun hf2 a).trans (va_up_self _ _ _)
  refine lv_aload_n C.1 C.2.1 d_Cel_becomeNeighboursOf_29 rfl (lo_at hl 0 rfl) ?_
  refine lv_lload C.1 C.2.1 d_Cel_becomeNeighboursOf_30 (lo_at hl 4 rfl) ?_
  refine cg_callS C hE hM (k_Cel_neighboursInHalf l G _) tw_428 cy_Cel_neighboursInHalf ⟨(Nat.le_of_ble_eq_true rfl), (Nat.le_of_ble_eq_true rfl)⟩ rfl hl.1 rfl (Nat.le_of_ble_eq_true rfl) ⟨Nat.zero_le _, Nat.zero_le _⟩ d_Cel_becomeNeighboursOf_32 (fun x9 f3 H1 locs1 hp hM => ?_)
  obtain ⟨rfl, h9⟩ := hp
  rw [h9] at hM
  clear h9
  refine W.eq (g2 := F0 m 35 ls [_, _]) rfl ?_
  refine lv_lload_n C.1 C.2.1 d_Cel_becomeNeighboursOf_35 rfl (lo_at hl 2 rfl) ?_
  refine lv_bipush (v := 36) C.1 C.2.1 d_Cel_becomeNeighboursOf_36 (by decide) ?_
  refine lv_lushr C.1 C.2.1 d_Cel_becomeNeighboursOf_38 rfl ?_
  refine lv_lor C.1 C.2.1 d_Cel_becomeNeighboursOf_39 ?_
  refine cg_put C hE hM hm_a hc_a rfl in_Cel ok_Cel n_Cel 1 (Nat.le_of_ble_eq_true rfl) tw_403 rfl rfl rfl rfl rfl (Nat.le_of_ble_eq_true rfl) d_Cel_becomeNeighboursOf_40 (fun f4 H1 locs1 hf4 hM => ?_)
  have hc_b := ((congrFun hf4 b).trans (va_up_ne _ _ (Ne.symm (hne)))).trans hc_b
  have hc_a := (congrFun hf4 a).trans (va_up_self _ _ _)
  refine cg_vret C hr hlk hM d_Cel_becomeNeighboursOf_43 ?_
  refine ⟨rfl, _, _, by rw [hf4, hf2]; exact bx_uu _ _ _ _, hi_or (nih_hi hu2) (hi_andr (fun i hi => ?_)), hi_or (nih_hi hw2) (fun i hi => ?_), fun d hd => nbS_bit hu2 hw2 hSd2 hd⟩
  · by_cases h64 : 64 ≤ i
    · exact gb_ge h64
    · rw [show gb 281474976710655 i = decide (i < 48) from gb_half ⟨i, by omega⟩]; simp; omega
  · rw [lus_bit u2 (by decide)]; exact hu2 _ (by omega)
