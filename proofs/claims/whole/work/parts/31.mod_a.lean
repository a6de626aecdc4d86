/-! small rows -/
def bz (p : Prop) [Decidable p] : Int32 := if p then 1 else 0
theorem bz_0 {p : Prop} [Decidable p] : bz p = 0 ↔ ¬ p := by
  unfold bz
  split <;> simp_all
theorem bz_1 {p : Prop} [Decidable p] : ¬ bz p = 0 ↔ p := by
  rw [bz_0]
  exact Decidable.not_not
theorem bz_nar {p : Prop} [Decidable p] : narrow .boolean (.int (bz p)) = .int (bz p) := by
  unfold bz
  split <;> decide
theorem bz_fit {p : Prop} [Decidable p] : fits .boolean (.int (bz p)) = true := by
  unfold bz
  split <;> decide
theorem sw_ne {x : Int32} {k : Int} {c : Int32} (h : ¬ x = c) (hc : c.toInt = k) : x.toInt ≠ k := fun e => h (Int32.toInt_inj.mp (by rw [hc]; exact e))
theorem sw_out2 {x : Int32} (h0 : ¬ x = 0) (h1 : ¬ x = 1) : x.toInt < 0 ∨ 1 < x.toInt := by
  have := sw_ne h0 (k := 0) (by decide); have := sw_ne h1 (k := 1) (by decide); omega
theorem sw_out3 {x : Int32} (h0 : ¬ x = 0) (h1 : ¬ x = 1) (h2 : ¬ x = 2) : x.toInt < 0 ∨ 2 < x.toInt := by
  have := sw_out2 h0 h1; have := sw_ne h2 (k := 2) (by decide); omega
theorem sw_out4 {x : Int32} (h0 : ¬ x = 0) (h1 : ¬ x = 1) (h2 : ¬ x = 2) (h3 : ¬ x = 3) : x.toInt < 0 ∨ 3 < x.toInt := by
  have := sw_out3 h0 h1 h2; have := sw_ne h3 (k := 3) (by decide); omega
theorem sw_out5 {x : Int32} (h0 : ¬ x = 0) (h1 : ¬ x = 1) (h2 : ¬ x = 2) (h3 : ¬ x = 3) (h4 : ¬ x = 4) : x.toInt < 0 ∨ 4 < x.toInt := by
  have := sw_out4 h0 h1 h2 h3; have := sw_ne h4 (k := 4) (by decide); omega
theorem sw_out7 {x : Int32} (h0 : ¬ x = 0) (h1 : ¬ x = 1) (h2 : ¬ x = 2) (h3 : ¬ x = 3) (h4 : ¬ x = 4) (h5 : ¬ x = 5) (h6 : ¬ x = 6) : x.toInt < 0 ∨ 6 < x.toInt := by
  have := sw_out5 h0 h1 h2 h3 h4; have := sw_ne h5 (k := 5) (by decide); have := sw_ne h6 (k := 6) (by decide); omega
/-- how the reference tells a throw -/
def thr (a b : Int32) : Int32 := if a = 0 then (if b = 0 then 0 else 2) else 1
def nb (c w : Int32) : Int32 := if w = 0 then (if c < 12 then -1 else c - 12) else if w = 1 then (if 11 ≤ c - c / 12 * 12 then -1 else c + 1) else if w = 2 then (if 84 ≤ c then -1 else c + 12) else if w = 3 then (if c - c / 12 * 12 ≤ 0 then -1 else c - 1) else c
theorem W.join {p : Program} {l : Launch} {e : Env} {R : Room} {s : State} {m : MethodId} {args : Array Value} {below : List Frame} {meth : Method} {c : Code} {H : Heap} {locs : List Loc} {cells slots : Nat} {Q : State → Prop} {g : JFrame} {α : Type} {I : α → Prop} {gf : α → JFrame} (k : (∀ z, I z → W p l e R s m args below meth c H locs cells slots Q (gf z)) → W p l e R s m args below meth c H locs cells slots Q g) (j : ∀ z, I z → W p l e R s m args below meth c H locs cells slots Q (gf z)) : W p l e R s m args below meth c H locs cells slots Q g := k j
abbrev inb (x lo hi : Int32) : Prop := ¬ x < lo ∧ ¬ hi < x
theorem lt_ix {x z : Int32} {n N : Nat} (hn : n ≤ N) (hN : N < 2147483648) (hz : z = nI n) (h : inb x 0 (z - 1)) : vp_in x N := by
  subst hz
  rw [vp_in_iff]
  have h1 : ¬ x.toInt < 0 := fun q => h.1 (Int32.lt_iff_toInt_lt.mpr q)
  have h2 : ¬ (nI n - 1).toInt < x.toInt := fun q => h.2 (Int32.lt_iff_toInt_lt.mpr q)
  cases n with
  | zero =>
    rw [show (nI 0 - 1).toInt = -1 from by decide] at h2
    omega
  | succ n =>
    rw [nI_pred, nI_toInt (by omega)] at h2
    omega
theorem bz_in {x : Int32} {n : Int32} (h : ¬ bz (¬ x < 0 ∧ ¬ n < x) = 0) : ¬ x < 0 ∧ ¬ n < x := by
  by_cases hh : ¬ x < 0 ∧ ¬ n < x
  · exact hh
  · exact absurd (bz_0.mpr hh) h
theorem in_ix {x n : Int32} {N : Nat} (h : ¬ x < 0 ∧ ¬ n < x) (hN : n.toInt < N) : vp_in x N := by
  rw [vp_in_iff]
  have h1 : ¬ x.toInt < 0 := fun z => h.1 (Int32.lt_iff_toInt_lt.mpr z)
  have h2 : ¬ n.toInt < x.toInt := fun z => h.2 (Int32.lt_iff_toInt_lt.mpr z)
  omega
set_option maxHeartbeats 4000000 in
set_option maxRecDepth 100000 in
/-- in: is x0 within lo .. hi -/
theorem k_Mod_in (l : Launch) (G : GG) (o : Nat) (r : Nat → Nat) (v : Nat → Int32) (A : Nat → Nat → Int32) (B : Nat → Nat → Int64) (x0 lo hi : Int32)  : mct l G y_Mod_in c_Mod_in 3 (some .boolean) 0 0 [.int x0, .int lo, .int hi] o r v A B (fun x v1 A1 B1 => x = some (.int (bz (inb x0 lo hi))) ∧ v1 = v ∧ A1 = A ∧ B1 = B) := by
  refine mct_intro (by decide) [some (.int x0), some (.int lo), some (.int hi)] rfl rfl (Nat.le_of_ble_eq_true rfl) ?_
  intro p e s m below meth c ls P f C hr hlk hE hM hm hl
  refine lv_iload_n C.1 C.2.1 d_Mod_in_0 rfl (lo_at hl 0 rfl) ?_
  refine lv_iload_n C.1 C.2.1 d_Mod_in_1 rfl (lo_at hl 1 rfl) ?_
  refine lv_icmp_lt (tgt := 14) C.1 C.2.1 d_Mod_in_2 (by decide) (fun hc2 => ?_) (fun hc2 => ?_)
  · refine lv_iconst (v := 0) C.1 C.2.1 d_Mod_in_14 (by decide) ?_
    refine md_zret C hr hlk hM hm d_Mod_in_15 (by decide) ?_
    refine ⟨?_, rfl, rfl, rfl⟩; simp [bz, inb, hc2]
  · refine lv_iload_n C.1 C.2.1 d_Mod_in_5 rfl (lo_at hl 0 rfl) ?_
    refine lv_iload_n C.1 C.2.1 d_Mod_in_6 rfl (lo_at hl 2 rfl) ?_
    refine lv_icmp_gt (tgt := 14) C.1 C.2.1 d_Mod_in_7 (by decide) (fun hc7 => ?_) (fun hc7 => ?_)
    · refine lv_iconst (v := 0) C.1 C.2.1 d_Mod_in_14 (by decide) ?_
      refine md_zret C hr hlk hM hm d_Mod_in_15 (by decide) ?_
      refine ⟨?_, rfl, rfl, rfl⟩; simp [bz, inb, hc2, hc7]
    · refine lv_iconst (v := 1) C.1 C.2.1 d_Mod_in_10 (by decide) ?_
      refine lv_goto (tgt := 15) C.1 C.2.1 d_Mod_in_11 (by decide) ?_
      refine md_zret C hr hlk hM hm d_Mod_in_15 (by decide) ?_
      refine ⟨?_, rfl, rfl, rfl⟩; simp [bz, inb, hc2, hc7]
set_option maxHeartbeats 4000000 in
set_option maxRecDepth 100000 in
theorem k_Mod_thrown (l : Launch) (G : GG) (o : Nat) (r : Nat → Nat) (v : Nat → Int32) (A : Nat → Nat → Int32) (B : Nat → Nat → Int64)   : mct l G y_Mod_thrown c_Mod_thrown 1 (some .int) 0 0 [.ref o] o r v A B (fun x v1 A1 B1 => x = some (.int (v 0)) ∧ v1 = v ∧ A1 = A ∧ B1 = B) := by
  refine mct_intro (by decide) [some (.ref o)] rfl rfl (Nat.le_of_ble_eq_true rfl) ?_
  intro p e s m below meth c ls P f C hr hlk hE hM hm hl
  refine lv_aload_n C.1 C.2.1 d_Mod_thrown_0 rfl (lo_at hl 0 rfl) ?_
  refine md_get (x := .int (v 0)) C hE hM hm 0 (Nat.le_of_ble_eq_true rfl) tw_782 rfl rfl d_Mod_thrown_1 ?_
  refine md_iret C hr hlk hM hm d_Mod_thrown_4 ?_
  exact ⟨rfl, rfl, rfl, rfl⟩
set_option maxHeartbeats 4000000 in
set_option maxRecDepth 100000 in
theorem k_Mod_throwing (l : Launch) (G : GG) (o : Nat) (r : Nat → Nat) (v : Nat → Int32) (A : Nat → Nat → Int32) (B : Nat → Nat → Int64) (a b : Int32)  : mct l G y_Mod_throwing c_Mod_throwing 3 (some .boolean) 0 0 [.ref o, .int a, .int b] o r v A B (fun x v1 A1 B1 => x = some (.int (bz (¬ thr a b = 0))) ∧ v1 = upd v 0 (thr a b) ∧ A1 = A ∧ B1 = B) := by
  refine mct_intro (by decide) [some (.ref o), some (.int a), some (.int b)] rfl rfl (Nat.le_of_ble_eq_true rfl) ?_
  intro p e s m below meth c ls P f C hr hlk hE hM hm hl
  refine lv_aload_n C.1 C.2.1 d_Mod_throwing_0 rfl (lo_at hl 0 rfl) ?_
  refine lv_iload_n C.1 C.2.1 d_Mod_throwing_1 rfl (lo_at hl 1 rfl) ?_
  refine lv_if_eq (tgt := 9) C.1 C.2.1 d_Mod_throwing_2 (by decide) (fun hc2 => ?_) (fun hc2 => ?_)
  · refine lv_iload_n C.1 C.2.1 d_Mod_throwing_9 rfl (lo_at hl 2 rfl) ?_
    refine lv_if_eq (tgt := 17) C.1 C.2.1 d_Mod_throwing_10 (by decide) (fun hc10 => ?_) (fun hc10 => ?_)
    · refine lv_iconst (v := 0) C.1 C.2.1 d_Mod_throwing_17 (by decide) ?_
      refine md_put C hE hM hm 0 (Nat.le_of_ble_eq_true rfl) tw_782 rfl rfl rfl rfl rfl d_Mod_throwing_18 (fun f1 H1 locs1 hM hm => ?_)
      refine lv_aload_n C.1 C.2.1 d_Mod_throwing_21 rfl (lo_at hl 0 rfl) ?_
      refine md_get (x := .int 0) C hE hM hm 0 (Nat.le_of_ble_eq_true rfl) tw_782 rfl rfl d_Mod_throwing_22 ?_
      refine lv_if_le (tgt := 32) C.1 C.2.1 d_Mod_throwing_25 (by decide) (fun hc25 => ?_) (fun hc25 => ?_)
      · refine lv_iconst (v := 0) C.1 C.2.1 d_Mod_throwing_32 (by decide) ?_
        refine md_zret C hr hlk hM hm d_Mod_throwing_33 (by decide) ?_
        first
          | (exfalso; revert hc25; simp [upd]; done)
          | (clear hc25; refine ⟨?_, ?_, rfl, rfl⟩ <;> (simp [thr, bz, hc2, hc10]; done))
      · refine lv_iconst (v := 1) C.1 C.2.1 d_Mod_throwing_28 (by decide) ?_
        refine lv_goto (tgt := 33) C.1 C.2.1 d_Mod_throwing_29 (by decide) ?_
        refine md_zret C hr hlk hM hm d_Mod_throwing_33 (by decide) ?_
        first
          | (exfalso; revert hc25; simp [upd]; done)
          | (clear hc25; refine ⟨?_, ?_, rfl, rfl⟩ <;> (simp [thr, bz, hc2, hc10]; done))
    · refine lv_iconst (v := 2) C.1 C.2.1 d_Mod_throwing_13 (by decide) ?_
      refine lv_goto (tgt := 18) C.1 C.2.1 d_Mod_throwing_14 (by decide) ?_
      refine md_put C hE hM hm 0 (Nat.le_of_ble_eq_true rfl) tw_782 rfl rfl rfl rfl rfl d_Mod_throwing_18 (fun f1 H1 locs1 hM hm => ?_)
      refine lv_aload_n C.1 C.2.1 d_Mod_throwing_21 rfl (lo_at hl 0 rfl) ?_
      refine md_get (x := .int 2) C hE hM hm 0 (Nat.le_of_ble_eq_true rfl) tw_782 rfl rfl d_Mod_throwing_22 ?_
      refine lv_if_le (tgt := 32) C.1 C.2.1 d_Mod_throwing_25 (by decide) (fun hc25 => ?_) (fun hc25 => ?_)
      · refine lv_iconst (v := 0) C.1 C.2.1 d_Mod_throwing_32 (by decide) ?_
        refine md_zret C hr hlk hM hm d_Mod_throwing_33 (by decide) ?_
        first
          | (exfalso; revert hc25; simp [upd]; done)
          | (clear hc25; refine ⟨?_, ?_, rfl, rfl⟩ <;> (simp [thr, bz, hc2, hc10]; done))
      · refine lv_iconst (v := 1) C.1 C.2.1 d_Mod_throwing_28 (by decide) ?_
        refine lv_goto (tgt := 33) C.1 C.2.1 d_Mod_throwing_29 (by decide) ?_
        refine md_zret C hr hlk hM hm d_Mod_throwing_33 (by decide) ?_
        first
          | (exfalso; revert hc25; simp [upd]; done)
          | (clear hc25; refine ⟨?_, ?_, rfl, rfl⟩ <;> (simp [thr, bz, hc2, hc10]; done))
  · refine lv_iconst (v := 1) C.1 C.2.1 d_Mod_throwing_5 (by decide) ?_
    refine lv_goto (tgt := 18) C.1 C.2.1 d_Mod_throwing_6 (by decide) ?_
    refine md_put C hE hM hm 0 (Nat.le_of_ble_eq_true rfl) tw_782 rfl rfl rfl rfl rfl d_Mod_throwing_18 (fun f1 H1 locs1 hM hm => ?_)
    refine lv_aload_n C.1 C.2.1 d_Mod_throwing_21 rfl (lo_at hl 0 rfl) ?_
    refine md_get (x := .int 1) C hE hM hm 0 (Nat.le_of_ble_eq_true rfl) tw_782 rfl rfl d_Mod_throwing_22 ?_
    refine lv_if_le (tgt := 32) C.1 C.2.1 d_Mod_throwing_25 (by decide) (fun hc25 => ?_) (fun hc25 => ?_)
    · refine lv_iconst (v := 0) C.1 C.2.1 d_Mod_throwing_32 (by decide) ?_
      refine md_zret C hr hlk hM hm d_Mod_throwing_33 (by decide) ?_
      first
        | (exfalso; revert hc25; simp [upd]; done)
        | (clear hc25; refine ⟨?_, ?_, rfl, rfl⟩ <;> (simp [thr, bz, hc2]; done))
    · refine lv_iconst (v := 1) C.1 C.2.1 d_Mod_throwing_28 (by decide) ?_
      refine lv_goto (tgt := 33) C.1 C.2.1 d_Mod_throwing_29 (by decide) ?_
      refine md_zret C hr hlk hM hm d_Mod_throwing_33 (by decide) ?_
      first
        | (exfalso; revert hc25; simp [upd]; done)
        | (clear hc25; refine ⟨?_, ?_, rfl, rfl⟩ <;> (simp [thr, bz, hc2]; done))
set_option maxHeartbeats 4000000 in
set_option maxRecDepth 100000 in
theorem k_Mod_neighbour (l : Launch) (G : GG) (o : Nat) (r : Nat → Nat) (v : Nat → Int32) (A : Nat → Nat → Int32) (B : Nat → Nat → Int64) (c0 w0 : Int32)  : mct l G y_Mod_neighbour c_Mod_neighbour 3 (some .int) 0 0 [.int c0, .int w0] o r v A B (fun x v1 A1 B1 => x = some (.int (nb c0 w0)) ∧ v1 = v ∧ A1 = A ∧ B1 = B) := by
  refine mct_intro (by decide) [some (.int c0), some (.int w0), none] rfl rfl (Nat.le_of_ble_eq_true rfl) ?_
  intro p e s m below meth c ls P f C hr hlk hE hM hm hl
  refine lv_iload_n C.1 C.2.1 d_Mod_neighbour_0 rfl (lo_at hl 0 rfl) ?_
  refine lv_bipush (v := 12) C.1 C.2.1 d_Mod_neighbour_1 (by decide) ?_
  refine lv_irem C.1 C.2.1 d_Mod_neighbour_3 (by decide) ?_
  refine lo_istore_n C hl d_Mod_neighbour_4 (Nat.le_of_ble_eq_true rfl) rfl (fun ls hl => ?_)
  refine lv_iload_n C.1 C.2.1 d_Mod_neighbour_5 rfl (lo_at hl 1 rfl) ?_
  refine lv_topi (fun sx1 he1 => ?_)
  by_cases hs1_0 : sx1 = 0
  · subst hs1_0
    refine lv_tableIn (tgt := 36) C.1 C.2.1 d_Mod_neighbour_6 (by decide) (by decide) rfl (by decide) ?_
    refine lv_iload_n C.1 C.2.1 d_Mod_neighbour_36 rfl (lo_at hl 0 rfl) ?_
    refine lv_bipush (v := 12) C.1 C.2.1 d_Mod_neighbour_37 (by decide) ?_
    refine lv_icmp_lt (tgt := 49) C.1 C.2.1 d_Mod_neighbour_39 (by decide) (fun hc39 => ?_) (fun hc39 => ?_)
    · refine lv_iconst (v := (-1)) C.1 C.2.1 d_Mod_neighbour_49 (by decide) ?_
      refine md_iret C hr hlk hM hm d_Mod_neighbour_50 ?_
      subst he1; refine ⟨?_, rfl, rfl, rfl⟩; simp [nb, hc39]
    · refine lv_iload_n C.1 C.2.1 d_Mod_neighbour_42 rfl (lo_at hl 0 rfl) ?_
      refine lv_bipush (v := 12) C.1 C.2.1 d_Mod_neighbour_43 (by decide) ?_
      refine lv_isub C.1 C.2.1 d_Mod_neighbour_45 ?_
      refine lv_goto (tgt := 50) C.1 C.2.1 d_Mod_neighbour_46 (by decide) ?_
      refine md_iret C hr hlk hM hm d_Mod_neighbour_50 ?_
      subst he1; refine ⟨?_, rfl, rfl, rfl⟩; simp [nb, hc39]
  by_cases hs1_1 : sx1 = 1
  · subst hs1_1
    refine lv_tableIn (tgt := 51) C.1 C.2.1 d_Mod_neighbour_6 (by decide) (by decide) rfl (by decide) ?_
    refine lv_iload_n C.1 C.2.1 d_Mod_neighbour_51 rfl (lo_at hl 2 rfl) ?_
    refine lv_bipush (v := 11) C.1 C.2.1 d_Mod_neighbour_52 (by decide) ?_
    refine lv_icmp_ge (tgt := 63) C.1 C.2.1 d_Mod_neighbour_54 (by decide) (fun hc54 => ?_) (fun hc54 => ?_)
    · refine lv_iconst (v := (-1)) C.1 C.2.1 d_Mod_neighbour_63 (by decide) ?_
      refine md_iret C hr hlk hM hm d_Mod_neighbour_64 ?_
      subst he1; refine ⟨?_, rfl, rfl, rfl⟩; simp [nb, hs1_0, hc54]
    · refine lv_iload_n C.1 C.2.1 d_Mod_neighbour_57 rfl (lo_at hl 0 rfl) ?_
      refine lv_iconst (v := 1) C.1 C.2.1 d_Mod_neighbour_58 (by decide) ?_
      refine lv_iadd C.1 C.2.1 d_Mod_neighbour_59 ?_
      refine lv_goto (tgt := 64) C.1 C.2.1 d_Mod_neighbour_60 (by decide) ?_
      refine md_iret C hr hlk hM hm d_Mod_neighbour_64 ?_
      subst he1; refine ⟨?_, rfl, rfl, rfl⟩; simp [nb, hs1_0, hc54]
  by_cases hs1_2 : sx1 = 2
  · subst hs1_2
    refine lv_tableIn (tgt := 65) C.1 C.2.1 d_Mod_neighbour_6 (by decide) (by decide) rfl (by decide) ?_
    refine lv_iload_n C.1 C.2.1 d_Mod_neighbour_65 rfl (lo_at hl 0 rfl) ?_
    refine lv_bipush (v := 84) C.1 C.2.1 d_Mod_neighbour_66 (by decide) ?_
    refine lv_icmp_ge (tgt := 78) C.1 C.2.1 d_Mod_neighbour_68 (by decide) (fun hc68 => ?_) (fun hc68 => ?_)
    · refine lv_iconst (v := (-1)) C.1 C.2.1 d_Mod_neighbour_78 (by decide) ?_
      refine md_iret C hr hlk hM hm d_Mod_neighbour_79 ?_
      subst he1; refine ⟨?_, rfl, rfl, rfl⟩; simp [nb, hs1_0, hs1_1, hc68]
    · refine lv_iload_n C.1 C.2.1 d_Mod_neighbour_71 rfl (lo_at hl 0 rfl) ?_
      refine lv_bipush (v := 12) C.1 C.2.1 d_Mod_neighbour_72 (by decide) ?_
      refine lv_iadd C.1 C.2.1 d_Mod_neighbour_74 ?_
      refine lv_goto (tgt := 79) C.1 C.2.1 d_Mod_neighbour_75 (by decide) ?_
      refine md_iret C hr hlk hM hm d_Mod_neighbour_79 ?_
      subst he1; refine ⟨?_, rfl, rfl, rfl⟩; simp [nb, hs1_0, hs1_1, hc68]
  by_cases hs1_3 : sx1 = 3
  · subst hs1_3
    refine lv_tableIn (tgt := 80) C.1 C.2.1 d_Mod_neighbour_6 (by decide) (by decide) rfl (by decide) ?_
    refine lv_iload_n C.1 C.2.1 d_Mod_neighbour_80 rfl (lo_at hl 2 rfl) ?_
    refine lv_if_le (tgt := 90) C.1 C.2.1 d_Mod_neighbour_81 (by decide) (fun hc81 => ?_) (fun hc81 => ?_)
    · refine lv_iconst (v := (-1)) C.1 C.2.1 d_Mod_neighbour_90 (by decide) ?_
      refine md_iret C hr hlk hM hm d_Mod_neighbour_91 ?_
      subst he1; refine ⟨?_, rfl, rfl, rfl⟩; simp [nb, hs1_0, hs1_1, hs1_2, hc81]
    · refine lv_iload_n C.1 C.2.1 d_Mod_neighbour_84 rfl (lo_at hl 0 rfl) ?_
      refine lv_iconst (v := 1) C.1 C.2.1 d_Mod_neighbour_85 (by decide) ?_
      refine lv_isub C.1 C.2.1 d_Mod_neighbour_86 ?_
      refine lv_goto (tgt := 91) C.1 C.2.1 d_Mod_neighbour_87 (by decide) ?_
      refine md_iret C hr hlk hM hm d_Mod_neighbour_91 ?_
      subst he1; refine ⟨?_, rfl, rfl, rfl⟩; simp [nb, hs1_0, hs1_1, hs1_2, hc81]
  refine lv_tableOut (tgt := 92) C.1 C.2.1 d_Mod_neighbour_6 (sw_out4 hs1_0 hs1_1 hs1_2 hs1_3) (by decide) ?_
  refine lv_iload_n C.1 C.2.1 d_Mod_neighbour_92 rfl (lo_at hl 0 rfl) ?_
  refine md_iret C hr hlk hM hm d_Mod_neighbour_93 ?_
  subst he1; refine ⟨?_, rfl, rfl, rfl⟩; simp [nb, hs1_0, hs1_1, hs1_2, hs1_3]
