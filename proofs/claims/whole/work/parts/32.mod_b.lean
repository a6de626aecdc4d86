abbrev ix (x : Int32) : Nat := x.toNatClampNeg
abbrev okCell (v : Nat → Int32) (c k : Int32) : Prop := v 1 = 0 ∧ inb c 0 95 ∧ inb k 0 3
abbrev isLt (v : Nat → Int32) (k : Int32) : Prop := inb k 0 (v 31 - 1)
def lett (v : Nat → Int32) (A : Nat → Nat → Int32) (k w : Int32) : Int32 := if isLt v k then (if w = 0 then A 32 (ix k) else if w = 1 then A 33 (ix k) else if w = 2 then A 34 (ix k) else -1) else -1
def cnt (v : Nat → Int32) (w : Int32) : Int32 := if v 1 = 0 then -1 else if w = 0 then v 9 - v 10 else if w = 1 then v 9 else if w = 2 then v 30 else if w = 3 then v 29 else if w = 4 then v 3 else -1
def tko (v : Nat → Int32) (A : Nat → Nat → Int32) (t w : Int32) : Int32 := if inb t 0 (v 9 - 1) then (if w = 0 then A 13 (ix t) else if w = 1 then A 18 (ix t) else -1) else -1
def veh (v : Nat → Int32) (A : Nat → Nat → Int32) (u w : Int32) : Int32 := if inb u 0 (v 4 - 1) then (if w = 0 then A 22 (ix u) else if w = 1 then A 23 (ix u) else if w = 2 then A 24 (ix u) else if w = 3 then A 25 (ix u) else if w = 4 then A 26 (ix u) else if w = 5 then A 27 (ix u) else if w = 6 then A 28 (ix u) else -1) else -1
abbrev rm8 (x : Int32) : Int32 := x - x / 8 * 8
abbrev isTn (v : Nat → Int32) (u : Int32) : Prop := rm8 (v 30) = rm8 u
abbrev isOt (v : Nat → Int32) (A : Nat → Nat → Int32) (c : Int32) : Prop := A 2 (ix c) = 3 ∧ ¬ c = A 6 (ix (v 38))
def dn1 (A : Nat → Nat → Int32) (t c b : Int32) : Int32 := if b = 0 ∧ c = A 11 (ix t) then 1 else b
def dnA (A : Nat → Nat → Int32) (t c b : Int32) : Int32 := if dn1 A t c b = 1 ∧ c = A 12 (ix t) then 2 else dn1 A t c b
/-- a letter is sent -/
def sndA (v : Nat → Int32) (A : Nat → Nat → Int32) (k u n : Int32) : Nat → Nat → Int32 := if v 31 = 60 then A else va_up (va_up (va_up A 32 (upd (A 32) (ix (v 31)) k)) 33 (upd (A 33) (ix (v 31)) u)) 34 (upd (A 34) (ix (v 31)) n)
def sndV (v : Nat → Int32) : Nat → Int32 := if v 31 = 60 then v else upd v 31 (v 31 + 1)
abbrev lj (set c : Int32) : Int32 := 2 * set + c >>> ((6 : Int32) &&& 31)
abbrev isI (g : Nat → Int64) (set c : Int32) : Prop := (g (ix (lj set c)) >>> (c.toInt64 &&& 63)) &&& 1 = 1
def addL (g : Nat → Int64) (set c : Int32) : Nat → Int64 := vp_updL g (ix (lj set c)) (g (ix (lj set c)) ||| (1 : Int64) <<< (c.toInt64 &&& 63))
theorem lcmp_0 {x y : Int64} : lg_cmp x y = 0 ↔ x = y := by
  unfold lg_cmp
  split
  · rename_i h; constructor
    · intro z; exact absurd z (by decide)
    · intro z; subst z; exact (Int64.lt_irrefl h).elim
  · split
    · rename_i h; simp [h]
    · rename_i h; constructor
      · intro z; exact absurd z (by decide)
      · intro z; exact absurd z h
set_option maxHeartbeats 4000000 in
set_option maxRecDepth 100000 in
theorem k_Mod_cell (l : Launch) (G : GG) (o : Nat) (r : Nat → Nat) (v : Nat → Int32) (A : Nat → Nat → Int32) (B : Nat → Nat → Int64) (c0 k0 : Int32)  : mct l G y_Mod_cell c_Mod_cell 3 (some .boolean) 1 22 [.ref o, .int c0, .int k0] o r v A B (fun x v1 A1 B1 => x = some (.int (bz (okCell v c0 k0))) ∧ v1 = upd v 0 0 ∧ A1 = (if okCell v c0 k0 then va_up A 2 (upd (A 2) (ix c0) k0) else A) ∧ B1 = B) := by
  refine mct_intro (by decide) [some (.ref o), some (.int c0), some (.int k0)] rfl rfl (Nat.le_of_ble_eq_true rfl) ?_
  intro p e s m below meth c ls P f C hr hlk hE hM hm hl
  refine lv_aload_n C.1 C.2.1 d_Mod_cell_0 rfl (lo_at hl 0 rfl) ?_
  refine lv_iconst (v := 0) C.1 C.2.1 d_Mod_cell_1 (by decide) ?_
  refine md_put C hE hM hm 0 (Nat.le_of_ble_eq_true rfl) tw_782 rfl rfl rfl rfl rfl d_Mod_cell_2 (fun f1 H1 locs1 hM hm => ?_)
  refine lv_aload_n C.1 C.2.1 d_Mod_cell_5 rfl (lo_at hl 0 rfl) ?_
  refine md_get (x := .int (v 1)) C hE hM hm 1 (Nat.le_of_ble_eq_true rfl) tw_783 rfl rfl d_Mod_cell_6 ?_
  refine lv_if_ne (tgt := 31) C.1 C.2.1 d_Mod_cell_9 (by decide) (fun hc9 => ?_) (fun hc9 => ?_)
  · refine lv_iconst (v := 0) C.1 C.2.1 d_Mod_cell_31 (by decide) ?_
    refine md_zret C hr hlk hM hm d_Mod_cell_32 (by decide) ?_
    refine ⟨?_, rfl, ?_, rfl⟩ <;> simp [bz, okCell, hc9]
  · refine lv_iload_n C.1 C.2.1 d_Mod_cell_12 rfl (lo_at hl 1 rfl) ?_
    refine lv_iconst (v := 0) C.1 C.2.1 d_Mod_cell_13 (by decide) ?_
    refine lv_bipush (v := 95) C.1 C.2.1 d_Mod_cell_14 (by decide) ?_
    refine md_callS C hE hM hm (k_Mod_in l G o r _ _ _ _ _ _) tw_912 cy_Mod_in ⟨(Nat.le_of_ble_eq_true rfl), (Nat.le_of_ble_eq_true rfl)⟩ rfl hl.1 rfl (Nat.le_of_ble_eq_true rfl) ⟨Nat.zero_le _, Nat.zero_le _⟩ d_Mod_cell_16 (fun x9 f1 H1 locs1 v9 A9 B9 hp hM hm => ?_)
    obtain ⟨hx9, hv9, hA9, hB9⟩ := hp
    subst hx9
    rw [hv9, hA9, hB9] at hm
    refine W.eq (g2 := F0 m 19 ls (_ :: _)) rfl ?_
    refine lv_if_eq (tgt := 31) C.1 C.2.1 d_Mod_cell_19 (by decide) (fun hc19 => ?_) (fun hc19 => ?_)
    · replace hc19 := bz_0.mp hc19
      refine lv_iconst (v := 0) C.1 C.2.1 d_Mod_cell_31 (by decide) ?_
      refine md_zret C hr hlk hM hm d_Mod_cell_32 (by decide) ?_
      refine ⟨?_, rfl, ?_, rfl⟩ <;> simp [bz, okCell, hc9, hc19]
    · replace hc19 := bz_1.mp hc19
      refine lv_iload_n C.1 C.2.1 d_Mod_cell_22 rfl (lo_at hl 2 rfl) ?_
      refine lv_iconst (v := 0) C.1 C.2.1 d_Mod_cell_23 (by decide) ?_
      refine lv_iconst (v := 3) C.1 C.2.1 d_Mod_cell_24 (by decide) ?_
      refine md_callS C hE hM hm (k_Mod_in l G o r _ _ _ _ _ _) tw_912 cy_Mod_in ⟨(Nat.le_of_ble_eq_true rfl), (Nat.le_of_ble_eq_true rfl)⟩ rfl hl.1 rfl (Nat.le_of_ble_eq_true rfl) ⟨Nat.zero_le _, Nat.zero_le _⟩ d_Mod_cell_25 (fun x9 f1 H1 locs1 v9 A9 B9 hp hM hm => ?_)
      obtain ⟨hx9, hv9, hA9, hB9⟩ := hp
      subst hx9
      rw [hv9, hA9, hB9] at hm
      refine W.eq (g2 := F0 m 28 ls (_ :: _)) rfl ?_
      refine lv_if_ne (tgt := 33) C.1 C.2.1 d_Mod_cell_28 (by decide) (fun hc28 => ?_) (fun hc28 => ?_)
      · replace hc28 := bz_1.mp hc28
        refine lv_aload_n C.1 C.2.1 d_Mod_cell_33 rfl (lo_at hl 0 rfl) ?_
        refine md_get C hE hM hm 2 (Nat.le_of_ble_eq_true rfl) tw_784 rfl rfl d_Mod_cell_34 ?_
        refine lv_iload_n C.1 C.2.1 d_Mod_cell_37 rfl (lo_at hl 1 rfl) ?_
        refine lv_iload_n C.1 C.2.1 d_Mod_cell_38 rfl (lo_at hl 2 rfl) ?_
        refine md_iast C hE hM hm 2 rfl (in_ix hc19 (by decide)) d_Mod_cell_39 (fun f1 H1 locs1 hM hm => ?_)
        refine lv_iconst (v := 1) C.1 C.2.1 d_Mod_cell_40 (by decide) ?_
        refine md_zret C hr hlk hM hm d_Mod_cell_41 (by decide) ?_
        refine ⟨?_, rfl, ?_, rfl⟩ <;> simp [bz, okCell, hc9, hc19, hc28]
      · replace hc28 := bz_0.mp hc28
        refine lv_iconst (v := 0) C.1 C.2.1 d_Mod_cell_31 (by decide) ?_
        refine md_zret C hr hlk hM hm d_Mod_cell_32 (by decide) ?_
        refine ⟨?_, rfl, ?_, rfl⟩ <;> simp [bz, okCell, hc9, hc19, hc28]
set_option maxHeartbeats 4000000 in
set_option maxRecDepth 100000 in
theorem k_Mod_letters (l : Launch) (G : GG) (o : Nat) (r : Nat → Nat) (v : Nat → Int32) (A : Nat → Nat → Int32) (B : Nat → Nat → Int64)   : mct l G y_Mod_letters c_Mod_letters 1 (some .int) 0 0 [.ref o] o r v A B (fun x v1 A1 B1 => x = some (.int (v 31)) ∧ v1 = upd v 0 0 ∧ A1 = A ∧ B1 = B) := by
  refine mct_intro (by decide) [some (.ref o)] rfl rfl (Nat.le_of_ble_eq_true rfl) ?_
  intro p e s m below meth c ls P f C hr hlk hE hM hm hl
  refine lv_aload_n C.1 C.2.1 d_Mod_letters_0 rfl (lo_at hl 0 rfl) ?_
  refine lv_iconst (v := 0) C.1 C.2.1 d_Mod_letters_1 (by decide) ?_
  refine md_put C hE hM hm 0 (Nat.le_of_ble_eq_true rfl) tw_782 rfl rfl rfl rfl rfl d_Mod_letters_2 (fun f1 H1 locs1 hM hm => ?_)
  refine lv_aload_n C.1 C.2.1 d_Mod_letters_5 rfl (lo_at hl 0 rfl) ?_
  refine md_get (x := .int (v 31)) C hE hM hm 31 (Nat.le_of_ble_eq_true rfl) tw_813 rfl rfl d_Mod_letters_6 ?_
  refine md_iret C hr hlk hM hm d_Mod_letters_9 ?_
  exact ⟨rfl, rfl, rfl, rfl⟩
set_option maxHeartbeats 4000000 in
set_option maxRecDepth 100000 in
theorem k_Mod_isLetter (l : Launch) (G : GG) (o : Nat) (r : Nat → Nat) (v : Nat → Int32) (A : Nat → Nat → Int32) (B : Nat → Nat → Int64) (k0 : Int32)  : mct l G y_Mod_isLetter c_Mod_isLetter 2 (some .boolean) 1 22 [.ref o, .int k0] o r v A B (fun x v1 A1 B1 => x = some (.int (bz (isLt v k0))) ∧ v1 = v ∧ A1 = A ∧ B1 = B) := by
  refine mct_intro (by decide) [some (.ref o), some (.int k0)] rfl rfl (Nat.le_of_ble_eq_true rfl) ?_
  intro p e s m below meth c ls P f C hr hlk hE hM hm hl
  refine lv_iload_n C.1 C.2.1 d_Mod_isLetter_0 rfl (lo_at hl 1 rfl) ?_
  refine lv_iconst (v := 0) C.1 C.2.1 d_Mod_isLetter_1 (by decide) ?_
  refine lv_aload_n C.1 C.2.1 d_Mod_isLetter_2 rfl (lo_at hl 0 rfl) ?_
  refine md_get (x := .int (v 31)) C hE hM hm 31 (Nat.le_of_ble_eq_true rfl) tw_813 rfl rfl d_Mod_isLetter_3 ?_
  refine lv_iconst (v := 1) C.1 C.2.1 d_Mod_isLetter_6 (by decide) ?_
  refine lv_isub C.1 C.2.1 d_Mod_isLetter_7 ?_
  refine md_callS C hE hM hm (k_Mod_in l G o r _ _ _ _ _ _) tw_912 cy_Mod_in ⟨(Nat.le_of_ble_eq_true rfl), (Nat.le_of_ble_eq_true rfl)⟩ rfl hl.1 rfl (Nat.le_of_ble_eq_true rfl) ⟨Nat.zero_le _, Nat.zero_le _⟩ d_Mod_isLetter_8 (fun x9 f1 H1 locs1 v9 A9 B9 hp hM hm => ?_)
  obtain ⟨hx9, hv9, hA9, hB9⟩ := hp
  subst hx9
  rw [hv9, hA9, hB9] at hm
  refine W.eq (g2 := F0 m 11 ls (_ :: _)) rfl ?_
  refine md_zret C hr hlk hM hm d_Mod_isLetter_11 bz_nar ?_
  exact ⟨rfl, rfl, rfl, rfl⟩
set_option maxHeartbeats 4000000 in
set_option maxRecDepth 100000 in
theorem k_Mod_letter (l : Launch) (G : GG) (o : Nat) (r : Nat → Nat) (v : Nat → Int32) (A : Nat → Nat → Int32) (B : Nat → Nat → Int64) (k0 w0 : Int32) {nl : Nat} (hn : nl ≤ 60) (h31 : v 31 = nI nl) : mct l G y_Mod_letter c_Mod_letter 3 (some .int) 2 43 [.ref o, .int k0, .int w0] o r v A B (fun x v1 A1 B1 => x = some (.int (lett v A k0 w0)) ∧ v1 = upd v 0 0 ∧ A1 = A ∧ B1 = B) := by
  refine mct_intro (by decide) [some (.ref o), some (.int k0), some (.int w0)] rfl rfl (Nat.le_of_ble_eq_true rfl) ?_
  intro p e s m below meth c ls P f C hr hlk hE hM hm hl
  refine lv_aload_n C.1 C.2.1 d_Mod_letter_0 rfl (lo_at hl 0 rfl) ?_
  refine lv_iconst (v := 0) C.1 C.2.1 d_Mod_letter_1 (by decide) ?_
  refine md_put C hE hM hm 0 (Nat.le_of_ble_eq_true rfl) tw_782 rfl rfl rfl rfl rfl d_Mod_letter_2 (fun f1 H1 locs1 hM hm => ?_)
  refine lv_aload_n C.1 C.2.1 d_Mod_letter_5 rfl (lo_at hl 0 rfl) ?_
  refine lv_iload_n C.1 C.2.1 d_Mod_letter_6 rfl (lo_at hl 1 rfl) ?_
  refine md_callV C hE hM hm (k_Mod_isLetter l G o r _ _ _ _) rfl tw_946 cy_Mod_isLetter ⟨(Nat.le_of_ble_eq_true rfl), (Nat.le_of_ble_eq_true rfl)⟩ rfl hl.1 rfl (Nat.le_of_ble_eq_true rfl) ⟨Nat.zero_le _, Nat.zero_le _⟩ d_Mod_letter_7 (fun x9 f1 H1 locs1 v9 A9 B9 hp hM hm => ?_)
  obtain ⟨hx9, hv9, hA9, hB9⟩ := hp
  subst hx9
  rw [hv9, hA9, hB9] at hm
  refine W.eq (g2 := F0 m 10 ls (_ :: _)) rfl ?_
  refine lv_if_ne (tgt := 15) C.1 C.2.1 d_Mod_letter_10 (by decide) (fun hc10 => ?_) (fun hc10 => ?_)
  · replace hc10 := bz_1.mp hc10
    refine lv_iload_n C.1 C.2.1 d_Mod_letter_15 rfl (lo_at hl 2 rfl) ?_
    refine lv_if_ne (tgt := 28) C.1 C.2.1 d_Mod_letter_16 (by decide) (fun hc16 => ?_) (fun hc16 => ?_)
    · refine lv_iload_n C.1 C.2.1 d_Mod_letter_28 rfl (lo_at hl 2 rfl) ?_
      refine lv_iconst (v := 1) C.1 C.2.1 d_Mod_letter_29 (by decide) ?_
      refine lv_icmp_ne (tgt := 42) C.1 C.2.1 d_Mod_letter_30 (by decide) (fun hc30 => ?_) (fun hc30 => ?_)
      · refine lv_iload_n C.1 C.2.1 d_Mod_letter_42 rfl (lo_at hl 2 rfl) ?_
        refine lv_iconst (v := 2) C.1 C.2.1 d_Mod_letter_43 (by decide) ?_
        refine lv_icmp_ne (tgt := 56) C.1 C.2.1 d_Mod_letter_44 (by decide) (fun hc44 => ?_) (fun hc44 => ?_)
        · refine lv_iconst (v := (-1)) C.1 C.2.1 d_Mod_letter_56 (by decide) ?_
          refine md_iret C hr hlk hM hm d_Mod_letter_57 ?_
          have hc10 : isLt v k0 := hc10
          refine ⟨?_, rfl, rfl, rfl⟩
          rw [lett, if_pos hc10]; simp [hc10, hc16, hc30, hc44]
        · refine lv_aload_n C.1 C.2.1 d_Mod_letter_47 rfl (lo_at hl 0 rfl) ?_
          refine md_get C hE hM hm 34 (Nat.le_of_ble_eq_true rfl) tw_816 rfl rfl d_Mod_letter_48 ?_
          refine lv_iload_n C.1 C.2.1 d_Mod_letter_51 rfl (lo_at hl 1 rfl) ?_
          refine md_iald C hE hM hm 34 rfl (lt_ix hn (by decide) h31 hc10) d_Mod_letter_52 ?_
          refine lv_goto (tgt := 57) C.1 C.2.1 d_Mod_letter_53 (by decide) ?_
          refine md_iret C hr hlk hM hm d_Mod_letter_57 ?_
          have hc10 : isLt v k0 := hc10
          refine ⟨?_, rfl, rfl, rfl⟩
          rw [lett, if_pos hc10]; simp [hc10, hc16, hc30, hc44]
      · refine lv_aload_n C.1 C.2.1 d_Mod_letter_33 rfl (lo_at hl 0 rfl) ?_
        refine md_get C hE hM hm 33 (Nat.le_of_ble_eq_true rfl) tw_815 rfl rfl d_Mod_letter_34 ?_
        refine lv_iload_n C.1 C.2.1 d_Mod_letter_37 rfl (lo_at hl 1 rfl) ?_
        refine md_iald C hE hM hm 33 rfl (lt_ix hn (by decide) h31 hc10) d_Mod_letter_38 ?_
        refine lv_goto (tgt := 57) C.1 C.2.1 d_Mod_letter_39 (by decide) ?_
        refine md_iret C hr hlk hM hm d_Mod_letter_57 ?_
        have hc10 : isLt v k0 := hc10
        refine ⟨?_, rfl, rfl, rfl⟩
        rw [lett, if_pos hc10]; simp [hc10, hc16, hc30]
    · refine lv_aload_n C.1 C.2.1 d_Mod_letter_19 rfl (lo_at hl 0 rfl) ?_
      refine md_get C hE hM hm 32 (Nat.le_of_ble_eq_true rfl) tw_814 rfl rfl d_Mod_letter_20 ?_
      refine lv_iload_n C.1 C.2.1 d_Mod_letter_23 rfl (lo_at hl 1 rfl) ?_
      refine md_iald C hE hM hm 32 rfl (lt_ix hn (by decide) h31 hc10) d_Mod_letter_24 ?_
      refine lv_goto (tgt := 57) C.1 C.2.1 d_Mod_letter_25 (by decide) ?_
      refine md_iret C hr hlk hM hm d_Mod_letter_57 ?_
      have hc10 : isLt v k0 := hc10
      refine ⟨?_, rfl, rfl, rfl⟩
      rw [lett, if_pos hc10]; simp [hc10, hc16]
  · replace hc10 := bz_0.mp hc10
    refine lv_iconst (v := (-1)) C.1 C.2.1 d_Mod_letter_13 (by decide) ?_
    refine md_iret C hr hlk hM hm d_Mod_letter_14 ?_
    have hc10 : ¬ isLt v k0 := hc10
    refine ⟨?_, rfl, rfl, rfl⟩
    rw [lett, if_neg hc10]
set_option maxHeartbeats 4000000 in
set_option maxRecDepth 100000 in
theorem k_Mod_count (l : Launch) (G : GG) (o : Nat) (r : Nat → Nat) (v : Nat → Int32) (A : Nat → Nat → Int32) (B : Nat → Nat → Int64) (w0 : Int32)  : mct l G y_Mod_count c_Mod_count 2 (some .int) 0 0 [.ref o, .int w0] o r v A B (fun x v1 A1 B1 => x = some (.int (cnt v w0)) ∧ v1 = upd v 0 0 ∧ A1 = A ∧ B1 = B) := by
  refine mct_intro (by decide) [some (.ref o), some (.int w0)] rfl rfl (Nat.le_of_ble_eq_true rfl) ?_
  intro p e s m below meth c ls P f C hr hlk hE hM hm hl
  refine lv_aload_n C.1 C.2.1 d_Mod_count_0 rfl (lo_at hl 0 rfl) ?_
  refine lv_iconst (v := 0) C.1 C.2.1 d_Mod_count_1 (by decide) ?_
  refine md_put C hE hM hm 0 (Nat.le_of_ble_eq_true rfl) tw_782 rfl rfl rfl rfl rfl d_Mod_count_2 (fun f1 H1 locs1 hM hm => ?_)
  refine lv_aload_n C.1 C.2.1 d_Mod_count_5 rfl (lo_at hl 0 rfl) ?_
  refine md_get (x := .int (v 1)) C hE hM hm 1 (Nat.le_of_ble_eq_true rfl) tw_783 rfl rfl d_Mod_count_6 ?_
  refine lv_if_ne (tgt := 14) C.1 C.2.1 d_Mod_count_9 (by decide) (fun hc9 => ?_) (fun hc9 => ?_)
  · refine lv_iload_n C.1 C.2.1 d_Mod_count_14 rfl (lo_at hl 1 rfl) ?_
    refine lv_topi (fun sx1 he1 => ?_)
    by_cases hs1_0 : sx1 = 0
    · subst hs1_0
      refine lv_tableIn (tgt := 48) C.1 C.2.1 d_Mod_count_15 (by decide) (by decide) rfl (by decide) ?_
      refine lv_aload_n C.1 C.2.1 d_Mod_count_48 rfl (lo_at hl 0 rfl) ?_
      refine md_get (x := .int (v 9)) C hE hM hm 9 (Nat.le_of_ble_eq_true rfl) tw_791 rfl rfl d_Mod_count_49 ?_
      refine lv_aload_n C.1 C.2.1 d_Mod_count_52 rfl (lo_at hl 0 rfl) ?_
      refine md_get (x := .int (v 10)) C hE hM hm 10 (Nat.le_of_ble_eq_true rfl) tw_792 rfl rfl d_Mod_count_53 ?_
      refine lv_isub C.1 C.2.1 d_Mod_count_56 ?_
      refine md_iret C hr hlk hM hm d_Mod_count_57 ?_
      refine ⟨?_, rfl, rfl, rfl⟩; (try subst he1); simp [cnt, hc9]
    by_cases hs1_1 : sx1 = 1
    · subst hs1_1
      refine lv_tableIn (tgt := 58) C.1 C.2.1 d_Mod_count_15 (by decide) (by decide) rfl (by decide) ?_
      refine lv_aload_n C.1 C.2.1 d_Mod_count_58 rfl (lo_at hl 0 rfl) ?_
      refine md_get (x := .int (v 9)) C hE hM hm 9 (Nat.le_of_ble_eq_true rfl) tw_791 rfl rfl d_Mod_count_59 ?_
      refine md_iret C hr hlk hM hm d_Mod_count_62 ?_
      refine ⟨?_, rfl, rfl, rfl⟩; (try subst he1); simp [cnt, hc9, hs1_0]
    by_cases hs1_2 : sx1 = 2
    · subst hs1_2
      refine lv_tableIn (tgt := 63) C.1 C.2.1 d_Mod_count_15 (by decide) (by decide) rfl (by decide) ?_
      refine lv_aload_n C.1 C.2.1 d_Mod_count_63 rfl (lo_at hl 0 rfl) ?_
      refine md_get (x := .int (v 30)) C hE hM hm 30 (Nat.le_of_ble_eq_true rfl) tw_812 rfl rfl d_Mod_count_64 ?_
      refine md_iret C hr hlk hM hm d_Mod_count_67 ?_
      refine ⟨?_, rfl, rfl, rfl⟩; (try subst he1); simp [cnt, hc9, hs1_0, hs1_1]
    by_cases hs1_3 : sx1 = 3
    · subst hs1_3
      refine lv_tableIn (tgt := 68) C.1 C.2.1 d_Mod_count_15 (by decide) (by decide) rfl (by decide) ?_
      refine lv_aload_n C.1 C.2.1 d_Mod_count_68 rfl (lo_at hl 0 rfl) ?_
      refine md_get (x := .int (v 29)) C hE hM hm 29 (Nat.le_of_ble_eq_true rfl) tw_811 rfl rfl d_Mod_count_69 ?_
      refine md_iret C hr hlk hM hm d_Mod_count_72 ?_
      refine ⟨?_, rfl, rfl, rfl⟩; (try subst he1); simp [cnt, hc9, hs1_0, hs1_1, hs1_2]
    by_cases hs1_4 : sx1 = 4
    · subst hs1_4
      refine lv_tableIn (tgt := 73) C.1 C.2.1 d_Mod_count_15 (by decide) (by decide) rfl (by decide) ?_
      refine lv_aload_n C.1 C.2.1 d_Mod_count_73 rfl (lo_at hl 0 rfl) ?_
      refine md_get (x := .int (v 3)) C hE hM hm 3 (Nat.le_of_ble_eq_true rfl) tw_785 rfl rfl d_Mod_count_74 ?_
      refine md_iret C hr hlk hM hm d_Mod_count_77 ?_
      refine ⟨?_, rfl, rfl, rfl⟩; (try subst he1); simp [cnt, hc9, hs1_0, hs1_1, hs1_2, hs1_3]
    refine lv_tableOut (tgt := 78) C.1 C.2.1 d_Mod_count_15 (sw_out5 hs1_0 hs1_1 hs1_2 hs1_3 hs1_4) (by decide) ?_
    refine lv_iconst (v := (-1)) C.1 C.2.1 d_Mod_count_78 (by decide) ?_
    refine md_iret C hr hlk hM hm d_Mod_count_79 ?_
    refine ⟨?_, rfl, rfl, rfl⟩; (try subst he1); simp [cnt, hc9, hs1_0, hs1_1, hs1_2, hs1_3, hs1_4]
  · refine lv_iconst (v := (-1)) C.1 C.2.1 d_Mod_count_12 (by decide) ?_
    refine md_iret C hr hlk hM hm d_Mod_count_13 ?_
    refine ⟨?_, rfl, rfl, rfl⟩; (try subst he1); simp [cnt, hc9]
set_option maxHeartbeats 4000000 in
set_option maxRecDepth 100000 in
theorem k_Mod_taskOf (l : Launch) (G : GG) (o : Nat) (r : Nat → Nat) (v : Nat → Int32) (A : Nat → Nat → Int32) (B : Nat → Nat → Int64) (t0 w0 : Int32) {nt : Nat} (hn : nt ≤ 24) (h9 : v 9 = nI nt) : mct l G y_Mod_taskOf c_Mod_taskOf 3 (some .int) 1 22 [.ref o, .int t0, .int w0] o r v A B (fun x v1 A1 B1 => x = some (.int (tko v A t0 w0)) ∧ v1 = upd v 0 0 ∧ A1 = A ∧ B1 = B) := by
  refine mct_intro (by decide) [some (.ref o), some (.int t0), some (.int w0)] rfl rfl (Nat.le_of_ble_eq_true rfl) ?_
  intro p e s m below meth c ls P f C hr hlk hE hM hm hl
  refine lv_aload_n C.1 C.2.1 d_Mod_taskOf_0 rfl (lo_at hl 0 rfl) ?_
  refine lv_iconst (v := 0) C.1 C.2.1 d_Mod_taskOf_1 (by decide) ?_
  refine md_put C hE hM hm 0 (Nat.le_of_ble_eq_true rfl) tw_782 rfl rfl rfl rfl rfl d_Mod_taskOf_2 (fun f1 H1 locs1 hM hm => ?_)
  refine lv_iload_n C.1 C.2.1 d_Mod_taskOf_5 rfl (lo_at hl 1 rfl) ?_
  refine lv_iconst (v := 0) C.1 C.2.1 d_Mod_taskOf_6 (by decide) ?_
  refine lv_aload_n C.1 C.2.1 d_Mod_taskOf_7 rfl (lo_at hl 0 rfl) ?_
  refine md_get (x := .int (v 9)) C hE hM hm 9 (Nat.le_of_ble_eq_true rfl) tw_791 rfl rfl d_Mod_taskOf_8 ?_
  refine lv_iconst (v := 1) C.1 C.2.1 d_Mod_taskOf_11 (by decide) ?_
  refine lv_isub C.1 C.2.1 d_Mod_taskOf_12 ?_
  refine md_callS C hE hM hm (k_Mod_in l G o r _ _ _ _ _ _) tw_912 cy_Mod_in ⟨(Nat.le_of_ble_eq_true rfl), (Nat.le_of_ble_eq_true rfl)⟩ rfl hl.1 rfl (Nat.le_of_ble_eq_true rfl) ⟨Nat.zero_le _, Nat.zero_le _⟩ d_Mod_taskOf_13 (fun x9 f1 H1 locs1 v9 A9 B9 hp hM hm => ?_)
  obtain ⟨hx9, hv9, hA9, hB9⟩ := hp
  subst hx9
  rw [hv9, hA9, hB9] at hm
  refine W.eq (g2 := F0 m 16 ls (_ :: _)) rfl ?_
  refine lv_if_ne (tgt := 21) C.1 C.2.1 d_Mod_taskOf_16 (by decide) (fun hc16 => ?_) (fun hc16 => ?_)
  · replace hc16 := bz_1.mp hc16
    refine lv_iload_n C.1 C.2.1 d_Mod_taskOf_21 rfl (lo_at hl 2 rfl) ?_
    refine lv_if_ne (tgt := 34) C.1 C.2.1 d_Mod_taskOf_22 (by decide) (fun hc22 => ?_) (fun hc22 => ?_)
    · refine lv_iload_n C.1 C.2.1 d_Mod_taskOf_34 rfl (lo_at hl 2 rfl) ?_
      refine lv_iconst (v := 1) C.1 C.2.1 d_Mod_taskOf_35 (by decide) ?_
      refine lv_icmp_ne (tgt := 48) C.1 C.2.1 d_Mod_taskOf_36 (by decide) (fun hc36 => ?_) (fun hc36 => ?_)
      · refine lv_iconst (v := (-1)) C.1 C.2.1 d_Mod_taskOf_48 (by decide) ?_
        refine md_iret C hr hlk hM hm d_Mod_taskOf_49 ?_
        refine ⟨?_, rfl, rfl, rfl⟩
        rw [tko, if_pos hc16]; simp [hc16, hc22, hc36]
      · refine lv_aload_n C.1 C.2.1 d_Mod_taskOf_39 rfl (lo_at hl 0 rfl) ?_
        refine md_get C hE hM hm 18 (Nat.le_of_ble_eq_true rfl) tw_800 rfl rfl d_Mod_taskOf_40 ?_
        refine lv_iload_n C.1 C.2.1 d_Mod_taskOf_43 rfl (lo_at hl 1 rfl) ?_
        refine md_iald C hE hM hm 18 rfl (lt_ix hn (by decide) h9 hc16) d_Mod_taskOf_44 ?_
        refine lv_goto (tgt := 49) C.1 C.2.1 d_Mod_taskOf_45 (by decide) ?_
        refine md_iret C hr hlk hM hm d_Mod_taskOf_49 ?_
        refine ⟨?_, rfl, rfl, rfl⟩
        rw [tko, if_pos hc16]; simp [hc16, hc22, hc36]
    · refine lv_aload_n C.1 C.2.1 d_Mod_taskOf_25 rfl (lo_at hl 0 rfl) ?_
      refine md_get C hE hM hm 13 (Nat.le_of_ble_eq_true rfl) tw_795 rfl rfl d_Mod_taskOf_26 ?_
      refine lv_iload_n C.1 C.2.1 d_Mod_taskOf_29 rfl (lo_at hl 1 rfl) ?_
      refine md_iald C hE hM hm 13 rfl (lt_ix hn (by decide) h9 hc16) d_Mod_taskOf_30 ?_
      refine lv_goto (tgt := 49) C.1 C.2.1 d_Mod_taskOf_31 (by decide) ?_
      refine md_iret C hr hlk hM hm d_Mod_taskOf_49 ?_
      refine ⟨?_, rfl, rfl, rfl⟩
      rw [tko, if_pos hc16]; simp [hc16, hc22]
  · replace hc16 := bz_0.mp hc16
    refine lv_iconst (v := (-1)) C.1 C.2.1 d_Mod_taskOf_19 (by decide) ?_
    refine md_iret C hr hlk hM hm d_Mod_taskOf_20 ?_
    refine ⟨?_, rfl, rfl, rfl⟩
    rw [tko, if_neg hc16]
set_option maxHeartbeats 4000000 in
set_option maxRecDepth 100000 in
theorem k_Mod_vehicle (l : Launch) (G : GG) (o : Nat) (r : Nat → Nat) (v : Nat → Int32) (A : Nat → Nat → Int32) (B : Nat → Nat → Int64) (u0 w0 : Int32) {nv : Nat} (hn : nv ≤ 6) (h4 : v 4 = nI nv) : mct l G y_Mod_vehicle c_Mod_vehicle 3 (some .int) 1 22 [.ref o, .int u0, .int w0] o r v A B (fun x v1 A1 B1 => x = some (.int (veh v A u0 w0)) ∧ v1 = upd v 0 0 ∧ A1 = A ∧ B1 = B) := by
  refine mct_intro (by decide) [some (.ref o), some (.int u0), some (.int w0)] rfl rfl (Nat.le_of_ble_eq_true rfl) ?_
  intro p e s m below meth c ls P f C hr hlk hE hM hm hl
  refine lv_aload_n C.1 C.2.1 d_Mod_vehicle_0 rfl (lo_at hl 0 rfl) ?_
  refine lv_iconst (v := 0) C.1 C.2.1 d_Mod_vehicle_1 (by decide) ?_
  refine md_put C hE hM hm 0 (Nat.le_of_ble_eq_true rfl) tw_782 rfl rfl rfl rfl rfl d_Mod_vehicle_2 (fun f1 H1 locs1 hM hm => ?_)
  refine lv_iload_n C.1 C.2.1 d_Mod_vehicle_5 rfl (lo_at hl 1 rfl) ?_
  refine lv_iconst (v := 0) C.1 C.2.1 d_Mod_vehicle_6 (by decide) ?_
  refine lv_aload_n C.1 C.2.1 d_Mod_vehicle_7 rfl (lo_at hl 0 rfl) ?_
  refine md_get (x := .int (v 4)) C hE hM hm 4 (Nat.le_of_ble_eq_true rfl) tw_786 rfl rfl d_Mod_vehicle_8 ?_
  refine lv_iconst (v := 1) C.1 C.2.1 d_Mod_vehicle_11 (by decide) ?_
  refine lv_isub C.1 C.2.1 d_Mod_vehicle_12 ?_
  refine md_callS C hE hM hm (k_Mod_in l G o r _ _ _ _ _ _) tw_912 cy_Mod_in ⟨(Nat.le_of_ble_eq_true rfl), (Nat.le_of_ble_eq_true rfl)⟩ rfl hl.1 rfl (Nat.le_of_ble_eq_true rfl) ⟨Nat.zero_le _, Nat.zero_le _⟩ d_Mod_vehicle_13 (fun x9 f1 H1 locs1 v9 A9 B9 hp hM hm => ?_)
  obtain ⟨hx9, hv9, hA9, hB9⟩ := hp
  subst hx9
  rw [hv9, hA9, hB9] at hm
  refine W.eq (g2 := F0 m 16 ls (_ :: _)) rfl ?_
  refine lv_if_ne (tgt := 21) C.1 C.2.1 d_Mod_vehicle_16 (by decide) (fun hc16 => ?_) (fun hc16 => ?_)
  · replace hc16 := bz_1.mp hc16
    refine lv_iload_n C.1 C.2.1 d_Mod_vehicle_21 rfl (lo_at hl 2 rfl) ?_
    refine lv_topi (fun sx1 he1 => ?_)
    by_cases hs1_0 : sx1 = 0
    · subst hs1_0
      refine lv_tableIn (tgt := 64) C.1 C.2.1 d_Mod_vehicle_22 (by decide) (by decide) rfl (by decide) ?_
      refine lv_aload_n C.1 C.2.1 d_Mod_vehicle_64 rfl (lo_at hl 0 rfl) ?_
      refine md_get C hE hM hm 22 (Nat.le_of_ble_eq_true rfl) tw_804 rfl rfl d_Mod_vehicle_65 ?_
      refine lv_iload_n C.1 C.2.1 d_Mod_vehicle_68 rfl (lo_at hl 1 rfl) ?_
      refine md_iald C hE hM hm 22 rfl (lt_ix hn (by decide) h4 hc16) d_Mod_vehicle_69 ?_
      refine md_iret C hr hlk hM hm d_Mod_vehicle_70 ?_
      refine ⟨?_, rfl, rfl, rfl⟩
      rw [veh, if_pos hc16]; subst he1; simp [hc16]
    by_cases hs1_1 : sx1 = 1
    · subst hs1_1
      refine lv_tableIn (tgt := 71) C.1 C.2.1 d_Mod_vehicle_22 (by decide) (by decide) rfl (by decide) ?_
      refine lv_aload_n C.1 C.2.1 d_Mod_vehicle_71 rfl (lo_at hl 0 rfl) ?_
      refine md_get C hE hM hm 23 (Nat.le_of_ble_eq_true rfl) tw_805 rfl rfl d_Mod_vehicle_72 ?_
      refine lv_iload_n C.1 C.2.1 d_Mod_vehicle_75 rfl (lo_at hl 1 rfl) ?_
      refine md_iald C hE hM hm 23 rfl (lt_ix hn (by decide) h4 hc16) d_Mod_vehicle_76 ?_
      refine md_iret C hr hlk hM hm d_Mod_vehicle_77 ?_
      refine ⟨?_, rfl, rfl, rfl⟩
      rw [veh, if_pos hc16]; subst he1; simp [hc16, hs1_0]
    by_cases hs1_2 : sx1 = 2
    · subst hs1_2
      refine lv_tableIn (tgt := 78) C.1 C.2.1 d_Mod_vehicle_22 (by decide) (by decide) rfl (by decide) ?_
      refine lv_aload_n C.1 C.2.1 d_Mod_vehicle_78 rfl (lo_at hl 0 rfl) ?_
      refine md_get C hE hM hm 24 (Nat.le_of_ble_eq_true rfl) tw_806 rfl rfl d_Mod_vehicle_79 ?_
      refine lv_iload_n C.1 C.2.1 d_Mod_vehicle_82 rfl (lo_at hl 1 rfl) ?_
      refine md_iald C hE hM hm 24 rfl (lt_ix hn (by decide) h4 hc16) d_Mod_vehicle_83 ?_
      refine md_iret C hr hlk hM hm d_Mod_vehicle_84 ?_
      refine ⟨?_, rfl, rfl, rfl⟩
      rw [veh, if_pos hc16]; subst he1; simp [hc16, hs1_0, hs1_1]
    by_cases hs1_3 : sx1 = 3
    · subst hs1_3
      refine lv_tableIn (tgt := 85) C.1 C.2.1 d_Mod_vehicle_22 (by decide) (by decide) rfl (by decide) ?_
      refine lv_aload_n C.1 C.2.1 d_Mod_vehicle_85 rfl (lo_at hl 0 rfl) ?_
      refine md_get C hE hM hm 25 (Nat.le_of_ble_eq_true rfl) tw_807 rfl rfl d_Mod_vehicle_86 ?_
      refine lv_iload_n C.1 C.2.1 d_Mod_vehicle_89 rfl (lo_at hl 1 rfl) ?_
      refine md_iald C hE hM hm 25 rfl (lt_ix hn (by decide) h4 hc16) d_Mod_vehicle_90 ?_
      refine md_iret C hr hlk hM hm d_Mod_vehicle_91 ?_
      refine ⟨?_, rfl, rfl, rfl⟩
      rw [veh, if_pos hc16]; subst he1; simp [hc16, hs1_0, hs1_1, hs1_2]
    by_cases hs1_4 : sx1 = 4
    · subst hs1_4
      refine lv_tableIn (tgt := 92) C.1 C.2.1 d_Mod_vehicle_22 (by decide) (by decide) rfl (by decide) ?_
      refine lv_aload_n C.1 C.2.1 d_Mod_vehicle_92 rfl (lo_at hl 0 rfl) ?_
      refine md_get C hE hM hm 26 (Nat.le_of_ble_eq_true rfl) tw_808 rfl rfl d_Mod_vehicle_93 ?_
      refine lv_iload_n C.1 C.2.1 d_Mod_vehicle_96 rfl (lo_at hl 1 rfl) ?_
      refine md_iald C hE hM hm 26 rfl (lt_ix hn (by decide) h4 hc16) d_Mod_vehicle_97 ?_
      refine md_iret C hr hlk hM hm d_Mod_vehicle_98 ?_
      refine ⟨?_, rfl, rfl, rfl⟩
      rw [veh, if_pos hc16]; subst he1; simp [hc16, hs1_0, hs1_1, hs1_2, hs1_3]
    by_cases hs1_5 : sx1 = 5
    · subst hs1_5
      refine lv_tableIn (tgt := 99) C.1 C.2.1 d_Mod_vehicle_22 (by decide) (by decide) rfl (by decide) ?_
      refine lv_aload_n C.1 C.2.1 d_Mod_vehicle_99 rfl (lo_at hl 0 rfl) ?_
      refine md_get C hE hM hm 27 (Nat.le_of_ble_eq_true rfl) tw_809 rfl rfl d_Mod_vehicle_100 ?_
      refine lv_iload_n C.1 C.2.1 d_Mod_vehicle_103 rfl (lo_at hl 1 rfl) ?_
      refine md_iald C hE hM hm 27 rfl (lt_ix hn (by decide) h4 hc16) d_Mod_vehicle_104 ?_
      refine md_iret C hr hlk hM hm d_Mod_vehicle_105 ?_
      refine ⟨?_, rfl, rfl, rfl⟩
      rw [veh, if_pos hc16]; subst he1; simp [hc16, hs1_0, hs1_1, hs1_2, hs1_3, hs1_4]
    by_cases hs1_6 : sx1 = 6
    · subst hs1_6
      refine lv_tableIn (tgt := 106) C.1 C.2.1 d_Mod_vehicle_22 (by decide) (by decide) rfl (by decide) ?_
      refine lv_aload_n C.1 C.2.1 d_Mod_vehicle_106 rfl (lo_at hl 0 rfl) ?_
      refine md_get C hE hM hm 28 (Nat.le_of_ble_eq_true rfl) tw_810 rfl rfl d_Mod_vehicle_107 ?_
      refine lv_iload_n C.1 C.2.1 d_Mod_vehicle_110 rfl (lo_at hl 1 rfl) ?_
      refine md_iald C hE hM hm 28 rfl (lt_ix hn (by decide) h4 hc16) d_Mod_vehicle_111 ?_
      refine md_iret C hr hlk hM hm d_Mod_vehicle_112 ?_
      refine ⟨?_, rfl, rfl, rfl⟩
      rw [veh, if_pos hc16]; subst he1; simp [hc16, hs1_0, hs1_1, hs1_2, hs1_3, hs1_4, hs1_5]
    refine lv_tableOut (tgt := 113) C.1 C.2.1 d_Mod_vehicle_22 (sw_out7 hs1_0 hs1_1 hs1_2 hs1_3 hs1_4 hs1_5 hs1_6) (by decide) ?_
    refine lv_iconst (v := (-1)) C.1 C.2.1 d_Mod_vehicle_113 (by decide) ?_
    refine md_iret C hr hlk hM hm d_Mod_vehicle_114 ?_
    refine ⟨?_, rfl, rfl, rfl⟩
    rw [veh, if_pos hc16]; subst he1; simp [hc16, hs1_0, hs1_1, hs1_2, hs1_3, hs1_4, hs1_5, hs1_6]
  · replace hc16 := bz_0.mp hc16
    refine lv_iconst (v := (-1)) C.1 C.2.1 d_Mod_vehicle_19 (by decide) ?_
    refine md_iret C hr hlk hM hm d_Mod_vehicle_20 ?_
    refine ⟨?_, rfl, rfl, rfl⟩
    rw [veh, if_neg hc16]
set_option maxHeartbeats 4000000 in
set_option maxRecDepth 100000 in
theorem k_Mod_isTurn (l : Launch) (G : GG) (o : Nat) (r : Nat → Nat) (v : Nat → Int32) (A : Nat → Nat → Int32) (B : Nat → Nat → Int64) (u0 : Int32)  : mct l G y_Mod_isTurn c_Mod_isTurn 2 (some .boolean) 0 0 [.ref o, .int u0] o r v A B (fun x v1 A1 B1 => x = some (.int (bz (isTn v u0))) ∧ v1 = v ∧ A1 = A ∧ B1 = B) := by
  refine mct_intro (by decide) [some (.ref o), some (.int u0)] rfl rfl (Nat.le_of_ble_eq_true rfl) ?_
  intro p e s m below meth c ls P f C hr hlk hE hM hm hl
  refine lv_aload_n C.1 C.2.1 d_Mod_isTurn_0 rfl (lo_at hl 0 rfl) ?_
  refine md_get (x := .int (v 30)) C hE hM hm 30 (Nat.le_of_ble_eq_true rfl) tw_812 rfl rfl d_Mod_isTurn_1 ?_
  refine lv_bipush (v := 8) C.1 C.2.1 d_Mod_isTurn_4 (by decide) ?_
  refine lv_irem C.1 C.2.1 d_Mod_isTurn_6 (by decide) ?_
  refine lv_iload_n C.1 C.2.1 d_Mod_isTurn_7 rfl (lo_at hl 1 rfl) ?_
  refine lv_bipush (v := 8) C.1 C.2.1 d_Mod_isTurn_8 (by decide) ?_
  refine lv_irem C.1 C.2.1 d_Mod_isTurn_10 (by decide) ?_
  refine lv_icmp_ne (tgt := 18) C.1 C.2.1 d_Mod_isTurn_11 (by decide) (fun hc11 => ?_) (fun hc11 => ?_)
  · refine lv_iconst (v := 0) C.1 C.2.1 d_Mod_isTurn_18 (by decide) ?_
    refine md_zret C hr hlk hM hm d_Mod_isTurn_19 (by decide) ?_
    refine ⟨?_, rfl, rfl, rfl⟩; simp [bz, isTn, rm8, hc11]
  · refine lv_iconst (v := 1) C.1 C.2.1 d_Mod_isTurn_14 (by decide) ?_
    refine lv_goto (tgt := 19) C.1 C.2.1 d_Mod_isTurn_15 (by decide) ?_
    refine md_zret C hr hlk hM hm d_Mod_isTurn_19 (by decide) ?_
    refine ⟨?_, rfl, rfl, rfl⟩; simp [bz, isTn, rm8, hc11]
set_option maxHeartbeats 4000000 in
set_option maxRecDepth 100000 in
theorem k_Mod_isOthers (l : Launch) (G : GG) (o : Nat) (r : Nat → Nat) (v : Nat → Int32) (A : Nat → Nat → Int32) (B : Nat → Nat → Int64) (c0 : Int32) (hc0 : vp_in c0 96) (h38 : vp_in (v 38) 96) : mct l G y_Mod_isOthers c_Mod_isOthers 2 (some .boolean) 0 0 [.ref o, .int c0] o r v A B (fun x v1 A1 B1 => x = some (.int (bz (isOt v A c0))) ∧ v1 = v ∧ A1 = A ∧ B1 = B) := by
  refine mct_intro (by decide) [some (.ref o), some (.int c0)] rfl rfl (Nat.le_of_ble_eq_true rfl) ?_
  intro p e s m below meth c ls P f C hr hlk hE hM hm hl
  refine lv_aload_n C.1 C.2.1 d_Mod_isOthers_0 rfl (lo_at hl 0 rfl) ?_
  refine md_get C hE hM hm 2 (Nat.le_of_ble_eq_true rfl) tw_784 rfl rfl d_Mod_isOthers_1 ?_
  refine lv_iload_n C.1 C.2.1 d_Mod_isOthers_4 rfl (lo_at hl 1 rfl) ?_
  refine md_iald C hE hM hm 2 rfl hc0 d_Mod_isOthers_5 ?_
  refine lv_iconst (v := 3) C.1 C.2.1 d_Mod_isOthers_6 (by decide) ?_
  refine lv_icmp_ne (tgt := 27) C.1 C.2.1 d_Mod_isOthers_7 (by decide) (fun hc7 => ?_) (fun hc7 => ?_)
  · refine lv_iconst (v := 0) C.1 C.2.1 d_Mod_isOthers_27 (by decide) ?_
    refine md_zret C hr hlk hM hm d_Mod_isOthers_28 (by decide) ?_
    refine ⟨?_, rfl, rfl, rfl⟩; simp [bz, isOt, hc7]
  · refine lv_iload_n C.1 C.2.1 d_Mod_isOthers_10 rfl (lo_at hl 1 rfl) ?_
    refine lv_aload_n C.1 C.2.1 d_Mod_isOthers_11 rfl (lo_at hl 0 rfl) ?_
    refine md_get C hE hM hm 6 (Nat.le_of_ble_eq_true rfl) tw_788 rfl rfl d_Mod_isOthers_12 ?_
    refine lv_aload_n C.1 C.2.1 d_Mod_isOthers_15 rfl (lo_at hl 0 rfl) ?_
    refine md_get (x := .int (v 38)) C hE hM hm 38 (Nat.le_of_ble_eq_true rfl) tw_820 rfl rfl d_Mod_isOthers_16 ?_
    refine md_iald C hE hM hm 6 rfl h38 d_Mod_isOthers_19 ?_
    refine lv_icmp_eq (tgt := 27) C.1 C.2.1 d_Mod_isOthers_20 (by decide) (fun hc20 => ?_) (fun hc20 => ?_)
    · refine lv_iconst (v := 0) C.1 C.2.1 d_Mod_isOthers_27 (by decide) ?_
      refine md_zret C hr hlk hM hm d_Mod_isOthers_28 (by decide) ?_
      refine ⟨?_, rfl, rfl, rfl⟩; simp [bz, isOt, hc7, hc20]
    · refine lv_iconst (v := 1) C.1 C.2.1 d_Mod_isOthers_23 (by decide) ?_
      refine lv_goto (tgt := 28) C.1 C.2.1 d_Mod_isOthers_24 (by decide) ?_
      refine md_zret C hr hlk hM hm d_Mod_isOthers_28 (by decide) ?_
      refine ⟨?_, rfl, rfl, rfl⟩; simp [bz, isOt, hc7, hc20]
set_option maxHeartbeats 4000000 in
set_option maxRecDepth 100000 in
theorem k_Mod_doneAt (l : Launch) (G : GG) (o : Nat) (r : Nat → Nat) (v : Nat → Int32) (A : Nat → Nat → Int32) (B : Nat → Nat → Int64) (t0 c0 b0 : Int32) (ht : vp_in t0 24) : mct l G y_Mod_doneAt c_Mod_doneAt 5 (some .int) 0 0 [.ref o, .int t0, .int c0, .int b0] o r v A B (fun x v1 A1 B1 => x = some (.int (dnA A t0 c0 b0)) ∧ v1 = v ∧ A1 = A ∧ B1 = B) := by
  refine mct_intro (by decide) [some (.ref o), some (.int t0), some (.int c0), some (.int b0), none] rfl rfl (Nat.le_of_ble_eq_true rfl) ?_
  intro p e s m below meth c ls P f C hr hlk hE hM hm hl
  refine W.join (I := fun z => z = dn1 A t0 c0 b0) (gf := fun z => F0 m 19 ls [.int z]) (fun K19 => ?_) (fun z hz19 => ?_)
  · refine lv_iload_n C.1 C.2.1 d_Mod_doneAt_0 rfl (lo_at hl 3 rfl) ?_
    refine lv_if_ne (tgt := 18) C.1 C.2.1 d_Mod_doneAt_1 (by decide) (fun hc1 => ?_) (fun hc1 => ?_)
    · refine lv_iload_n C.1 C.2.1 d_Mod_doneAt_18 rfl (lo_at hl 3 rfl) ?_
      exact K19 _ (by simp [dn1, hc1])
    · refine lv_iload_n C.1 C.2.1 d_Mod_doneAt_4 rfl (lo_at hl 2 rfl) ?_
      refine lv_aload_n C.1 C.2.1 d_Mod_doneAt_5 rfl (lo_at hl 0 rfl) ?_
      refine md_get C hE hM hm 11 (Nat.le_of_ble_eq_true rfl) tw_793 rfl rfl d_Mod_doneAt_6 ?_
      refine lv_iload_n C.1 C.2.1 d_Mod_doneAt_9 rfl (lo_at hl 1 rfl) ?_
      refine md_iald C hE hM hm 11 rfl ht d_Mod_doneAt_10 ?_
      refine lv_icmp_ne (tgt := 18) C.1 C.2.1 d_Mod_doneAt_11 (by decide) (fun hc11 => ?_) (fun hc11 => ?_)
      · refine lv_iload_n C.1 C.2.1 d_Mod_doneAt_18 rfl (lo_at hl 3 rfl) ?_
        exact K19 _ (by simp [dn1, hc1, hc11])
      · refine lv_iconst (v := 1) C.1 C.2.1 d_Mod_doneAt_14 (by decide) ?_
        refine lv_goto (tgt := 19) C.1 C.2.1 d_Mod_doneAt_15 (by decide) ?_
        exact K19 _ (by simp [dn1, hc1, hc11])
  · refine lo_istore C hl d_Mod_doneAt_19 (Nat.le_of_ble_eq_true rfl) rfl (fun ls hl => ?_)
    refine lv_iload C.1 C.2.1 d_Mod_doneAt_21 (lo_at hl 4 rfl) ?_
    refine lv_iconst (v := 1) C.1 C.2.1 d_Mod_doneAt_23 (by decide) ?_
    refine lv_icmp_ne (tgt := 41) C.1 C.2.1 d_Mod_doneAt_24 (by decide) (fun hc24 => ?_) (fun hc24 => ?_)
    · refine lv_iload C.1 C.2.1 d_Mod_doneAt_41 (lo_at hl 4 rfl) ?_
      refine md_iret C hr hlk hM hm d_Mod_doneAt_43 ?_
      refine ⟨?_, rfl, rfl, rfl⟩
      subst hz19
      simp [dnA, hc24]
    · refine lv_iload_n C.1 C.2.1 d_Mod_doneAt_27 rfl (lo_at hl 2 rfl) ?_
      refine lv_aload_n C.1 C.2.1 d_Mod_doneAt_28 rfl (lo_at hl 0 rfl) ?_
      refine md_get C hE hM hm 12 (Nat.le_of_ble_eq_true rfl) tw_794 rfl rfl d_Mod_doneAt_29 ?_
      refine lv_iload_n C.1 C.2.1 d_Mod_doneAt_32 rfl (lo_at hl 1 rfl) ?_
      refine md_iald C hE hM hm 12 rfl ht d_Mod_doneAt_33 ?_
      refine lv_icmp_ne (tgt := 41) C.1 C.2.1 d_Mod_doneAt_34 (by decide) (fun hc34 => ?_) (fun hc34 => ?_)
      · refine lv_iload C.1 C.2.1 d_Mod_doneAt_41 (lo_at hl 4 rfl) ?_
        refine md_iret C hr hlk hM hm d_Mod_doneAt_43 ?_
        refine ⟨?_, rfl, rfl, rfl⟩
        subst hz19
        simp [dnA, hc24, hc34]
      · refine lv_iconst (v := 2) C.1 C.2.1 d_Mod_doneAt_37 (by decide) ?_
        refine lv_goto (tgt := 43) C.1 C.2.1 d_Mod_doneAt_38 (by decide) ?_
        refine md_iret C hr hlk hM hm d_Mod_doneAt_43 ?_
        refine ⟨?_, rfl, rfl, rfl⟩
        subst hz19
        rw [dnA, if_pos ⟨hc24, hc34⟩]
set_option maxHeartbeats 4000000 in
set_option maxRecDepth 100000 in
theorem k_Mod_send (l : Launch) (G : GG) (o : Nat) (r : Nat → Nat) (v : Nat → Int32) (A : Nat → Nat → Int32) (B : Nat → Nat → Int64) (k0 u0 n0 : Int32) {nl : Nat} (hn : nl ≤ 60) (h31 : v 31 = nI nl) : mct l G y_Mod_send c_Mod_send 4 none 0 0 [.ref o, .int k0, .int u0, .int n0] o r v A B (fun x v1 A1 B1 => x = none ∧ v1 = sndV v ∧ A1 = sndA v A k0 u0 n0 ∧ B1 = B) := by
  refine mct_intro (by decide) [some (.ref o), some (.int k0), some (.int u0), some (.int n0)] rfl rfl (Nat.le_of_ble_eq_true rfl) ?_
  intro p e s m below meth c ls P f C hr hlk hE hM hm hl
  have hin : ¬ v 31 = 60 → vp_in (v 31) 60 := fun h => by
    have : nl ≠ 60 := fun e => h (by rw [h31, e]; decide)
    rw [h31]; exact vp_in_nI (by omega) (by decide)
  refine lv_aload_n C.1 C.2.1 d_Mod_send_0 rfl (lo_at hl 0 rfl) ?_
  refine md_get (x := .int (v 31)) C hE hM hm 31 (Nat.le_of_ble_eq_true rfl) tw_813 rfl rfl d_Mod_send_1 ?_
  refine lv_bipush (v := 60) C.1 C.2.1 d_Mod_send_4 (by decide) ?_
  refine lv_icmp_ne (tgt := 10) C.1 C.2.1 d_Mod_send_6 (by decide) (fun hc6 => ?_) (fun hc6 => ?_)
  · refine lv_aload_n C.1 C.2.1 d_Mod_send_10 rfl (lo_at hl 0 rfl) ?_
    refine md_get C hE hM hm 32 (Nat.le_of_ble_eq_true rfl) tw_814 rfl rfl d_Mod_send_11 ?_
    refine lv_aload_n C.1 C.2.1 d_Mod_send_14 rfl (lo_at hl 0 rfl) ?_
    refine md_get (x := .int (v 31)) C hE hM hm 31 (Nat.le_of_ble_eq_true rfl) tw_813 rfl rfl d_Mod_send_15 ?_
    refine lv_iload_n C.1 C.2.1 d_Mod_send_18 rfl (lo_at hl 1 rfl) ?_
    refine md_iast C hE hM hm 32 rfl (hin hc6) d_Mod_send_19 (fun f1 H1 locs1 hM hm => ?_)
    refine lv_aload_n C.1 C.2.1 d_Mod_send_20 rfl (lo_at hl 0 rfl) ?_
    refine md_get C hE hM hm 33 (Nat.le_of_ble_eq_true rfl) tw_815 rfl rfl d_Mod_send_21 ?_
    refine lv_aload_n C.1 C.2.1 d_Mod_send_24 rfl (lo_at hl 0 rfl) ?_
    refine md_get (x := .int (v 31)) C hE hM hm 31 (Nat.le_of_ble_eq_true rfl) tw_813 rfl rfl d_Mod_send_25 ?_
    refine lv_iload_n C.1 C.2.1 d_Mod_send_28 rfl (lo_at hl 2 rfl) ?_
    refine md_iast C hE hM hm 33 rfl (hin hc6) d_Mod_send_29 (fun f1 H1 locs1 hM hm => ?_)
    refine lv_aload_n C.1 C.2.1 d_Mod_send_30 rfl (lo_at hl 0 rfl) ?_
    refine md_get C hE hM hm 34 (Nat.le_of_ble_eq_true rfl) tw_816 rfl rfl d_Mod_send_31 ?_
    refine lv_aload_n C.1 C.2.1 d_Mod_send_34 rfl (lo_at hl 0 rfl) ?_
    refine md_get (x := .int (v 31)) C hE hM hm 31 (Nat.le_of_ble_eq_true rfl) tw_813 rfl rfl d_Mod_send_35 ?_
    refine lv_iload_n C.1 C.2.1 d_Mod_send_38 rfl (lo_at hl 3 rfl) ?_
    refine md_iast C hE hM hm 34 rfl (hin hc6) d_Mod_send_39 (fun f1 H1 locs1 hM hm => ?_)
    refine lv_aload_n C.1 C.2.1 d_Mod_send_40 rfl (lo_at hl 0 rfl) ?_
    refine lv_dup C.1 C.2.1 d_Mod_send_41 rfl ?_
    refine md_get (x := .int (v 31)) C hE hM hm 31 (Nat.le_of_ble_eq_true rfl) tw_813 rfl rfl d_Mod_send_42 ?_
    refine lv_iconst (v := 1) C.1 C.2.1 d_Mod_send_45 (by decide) ?_
    refine lv_iadd C.1 C.2.1 d_Mod_send_46 ?_
    refine md_put C hE hM hm 31 (Nat.le_of_ble_eq_true rfl) tw_813 rfl rfl rfl rfl rfl d_Mod_send_47 (fun f1 H1 locs1 hM hm => ?_)
    refine md_vret C hr hlk hM hm d_Mod_send_50 ?_
    refine ⟨rfl, ?_, ?_, rfl⟩ <;> simp [sndV, sndA, hc6, va_up, ix]
  · refine md_vret C hr hlk hM hm d_Mod_send_9 ?_
    refine ⟨rfl, ?_, ?_, rfl⟩ <;> simp [sndV, sndA, hc6]
set_option maxHeartbeats 4000000 in
set_option maxRecDepth 100000 in
theorem k_Mod_isIn (l : Launch) (G : GG) (o : Nat) (r : Nat → Nat) (v : Nat → Int32) (A : Nat → Nat → Int32) (B : Nat → Nat → Int64) (k : Nat) (hk : mdL k = true) (s0 c0 : Int32) (hix : vp_in (lj s0 c0) (mdN k)) : mct l G y_Mod_isIn c_Mod_isIn 3 (some .boolean) 0 0 [.ref (r k), .int s0, .int c0] o r v A B (fun x v1 A1 B1 => x = some (.int (bz (isI (B k) s0 c0))) ∧ v1 = v ∧ A1 = A ∧ B1 = B) := by
  refine mct_intro (by decide) [some (.ref (r k)), some (.int s0), some (.int c0)] rfl rfl (Nat.le_of_ble_eq_true rfl) ?_
  intro p e s m below meth c ls P f C hr hlk hE hM hm hl
  refine lv_aload_n C.1 C.2.1 d_Mod_isIn_0 rfl (lo_at hl 0 rfl) ?_
  refine lv_iconst (v := 2) C.1 C.2.1 d_Mod_isIn_1 (by decide) ?_
  refine lv_iload_n C.1 C.2.1 d_Mod_isIn_2 rfl (lo_at hl 1 rfl) ?_
  refine lv_imul C.1 C.2.1 d_Mod_isIn_3 ?_
  refine lv_iload_n C.1 C.2.1 d_Mod_isIn_4 rfl (lo_at hl 2 rfl) ?_
  refine lv_bipush (v := 6) C.1 C.2.1 d_Mod_isIn_5 (by decide) ?_
  refine lv_ishr C.1 C.2.1 d_Mod_isIn_7 ?_
  refine lv_iadd C.1 C.2.1 d_Mod_isIn_8 ?_
  refine md_lald C hE hM hm k hk hix d_Mod_isIn_9 ?_
  refine lv_iload_n C.1 C.2.1 d_Mod_isIn_10 rfl (lo_at hl 2 rfl) ?_
  refine lv_lshr C.1 C.2.1 d_Mod_isIn_11 rfl ?_
  refine lv_lconst (v := 1) C.1 C.2.1 d_Mod_isIn_12 (by decide) ?_
  refine lv_land C.1 C.2.1 d_Mod_isIn_13 ?_
  refine lv_lconst (v := 1) C.1 C.2.1 d_Mod_isIn_14 (by decide) ?_
  refine W.lcmp C.1 C.2.1 d_Mod_isIn_15 ?_
  refine lv_if_ne (tgt := 23) C.1 C.2.1 d_Mod_isIn_16 (by decide) (fun hc16 => ?_) (fun hc16 => ?_)
  · refine lv_iconst (v := 0) C.1 C.2.1 d_Mod_isIn_23 (by decide) ?_
    refine md_zret C hr hlk hM hm d_Mod_isIn_24 (by decide) ?_
    replace hc16 := hc16
    refine ⟨?_, rfl, rfl, rfl⟩
    rw [lcmp_0] at hc16
    simp [bz, isI, lj, ix, hc16]
  · refine lv_iconst (v := 1) C.1 C.2.1 d_Mod_isIn_19 (by decide) ?_
    refine lv_goto (tgt := 24) C.1 C.2.1 d_Mod_isIn_20 (by decide) ?_
    refine md_zret C hr hlk hM hm d_Mod_isIn_24 (by decide) ?_
    replace hc16 := hc16
    refine ⟨?_, rfl, rfl, rfl⟩
    rw [lcmp_0] at hc16
    simp [bz, isI, lj, ix, hc16]
set_option maxHeartbeats 4000000 in
set_option maxRecDepth 100000 in
theorem k_Mod_add (l : Launch) (G : GG) (o : Nat) (r : Nat → Nat) (v : Nat → Int32) (A : Nat → Nat → Int32) (B : Nat → Nat → Int64) (k : Nat) (hk : mdL k = true) (s0 c0 : Int32) (hix : vp_in (lj s0 c0) (mdN k)) : mct l G y_Mod_add c_Mod_add 3 none 0 0 [.ref (r k), .int s0, .int c0] o r v A B (fun x v1 A1 B1 => x = none ∧ v1 = v ∧ A1 = A ∧ B1 = va_up B k (addL (B k) s0 c0)) := by
  refine mct_intro (by decide) [some (.ref (r k)), some (.int s0), some (.int c0)] rfl rfl (Nat.le_of_ble_eq_true rfl) ?_
  intro p e s m below meth c ls P f C hr hlk hE hM hm hl
  refine lv_aload_n C.1 C.2.1 d_Mod_add_0 rfl (lo_at hl 0 rfl) ?_
  refine lv_iconst (v := 2) C.1 C.2.1 d_Mod_add_1 (by decide) ?_
  refine lv_iload_n C.1 C.2.1 d_Mod_add_2 rfl (lo_at hl 1 rfl) ?_
  refine lv_imul C.1 C.2.1 d_Mod_add_3 ?_
  refine lv_iload_n C.1 C.2.1 d_Mod_add_4 rfl (lo_at hl 2 rfl) ?_
  refine lv_bipush (v := 6) C.1 C.2.1 d_Mod_add_5 (by decide) ?_
  refine lv_ishr C.1 C.2.1 d_Mod_add_7 ?_
  refine lv_iadd C.1 C.2.1 d_Mod_add_8 ?_
  refine lv_dup2_11 C.1 C.2.1 d_Mod_add_9 rfl rfl ?_
  refine md_lald C hE hM hm k hk hix d_Mod_add_10 ?_
  refine lv_lconst (v := 1) C.1 C.2.1 d_Mod_add_11 (by decide) ?_
  refine lv_iload_n C.1 C.2.1 d_Mod_add_12 rfl (lo_at hl 2 rfl) ?_
  refine lv_lshl C.1 C.2.1 d_Mod_add_13 rfl ?_
  refine lv_lor C.1 C.2.1 d_Mod_add_14 ?_
  refine md_last C hE hM hm k hk hix d_Mod_add_15 (fun f1 H1 locs1 hM hm => ?_)
  refine md_vret C hr hlk hM hm d_Mod_add_16 ?_
  exact ⟨rfl, rfl, rfl, rfl⟩
