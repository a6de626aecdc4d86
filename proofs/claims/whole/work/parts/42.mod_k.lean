theorem W.joinB {p : Program} {l : Launch} {e : Env} {R : Room} {s : State} {m : MethodId} {args : Array Value} {below : List Frame} {meth : Method} {c : Code} {H : Heap} {locs : List Loc} {cells slots : Nat} {Q : State → Prop} {g : JFrame} {G : GG} {A0 : Nat → Prop} {H0 : Heap} {P : List Nat} {f0 f : Nat → va_E} {o : Nat} {r : Nat → Nat} {v : Nat → Int32} {A : Nat → Nat → Int32} {B : Nat → Nat → Int64} (_hM : pgS G A0 H0 P f H locs) (_hm : mdS G o r P f0 f v A B) {I : (Nat → Nat → Int64) → Prop} {g2 : JFrame}
    (k : (∀ (B1 : Nat → Nat → Int64) (H1 : Heap) (locs1 : List Loc) (f1 : Nat → va_E), I B1 → pgS G A0 H0 P f1 H1 locs1 → mdS G o r P f0 f1 v A B1 → W p l e R s m args below meth c H1 locs1 cells slots Q g2) → W p l e R s m args below meth c H locs cells slots Q g)
    (j : ∀ (B1 : Nat → Nat → Int64) (H1 : Heap) (locs1 : List Loc) (f1 : Nat → va_E), I B1 → pgS G A0 H0 P f1 H1 locs1 → mdS G o r P f0 f1 v A B1 → W p l e R s m args below meth c H1 locs1 cells slots Q g2) : W p l e R s m args below meth c H locs cells slots Q g := k j
/-- where a vehicle is behind n of its moves -/
def cel (park : Nat) (ce : Nat → Nat) (n : Nat) : Nat := if n = 0 then park else ce (n - 1)
/-- what a vehicle's positions at the times j (from one before the clock on) forbid: coming, being -/
def fb36 (b0 b : Nat → Int64) (hq : Nat → Nat) (j : Nat) : Prop := ∀ k d, k ≤ 150 → d < 96 → (bt b k d ↔ (bt b0 k d ∨ ∃ x, x < j ∧ (k + 1 = x ∨ k = x) ∧ d = hq x))
def fb35 (b0 b : Nat → Int64) (hq : Nat → Nat) (j : Nat) : Prop := ∀ k d, k ≤ 150 → d < 96 → (bt b k d ↔ (bt b0 k d ∨ ∃ x, x < j ∧ 1 ≤ x ∧ hq x ≠ hq (x - 1) ∧ (k + 1 = x ∨ k + 2 = x) ∧ d = hq x))
def s36 (b : Nat → Int64) (j h : Nat) : Nat → Int64 := if 1 ≤ j ∧ j ≤ 151 then addL b (nI (j - 1)) (nI h) else b
def s36b (b : Nat → Int64) (j h : Nat) : Nat → Int64 := if j ≤ 150 then addL b (nI j) (nI h) else b
def s35 (b : Nat → Int64) (j h : Nat) : Nat → Int64 := if j ≤ 151 then addL b (nI (j - 1)) (nI h) else b
def s35b (b : Nat → Int64) (j h : Nat) : Nat → Int64 := if 2 ≤ j then addL b (nI (j - 2)) (nI h) else b
theorem fb36_step {b0 b : Nat → Int64} {hq : Nat → Nat} {j : Nat} (h : fb36 b0 b hq j) (hj : j ≤ 152) (hh : hq j < 96) : fb36 b0 (s36b (s36 b j (hq j)) j (hq j)) hq (j + 1) := by
  intro k d hk hd
  have h1 : bt (s36 b j (hq j)) k d ↔ (bt b k d ∨ (k + 1 = j ∧ d = hq j)) := by
    unfold s36
    by_cases q : 1 ≤ j ∧ j ≤ 151
    · rw [if_pos q, bb_add (by omega) hh hd]
      constructor
      · rintro (z | ⟨z1, z2⟩)
        · exact Or.inl z
        · exact Or.inr ⟨by omega, z2⟩
      · rintro (z | ⟨z1, z2⟩)
        · exact Or.inl z
        · exact Or.inr ⟨by omega, z2⟩
    · rw [if_neg q]
      exact ⟨Or.inl, fun z => z.elim id (fun z => absurd z.1 (by omega))⟩
  have h2 : bt (s36b (s36 b j (hq j)) j (hq j)) k d ↔ (bt (s36 b j (hq j)) k d ∨ (k = j ∧ d = hq j)) := by
    unfold s36b
    by_cases q : j ≤ 150
    · rw [if_pos q, bb_add (by omega) hh hd]
    · rw [if_neg q]
      exact ⟨Or.inl, fun z => z.elim id (fun z => absurd z.1 (by omega))⟩
  rw [h2, h1, h k d hk hd]
  constructor
  · rintro (((z | ⟨x, z1, z2⟩) | ⟨z1, z2⟩) | ⟨z1, z2⟩)
    · exact Or.inl z
    · exact Or.inr ⟨x, by omega, z2⟩
    · exact Or.inr ⟨j, by omega, Or.inl z1, z2⟩
    · exact Or.inr ⟨j, by omega, Or.inr z1, z2⟩
  · rintro (z | ⟨x, z1, z2, z3⟩)
    · exact Or.inl (Or.inl (Or.inl z))
    · by_cases q : x = j
      · subst q
        rcases z2 with z2 | z2
        · exact Or.inl (Or.inr ⟨z2, z3⟩)
        · exact Or.inr ⟨z2, z3⟩
      · exact Or.inl (Or.inl (Or.inr ⟨x, by omega, z2, z3⟩))
theorem fb35_keep {b0 b : Nat → Int64} {hq : Nat → Nat} {j : Nat} (h : fb35 b0 b hq j) (hc : j = 0 ∨ hq j = hq (j - 1)) : fb35 b0 b hq (j + 1) := by
  intro k d hk hd
  rw [h k d hk hd]
  constructor
  · rintro (z | ⟨x, z1, z2⟩)
    · exact Or.inl z
    · exact Or.inr ⟨x, by omega, z2⟩
  · rintro (z | ⟨x, z1, z2, z3, z4⟩)
    · exact Or.inl z
    · by_cases q : x = j
      · subst q
        rcases hc with hc | hc
        · omega
        · exact absurd hc z3
      · exact Or.inr ⟨x, by omega, z2, z3, z4⟩
theorem fb35_step {b0 b : Nat → Int64} {hq : Nat → Nat} {j : Nat} (h : fb35 b0 b hq j) (hj : j ≤ 152) (hj1 : 1 ≤ j) (hh : hq j < 96) (hc : hq j ≠ hq (j - 1)) : fb35 b0 (s35b (s35 b j (hq j)) j (hq j)) hq (j + 1) := by
  intro k d hk hd
  have h1 : bt (s35 b j (hq j)) k d ↔ (bt b k d ∨ (k + 1 = j ∧ d = hq j)) := by
    unfold s35
    by_cases q : j ≤ 151
    · rw [if_pos q, bb_add (by omega) hh hd]
      constructor
      · rintro (z | ⟨z1, z2⟩)
        · exact Or.inl z
        · exact Or.inr ⟨by omega, z2⟩
      · rintro (z | ⟨z1, z2⟩)
        · exact Or.inl z
        · exact Or.inr ⟨by omega, z2⟩
    · rw [if_neg q]
      exact ⟨Or.inl, fun z => z.elim id (fun z => absurd z.1 (by omega))⟩
  have h2 : bt (s35b (s35 b j (hq j)) j (hq j)) k d ↔ (bt (s35 b j (hq j)) k d ∨ (k + 2 = j ∧ d = hq j)) := by
    unfold s35b
    by_cases q : 2 ≤ j
    · rw [if_pos q, bb_add (by omega) hh hd]
      constructor
      · rintro (z | ⟨z1, z2⟩)
        · exact Or.inl z
        · exact Or.inr ⟨by omega, z2⟩
      · rintro (z | ⟨z1, z2⟩)
        · exact Or.inl z
        · exact Or.inr ⟨by omega, z2⟩
    · rw [if_neg q]
      exact ⟨Or.inl, fun z => z.elim id (fun z => absurd z.1 (by omega))⟩
  rw [h2, h1, h k d hk hd]
  constructor
  · rintro (((z | ⟨x, z1, z2⟩) | ⟨z1, z2⟩) | ⟨z1, z2⟩)
    · exact Or.inl z
    · exact Or.inr ⟨x, by omega, z2⟩
    · exact Or.inr ⟨j, by omega, hj1, hc, Or.inl z1, z2⟩
    · exact Or.inr ⟨j, by omega, hj1, hc, Or.inr z1, z2⟩
  · rintro (z | ⟨x, z1, z2, z3, z4, z5⟩)
    · exact Or.inl (Or.inl (Or.inl z))
    · by_cases q : x = j
      · subst q
        rcases z4 with z4 | z4
        · exact Or.inl (Or.inr ⟨z4, z5⟩)
        · exact Or.inr ⟨z4, z5⟩
      · exact Or.inl (Or.inl (Or.inr ⟨x, by omega, z2, z3, z4, z5⟩))
/-- a vehicle's moves: rows in range, cells, rising times; its place at each time -/
def vOk (v : Nat → Int32) (A : Nat → Nat → Int32) (u park mu : Nat) (ce tm : Nat → Nat) : Prop := A 6 u = nI park ∧ park < 96 ∧ A 27 u = nI mu ∧ mu ≤ 3600 ∧ ∀ i, i < mu → vp_in (plc v A (nI u) (nI i)) 3600 ∧ A 20 (ix (plc v A (nI u) (nI i))) = nI (ce i) ∧ ce i < 96 ∧ A 21 (ix (plc v A (nI u) (nI i))) = nI (tm i) ∧ tm i < 1000000
def tOk (mu cl : Nat) (tm nq : Nat → Nat) : Prop := ∀ j, j ≤ 152 → nq j ≤ mu ∧ (∀ i, i < nq j → tm i + 1 ≤ cl + j) ∧ (nq j < mu → cl + j ≤ tm (nq j)) ∧ (1 ≤ j → nq (j - 1) ≤ nq j)
theorem nm_toInt {n : Nat} (h : n < 2147483648) : (nI n - 1).toInt = (n : Int) - 1 := by
  cases n with
  | zero => decide
  | succ n => rw [nI_pred, nI_toInt (by omega)]; omega
theorem nm_sub (a b : Nat) : nI (a + b) - 1 - nI a = nI b - 1 := by
  rw [← nI_add]
  simp only [Int32.sub_eq_add_neg]
  rw [Int32.add_assoc, Int32.add_assoc, Int32.add_comm (-1) (-nI a), ← Int32.add_assoc (nI b), Int32.add_comm (nI b), ← Int32.add_assoc, ← Int32.add_assoc, Int32.add_right_neg, Int32.zero_add]
theorem nm_succ (n : Nat) : nI n - 1 + Int32.ofInt 1 = nI (n + 1) - 1 := by
  rw [nI_pred, show Int32.ofInt 1 = 1 from by decide, Int32.sub_add_cancel]
theorem nm_add1 (n : Nat) : nI n - 1 + 1 = nI n := Int32.sub_add_cancel _ _
theorem nm_ge {n : Nat} (h : 1 ≤ n) : nI n - 1 = nI (n - 1) := by
  obtain ⟨m, rfl⟩ : ∃ m, n = m + 1 := ⟨n - 1, by omega⟩
  rw [nI_pred]; rfl
theorem in_r {j : Nat} (hj : j < 1000) : inb (nI j - 1) 0 150 ↔ (1 ≤ j ∧ j ≤ 151) := by
  unfold inb
  rw [Int32.lt_iff_toInt_lt, Int32.lt_iff_toInt_lt, nm_toInt (by omega), show (0 : Int32).toInt = 0 from by decide, show (150 : Int32).toInt = 150 from by decide]
  omega
theorem in_r1 {j : Nat} (hj : j < 1000) : inb (nI j) 0 150 ↔ j ≤ 150 := by
  unfold inb
  rw [Int32.lt_iff_toInt_lt, Int32.lt_iff_toInt_lt, nI_toInt (by omega), show (0 : Int32).toInt = 0 from by decide, show (150 : Int32).toInt = 150 from by decide]
  omega
theorem cmpT {cl j : Nat} (hc : cl < 1000000) (hj : j < 1000) : nI cl + 150 + 1 < nI (cl + j) - 1 ↔ 152 < j := by
  rw [show nI cl + 150 + 1 = nI (cl + 151) from by rw [show (150 : Int32) = nI 150 from rfl, nI_add, nI_1], Int32.lt_iff_toInt_lt, nm_toInt (by omega), nI_toInt (by omega)]
  omega
theorem cmpM {t n : Nat} (ht : t < 10000000) (hn : n < 10000000) : nI n - 1 < nI t ↔ n ≤ t := by
  rw [Int32.lt_iff_toInt_lt, nm_toInt (by omega), nI_toInt (by omega)]
  omega
set_option maxHeartbeats 4000000 in
set_option maxRecDepth 100000 in
theorem k_Mod_forbid (l : Launch) (G : GG) (o : Nat) (r : Nat → Nat) (v : Nat → Int32) (A : Nat → Nat → Int32) (B : Nat → Nat → Int64) (u0 : Nat) {np cl park mu : Nat} {ce tm nq : Nat → Nat} (hu : u0 < 6) (hnp : np ≤ 24) (h10 : v 10 = nI np) (h29 : v 29 = nI cl) (hcl : cl < 1000000) (hV : vOk v A u0 park mu ce tm) (hT : tOk mu cl tm nq) : mct l G y_Mod_forbid c_Mod_forbid 7 none 1 23 [.ref o, .int (nI u0)] o r v A B (fun x v1 A1 B1 => x = none ∧ v1 = v ∧ A1 = A ∧ (∀ k, k ≠ 35 → k ≠ 36 → B1 k = B k) ∧ fb36 (B 36) (B1 36) (fun x => cel park ce (nq x)) 153 ∧ fb35 (B 35) (B1 35) (fun x => cel park ce (nq x)) 153) := by
  refine mct_intro (by decide) [some (.ref o), some (.int (nI u0)), none, none, none, none, none] rfl rfl (Nat.le_of_ble_eq_true rfl) ?_
  intro p e s m below meth c ls P f C hr hlk hE hM hm hl
  have hmu : mu ≤ 3600 := hV.2.2.2.1
  refine lv_iconst (v := 0) C.1 C.2.1 d_Mod_forbid_0 (by decide) ?_
  refine lo_istore_n C hl d_Mod_forbid_1 (Nat.le_of_ble_eq_true rfl) rfl (fun ls hl => ?_)
  refine lv_aload_n C.1 C.2.1 d_Mod_forbid_2 rfl (lo_at hl 0 rfl) ?_
  refine md_get C hE hM hm 6 (Nat.le_of_ble_eq_true rfl) tw_788 rfl rfl d_Mod_forbid_3 ?_
  refine lv_iload_n C.1 C.2.1 d_Mod_forbid_6 rfl (lo_at hl 1 rfl) ?_
  refine md_ialdN C hE hM hm 6 rfl u0 rfl (show u0 < 96 by omega) d_Mod_forbid_7 ?_
  rw [hV.1]
  refine lo_istore_n C hl d_Mod_forbid_8 (Nat.le_of_ble_eq_true rfl) rfl (fun ls hl => ?_)
  refine lv_aload_n C.1 C.2.1 d_Mod_forbid_9 rfl (lo_at hl 0 rfl) ?_
  refine md_get C hE hM hm 29 (Nat.le_of_ble_eq_true rfl) tw_811 rfl rfl d_Mod_forbid_10 ?_
  refine lv_iconst (v := 1) C.1 C.2.1 d_Mod_forbid_13 (by decide) ?_
  refine lv_isub C.1 C.2.1 d_Mod_forbid_14 ?_
  rw [h29]
  refine lo_istore C hl d_Mod_forbid_15 (Nat.le_of_ble_eq_true rfl) rfl (fun ls hl => ?_)
  refine W.loop (α := (Nat) × (Nat) × (Nat → Nat → Int64) × (Array Slot) × (Heap) × (List Loc) × (Nat → va_E)) (fun a => 153 - a.1) (fun a => (a.1 ≤ 153) ∧ ((a.1 = 0 ∧ a.2.1 = 0) ∨ (1 ≤ a.1 ∧ a.2.1 = nq (a.1 - 1))) ∧ (∀ k, k ≠ 35 → k ≠ 36 → a.2.2.1 k = B k) ∧ (fb36 (B 36) (a.2.2.1 36) (fun x => cel park ce (nq x)) a.1) ∧ (fb35 (B 35) (a.2.2.1 35) (fun x => cel park ce (nq x)) a.1) ∧ lo a.2.2.2.1 [some (.ref o), some (.int (nI u0)), some (.int (nI a.2.1)), some (.int (nI (cel park ce a.2.1))), some (.int (nI (cl + a.1) - 1)), none, none] ∧ pgS G (pgA P s.heap.size) s.heap P a.2.2.2.2.2.2 a.2.2.2.2.1 a.2.2.2.2.2.1 ∧ mdS G o r P f a.2.2.2.2.2.2 (v) (A) (a.2.2.1)) (fun a => a.2.2.2.2.1) (fun a => a.2.2.2.2.2.1) (fun _ => 0) (fun _ => 0) (fun a => F0 m 17 a.2.2.2.1 []) ?_ (0, 0, B, ls, s.heap, [], f) ⟨Nat.zero_le _, Or.inl ⟨rfl, rfl⟩, fun k _ _ => rfl, fun k d _ _ => ⟨Or.inl, fun z => z.elim id (fun ⟨x, z, _⟩ => absurd z (Nat.not_lt_zero _))⟩, fun k d _ _ => ⟨Or.inl, fun z => z.elim id (fun ⟨x, z, _⟩ => absurd z (Nat.not_lt_zero _))⟩, lo_weak hl ⟨rfl, rfl, rfl, rfl, rfl, trivial⟩, hM, hm⟩
  rintro ⟨j, i0, B1, ls, H1, locs1, f1⟩ ⟨hj, hi0, hBk, h36, h35, hl, hM, hm⟩ ih17
  dsimp only at hj hi0 hBk h36 h35 hl hM hm
  show W _ _ _ _ _ _ _ _ _ _ _ _ _ _ _ (F0 m 17 ls [])
  refine lv_iload C.1 C.2.1 d_Mod_forbid_17 (lo_at hl 4 rfl) ?_
  refine lv_aload_n C.1 C.2.1 d_Mod_forbid_19 rfl (lo_at hl 0 rfl) ?_
  refine md_get C hE hM hm 29 (Nat.le_of_ble_eq_true rfl) tw_811 rfl rfl d_Mod_forbid_20 ?_
  refine lv_sipush (v := 150) C.1 C.2.1 d_Mod_forbid_23 (by decide) ?_
  refine lv_iadd C.1 C.2.1 d_Mod_forbid_26 ?_
  refine lv_iconst (v := 1) C.1 C.2.1 d_Mod_forbid_27 (by decide) ?_
  refine lv_iadd C.1 C.2.1 d_Mod_forbid_28 ?_
  rw [h29]
  refine lv_icmp_gt (tgt := 191) C.1 C.2.1 d_Mod_forbid_29 (by decide) (fun hc29 => ?_) (fun hc29 => ?_)
  · have hj9 : j = 153 := by
      have := (cmpT hcl (by omega)).mp hc29
      omega
    refine md_vret C hr hlk hM hm d_Mod_forbid_191 ?_
    refine ⟨rfl, rfl, rfl, hBk, ?_, ?_⟩
    · rw [hj9] at h36; exact h36
    · rw [hj9] at h35; exact h35
  · have hj9 : j ≤ 152 := by
      have : ¬ 152 < j := fun z => hc29 ((cmpT hcl (by omega)).mpr z)
      omega
    refine lv_iload_n C.1 C.2.1 d_Mod_forbid_32 rfl (lo_at hl 3 rfl) ?_
    refine lo_istore C hl d_Mod_forbid_33 (Nat.le_of_ble_eq_true rfl) rfl (fun ls hl => ?_)
    refine W.loop (α := (Nat) × (Array Slot) × (Heap) × (List Loc) × (Nat → va_E)) (fun a => nq j - a.1) (fun a => (a.1 ≤ nq j) ∧ lo a.2.1 [some (.ref o), some (.int (nI u0)), some (.int (nI a.1)), some (.int (nI (cel park ce a.1))), some (.int (nI (cl + j) - 1)), some (.int (nI (cel park ce i0))), none] ∧ pgS G (pgA P s.heap.size) s.heap P a.2.2.2.2 a.2.2.1 a.2.2.2.1 ∧ mdS G o r P f a.2.2.2.2 (v) (A) (B1)) (fun a => a.2.2.1) (fun a => a.2.2.2.1) (fun _ => 0) (fun _ => 0) (fun a => F0 m 35 a.2.1 []) ?_ (i0, ls, H1, locs1, f1) ⟨by rcases hi0 with h | h; (rw [h.2]; exact Nat.zero_le _); (have := (hT j hj9).2.2.2 h.1; rw [h.2]; exact this), lo_weak hl ⟨rfl, rfl, rfl, rfl, rfl, rfl, trivial⟩, hM, hm⟩
    rintro ⟨i, ls, H1, locs1, f1⟩ ⟨hiq, hl, hM, hm⟩ ih35
    dsimp only at hiq hl hM hm
    show W _ _ _ _ _ _ _ _ _ _ _ _ _ _ _ (F0 m 35 ls [])
    have hnqj := (hT j hj9).1
    refine lv_iload_n C.1 C.2.1 d_Mod_forbid_35 rfl (lo_at hl 2 rfl) ?_
    refine lv_aload_n C.1 C.2.1 d_Mod_forbid_36 rfl (lo_at hl 0 rfl) ?_
    refine md_get C hE hM hm 27 (Nat.le_of_ble_eq_true rfl) tw_809 rfl rfl d_Mod_forbid_37 ?_
    refine lv_iload_n C.1 C.2.1 d_Mod_forbid_40 rfl (lo_at hl 1 rfl) ?_
    refine md_ialdN C hE hM hm 27 rfl u0 rfl (show u0 < 6 by omega) d_Mod_forbid_41 ?_
    rw [hV.2.2.1]
    refine lv_icmp_ge (tgt := 79) C.1 C.2.1 d_Mod_forbid_42 (by decide) (fun hc42 => ?_) (fun hc42 => ?_)
    · have hin9 : i = nq j := by
        have := nI_leN (by omega) (by omega) hc42
        have := (hT j hj9).1
        omega
      rw [hin9] at hl
      have hhr : cel park ce (nq j) < 96 := by
        unfold cel
        split
        · exact hV.2.1
        · exact (hV.2.2.2.2 _ (by have := (hT j hj9).1; omega)).2.2.1
      refine lv_iload C.1 C.2.1 d_Mod_forbid_79 (lo_at hl 4 rfl) ?_
      refine lv_aload_n C.1 C.2.1 d_Mod_forbid_81 rfl (lo_at hl 0 rfl) ?_
      refine md_get C hE hM hm 29 (Nat.le_of_ble_eq_true rfl) tw_811 rfl rfl d_Mod_forbid_82 ?_
      refine lv_isub C.1 C.2.1 d_Mod_forbid_85 ?_
      rw [h29, nm_sub]
      refine lo_istore C hl d_Mod_forbid_86 (Nat.le_of_ble_eq_true rfl) rfl (fun ls hl => ?_)
      refine W.joinB hM hm (I := fun B110 => B110 = va_up B1 36 (s36 (B1 36) j (cel park ce (nq j)))) (g2 := F0 m 110 ls []) (fun K110 => ?_) (fun B110 H1 locs1 f1 hz110 hM hm => ?_)
      · refine lv_iload C.1 C.2.1 d_Mod_forbid_88 (lo_at hl 6 rfl) ?_
        refine lv_iconst (v := 0) C.1 C.2.1 d_Mod_forbid_90 (by decide) ?_
        refine lv_sipush (v := 150) C.1 C.2.1 d_Mod_forbid_91 (by decide) ?_
        refine md_callS C hE hM hm (k_Mod_in l G o r _ _ _ _ _ _) tw_912 cy_Mod_in ⟨(Nat.le_of_ble_eq_true rfl), (Nat.le_of_ble_eq_true rfl)⟩ rfl hl.1 rfl (Nat.le_of_ble_eq_true rfl) ⟨Nat.zero_le _, Nat.zero_le _⟩ d_Mod_forbid_94 (fun x9 f1 H1 locs1 v9 A9 B9 hp hM hm => ?_)
        obtain ⟨hx9, hv9, hA9, hB9⟩ := hp
        subst hx9
        rw [hv9, hA9, hB9] at hm
        refine W.eq (g2 := F0 m 97 ls (_ :: _)) rfl ?_
        refine lv_if_eq (tgt := 110) C.1 C.2.1 d_Mod_forbid_97 (by decide) (fun hc97 => ?_) (fun hc97 => ?_)
        · replace hc97 := bz_0.mp hc97
          exact K110 _ _ _ _ (by rw [s36, if_neg (fun z => hc97 ((in_r (by omega)).mpr z)), va_up_id]) hM hm
        · replace hc97 := bz_1.mp hc97
          refine lv_aload_n C.1 C.2.1 d_Mod_forbid_100 rfl (lo_at hl 0 rfl) ?_
          refine md_get C hE hM hm 36 (Nat.le_of_ble_eq_true rfl) tw_818 rfl rfl d_Mod_forbid_101 ?_
          refine lv_iload C.1 C.2.1 d_Mod_forbid_104 (lo_at hl 6 rfl) ?_
          have h1j := (in_r (by omega)).mp hc97
          refine lv_iload_n C.1 C.2.1 d_Mod_forbid_106 rfl (lo_at hl 3 rfl) ?_
          rw [nm_ge h1j.1]
          refine md_callS C hE hM hm (k_Mod_add l G o r _ _ _ 36 rfl (nI (j - 1)) (nI (cel park ce (nq j))) (vp_lj (N := 304) (by omega) hhr (by omega) (by decide))) tw_1006 cy_Mod_add ⟨(Nat.le_of_ble_eq_true rfl), (Nat.le_of_ble_eq_true rfl)⟩ rfl hl.1 rfl (Nat.le_of_ble_eq_true rfl) ⟨Nat.zero_le _, Nat.zero_le _⟩ d_Mod_forbid_107 (fun x9 f1 H1 locs1 v9 A9 B9 hp hM hm => ?_)
          obtain ⟨hx9, hv9, hA9, hB9⟩ := hp
          subst hx9
          rw [hv9, hA9, hB9] at hm
          refine W.eq (g2 := F0 m 110 ls _) rfl ?_
          exact K110 _ _ _ _ (by rw [s36, if_pos h1j]) hM hm
      · refine W.joinB hM hm (I := fun B136 => B136 = va_up B110 36 (s36b (B110 36) j (cel park ce (nq j)))) (g2 := F0 m 136 ls []) (fun K136 => ?_) (fun B136 H1 locs1 f1 hz136 hM hm => ?_)
        · refine lv_iload C.1 C.2.1 d_Mod_forbid_110 (lo_at hl 6 rfl) ?_
          refine lv_iconst (v := 1) C.1 C.2.1 d_Mod_forbid_112 (by decide) ?_
          refine lv_iadd C.1 C.2.1 d_Mod_forbid_113 ?_
          refine lv_iconst (v := 0) C.1 C.2.1 d_Mod_forbid_114 (by decide) ?_
          refine lv_sipush (v := 150) C.1 C.2.1 d_Mod_forbid_115 (by decide) ?_
          rw [nm_add1]
          refine md_callS C hE hM hm (k_Mod_in l G o r _ _ _ _ _ _) tw_912 cy_Mod_in ⟨(Nat.le_of_ble_eq_true rfl), (Nat.le_of_ble_eq_true rfl)⟩ rfl hl.1 rfl (Nat.le_of_ble_eq_true rfl) ⟨Nat.zero_le _, Nat.zero_le _⟩ d_Mod_forbid_118 (fun x9 f1 H1 locs1 v9 A9 B9 hp hM hm => ?_)
          obtain ⟨hx9, hv9, hA9, hB9⟩ := hp
          subst hx9
          rw [hv9, hA9, hB9] at hm
          refine W.eq (g2 := F0 m 121 ls (_ :: _)) rfl ?_
          refine lv_if_eq (tgt := 136) C.1 C.2.1 d_Mod_forbid_121 (by decide) (fun hc121 => ?_) (fun hc121 => ?_)
          · replace hc121 := bz_0.mp hc121
            exact K136 _ _ _ _ (by rw [s36b, if_neg (fun z => hc121 ((in_r1 (by omega)).mpr z)), va_up_id]) hM hm
          · replace hc121 := bz_1.mp hc121
            refine lv_aload_n C.1 C.2.1 d_Mod_forbid_124 rfl (lo_at hl 0 rfl) ?_
            refine md_get C hE hM hm 36 (Nat.le_of_ble_eq_true rfl) tw_818 rfl rfl d_Mod_forbid_125 ?_
            refine lv_iload C.1 C.2.1 d_Mod_forbid_128 (lo_at hl 6 rfl) ?_
            refine lv_iconst (v := 1) C.1 C.2.1 d_Mod_forbid_130 (by decide) ?_
            refine lv_iadd C.1 C.2.1 d_Mod_forbid_131 ?_
            have h1k := (in_r1 (by omega)).mp hc121
            refine lv_iload_n C.1 C.2.1 d_Mod_forbid_132 rfl (lo_at hl 3 rfl) ?_
            rw [nm_add1]
            refine md_callS C hE hM hm (k_Mod_add l G o r _ _ _ 36 rfl (nI j) (nI (cel park ce (nq j))) (vp_lj (N := 304) (by omega) hhr (by omega) (by decide))) tw_1006 cy_Mod_add ⟨(Nat.le_of_ble_eq_true rfl), (Nat.le_of_ble_eq_true rfl)⟩ rfl hl.1 rfl (Nat.le_of_ble_eq_true rfl) ⟨Nat.zero_le _, Nat.zero_le _⟩ d_Mod_forbid_133 (fun x9 f1 H1 locs1 v9 A9 B9 hp hM hm => ?_)
            obtain ⟨hx9, hv9, hA9, hB9⟩ := hp
            subst hx9
            rw [hv9, hA9, hB9] at hm
            refine W.eq (g2 := F0 m 136 ls _) rfl ?_
            exact K136 _ _ _ _ (by rw [s36b, if_pos h1k]) hM hm
        · have e36 : B136 36 = s36b (s36 (B1 36) j (cel park ce (nq j))) j (cel park ce (nq j)) := by rw [hz136, va_up_self, hz110, va_up_self]
          have e35 : B136 35 = B1 35 := by rw [hz136, hz110]; rfl
          have eK : ∀ k, k ≠ 35 → k ≠ 36 → B136 k = B k := fun k h1 h2 => by rw [hz136, va_up_ne _ _ h2, hz110, va_up_ne _ _ h2]; exact hBk k h1 h2
          have n36 : fb36 (B 36) (B136 36) (fun x => cel park ce (nq x)) (j + 1) := by rw [e36]; exact fb36_step (hq := fun x => cel park ce (nq x)) h36 hj9 hhr
          refine lv_iload_n C.1 C.2.1 d_Mod_forbid_136 rfl (lo_at hl 3 rfl) ?_
          refine lv_iload C.1 C.2.1 d_Mod_forbid_137 (lo_at hl 5 rfl) ?_
          refine lv_icmp_eq (tgt := 185) C.1 C.2.1 d_Mod_forbid_139 (by decide) (fun hc139 => ?_) (fun hc139 => ?_)
          · refine lo_iinc C hl d_Mod_forbid_185 rfl rfl (fun ls hl => ?_)
            refine lv_goto (tgt := 17) C.1 C.2.1 d_Mod_forbid_188 (by decide) ?_
            have m36 := n36
            have m35 : fb35 (B 35) (B136 35) (fun x => cel park ce (nq x)) (j + 1) := by
              rw [e35]
              refine fb35_keep h35 ?_
              rcases hi0 with hi0 | hi0
              · exact Or.inl hi0.1
              · right
                have := (nI_eq (by omega) (by have : cel park ce i0 < 96 := (by unfold cel; split; exact hV.2.1; exact (hV.2.2.2.2 _ (by have := (hT (j - 1) (by omega)).1; omega)).2.2.1); omega)).mp hc139
                rw [hi0.2] at this; exact this
            have h9 := hl
            rw [nm_succ] at h9
            exact ih17 (j + 1, nq j, B136, ls, H1, locs1, f1) ⟨by (try dsimp only); omega, Or.inr ⟨Nat.le_add_left 1 j, rfl⟩, eK, m36, m35, lo_weak h9 ⟨rfl, rfl, rfl, rfl, rfl, trivial⟩, hM, hm⟩ (by show 153 - (j + 1) < 153 - j; omega)
          · refine lv_iload C.1 C.2.1 d_Mod_forbid_142 (lo_at hl 6 rfl) ?_
            refine lv_if_ge (tgt := 150) C.1 C.2.1 d_Mod_forbid_144 (by decide) (fun hc144 => ?_) (fun hc144 => ?_)
            · have hj1 : 1 ≤ j := by
                have h3 := Int32.le_iff_toInt_le.mp hc144
                rw [nm_toInt (by omega), show (0 : Int32).toInt = 0 from by decide] at h3
                omega
              have hch : cel park ce (nq j) ≠ cel park ce (nq (j - 1)) := by
                intro z
                rcases hi0 with hi0 | hi0
                · omega
                · exact hc139 (by rw [hi0.2, z])
              refine W.joinB hM hm (I := fun B168 => B168 = va_up B136 35 (s35 (B136 35) j (cel park ce (nq j)))) (g2 := F0 m 168 ls []) (fun K168 => ?_) (fun B168 H1 locs1 f1 hz168 hM hm => ?_)
              · refine lv_iload C.1 C.2.1 d_Mod_forbid_150 (lo_at hl 6 rfl) ?_
                refine lv_sipush (v := 150) C.1 C.2.1 d_Mod_forbid_152 (by decide) ?_
                refine lv_icmp_gt (tgt := 168) C.1 C.2.1 d_Mod_forbid_155 (by decide) (fun hc155 => ?_) (fun hc155 => ?_)
                · exact K168 _ _ _ _ (by rw [s35, if_neg (fun z => by have h3 := Int32.lt_iff_toInt_lt.mp hc155; rw [nm_toInt (by omega), show (150 : Int32).toInt = 150 from by decide] at h3; omega), va_up_id]) hM hm
                · refine lv_aload_n C.1 C.2.1 d_Mod_forbid_158 rfl (lo_at hl 0 rfl) ?_
                  refine md_get C hE hM hm 35 (Nat.le_of_ble_eq_true rfl) tw_817 rfl rfl d_Mod_forbid_159 ?_
                  refine lv_iload C.1 C.2.1 d_Mod_forbid_162 (lo_at hl 6 rfl) ?_
                  refine lv_iload_n C.1 C.2.1 d_Mod_forbid_164 rfl (lo_at hl 3 rfl) ?_
                  have hj151 : j ≤ 151 := by
                    have h3 : ¬ (150 : Int32).toInt < (nI j - 1).toInt := fun z => hc155 (Int32.lt_iff_toInt_lt.mpr z)
                    rw [nm_toInt (by omega), show (150 : Int32).toInt = 150 from by decide] at h3
                    omega
                  rw [nm_ge (by omega)]
                  refine md_callS C hE hM hm (k_Mod_add l G o r _ _ _ 35 rfl (nI (j - 1)) (nI (cel park ce (nq j))) (vp_lj (N := 304) (by omega) hhr (by omega) (by decide))) tw_1006 cy_Mod_add ⟨(Nat.le_of_ble_eq_true rfl), (Nat.le_of_ble_eq_true rfl)⟩ rfl hl.1 rfl (Nat.le_of_ble_eq_true rfl) ⟨Nat.zero_le _, Nat.zero_le _⟩ d_Mod_forbid_165 (fun x9 f1 H1 locs1 v9 A9 B9 hp hM hm => ?_)
                  obtain ⟨hx9, hv9, hA9, hB9⟩ := hp
                  subst hx9
                  rw [hv9, hA9, hB9] at hm
                  refine W.eq (g2 := F0 m 168 ls _) rfl ?_
                  exact K168 _ _ _ _ (by rw [s35, if_pos hj151]) hM hm
              · have f35 : B168 35 = s35 (B1 35) j (cel park ce (nq j)) := by rw [hz168, va_up_self, e35]
                have f36 : B168 36 = B136 36 := by rw [hz168]; rfl
                have fK : ∀ k, k ≠ 35 → k ≠ 36 → B168 k = B k := fun k h1 h2 => by rw [hz168, va_up_ne _ _ h1]; exact eK k h1 h2
                have n35 := fb35_step (hq := fun x => cel park ce (nq x)) h35 hj9 hj1 hhr hch
                refine lv_iload C.1 C.2.1 d_Mod_forbid_168 (lo_at hl 6 rfl) ?_
                refine lv_if_le (tgt := 185) C.1 C.2.1 d_Mod_forbid_170 (by decide) (fun hc170 => ?_) (fun hc170 => ?_)
                · refine lo_iinc C hl d_Mod_forbid_185 rfl rfl (fun ls hl => ?_)
                  refine lv_goto (tgt := 17) C.1 C.2.1 d_Mod_forbid_188 (by decide) ?_
                  have hj2 : ¬ 2 ≤ j := by
                    have h3 := Int32.le_iff_toInt_le.mp hc170
                    rw [nm_toInt (by omega), show (0 : Int32).toInt = 0 from by decide] at h3
                    omega
                  have m36 : fb36 (B 36) (B168 36) (fun x => cel park ce (nq x)) (j + 1) := by rw [f36]; exact n36
                  have m35 : fb35 (B 35) (B168 35) (fun x => cel park ce (nq x)) (j + 1) := by rw [f35]; rw [s35b, if_neg hj2] at n35; exact n35
                  have h9 := hl
                  rw [nm_succ] at h9
                  exact ih17 (j + 1, nq j, B168, ls, H1, locs1, f1) ⟨by (try dsimp only); omega, Or.inr ⟨Nat.le_add_left 1 j, rfl⟩, fK, m36, m35, lo_weak h9 ⟨rfl, rfl, rfl, rfl, rfl, trivial⟩, hM, hm⟩ (by show 153 - (j + 1) < 153 - j; omega)
                · have hj2 : 2 ≤ j := by
                    have h3 : ¬ (nI j - 1).toInt ≤ (0 : Int32).toInt := fun z => hc170 (Int32.le_iff_toInt_le.mpr z)
                    rw [nm_toInt (by omega), show (0 : Int32).toInt = 0 from by decide] at h3
                    omega
                  refine lv_aload_n C.1 C.2.1 d_Mod_forbid_173 rfl (lo_at hl 0 rfl) ?_
                  refine md_get C hE hM hm 35 (Nat.le_of_ble_eq_true rfl) tw_817 rfl rfl d_Mod_forbid_174 ?_
                  refine lv_iload C.1 C.2.1 d_Mod_forbid_177 (lo_at hl 6 rfl) ?_
                  refine lv_iconst (v := 1) C.1 C.2.1 d_Mod_forbid_179 (by decide) ?_
                  refine lv_isub C.1 C.2.1 d_Mod_forbid_180 ?_
                  refine lv_iload_n C.1 C.2.1 d_Mod_forbid_181 rfl (lo_at hl 3 rfl) ?_
                  rw [nm_ge (by omega), show nI (j - 1) - 1 = nI (j - 2) from nm_ge (n := j - 1) (by omega)]
                  refine md_callS C hE hM hm (k_Mod_add l G o r _ _ _ 35 rfl (nI (j - 2)) (nI (cel park ce (nq j))) (vp_lj (N := 304) (by omega) hhr (by omega) (by decide))) tw_1006 cy_Mod_add ⟨(Nat.le_of_ble_eq_true rfl), (Nat.le_of_ble_eq_true rfl)⟩ rfl hl.1 rfl (Nat.le_of_ble_eq_true rfl) ⟨Nat.zero_le _, Nat.zero_le _⟩ d_Mod_forbid_182 (fun x9 f1 H1 locs1 v9 A9 B9 hp hM hm => ?_)
                  obtain ⟨hx9, hv9, hA9, hB9⟩ := hp
                  subst hx9
                  rw [hv9, hA9, hB9] at hm
                  refine W.eq (g2 := F0 m 185 ls _) rfl ?_
                  refine lo_iinc C hl d_Mod_forbid_185 rfl rfl (fun ls hl => ?_)
                  refine lv_goto (tgt := 17) C.1 C.2.1 d_Mod_forbid_188 (by decide) ?_
                  have m36 : fb36 (B 36) (va_up B168 35 (addL (B168 35) (nI (j - 2)) (nI (cel park ce (nq j)))) 36) (fun x => cel park ce (nq x)) (j + 1) := by rw [va_up_ne _ _ (by decide), f36]; exact n36
                  have m35 : fb35 (B 35) (va_up B168 35 (addL (B168 35) (nI (j - 2)) (nI (cel park ce (nq j)))) 35) (fun x => cel park ce (nq x)) (j + 1) := by rw [va_up_self, f35]; rw [s35b, if_pos hj2] at n35; exact n35
                  have h9 := hl
                  rw [nm_succ] at h9
                  exact ih17 (j + 1, nq j, va_up B168 35 (addL (B168 35) (nI (j - 2)) (nI (cel park ce (nq j)))), ls, H1, locs1, f1) ⟨by (try dsimp only); omega, Or.inr ⟨Nat.le_add_left 1 j, rfl⟩, (fun k h1 h2 => (va_up_ne _ _ h1).trans (fK k h1 h2)), m36, m35, lo_weak h9 ⟨rfl, rfl, rfl, rfl, rfl, trivial⟩, hM, hm⟩ (by show 153 - (j + 1) < 153 - j; omega)
            · refine lv_goto (tgt := 185) C.1 C.2.1 d_Mod_forbid_147 (by decide) ?_
              refine lo_iinc C hl d_Mod_forbid_185 rfl rfl (fun ls hl => ?_)
              refine lv_goto (tgt := 17) C.1 C.2.1 d_Mod_forbid_188 (by decide) ?_
              have hj0 : j = 0 := by
                have h3 : ¬ (0 : Int32).toInt ≤ (nI j - 1).toInt := fun z => hc144 (Int32.le_iff_toInt_le.mpr z)
                rw [nm_toInt (by omega), show (0 : Int32).toInt = 0 from by decide] at h3
                omega
              have m36 := n36
              have m35 : fb35 (B 35) (B136 35) (fun x => cel park ce (nq x)) (j + 1) := by rw [e35]; exact fb35_keep h35 (Or.inl hj0)
              have h9 := hl
              rw [nm_succ] at h9
              exact ih17 (j + 1, nq j, B136, ls, H1, locs1, f1) ⟨by (try dsimp only); omega, Or.inr ⟨Nat.le_add_left 1 j, rfl⟩, eK, m36, m35, lo_weak h9 ⟨rfl, rfl, rfl, rfl, rfl, trivial⟩, hM, hm⟩ (by show 153 - (j + 1) < 153 - j; omega)
    · have hi9 : i < mu := nI_ltN (by omega) (by omega) hc42
      refine lv_aload_n C.1 C.2.1 d_Mod_forbid_45 rfl (lo_at hl 0 rfl) ?_
      refine md_get C hE hM hm 21 (Nat.le_of_ble_eq_true rfl) tw_803 rfl rfl d_Mod_forbid_46 ?_
      refine lv_aload_n C.1 C.2.1 d_Mod_forbid_49 rfl (lo_at hl 0 rfl) ?_
      refine lv_iload_n C.1 C.2.1 d_Mod_forbid_50 rfl (lo_at hl 1 rfl) ?_
      refine lv_iload_n C.1 C.2.1 d_Mod_forbid_51 rfl (lo_at hl 2 rfl) ?_
      refine md_callV C hE hM hm (k_Mod_placeOf l G o r _ _ _ _ _ (np := np) hnp h10) rfl tw_978 cy_Mod_placeOf ⟨(Nat.le_of_ble_eq_true rfl), (Nat.le_of_ble_eq_true rfl)⟩ rfl hl.1 rfl (Nat.le_of_ble_eq_true rfl) ⟨Nat.zero_le _, Nat.zero_le _⟩ d_Mod_forbid_52 (fun x9 f1 H1 locs1 v9 A9 B9 hp hM hm => ?_)
      obtain ⟨hx9, hv9, hA9, hB9⟩ := hp
      subst hx9
      rw [hv9, hA9, hB9] at hm
      refine W.eq (g2 := F0 m 55 ls (_ :: _)) rfl ?_
      refine md_iald C hE hM hm 21 rfl (hV.2.2.2.2 i hi9).1 d_Mod_forbid_55 ?_
      refine lv_iload C.1 C.2.1 d_Mod_forbid_56 (lo_at hl 4 rfl) ?_
      rw [(hV.2.2.2.2 i hi9).2.2.2.1]
      refine lv_icmp_gt (tgt := 79) C.1 C.2.1 d_Mod_forbid_58 (by decide) (fun hc58 => ?_) (fun hc58 => ?_)
      · have hin9 : i = nq j := by
          have h3 := (cmpM (by have := (hV.2.2.2.2 i hi9).2.2.2.2; omega) (by omega)).mp hc58
          by_cases q : i < nq j
          · have := (hT j hj9).2.1 i q
            omega
          · omega
        rw [hin9] at hl
        have hhr : cel park ce (nq j) < 96 := by
          unfold cel
          split
          · exact hV.2.1
          · exact (hV.2.2.2.2 _ (by have := (hT j hj9).1; omega)).2.2.1
        refine lv_iload C.1 C.2.1 d_Mod_forbid_79 (lo_at hl 4 rfl) ?_
        refine lv_aload_n C.1 C.2.1 d_Mod_forbid_81 rfl (lo_at hl 0 rfl) ?_
        refine md_get C hE hM hm 29 (Nat.le_of_ble_eq_true rfl) tw_811 rfl rfl d_Mod_forbid_82 ?_
        refine lv_isub C.1 C.2.1 d_Mod_forbid_85 ?_
        rw [h29, nm_sub]
        refine lo_istore C hl d_Mod_forbid_86 (Nat.le_of_ble_eq_true rfl) rfl (fun ls hl => ?_)
        refine W.joinB hM hm (I := fun B110 => B110 = va_up B1 36 (s36 (B1 36) j (cel park ce (nq j)))) (g2 := F0 m 110 ls []) (fun K110 => ?_) (fun B110 H1 locs1 f1 hz110 hM hm => ?_)
        · refine lv_iload C.1 C.2.1 d_Mod_forbid_88 (lo_at hl 6 rfl) ?_
          refine lv_iconst (v := 0) C.1 C.2.1 d_Mod_forbid_90 (by decide) ?_
          refine lv_sipush (v := 150) C.1 C.2.1 d_Mod_forbid_91 (by decide) ?_
          refine md_callS C hE hM hm (k_Mod_in l G o r _ _ _ _ _ _) tw_912 cy_Mod_in ⟨(Nat.le_of_ble_eq_true rfl), (Nat.le_of_ble_eq_true rfl)⟩ rfl hl.1 rfl (Nat.le_of_ble_eq_true rfl) ⟨Nat.zero_le _, Nat.zero_le _⟩ d_Mod_forbid_94 (fun x9 f1 H1 locs1 v9 A9 B9 hp hM hm => ?_)
          obtain ⟨hx9, hv9, hA9, hB9⟩ := hp
          subst hx9
          rw [hv9, hA9, hB9] at hm
          refine W.eq (g2 := F0 m 97 ls (_ :: _)) rfl ?_
          refine lv_if_eq (tgt := 110) C.1 C.2.1 d_Mod_forbid_97 (by decide) (fun hc97 => ?_) (fun hc97 => ?_)
          · replace hc97 := bz_0.mp hc97
            exact K110 _ _ _ _ (by rw [s36, if_neg (fun z => hc97 ((in_r (by omega)).mpr z)), va_up_id]) hM hm
          · replace hc97 := bz_1.mp hc97
            refine lv_aload_n C.1 C.2.1 d_Mod_forbid_100 rfl (lo_at hl 0 rfl) ?_
            refine md_get C hE hM hm 36 (Nat.le_of_ble_eq_true rfl) tw_818 rfl rfl d_Mod_forbid_101 ?_
            refine lv_iload C.1 C.2.1 d_Mod_forbid_104 (lo_at hl 6 rfl) ?_
            have h1j := (in_r (by omega)).mp hc97
            refine lv_iload_n C.1 C.2.1 d_Mod_forbid_106 rfl (lo_at hl 3 rfl) ?_
            rw [nm_ge h1j.1]
            refine md_callS C hE hM hm (k_Mod_add l G o r _ _ _ 36 rfl (nI (j - 1)) (nI (cel park ce (nq j))) (vp_lj (N := 304) (by omega) hhr (by omega) (by decide))) tw_1006 cy_Mod_add ⟨(Nat.le_of_ble_eq_true rfl), (Nat.le_of_ble_eq_true rfl)⟩ rfl hl.1 rfl (Nat.le_of_ble_eq_true rfl) ⟨Nat.zero_le _, Nat.zero_le _⟩ d_Mod_forbid_107 (fun x9 f1 H1 locs1 v9 A9 B9 hp hM hm => ?_)
            obtain ⟨hx9, hv9, hA9, hB9⟩ := hp
            subst hx9
            rw [hv9, hA9, hB9] at hm
            refine W.eq (g2 := F0 m 110 ls _) rfl ?_
            exact K110 _ _ _ _ (by rw [s36, if_pos h1j]) hM hm
        · refine W.joinB hM hm (I := fun B136 => B136 = va_up B110 36 (s36b (B110 36) j (cel park ce (nq j)))) (g2 := F0 m 136 ls []) (fun K136 => ?_) (fun B136 H1 locs1 f1 hz136 hM hm => ?_)
          · refine lv_iload C.1 C.2.1 d_Mod_forbid_110 (lo_at hl 6 rfl) ?_
            refine lv_iconst (v := 1) C.1 C.2.1 d_Mod_forbid_112 (by decide) ?_
            refine lv_iadd C.1 C.2.1 d_Mod_forbid_113 ?_
            refine lv_iconst (v := 0) C.1 C.2.1 d_Mod_forbid_114 (by decide) ?_
            refine lv_sipush (v := 150) C.1 C.2.1 d_Mod_forbid_115 (by decide) ?_
            rw [nm_add1]
            refine md_callS C hE hM hm (k_Mod_in l G o r _ _ _ _ _ _) tw_912 cy_Mod_in ⟨(Nat.le_of_ble_eq_true rfl), (Nat.le_of_ble_eq_true rfl)⟩ rfl hl.1 rfl (Nat.le_of_ble_eq_true rfl) ⟨Nat.zero_le _, Nat.zero_le _⟩ d_Mod_forbid_118 (fun x9 f1 H1 locs1 v9 A9 B9 hp hM hm => ?_)
            obtain ⟨hx9, hv9, hA9, hB9⟩ := hp
            subst hx9
            rw [hv9, hA9, hB9] at hm
            refine W.eq (g2 := F0 m 121 ls (_ :: _)) rfl ?_
            refine lv_if_eq (tgt := 136) C.1 C.2.1 d_Mod_forbid_121 (by decide) (fun hc121 => ?_) (fun hc121 => ?_)
            · replace hc121 := bz_0.mp hc121
              exact K136 _ _ _ _ (by rw [s36b, if_neg (fun z => hc121 ((in_r1 (by omega)).mpr z)), va_up_id]) hM hm
            · replace hc121 := bz_1.mp hc121
              refine lv_aload_n C.1 C.2.1 d_Mod_forbid_124 rfl (lo_at hl 0 rfl) ?_
              refine md_get C hE hM hm 36 (Nat.le_of_ble_eq_true rfl) tw_818 rfl rfl d_Mod_forbid_125 ?_
              refine lv_iload C.1 C.2.1 d_Mod_forbid_128 (lo_at hl 6 rfl) ?_
              refine lv_iconst (v := 1) C.1 C.2.1 d_Mod_forbid_130 (by decide) ?_
              refine lv_iadd C.1 C.2.1 d_Mod_forbid_131 ?_
              have h1k := (in_r1 (by omega)).mp hc121
              refine lv_iload_n C.1 C.2.1 d_Mod_forbid_132 rfl (lo_at hl 3 rfl) ?_
              rw [nm_add1]
              refine md_callS C hE hM hm (k_Mod_add l G o r _ _ _ 36 rfl (nI j) (nI (cel park ce (nq j))) (vp_lj (N := 304) (by omega) hhr (by omega) (by decide))) tw_1006 cy_Mod_add ⟨(Nat.le_of_ble_eq_true rfl), (Nat.le_of_ble_eq_true rfl)⟩ rfl hl.1 rfl (Nat.le_of_ble_eq_true rfl) ⟨Nat.zero_le _, Nat.zero_le _⟩ d_Mod_forbid_133 (fun x9 f1 H1 locs1 v9 A9 B9 hp hM hm => ?_)
              obtain ⟨hx9, hv9, hA9, hB9⟩ := hp
              subst hx9
              rw [hv9, hA9, hB9] at hm
              refine W.eq (g2 := F0 m 136 ls _) rfl ?_
              exact K136 _ _ _ _ (by rw [s36b, if_pos h1k]) hM hm
          · have e36 : B136 36 = s36b (s36 (B1 36) j (cel park ce (nq j))) j (cel park ce (nq j)) := by rw [hz136, va_up_self, hz110, va_up_self]
            have e35 : B136 35 = B1 35 := by rw [hz136, hz110]; rfl
            have eK : ∀ k, k ≠ 35 → k ≠ 36 → B136 k = B k := fun k h1 h2 => by rw [hz136, va_up_ne _ _ h2, hz110, va_up_ne _ _ h2]; exact hBk k h1 h2
            have n36 : fb36 (B 36) (B136 36) (fun x => cel park ce (nq x)) (j + 1) := by rw [e36]; exact fb36_step (hq := fun x => cel park ce (nq x)) h36 hj9 hhr
            refine lv_iload_n C.1 C.2.1 d_Mod_forbid_136 rfl (lo_at hl 3 rfl) ?_
            refine lv_iload C.1 C.2.1 d_Mod_forbid_137 (lo_at hl 5 rfl) ?_
            refine lv_icmp_eq (tgt := 185) C.1 C.2.1 d_Mod_forbid_139 (by decide) (fun hc139 => ?_) (fun hc139 => ?_)
            · refine lo_iinc C hl d_Mod_forbid_185 rfl rfl (fun ls hl => ?_)
              refine lv_goto (tgt := 17) C.1 C.2.1 d_Mod_forbid_188 (by decide) ?_
              have m36 := n36
              have m35 : fb35 (B 35) (B136 35) (fun x => cel park ce (nq x)) (j + 1) := by
                rw [e35]
                refine fb35_keep h35 ?_
                rcases hi0 with hi0 | hi0
                · exact Or.inl hi0.1
                · right
                  have := (nI_eq (by omega) (by have : cel park ce i0 < 96 := (by unfold cel; split; exact hV.2.1; exact (hV.2.2.2.2 _ (by have := (hT (j - 1) (by omega)).1; omega)).2.2.1); omega)).mp hc139
                  rw [hi0.2] at this; exact this
              have h9 := hl
              rw [nm_succ] at h9
              exact ih17 (j + 1, nq j, B136, ls, H1, locs1, f1) ⟨by (try dsimp only); omega, Or.inr ⟨Nat.le_add_left 1 j, rfl⟩, eK, m36, m35, lo_weak h9 ⟨rfl, rfl, rfl, rfl, rfl, trivial⟩, hM, hm⟩ (by show 153 - (j + 1) < 153 - j; omega)
            · refine lv_iload C.1 C.2.1 d_Mod_forbid_142 (lo_at hl 6 rfl) ?_
              refine lv_if_ge (tgt := 150) C.1 C.2.1 d_Mod_forbid_144 (by decide) (fun hc144 => ?_) (fun hc144 => ?_)
              · have hj1 : 1 ≤ j := by
                  have h3 := Int32.le_iff_toInt_le.mp hc144
                  rw [nm_toInt (by omega), show (0 : Int32).toInt = 0 from by decide] at h3
                  omega
                have hch : cel park ce (nq j) ≠ cel park ce (nq (j - 1)) := by
                  intro z
                  rcases hi0 with hi0 | hi0
                  · omega
                  · exact hc139 (by rw [hi0.2, z])
                refine W.joinB hM hm (I := fun B168 => B168 = va_up B136 35 (s35 (B136 35) j (cel park ce (nq j)))) (g2 := F0 m 168 ls []) (fun K168 => ?_) (fun B168 H1 locs1 f1 hz168 hM hm => ?_)
                · refine lv_iload C.1 C.2.1 d_Mod_forbid_150 (lo_at hl 6 rfl) ?_
                  refine lv_sipush (v := 150) C.1 C.2.1 d_Mod_forbid_152 (by decide) ?_
                  refine lv_icmp_gt (tgt := 168) C.1 C.2.1 d_Mod_forbid_155 (by decide) (fun hc155 => ?_) (fun hc155 => ?_)
                  · exact K168 _ _ _ _ (by rw [s35, if_neg (fun z => by have h3 := Int32.lt_iff_toInt_lt.mp hc155; rw [nm_toInt (by omega), show (150 : Int32).toInt = 150 from by decide] at h3; omega), va_up_id]) hM hm
                  · refine lv_aload_n C.1 C.2.1 d_Mod_forbid_158 rfl (lo_at hl 0 rfl) ?_
                    refine md_get C hE hM hm 35 (Nat.le_of_ble_eq_true rfl) tw_817 rfl rfl d_Mod_forbid_159 ?_
                    refine lv_iload C.1 C.2.1 d_Mod_forbid_162 (lo_at hl 6 rfl) ?_
                    refine lv_iload_n C.1 C.2.1 d_Mod_forbid_164 rfl (lo_at hl 3 rfl) ?_
                    have hj151 : j ≤ 151 := by
                      have h3 : ¬ (150 : Int32).toInt < (nI j - 1).toInt := fun z => hc155 (Int32.lt_iff_toInt_lt.mpr z)
                      rw [nm_toInt (by omega), show (150 : Int32).toInt = 150 from by decide] at h3
                      omega
                    rw [nm_ge (by omega)]
                    refine md_callS C hE hM hm (k_Mod_add l G o r _ _ _ 35 rfl (nI (j - 1)) (nI (cel park ce (nq j))) (vp_lj (N := 304) (by omega) hhr (by omega) (by decide))) tw_1006 cy_Mod_add ⟨(Nat.le_of_ble_eq_true rfl), (Nat.le_of_ble_eq_true rfl)⟩ rfl hl.1 rfl (Nat.le_of_ble_eq_true rfl) ⟨Nat.zero_le _, Nat.zero_le _⟩ d_Mod_forbid_165 (fun x9 f1 H1 locs1 v9 A9 B9 hp hM hm => ?_)
                    obtain ⟨hx9, hv9, hA9, hB9⟩ := hp
                    subst hx9
                    rw [hv9, hA9, hB9] at hm
                    refine W.eq (g2 := F0 m 168 ls _) rfl ?_
                    exact K168 _ _ _ _ (by rw [s35, if_pos hj151]) hM hm
                · have f35 : B168 35 = s35 (B1 35) j (cel park ce (nq j)) := by rw [hz168, va_up_self, e35]
                  have f36 : B168 36 = B136 36 := by rw [hz168]; rfl
                  have fK : ∀ k, k ≠ 35 → k ≠ 36 → B168 k = B k := fun k h1 h2 => by rw [hz168, va_up_ne _ _ h1]; exact eK k h1 h2
                  have n35 := fb35_step (hq := fun x => cel park ce (nq x)) h35 hj9 hj1 hhr hch
                  refine lv_iload C.1 C.2.1 d_Mod_forbid_168 (lo_at hl 6 rfl) ?_
                  refine lv_if_le (tgt := 185) C.1 C.2.1 d_Mod_forbid_170 (by decide) (fun hc170 => ?_) (fun hc170 => ?_)
                  · refine lo_iinc C hl d_Mod_forbid_185 rfl rfl (fun ls hl => ?_)
                    refine lv_goto (tgt := 17) C.1 C.2.1 d_Mod_forbid_188 (by decide) ?_
                    have hj2 : ¬ 2 ≤ j := by
                      have h3 := Int32.le_iff_toInt_le.mp hc170
                      rw [nm_toInt (by omega), show (0 : Int32).toInt = 0 from by decide] at h3
                      omega
                    have m36 : fb36 (B 36) (B168 36) (fun x => cel park ce (nq x)) (j + 1) := by rw [f36]; exact n36
                    have m35 : fb35 (B 35) (B168 35) (fun x => cel park ce (nq x)) (j + 1) := by rw [f35]; rw [s35b, if_neg hj2] at n35; exact n35
                    have h9 := hl
                    rw [nm_succ] at h9
                    exact ih17 (j + 1, nq j, B168, ls, H1, locs1, f1) ⟨by (try dsimp only); omega, Or.inr ⟨Nat.le_add_left 1 j, rfl⟩, fK, m36, m35, lo_weak h9 ⟨rfl, rfl, rfl, rfl, rfl, trivial⟩, hM, hm⟩ (by show 153 - (j + 1) < 153 - j; omega)
                  · have hj2 : 2 ≤ j := by
                      have h3 : ¬ (nI j - 1).toInt ≤ (0 : Int32).toInt := fun z => hc170 (Int32.le_iff_toInt_le.mpr z)
                      rw [nm_toInt (by omega), show (0 : Int32).toInt = 0 from by decide] at h3
                      omega
                    refine lv_aload_n C.1 C.2.1 d_Mod_forbid_173 rfl (lo_at hl 0 rfl) ?_
                    refine md_get C hE hM hm 35 (Nat.le_of_ble_eq_true rfl) tw_817 rfl rfl d_Mod_forbid_174 ?_
                    refine lv_iload C.1 C.2.1 d_Mod_forbid_177 (lo_at hl 6 rfl) ?_
                    refine lv_iconst (v := 1) C.1 C.2.1 d_Mod_forbid_179 (by decide) ?_
                    refine lv_isub C.1 C.2.1 d_Mod_forbid_180 ?_
                    refine lv_iload_n C.1 C.2.1 d_Mod_forbid_181 rfl (lo_at hl 3 rfl) ?_
                    rw [nm_ge (by omega), show nI (j - 1) - 1 = nI (j - 2) from nm_ge (n := j - 1) (by omega)]
                    refine md_callS C hE hM hm (k_Mod_add l G o r _ _ _ 35 rfl (nI (j - 2)) (nI (cel park ce (nq j))) (vp_lj (N := 304) (by omega) hhr (by omega) (by decide))) tw_1006 cy_Mod_add ⟨(Nat.le_of_ble_eq_true rfl), (Nat.le_of_ble_eq_true rfl)⟩ rfl hl.1 rfl (Nat.le_of_ble_eq_true rfl) ⟨Nat.zero_le _, Nat.zero_le _⟩ d_Mod_forbid_182 (fun x9 f1 H1 locs1 v9 A9 B9 hp hM hm => ?_)
                    obtain ⟨hx9, hv9, hA9, hB9⟩ := hp
                    subst hx9
                    rw [hv9, hA9, hB9] at hm
                    refine W.eq (g2 := F0 m 185 ls _) rfl ?_
                    refine lo_iinc C hl d_Mod_forbid_185 rfl rfl (fun ls hl => ?_)
                    refine lv_goto (tgt := 17) C.1 C.2.1 d_Mod_forbid_188 (by decide) ?_
                    have m36 : fb36 (B 36) (va_up B168 35 (addL (B168 35) (nI (j - 2)) (nI (cel park ce (nq j)))) 36) (fun x => cel park ce (nq x)) (j + 1) := by rw [va_up_ne _ _ (by decide), f36]; exact n36
                    have m35 : fb35 (B 35) (va_up B168 35 (addL (B168 35) (nI (j - 2)) (nI (cel park ce (nq j)))) 35) (fun x => cel park ce (nq x)) (j + 1) := by rw [va_up_self, f35]; rw [s35b, if_pos hj2] at n35; exact n35
                    have h9 := hl
                    rw [nm_succ] at h9
                    exact ih17 (j + 1, nq j, va_up B168 35 (addL (B168 35) (nI (j - 2)) (nI (cel park ce (nq j)))), ls, H1, locs1, f1) ⟨by (try dsimp only); omega, Or.inr ⟨Nat.le_add_left 1 j, rfl⟩, (fun k h1 h2 => (va_up_ne _ _ h1).trans (fK k h1 h2)), m36, m35, lo_weak h9 ⟨rfl, rfl, rfl, rfl, rfl, trivial⟩, hM, hm⟩ (by show 153 - (j + 1) < 153 - j; omega)
              · refine lv_goto (tgt := 185) C.1 C.2.1 d_Mod_forbid_147 (by decide) ?_
                refine lo_iinc C hl d_Mod_forbid_185 rfl rfl (fun ls hl => ?_)
                refine lv_goto (tgt := 17) C.1 C.2.1 d_Mod_forbid_188 (by decide) ?_
                have hj0 : j = 0 := by
                  have h3 : ¬ (0 : Int32).toInt ≤ (nI j - 1).toInt := fun z => hc144 (Int32.le_iff_toInt_le.mpr z)
                  rw [nm_toInt (by omega), show (0 : Int32).toInt = 0 from by decide] at h3
                  omega
                have m36 := n36
                have m35 : fb35 (B 35) (B136 35) (fun x => cel park ce (nq x)) (j + 1) := by rw [e35]; exact fb35_keep h35 (Or.inl hj0)
                have h9 := hl
                rw [nm_succ] at h9
                exact ih17 (j + 1, nq j, B136, ls, H1, locs1, f1) ⟨by (try dsimp only); omega, Or.inr ⟨Nat.le_add_left 1 j, rfl⟩, eK, m36, m35, lo_weak h9 ⟨rfl, rfl, rfl, rfl, rfl, trivial⟩, hM, hm⟩ (by show 153 - (j + 1) < 153 - j; omega)
      · have hle : tm i + 1 ≤ cl + j := by
          have : ¬ cl + j ≤ tm i := fun z => hc58 ((cmpM (by have := (hV.2.2.2.2 i hi9).2.2.2.2; omega) (by omega)).mpr z)
          omega
        have hin : i < nq j := by
          have h3 := (hT j hj9).2.2.1
          by_cases q : i < nq j
          · exact q
          · have q2 : nq j = i := by omega
            rw [q2] at h3
            have := h3 hi9
            omega
        refine lv_aload_n C.1 C.2.1 d_Mod_forbid_61 rfl (lo_at hl 0 rfl) ?_
        refine md_get C hE hM hm 20 (Nat.le_of_ble_eq_true rfl) tw_802 rfl rfl d_Mod_forbid_62 ?_
        refine lv_aload_n C.1 C.2.1 d_Mod_forbid_65 rfl (lo_at hl 0 rfl) ?_
        refine lv_iload_n C.1 C.2.1 d_Mod_forbid_66 rfl (lo_at hl 1 rfl) ?_
        refine lv_iload_n C.1 C.2.1 d_Mod_forbid_67 rfl (lo_at hl 2 rfl) ?_
        refine md_callV C hE hM hm (k_Mod_placeOf l G o r _ _ _ _ _ (np := np) hnp h10) rfl tw_978 cy_Mod_placeOf ⟨(Nat.le_of_ble_eq_true rfl), (Nat.le_of_ble_eq_true rfl)⟩ rfl hl.1 rfl (Nat.le_of_ble_eq_true rfl) ⟨Nat.zero_le _, Nat.zero_le _⟩ d_Mod_forbid_68 (fun x9 f1 H1 locs1 v9 A9 B9 hp hM hm => ?_)
        obtain ⟨hx9, hv9, hA9, hB9⟩ := hp
        subst hx9
        rw [hv9, hA9, hB9] at hm
        refine W.eq (g2 := F0 m 71 ls (_ :: _)) rfl ?_
        refine md_iald C hE hM hm 20 rfl (hV.2.2.2.2 i hi9).1 d_Mod_forbid_71 ?_
        rw [(hV.2.2.2.2 i hi9).2.1]
        refine lo_istore_n C hl d_Mod_forbid_72 (Nat.le_of_ble_eq_true rfl) rfl (fun ls hl => ?_)
        refine lo_iinc C hl d_Mod_forbid_73 rfl rfl (fun ls hl => ?_)
        refine lv_goto (tgt := 35) C.1 C.2.1 d_Mod_forbid_76 (by decide) ?_
        have h9 := hl
        rw [nI_pl] at h9
        have hce : nI (ce i) = nI (cel park ce (i + 1)) := by rw [cel, if_neg (by omega)]; rfl
        rw [hce] at h9
        exact ih35 (i + 1, ls, H1, locs1, f1) ⟨hin, lo_weak h9 ⟨rfl, rfl, rfl, rfl, rfl, rfl, trivial⟩, hM, hm⟩ (by show nq j - (i + 1) < nq j - i; omega)
