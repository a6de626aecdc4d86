theorem W.joinH {p : Program} {l : Launch} {e : Env} {R : Room} {s : State} {m : MethodId} {args : Array Value} {below : List Frame} {meth : Method} {c : Code} {H : Heap} {locs : List Loc} {cells slots : Nat} {Q : State → Prop} {g : JFrame} {G : GG} {A0 : Nat → Prop} {H0 : Heap} {P : List Nat} {f0 f : Nat → va_E} {o : Nat} {r : Nat → Nat} {v : Nat → Int32} {A : Nat → Nat → Int32} {B : Nat → Nat → Int64} {α : Type} (_hM : pgS G A0 H0 P f H locs) (_hm : mdS G o r P f0 f v A B) {I : α → Prop} {gf : α → JFrame}
    (k : (∀ (z : α) (H1 : Heap) (locs1 : List Loc) (f1 : Nat → va_E), I z → pgS G A0 H0 P f1 H1 locs1 → mdS G o r P f0 f1 v A B → W p l e R s m args below meth c H1 locs1 cells slots Q (gf z)) → W p l e R s m args below meth c H locs cells slots Q g)
    (j : ∀ (z : α) (H1 : Heap) (locs1 : List Loc) (f1 : Nat → va_E), I z → pgS G A0 H0 P f1 H1 locs1 → mdS G o r P f0 f1 v A B → W p l e R s m args below meth c H1 locs1 cells slots Q (gf z)) : W p l e R s m args below meth c H locs cells slots Q g := k j
abbrev tsk1 (v : Nat → Int32) : Prop := v 1 = 0 ∨ v 9 = 24
abbrev tsk2 (v : Nat → Int32) (a b : Int32) : Prop := ¬ inb a 0 (v 3 - 1) ∨ ¬ inb b 0 (v 3 - 1)
abbrev tskT (v : Nat → Int32) (a b : Int32) : Int32 := thr (bz (tsk1 v)) (bz (tsk2 v a b))
/-- a task is taken in -/
def tskA (v : Nat → Int32) (A : Nat → Nat → Int32) (a b : Int32) : Nat → Nat → Int32 :=
  let A1 := va_up A 11 (upd (A 11) (ix (v 9)) (A 5 (ix a)))
  let A2 := va_up A1 12 (upd (A1 12) (ix (v 9)) (A1 5 (ix b)))
  let A3 := va_up A2 13 (upd (A2 13) (ix (v 9)) (-1))
  va_up A3 18 (upd (A3 18) (ix (v 9)) (-1))
abbrev movQ (v : Nat → Int32) (A : Nat → Nat → Int32) (u i w : Int32) : Prop := inb u 0 (v 4 - 1) ∧ inb i 0 (A 27 (ix u) - 1) ∧ inb w 0 1
def mov (v : Nat → Int32) (A : Nat → Nat → Int32) (u i w : Int32) : Int32 := if movQ v A u i w then (if w = 0 then A 20 (ix (plc v A u i)) else A 21 (ix (plc v A u i))) else -1
def mx (a b : Int32) : Int32 := if a ≤ b then b else a
/-- a letter comes to its vehicle -/
def dlvA (A : Nat → Nat → Int32) (k : Int32) : Nat → Nat → Int32 :=
  if A 32 (ix k) = 0 then va_up A 24 (upd (A 24) (ix (A 33 (ix k))) (mx (A 34 (ix k)) (A 24 (ix (A 33 (ix k))))))
  else va_up A 25 (upd (A 25) (ix (A 33 (ix k))) (mx (A 34 (ix k)) (A 25 (ix (A 33 (ix k))))))
theorem isLt_of {v : Nat → Int32} {nl : Nat} {k : Int32} (hn : nl ≤ 60) (h31 : v 31 = nI nl) (h : isLt v k) : ∃ j, j < nl ∧ k = nI j := by
  have h1 := lt_ix (Nat.le_refl nl) (by omega) h31 h
  exact vp_in_of h1 (by omega)
theorem thr_bz {p q : Prop} [Decidable p] [Decidable q] : thr (bz p) (bz q) = if p then 1 else if q then 2 else 0 := by
  unfold thr bz
  by_cases hp : p <;> by_cases hq : q <;> simp [hp, hq]
theorem thr0 {p q : Prop} [Decidable p] [Decidable q] (h : thr (bz p) (bz q) = 0) : ¬ p ∧ ¬ q := by
  rw [thr_bz] at h
  by_cases hp : p
  · rw [if_pos hp] at h; exact absurd h (by decide)
  · rw [if_neg hp] at h
    by_cases hq : q
    · rw [if_pos hq] at h; exact absurd h (by decide)
    · exact ⟨hp, hq⟩
set_option maxHeartbeats 4000000 in
set_option maxRecDepth 100000 in
theorem k_Mod_task (l : Launch) (G : GG) (o : Nat) (r : Nat → Nat) (v : Nat → Int32) (A : Nat → Nat → Int32) (B : Nat → Nat → Int64) (a0 b0 : Int32) {nt ns : Nat} (hn : nt ≤ 24) (h9 : v 9 = nI nt) (hns : ns ≤ 96) (h3 : v 3 = nI ns) : mct l G y_Mod_task c_Mod_task 3 (some .int) 1 22 [.ref o, .int a0, .int b0] o r v A B (fun x v1 A1 B1 => x = some (.int (if tskT v a0 b0 = 0 then v 9 else 0)) ∧ v1 = (if tskT v a0 b0 = 0 then upd (upd v 0 0) 9 (v 9 + 1) else upd v 0 (tskT v a0 b0)) ∧ A1 = (if tskT v a0 b0 = 0 then tskA v A a0 b0 else A) ∧ B1 = B) := by
  refine mct_intro (by decide) [some (.ref o), some (.int a0), some (.int b0)] rfl rfl (Nat.le_of_ble_eq_true rfl) ?_
  intro p e s m below meth c ls P f C hr hlk hE hM hm hl
  refine W.join (I := fun z1 => z1 = bz (tsk1 v)) (gf := fun z1 => F0 m 22 ls [.int z1, .ref o]) (fun K22 => ?_) (fun z1 hz22 => ?_)
  · refine lv_aload_n C.1 C.2.1 d_Mod_task_0 rfl (lo_at hl 0 rfl) ?_
    refine lv_aload_n C.1 C.2.1 d_Mod_task_1 rfl (lo_at hl 0 rfl) ?_
    refine md_get (x := .int (v 1)) C hE hM hm 1 (Nat.le_of_ble_eq_true rfl) tw_783 rfl rfl d_Mod_task_2 ?_
    refine lv_if_eq (tgt := 17) C.1 C.2.1 d_Mod_task_5 (by decide) (fun hc5 => ?_) (fun hc5 => ?_)
    · refine lv_iconst (v := 1) C.1 C.2.1 d_Mod_task_17 (by decide) ?_
      refine lv_goto (tgt := 22) C.1 C.2.1 d_Mod_task_18 (by decide) ?_
      exact K22 _ (by simp [bz, tsk1, hc5])
    · refine lv_aload_n C.1 C.2.1 d_Mod_task_8 rfl (lo_at hl 0 rfl) ?_
      refine md_get (x := .int (v 9)) C hE hM hm 9 (Nat.le_of_ble_eq_true rfl) tw_791 rfl rfl d_Mod_task_9 ?_
      refine lv_bipush (v := 24) C.1 C.2.1 d_Mod_task_12 (by decide) ?_
      refine lv_icmp_ne (tgt := 21) C.1 C.2.1 d_Mod_task_14 (by decide) (fun hc14 => ?_) (fun hc14 => ?_)
      · refine lv_iconst (v := 0) C.1 C.2.1 d_Mod_task_21 (by decide) ?_
        exact K22 _ (by simp [bz, tsk1, hc5, hc14])
      · refine lv_iconst (v := 1) C.1 C.2.1 d_Mod_task_17 (by decide) ?_
        refine lv_goto (tgt := 22) C.1 C.2.1 d_Mod_task_18 (by decide) ?_
        exact K22 _ (by simp [bz, tsk1, hc5, hc14])
  · refine W.joinH hM hm (I := fun z2 => z2 = bz (tsk2 v a0 b0)) (gf := fun z2 => F0 m 55 ls [.int z2, .int z1, .ref o]) (fun K55 => ?_) (fun z2 H1 locs1 f1 hz55 hM hm => ?_)
    · refine lv_iload_n C.1 C.2.1 d_Mod_task_22 rfl (lo_at hl 1 rfl) ?_
      refine lv_iconst (v := 0) C.1 C.2.1 d_Mod_task_23 (by decide) ?_
      refine lv_aload_n C.1 C.2.1 d_Mod_task_24 rfl (lo_at hl 0 rfl) ?_
      refine md_get (x := .int (v 3)) C hE hM hm 3 (Nat.le_of_ble_eq_true rfl) tw_785 rfl rfl d_Mod_task_25 ?_
      refine lv_iconst (v := 1) C.1 C.2.1 d_Mod_task_28 (by decide) ?_
      refine lv_isub C.1 C.2.1 d_Mod_task_29 ?_
      refine md_callS C hE hM hm (k_Mod_in l G o r _ _ _ _ _ _) tw_912 cy_Mod_in ⟨(Nat.le_of_ble_eq_true rfl), (Nat.le_of_ble_eq_true rfl)⟩ rfl hl.1 rfl (Nat.le_of_ble_eq_true rfl) ⟨Nat.zero_le _, Nat.zero_le _⟩ d_Mod_task_30 (fun x9 f1 H1 locs1 v9 A9 B9 hp hM hm => ?_)
      obtain ⟨hx9, hv9, hA9, hB9⟩ := hp
      subst hx9
      rw [hv9, hA9, hB9] at hm
      refine W.eq (g2 := F0 m 33 ls (_ :: _)) rfl ?_
      refine lv_if_eq (tgt := 50) C.1 C.2.1 d_Mod_task_33 (by decide) (fun hc33 => ?_) (fun hc33 => ?_)
      · replace hc33 := bz_0.mp hc33
        refine lv_iconst (v := 1) C.1 C.2.1 d_Mod_task_50 (by decide) ?_
        refine lv_goto (tgt := 55) C.1 C.2.1 d_Mod_task_51 (by decide) ?_
        exact K55 _ _ _ _ (by simp [bz, tsk2, hc33]) hM hm
      · replace hc33 := bz_1.mp hc33
        refine lv_iload_n C.1 C.2.1 d_Mod_task_36 rfl (lo_at hl 2 rfl) ?_
        refine lv_iconst (v := 0) C.1 C.2.1 d_Mod_task_37 (by decide) ?_
        refine lv_aload_n C.1 C.2.1 d_Mod_task_38 rfl (lo_at hl 0 rfl) ?_
        refine md_get (x := .int (v 3)) C hE hM hm 3 (Nat.le_of_ble_eq_true rfl) tw_785 rfl rfl d_Mod_task_39 ?_
        refine lv_iconst (v := 1) C.1 C.2.1 d_Mod_task_42 (by decide) ?_
        refine lv_isub C.1 C.2.1 d_Mod_task_43 ?_
        refine md_callS C hE hM hm (k_Mod_in l G o r _ _ _ _ _ _) tw_912 cy_Mod_in ⟨(Nat.le_of_ble_eq_true rfl), (Nat.le_of_ble_eq_true rfl)⟩ rfl hl.1 rfl (Nat.le_of_ble_eq_true rfl) ⟨Nat.zero_le _, Nat.zero_le _⟩ d_Mod_task_44 (fun x9 f1 H1 locs1 v9 A9 B9 hp hM hm => ?_)
        obtain ⟨hx9, hv9, hA9, hB9⟩ := hp
        subst hx9
        rw [hv9, hA9, hB9] at hm
        refine W.eq (g2 := F0 m 47 ls (_ :: _)) rfl ?_
        refine lv_if_ne (tgt := 54) C.1 C.2.1 d_Mod_task_47 (by decide) (fun hc47 => ?_) (fun hc47 => ?_)
        · replace hc47 := bz_1.mp hc47
          refine lv_iconst (v := 0) C.1 C.2.1 d_Mod_task_54 (by decide) ?_
          exact K55 _ _ _ _ (by simp [bz, tsk2, hc33, hc47]) hM hm
        · replace hc47 := bz_0.mp hc47
          refine lv_iconst (v := 1) C.1 C.2.1 d_Mod_task_50 (by decide) ?_
          refine lv_goto (tgt := 55) C.1 C.2.1 d_Mod_task_51 (by decide) ?_
          exact K55 _ _ _ _ (by simp [bz, tsk2, hc33, hc47]) hM hm
    · refine md_callV C hE hM hm (k_Mod_throwing l G o r _ _ _ _ _) rfl tw_930 cy_Mod_throwing ⟨(Nat.le_of_ble_eq_true rfl), (Nat.le_of_ble_eq_true rfl)⟩ rfl hl.1 rfl (Nat.le_of_ble_eq_true rfl) ⟨Nat.zero_le _, Nat.zero_le _⟩ d_Mod_task_55 (fun x9 f1 H1 locs1 v9 A9 B9 hp hM hm => ?_)
      obtain ⟨hx9, hv9, hA9, hB9⟩ := hp
      subst hx9
      rw [hv9, hA9, hB9] at hm
      subst hz22 hz55
      refine W.eq (g2 := F0 m 58 ls (_ :: _)) rfl ?_
      refine lv_if_eq (tgt := 63) C.1 C.2.1 d_Mod_task_58 (by decide) (fun hc58 => ?_) (fun hc58 => ?_)
      · replace hc58 := bz_0.mp hc58
        have hq : ¬ tsk1 v ∧ ¬ tsk2 v a0 b0 := thr0 (Decidable.not_not.mp hc58)
        have ha : vp_in a0 96 := lt_ix hns (by decide) h3 (Decidable.not_not.mp (fun z => hq.2 (Or.inl z)))
        have hb : vp_in b0 96 := lt_ix hns (by decide) h3 (Decidable.not_not.mp (fun z => hq.2 (Or.inr z)))
        have ht : vp_in (v 9) 24 := by
          have : nt ≠ 24 := fun e => hq.1 (Or.inr (by rw [h9, e]; decide))
          rw [h9]; exact vp_in_nI (by omega) (by decide)
        refine lv_aload_n C.1 C.2.1 d_Mod_task_63 rfl (lo_at hl 0 rfl) ?_
        refine md_get C hE hM hm 11 (Nat.le_of_ble_eq_true rfl) tw_793 rfl rfl d_Mod_task_64 ?_
        refine lv_aload_n C.1 C.2.1 d_Mod_task_67 rfl (lo_at hl 0 rfl) ?_
        refine md_get C hE hM hm 9 (Nat.le_of_ble_eq_true rfl) tw_791 rfl rfl d_Mod_task_68 ?_
        refine lv_aload_n C.1 C.2.1 d_Mod_task_71 rfl (lo_at hl 0 rfl) ?_
        refine md_get C hE hM hm 5 (Nat.le_of_ble_eq_true rfl) tw_787 rfl rfl d_Mod_task_72 ?_
        refine lv_iload_n C.1 C.2.1 d_Mod_task_75 rfl (lo_at hl 1 rfl) ?_
        refine md_iald C hE hM hm 5 rfl ha d_Mod_task_76 ?_
        refine md_iast C hE hM hm 11 rfl ht d_Mod_task_77 (fun f1 H1 locs1 hM hm => ?_)
        refine lv_aload_n C.1 C.2.1 d_Mod_task_78 rfl (lo_at hl 0 rfl) ?_
        refine md_get C hE hM hm 12 (Nat.le_of_ble_eq_true rfl) tw_794 rfl rfl d_Mod_task_79 ?_
        refine lv_aload_n C.1 C.2.1 d_Mod_task_82 rfl (lo_at hl 0 rfl) ?_
        refine md_get C hE hM hm 9 (Nat.le_of_ble_eq_true rfl) tw_791 rfl rfl d_Mod_task_83 ?_
        refine lv_aload_n C.1 C.2.1 d_Mod_task_86 rfl (lo_at hl 0 rfl) ?_
        refine md_get C hE hM hm 5 (Nat.le_of_ble_eq_true rfl) tw_787 rfl rfl d_Mod_task_87 ?_
        refine lv_iload_n C.1 C.2.1 d_Mod_task_90 rfl (lo_at hl 2 rfl) ?_
        refine md_iald C hE hM hm 5 rfl hb d_Mod_task_91 ?_
        refine md_iast C hE hM hm 12 rfl ht d_Mod_task_92 (fun f1 H1 locs1 hM hm => ?_)
        refine lv_aload_n C.1 C.2.1 d_Mod_task_93 rfl (lo_at hl 0 rfl) ?_
        refine md_get C hE hM hm 13 (Nat.le_of_ble_eq_true rfl) tw_795 rfl rfl d_Mod_task_94 ?_
        refine lv_aload_n C.1 C.2.1 d_Mod_task_97 rfl (lo_at hl 0 rfl) ?_
        refine md_get C hE hM hm 9 (Nat.le_of_ble_eq_true rfl) tw_791 rfl rfl d_Mod_task_98 ?_
        refine lv_iconst (v := (-1)) C.1 C.2.1 d_Mod_task_101 (by decide) ?_
        refine md_iast C hE hM hm 13 rfl ht d_Mod_task_102 (fun f1 H1 locs1 hM hm => ?_)
        refine lv_aload_n C.1 C.2.1 d_Mod_task_103 rfl (lo_at hl 0 rfl) ?_
        refine md_get C hE hM hm 18 (Nat.le_of_ble_eq_true rfl) tw_800 rfl rfl d_Mod_task_104 ?_
        refine lv_aload_n C.1 C.2.1 d_Mod_task_107 rfl (lo_at hl 0 rfl) ?_
        refine md_get C hE hM hm 9 (Nat.le_of_ble_eq_true rfl) tw_791 rfl rfl d_Mod_task_108 ?_
        refine lv_iconst (v := (-1)) C.1 C.2.1 d_Mod_task_111 (by decide) ?_
        refine md_iast C hE hM hm 18 rfl ht d_Mod_task_112 (fun f1 H1 locs1 hM hm => ?_)
        refine lv_aload_n C.1 C.2.1 d_Mod_task_113 rfl (lo_at hl 0 rfl) ?_
        refine lv_dup C.1 C.2.1 d_Mod_task_114 rfl ?_
        refine md_get C hE hM hm 9 (Nat.le_of_ble_eq_true rfl) tw_791 rfl rfl d_Mod_task_115 ?_
        refine lv_iconst (v := 1) C.1 C.2.1 d_Mod_task_118 (by decide) ?_
        refine lv_iadd C.1 C.2.1 d_Mod_task_119 ?_
        refine md_put C hE hM hm 9 (Nat.le_of_ble_eq_true rfl) tw_791 rfl rfl rfl rfl rfl d_Mod_task_120 (fun f1 H1 locs1 hM hm => ?_)
        refine lv_aload_n C.1 C.2.1 d_Mod_task_123 rfl (lo_at hl 0 rfl) ?_
        refine md_get C hE hM hm 9 (Nat.le_of_ble_eq_true rfl) tw_791 rfl rfl d_Mod_task_124 ?_
        refine lv_iconst (v := 1) C.1 C.2.1 d_Mod_task_127 (by decide) ?_
        refine lv_isub C.1 C.2.1 d_Mod_task_128 ?_
        refine md_iret C hr hlk hM hm d_Mod_task_129 ?_
        have hq0 : tskT v a0 b0 = 0 := Decidable.not_not.mp hc58
        refine ⟨?_, ?_, ?_, rfl⟩
        · rw [if_pos hq0]; simp [upd]
        · have hq1 : thr (bz (tsk1 v)) (bz (tsk2 v a0 b0)) = 0 := hq0
          rw [if_pos hq0, hq1]; rfl
        · rw [if_pos hq0]; rfl
      · replace hc58 := bz_1.mp hc58
        refine lv_iconst (v := 0) C.1 C.2.1 d_Mod_task_61 (by decide) ?_
        refine md_iret C hr hlk hM hm d_Mod_task_62 ?_
        have hq : ¬ tskT v a0 b0 = 0 := hc58
        refine ⟨?_, ?_, ?_, rfl⟩ <;> simp only [hq, if_false]
set_option maxHeartbeats 4000000 in
set_option maxRecDepth 100000 in
theorem k_Mod_move (l : Launch) (G : GG) (o : Nat) (r : Nat → Nat) (v : Nat → Int32) (A : Nat → Nat → Int32) (B : Nat → Nat → Int64) (u0 i0 w0 : Int32) {nv np : Nat} (hnv : nv ≤ 6) (h4 : v 4 = nI nv) (hnp : np ≤ 24) (h10 : v 10 = nI np) (hpl : movQ v A u0 i0 w0 → vp_in (plc v A u0 i0) 3600) : mct l G y_Mod_move c_Mod_move 5 (some .int) 1 23 [.ref o, .int u0, .int i0, .int w0] o r v A B (fun x v1 A1 B1 => x = some (.int (mov v A u0 i0 w0)) ∧ v1 = upd v 0 0 ∧ A1 = A ∧ B1 = B) := by
  refine mct_intro (by decide) [some (.ref o), some (.int u0), some (.int i0), some (.int w0), none] rfl rfl (Nat.le_of_ble_eq_true rfl) ?_
  intro p e s m below meth c ls P f C hr hlk hE hM hm hl
  refine lv_aload_n C.1 C.2.1 d_Mod_move_0 rfl (lo_at hl 0 rfl) ?_
  refine lv_iconst (v := 0) C.1 C.2.1 d_Mod_move_1 (by decide) ?_
  refine md_put C hE hM hm 0 (Nat.le_of_ble_eq_true rfl) tw_782 rfl rfl rfl rfl rfl d_Mod_move_2 (fun f1 H1 locs1 hM hm => ?_)
  refine lv_iload_n C.1 C.2.1 d_Mod_move_5 rfl (lo_at hl 1 rfl) ?_
  refine lv_iconst (v := 0) C.1 C.2.1 d_Mod_move_6 (by decide) ?_
  refine lv_aload_n C.1 C.2.1 d_Mod_move_7 rfl (lo_at hl 0 rfl) ?_
  refine md_get (x := .int (v 4)) C hE hM hm 4 (Nat.le_of_ble_eq_true rfl) tw_786 rfl rfl d_Mod_move_8 ?_
  refine lv_iconst (v := 1) C.1 C.2.1 d_Mod_move_11 (by decide) ?_
  refine lv_isub C.1 C.2.1 d_Mod_move_12 ?_
  refine md_callS C hE hM hm (k_Mod_in l G o r _ _ _ _ _ _) tw_912 cy_Mod_in ⟨(Nat.le_of_ble_eq_true rfl), (Nat.le_of_ble_eq_true rfl)⟩ rfl hl.1 rfl (Nat.le_of_ble_eq_true rfl) ⟨Nat.zero_le _, Nat.zero_le _⟩ d_Mod_move_13 (fun x9 f1 H1 locs1 v9 A9 B9 hp hM hm => ?_)
  obtain ⟨hx9, hv9, hA9, hB9⟩ := hp
  subst hx9
  rw [hv9, hA9, hB9] at hm
  refine W.eq (g2 := F0 m 16 ls (_ :: _)) rfl ?_
  refine lv_if_eq (tgt := 44) C.1 C.2.1 d_Mod_move_16 (by decide) (fun hc16 => ?_) (fun hc16 => ?_)
  · replace hc16 := bz_0.mp hc16
    refine lv_iconst (v := (-1)) C.1 C.2.1 d_Mod_move_44 (by decide) ?_
    refine md_iret C hr hlk hM hm d_Mod_move_45 ?_
    refine ⟨?_, rfl, rfl, rfl⟩
    rw [mov, if_neg (by rintro ⟨z1, z2, z3⟩; exact hc16 z1)]
  · replace hc16 := bz_1.mp hc16
    refine lv_iload_n C.1 C.2.1 d_Mod_move_19 rfl (lo_at hl 2 rfl) ?_
    refine lv_iconst (v := 0) C.1 C.2.1 d_Mod_move_20 (by decide) ?_
    refine lv_aload_n C.1 C.2.1 d_Mod_move_21 rfl (lo_at hl 0 rfl) ?_
    refine md_get C hE hM hm 27 (Nat.le_of_ble_eq_true rfl) tw_809 rfl rfl d_Mod_move_22 ?_
    refine lv_iload_n C.1 C.2.1 d_Mod_move_25 rfl (lo_at hl 1 rfl) ?_
    refine md_iald C hE hM hm 27 rfl (lt_ix hnv (by decide) h4 hc16) d_Mod_move_26 ?_
    refine lv_iconst (v := 1) C.1 C.2.1 d_Mod_move_27 (by decide) ?_
    refine lv_isub C.1 C.2.1 d_Mod_move_28 ?_
    refine md_callS C hE hM hm (k_Mod_in l G o r _ _ _ _ _ _) tw_912 cy_Mod_in ⟨(Nat.le_of_ble_eq_true rfl), (Nat.le_of_ble_eq_true rfl)⟩ rfl hl.1 rfl (Nat.le_of_ble_eq_true rfl) ⟨Nat.zero_le _, Nat.zero_le _⟩ d_Mod_move_29 (fun x9 f1 H1 locs1 v9 A9 B9 hp hM hm => ?_)
    obtain ⟨hx9, hv9, hA9, hB9⟩ := hp
    subst hx9
    rw [hv9, hA9, hB9] at hm
    refine W.eq (g2 := F0 m 32 ls (_ :: _)) rfl ?_
    refine lv_if_eq (tgt := 44) C.1 C.2.1 d_Mod_move_32 (by decide) (fun hc32 => ?_) (fun hc32 => ?_)
    · replace hc32 := bz_0.mp hc32
      refine lv_iconst (v := (-1)) C.1 C.2.1 d_Mod_move_44 (by decide) ?_
      refine md_iret C hr hlk hM hm d_Mod_move_45 ?_
      refine ⟨?_, rfl, rfl, rfl⟩
      rw [mov, if_neg (by rintro ⟨z1, z2, z3⟩; exact hc32 z2)]
    · replace hc32 := bz_1.mp hc32
      refine lv_iload_n C.1 C.2.1 d_Mod_move_35 rfl (lo_at hl 3 rfl) ?_
      refine lv_iconst (v := 0) C.1 C.2.1 d_Mod_move_36 (by decide) ?_
      refine lv_iconst (v := 1) C.1 C.2.1 d_Mod_move_37 (by decide) ?_
      refine md_callS C hE hM hm (k_Mod_in l G o r _ _ _ _ _ _) tw_912 cy_Mod_in ⟨(Nat.le_of_ble_eq_true rfl), (Nat.le_of_ble_eq_true rfl)⟩ rfl hl.1 rfl (Nat.le_of_ble_eq_true rfl) ⟨Nat.zero_le _, Nat.zero_le _⟩ d_Mod_move_38 (fun x9 f1 H1 locs1 v9 A9 B9 hp hM hm => ?_)
      obtain ⟨hx9, hv9, hA9, hB9⟩ := hp
      subst hx9
      rw [hv9, hA9, hB9] at hm
      refine W.eq (g2 := F0 m 41 ls (_ :: _)) rfl ?_
      refine lv_if_ne (tgt := 46) C.1 C.2.1 d_Mod_move_41 (by decide) (fun hc41 => ?_) (fun hc41 => ?_)
      · replace hc41 := bz_1.mp hc41
        refine lv_aload_n C.1 C.2.1 d_Mod_move_46 rfl (lo_at hl 0 rfl) ?_
        refine lv_iload_n C.1 C.2.1 d_Mod_move_47 rfl (lo_at hl 1 rfl) ?_
        refine lv_iload_n C.1 C.2.1 d_Mod_move_48 rfl (lo_at hl 2 rfl) ?_
        refine md_callV C hE hM hm (k_Mod_placeOf l G o r _ _ _ _ _ (np := np) hnp h10) rfl tw_978 cy_Mod_placeOf ⟨(Nat.le_of_ble_eq_true rfl), (Nat.le_of_ble_eq_true rfl)⟩ rfl hl.1 rfl (Nat.le_of_ble_eq_true rfl) ⟨Nat.zero_le _, Nat.zero_le _⟩ d_Mod_move_49 (fun x9 f1 H1 locs1 v9 A9 B9 hp hM hm => ?_)
        obtain ⟨hx9, hv9, hA9, hB9⟩ := hp
        subst hx9
        rw [hv9, hA9, hB9] at hm
        refine W.eq (g2 := F0 m 52 ls (_ :: _)) rfl ?_
        refine lo_istore C hl d_Mod_move_52 (Nat.le_of_ble_eq_true rfl) rfl (fun ls hl => ?_)
        refine lv_iload_n C.1 C.2.1 d_Mod_move_54 rfl (lo_at hl 3 rfl) ?_
        refine lv_if_ne (tgt := 68) C.1 C.2.1 d_Mod_move_55 (by decide) (fun hc55 => ?_) (fun hc55 => ?_)
        · refine lv_aload_n C.1 C.2.1 d_Mod_move_68 rfl (lo_at hl 0 rfl) ?_
          refine md_get C hE hM hm 21 (Nat.le_of_ble_eq_true rfl) tw_803 rfl rfl d_Mod_move_69 ?_
          refine lv_iload C.1 C.2.1 d_Mod_move_72 (lo_at hl 4 rfl) ?_
          refine md_iald C hE hM hm 21 rfl (hpl ⟨hc16, hc32, hc41⟩) d_Mod_move_74 ?_
          refine md_iret C hr hlk hM hm d_Mod_move_75 ?_
          refine ⟨?_, rfl, rfl, rfl⟩
          rw [mov, if_pos ⟨hc16, hc32, hc41⟩, if_neg hc55]; rfl
        · refine lv_aload_n C.1 C.2.1 d_Mod_move_58 rfl (lo_at hl 0 rfl) ?_
          refine md_get C hE hM hm 20 (Nat.le_of_ble_eq_true rfl) tw_802 rfl rfl d_Mod_move_59 ?_
          refine lv_iload C.1 C.2.1 d_Mod_move_62 (lo_at hl 4 rfl) ?_
          refine md_iald C hE hM hm 20 rfl (hpl ⟨hc16, hc32, hc41⟩) d_Mod_move_64 ?_
          refine lv_goto (tgt := 75) C.1 C.2.1 d_Mod_move_65 (by decide) ?_
          refine md_iret C hr hlk hM hm d_Mod_move_75 ?_
          refine ⟨?_, rfl, rfl, rfl⟩
          rw [mov, if_pos ⟨hc16, hc32, hc41⟩, if_pos hc55]; rfl
      · replace hc41 := bz_0.mp hc41
        refine lv_iconst (v := (-1)) C.1 C.2.1 d_Mod_move_44 (by decide) ?_
        refine md_iret C hr hlk hM hm d_Mod_move_45 ?_
        refine ⟨?_, rfl, rfl, rfl⟩
        rw [mov, if_neg (by rintro ⟨z1, z2, z3⟩; exact hc41 z3)]
set_option maxHeartbeats 4000000 in
set_option maxRecDepth 100000 in
theorem k_Mod_lose (l : Launch) (G : GG) (o : Nat) (r : Nat → Nat) (v : Nat → Int32) (A : Nat → Nat → Int32) (B : Nat → Nat → Int64) (k0 : Int32) {nl : Nat} (hn : nl ≤ 60) (h31 : v 31 = nI nl) : mct l G y_Mod_lose c_Mod_lose 2 (some .boolean) 2 43 [.ref o, .int k0] o r v A B (fun x v1 A1 B1 => x = some (.int (bz (isLt v k0))) ∧ v1 = (if isLt v k0 then upd (upd v 0 0) 31 (nI (nl - 1)) else upd v 0 0) ∧ A1 = (if isLt v k0 then rmL (nl - 1 - ix k0) (ix k0) A else A) ∧ B1 = B) := by
  refine mct_intro (by decide) [some (.ref o), some (.int k0)] rfl rfl (Nat.le_of_ble_eq_true rfl) ?_
  intro p e s m below meth c ls P f C hr hlk hE hM hm hl
  refine lv_aload_n C.1 C.2.1 d_Mod_lose_0 rfl (lo_at hl 0 rfl) ?_
  refine lv_iconst (v := 0) C.1 C.2.1 d_Mod_lose_1 (by decide) ?_
  refine md_put C hE hM hm 0 (Nat.le_of_ble_eq_true rfl) tw_782 rfl rfl rfl rfl rfl d_Mod_lose_2 (fun f1 H1 locs1 hM hm => ?_)
  refine lv_aload_n C.1 C.2.1 d_Mod_lose_5 rfl (lo_at hl 0 rfl) ?_
  refine lv_iload_n C.1 C.2.1 d_Mod_lose_6 rfl (lo_at hl 1 rfl) ?_
  refine md_callV C hE hM hm (k_Mod_isLetter l G o r _ _ _ _) rfl tw_946 cy_Mod_isLetter ⟨(Nat.le_of_ble_eq_true rfl), (Nat.le_of_ble_eq_true rfl)⟩ rfl hl.1 rfl (Nat.le_of_ble_eq_true rfl) ⟨Nat.zero_le _, Nat.zero_le _⟩ d_Mod_lose_7 (fun x9 f1 H1 locs1 v9 A9 B9 hp hM hm => ?_)
  obtain ⟨hx9, hv9, hA9, hB9⟩ := hp
  subst hx9
  rw [hv9, hA9, hB9] at hm
  refine W.eq (g2 := F0 m 10 ls (_ :: _)) rfl ?_
  refine lv_if_ne (tgt := 15) C.1 C.2.1 d_Mod_lose_10 (by decide) (fun hc10 => ?_) (fun hc10 => ?_)
  · replace hc10 := bz_1.mp hc10
    obtain ⟨j, hj, rfl⟩ := isLt_of hn h31 hc10
    refine lv_aload_n C.1 C.2.1 d_Mod_lose_15 rfl (lo_at hl 0 rfl) ?_
    refine lv_iload_n C.1 C.2.1 d_Mod_lose_16 rfl (lo_at hl 1 rfl) ?_
    refine md_callV C hE hM hm (k_Mod_remove l G o r _ _ _ j (nl := nl - 1) (by omega) (by show v 31 = _; rw [h31]; congr 1; omega) (by omega)) rfl tw_954 cy_Mod_remove ⟨(Nat.le_of_ble_eq_true rfl), (Nat.le_of_ble_eq_true rfl)⟩ rfl hl.1 rfl (Nat.le_of_ble_eq_true rfl) ⟨Nat.zero_le _, Nat.zero_le _⟩ d_Mod_lose_17 (fun x9 f1 H1 locs1 v9 A9 B9 hp hM hm => ?_)
    obtain ⟨hx9, hv9, hA9, hB9⟩ := hp
    subst hx9
    rw [hv9, hA9, hB9] at hm
    refine W.eq (g2 := F0 m 20 ls _) rfl ?_
    refine lv_iconst (v := 1) C.1 C.2.1 d_Mod_lose_20 (by decide) ?_
    refine md_zret C hr hlk hM hm d_Mod_lose_21 (by decide) ?_
    have hc10 : isLt v (nI j) := hc10
    refine ⟨?_, ?_, ?_, rfl⟩
    · simp [bz, hc10]
    · rw [if_pos hc10]
    · rw [if_pos hc10, show ix (nI j) = j from ix_nI (by omega)]
  · replace hc10 := bz_0.mp hc10
    refine lv_iconst (v := 0) C.1 C.2.1 d_Mod_lose_13 (by decide) ?_
    refine md_zret C hr hlk hM hm d_Mod_lose_14 (by decide) ?_
    have hc10 : ¬ isLt v k0 := hc10
    refine ⟨?_, ?_, ?_, rfl⟩ <;> simp [bz, hc10]
set_option maxHeartbeats 4000000 in
set_option maxRecDepth 100000 in
theorem k_Mod_twin (l : Launch) (G : GG) (o : Nat) (r : Nat → Nat) (v : Nat → Int32) (A : Nat → Nat → Int32) (B : Nat → Nat → Int64) (k0 : Int32) {nl : Nat} (hn : nl ≤ 60) (h31 : v 31 = nI nl) : mct l G y_Mod_twin c_Mod_twin 2 (some .boolean) 2 43 [.ref o, .int k0] o r v A B (fun x v1 A1 B1 => x = some (.int (bz (isLt v k0 ∧ ¬ v 31 = 60))) ∧ v1 = (if isLt v k0 ∧ ¬ v 31 = 60 then sndV (upd v 0 0) else upd v 0 0) ∧ A1 = (if isLt v k0 ∧ ¬ v 31 = 60 then sndA v A (A 32 (ix k0)) (A 33 (ix k0)) (A 34 (ix k0)) else A) ∧ B1 = B) := by
  refine mct_intro (by decide) [some (.ref o), some (.int k0)] rfl rfl (Nat.le_of_ble_eq_true rfl) ?_
  intro p e s m below meth c ls P f C hr hlk hE hM hm hl
  refine lv_aload_n C.1 C.2.1 d_Mod_twin_0 rfl (lo_at hl 0 rfl) ?_
  refine lv_iconst (v := 0) C.1 C.2.1 d_Mod_twin_1 (by decide) ?_
  refine md_put C hE hM hm 0 (Nat.le_of_ble_eq_true rfl) tw_782 rfl rfl rfl rfl rfl d_Mod_twin_2 (fun f1 H1 locs1 hM hm => ?_)
  refine lv_aload_n C.1 C.2.1 d_Mod_twin_5 rfl (lo_at hl 0 rfl) ?_
  refine lv_iload_n C.1 C.2.1 d_Mod_twin_6 rfl (lo_at hl 1 rfl) ?_
  refine md_callV C hE hM hm (k_Mod_isLetter l G o r _ _ _ _) rfl tw_946 cy_Mod_isLetter ⟨(Nat.le_of_ble_eq_true rfl), (Nat.le_of_ble_eq_true rfl)⟩ rfl hl.1 rfl (Nat.le_of_ble_eq_true rfl) ⟨Nat.zero_le _, Nat.zero_le _⟩ d_Mod_twin_7 (fun x9 f1 H1 locs1 v9 A9 B9 hp hM hm => ?_)
  obtain ⟨hx9, hv9, hA9, hB9⟩ := hp
  subst hx9
  rw [hv9, hA9, hB9] at hm
  refine W.eq (g2 := F0 m 10 ls (_ :: _)) rfl ?_
  refine lv_if_eq (tgt := 22) C.1 C.2.1 d_Mod_twin_10 (by decide) (fun hc10 => ?_) (fun hc10 => ?_)
  · replace hc10 := bz_0.mp hc10
    refine lv_iconst (v := 0) C.1 C.2.1 d_Mod_twin_22 (by decide) ?_
    refine md_zret C hr hlk hM hm d_Mod_twin_23 (by decide) ?_
    have hc10 : ¬ isLt v k0 := hc10
    refine ⟨?_, ?_, ?_, rfl⟩ <;> simp [bz, hc10]
  · replace hc10 := bz_1.mp hc10
    refine lv_aload_n C.1 C.2.1 d_Mod_twin_13 rfl (lo_at hl 0 rfl) ?_
    refine md_get (x := .int (v 31)) C hE hM hm 31 (Nat.le_of_ble_eq_true rfl) tw_813 rfl rfl d_Mod_twin_14 ?_
    refine lv_bipush (v := 60) C.1 C.2.1 d_Mod_twin_17 (by decide) ?_
    refine lv_icmp_ne (tgt := 24) C.1 C.2.1 d_Mod_twin_19 (by decide) (fun hc19 => ?_) (fun hc19 => ?_)
    · refine lv_aload_n C.1 C.2.1 d_Mod_twin_24 rfl (lo_at hl 0 rfl) ?_
      refine lv_aload_n C.1 C.2.1 d_Mod_twin_25 rfl (lo_at hl 0 rfl) ?_
      refine md_get C hE hM hm 32 (Nat.le_of_ble_eq_true rfl) tw_814 rfl rfl d_Mod_twin_26 ?_
      refine lv_iload_n C.1 C.2.1 d_Mod_twin_29 rfl (lo_at hl 1 rfl) ?_
      refine md_iald C hE hM hm 32 rfl (lt_ix hn (by decide) h31 hc10) d_Mod_twin_30 ?_
      refine lv_aload_n C.1 C.2.1 d_Mod_twin_31 rfl (lo_at hl 0 rfl) ?_
      refine md_get C hE hM hm 33 (Nat.le_of_ble_eq_true rfl) tw_815 rfl rfl d_Mod_twin_32 ?_
      refine lv_iload_n C.1 C.2.1 d_Mod_twin_35 rfl (lo_at hl 1 rfl) ?_
      refine md_iald C hE hM hm 33 rfl (lt_ix hn (by decide) h31 hc10) d_Mod_twin_36 ?_
      refine lv_aload_n C.1 C.2.1 d_Mod_twin_37 rfl (lo_at hl 0 rfl) ?_
      refine md_get C hE hM hm 34 (Nat.le_of_ble_eq_true rfl) tw_816 rfl rfl d_Mod_twin_38 ?_
      refine lv_iload_n C.1 C.2.1 d_Mod_twin_41 rfl (lo_at hl 1 rfl) ?_
      refine md_iald C hE hM hm 34 rfl (lt_ix hn (by decide) h31 hc10) d_Mod_twin_42 ?_
      refine md_callV C hE hM hm (k_Mod_send l G o r _ _ _ _ _ _ (nl := nl) hn h31) rfl tw_966 cy_Mod_send ⟨(Nat.le_of_ble_eq_true rfl), (Nat.le_of_ble_eq_true rfl)⟩ rfl hl.1 rfl (Nat.le_of_ble_eq_true rfl) ⟨Nat.zero_le _, Nat.zero_le _⟩ d_Mod_twin_43 (fun x9 f1 H1 locs1 v9 A9 B9 hp hM hm => ?_)
      obtain ⟨hx9, hv9, hA9, hB9⟩ := hp
      subst hx9
      rw [hv9, hA9, hB9] at hm
      refine W.eq (g2 := F0 m 46 ls _) rfl ?_
      refine lv_iconst (v := 1) C.1 C.2.1 d_Mod_twin_46 (by decide) ?_
      refine md_zret C hr hlk hM hm d_Mod_twin_47 (by decide) ?_
      have hc10 : isLt v k0 := hc10
      refine ⟨?_, ?_, ?_, rfl⟩
      · simp [bz, hc10, hc19]
      · rw [if_pos ⟨hc10, hc19⟩]
      · rw [if_pos ⟨hc10, hc19⟩]; rfl
    · refine lv_iconst (v := 0) C.1 C.2.1 d_Mod_twin_22 (by decide) ?_
      refine md_zret C hr hlk hM hm d_Mod_twin_23 (by decide) ?_
      have hc10 : isLt v k0 := hc10
      refine ⟨?_, ?_, ?_, rfl⟩ <;> simp [bz, hc10, hc19]
set_option maxHeartbeats 4000000 in
set_option maxRecDepth 100000 in
theorem k_Mod_deliver (l : Launch) (G : GG) (o : Nat) (r : Nat → Nat) (v : Nat → Int32) (A : Nat → Nat → Int32) (B : Nat → Nat → Int64) (k0 : Int32) {nl : Nat} (hn : nl ≤ 60) (h31 : v 31 = nI nl) (hu : ∀ j, j < nl → vp_in (A 33 j) 6) : mct l G y_Mod_deliver c_Mod_deliver 4 (some .boolean) 2 43 [.ref o, .int k0] o r v A B (fun x v1 A1 B1 => x = some (.int (bz (isLt v k0))) ∧ v1 = (if isLt v k0 then upd (upd v 0 0) 31 (nI (nl - 1)) else upd v 0 0) ∧ A1 = (if isLt v k0 then rmL (nl - 1 - ix k0) (ix k0) (dlvA A k0) else A) ∧ B1 = B) := by
  refine mct_intro (by decide) [some (.ref o), some (.int k0), none, none] rfl rfl (Nat.le_of_ble_eq_true rfl) ?_
  intro p e s m below meth c ls P f C hr hlk hE hM hm hl
  refine lv_aload_n C.1 C.2.1 d_Mod_deliver_0 rfl (lo_at hl 0 rfl) ?_
  refine lv_iconst (v := 0) C.1 C.2.1 d_Mod_deliver_1 (by decide) ?_
  refine md_put C hE hM hm 0 (Nat.le_of_ble_eq_true rfl) tw_782 rfl rfl rfl rfl rfl d_Mod_deliver_2 (fun f1 H1 locs1 hM hm => ?_)
  refine lv_aload_n C.1 C.2.1 d_Mod_deliver_5 rfl (lo_at hl 0 rfl) ?_
  refine lv_iload_n C.1 C.2.1 d_Mod_deliver_6 rfl (lo_at hl 1 rfl) ?_
  refine md_callV C hE hM hm (k_Mod_isLetter l G o r _ _ _ _) rfl tw_946 cy_Mod_isLetter ⟨(Nat.le_of_ble_eq_true rfl), (Nat.le_of_ble_eq_true rfl)⟩ rfl hl.1 rfl (Nat.le_of_ble_eq_true rfl) ⟨Nat.zero_le _, Nat.zero_le _⟩ d_Mod_deliver_7 (fun x9 f1 H1 locs1 v9 A9 B9 hp hM hm => ?_)
  obtain ⟨hx9, hv9, hA9, hB9⟩ := hp
  subst hx9
  rw [hv9, hA9, hB9] at hm
  refine W.eq (g2 := F0 m 10 ls (_ :: _)) rfl ?_
  refine lv_if_ne (tgt := 15) C.1 C.2.1 d_Mod_deliver_10 (by decide) (fun hc10 => ?_) (fun hc10 => ?_)
  · replace hc10 := bz_1.mp hc10
    have hc10 : isLt v k0 := hc10
    have hk6 : vp_in k0 60 := lt_ix hn (by decide) h31 hc10
    have hu6 : vp_in (A 33 (ix k0)) 6 := hu (ix k0) (by obtain ⟨j, hj, e⟩ := isLt_of hn h31 hc10; subst e; rw [show ix (nI j) = j from ix_nI (by omega)]; exact hj)
    refine lv_aload_n C.1 C.2.1 d_Mod_deliver_15 rfl (lo_at hl 0 rfl) ?_
    refine md_get C hE hM hm 33 (Nat.le_of_ble_eq_true rfl) tw_815 rfl rfl d_Mod_deliver_16 ?_
    refine lv_iload_n C.1 C.2.1 d_Mod_deliver_19 rfl (lo_at hl 1 rfl) ?_
    refine md_iald C hE hM hm 33 rfl hk6 d_Mod_deliver_20 ?_
    refine lo_istore_n C hl d_Mod_deliver_21 (Nat.le_of_ble_eq_true rfl) rfl (fun ls hl => ?_)
    refine lv_aload_n C.1 C.2.1 d_Mod_deliver_22 rfl (lo_at hl 0 rfl) ?_
    refine md_get C hE hM hm 34 (Nat.le_of_ble_eq_true rfl) tw_816 rfl rfl d_Mod_deliver_23 ?_
    refine lv_iload_n C.1 C.2.1 d_Mod_deliver_26 rfl (lo_at hl 1 rfl) ?_
    refine md_iald C hE hM hm 34 rfl hk6 d_Mod_deliver_27 ?_
    refine lo_istore_n C hl d_Mod_deliver_28 (Nat.le_of_ble_eq_true rfl) rfl (fun ls hl => ?_)
    refine lv_aload_n C.1 C.2.1 d_Mod_deliver_29 rfl (lo_at hl 0 rfl) ?_
    refine md_get C hE hM hm 32 (Nat.le_of_ble_eq_true rfl) tw_814 rfl rfl d_Mod_deliver_30 ?_
    refine lv_iload_n C.1 C.2.1 d_Mod_deliver_33 rfl (lo_at hl 1 rfl) ?_
    refine md_iald C hE hM hm 32 rfl hk6 d_Mod_deliver_34 ?_
    refine lv_if_ne (tgt := 67) C.1 C.2.1 d_Mod_deliver_35 (by decide) (fun hc35 => ?_) (fun hc35 => ?_)
    · refine lv_aload_n C.1 C.2.1 d_Mod_deliver_67 rfl (lo_at hl 0 rfl) ?_
      refine md_get C hE hM hm 25 (Nat.le_of_ble_eq_true rfl) tw_807 rfl rfl d_Mod_deliver_68 ?_
      refine lv_iload_n C.1 C.2.1 d_Mod_deliver_71 rfl (lo_at hl 2 rfl) ?_
      refine lv_iload_n C.1 C.2.1 d_Mod_deliver_72 rfl (lo_at hl 3 rfl) ?_
      refine W.join (I := fun z => z = mx (A 34 (ix k0)) (A 25 (ix (A 33 (ix k0))))) (gf := fun z => F0 m 92 ls [.int z, .int (A 33 (ix k0)), .ref (r 25)]) (fun K92 => ?_) (fun z hz92 => ?_)
      · refine lv_aload_n C.1 C.2.1 d_Mod_deliver_73 rfl (lo_at hl 0 rfl) ?_
        refine md_get C hE hM hm 25 (Nat.le_of_ble_eq_true rfl) tw_807 rfl rfl d_Mod_deliver_74 ?_
        refine lv_iload_n C.1 C.2.1 d_Mod_deliver_77 rfl (lo_at hl 2 rfl) ?_
        refine md_iald C hE hM hm 25 rfl hu6 d_Mod_deliver_78 ?_
        refine lv_icmp_le (tgt := 86) C.1 C.2.1 d_Mod_deliver_79 (by decide) (fun hc79 => ?_) (fun hc79 => ?_)
        · refine lv_aload_n C.1 C.2.1 d_Mod_deliver_86 rfl (lo_at hl 0 rfl) ?_
          refine md_get C hE hM hm 25 (Nat.le_of_ble_eq_true rfl) tw_807 rfl rfl d_Mod_deliver_87 ?_
          refine lv_iload_n C.1 C.2.1 d_Mod_deliver_90 rfl (lo_at hl 2 rfl) ?_
          refine md_iald C hE hM hm 25 rfl hu6 d_Mod_deliver_91 ?_
          exact K92 _ (by simp [mx, hc79])
        · refine lv_iload_n C.1 C.2.1 d_Mod_deliver_82 rfl (lo_at hl 3 rfl) ?_
          refine lv_goto (tgt := 92) C.1 C.2.1 d_Mod_deliver_83 (by decide) ?_
          exact K92 _ (by simp [mx, hc79])
      · refine md_iast C hE hM hm 25 rfl hu6 d_Mod_deliver_92 (fun f1 H1 locs1 hM hm => ?_)
        obtain ⟨j, hj, rfl⟩ := isLt_of hn h31 hc10
        refine lv_aload_n C.1 C.2.1 d_Mod_deliver_93 rfl (lo_at hl 0 rfl) ?_
        refine lv_iload_n C.1 C.2.1 d_Mod_deliver_94 rfl (lo_at hl 1 rfl) ?_
        refine md_callV C hE hM hm (k_Mod_remove l G o r _ _ _ j (nl := nl - 1) (by omega) (by show v 31 = _; rw [h31]; congr 1; omega) (by omega)) rfl tw_954 cy_Mod_remove ⟨(Nat.le_of_ble_eq_true rfl), (Nat.le_of_ble_eq_true rfl)⟩ rfl hl.1 rfl (Nat.le_of_ble_eq_true rfl) ⟨Nat.zero_le _, Nat.zero_le _⟩ d_Mod_deliver_95 (fun x9 f1 H1 locs1 v9 A9 B9 hp hM hm => ?_)
        obtain ⟨hx9, hv9, hA9, hB9⟩ := hp
        subst hx9
        rw [hv9, hA9, hB9] at hm
        refine W.eq (g2 := F0 m 98 ls _) rfl ?_
        refine lv_iconst (v := 1) C.1 C.2.1 d_Mod_deliver_98 (by decide) ?_
        refine md_zret C hr hlk hM hm d_Mod_deliver_99 (by decide) ?_
        refine ⟨?_, ?_, ?_, rfl⟩
        · simp [bz, hc10]
        · rw [if_pos hc10]
        · rw [if_pos hc10, dlvA, if_neg (by simpa using hc35), ← hz92, show ix (nI j) = j from ix_nI (by omega)]
    · refine lv_aload_n C.1 C.2.1 d_Mod_deliver_38 rfl (lo_at hl 0 rfl) ?_
      refine md_get C hE hM hm 24 (Nat.le_of_ble_eq_true rfl) tw_806 rfl rfl d_Mod_deliver_39 ?_
      refine lv_iload_n C.1 C.2.1 d_Mod_deliver_42 rfl (lo_at hl 2 rfl) ?_
      refine lv_iload_n C.1 C.2.1 d_Mod_deliver_43 rfl (lo_at hl 3 rfl) ?_
      refine W.join (I := fun z => z = mx (A 34 (ix k0)) (A 24 (ix (A 33 (ix k0))))) (gf := fun z => F0 m 63 ls [.int z, .int (A 33 (ix k0)), .ref (r 24)]) (fun K63 => ?_) (fun z hz63 => ?_)
      · refine lv_aload_n C.1 C.2.1 d_Mod_deliver_44 rfl (lo_at hl 0 rfl) ?_
        refine md_get C hE hM hm 24 (Nat.le_of_ble_eq_true rfl) tw_806 rfl rfl d_Mod_deliver_45 ?_
        refine lv_iload_n C.1 C.2.1 d_Mod_deliver_48 rfl (lo_at hl 2 rfl) ?_
        refine md_iald C hE hM hm 24 rfl hu6 d_Mod_deliver_49 ?_
        refine lv_icmp_le (tgt := 57) C.1 C.2.1 d_Mod_deliver_50 (by decide) (fun hc50 => ?_) (fun hc50 => ?_)
        · refine lv_aload_n C.1 C.2.1 d_Mod_deliver_57 rfl (lo_at hl 0 rfl) ?_
          refine md_get C hE hM hm 24 (Nat.le_of_ble_eq_true rfl) tw_806 rfl rfl d_Mod_deliver_58 ?_
          refine lv_iload_n C.1 C.2.1 d_Mod_deliver_61 rfl (lo_at hl 2 rfl) ?_
          refine md_iald C hE hM hm 24 rfl hu6 d_Mod_deliver_62 ?_
          exact K63 _ (by simp [mx, hc50])
        · refine lv_iload_n C.1 C.2.1 d_Mod_deliver_53 rfl (lo_at hl 3 rfl) ?_
          refine lv_goto (tgt := 63) C.1 C.2.1 d_Mod_deliver_54 (by decide) ?_
          exact K63 _ (by simp [mx, hc50])
      · refine md_iast C hE hM hm 24 rfl hu6 d_Mod_deliver_63 (fun f1 H1 locs1 hM hm => ?_)
        refine lv_goto (tgt := 93) C.1 C.2.1 d_Mod_deliver_64 (by decide) ?_
        obtain ⟨j, hj, rfl⟩ := isLt_of hn h31 hc10
        refine lv_aload_n C.1 C.2.1 d_Mod_deliver_93 rfl (lo_at hl 0 rfl) ?_
        refine lv_iload_n C.1 C.2.1 d_Mod_deliver_94 rfl (lo_at hl 1 rfl) ?_
        refine md_callV C hE hM hm (k_Mod_remove l G o r _ _ _ j (nl := nl - 1) (by omega) (by show v 31 = _; rw [h31]; congr 1; omega) (by omega)) rfl tw_954 cy_Mod_remove ⟨(Nat.le_of_ble_eq_true rfl), (Nat.le_of_ble_eq_true rfl)⟩ rfl hl.1 rfl (Nat.le_of_ble_eq_true rfl) ⟨Nat.zero_le _, Nat.zero_le _⟩ d_Mod_deliver_95 (fun x9 f1 H1 locs1 v9 A9 B9 hp hM hm => ?_)
        obtain ⟨hx9, hv9, hA9, hB9⟩ := hp
        subst hx9
        rw [hv9, hA9, hB9] at hm
        refine W.eq (g2 := F0 m 98 ls _) rfl ?_
        refine lv_iconst (v := 1) C.1 C.2.1 d_Mod_deliver_98 (by decide) ?_
        refine md_zret C hr hlk hM hm d_Mod_deliver_99 (by decide) ?_
        refine ⟨?_, ?_, ?_, rfl⟩
        · simp [bz, hc10]
        · rw [if_pos hc10]
        · rw [if_pos hc10, dlvA, if_pos (by simpa using hc35), ← hz63, show ix (nI j) = j from ix_nI (by omega)]
  · replace hc10 := bz_0.mp hc10
    refine lv_iconst (v := 0) C.1 C.2.1 d_Mod_deliver_13 (by decide) ?_
    refine md_zret C hr hlk hM hm d_Mod_deliver_14 (by decide) ?_
    have hc10 : ¬ isLt v k0 := hc10
    refine ⟨?_, ?_, ?_, rfl⟩ <;> simp [bz, hc10]
