/-- a loop: a measure that falls, what holds at its head -/
theorem W.loop {p : Program} {l : Launch} {e : Env} {R : Room} {s : State} {m : MethodId} {args : Array Value} {below : List Frame} {meth : Method} {c : Code} {Q : State → Prop} {α : Type} (μ : α → Nat) (I : α → Prop) (Hf : α → Heap) (lf : α → List Loc) (cf sf : α → Nat) (gf : α → JFrame)
    (step : ∀ a, I a → (∀ b, I b → μ b < μ a → W p l e R s m args below meth c (Hf b) (lf b) (cf b) (sf b) Q (gf b)) → W p l e R s m args below meth c (Hf a) (lf a) (cf a) (sf a) Q (gf a)) (a : α) (ha : I a) : W p l e R s m args below meth c (Hf a) (lf a) (cf a) (sf a) Q (gf a) := by
  have key : ∀ n a, μ a < n → I a → W p l e R s m args below meth c (Hf a) (lf a) (cf a) (sf a) Q (gf a) := by
    intro n
    induction n with
    | zero => intro a h; omega
    | succ n ih => exact fun a h hi => step a hi (fun b hb hlt => ih b (by omega) hb)
  exact key (μ a + 1) a (by omega) ha
def plo (A : Nat → Nat → Int32) (u i : Int32) : Nat → Nat → Int32
  | 0, _ => -1
  | n + 1, t => if A 13 t = u ∧ ¬ i < A 16 t ∧ ¬ A 16 t + A 15 t ≤ i then A 14 t + i - A 16 t else plo A u i n (t + 1)
/-- the row of vehicle u's move i -/
def plc (v : Nat → Int32) (A : Nat → Nat → Int32) (u i : Int32) : Int32 := plo A u i (ix (v 10)) 0
def idl (A : Nat → Nat → Int32) : Nat → Nat → Int32
  | 0, _ => -1
  | n + 1, t => if A 25 t = A 27 t then nI t else idl A n (t + 1)
/-- the letters behind k come one place forward -/
def rmS (A : Nat → Nat → Int32) (i : Nat) : Nat → Nat → Int32 :=
  let A1 := va_up A 32 (upd (A 32) i (A 32 (i + 1)))
  let A2 := va_up A1 33 (upd (A1 33) i (A1 33 (i + 1)))
  va_up A2 34 (upd (A2 34) i (A2 34 (i + 1)))
def rmL : Nat → Nat → (Nat → Nat → Int32) → Nat → Nat → Int32
  | 0, _, A => A
  | n + 1, i, A => rmL n (i + 1) (rmS A i)
theorem nI_pl (t : Nat) : nI t + Int32.ofInt 1 = nI (t + 1) := by
  rw [show Int32.ofInt 1 = 1 from by decide, nI_1]
theorem ix_nI {t : Nat} (h : t < 2147483648) : (nI t).toNatClampNeg = t := nI_clamp h
theorem nI_leN {a b : Nat} (ha : a < 2147483648) (hb : b < 2147483648) (h : nI a ≤ nI b) : a ≤ b := (nI_leI ha hb).mp h
theorem nI_ltN {a b : Nat} (ha : a < 2147483648) (hb : b < 2147483648) (h : ¬ nI b ≤ nI a) : a < b := Nat.lt_of_not_le (fun z => h ((nI_leI hb ha).mpr z))
set_option maxHeartbeats 4000000 in
set_option maxRecDepth 100000 in
theorem k_Mod_placeOf (l : Launch) (G : GG) (o : Nat) (r : Nat → Nat) (v : Nat → Int32) (A : Nat → Nat → Int32) (B : Nat → Nat → Int64) (u0 i0 : Int32) {np : Nat} (hnp : np ≤ 24) (h10 : v 10 = nI np) : mct l G y_Mod_placeOf c_Mod_placeOf 4 (some .int) 0 0 [.ref o, .int u0, .int i0] o r v A B (fun x v1 A1 B1 => x = some (.int (plc v A u0 i0)) ∧ v1 = v ∧ A1 = A ∧ B1 = B) := by
  refine mct_intro (by decide) [some (.ref o), some (.int u0), some (.int i0), none] rfl rfl (Nat.le_of_ble_eq_true rfl) ?_
  intro p e s m below meth c ls P f C hr hlk hE hM hm hl
  refine lv_iconst (v := 0) C.1 C.2.1 d_Mod_placeOf_0 (by decide) ?_
  refine lo_istore_n C hl d_Mod_placeOf_1 (Nat.le_of_ble_eq_true rfl) rfl (fun ls hl => ?_)
  refine W.loop (α := Nat × Array Slot) (fun a => np - a.1) (fun a => a.1 ≤ np ∧ lo a.2 [some (.ref o), some (.int u0), some (.int i0), some (.int (nI a.1))] ∧ plo A u0 i0 (np - a.1) a.1 = plc v A u0 i0) (fun _ => s.heap) (fun _ => []) (fun _ => 0) (fun _ => 0) (fun a => F0 m 2 a.2 []) ?_ (0, ls) ⟨Nat.zero_le _, hl, by show plo A u0 i0 (np - 0) 0 = _; rw [plc, h10, show ix (nI np) = np from ix_nI (by omega)]; rfl⟩
  rintro ⟨t, ls⟩ ⟨htp, hl, hval⟩ ih
  dsimp only at htp hl hval
  show W _ _ _ _ _ _ _ _ _ _ _ _ _ _ _ (F0 m 2 ls [])
  refine lv_iload_n C.1 C.2.1 d_Mod_placeOf_2 rfl (lo_at hl 3 rfl) ?_
  refine lv_aload_n C.1 C.2.1 d_Mod_placeOf_3 rfl (lo_at hl 0 rfl) ?_
  refine md_get (x := .int (v 10)) C hE hM hm 10 (Nat.le_of_ble_eq_true rfl) tw_792 rfl rfl d_Mod_placeOf_4 ?_
  rw [h10]
  refine lv_icmp_ge (tgt := 69) C.1 C.2.1 d_Mod_placeOf_7 (by decide) (fun hc7 => ?_) (fun hc7 => ?_)
  · have htn : t = np := Nat.le_antisymm htp (nI_leN (by omega) (by omega) hc7)
    refine lv_iconst (v := (-1)) C.1 C.2.1 d_Mod_placeOf_69 (by decide) ?_
    refine md_iret C hr hlk hM hm d_Mod_placeOf_70 ?_
    refine ⟨?_, rfl, rfl, rfl⟩
    rw [← hval, show np - t = 0 by omega, plo]
  · have htn : t < np := nI_ltN (by omega) (by omega) hc7
    refine lv_aload_n C.1 C.2.1 d_Mod_placeOf_10 rfl (lo_at hl 0 rfl) ?_
    refine md_get C hE hM hm 13 (Nat.le_of_ble_eq_true rfl) tw_795 rfl rfl d_Mod_placeOf_11 ?_
    refine lv_iload_n C.1 C.2.1 d_Mod_placeOf_14 rfl (lo_at hl 3 rfl) ?_
    refine md_ialdN C hE hM hm 13 rfl t rfl (show t < 24 by omega) d_Mod_placeOf_15 ?_
    refine lv_iload_n C.1 C.2.1 d_Mod_placeOf_16 rfl (lo_at hl 1 rfl) ?_
    refine lv_icmp_ne (tgt := 63) C.1 C.2.1 d_Mod_placeOf_17 (by decide) (fun hc17 => ?_) (fun hc17 => ?_)
    · refine lo_iinc C hl d_Mod_placeOf_63 rfl rfl (fun ls hl => ?_)
      refine lv_goto (tgt := 2) C.1 C.2.1 d_Mod_placeOf_66 (by decide) ?_
      exact ih (t + 1, ls) ⟨by omega, by rw [← nI_pl]; exact hl, by rw [← hval, show np - t = (np - (t + 1)) + 1 by omega, plo, if_neg (by rintro ⟨z1, z2, z3⟩; first | exact hc17 z1 | exact z2 hc27 | exact z3 hc44)]⟩ (by show np - (t + 1) < np - t; omega)
    · refine lv_iload_n C.1 C.2.1 d_Mod_placeOf_20 rfl (lo_at hl 2 rfl) ?_
      refine lv_aload_n C.1 C.2.1 d_Mod_placeOf_21 rfl (lo_at hl 0 rfl) ?_
      refine md_get C hE hM hm 16 (Nat.le_of_ble_eq_true rfl) tw_798 rfl rfl d_Mod_placeOf_22 ?_
      refine lv_iload_n C.1 C.2.1 d_Mod_placeOf_25 rfl (lo_at hl 3 rfl) ?_
      refine md_ialdN C hE hM hm 16 rfl t rfl (show t < 24 by omega) d_Mod_placeOf_26 ?_
      refine lv_icmp_lt (tgt := 63) C.1 C.2.1 d_Mod_placeOf_27 (by decide) (fun hc27 => ?_) (fun hc27 => ?_)
      · refine lo_iinc C hl d_Mod_placeOf_63 rfl rfl (fun ls hl => ?_)
        refine lv_goto (tgt := 2) C.1 C.2.1 d_Mod_placeOf_66 (by decide) ?_
        exact ih (t + 1, ls) ⟨by omega, by rw [← nI_pl]; exact hl, by rw [← hval, show np - t = (np - (t + 1)) + 1 by omega, plo, if_neg (by rintro ⟨z1, z2, z3⟩; first | exact hc17 z1 | exact z2 hc27 | exact z3 hc44)]⟩ (by show np - (t + 1) < np - t; omega)
      · refine lv_iload_n C.1 C.2.1 d_Mod_placeOf_30 rfl (lo_at hl 2 rfl) ?_
        refine lv_aload_n C.1 C.2.1 d_Mod_placeOf_31 rfl (lo_at hl 0 rfl) ?_
        refine md_get C hE hM hm 16 (Nat.le_of_ble_eq_true rfl) tw_798 rfl rfl d_Mod_placeOf_32 ?_
        refine lv_iload_n C.1 C.2.1 d_Mod_placeOf_35 rfl (lo_at hl 3 rfl) ?_
        refine md_ialdN C hE hM hm 16 rfl t rfl (show t < 24 by omega) d_Mod_placeOf_36 ?_
        refine lv_aload_n C.1 C.2.1 d_Mod_placeOf_37 rfl (lo_at hl 0 rfl) ?_
        refine md_get C hE hM hm 15 (Nat.le_of_ble_eq_true rfl) tw_797 rfl rfl d_Mod_placeOf_38 ?_
        refine lv_iload_n C.1 C.2.1 d_Mod_placeOf_41 rfl (lo_at hl 3 rfl) ?_
        refine md_ialdN C hE hM hm 15 rfl t rfl (show t < 24 by omega) d_Mod_placeOf_42 ?_
        refine lv_iadd C.1 C.2.1 d_Mod_placeOf_43 ?_
        refine lv_icmp_ge (tgt := 63) C.1 C.2.1 d_Mod_placeOf_44 (by decide) (fun hc44 => ?_) (fun hc44 => ?_)
        · refine lo_iinc C hl d_Mod_placeOf_63 rfl rfl (fun ls hl => ?_)
          refine lv_goto (tgt := 2) C.1 C.2.1 d_Mod_placeOf_66 (by decide) ?_
          exact ih (t + 1, ls) ⟨by omega, by rw [← nI_pl]; exact hl, by rw [← hval, show np - t = (np - (t + 1)) + 1 by omega, plo, if_neg (by rintro ⟨z1, z2, z3⟩; first | exact hc17 z1 | exact z2 hc27 | exact z3 hc44)]⟩ (by show np - (t + 1) < np - t; omega)
        · refine lv_aload_n C.1 C.2.1 d_Mod_placeOf_47 rfl (lo_at hl 0 rfl) ?_
          refine md_get C hE hM hm 14 (Nat.le_of_ble_eq_true rfl) tw_796 rfl rfl d_Mod_placeOf_48 ?_
          refine lv_iload_n C.1 C.2.1 d_Mod_placeOf_51 rfl (lo_at hl 3 rfl) ?_
          refine md_ialdN C hE hM hm 14 rfl t rfl (show t < 24 by omega) d_Mod_placeOf_52 ?_
          refine lv_iload_n C.1 C.2.1 d_Mod_placeOf_53 rfl (lo_at hl 2 rfl) ?_
          refine lv_iadd C.1 C.2.1 d_Mod_placeOf_54 ?_
          refine lv_aload_n C.1 C.2.1 d_Mod_placeOf_55 rfl (lo_at hl 0 rfl) ?_
          refine md_get C hE hM hm 16 (Nat.le_of_ble_eq_true rfl) tw_798 rfl rfl d_Mod_placeOf_56 ?_
          refine lv_iload_n C.1 C.2.1 d_Mod_placeOf_59 rfl (lo_at hl 3 rfl) ?_
          refine md_ialdN C hE hM hm 16 rfl t rfl (show t < 24 by omega) d_Mod_placeOf_60 ?_
          refine lv_isub C.1 C.2.1 d_Mod_placeOf_61 ?_
          refine md_iret C hr hlk hM hm d_Mod_placeOf_62 ?_
          refine ⟨?_, rfl, rfl, rfl⟩
          rw [← hval, show np - t = (np - (t + 1)) + 1 by omega, plo, if_pos ⟨hc17, hc27, hc44⟩]
