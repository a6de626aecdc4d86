/-- a loop: a measure that falls, what holds at its head -/
theorem W.loop {p : Program} {l : Launch} {e : Env} {R : Room} {s : State} {m : MethodId} {args : Array Value} {below : List Frame} {meth : Method} {c : Code} {Q : State → Prop} {α : Type} (μ : α → Nat) (I : α → Prop) (Hf : α → Heap) (lf : α → List Loc) (cf sf : α → Nat) (gf : α → JFrame)
    (step : ∀ a, I a → (∀ b, I b → μ b < μ a → W p l e R s m args below meth c (Hf b) (lf b) (cf b) (sf b) Q (gf b)) → W p l e R s m args below meth c (Hf a) (lf a) (cf a) (sf a) Q (gf a)) (a : α) (ha : I a) : W p l e R s m args below meth c (Hf a) (lf a) (cf a) (sf a) Q (gf a) := by
  have key : ∀ n a, μ a < n → I a → W p l e R s m args below meth c (Hf a) (lf a) (cf a) (sf a) Q (gf a) := by
    intro n
    induction n with
    | zero => intro a h; omega
    | succ n ih => exact fun a h hi => step a hi (fun b hb hlt => ih b (by omega) hb)
  exact key (μ a + 1) a (by omega) ha
def plo (A : Nat → Nat → Int32) (u i : Int32) : Nat → Nat → Int32
  | 0, _ => -1
  | n + 1, t => if A 13 t = u ∧ ¬ i < A 16 t ∧ ¬ A 16 t + A 15 t ≤ i then A 14 t + i - A 16 t else plo A u i n (t + 1)
/-- the row of vehicle u's move i -/
def plc (v : Nat → Int32) (A : Nat → Nat → Int32) (u i : Int32) : Int32 := plo A u i (ix (v 10)) 0
def idl (A : Nat → Nat → Int32) : Nat → Nat → Int32
  | 0, _ => -1
  | n + 1, t => if A 25 t = A 27 t then nI t else idl A n (t + 1)
/-- the letters behind k come one place forward -/
def rmS (A : Nat → Nat → Int32) (i : Nat) : Nat → Nat → Int32 :=
  let A1 := va_up A 32 (upd (A 32) i (A 32 (i + 1)))
  let A2 := va_up A1 33 (upd (A1 33) i (A1 33 (i + 1)))
  va_up A2 34 (upd (A2 34) i (A2 34 (i + 1)))
def rmL : Nat → Nat → (Nat → Nat → Int32) → Nat → Nat → Int32
  | 0, _, A => A
  | n + 1, i, A => rmL n (i + 1) (rmS A i)
def loW : List (Option Value) → List (Option Value) → Prop
  | [], [] => True
  | _ :: xs, none :: ys => loW xs ys
  | some a :: xs, some b :: ys => a = b ∧ loW xs ys
  | _, _ => False
theorem loW_at {xs ys : List (Option Value)} (h : loW xs ys) : xs.length = ys.length ∧ ∀ (i : Nat) (v : Value), ys[i]? = some (some v) → xs[i]? = some (some v) := by
  induction ys generalizing xs with
  | nil => cases xs with
    | nil => exact ⟨rfl, fun i v h => by simp at h⟩
    | cons x xs => cases x <;> cases h
  | cons y ys ih =>
    cases xs with
    | nil => cases y <;> cases h
    | cons x xs =>
      have key : loW xs ys ∧ (∀ v, y = some v → x = some v) := by
        cases y with
        | none => cases x <;> exact ⟨h, fun v hv => by cases hv⟩
        | some b => cases x with
          | none => cases h
          | some a => exact ⟨h.2, fun v hv => by rw [h.1]; exact hv⟩
      obtain ⟨h1, h2⟩ := ih key.1
      refine ⟨by simp [h1], fun i v hi => ?_⟩
      cases i with
      | zero =>
        have : y = some v := by simpa using hi
        simpa using key.2 v this
      | succ i => simpa using h2 i v (by simpa using hi)
theorem lo_weak {ls : Array Slot} {vs vs' : List (Option Value)} (h : lo ls vs) (hw : loW vs vs') : lo ls vs' := by
  obtain ⟨h1, h2⟩ := loW_at hw
  refine ⟨by rw [← h1]; exact h.1, h.2.1, fun q hq => ?_⟩
  obtain ⟨-, h3⟩ := loL_inv hq
  rw [Nat.sub_zero] at h3
  exact lo_at h q.1 (h2 _ _ h3)
theorem nI_leN {a b : Nat} (ha : a < 2147483648) (hb : b < 2147483648) (h : nI a ≤ nI b) : a ≤ b := (nI_leI ha hb).mp h
theorem nI_ltN {a b : Nat} (ha : a < 2147483648) (hb : b < 2147483648) (h : ¬ nI b ≤ nI a) : a < b := Nat.lt_of_not_le (fun z => h ((nI_leI hb ha).mpr z))
theorem nI_pl (t : Nat) : nI t + Int32.ofInt 1 = nI (t + 1) := by
  rw [show Int32.ofInt 1 = 1 from by decide, nI_1]
theorem ix_nI {t : Nat} (h : t < 2147483648) : (nI t).toNatClampNeg = t := nI_clamp h
set_option maxHeartbeats 4000000 in
set_option maxRecDepth 100000 in
theorem k_Mod_placeOf (l : Launch) (G : GG) (o : Nat) (r : Nat → Nat) (v : Nat → Int32) (A : Nat → Nat → Int32) (B : Nat → Nat → Int64) (u0 i0 : Int32) {np : Nat} (hnp : np ≤ 24) (h10 : v 10 = nI np) : mct l G y_Mod_placeOf c_Mod_placeOf 4 (some .int) 0 0 [.ref o, .int u0, .int i0] o r v A B (fun x v1 A1 B1 => x = some (.int (plc v A u0 i0)) ∧ v1 = v ∧ A1 = A ∧ B1 = B) := by
  refine mct_intro (by decide) [some (.ref o), some (.int u0), some (.int i0), none] rfl rfl (Nat.le_of_ble_eq_true rfl) ?_
  intro p e s m below meth c ls P f C hr hlk hE hM hm hl
  refine lv_iconst (v := 0) C.1 C.2.1 d_Mod_placeOf_0 (by decide) ?_
  refine lo_istore_n C hl d_Mod_placeOf_1 (Nat.le_of_ble_eq_true rfl) rfl (fun ls hl => ?_)
  refine W.loop (α := (Nat) × (Array Slot)) (fun a => np - a.1) (fun a => (a.1 ≤ np) ∧ (plo A u0 i0 (np - a.1) a.1 = plc v A u0 i0) ∧ lo a.2 [some (.ref o), some (.int u0), some (.int i0), some (.int (nI a.1))]) (fun a => s.heap) (fun a => []) (fun _ => 0) (fun _ => 0) (fun a => F0 m 2 a.2 []) ?_ (0, ls) ⟨Nat.zero_le _, by show plo A u0 i0 (np - 0) 0 = _; rw [plc, h10, show ix (nI np) = np from ix_nI (by omega)]; rfl, lo_weak hl ⟨rfl, rfl, rfl, rfl, trivial⟩⟩
  rintro ⟨t, ls⟩ ⟨htp, hval, hl⟩ ih2
  dsimp only at htp hval hl
  show W _ _ _ _ _ _ _ _ _ _ _ _ _ _ _ (F0 m 2 ls [])
  refine lv_iload_n C.1 C.2.1 d_Mod_placeOf_2 rfl (lo_at hl 3 rfl) ?_
  refine lv_aload_n C.1 C.2.1 d_Mod_placeOf_3 rfl (lo_at hl 0 rfl) ?_
  refine md_get (x := .int (v 10)) C hE hM hm 10 (Nat.le_of_ble_eq_true rfl) tw_792 rfl rfl d_Mod_placeOf_4 ?_
  rw [h10]
  refine lv_icmp_ge (tgt := 69) C.1 C.2.1 d_Mod_placeOf_7 (by decide) (fun hc7 => ?_) (fun hc7 => ?_)
  · have htn : t = np := Nat.le_antisymm htp (nI_leN (by omega) (by omega) hc7)
    refine lv_iconst (v := (-1)) C.1 C.2.1 d_Mod_placeOf_69 (by decide) ?_
    refine md_iret C hr hlk hM hm d_Mod_placeOf_70 ?_
    refine ⟨?_, rfl, rfl, rfl⟩
    rw [← hval, show np - t = 0 by omega, plo]
  · have htn : t < np := nI_ltN (by omega) (by omega) hc7
    refine lv_aload_n C.1 C.2.1 d_Mod_placeOf_10 rfl (lo_at hl 0 rfl) ?_
    refine md_get C hE hM hm 13 (Nat.le_of_ble_eq_true rfl) tw_795 rfl rfl d_Mod_placeOf_11 ?_
    refine lv_iload_n C.1 C.2.1 d_Mod_placeOf_14 rfl (lo_at hl 3 rfl) ?_
    refine md_ialdN C hE hM hm 13 rfl t rfl (show t < 24 by omega) d_Mod_placeOf_15 ?_
    refine lv_iload_n C.1 C.2.1 d_Mod_placeOf_16 rfl (lo_at hl 1 rfl) ?_
    refine lv_icmp_ne (tgt := 63) C.1 C.2.1 d_Mod_placeOf_17 (by decide) (fun hc17 => ?_) (fun hc17 => ?_)
    · refine lo_iinc C hl d_Mod_placeOf_63 rfl rfl (fun ls hl => ?_)
      refine lv_goto (tgt := 2) C.1 C.2.1 d_Mod_placeOf_66 (by decide) ?_
      have h9 := hl
      rw [nI_pl] at h9
      exact ih2 (t + 1, ls) ⟨by omega, by rw [← hval, show np - t = (np - (t + 1)) + 1 by omega, plo, if_neg (by rintro ⟨z1, z2, z3⟩; first | exact hc17 z1 | exact z2 hc27 | exact z3 hc44)], lo_weak h9 ⟨rfl, rfl, rfl, rfl, trivial⟩⟩ (by show np - (t + 1) < np - t; omega)
    · refine lv_iload_n C.1 C.2.1 d_Mod_placeOf_20 rfl (lo_at hl 2 rfl) ?_
      refine lv_aload_n C.1 C.2.1 d_Mod_placeOf_21 rfl (lo_at hl 0 rfl) ?_
      refine md_get C hE hM hm 16 (Nat.le_of_ble_eq_true rfl) tw_798 rfl rfl d_Mod_placeOf_22 ?_
      refine lv_iload_n C.1 C.2.1 d_Mod_placeOf_25 rfl (lo_at hl 3 rfl) ?_
      refine md_ialdN C hE hM hm 16 rfl t rfl (show t < 24 by omega) d_Mod_placeOf_26 ?_
      refine lv_icmp_lt (tgt := 63) C.1 C.2.1 d_Mod_placeOf_27 (by decide) (fun hc27 => ?_) (fun hc27 => ?_)
      · refine lo_iinc C hl d_Mod_placeOf_63 rfl rfl (fun ls hl => ?_)
        refine lv_goto (tgt := 2) C.1 C.2.1 d_Mod_placeOf_66 (by decide) ?_
        have h9 := hl
        rw [nI_pl] at h9
        exact ih2 (t + 1, ls) ⟨by omega, by rw [← hval, show np - t = (np - (t + 1)) + 1 by omega, plo, if_neg (by rintro ⟨z1, z2, z3⟩; first | exact hc17 z1 | exact z2 hc27 | exact z3 hc44)], lo_weak h9 ⟨rfl, rfl, rfl, rfl, trivial⟩⟩ (by show np - (t + 1) < np - t; omega)
      · refine lv_iload_n C.1 C.2.1 d_Mod_placeOf_30 rfl (lo_at hl 2 rfl) ?_
        refine lv_aload_n C.1 C.2.1 d_Mod_placeOf_31 rfl (lo_at hl 0 rfl) ?_
        refine md_get C hE hM hm 16 (Nat.le_of_ble_eq_true rfl) tw_798 rfl rfl d_Mod_placeOf_32 ?_
        refine lv_iload_n C.1 C.2.1 d_Mod_placeOf_35 rfl (lo_at hl 3 rfl) ?_
        refine md_ialdN C hE hM hm 16 rfl t rfl (show t < 24 by omega) d_Mod_placeOf_36 ?_
        refine lv_aload_n C.1 C.2.1 d_Mod_placeOf_37 rfl (lo_at hl 0 rfl) ?_
        refine md_get C hE hM hm 15 (Nat.le_of_ble_eq_true rfl) tw_797 rfl rfl d_Mod_placeOf_38 ?_
        refine lv_iload_n C.1 C.2.1 d_Mod_placeOf_41 rfl (lo_at hl 3 rfl) ?_
        refine md_ialdN C hE hM hm 15 rfl t rfl (show t < 24 by omega) d_Mod_placeOf_42 ?_
        refine lv_iadd C.1 C.2.1 d_Mod_placeOf_43 ?_
        refine lv_icmp_ge (tgt := 63) C.1 C.2.1 d_Mod_placeOf_44 (by decide) (fun hc44 => ?_) (fun hc44 => ?_)
        · refine lo_iinc C hl d_Mod_placeOf_63 rfl rfl (fun ls hl => ?_)
          refine lv_goto (tgt := 2) C.1 C.2.1 d_Mod_placeOf_66 (by decide) ?_
          have h9 := hl
          rw [nI_pl] at h9
          exact ih2 (t + 1, ls) ⟨by omega, by rw [← hval, show np - t = (np - (t + 1)) + 1 by omega, plo, if_neg (by rintro ⟨z1, z2, z3⟩; first | exact hc17 z1 | exact z2 hc27 | exact z3 hc44)], lo_weak h9 ⟨rfl, rfl, rfl, rfl, trivial⟩⟩ (by show np - (t + 1) < np - t; omega)
        · refine lv_aload_n C.1 C.2.1 d_Mod_placeOf_47 rfl (lo_at hl 0 rfl) ?_
          refine md_get C hE hM hm 14 (Nat.le_of_ble_eq_true rfl) tw_796 rfl rfl d_Mod_placeOf_48 ?_
          refine lv_iload_n C.1 C.2.1 d_Mod_placeOf_51 rfl (lo_at hl 3 rfl) ?_
          refine md_ialdN C hE hM hm 14 rfl t rfl (show t < 24 by omega) d_Mod_placeOf_52 ?_
          refine lv_iload_n C.1 C.2.1 d_Mod_placeOf_53 rfl (lo_at hl 2 rfl) ?_
          refine lv_iadd C.1 C.2.1 d_Mod_placeOf_54 ?_
          refine lv_aload_n C.1 C.2.1 d_Mod_placeOf_55 rfl (lo_at hl 0 rfl) ?_
          refine md_get C hE hM hm 16 (Nat.le_of_ble_eq_true rfl) tw_798 rfl rfl d_Mod_placeOf_56 ?_
          refine lv_iload_n C.1 C.2.1 d_Mod_placeOf_59 rfl (lo_at hl 3 rfl) ?_
          refine md_ialdN C hE hM hm 16 rfl t rfl (show t < 24 by omega) d_Mod_placeOf_60 ?_
          refine lv_isub C.1 C.2.1 d_Mod_placeOf_61 ?_
          refine md_iret C hr hlk hM hm d_Mod_placeOf_62 ?_
          refine ⟨?_, rfl, rfl, rfl⟩
          rw [← hval, show np - t = (np - (t + 1)) + 1 by omega, plo, if_pos ⟨hc17, hc27, hc44⟩]
set_option maxHeartbeats 4000000 in
set_option maxRecDepth 100000 in
theorem k_Mod_idle (l : Launch) (G : GG) (o : Nat) (r : Nat → Nat) (v : Nat → Int32) (A : Nat → Nat → Int32) (B : Nat → Nat → Int64)  {nv : Nat} (hnv : nv ≤ 6) (h4 : v 4 = nI nv) : mct l G y_Mod_idle c_Mod_idle 2 (some .int) 0 0 [.ref o] o r v A B (fun x v1 A1 B1 => x = some (.int (idl A nv 0)) ∧ v1 = v ∧ A1 = A ∧ B1 = B) := by
  refine mct_intro (by decide) [some (.ref o), none] rfl rfl (Nat.le_of_ble_eq_true rfl) ?_
  intro p e s m below meth c ls P f C hr hlk hE hM hm hl
  refine lv_iconst (v := 0) C.1 C.2.1 d_Mod_idle_0 (by decide) ?_
  refine lo_istore_n C hl d_Mod_idle_1 (Nat.le_of_ble_eq_true rfl) rfl (fun ls hl => ?_)
  refine W.loop (α := (Nat) × (Array Slot)) (fun a => nv - a.1) (fun a => (a.1 ≤ nv) ∧ (idl A (nv - a.1) a.1 = idl A nv 0) ∧ lo a.2 [some (.ref o), some (.int (nI a.1))]) (fun a => s.heap) (fun a => []) (fun _ => 0) (fun _ => 0) (fun a => F0 m 2 a.2 []) ?_ (0, ls) ⟨Nat.zero_le _, rfl, lo_weak hl ⟨rfl, rfl, trivial⟩⟩
  rintro ⟨t, ls⟩ ⟨htp, hval, hl⟩ ih2
  dsimp only at htp hval hl
  show W _ _ _ _ _ _ _ _ _ _ _ _ _ _ _ (F0 m 2 ls [])
  refine lv_iload_n C.1 C.2.1 d_Mod_idle_2 rfl (lo_at hl 1 rfl) ?_
  refine lv_aload_n C.1 C.2.1 d_Mod_idle_3 rfl (lo_at hl 0 rfl) ?_
  refine md_get (x := .int (v 4)) C hE hM hm 4 (Nat.le_of_ble_eq_true rfl) tw_786 rfl rfl d_Mod_idle_4 ?_
  rw [h4]
  refine lv_icmp_ge (tgt := 33) C.1 C.2.1 d_Mod_idle_7 (by decide) (fun hc7 => ?_) (fun hc7 => ?_)
  · have htn : t = nv := Nat.le_antisymm htp (nI_leN (by omega) (by omega) hc7)
    refine lv_iconst (v := (-1)) C.1 C.2.1 d_Mod_idle_33 (by decide) ?_
    refine md_iret C hr hlk hM hm d_Mod_idle_34 ?_
    refine ⟨?_, rfl, rfl, rfl⟩
    rw [← hval, show nv - t = 0 by omega, idl]
  · have htn : t < nv := nI_ltN (by omega) (by omega) hc7
    refine lv_aload_n C.1 C.2.1 d_Mod_idle_10 rfl (lo_at hl 0 rfl) ?_
    refine md_get C hE hM hm 25 (Nat.le_of_ble_eq_true rfl) tw_807 rfl rfl d_Mod_idle_11 ?_
    refine lv_iload_n C.1 C.2.1 d_Mod_idle_14 rfl (lo_at hl 1 rfl) ?_
    refine md_ialdN C hE hM hm 25 rfl t rfl (show t < 6 by omega) d_Mod_idle_15 ?_
    refine lv_aload_n C.1 C.2.1 d_Mod_idle_16 rfl (lo_at hl 0 rfl) ?_
    refine md_get C hE hM hm 27 (Nat.le_of_ble_eq_true rfl) tw_809 rfl rfl d_Mod_idle_17 ?_
    refine lv_iload_n C.1 C.2.1 d_Mod_idle_20 rfl (lo_at hl 1 rfl) ?_
    refine md_ialdN C hE hM hm 27 rfl t rfl (show t < 6 by omega) d_Mod_idle_21 ?_
    refine lv_icmp_ne (tgt := 27) C.1 C.2.1 d_Mod_idle_22 (by decide) (fun hc22 => ?_) (fun hc22 => ?_)
    · refine lo_iinc C hl d_Mod_idle_27 rfl rfl (fun ls hl => ?_)
      refine lv_goto (tgt := 2) C.1 C.2.1 d_Mod_idle_30 (by decide) ?_
      have h9 := hl
      rw [nI_pl] at h9
      exact ih2 (t + 1, ls) ⟨by omega, by rw [← hval, show nv - t = (nv - (t + 1)) + 1 by omega, idl, if_neg hc22], lo_weak h9 ⟨rfl, rfl, trivial⟩⟩ (by show nv - (t + 1) < nv - t; omega)
    · refine lv_iload_n C.1 C.2.1 d_Mod_idle_25 rfl (lo_at hl 1 rfl) ?_
      refine md_iret C hr hlk hM hm d_Mod_idle_26 ?_
      refine ⟨?_, rfl, rfl, rfl⟩
      rw [← hval, show nv - t = (nv - (t + 1)) + 1 by omega, idl, if_pos hc22]
set_option maxHeartbeats 4000000 in
set_option maxRecDepth 100000 in
theorem k_Mod_remove (l : Launch) (G : GG) (o : Nat) (r : Nat → Nat) (v : Nat → Int32) (A : Nat → Nat → Int32) (B : Nat → Nat → Int64) (k : Nat) {nl : Nat} (hnl : nl + 1 ≤ 60) (h31 : v 31 = nI (nl + 1)) (hk : k ≤ nl) : mct l G y_Mod_remove c_Mod_remove 3 none 0 0 [.ref o, .int (nI k)] o r v A B (fun x v1 A1 B1 => x = none ∧ v1 = upd v 31 (nI nl) ∧ A1 = rmL (nl - k) k A ∧ B1 = B) := by
  refine mct_intro (by decide) [some (.ref o), some (.int (nI k)), none] rfl rfl (Nat.le_of_ble_eq_true rfl) ?_
  intro p e s m below meth c ls P f C hr hlk hE hM hm hl
  refine lv_aload_n C.1 C.2.1 d_Mod_remove_0 rfl (lo_at hl 0 rfl) ?_
  refine lv_dup C.1 C.2.1 d_Mod_remove_1 rfl ?_
  refine md_get (x := .int (v 31)) C hE hM hm 31 (Nat.le_of_ble_eq_true rfl) tw_813 rfl rfl d_Mod_remove_2 ?_
  refine lv_iconst (v := 1) C.1 C.2.1 d_Mod_remove_5 (by decide) ?_
  refine lv_isub C.1 C.2.1 d_Mod_remove_6 ?_
  rw [h31, nI_pred]
  refine md_put C hE hM hm 31 (Nat.le_of_ble_eq_true rfl) tw_813 rfl rfl rfl rfl rfl d_Mod_remove_7 (fun f1 H1 locs1 hM hm => ?_)
  refine lv_iload_n C.1 C.2.1 d_Mod_remove_10 rfl (lo_at hl 1 rfl) ?_
  refine lo_istore_n C hl d_Mod_remove_11 (Nat.le_of_ble_eq_true rfl) rfl (fun ls hl => ?_)
  refine W.loop (α := (Nat) × (Nat → Nat → Int32) × (Array Slot) × (Heap) × (List Loc) × (Nat → va_E)) (fun a => nl - a.1) (fun a => (a.1 ≤ nl) ∧ (rmL (nl - a.1) a.1 a.2.1 = rmL (nl - k) k A) ∧ lo a.2.2.1 [some (.ref o), some (.int (nI k)), some (.int (nI a.1))] ∧ pgS G (pgA P s.heap.size) s.heap P a.2.2.2.2.2 a.2.2.2.1 a.2.2.2.2.1 ∧ mdS G o r P f a.2.2.2.2.2 (upd v 31 (nI nl)) (a.2.1) (B)) (fun a => a.2.2.2.1) (fun a => a.2.2.2.2.1) (fun _ => 0) (fun _ => 0) (fun a => F0 m 12 a.2.2.1 []) ?_ (k, A, ls, H1, locs1, f1) ⟨by omega, rfl, lo_weak hl ⟨rfl, rfl, rfl, trivial⟩, hM, hm⟩
  rintro ⟨i, A1, ls, H1, locs1, f1⟩ ⟨hin, hval, hl, hM, hm⟩ ih12
  dsimp only at hin hval hl hM hm
  show W _ _ _ _ _ _ _ _ _ _ _ _ _ _ _ (F0 m 12 ls [])
  refine lv_iload_n C.1 C.2.1 d_Mod_remove_12 rfl (lo_at hl 2 rfl) ?_
  refine lv_aload_n C.1 C.2.1 d_Mod_remove_13 rfl (lo_at hl 0 rfl) ?_
  refine md_get C hE hM hm 31 (Nat.le_of_ble_eq_true rfl) tw_813 rfl rfl d_Mod_remove_14 ?_
  refine W.eq (g2 := F0 m 17 ls [.int (nI nl), .int (nI i)]) rfl ?_
  refine lv_icmp_ge (tgt := 68) C.1 C.2.1 d_Mod_remove_17 (by decide) (fun hc17 => ?_) (fun hc17 => ?_)
  · have htn : i = nl := Nat.le_antisymm hin (nI_leN (by omega) (by omega) hc17)
    refine md_vret C hr hlk hM hm d_Mod_remove_68 ?_
    refine ⟨rfl, rfl, ?_, rfl⟩
    rw [← hval, show nl - i = 0 by omega]; rfl
  · have htn : i < nl := nI_ltN (by omega) (by omega) hc17
    refine lv_aload_n C.1 C.2.1 d_Mod_remove_20 rfl (lo_at hl 0 rfl) ?_
    refine md_get C hE hM hm 32 (Nat.le_of_ble_eq_true rfl) tw_814 rfl rfl d_Mod_remove_21 ?_
    refine lv_iload_n C.1 C.2.1 d_Mod_remove_24 rfl (lo_at hl 2 rfl) ?_
    refine lv_aload_n C.1 C.2.1 d_Mod_remove_25 rfl (lo_at hl 0 rfl) ?_
    refine md_get C hE hM hm 32 (Nat.le_of_ble_eq_true rfl) tw_814 rfl rfl d_Mod_remove_26 ?_
    refine lv_iload_n C.1 C.2.1 d_Mod_remove_29 rfl (lo_at hl 2 rfl) ?_
    refine lv_iconst (v := 1) C.1 C.2.1 d_Mod_remove_30 (by decide) ?_
    refine lv_iadd C.1 C.2.1 d_Mod_remove_31 ?_
    refine md_ialdN C hE hM hm 32 rfl (i + 1) (nI_1 i) (show (i + 1) < 60 by omega) d_Mod_remove_32 ?_
    refine md_iastN C hE hM hm 32 rfl i rfl (show i < 60 by omega) d_Mod_remove_33 (fun f1 H1 locs1 hM hm => ?_)
    refine lv_aload_n C.1 C.2.1 d_Mod_remove_34 rfl (lo_at hl 0 rfl) ?_
    refine md_get C hE hM hm 33 (Nat.le_of_ble_eq_true rfl) tw_815 rfl rfl d_Mod_remove_35 ?_
    refine lv_iload_n C.1 C.2.1 d_Mod_remove_38 rfl (lo_at hl 2 rfl) ?_
    refine lv_aload_n C.1 C.2.1 d_Mod_remove_39 rfl (lo_at hl 0 rfl) ?_
    refine md_get C hE hM hm 33 (Nat.le_of_ble_eq_true rfl) tw_815 rfl rfl d_Mod_remove_40 ?_
    refine lv_iload_n C.1 C.2.1 d_Mod_remove_43 rfl (lo_at hl 2 rfl) ?_
    refine lv_iconst (v := 1) C.1 C.2.1 d_Mod_remove_44 (by decide) ?_
    refine lv_iadd C.1 C.2.1 d_Mod_remove_45 ?_
    refine md_ialdN C hE hM hm 33 rfl (i + 1) (nI_1 i) (show (i + 1) < 60 by omega) d_Mod_remove_46 ?_
    refine md_iastN C hE hM hm 33 rfl i rfl (show i < 60 by omega) d_Mod_remove_47 (fun f1 H1 locs1 hM hm => ?_)
    refine lv_aload_n C.1 C.2.1 d_Mod_remove_48 rfl (lo_at hl 0 rfl) ?_
    refine md_get C hE hM hm 34 (Nat.le_of_ble_eq_true rfl) tw_816 rfl rfl d_Mod_remove_49 ?_
    refine lv_iload_n C.1 C.2.1 d_Mod_remove_52 rfl (lo_at hl 2 rfl) ?_
    refine lv_aload_n C.1 C.2.1 d_Mod_remove_53 rfl (lo_at hl 0 rfl) ?_
    refine md_get C hE hM hm 34 (Nat.le_of_ble_eq_true rfl) tw_816 rfl rfl d_Mod_remove_54 ?_
    refine lv_iload_n C.1 C.2.1 d_Mod_remove_57 rfl (lo_at hl 2 rfl) ?_
    refine lv_iconst (v := 1) C.1 C.2.1 d_Mod_remove_58 (by decide) ?_
    refine lv_iadd C.1 C.2.1 d_Mod_remove_59 ?_
    refine md_ialdN C hE hM hm 34 rfl (i + 1) (nI_1 i) (show (i + 1) < 60 by omega) d_Mod_remove_60 ?_
    refine md_iastN C hE hM hm 34 rfl i rfl (show i < 60 by omega) d_Mod_remove_61 (fun f1 H1 locs1 hM hm => ?_)
    refine lo_iinc C hl d_Mod_remove_62 rfl rfl (fun ls hl => ?_)
    refine lv_goto (tgt := 12) C.1 C.2.1 d_Mod_remove_65 (by decide) ?_
    have h9 := hl
    rw [nI_pl] at h9
    exact ih12 (i + 1, _, ls, H1, locs1, f1) ⟨by omega, by rw [← hval, show nl - i = (nl - (i + 1)) + 1 by omega]; rfl, lo_weak h9 ⟨rfl, rfl, rfl, trivial⟩, hM, hm⟩ (by show nl - (i + 1) < nl - i; omega)
