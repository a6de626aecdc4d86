/-! the reference's constructor -/
def arI (G : GG) (n : Nat) : va_E := .inl (G.2.1 0, n, .inl (fun _ => 0))
def arZ (G : GG) (n : Nat) : va_E := .inl (G.2.1 2, n, .inl (fun _ => 0))
def arL (G : GG) (n : Nat) : va_E := .inl (G.2.1 1, n, .inr (.inl (fun _ => 0)))
def arK (G : GG) (k : Nat) : va_E := if mdL k then arL G (mdN k) else if k = 7 then arZ G 96 else arI G (mdN k)
def mdp (G : GG) (o : Nat) (P : List Nat) (f0 f : Nat → va_E) (L : List (Nat × Nat)) (fs : List Value) : Prop :=
  f o = .inr (10, fs) ∧ o ∈ P ∧ (∀ x ∈ L, x.2 ∈ P ∧ x.2 ≠ o ∧ f x.2 = arK G x.1) ∧ (∀ x ∈ L, ∀ y ∈ L, x.2 = y.2 → x = y) ∧ ∀ a, a ≠ o → (∀ x ∈ L, a ≠ x.2) → f a = f0 a
theorem mdp_step {G : GG} {o : Nat} {P : List Nat} {f0 f : Nat → va_E} {L : List (Nat × Nat)} {fs : List Value} (h : mdp G o P f0 f L fs) {q : Nat} (hq : q ∉ P) (k : Nat) (fs' : List Value) : mdp G o (P ++ [q]) f0 (va_up (va_up f q (arK G k)) o (.inr (10, fs'))) (L ++ [(k, q)]) fs' := by
  obtain ⟨h1, h2, h3, h4, h5⟩ := h
  have hqo : q ≠ o := fun z => hq (z ▸ h2)
  refine ⟨va_up_self _ _ _, List.mem_append_left _ h2, fun x hx => ?_, fun x hx y hy e => ?_, fun a ha hb => ?_⟩
  · rcases List.mem_append.mp hx with hx | hx
    · obtain ⟨a1, a2, a3⟩ := h3 x hx
      have : x.2 ≠ q := fun z => hq (z ▸ a1)
      exact ⟨List.mem_append_left _ a1, a2, by rw [va_up_ne _ _ a2, va_up_ne _ _ this]; exact a3⟩
    · rw [List.mem_singleton.mp hx]
      exact ⟨List.mem_append_right _ (List.mem_singleton.mpr rfl), hqo, by rw [va_up_ne _ _ hqo, va_up_self]⟩
  · rcases List.mem_append.mp hx with hx | hx <;> rcases List.mem_append.mp hy with hy | hy
    · exact h4 x hx y hy e
    · rw [List.mem_singleton.mp hy] at e
      exact absurd (by rw [← (show x.2 = q from e)]; exact (h3 x hx).1) hq
    · rw [List.mem_singleton.mp hx] at e
      exact absurd (by rw [(show q = y.2 from e)]; exact (h3 y hy).1) hq
    · rw [List.mem_singleton.mp hx, List.mem_singleton.mp hy]
  · have hb1 : a ≠ q := hb (k, q) (List.mem_append_right _ (List.mem_singleton.mpr rfl))
    rw [va_up_ne _ _ ha, va_up_ne _ _ hb1]
    exact h5 a ha (fun x hx => hb x (List.mem_append_left _ hx))
section MIN
variable {p : Program} {l : Launch} {e : Env} {R : Room} {s : State} {m : MethodId} {args : Array Value} {below : List Frame} {meth : Method} {c : Code} {H : Heap} {locs : List Loc} {cells slots : Nat} {Q : State → Prop}
variable {cc : ByteArray} {pc nL : Nat} {ls : Array Slot} {G : GG} {A : Nat → Prop} {H0 : Heap} {P : List Nat} {f0 f : Nat → va_E} {own : String} {o : Nat} {L : List (Nat × Nat)} {fs : List Value}
theorem mi_I (C : CallFix p m c cc nL s args bg "FleetFloorModel") (hE : ev G A s H0) (hM : pgS G A H0 P f H locs) (hp : mdp G o P f0 f L fs) (hin2 : meth.name = "<init>") (k : Nat) (hk : k < 40) (hI : mdL k = false ∧ k ≠ 7) {index : Nat} (hw : Cond.fieldLink "FleetFloorModel" index "FleetFloorModel" (T_Mod k).2.1 (T_Mod k).2.2.1 ∈ bg) (hr : (T_Mod k).1 = "FleetFloorModel") (hfin : (T_Mod k).2.2.2 = true) (hty : ty_Mod k = .array .int) (hlen : k < fs.length) {x : Int32} (hx : ¬ x < 0) (hN : x.toNatClampNeg = mdN k) (hsm : mdN k * 4 ≤ 536870912) (hcells : cells + 1 ≤ R.cells) (hslots : slots + mdN k ≤ R.slots) (hd1 : decode cc pc = .ok (.newarray .int, 2)) (hd2 : decode cc (pc + 2) = .ok (.putfield index, 3))
    (kk : ∀ (q : Nat) (f1 : Nat → va_E) (H1 : Heap) (locs1 : List Loc), pgS G A H0 (P ++ [q]) f1 H1 locs1 → mdp G o (P ++ [q]) f0 f1 (L ++ [(k, q)]) (fs.set k (.ref q)) → W p l e R s m args below meth c H1 locs1 (cells + 1) (slots + mdN k) Q (F0 m (pc + 5) ls [])) : W p l e R s m args below meth c H locs cells slots Q (F0 m pc ls [.int x, .ref o]) := by
  refine pg_newI C hE hM tw_44 hx hN hsm hcells hslots hd1 (fun q H1 hq hM1 => ?_)
  have hqo : o ≠ q := fun z => hq (z ▸ hp.2.1)
  have ek : (Sum.inl (G.2.1 0, mdN k, Sum.inl (fun _ => 0)) : va_E) = arK G k := by rw [arK, hI.1, if_neg (by decide), if_neg hI.2]; rfl
  rw [ek] at hM1
  refine pg_putF C hE hM1 (List.mem_append_left _ hp.2.1) (ci := 10) (fs := fs) (by rw [va_up_ne _ _ hqo]; exact hp.1) rfl in_Mod ok_Mod n_Mod k hk hw hr hfin hin2 hr (by rw [hty]; rfl) (by rw [hty]; rfl) hlen hd2 (fun H2 locs2 hM2 => ?_)
  exact kk q _ H2 locs2 hM2 (mdp_step hp hq k _)
theorem mi_Z (C : CallFix p m c cc nL s args bg "FleetFloorModel") (hE : ev G A s H0) (hM : pgS G A H0 P f H locs) (hp : mdp G o P f0 f L fs) (hin2 : meth.name = "<init>") {index : Nat} (hw : Cond.fieldLink "FleetFloorModel" index "FleetFloorModel" (T_Mod 7).2.1 (T_Mod 7).2.2.1 ∈ bg) (hlen : 7 < fs.length) {x : Int32} (hx : ¬ x < 0) (hN : x.toNatClampNeg = 96) (hcells : cells + 1 ≤ R.cells) (hslots : slots + 96 ≤ R.slots) (hd1 : decode cc pc = .ok (.newarray .boolean, 2)) (hd2 : decode cc (pc + 2) = .ok (.putfield index, 3))
    (kk : ∀ (q : Nat) (f1 : Nat → va_E) (H1 : Heap) (locs1 : List Loc), pgS G A H0 (P ++ [q]) f1 H1 locs1 → mdp G o (P ++ [q]) f0 f1 (L ++ [(7, q)]) (fs.set 7 (.ref q)) → W p l e R s m args below meth c H1 locs1 (cells + 1) (slots + 96) Q (F0 m (pc + 5) ls [])) : W p l e R s m args below meth c H locs cells slots Q (F0 m pc ls [.int x, .ref o]) := by
  refine pg_newZ C hE hM tw_902 hx hN (by decide) hcells hslots hd1 (fun q H1 hq hM1 => ?_)
  have hqo : o ≠ q := fun z => hq (z ▸ hp.2.1)
  have ek : (Sum.inl (G.2.1 2, 96, Sum.inl (fun _ => 0)) : va_E) = arK G 7 := rfl
  rw [ek] at hM1
  refine pg_putF C hE hM1 (List.mem_append_left _ hp.2.1) (ci := 10) (fs := fs) (by rw [va_up_ne _ _ hqo]; exact hp.1) rfl in_Mod ok_Mod n_Mod 7 (by decide) hw rfl rfl hin2 rfl rfl rfl hlen hd2 (fun H2 locs2 hM2 => ?_)
  exact kk q _ H2 locs2 hM2 (mdp_step hp hq 7 _)
theorem mi_L (C : CallFix p m c cc nL s args bg "FleetFloorModel") (hE : ev G A s H0) (hM : pgS G A H0 P f H locs) (hp : mdp G o P f0 f L fs) (hin2 : meth.name = "<init>") (k : Nat) (hk : k < 40) (hI : mdL k = true) {index : Nat} (hw : Cond.fieldLink "FleetFloorModel" index "FleetFloorModel" (T_Mod k).2.1 (T_Mod k).2.2.1 ∈ bg) (hr : (T_Mod k).1 = "FleetFloorModel") (hfin : (T_Mod k).2.2.2 = true) (hty : ty_Mod k = .array .long) (hlen : k < fs.length) {x : Int32} (hx : ¬ x < 0) (hN : x.toNatClampNeg = mdN k) (hsm : mdN k * 8 ≤ 536870912) (hcells : cells + 1 ≤ R.cells) (hslots : slots + mdN k ≤ R.slots) (hd1 : decode cc pc = .ok (.newarray .long, 2)) (hd2 : decode cc (pc + 2) = .ok (.putfield index, 3))
    (kk : ∀ (q : Nat) (f1 : Nat → va_E) (H1 : Heap) (locs1 : List Loc), pgS G A H0 (P ++ [q]) f1 H1 locs1 → mdp G o (P ++ [q]) f0 f1 (L ++ [(k, q)]) (fs.set k (.ref q)) → W p l e R s m args below meth c H1 locs1 (cells + 1) (slots + mdN k) Q (F0 m (pc + 5) ls [])) : W p l e R s m args below meth c H locs cells slots Q (F0 m pc ls [.int x, .ref o]) := by
  refine pg_newL C hE hM tw_903 hx hN hsm hcells hslots hd1 (fun q H1 hq hM1 => ?_)
  have hqo : o ≠ q := fun z => hq (z ▸ hp.2.1)
  have ek : (Sum.inl (G.2.1 1, mdN k, Sum.inr (Sum.inl (fun _ => 0))) : va_E) = arK G k := by rw [arK, hI, if_pos rfl]; rfl
  rw [ek] at hM1
  refine pg_putF C hE hM1 (List.mem_append_left _ hp.2.1) (ci := 10) (fs := fs) (by rw [va_up_ne _ _ hqo]; exact hp.1) rfl in_Mod ok_Mod n_Mod k hk hw hr hfin hin2 hr (by rw [hty]; rfl) (by rw [hty]; rfl) hlen hd2 (fun H2 locs2 hM2 => ?_)
  exact kk q _ H2 locs2 hM2 (mdp_step hp hq k _)
end MIN
set_option maxHeartbeats 4000000 in
set_option maxRecDepth 100000 in
theorem k_Mod_init (l : Launch) (G : GG) (o : Nat) (P : List Nat) (f : Nat → va_E) (ho : o ∈ P) (hf : f o = .inr (10, [.int 0, .int 0, .null, .int 0, .int 0, .null, .null, .null, .null, .int 0, .int 0, .null, .null, .null, .null, .null, .null, .null, .null, .int 0, .null, .null, .null, .null, .null, .null, .null, .null, .null, .int 0, .int 0, .int 0, .null, .null, .null, .null, .null, .null, .int 0, .int 0])) : ct l G y_Mod_init c_Mod_init 1 none 1 20 28 9610 [.ref o] P f (fun ret N f1 => ret = none ∧ N.length = 28 ∧ ∃ L fs, mdp G o (P ++ N) f f1 L fs ∧ ∃ r, fs = mdF (fun _ => 0) r ∧ L = [2, 5, 6, 7, 8, 11, 12, 13, 14, 15, 16, 17, 18, 20, 21, 22, 23, 24, 25, 26, 27, 28, 32, 33, 34, 35, 36, 37].map (fun k => (k, r k))) := by
  refine ct_intro (by decide) [some (.ref o)] rfl rfl (Nat.le_of_ble_eq_true rfl) ?_
  intro p e s m below meth c ls C hr hlk hnm hE hM hl
  have hp : mdp G o P f f [] [.int 0, .int 0, .null, .int 0, .int 0, .null, .null, .null, .null, .int 0, .int 0, .null, .null, .null, .null, .null, .null, .null, .null, .int 0, .null, .null, .null, .null, .null, .null, .null, .null, .null, .int 0, .int 0, .int 0, .null, .null, .null, .null, .null, .null, .int 0, .int 0] := ⟨hf, ho, fun x hx => absurd hx List.not_mem_nil, fun x hx => absurd hx List.not_mem_nil, fun _ _ _ => rfl⟩
  refine lv_aload_n C.1 C.2.1 d_Mod_init_0 rfl (lo_at hl 0 rfl) ?_
  refine W.objInit C.1 C.2.1 C.2.2.2.1 (C.2.2.2.2 _ tw_781) (C.2.2.2.2 _ tw_32) (C.2.2.2.2 _ tw_33) rfl (by rw [C.2.2.1]; exact hl.1) rfl d_Mod_init_1 (Nat.le_of_ble_eq_true rfl) (Nat.le_of_ble_eq_true rfl) ?_
  refine W.eq (g2 := F0 m 4 ls []) rfl ?_
  refine lv_aload_n C.1 C.2.1 d_Mod_init_4 rfl (lo_at hl 0 rfl) ?_
  refine lv_bipush (v := 96) C.1 C.2.1 d_Mod_init_5 (by decide) ?_
  refine mi_I C hE hM hp hnm 2 (Nat.le_of_ble_eq_true rfl) (by decide) tw_784 rfl rfl rfl (Nat.le_of_ble_eq_true rfl) (by decide) (by decide) (by decide) (Nat.le_of_ble_eq_true rfl) (Nat.le_of_ble_eq_true rfl) d_Mod_init_7 d_Mod_init_9 (fun q2 f1 H1 locs1 hM hp => ?_)
  refine W.widen (k := 1) (n := 96) (by decide) (by decide) ?_
  have hp : mdp G o _ f f1 [(2, q2)] [.int 0, .int 0, .ref q2, .int 0, .int 0, .null, .null, .null, .null, .int 0, .int 0, .null, .null, .null, .null, .null, .null, .null, .null, .int 0, .null, .null, .null, .null, .null, .null, .null, .null, .null, .int 0, .int 0, .int 0, .null, .null, .null, .null, .null, .null, .int 0, .int 0] := hp
  refine W.eq (g2 := F0 m 12 ls []) rfl ?_
  refine lv_aload_n C.1 C.2.1 d_Mod_init_12 rfl (lo_at hl 0 rfl) ?_
  refine lv_bipush (v := 96) C.1 C.2.1 d_Mod_init_13 (by decide) ?_
  refine mi_I C hE hM hp hnm 5 (Nat.le_of_ble_eq_true rfl) (by decide) tw_787 rfl rfl rfl (Nat.le_of_ble_eq_true rfl) (by decide) (by decide) (by decide) (Nat.le_of_ble_eq_true rfl) (Nat.le_of_ble_eq_true rfl) d_Mod_init_15 d_Mod_init_17 (fun q5 f1 H1 locs1 hM hp => ?_)
  refine W.widen (k := 2) (n := 192) (by decide) (by decide) ?_
  have hp : mdp G o _ f f1 [(2, q2), (5, q5)] [.int 0, .int 0, .ref q2, .int 0, .int 0, .ref q5, .null, .null, .null, .int 0, .int 0, .null, .null, .null, .null, .null, .null, .null, .null, .int 0, .null, .null, .null, .null, .null, .null, .null, .null, .null, .int 0, .int 0, .int 0, .null, .null, .null, .null, .null, .null, .int 0, .int 0] := hp
  refine W.eq (g2 := F0 m 20 ls []) rfl ?_
  refine lv_aload_n C.1 C.2.1 d_Mod_init_20 rfl (lo_at hl 0 rfl) ?_
  refine lv_bipush (v := 96) C.1 C.2.1 d_Mod_init_21 (by decide) ?_
  refine mi_I C hE hM hp hnm 6 (Nat.le_of_ble_eq_true rfl) (by decide) tw_788 rfl rfl rfl (Nat.le_of_ble_eq_true rfl) (by decide) (by decide) (by decide) (Nat.le_of_ble_eq_true rfl) (Nat.le_of_ble_eq_true rfl) d_Mod_init_23 d_Mod_init_25 (fun q6 f1 H1 locs1 hM hp => ?_)
  refine W.widen (k := 3) (n := 288) (by decide) (by decide) ?_
  have hp : mdp G o _ f f1 [(2, q2), (5, q5), (6, q6)] [.int 0, .int 0, .ref q2, .int 0, .int 0, .ref q5, .ref q6, .null, .null, .int 0, .int 0, .null, .null, .null, .null, .null, .null, .null, .null, .int 0, .null, .null, .null, .null, .null, .null, .null, .null, .null, .int 0, .int 0, .int 0, .null, .null, .null, .null, .null, .null, .int 0, .int 0] := hp
  refine W.eq (g2 := F0 m 28 ls []) rfl ?_
  refine lv_aload_n C.1 C.2.1 d_Mod_init_28 rfl (lo_at hl 0 rfl) ?_
  refine lv_bipush (v := 96) C.1 C.2.1 d_Mod_init_29 (by decide) ?_
  refine mi_Z C hE hM hp hnm tw_789 (Nat.le_of_ble_eq_true rfl) (by decide) (by decide) (Nat.le_of_ble_eq_true rfl) (Nat.le_of_ble_eq_true rfl) d_Mod_init_31 d_Mod_init_33 (fun q7 f1 H1 locs1 hM hp => ?_)
  refine W.widen (k := 4) (n := 384) (by decide) (by decide) ?_
  have hp : mdp G o _ f f1 [(2, q2), (5, q5), (6, q6), (7, q7)] [.int 0, .int 0, .ref q2, .int 0, .int 0, .ref q5, .ref q6, .ref q7, .null, .int 0, .int 0, .null, .null, .null, .null, .null, .null, .null, .null, .int 0, .null, .null, .null, .null, .null, .null, .null, .null, .null, .int 0, .int 0, .int 0, .null, .null, .null, .null, .null, .null, .int 0, .int 0] := hp
  refine W.eq (g2 := F0 m 36 ls []) rfl ?_
  refine lv_aload_n C.1 C.2.1 d_Mod_init_36 rfl (lo_at hl 0 rfl) ?_
  refine lv_bipush (v := 96) C.1 C.2.1 d_Mod_init_37 (by decide) ?_
  refine mi_I C hE hM hp hnm 8 (Nat.le_of_ble_eq_true rfl) (by decide) tw_790 rfl rfl rfl (Nat.le_of_ble_eq_true rfl) (by decide) (by decide) (by decide) (Nat.le_of_ble_eq_true rfl) (Nat.le_of_ble_eq_true rfl) d_Mod_init_39 d_Mod_init_41 (fun q8 f1 H1 locs1 hM hp => ?_)
  refine W.widen (k := 5) (n := 480) (by decide) (by decide) ?_
  have hp : mdp G o _ f f1 [(2, q2), (5, q5), (6, q6), (7, q7), (8, q8)] [.int 0, .int 0, .ref q2, .int 0, .int 0, .ref q5, .ref q6, .ref q7, .ref q8, .int 0, .int 0, .null, .null, .null, .null, .null, .null, .null, .null, .int 0, .null, .null, .null, .null, .null, .null, .null, .null, .null, .int 0, .int 0, .int 0, .null, .null, .null, .null, .null, .null, .int 0, .int 0] := hp
  refine W.eq (g2 := F0 m 44 ls []) rfl ?_
  refine lv_aload_n C.1 C.2.1 d_Mod_init_44 rfl (lo_at hl 0 rfl) ?_
  refine lv_bipush (v := 24) C.1 C.2.1 d_Mod_init_45 (by decide) ?_
  refine mi_I C hE hM hp hnm 11 (Nat.le_of_ble_eq_true rfl) (by decide) tw_793 rfl rfl rfl (Nat.le_of_ble_eq_true rfl) (by decide) (by decide) (by decide) (Nat.le_of_ble_eq_true rfl) (Nat.le_of_ble_eq_true rfl) d_Mod_init_47 d_Mod_init_49 (fun q11 f1 H1 locs1 hM hp => ?_)
  refine W.widen (k := 6) (n := 504) (by decide) (by decide) ?_
  have hp : mdp G o _ f f1 [(2, q2), (5, q5), (6, q6), (7, q7), (8, q8), (11, q11)] [.int 0, .int 0, .ref q2, .int 0, .int 0, .ref q5, .ref q6, .ref q7, .ref q8, .int 0, .int 0, .ref q11, .null, .null, .null, .null, .null, .null, .null, .int 0, .null, .null, .null, .null, .null, .null, .null, .null, .null, .int 0, .int 0, .int 0, .null, .null, .null, .null, .null, .null, .int 0, .int 0] := hp
  refine W.eq (g2 := F0 m 52 ls []) rfl ?_
  refine lv_aload_n C.1 C.2.1 d_Mod_init_52 rfl (lo_at hl 0 rfl) ?_
  refine lv_bipush (v := 24) C.1 C.2.1 d_Mod_init_53 (by decide) ?_
  refine mi_I C hE hM hp hnm 12 (Nat.le_of_ble_eq_true rfl) (by decide) tw_794 rfl rfl rfl (Nat.le_of_ble_eq_true rfl) (by decide) (by decide) (by decide) (Nat.le_of_ble_eq_true rfl) (Nat.le_of_ble_eq_true rfl) d_Mod_init_55 d_Mod_init_57 (fun q12 f1 H1 locs1 hM hp => ?_)
  refine W.widen (k := 7) (n := 528) (by decide) (by decide) ?_
  have hp : mdp G o _ f f1 [(2, q2), (5, q5), (6, q6), (7, q7), (8, q8), (11, q11), (12, q12)] [.int 0, .int 0, .ref q2, .int 0, .int 0, .ref q5, .ref q6, .ref q7, .ref q8, .int 0, .int 0, .ref q11, .ref q12, .null, .null, .null, .null, .null, .null, .int 0, .null, .null, .null, .null, .null, .null, .null, .null, .null, .int 0, .int 0, .int 0, .null, .null, .null, .null, .null, .null, .int 0, .int 0] := hp
  refine W.eq (g2 := F0 m 60 ls []) rfl ?_
  refine lv_aload_n C.1 C.2.1 d_Mod_init_60 rfl (lo_at hl 0 rfl) ?_
  refine lv_bipush (v := 24) C.1 C.2.1 d_Mod_init_61 (by decide) ?_
  refine mi_I C hE hM hp hnm 13 (Nat.le_of_ble_eq_true rfl) (by decide) tw_795 rfl rfl rfl (Nat.le_of_ble_eq_true rfl) (by decide) (by decide) (by decide) (Nat.le_of_ble_eq_true rfl) (Nat.le_of_ble_eq_true rfl) d_Mod_init_63 d_Mod_init_65 (fun q13 f1 H1 locs1 hM hp => ?_)
  refine W.widen (k := 8) (n := 552) (by decide) (by decide) ?_
  have hp : mdp G o _ f f1 [(2, q2), (5, q5), (6, q6), (7, q7), (8, q8), (11, q11), (12, q12), (13, q13)] [.int 0, .int 0, .ref q2, .int 0, .int 0, .ref q5, .ref q6, .ref q7, .ref q8, .int 0, .int 0, .ref q11, .ref q12, .ref q13, .null, .null, .null, .null, .null, .int 0, .null, .null, .null, .null, .null, .null, .null, .null, .null, .int 0, .int 0, .int 0, .null, .null, .null, .null, .null, .null, .int 0, .int 0] := hp
  refine W.eq (g2 := F0 m 68 ls []) rfl ?_
  refine lv_aload_n C.1 C.2.1 d_Mod_init_68 rfl (lo_at hl 0 rfl) ?_
  refine lv_bipush (v := 24) C.1 C.2.1 d_Mod_init_69 (by decide) ?_
  refine mi_I C hE hM hp hnm 14 (Nat.le_of_ble_eq_true rfl) (by decide) tw_796 rfl rfl rfl (Nat.le_of_ble_eq_true rfl) (by decide) (by decide) (by decide) (Nat.le_of_ble_eq_true rfl) (Nat.le_of_ble_eq_true rfl) d_Mod_init_71 d_Mod_init_73 (fun q14 f1 H1 locs1 hM hp => ?_)
  refine W.widen (k := 9) (n := 576) (by decide) (by decide) ?_
  have hp : mdp G o _ f f1 [(2, q2), (5, q5), (6, q6), (7, q7), (8, q8), (11, q11), (12, q12), (13, q13), (14, q14)] [.int 0, .int 0, .ref q2, .int 0, .int 0, .ref q5, .ref q6, .ref q7, .ref q8, .int 0, .int 0, .ref q11, .ref q12, .ref q13, .ref q14, .null, .null, .null, .null, .int 0, .null, .null, .null, .null, .null, .null, .null, .null, .null, .int 0, .int 0, .int 0, .null, .null, .null, .null, .null, .null, .int 0, .int 0] := hp
  refine W.eq (g2 := F0 m 76 ls []) rfl ?_
  refine lv_aload_n C.1 C.2.1 d_Mod_init_76 rfl (lo_at hl 0 rfl) ?_
  refine lv_bipush (v := 24) C.1 C.2.1 d_Mod_init_77 (by decide) ?_
  refine mi_I C hE hM hp hnm 15 (Nat.le_of_ble_eq_true rfl) (by decide) tw_797 rfl rfl rfl (Nat.le_of_ble_eq_true rfl) (by decide) (by decide) (by decide) (Nat.le_of_ble_eq_true rfl) (Nat.le_of_ble_eq_true rfl) d_Mod_init_79 d_Mod_init_81 (fun q15 f1 H1 locs1 hM hp => ?_)
  refine W.widen (k := 10) (n := 600) (by decide) (by decide) ?_
  have hp : mdp G o _ f f1 [(2, q2), (5, q5), (6, q6), (7, q7), (8, q8), (11, q11), (12, q12), (13, q13), (14, q14), (15, q15)] [.int 0, .int 0, .ref q2, .int 0, .int 0, .ref q5, .ref q6, .ref q7, .ref q8, .int 0, .int 0, .ref q11, .ref q12, .ref q13, .ref q14, .ref q15, .null, .null, .null, .int 0, .null, .null, .null, .null, .null, .null, .null, .null, .null, .int 0, .int 0, .int 0, .null, .null, .null, .null, .null, .null, .int 0, .int 0] := hp
  refine W.eq (g2 := F0 m 84 ls []) rfl ?_
  refine lv_aload_n C.1 C.2.1 d_Mod_init_84 rfl (lo_at hl 0 rfl) ?_
  refine lv_bipush (v := 24) C.1 C.2.1 d_Mod_init_85 (by decide) ?_
  refine mi_I C hE hM hp hnm 16 (Nat.le_of_ble_eq_true rfl) (by decide) tw_798 rfl rfl rfl (Nat.le_of_ble_eq_true rfl) (by decide) (by decide) (by decide) (Nat.le_of_ble_eq_true rfl) (Nat.le_of_ble_eq_true rfl) d_Mod_init_87 d_Mod_init_89 (fun q16 f1 H1 locs1 hM hp => ?_)
  refine W.widen (k := 11) (n := 624) (by decide) (by decide) ?_
  have hp : mdp G o _ f f1 [(2, q2), (5, q5), (6, q6), (7, q7), (8, q8), (11, q11), (12, q12), (13, q13), (14, q14), (15, q15), (16, q16)] [.int 0, .int 0, .ref q2, .int 0, .int 0, .ref q5, .ref q6, .ref q7, .ref q8, .int 0, .int 0, .ref q11, .ref q12, .ref q13, .ref q14, .ref q15, .ref q16, .null, .null, .int 0, .null, .null, .null, .null, .null, .null, .null, .null, .null, .int 0, .int 0, .int 0, .null, .null, .null, .null, .null, .null, .int 0, .int 0] := hp
  refine W.eq (g2 := F0 m 92 ls []) rfl ?_
  refine lv_aload_n C.1 C.2.1 d_Mod_init_92 rfl (lo_at hl 0 rfl) ?_
  refine lv_bipush (v := 24) C.1 C.2.1 d_Mod_init_93 (by decide) ?_
  refine mi_I C hE hM hp hnm 17 (Nat.le_of_ble_eq_true rfl) (by decide) tw_799 rfl rfl rfl (Nat.le_of_ble_eq_true rfl) (by decide) (by decide) (by decide) (Nat.le_of_ble_eq_true rfl) (Nat.le_of_ble_eq_true rfl) d_Mod_init_95 d_Mod_init_97 (fun q17 f1 H1 locs1 hM hp => ?_)
  refine W.widen (k := 12) (n := 648) (by decide) (by decide) ?_
  have hp : mdp G o _ f f1 [(2, q2), (5, q5), (6, q6), (7, q7), (8, q8), (11, q11), (12, q12), (13, q13), (14, q14), (15, q15), (16, q16), (17, q17)] [.int 0, .int 0, .ref q2, .int 0, .int 0, .ref q5, .ref q6, .ref q7, .ref q8, .int 0, .int 0, .ref q11, .ref q12, .ref q13, .ref q14, .ref q15, .ref q16, .ref q17, .null, .int 0, .null, .null, .null, .null, .null, .null, .null, .null, .null, .int 0, .int 0, .int 0, .null, .null, .null, .null, .null, .null, .int 0, .int 0] := hp
  refine W.eq (g2 := F0 m 100 ls []) rfl ?_
  refine lv_aload_n C.1 C.2.1 d_Mod_init_100 rfl (lo_at hl 0 rfl) ?_
  refine lv_bipush (v := 24) C.1 C.2.1 d_Mod_init_101 (by decide) ?_
  refine mi_I C hE hM hp hnm 18 (Nat.le_of_ble_eq_true rfl) (by decide) tw_800 rfl rfl rfl (Nat.le_of_ble_eq_true rfl) (by decide) (by decide) (by decide) (Nat.le_of_ble_eq_true rfl) (Nat.le_of_ble_eq_true rfl) d_Mod_init_103 d_Mod_init_105 (fun q18 f1 H1 locs1 hM hp => ?_)
  refine W.widen (k := 13) (n := 672) (by decide) (by decide) ?_
  have hp : mdp G o _ f f1 [(2, q2), (5, q5), (6, q6), (7, q7), (8, q8), (11, q11), (12, q12), (13, q13), (14, q14), (15, q15), (16, q16), (17, q17), (18, q18)] [.int 0, .int 0, .ref q2, .int 0, .int 0, .ref q5, .ref q6, .ref q7, .ref q8, .int 0, .int 0, .ref q11, .ref q12, .ref q13, .ref q14, .ref q15, .ref q16, .ref q17, .ref q18, .int 0, .null, .null, .null, .null, .null, .null, .null, .null, .null, .int 0, .int 0, .int 0, .null, .null, .null, .null, .null, .null, .int 0, .int 0] := hp
  refine W.eq (g2 := F0 m 108 ls []) rfl ?_
  refine lv_aload_n C.1 C.2.1 d_Mod_init_108 rfl (lo_at hl 0 rfl) ?_
  refine lv_sipush (v := 3600) C.1 C.2.1 d_Mod_init_109 (by decide) ?_
  refine mi_I C hE hM hp hnm 20 (Nat.le_of_ble_eq_true rfl) (by decide) tw_802 rfl rfl rfl (Nat.le_of_ble_eq_true rfl) (by decide) (by decide) (by decide) (Nat.le_of_ble_eq_true rfl) (Nat.le_of_ble_eq_true rfl) d_Mod_init_112 d_Mod_init_114 (fun q20 f1 H1 locs1 hM hp => ?_)
  refine W.widen (k := 14) (n := 4272) (by decide) (by decide) ?_
  have hp : mdp G o _ f f1 [(2, q2), (5, q5), (6, q6), (7, q7), (8, q8), (11, q11), (12, q12), (13, q13), (14, q14), (15, q15), (16, q16), (17, q17), (18, q18), (20, q20)] [.int 0, .int 0, .ref q2, .int 0, .int 0, .ref q5, .ref q6, .ref q7, .ref q8, .int 0, .int 0, .ref q11, .ref q12, .ref q13, .ref q14, .ref q15, .ref q16, .ref q17, .ref q18, .int 0, .ref q20, .null, .null, .null, .null, .null, .null, .null, .null, .int 0, .int 0, .int 0, .null, .null, .null, .null, .null, .null, .int 0, .int 0] := hp
  refine W.eq (g2 := F0 m 117 ls []) rfl ?_
  refine lv_aload_n C.1 C.2.1 d_Mod_init_117 rfl (lo_at hl 0 rfl) ?_
  refine lv_sipush (v := 3600) C.1 C.2.1 d_Mod_init_118 (by decide) ?_
  refine mi_I C hE hM hp hnm 21 (Nat.le_of_ble_eq_true rfl) (by decide) tw_803 rfl rfl rfl (Nat.le_of_ble_eq_true rfl) (by decide) (by decide) (by decide) (Nat.le_of_ble_eq_true rfl) (Nat.le_of_ble_eq_true rfl) d_Mod_init_121 d_Mod_init_123 (fun q21 f1 H1 locs1 hM hp => ?_)
  refine W.widen (k := 15) (n := 7872) (by decide) (by decide) ?_
  have hp : mdp G o _ f f1 [(2, q2), (5, q5), (6, q6), (7, q7), (8, q8), (11, q11), (12, q12), (13, q13), (14, q14), (15, q15), (16, q16), (17, q17), (18, q18), (20, q20), (21, q21)] [.int 0, .int 0, .ref q2, .int 0, .int 0, .ref q5, .ref q6, .ref q7, .ref q8, .int 0, .int 0, .ref q11, .ref q12, .ref q13, .ref q14, .ref q15, .ref q16, .ref q17, .ref q18, .int 0, .ref q20, .ref q21, .null, .null, .null, .null, .null, .null, .null, .int 0, .int 0, .int 0, .null, .null, .null, .null, .null, .null, .int 0, .int 0] := hp
  refine W.eq (g2 := F0 m 126 ls []) rfl ?_
  refine lv_aload_n C.1 C.2.1 d_Mod_init_126 rfl (lo_at hl 0 rfl) ?_
  refine lv_bipush (v := 6) C.1 C.2.1 d_Mod_init_127 (by decide) ?_
  refine mi_I C hE hM hp hnm 22 (Nat.le_of_ble_eq_true rfl) (by decide) tw_804 rfl rfl rfl (Nat.le_of_ble_eq_true rfl) (by decide) (by decide) (by decide) (Nat.le_of_ble_eq_true rfl) (Nat.le_of_ble_eq_true rfl) d_Mod_init_129 d_Mod_init_131 (fun q22 f1 H1 locs1 hM hp => ?_)
  refine W.widen (k := 16) (n := 7878) (by decide) (by decide) ?_
  have hp : mdp G o _ f f1 [(2, q2), (5, q5), (6, q6), (7, q7), (8, q8), (11, q11), (12, q12), (13, q13), (14, q14), (15, q15), (16, q16), (17, q17), (18, q18), (20, q20), (21, q21), (22, q22)] [.int 0, .int 0, .ref q2, .int 0, .int 0, .ref q5, .ref q6, .ref q7, .ref q8, .int 0, .int 0, .ref q11, .ref q12, .ref q13, .ref q14, .ref q15, .ref q16, .ref q17, .ref q18, .int 0, .ref q20, .ref q21, .ref q22, .null, .null, .null, .null, .null, .null, .int 0, .int 0, .int 0, .null, .null, .null, .null, .null, .null, .int 0, .int 0] := hp
  refine W.eq (g2 := F0 m 134 ls []) rfl ?_
  refine lv_aload_n C.1 C.2.1 d_Mod_init_134 rfl (lo_at hl 0 rfl) ?_
  refine lv_bipush (v := 6) C.1 C.2.1 d_Mod_init_135 (by decide) ?_
  refine mi_I C hE hM hp hnm 23 (Nat.le_of_ble_eq_true rfl) (by decide) tw_805 rfl rfl rfl (Nat.le_of_ble_eq_true rfl) (by decide) (by decide) (by decide) (Nat.le_of_ble_eq_true rfl) (Nat.le_of_ble_eq_true rfl) d_Mod_init_137 d_Mod_init_139 (fun q23 f1 H1 locs1 hM hp => ?_)
  refine W.widen (k := 17) (n := 7884) (by decide) (by decide) ?_
  have hp : mdp G o _ f f1 [(2, q2), (5, q5), (6, q6), (7, q7), (8, q8), (11, q11), (12, q12), (13, q13), (14, q14), (15, q15), (16, q16), (17, q17), (18, q18), (20, q20), (21, q21), (22, q22), (23, q23)] [.int 0, .int 0, .ref q2, .int 0, .int 0, .ref q5, .ref q6, .ref q7, .ref q8, .int 0, .int 0, .ref q11, .ref q12, .ref q13, .ref q14, .ref q15, .ref q16, .ref q17, .ref q18, .int 0, .ref q20, .ref q21, .ref q22, .ref q23, .null, .null, .null, .null, .null, .int 0, .int 0, .int 0, .null, .null, .null, .null, .null, .null, .int 0, .int 0] := hp
  refine W.eq (g2 := F0 m 142 ls []) rfl ?_
  refine lv_aload_n C.1 C.2.1 d_Mod_init_142 rfl (lo_at hl 0 rfl) ?_
  refine lv_bipush (v := 6) C.1 C.2.1 d_Mod_init_143 (by decide) ?_
  refine mi_I C hE hM hp hnm 24 (Nat.le_of_ble_eq_true rfl) (by decide) tw_806 rfl rfl rfl (Nat.le_of_ble_eq_true rfl) (by decide) (by decide) (by decide) (Nat.le_of_ble_eq_true rfl) (Nat.le_of_ble_eq_true rfl) d_Mod_init_145 d_Mod_init_147 (fun q24 f1 H1 locs1 hM hp => ?_)
  refine W.widen (k := 18) (n := 7890) (by decide) (by decide) ?_
  have hp : mdp G o _ f f1 [(2, q2), (5, q5), (6, q6), (7, q7), (8, q8), (11, q11), (12, q12), (13, q13), (14, q14), (15, q15), (16, q16), (17, q17), (18, q18), (20, q20), (21, q21), (22, q22), (23, q23), (24, q24)] [.int 0, .int 0, .ref q2, .int 0, .int 0, .ref q5, .ref q6, .ref q7, .ref q8, .int 0, .int 0, .ref q11, .ref q12, .ref q13, .ref q14, .ref q15, .ref q16, .ref q17, .ref q18, .int 0, .ref q20, .ref q21, .ref q22, .ref q23, .ref q24, .null, .null, .null, .null, .int 0, .int 0, .int 0, .null, .null, .null, .null, .null, .null, .int 0, .int 0] := hp
  refine W.eq (g2 := F0 m 150 ls []) rfl ?_
  refine lv_aload_n C.1 C.2.1 d_Mod_init_150 rfl (lo_at hl 0 rfl) ?_
  refine lv_bipush (v := 6) C.1 C.2.1 d_Mod_init_151 (by decide) ?_
  refine mi_I C hE hM hp hnm 25 (Nat.le_of_ble_eq_true rfl) (by decide) tw_807 rfl rfl rfl (Nat.le_of_ble_eq_true rfl) (by decide) (by decide) (by decide) (Nat.le_of_ble_eq_true rfl) (Nat.le_of_ble_eq_true rfl) d_Mod_init_153 d_Mod_init_155 (fun q25 f1 H1 locs1 hM hp => ?_)
  refine W.widen (k := 19) (n := 7896) (by decide) (by decide) ?_
  have hp : mdp G o _ f f1 [(2, q2), (5, q5), (6, q6), (7, q7), (8, q8), (11, q11), (12, q12), (13, q13), (14, q14), (15, q15), (16, q16), (17, q17), (18, q18), (20, q20), (21, q21), (22, q22), (23, q23), (24, q24), (25, q25)] [.int 0, .int 0, .ref q2, .int 0, .int 0, .ref q5, .ref q6, .ref q7, .ref q8, .int 0, .int 0, .ref q11, .ref q12, .ref q13, .ref q14, .ref q15, .ref q16, .ref q17, .ref q18, .int 0, .ref q20, .ref q21, .ref q22, .ref q23, .ref q24, .ref q25, .null, .null, .null, .int 0, .int 0, .int 0, .null, .null, .null, .null, .null, .null, .int 0, .int 0] := hp
  refine W.eq (g2 := F0 m 158 ls []) rfl ?_
  refine lv_aload_n C.1 C.2.1 d_Mod_init_158 rfl (lo_at hl 0 rfl) ?_
  refine lv_bipush (v := 6) C.1 C.2.1 d_Mod_init_159 (by decide) ?_
  refine mi_I C hE hM hp hnm 26 (Nat.le_of_ble_eq_true rfl) (by decide) tw_808 rfl rfl rfl (Nat.le_of_ble_eq_true rfl) (by decide) (by decide) (by decide) (Nat.le_of_ble_eq_true rfl) (Nat.le_of_ble_eq_true rfl) d_Mod_init_161 d_Mod_init_163 (fun q26 f1 H1 locs1 hM hp => ?_)
  refine W.widen (k := 20) (n := 7902) (by decide) (by decide) ?_
  have hp : mdp G o _ f f1 [(2, q2), (5, q5), (6, q6), (7, q7), (8, q8), (11, q11), (12, q12), (13, q13), (14, q14), (15, q15), (16, q16), (17, q17), (18, q18), (20, q20), (21, q21), (22, q22), (23, q23), (24, q24), (25, q25), (26, q26)] [.int 0, .int 0, .ref q2, .int 0, .int 0, .ref q5, .ref q6, .ref q7, .ref q8, .int 0, .int 0, .ref q11, .ref q12, .ref q13, .ref q14, .ref q15, .ref q16, .ref q17, .ref q18, .int 0, .ref q20, .ref q21, .ref q22, .ref q23, .ref q24, .ref q25, .ref q26, .null, .null, .int 0, .int 0, .int 0, .null, .null, .null, .null, .null, .null, .int 0, .int 0] := hp
  refine W.eq (g2 := F0 m 166 ls []) rfl ?_
  refine lv_aload_n C.1 C.2.1 d_Mod_init_166 rfl (lo_at hl 0 rfl) ?_
  refine lv_bipush (v := 6) C.1 C.2.1 d_Mod_init_167 (by decide) ?_
  refine mi_I C hE hM hp hnm 27 (Nat.le_of_ble_eq_true rfl) (by decide) tw_809 rfl rfl rfl (Nat.le_of_ble_eq_true rfl) (by decide) (by decide) (by decide) (Nat.le_of_ble_eq_true rfl) (Nat.le_of_ble_eq_true rfl) d_Mod_init_169 d_Mod_init_171 (fun q27 f1 H1 locs1 hM hp => ?_)
  refine W.widen (k := 21) (n := 7908) (by decide) (by decide) ?_
  have hp : mdp G o _ f f1 [(2, q2), (5, q5), (6, q6), (7, q7), (8, q8), (11, q11), (12, q12), (13, q13), (14, q14), (15, q15), (16, q16), (17, q17), (18, q18), (20, q20), (21, q21), (22, q22), (23, q23), (24, q24), (25, q25), (26, q26), (27, q27)] [.int 0, .int 0, .ref q2, .int 0, .int 0, .ref q5, .ref q6, .ref q7, .ref q8, .int 0, .int 0, .ref q11, .ref q12, .ref q13, .ref q14, .ref q15, .ref q16, .ref q17, .ref q18, .int 0, .ref q20, .ref q21, .ref q22, .ref q23, .ref q24, .ref q25, .ref q26, .ref q27, .null, .int 0, .int 0, .int 0, .null, .null, .null, .null, .null, .null, .int 0, .int 0] := hp
  refine W.eq (g2 := F0 m 174 ls []) rfl ?_
  refine lv_aload_n C.1 C.2.1 d_Mod_init_174 rfl (lo_at hl 0 rfl) ?_
  refine lv_bipush (v := 6) C.1 C.2.1 d_Mod_init_175 (by decide) ?_
  refine mi_I C hE hM hp hnm 28 (Nat.le_of_ble_eq_true rfl) (by decide) tw_810 rfl rfl rfl (Nat.le_of_ble_eq_true rfl) (by decide) (by decide) (by decide) (Nat.le_of_ble_eq_true rfl) (Nat.le_of_ble_eq_true rfl) d_Mod_init_177 d_Mod_init_179 (fun q28 f1 H1 locs1 hM hp => ?_)
  refine W.widen (k := 22) (n := 7914) (by decide) (by decide) ?_
  have hp : mdp G o _ f f1 [(2, q2), (5, q5), (6, q6), (7, q7), (8, q8), (11, q11), (12, q12), (13, q13), (14, q14), (15, q15), (16, q16), (17, q17), (18, q18), (20, q20), (21, q21), (22, q22), (23, q23), (24, q24), (25, q25), (26, q26), (27, q27), (28, q28)] [.int 0, .int 0, .ref q2, .int 0, .int 0, .ref q5, .ref q6, .ref q7, .ref q8, .int 0, .int 0, .ref q11, .ref q12, .ref q13, .ref q14, .ref q15, .ref q16, .ref q17, .ref q18, .int 0, .ref q20, .ref q21, .ref q22, .ref q23, .ref q24, .ref q25, .ref q26, .ref q27, .ref q28, .int 0, .int 0, .int 0, .null, .null, .null, .null, .null, .null, .int 0, .int 0] := hp
  refine W.eq (g2 := F0 m 182 ls []) rfl ?_
  refine lv_aload_n C.1 C.2.1 d_Mod_init_182 rfl (lo_at hl 0 rfl) ?_
  refine lv_bipush (v := 60) C.1 C.2.1 d_Mod_init_183 (by decide) ?_
  refine mi_I C hE hM hp hnm 32 (Nat.le_of_ble_eq_true rfl) (by decide) tw_814 rfl rfl rfl (Nat.le_of_ble_eq_true rfl) (by decide) (by decide) (by decide) (Nat.le_of_ble_eq_true rfl) (Nat.le_of_ble_eq_true rfl) d_Mod_init_185 d_Mod_init_187 (fun q32 f1 H1 locs1 hM hp => ?_)
  refine W.widen (k := 23) (n := 7974) (by decide) (by decide) ?_
  have hp : mdp G o _ f f1 [(2, q2), (5, q5), (6, q6), (7, q7), (8, q8), (11, q11), (12, q12), (13, q13), (14, q14), (15, q15), (16, q16), (17, q17), (18, q18), (20, q20), (21, q21), (22, q22), (23, q23), (24, q24), (25, q25), (26, q26), (27, q27), (28, q28), (32, q32)] [.int 0, .int 0, .ref q2, .int 0, .int 0, .ref q5, .ref q6, .ref q7, .ref q8, .int 0, .int 0, .ref q11, .ref q12, .ref q13, .ref q14, .ref q15, .ref q16, .ref q17, .ref q18, .int 0, .ref q20, .ref q21, .ref q22, .ref q23, .ref q24, .ref q25, .ref q26, .ref q27, .ref q28, .int 0, .int 0, .int 0, .ref q32, .null, .null, .null, .null, .null, .int 0, .int 0] := hp
  refine W.eq (g2 := F0 m 190 ls []) rfl ?_
  refine lv_aload_n C.1 C.2.1 d_Mod_init_190 rfl (lo_at hl 0 rfl) ?_
  refine lv_bipush (v := 60) C.1 C.2.1 d_Mod_init_191 (by decide) ?_
  refine mi_I C hE hM hp hnm 33 (Nat.le_of_ble_eq_true rfl) (by decide) tw_815 rfl rfl rfl (Nat.le_of_ble_eq_true rfl) (by decide) (by decide) (by decide) (Nat.le_of_ble_eq_true rfl) (Nat.le_of_ble_eq_true rfl) d_Mod_init_193 d_Mod_init_195 (fun q33 f1 H1 locs1 hM hp => ?_)
  refine W.widen (k := 24) (n := 8034) (by decide) (by decide) ?_
  have hp : mdp G o _ f f1 [(2, q2), (5, q5), (6, q6), (7, q7), (8, q8), (11, q11), (12, q12), (13, q13), (14, q14), (15, q15), (16, q16), (17, q17), (18, q18), (20, q20), (21, q21), (22, q22), (23, q23), (24, q24), (25, q25), (26, q26), (27, q27), (28, q28), (32, q32), (33, q33)] [.int 0, .int 0, .ref q2, .int 0, .int 0, .ref q5, .ref q6, .ref q7, .ref q8, .int 0, .int 0, .ref q11, .ref q12, .ref q13, .ref q14, .ref q15, .ref q16, .ref q17, .ref q18, .int 0, .ref q20, .ref q21, .ref q22, .ref q23, .ref q24, .ref q25, .ref q26, .ref q27, .ref q28, .int 0, .int 0, .int 0, .ref q32, .ref q33, .null, .null, .null, .null, .int 0, .int 0] := hp
  refine W.eq (g2 := F0 m 198 ls []) rfl ?_
  refine lv_aload_n C.1 C.2.1 d_Mod_init_198 rfl (lo_at hl 0 rfl) ?_
  refine lv_bipush (v := 60) C.1 C.2.1 d_Mod_init_199 (by decide) ?_
  refine mi_I C hE hM hp hnm 34 (Nat.le_of_ble_eq_true rfl) (by decide) tw_816 rfl rfl rfl (Nat.le_of_ble_eq_true rfl) (by decide) (by decide) (by decide) (Nat.le_of_ble_eq_true rfl) (Nat.le_of_ble_eq_true rfl) d_Mod_init_201 d_Mod_init_203 (fun q34 f1 H1 locs1 hM hp => ?_)
  refine W.widen (k := 25) (n := 8094) (by decide) (by decide) ?_
  have hp : mdp G o _ f f1 [(2, q2), (5, q5), (6, q6), (7, q7), (8, q8), (11, q11), (12, q12), (13, q13), (14, q14), (15, q15), (16, q16), (17, q17), (18, q18), (20, q20), (21, q21), (22, q22), (23, q23), (24, q24), (25, q25), (26, q26), (27, q27), (28, q28), (32, q32), (33, q33), (34, q34)] [.int 0, .int 0, .ref q2, .int 0, .int 0, .ref q5, .ref q6, .ref q7, .ref q8, .int 0, .int 0, .ref q11, .ref q12, .ref q13, .ref q14, .ref q15, .ref q16, .ref q17, .ref q18, .int 0, .ref q20, .ref q21, .ref q22, .ref q23, .ref q24, .ref q25, .ref q26, .ref q27, .ref q28, .int 0, .int 0, .int 0, .ref q32, .ref q33, .ref q34, .null, .null, .null, .int 0, .int 0] := hp
  refine W.eq (g2 := F0 m 206 ls []) rfl ?_
  refine lv_aload_n C.1 C.2.1 d_Mod_init_206 rfl (lo_at hl 0 rfl) ?_
  refine lv_sipush (v := 304) C.1 C.2.1 d_Mod_init_207 (by decide) ?_
  refine mi_L C hE hM hp hnm 35 (Nat.le_of_ble_eq_true rfl) rfl tw_817 rfl rfl rfl (Nat.le_of_ble_eq_true rfl) (by decide) (by decide) (by decide) (Nat.le_of_ble_eq_true rfl) (Nat.le_of_ble_eq_true rfl) d_Mod_init_210 d_Mod_init_212 (fun q35 f1 H1 locs1 hM hp => ?_)
  refine W.widen (k := 26) (n := 8398) (by decide) (by decide) ?_
  have hp : mdp G o _ f f1 [(2, q2), (5, q5), (6, q6), (7, q7), (8, q8), (11, q11), (12, q12), (13, q13), (14, q14), (15, q15), (16, q16), (17, q17), (18, q18), (20, q20), (21, q21), (22, q22), (23, q23), (24, q24), (25, q25), (26, q26), (27, q27), (28, q28), (32, q32), (33, q33), (34, q34), (35, q35)] [.int 0, .int 0, .ref q2, .int 0, .int 0, .ref q5, .ref q6, .ref q7, .ref q8, .int 0, .int 0, .ref q11, .ref q12, .ref q13, .ref q14, .ref q15, .ref q16, .ref q17, .ref q18, .int 0, .ref q20, .ref q21, .ref q22, .ref q23, .ref q24, .ref q25, .ref q26, .ref q27, .ref q28, .int 0, .int 0, .int 0, .ref q32, .ref q33, .ref q34, .ref q35, .null, .null, .int 0, .int 0] := hp
  refine W.eq (g2 := F0 m 215 ls []) rfl ?_
  refine lv_aload_n C.1 C.2.1 d_Mod_init_215 rfl (lo_at hl 0 rfl) ?_
  refine lv_sipush (v := 304) C.1 C.2.1 d_Mod_init_216 (by decide) ?_
  refine mi_L C hE hM hp hnm 36 (Nat.le_of_ble_eq_true rfl) rfl tw_818 rfl rfl rfl (Nat.le_of_ble_eq_true rfl) (by decide) (by decide) (by decide) (Nat.le_of_ble_eq_true rfl) (Nat.le_of_ble_eq_true rfl) d_Mod_init_219 d_Mod_init_221 (fun q36 f1 H1 locs1 hM hp => ?_)
  refine W.widen (k := 27) (n := 8702) (by decide) (by decide) ?_
  have hp : mdp G o _ f f1 [(2, q2), (5, q5), (6, q6), (7, q7), (8, q8), (11, q11), (12, q12), (13, q13), (14, q14), (15, q15), (16, q16), (17, q17), (18, q18), (20, q20), (21, q21), (22, q22), (23, q23), (24, q24), (25, q25), (26, q26), (27, q27), (28, q28), (32, q32), (33, q33), (34, q34), (35, q35), (36, q36)] [.int 0, .int 0, .ref q2, .int 0, .int 0, .ref q5, .ref q6, .ref q7, .ref q8, .int 0, .int 0, .ref q11, .ref q12, .ref q13, .ref q14, .ref q15, .ref q16, .ref q17, .ref q18, .int 0, .ref q20, .ref q21, .ref q22, .ref q23, .ref q24, .ref q25, .ref q26, .ref q27, .ref q28, .int 0, .int 0, .int 0, .ref q32, .ref q33, .ref q34, .ref q35, .ref q36, .null, .int 0, .int 0] := hp
  refine W.eq (g2 := F0 m 224 ls []) rfl ?_
  refine lv_aload_n C.1 C.2.1 d_Mod_init_224 rfl (lo_at hl 0 rfl) ?_
  refine lv_sipush (v := 908) C.1 C.2.1 d_Mod_init_225 (by decide) ?_
  refine mi_L C hE hM hp hnm 37 (Nat.le_of_ble_eq_true rfl) rfl tw_819 rfl rfl rfl (Nat.le_of_ble_eq_true rfl) (by decide) (by decide) (by decide) (Nat.le_of_ble_eq_true rfl) (Nat.le_of_ble_eq_true rfl) d_Mod_init_228 d_Mod_init_230 (fun q37 f1 H1 locs1 hM hp => ?_)
  refine W.widen (k := 28) (n := 9610) (by decide) (by decide) ?_
  have hp : mdp G o _ f f1 [(2, q2), (5, q5), (6, q6), (7, q7), (8, q8), (11, q11), (12, q12), (13, q13), (14, q14), (15, q15), (16, q16), (17, q17), (18, q18), (20, q20), (21, q21), (22, q22), (23, q23), (24, q24), (25, q25), (26, q26), (27, q27), (28, q28), (32, q32), (33, q33), (34, q34), (35, q35), (36, q36), (37, q37)] [.int 0, .int 0, .ref q2, .int 0, .int 0, .ref q5, .ref q6, .ref q7, .ref q8, .int 0, .int 0, .ref q11, .ref q12, .ref q13, .ref q14, .ref q15, .ref q16, .ref q17, .ref q18, .int 0, .ref q20, .ref q21, .ref q22, .ref q23, .ref q24, .ref q25, .ref q26, .ref q27, .ref q28, .int 0, .int 0, .int 0, .ref q32, .ref q33, .ref q34, .ref q35, .ref q36, .ref q37, .int 0, .int 0] := hp
  refine W.eq (g2 := F0 m 233 ls []) rfl ?_
  have hN : P ++ [q2] ++ [q5] ++ [q6] ++ [q7] ++ [q8] ++ [q11] ++ [q12] ++ [q13] ++ [q14] ++ [q15] ++ [q16] ++ [q17] ++ [q18] ++ [q20] ++ [q21] ++ [q22] ++ [q23] ++ [q24] ++ [q25] ++ [q26] ++ [q27] ++ [q28] ++ [q32] ++ [q33] ++ [q34] ++ [q35] ++ [q36] ++ [q37] = P ++ [q2, q5, q6, q7, q8, q11, q12, q13, q14, q15, q16, q17, q18, q20, q21, q22, q23, q24, q25, q26, q27, q28, q32, q33, q34, q35, q36, q37] := by simp only [List.append_assoc, List.cons_append, List.nil_append]
  refine pg_vret C hr hlk hM hN (Nat.le_refl _) (Nat.le_refl _) d_Mod_init_233 ⟨rfl, rfl, _, _, by rw [← hN]; exact hp, fun k => if k = 2 then q2 else if k = 5 then q5 else if k = 6 then q6 else if k = 7 then q7 else if k = 8 then q8 else if k = 11 then q11 else if k = 12 then q12 else if k = 13 then q13 else if k = 14 then q14 else if k = 15 then q15 else if k = 16 then q16 else if k = 17 then q17 else if k = 18 then q18 else if k = 20 then q20 else if k = 21 then q21 else if k = 22 then q22 else if k = 23 then q23 else if k = 24 then q24 else if k = 25 then q25 else if k = 26 then q26 else if k = 27 then q27 else if k = 28 then q28 else if k = 32 then q32 else if k = 33 then q33 else if k = 34 then q34 else if k = 35 then q35 else if k = 36 then q36 else if k = 37 then q37 else 0, rfl, rfl⟩
theorem mdp_mdS {G : GG} {o : Nat} {P : List Nat} {f0 f : Nat → va_E} {r : Nat → Nat} (h : mdp G o P f0 f ([2, 5, 6, 7, 8, 11, 12, 13, 14, 15, 16, 17, 18, 20, 21, 22, 23, 24, 25, 26, 27, 28, 32, 33, 34, 35, 36, 37].map (fun k => (k, r k))) (mdF (fun _ => 0) r)) : mdS G o r P f0 f (fun _ => 0) (fun _ _ => 0) (fun _ _ => 0) := by
  obtain ⟨h1, h2, h3, h4, h5⟩ := h
  have hin : ∀ k, mdR k = true → (k, r k) ∈ [2, 5, 6, 7, 8, 11, 12, 13, 14, 15, 16, 17, 18, 20, 21, 22, 23, 24, 25, 26, 27, 28, 32, 33, 34, 35, 36, 37].map (fun k => (k, r k)) := by
    intro k hk
    refine List.mem_map.mpr ⟨k, ?_, rfl⟩
    by_cases hl : k < 40
    · have key : ∀ k : Fin 40, mdR k.val = true → k.val ∈ [2, 5, 6, 7, 8, 11, 12, 13, 14, 15, 16, 17, 18, 20, 21, 22, 23, 24, 25, 26, 27, 28, 32, 33, 34, 35, 36, 37] := by decide
      exact key ⟨k, hl⟩ hk
    · exfalso
      have : mdR k = false := by
        unfold mdR mdI mdL
        split
        all_goals first | omega | (split; all_goals first | omega | (simp; omega))
      rw [this] at hk; cases hk
  refine ⟨⟨h2, fun k hk => (h3 _ (hin k hk)).1⟩, ⟨fun k hk => (h3 _ (hin k hk)).2.1, fun k j hk hj e => congrArg Prod.fst (h4 _ (hin k hk) _ (hin j hj) e)⟩, ⟨h1, fun k hk => ?_, ?_, fun k hk => ?_⟩, fun a ha hb => h5 a ha (fun x hx => ?_)⟩
  · rw [(h3 _ (hin k (mdI_R hk))).2.2]
    have hL : mdL k = false := by
      cases e : mdL k with
      | false => rfl
      | true => exact absurd rfl (mdI_L hk e)
    show arK G k = _
    rw [arK, hL, if_neg (by decide), if_neg (mdI_7 hk)]; rfl
  · rw [(h3 _ (hin 7 rfl)).2.2]; rfl
  · rw [(h3 _ (hin k (mdL_R hk))).2.2]
    show arK G k = _
    rw [arK, hk, if_pos rfl]; rfl
  · obtain ⟨k, hk, rfl⟩ := List.mem_map.mp hx
    have key : ∀ k ∈ [2, 5, 6, 7, 8, 11, 12, 13, 14, 15, 16, 17, 18, 20, 21, 22, 23, 24, 25, 26, 27, 28, 32, 33, 34, 35, 36, 37], mdR k = true := by decide
    exact hb k (key k hk)
