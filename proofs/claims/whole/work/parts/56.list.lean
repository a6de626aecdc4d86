/-! lists -/
/-- an object that a list may hold -/
def oOk (P : List Nat) (f : Nat → va_E) (y : Nat) : Prop := y ∈ P ∧ ∃ ci fs r, f y = .inr (ci, fs) ∧ cl[ci]? = some r ∧ Cond.castable r.1 "java/lang/Object" ∈ nwl ∧ ci ≠ 3
theorem oOk.ne {P : List Nat} {f : Nat → va_E} {y b : Nat} {fs : List Value} (h : oOk P f y) (hb : f b = .inr (3, fs)) : y ≠ b := by
  obtain ⟨-, ci, gs, r, h1, -, -, h2⟩ := h
  exact ob_ne h1 hb h2
theorem oOk.neA {P : List Nat} {f : Nat → va_E} {y b : Nat} {x : ClassId × vp_A} (h : oOk P f y) (hb : f b = .inl x) : y ≠ b := by
  obtain ⟨-, ci, gs, r, h1, -⟩ := h
  exact (ar_ne hb h1).symm
theorem oOk.mv {P P1 : List Nat} {f f1 : Nat → va_E} {y : Nat} (h : oOk P f y) (hf : f1 y = f y) (hP : y ∈ P1) : oOk P1 f1 y := by
  obtain ⟨-, ci, gs, r, h1, h2⟩ := h
  exact ⟨hP, ci, gs, r, hf.trans h1, h2⟩
theorem ct_introF {l : Launch} {G : GG} {y : MethodName} {cc : ByteArray} {nL : Nat} {rt : Option FieldType} {fr lc mc ms : Nat} {av : List Value} {L : List Nat} {f : Nat → va_E} {post : Option Value → List Nat → (Nat → va_E) → Prop} (hy : plainFor y = true) (vs : List (Option Value)) (h1 : vs.length = nL) (h2 : loL 0 vs = lv_args 0 av) (h3 : (lg_sl av).length ≤ nL)
    (body : ∀ (p : Program) (e : Env) (s : State) (m : MethodId) (below : List Frame) (meth : Method) (c : Code) (ls : Array Slot), CallFix p m c cc nL s av.toArray bg y.cls → meth.sig.returnType = rt → meth.locks = false → meth.name = y.name → ev G (pgA L s.heap.size) s s.heap → pgS G (pgA L s.heap.size) s.heap L f s.heap [] → lo ls vs → W p l e { frames := fr, cells := mc, slots := ms, locals := lc } s m av.toArray below meth c s.heap [] 0 0 (pQ G below av s L post mc ms) (F0 m 0 ls [])) : ct l G y cc nL rt fr lc mc ms av L f post := by
  intro sz
  refine va_MetF (cc := cc) (maxL := nL) (ret := rt) hy rfl ?_
  intro p e s m args below meth c s₁ B hml hv
  obtain ⟨rfl, hsz, hR, hE⟩ := hv
  subst hsz
  have hts := atoms_spec (ws := Cond.code y cc nL rt :: bg) B.pre
  have hl := lv_entry av (n := nL) h3
  rw [lg_entry_eq]
  generalize (lg_sl av ++ List.replicate (nL - (lg_sl av).length) Slot.unset).toArray = ls at hl ⊢
  exact body p e s m below meth c ls ⟨B.exec, B.bytes, hml, findClass_of_methodNamed B.named, fun w h => hts w (List.mem_cons_of_mem _ h)⟩ B.returns B.notSynchronized (name_of_methodNamed B.named B.method).1 hE ⟨hR.1, pg_plD hR.2 (fun q h => Or.inl h), va_S.rf, fun q h => Or.inr h⟩ (by unfold lo; rw [h1, h2]; exact hl)
section CG6
variable {p : Program} {l : Launch} {e : Env} {R : Room} {s : State} {m : MethodId} {args : Array Value} {below : List Frame} {meth : Method} {c : Code} {H : Heap} {locs : List Loc} {cells slots : Nat} {Q : State → Prop}
variable {cc : ByteArray} {pc nL : Nat} {ls : Array Slot} {rest : List Value} {G : GG} {A : Nat → Prop} {a : Nat} {H0 : Heap} {L P : List Nat} {f : Nat → va_E} {own : String}
theorem cg_any (hE : ev G A s H0) (hM : pgS G A H0 P f H locs) {y : Nat} (h : oOk P f y) : va_Any "java/lang/Object" s H y := by
  obtain ⟨h1, ci, fs, r, h2, h3, h4, -⟩ := h
  obtain ⟨q0, he⟩ := hM.ix h1
  rw [h2] at he
  refine va_rAny hE.1.1 hM.1 he h3 (fun comp c0 g1 g2 => ?_)
  obtain ⟨c1, t1, f1, f2, f3⟩ := Cond.castable_spec (va_Nw.use (A := #[]) rfl (hE.1.2.1 _ h4))
  cases Option.some.inj (g1.symm.trans f2)
  cases Option.some.inj (g2.symm.trans f1)
  exact f3
theorem cg_copy (C : CallFix p m c cc nL s args bg own) (hE : ev G A s H0) (hM : pgS G A H0 P f H locs) {a0 : Nat} (h0 : a0 ∈ P) {n0 n1 : Nat} {g0 g1 : Nat → Option Nat} (hf0 : f a0 = arR G 5 n0 g0) (ha : a ∈ P) (hf : f a = arR G 5 n1 g1) (sp dp n : Nat) {x y z : Int32} (hx : x = nI sp) (hy : y = nI dp) (hz : z = nI n) (h4 : sp + n ≤ n0) (h5 : dp + n ≤ n1) (hb : n0 < 100000 ∧ n1 < 100000) (hel : ∀ i, i < n → ∀ y, g0 (sp + i) = some y → oOk P f y) {index : Nat} (w1 : Cond.methodLink own index arraycopyName ∈ bg) (hs : ls.size = nL) (hR1 : 1 ≤ R.frames) (hR2 : 8 + (nativeFrameWords "java/lang/System" "arraycopy" 5 + 11) ≤ R.locals) (hrs : (rest.map fun v => v.category).sum ≤ 8) (hdg : decode cc pc = .ok (.invokestatic index, 3))
    (kk : ∀ (f1 : Nat → va_E) (H1 : Heap) (locs1 : List Loc), f1 = va_up f a (arR G 5 n1 (va_cpy g0 g1 sp dp n)) → pgS G A H0 P f1 H1 locs1 → W p l e R s m args below meth c H1 locs1 cells slots Q (F0 m (pc + 3) ls rest)) : W p l e R s m args below meth c H locs cells slots Q (F0 m pc ls (.int z :: .int y :: .ref a :: .int x :: .ref a0 :: rest)) := by
  subst hx; subst hy; subst hz
  obtain ⟨q0, he0⟩ := hM.ix h0
  obtain ⟨q1, he1⟩ := hM.ix ha
  have hst := fun e => pg_set (e := e) hM.2.1 ha he1
  rw [hf0] at he0
  rw [hf] at he1
  have c1 := nI_clamp (n := sp) (by omega)
  have c2 := nI_clamp (n := dp) (by omega)
  have c3 := nI_clamp (n := n) (by omega)
  refine va_copyM C.1 C.2.1 (by rw [C.2.2.1]; exact hs.symm) C.2.2.2.1 (C.2.2.2.2 _ w1) (C.2.2.2.2 _ tw_203) (C.2.2.2.2 _ tw_202) (C.2.2.2.2 _ tw_20) hE.1.1 hM.1 hM.2.1 hM.2.2.1 q0 q1 5 5 he0 he1 rfl rfl (nI_nn (by omega)) (nI_nn (by omega)) (nI_nn (by omega)) (by rw [c1, c3]; exact h4) (by rw [c2, c3]; exact h5) (fun i hi y hy => cg_any hE hM (hel i (by rw [c3] at hi; exact hi) y (by rw [c1] at hy; exact hy))) hR1 (by omega) hdg (fun H1 locs1 b1 b2 b3 => ?_)
  rw [c1, c2, c3, hst] at b1 b2
  exact kk _ H1 locs1 rfl ⟨b1, b2, b3, hM.2.2.2⟩
theorem cg_getC (C : CallFix p m c cc nL s args bg own) (hE : ev G A s H0) (hM : pgS G A H0 P f H locs) (ha : a ∈ P) {n : Nat} {g : Nat → Option Nat} (hf : f a = arR G 5 n g) {index : Nat} (w1 : Cond.methodLink own index ⟨"java/lang/Object", "getClass", "()Ljava/lang/Class;"⟩ ∈ bg) (hs : ls.size = nL) (hR1 : 1 ≤ R.frames) (hR2 : 22 ≤ R.locals) (hrs : (rest.map fun v => v.category).sum ≤ 8) (hdg : decode cc pc = .ok (.invokevirtual index, 3))
    (kk : W p l e R s m args below meth c H locs cells slots Q (F0 m (pc + 3) ls (.ref (G.2.1 9) :: rest))) : W p l e R s m args below meth c H locs cells slots Q (F0 m pc ls (.ref a :: rest)) := by
  obtain ⟨q0, he⟩ := hM.ix ha
  rw [hf] at he
  refine va_getC (C := "[Ljava/lang/Object;") C.1 C.2.1 (by rw [C.2.2.1]; exact hs.symm) C.2.2.2.1 (C.2.2.2.2 _ w1) (va_Nw.use rfl (hE.1.2.1 _ nw_1075)) (C.2.2.2.2 _ tw_1074) (C.2.2.2.2 _ tw_244) (C.2.2.2.2 _ tw_259) hE.2.2.1.1 ⟨_, hM.1 q0 _ he, rfl, ?_⟩ hR1 (by omega) hdg kk
  exact va_nmO (hE.1.1.2 5 _ rfl).2 rfl
theorem cg_ldcM (C : CallFix p m c cc nL s args bg own) (hE : ev G A s H0) {index : Nat} (w1 : Cond.classLink own index "[Ljava/lang/Object;" ∈ bg) (hdg : decode cc pc = .ok (.ldc index, 2))
    (kk : W p l e R s m args below meth c H locs cells slots Q (F0 m (pc + 2) ls (.ref (G.2.1 9) :: rest))) : W p l e R s m args below meth c H locs cells slots Q (F0 m pc ls rest) :=
  va_ldcM C.1 C.2.1 C.2.2.2.1 (C.2.2.2.2 _ w1) hE.2.2.1.1 hdg kk
end CG6
theorem mx_nI {a b : Nat} (ha : a < 2147483648) (hb : b < 2147483648) : mx (nI a) (nI b) = nI (max a b) := by
  unfold mx
  by_cases h : a ≤ b
  · rw [if_pos ((nI_leI ha hb).mpr h), Nat.max_eq_right h]
  · rw [if_neg (fun z => h ((nI_leI ha hb).mp z)), Nat.max_eq_left (by omega)]
set_option maxHeartbeats 4000000 in
set_option maxRecDepth 100000 in
theorem k_Mth_max (l : Launch) (G : GG) {P : List Nat} {f : Nat → va_E} (a b : Int32)  : ct0 l G y_Mth_max c_Mth_max 2 (some .int) 0 0 [.int a, .int b] P f (fun x f1 => x = some (.int (mx a b)) ∧ f1 = f) := by
  refine ct_introF (by decide +kernel) [some (.int a), some (.int b)] rfl rfl (Nat.le_of_ble_eq_true rfl) ?_
  intro p e s m below meth c ls C hr hlk hnm hE hM hl
  refine lv_iload_n C.1 C.2.1 d_Mth_max_0 rfl (lo_at hl 0 rfl) ?_
  refine lv_iload_n C.1 C.2.1 d_Mth_max_1 rfl (lo_at hl 1 rfl) ?_
  refine lv_icmp_lt (tgt := 9) C.1 C.2.1 d_Mth_max_2 (by decide) (fun hc2 => ?_) (fun hc2 => ?_)
  · refine lv_iload_n C.1 C.2.1 d_Mth_max_9 rfl (lo_at hl 1 rfl) ?_
    refine cg_iret C hr hlk hM d_Mth_max_10 ?_
    refine ⟨?_, rfl⟩
    unfold mx
    rw [if_pos (Int32.le_of_lt hc2)]
  · refine lv_iload_n C.1 C.2.1 d_Mth_max_5 rfl (lo_at hl 0 rfl) ?_
    refine lv_goto (tgt := 10) C.1 C.2.1 d_Mth_max_6 (by decide) ?_
    refine cg_iret C hr hlk hM d_Mth_max_10 ?_
    refine ⟨?_, rfl⟩
    unfold mx
    by_cases h : a ≤ b
    · rw [if_pos h, Int32.le_antisymm h (Int32.not_lt.mp hc2)]
    · rw [if_neg h]
set_option maxHeartbeats 4000000 in
set_option maxRecDepth 100000 in
theorem k_Mth_min (l : Launch) (G : GG) {P : List Nat} {f : Nat → va_E} (a b : Int32)  : ct0 l G y_Mth_min c_Mth_min 2 (some .int) 0 0 [.int a, .int b] P f (fun x f1 => x = some (.int (if a ≤ b then a else b)) ∧ f1 = f) := by
  refine ct_introF (by decide +kernel) [some (.int a), some (.int b)] rfl rfl (Nat.le_of_ble_eq_true rfl) ?_
  intro p e s m below meth c ls C hr hlk hnm hE hM hl
  refine lv_iload_n C.1 C.2.1 d_Mth_min_0 rfl (lo_at hl 0 rfl) ?_
  refine lv_iload_n C.1 C.2.1 d_Mth_min_1 rfl (lo_at hl 1 rfl) ?_
  refine lv_icmp_gt (tgt := 9) C.1 C.2.1 d_Mth_min_2 (by decide) (fun hc2 => ?_) (fun hc2 => ?_)
  · refine lv_iload_n C.1 C.2.1 d_Mth_min_9 rfl (lo_at hl 1 rfl) ?_
    refine cg_iret C hr hlk hM d_Mth_min_10 ?_
    refine ⟨?_, rfl⟩
    rw [if_neg (Int32.not_le.mpr hc2)]
  · refine lv_iload_n C.1 C.2.1 d_Mth_min_5 rfl (lo_at hl 0 rfl) ?_
    refine lv_goto (tgt := 10) C.1 C.2.1 d_Mth_min_6 (by decide) ?_
    refine cg_iret C hr hlk hM d_Mth_min_10 ?_
    refine ⟨?_, rfl⟩
    rw [if_pos (Int32.not_lt.mp hc2)]
set_option maxHeartbeats 4000000 in
set_option maxRecDepth 100000 in
theorem k_Pre_checkIndex (l : Launch) (G : GG) {P : List Nat} {f : Nat → va_E} (i n : Nat) (hi : i < n) (hn : n < 2147483648)  : ct0 l G y_Pre_checkIndex c_Pre_checkIndex 3 (some .int) 0 0 [.int (nI i), .int (nI n), .null] P f (fun x f1 => x = some (.int (nI i)) ∧ f1 = f) := by
  refine ct_intro (by decide) [some (.int (nI i)), some (.int (nI n)), some (.null)] rfl rfl (Nat.le_of_ble_eq_true rfl) ?_
  intro p e s m below meth c ls C hr hlk hnm hE hM hl
  refine lv_iload_n C.1 C.2.1 d_Pre_checkIndex_0 rfl (lo_at hl 0 rfl) ?_
  refine lv_if_lt (tgt := 9) C.1 C.2.1 d_Pre_checkIndex_1 (by decide) (fun hc1 => False.elim (nI_nn (by omega) hc1)) (fun hc1 => ?_)
  refine lv_iload_n C.1 C.2.1 d_Pre_checkIndex_4 rfl (lo_at hl 0 rfl) ?_
  refine lv_iload_n C.1 C.2.1 d_Pre_checkIndex_5 rfl (lo_at hl 1 rfl) ?_
  refine lv_icmp_lt (tgt := 16) C.1 C.2.1 d_Pre_checkIndex_6 (by decide) (fun hc6 => ?_) (fun hc6 => False.elim (hc6 ((nI_ltI (by omega) (by omega)).mpr hi)))
  refine lv_iload_n C.1 C.2.1 d_Pre_checkIndex_16 rfl (lo_at hl 0 rfl) ?_
  refine cg_iret C hr hlk hM d_Pre_checkIndex_17 ?_
  exact ⟨rfl, rfl⟩
set_option maxHeartbeats 4000000 in
set_option maxRecDepth 100000 in
theorem k_Obs_checkIndex (l : Launch) (G : GG) {P : List Nat} {f : Nat → va_E} (i n : Nat) (hi : i < n) (hn : n < 2147483648)  : ct0 l G y_Obs_checkIndex c_Obs_checkIndex 2 (some .int) 1 22 [.int (nI i), .int (nI n)] P f (fun x f1 => x = some (.int (nI i)) ∧ f1 = f) := by
  refine ct_intro (by decide) [some (.int (nI i)), some (.int (nI n))] rfl rfl (Nat.le_of_ble_eq_true rfl) ?_
  intro p e s m below meth c ls C hr hlk hnm hE hM hl
  refine lv_iload_n C.1 C.2.1 d_Obs_checkIndex_0 rfl (lo_at hl 0 rfl) ?_
  refine lv_iload_n C.1 C.2.1 d_Obs_checkIndex_1 rfl (lo_at hl 1 rfl) ?_
  refine lv_null C.1 C.2.1 d_Obs_checkIndex_2 ?_
  refine cg_callS C hE hM (k_Pre_checkIndex l G i n hi hn) tw_152 cy_Pre_checkIndex ⟨(Nat.le_of_ble_eq_true rfl), (Nat.le_of_ble_eq_true rfl)⟩ rfl hl.1 rfl (Nat.le_of_ble_eq_true rfl) ⟨Nat.zero_le _, Nat.zero_le _⟩ d_Obs_checkIndex_3 (fun x9 f1 H1 locs1 hp hM => ?_)
  obtain ⟨rfl, h9⟩ := hp
  rw [h9] at hM
  clear h9
  refine W.eq (g2 := F0 m 6 ls [_]) rfl ?_
  refine cg_iret C hr hlk hM d_Obs_checkIndex_6 ?_
  exact ⟨rfl, rfl⟩
set_option maxHeartbeats 4000000 in
set_option maxRecDepth 100000 in
theorem k_AL_size (l : Launch) (G : GG) {P : List Nat} {f : Nat → va_E} (b d : Nat) (m0 : Int32) (n : Nat) (hm_b : b ∈ P) (hc_b : f b = .inr (3, [.ref d, .int (nI n), .int m0]))  : ct0 l G y_AL_size c_AL_size 1 (some .int) 0 0 [.ref b] P f (fun x f1 => x = some (.int (nI n)) ∧ f1 = f) := by
  refine ct_intro (by decide) [some (.ref b)] rfl rfl (Nat.le_of_ble_eq_true rfl) ?_
  intro p e s m below meth c ls C hr hlk hnm hE hM hl
  refine lv_aload_n C.1 C.2.1 d_AL_size_0 rfl (lo_at hl 0 rfl) ?_
  refine pg_get C hE hM hm_b hc_b rfl in_AL 1 (Nat.le_of_ble_eq_true rfl) tw_66 rfl rfl d_AL_size_1 ?_
  refine cg_iret C hr hlk hM d_AL_size_4 ?_
  exact ⟨rfl, rfl⟩
set_option maxHeartbeats 4000000 in
set_option maxRecDepth 100000 in
theorem k_AL_elementData (l : Launch) (G : GG) {P : List Nat} {f : Nat → va_E} (b d : Nat) (m0 : Int32) (n : Nat) (hm_b : b ∈ P) (hc_b : f b = .inr (3, [.ref d, .int (nI n), .int m0])) (cap : Nat) (h : Nat → Option Nat) (hm_d : d ∈ P) (hc_d : f d = arR G 5 cap h) (hcap : cap < 100000) (i y : Nat) (hi : i < cap) (hy : h i = some y)  : ct0 l G y_AL_elementData c_AL_elementData 2 (some (.object "java/lang/Object")) 0 0 [.ref b, .int (nI i)] P f (fun x f1 => x = some (.ref y) ∧ f1 = f) := by
  refine ct_intro (by decide) [some (.ref b), some (.int (nI i))] rfl rfl (Nat.le_of_ble_eq_true rfl) ?_
  intro p e s m below meth c ls C hr hlk hnm hE hM hl
  refine lv_aload_n C.1 C.2.1 d_AL_elementData_0 rfl (lo_at hl 0 rfl) ?_
  refine pg_get C hE hM hm_b hc_b rfl in_AL 0 (Nat.le_of_ble_eq_true rfl) tw_65 rfl rfl d_AL_elementData_1 ?_
  refine lv_iload_n C.1 C.2.1 d_AL_elementData_4 rfl (lo_at hl 1 rfl) ?_
  refine cg_aald C hE hM hm_d hc_d rfl i rfl hi (by omega) hy d_AL_elementData_5 ?_
  refine cg_aret C hr (Or.inl ⟨_, rfl⟩) hlk (Or.inr ⟨_, rfl⟩) hM d_AL_elementData_6 ?_
  exact ⟨rfl, rfl⟩
set_option maxHeartbeats 4000000 in
set_option maxRecDepth 100000 in
theorem k_AL_get (l : Launch) (G : GG) {P : List Nat} {f : Nat → va_E} (b d : Nat) (m0 : Int32) (n : Nat) (hm_b : b ∈ P) (hc_b : f b = .inr (3, [.ref d, .int (nI n), .int m0])) (cap : Nat) (h : Nat → Option Nat) (hm_d : d ∈ P) (hc_d : f d = arR G 5 cap h) (hcap : cap < 100000) (i y : Nat) (hi : i < n) (hnc : n ≤ cap) (hy : h i = some y)  : ct0 l G y_AL_get c_AL_get 2 (some (.object "java/lang/Object")) 2 43 [.ref b, .int (nI i)] P f (fun x f1 => x = some (.ref y) ∧ f1 = f) := by
  refine ct_intro (by decide) [some (.ref b), some (.int (nI i))] rfl rfl (Nat.le_of_ble_eq_true rfl) ?_
  intro p e s m below meth c ls C hr hlk hnm hE hM hl
  refine lv_iload_n C.1 C.2.1 d_AL_get_0 rfl (lo_at hl 1 rfl) ?_
  refine lv_aload_n C.1 C.2.1 d_AL_get_1 rfl (lo_at hl 0 rfl) ?_
  refine pg_get C hE hM hm_b hc_b rfl in_AL 1 (Nat.le_of_ble_eq_true rfl) tw_66 rfl rfl d_AL_get_2 ?_
  refine cg_callS C hE hM (k_Obs_checkIndex l G i n hi (by omega)) tw_149 cy_Obs_checkIndex ⟨(Nat.le_of_ble_eq_true rfl), (Nat.le_of_ble_eq_true rfl)⟩ rfl hl.1 rfl (Nat.le_of_ble_eq_true rfl) ⟨Nat.zero_le _, Nat.zero_le _⟩ d_AL_get_5 (fun x9 f1 H1 locs1 hp hM => ?_)
  obtain ⟨rfl, h9⟩ := hp
  rw [h9] at hM
  clear h9
  refine W.eq (g2 := F0 m 8 ls [_]) rfl ?_
  refine lv_pop C.1 C.2.1 d_AL_get_8 rfl ?_
  refine lv_aload_n C.1 C.2.1 d_AL_get_9 rfl (lo_at hl 0 rfl) ?_
  refine lv_iload_n C.1 C.2.1 d_AL_get_10 rfl (lo_at hl 1 rfl) ?_
  refine cg_callV C hE hM (k_AL_elementData l G b d m0 n hm_b hc_b cap h hm_d hc_d hcap i y (by omega) hy) hm_b hc_b rfl tw_155 cy_AL_elementData ⟨(Nat.le_of_ble_eq_true rfl), (Nat.le_of_ble_eq_true rfl)⟩ rfl hl.1 rfl (Nat.le_of_ble_eq_true rfl) ⟨Nat.zero_le _, Nat.zero_le _⟩ d_AL_get_11 (fun x9 f2 H1 locs1 hp hM => ?_)
  obtain ⟨rfl, h9⟩ := hp
  rw [h9] at hM
  clear h9
  refine W.eq (g2 := F0 m 14 ls [_]) rfl ?_
  refine cg_aret C hr (Or.inl ⟨_, rfl⟩) hlk (Or.inr ⟨_, rfl⟩) hM d_AL_get_14 ?_
  exact ⟨rfl, rfl⟩
set_option maxHeartbeats 4000000 in
set_option maxRecDepth 100000 in
theorem k_ABC_init (l : Launch) (G : GG) {P : List Nat} {f : Nat → va_E} (b : Nat)  : ct0 l G y_ABC_init c_ABC_init 1 none 1 20 [.ref b] P f (fun x f1 => x = none ∧ f1 = f) := by
  refine ct_intro (by decide) [some (.ref b)] rfl rfl (Nat.le_of_ble_eq_true rfl) ?_
  intro p e s m below meth c ls C hr hlk hnm hE hM hl
  refine lv_aload_n C.1 C.2.1 d_ABC_init_0 rfl (lo_at hl 0 rfl) ?_
  refine W.objInit C.1 C.2.1 C.2.2.2.1 (C.2.2.2.2 _ tw_62) (C.2.2.2.2 _ tw_32) (C.2.2.2.2 _ tw_33) rfl (by rw [C.2.2.1]; exact hl.1) rfl d_ABC_init_1 (Nat.le_of_ble_eq_true rfl) (Nat.le_of_ble_eq_true rfl) ?_
  refine W.eq (g2 := F0 m 4 ls []) rfl ?_
  refine cg_vret C hr hlk hM d_ABC_init_4 ?_
  exact ⟨rfl, rfl⟩
set_option maxHeartbeats 4000000 in
set_option maxRecDepth 100000 in
theorem k_Rec_init (l : Launch) (G : GG) {P : List Nat} {f : Nat → va_E} (b : Nat)  : ct0 l G y_Rec_init c_Rec_init 1 none 1 20 [.ref b] P f (fun x f1 => x = none ∧ f1 = f) := by
  refine ct_intro (by decide) [some (.ref b)] rfl rfl (Nat.le_of_ble_eq_true rfl) ?_
  intro p e s m below meth c ls C hr hlk hnm hE hM hl
  refine lv_aload_n C.1 C.2.1 d_Rec_init_0 rfl (lo_at hl 0 rfl) ?_
  refine W.objInit C.1 C.2.1 C.2.2.2.1 (C.2.2.2.2 _ tw_641) (C.2.2.2.2 _ tw_32) (C.2.2.2.2 _ tw_33) rfl (by rw [C.2.2.1]; exact hl.1) rfl d_Rec_init_1 (Nat.le_of_ble_eq_true rfl) (Nat.le_of_ble_eq_true rfl) ?_
  refine W.eq (g2 := F0 m 4 ls []) rfl ?_
  refine cg_vret C hr hlk hM d_Rec_init_4 ?_
  exact ⟨rfl, rfl⟩
set_option maxHeartbeats 4000000 in
set_option maxRecDepth 100000 in
theorem k_ABL_init (l : Launch) (G : GG) {P : List Nat} {f : Nat → va_E} (b : Nat) (hm_b : b ∈ P) (hc_b : f b = .inr (3, [.null, .int 0, .int 0]))  : ct0 l G y_ABL_init c_ABL_init 1 none 2 40 [.ref b] P f (fun x f1 => x = none ∧ f1 = va_up f b (.inr (3, [.null, .int 0, .int 0]))) := by
  refine ct_intro (by decide) [some (.ref b)] rfl rfl (Nat.le_of_ble_eq_true rfl) ?_
  intro p e s m below meth c ls C hr hlk hnm hE hM hl
  refine lv_aload_n C.1 C.2.1 d_ABL_init_0 rfl (lo_at hl 0 rfl) ?_
  refine cg_callI C hE hM (k_ABC_init l G b) tw_59 cy_ABC_init ⟨(Nat.le_of_ble_eq_true rfl), (Nat.le_of_ble_eq_true rfl)⟩ rfl hl.1 rfl (Nat.le_of_ble_eq_true rfl) ⟨Nat.zero_le _, Nat.zero_le _⟩ d_ABL_init_1 (fun x9 f1 H1 locs1 hp hM => ?_)
  obtain ⟨rfl, h9⟩ := hp
  rw [h9] at hM
  clear h9
  refine W.eq (g2 := F0 m 4 ls []) rfl ?_
  refine lv_aload_n C.1 C.2.1 d_ABL_init_4 rfl (lo_at hl 0 rfl) ?_
  refine lv_iconst (v := 0) C.1 C.2.1 d_ABL_init_5 (by decide) ?_
  refine cg_put C hE hM hm_b hc_b rfl in_AL ok_AL n_AL 2 (Nat.le_of_ble_eq_true rfl) tw_67 rfl rfl rfl rfl rfl (Nat.le_of_ble_eq_true rfl) d_ABL_init_6 (fun f2 H1 locs1 hf2 hM => ?_)
  have hc_b := (congrFun hf2 b).trans (va_up_self _ _ _)
  refine cg_vret C hr hlk hM d_ABL_init_9 ?_
  exact ⟨rfl, hf2⟩
set_option maxHeartbeats 4000000 in
set_option maxRecDepth 100000 in
theorem k_AL_init (l : Launch) (G : GG) {P : List Nat} {f : Nat → va_E} (b : Nat) (hm_b : b ∈ P) (hc_b : f b = .inr (3, [.null, .int 0, .int 0]))  : ct0 l G y_AL_init c_AL_init 1 none 3 60 [.ref b] P f (fun x f1 => x = none ∧ f1 = va_up f b (.inr (3, [.ref G.2.2, .int 0, .int 0]))) := by
  refine ct_intro (by decide) [some (.ref b)] rfl rfl (Nat.le_of_ble_eq_true rfl) ?_
  intro p e s m below meth c ls C hr hlk hnm hE hM hl
  refine lv_aload_n C.1 C.2.1 d_AL_init_0 rfl (lo_at hl 0 rfl) ?_
  refine cg_callI C hE hM (k_ABL_init l G b hm_b hc_b) tw_56 cy_ABL_init ⟨(Nat.le_of_ble_eq_true rfl), (Nat.le_of_ble_eq_true rfl)⟩ rfl hl.1 rfl (Nat.le_of_ble_eq_true rfl) ⟨Nat.zero_le _, Nat.zero_le _⟩ d_AL_init_1 (fun x9 f1 H1 locs1 hp hM => ?_)
  have hx9 := hp.1
  subst hx9
  have hc_b := (congrFun hp.2 b).trans (va_up_self _ _ _)
  refine W.eq (g2 := F0 m 4 ls []) rfl ?_
  refine lv_aload_n C.1 C.2.1 d_AL_init_4 rfl (lo_at hl 0 rfl) ?_
  refine cg_z0 C hE hM tw_63 d_AL_init_5 ?_
  refine cg_put C hE hM hm_b hc_b rfl in_AL ok_AL n_AL 0 (Nat.le_of_ble_eq_true rfl) tw_65 rfl rfl rfl rfl rfl (Nat.le_of_ble_eq_true rfl) d_AL_init_8 (fun f2 H1 locs1 hf2 hM => ?_)
  have hc_b := (congrFun hf2 b).trans (va_up_self _ _ _)
  refine cg_vret C hr hlk hM d_AL_init_11 ?_
  refine ⟨rfl, ?_⟩
  rw [hf2, hp.2]; exact bx_uu _ _ _ _
set_option maxHeartbeats 4000000 in
set_option maxRecDepth 100000 in
theorem k_ASu_newLength (l : Launch) (G : GG) {P : List Nat} {f : Nat → va_E} (a b c0 : Nat) (ha : a < 100000) (hb : b < 100000) (hc : c0 < 100000) (hp0 : 0 < a)  : ct0 l G y_ASu_newLength c_ASu_newLength 4 (some .int) 1 22 [.int (nI a), .int (nI b), .int (nI c0)] P f (fun x f1 => x = some (.int (nI (a + max b c0))) ∧ f1 = f) := by
  refine ct_intro (by decide) [some (.int (nI a)), some (.int (nI b)), some (.int (nI c0)), none] rfl rfl (Nat.le_of_ble_eq_true rfl) ?_
  intro p e s m below meth c ls C hr hlk hnm hE hM hl
  refine lv_iload_n C.1 C.2.1 d_ASu_newLength_0 rfl (lo_at hl 0 rfl) ?_
  refine lv_iload_n C.1 C.2.1 d_ASu_newLength_1 rfl (lo_at hl 1 rfl) ?_
  refine lv_iload_n C.1 C.2.1 d_ASu_newLength_2 rfl (lo_at hl 2 rfl) ?_
  refine cg_callS C hE hM (k_Mth_max l G _ _) tw_235 cy_Mth_max ⟨(Nat.le_of_ble_eq_true rfl), (Nat.le_of_ble_eq_true rfl)⟩ rfl hl.1 rfl (Nat.le_of_ble_eq_true rfl) ⟨Nat.zero_le _, Nat.zero_le _⟩ d_ASu_newLength_3 (fun x9 f1 H1 locs1 hp hM => ?_)
  obtain ⟨rfl, h9⟩ := hp
  rw [h9] at hM
  clear h9
  refine W.eq (g2 := F0 m 6 ls [_, _]) rfl ?_
  rw [mx_nI (by omega) (by omega)]
  refine lv_iadd C.1 C.2.1 d_ASu_newLength_6 ?_
  rw [nI_add]
  have hsm : a + max b c0 < 1000000 := by omega
  refine lo_istore_n C hl d_ASu_newLength_7 (Nat.le_of_ble_eq_true rfl) rfl (fun ls hl => ?_)
  refine lv_iconst (v := 0) C.1 C.2.1 d_ASu_newLength_8 (by decide) ?_
  refine lv_iload_n C.1 C.2.1 d_ASu_newLength_9 rfl (lo_at hl 3 rfl) ?_
  refine lv_icmp_ge (tgt := 21) C.1 C.2.1 d_ASu_newLength_10 (by decide) (fun hc10 => False.elim (absurd hc10 (Int32.not_le.mpr (by rw [show (0 : Int32) = nI 0 from rfl]; exact (nI_ltI (by omega) (by omega)).mpr (by omega))))) (fun hc10 => ?_)
  refine lv_iload_n C.1 C.2.1 d_ASu_newLength_13 rfl (lo_at hl 3 rfl) ?_
  refine lv_ldc C.1 C.2.1 C.2.2.2.1 (C.2.2.2.2 _ tw_236) d_ASu_newLength_14 ?_
  refine lv_icmp_gt (tgt := 21) C.1 C.2.1 d_ASu_newLength_16 (by decide) (fun hc16 => False.elim (absurd hc16 (Int32.not_lt.mpr (by rw [show (2147483639 : Int32) = nI 2147483639 from rfl]; exact (nI_leI (by omega) (by omega)).mpr (by omega))))) (fun hc16 => ?_)
  refine lv_iload_n C.1 C.2.1 d_ASu_newLength_19 rfl (lo_at hl 3 rfl) ?_
  refine cg_iret C hr hlk hM d_ASu_newLength_20 ?_
  exact ⟨rfl, rfl⟩
set_option maxHeartbeats 4000000 in
set_option maxRecDepth 100000 in
theorem k_Ars_copyOfC (l : Launch) (G : GG) {P : List Nat} {f : Nat → va_E} (d : Nat) (cap : Nat) (h : Nat → Option Nat) (hm_d : d ∈ P) (hc_d : f d = arR G 5 cap h) (hcap : cap < 100000) (k : Nat) (hck : cap ≤ k) (hk : k < 100000) (hel : ∀ i, i < cap → ∀ y, h i = some y → oOk P f y)  : ct l G y_Ars_copyOfC c_Ars_copyOfC 4 (some (.array (.object "java/lang/Object"))) 1 40 (1) (k) [.ref d, .int (nI k), .ref (G.2.1 9)] P f (fun x N f1 => ∃ q, N = [q] ∧ x = some (.ref q) ∧ q ∉ P ∧ ∃ h', f1 = va_up f q (arR G 5 k h') ∧ ∀ i, i < cap → h' i = h i) := by
  refine ct_intro (by decide) [some (.ref d), some (.int (nI k)), some (.ref (G.2.1 9)), none] rfl rfl (Nat.le_of_ble_eq_true rfl) ?_
  intro p e s m below meth c ls C hr hlk hnm hE hM hl
  have hd0 := hm_d
  have hPN : P = P ++ [] := (List.append_nil P).symm
  refine lv_aload_n C.1 C.2.1 d_Ars_copyOfC_0 rfl (lo_at hl 2 rfl) ?_
  refine cg_ldcM C hE tw_263 d_Ars_copyOfC_1 ?_
  refine cg_acmp_ne (tgt := 13) C d_Ars_copyOfC_3 (by decide) (fun hc3 => False.elim (hc3 rfl)) (fun hc3 => ?_)
  refine lv_iload_n C.1 C.2.1 d_Ars_copyOfC_6 rfl (lo_at hl 1 rfl) ?_
  refine cg_newR C hE hM (t0 := 5) rfl hE.1.2.2.2.2 tw_265 k rfl hk (by show _ ≤ 1; omega) (by show _ ≤ k; omega) d_Ars_copyOfC_7 (fun q P1 f1 H1 hq hP1 hf1 hM => ?_)
  have hc_d := ((congrFun hf1 d).trans (va_up_ne _ _ (fun z => hq (z ▸ hm_d)))).trans hc_d
  have hm_d := (show d ∈ P1 by rw [hP1]; exact List.mem_append_left _ hm_d)
  have hm_q : q ∈ P1 := by rw [hP1]; exact List.mem_append_right _ (List.mem_singleton.mpr rfl)
  have hc_q := (congrFun hf1 q).trans (va_up_self _ _ _)
  have hPN := hPN_new hPN hP1
  have hel0 : ∀ i, i < cap → ∀ y, h i = some y → oOk P1 f1 y := fun i hi y hy => by
    obtain ⟨h1, ci, fs, r, h2, h3⟩ := hel i hi y hy
    refine ⟨by rw [hP1]; exact List.mem_append_left _ h1, ci, fs, r, ?_, h3⟩
    rw [hf1, va_up_ne _ _ (fun z : y = q => hq (z ▸ h1))]; exact h2
  refine W.widen (k := 1) (n := k) (by omega) (by omega) ?_
  refine lv_goto (tgt := 24) C.1 C.2.1 d_Ars_copyOfC_10 (by decide) ?_
  refine lo_astore_n C hl d_Ars_copyOfC_24 (Nat.le_of_ble_eq_true rfl) rfl (fun ls hl => ?_)
  refine lv_aload_n C.1 C.2.1 d_Ars_copyOfC_25 rfl (lo_at hl 0 rfl) ?_
  refine lv_iconst (v := 0) C.1 C.2.1 d_Ars_copyOfC_26 (by decide) ?_
  refine lv_aload_n C.1 C.2.1 d_Ars_copyOfC_27 rfl (lo_at hl 3 rfl) ?_
  refine lv_iconst (v := 0) C.1 C.2.1 d_Ars_copyOfC_28 (by decide) ?_
  refine lv_aload_n C.1 C.2.1 d_Ars_copyOfC_29 rfl (lo_at hl 0 rfl) ?_
  refine pg_alen C hE hM hm_d (t0 := 5) (Nat.le_of_ble_eq_true rfl) hc_d d_Ars_copyOfC_30 ?_
  refine lv_iload_n C.1 C.2.1 d_Ars_copyOfC_31 rfl (lo_at hl 1 rfl) ?_
  refine cg_callS C hE hM (k_Mth_min l G _ _) tw_266 cy_Mth_min ⟨(Nat.le_of_ble_eq_true rfl), (Nat.le_of_ble_eq_true rfl)⟩ rfl hl.1 rfl (Nat.le_of_ble_eq_true rfl) ⟨by (try show _ ≤ 1); omega, by (try show _ ≤ k); omega⟩ d_Ars_copyOfC_32 (fun x9 f2 H1 locs1 hp hM => ?_)
  obtain ⟨rfl, h9⟩ := hp
  rw [h9] at hM
  clear h9
  refine W.eq (g2 := F0 m 35 ls [_, _, _, _, _]) rfl ?_
  refine cg_copy C hE hM hm_d hc_d hm_q hc_q 0 0 cap rfl rfl (by rw [if_pos ((nI_leI (by omega) (by omega)).mpr hck)]) (by omega) (by omega) ⟨hcap, hk⟩ (fun i hi y hy => hel0 i hi y (by rw [Nat.zero_add] at hy; exact hy)) tw_269 hl.1 (Nat.le_of_ble_eq_true rfl) (Nat.le_of_ble_eq_true rfl) (Nat.le_of_ble_eq_true rfl) d_Ars_copyOfC_35 (fun f3 H1 locs1 hf3 hM => ?_)
  have hc_d := ((congrFun hf3 d).trans (va_up_ne _ _ (Ne.symm (fun z => hq (z ▸ hd0))))).trans hc_d
  have hc_q := (congrFun hf3 q).trans (va_up_self _ _ _)
  refine lv_aload_n C.1 C.2.1 d_Ars_copyOfC_38 rfl (lo_at hl 3 rfl) ?_
  refine pg_aret C hr (Or.inr ⟨_, rfl⟩) hlk (Or.inr ⟨_, rfl⟩) hM hPN (by omega) (by omega) d_Ars_copyOfC_39 ?_
  refine ⟨q, rfl, rfl, hq, va_cpy h (fun _ => none) 0 0 cap, ?_, fun i hi => by rw [pk_cpy_in (Nat.zero_le _) (by omega)]; simp⟩
  rw [hf3, hf1]; exact bx_uu _ _ _ _
set_option maxHeartbeats 4000000 in
set_option maxRecDepth 100000 in
theorem k_Ars_copyOf (l : Launch) (G : GG) {P : List Nat} {f : Nat → va_E} (d : Nat) (cap : Nat) (h : Nat → Option Nat) (hm_d : d ∈ P) (hc_d : f d = arR G 5 cap h) (hcap : cap < 100000) (k : Nat) (hck : cap ≤ k) (hk : k < 100000) (hel : ∀ i, i < cap → ∀ y, h i = some y → oOk P f y)  : ct l G y_Ars_copyOf c_Ars_copyOf 2 (some (.array (.object "java/lang/Object"))) 2 63 (1) (k) [.ref d, .int (nI k)] P f (fun x N f1 => ∃ q, N = [q] ∧ x = some (.ref q) ∧ q ∉ P ∧ ∃ h', f1 = va_up f q (arR G 5 k h') ∧ ∀ i, i < cap → h' i = h i) := by
  refine ct_intro (by decide) [some (.ref d), some (.int (nI k))] rfl rfl (Nat.le_of_ble_eq_true rfl) ?_
  intro p e s m below meth c ls C hr hlk hnm hE hM hl
  have hPN : P = P ++ [] := (List.append_nil P).symm
  refine lv_aload_n C.1 C.2.1 d_Ars_copyOf_0 rfl (lo_at hl 0 rfl) ?_
  refine lv_iload_n C.1 C.2.1 d_Ars_copyOf_1 rfl (lo_at hl 1 rfl) ?_
  refine lv_aload_n C.1 C.2.1 d_Ars_copyOf_2 rfl (lo_at hl 0 rfl) ?_
  refine cg_getC C hE hM hm_d hc_d tw_243 hl.1 (Nat.le_of_ble_eq_true rfl) (Nat.le_of_ble_eq_true rfl) (Nat.le_of_ble_eq_true rfl) d_Ars_copyOf_3 ?_
  refine cg_callSA C hE hM (k_Ars_copyOfC l G d cap h hm_d hc_d hcap k hck hk hel) tw_260 cy_Ars_copyOfC ⟨(Nat.le_of_ble_eq_true rfl), (Nat.le_of_ble_eq_true rfl)⟩ rfl hl.1 rfl (Nat.le_of_ble_eq_true rfl) ⟨by show _ ≤ 1; omega, by show _ ≤ k; omega⟩ d_Ars_copyOf_6 (fun x9 N1 P1 f1 H1 locs1 hP1 hp hM => ?_)
  obtain ⟨q, hN9, hx9, hq, h9, hf9, hh9⟩ := hp
  subst hx9
  have hkp : kp P f f1 := fun y hy => by rw [hf9, va_up_ne _ _ (fun z : y = q => hq (z ▸ hy))]
  have hc_d := (hkp d hm_d).trans hc_d
  have hm_d := (show d ∈ P1 by rw [hP1]; exact List.mem_append_left _ hm_d)
  have hPN := hPN_app hPN hP1
  refine W.eq (g2 := F0 m 9 ls [_]) rfl ?_
  refine W.widen (k := 1) (n := k) (by omega) (by omega) ?_
  refine pg_aret C hr (Or.inr ⟨_, rfl⟩) hlk (Or.inr ⟨_, rfl⟩) hM hPN (by omega) (by omega) d_Ars_copyOf_9 ?_
  exact ⟨q, by rw [hN9]; rfl, rfl, hq, h9, hf9, hh9⟩
