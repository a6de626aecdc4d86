/-! the class: rows over the pool whose memory keeps a name -/
/-- a contract that makes nothing -/
def ct0 (l : Launch) (G : GG) (y : MethodName) (cc : ByteArray) (nL : Nat) (rt : Option FieldType) (fr lc : Nat) (av : List Value) (P : List Nat) (f : Nat → va_E) (post : Option Value → (Nat → va_E) → Prop) : Prop := ct l G y cc nL rt fr lc 0 0 av P f (fun ret N f' => N = [] ∧ post ret f')
abbrev c0 (post : Option Value → (Nat → va_E) → Prop) : Option Value → List Nat → (Nat → va_E) → Prop := fun ret N f' => N = [] ∧ post ret f'
abbrev arR (G : GG) (t n : Nat) (g : Nat → Option Nat) : va_E := .inl (G.2.1 t, n, .inr (.inr (.inr (.inr g))))
theorem ar_ne {f : Nat → va_E} {a b ci : Nat} {x : ClassId × vp_A} {fs : List Value} (ha : f a = .inl x) (hb : f b = .inr (ci, fs)) : a ≠ b := by
  rintro rfl
  rw [ha] at hb
  cases hb
theorem ob_ne {f : Nat → va_E} {a b ci cj : Nat} {fs gs : List Value} (ha : f a = .inr (ci, fs)) (hb : f b = .inr (cj, gs)) (h : ci ≠ cj) : a ≠ b := by
  rintro rfl
  rw [ha] at hb
  cases hb
  exact h rfl
theorem nI_nn {n : Nat} (h : n < 2147483648) : ¬ nI n < 0 := by
  rw [Int32.lt_iff_toInt_lt, nI_toInt h, show (0 : Int32).toInt = 0 from by decide]
  omega
section CG
variable {p : Program} {l : Launch} {e : Env} {R : Room} {s : State} {m : MethodId} {args : Array Value} {below : List Frame} {meth : Method} {c : Code} {H : Heap} {locs : List Loc} {cells slots : Nat} {Q : State → Prop}
variable {cc : ByteArray} {pc nL : Nat} {ls : Array Slot} {rest : List Value} {G : GG} {A : Nat → Prop} {a : Nat} {H0 : Heap} {L P : List Nat} {f : Nat → va_E} {own : String} {vs : List (Option Value)}
variable {post : Option Value → List Nat → (Nat → va_E) → Prop} {av : List Value} {mc ms : Nat} {post0 : Option Value → (Nat → va_E) → Prop}
theorem cg_put (C : CallFix p m c cc nL s args bg own) (hE : ev G A s H0) (hM : pgS G A H0 P f H locs) (ha : a ∈ P) {ci : Nat} {fs : List Value} (hf : f a = .inr (ci, fs)) {C0 ref : String} {T : u_T} {N : Nat} (hc : cl[ci]? = some (C0, T, N)) (hin : ∀ w ∈ u_ws C0 T N, w ∈ bg) {ty0 : Nat → FieldType} (hty : ∀ k, k < N → parseFieldDescriptor (T k).2.2.1 = some (ty0 k)) (hnm : ∀ a, a < N → ∀ b, b < N → a ≠ b → (T a).2.1 ≠ (T b).2.1) (k : Nat) (hk : k < N) {index : Nat} (hw : Cond.fieldLink own index ref (T k).2.1 (T k).2.2.1 ∈ bg) (hr : (T k).1 = ref) (hfin : (T k).2.2.2 = false) {v : Value} {fs' : List Value} (hset : fs.set k v = fs') (hn : narrow (ty0 k) v = v) (hfit : fits (ty0 k) v = true) (hlen : k < fs.length) (hdg : decode cc pc = .ok (.putfield index, 3))
    (kk : ∀ (f1 : Nat → va_E) (H1 : Heap) (locs1 : List Loc), f1 = va_up f a (.inr (ci, fs')) → pgS G A H0 P f1 H1 locs1 → W p l e R s m args below meth c H1 locs1 cells slots Q (F0 m (pc + 3) ls rest)) : W p l e R s m args below meth c H locs cells slots Q (F0 m pc ls (v :: .ref a :: rest)) := by
  subst hset
  exact pg_put C hE hM ha hf hc hin hty hnm k hk hw hr hfin hn hfit hlen hdg (fun H1 locs1 h => kk _ H1 locs1 rfl h)
theorem cg_putF (C : CallFix p m c cc nL s args bg own) (hE : ev G A s H0) (hM : pgS G A H0 P f H locs) (ha : a ∈ P) {ci : Nat} {fs : List Value} (hf : f a = .inr (ci, fs)) {C0 ref : String} {T : u_T} {N : Nat} (hc : cl[ci]? = some (C0, T, N)) (hin : ∀ w ∈ u_ws C0 T N, w ∈ bg) {ty0 : Nat → FieldType} (hty : ∀ k, k < N → parseFieldDescriptor (T k).2.2.1 = some (ty0 k)) (hnm : ∀ a, a < N → ∀ b, b < N → a ≠ b → (T a).2.1 ≠ (T b).2.1) (k : Nat) (hk : k < N) {index : Nat} (hw : Cond.fieldLink own index ref (T k).2.1 (T k).2.2.1 ∈ bg) (hr : (T k).1 = ref) (hfin : (T k).2.2.2 = true) (hin2 : meth.name = "<init>") (hdecl : (T k).1 = own) {v : Value} {fs' : List Value} (hset : fs.set k v = fs') (hn : narrow (ty0 k) v = v) (hfit : fits (ty0 k) v = true) (hlen : k < fs.length) (hdg : decode cc pc = .ok (.putfield index, 3))
    (kk : ∀ (f1 : Nat → va_E) (H1 : Heap) (locs1 : List Loc), f1 = va_up f a (.inr (ci, fs')) → pgS G A H0 P f1 H1 locs1 → W p l e R s m args below meth c H1 locs1 cells slots Q (F0 m (pc + 3) ls rest)) : W p l e R s m args below meth c H locs cells slots Q (F0 m pc ls (v :: .ref a :: rest)) := by
  subst hset
  exact pg_putF C hE hM ha hf hc hin hty hnm k hk hw hr hfin hin2 hdecl hn hfit hlen hdg (fun H1 locs1 h => kk _ H1 locs1 rfl h)
theorem cg_putN (C : CallFix p m c cc nL s args bg own) (hE : ev G A s H0) (hM : pgS G A H0 P f H locs) (ha : a ∈ P) {ci : Nat} {fs : List Value} (hf : f a = .inr (ci, fs)) {C0 ref host : String} {T : u_T} {N : Nat} (hc : cl[ci]? = some (C0, T, N)) (hin : ∀ w ∈ u_ws C0 T N, w ∈ bg) {ty0 : Nat → FieldType} (hty : ∀ k, k < N → parseFieldDescriptor (T k).2.2.1 = some (ty0 k)) (hnm : ∀ a, a < N → ∀ b, b < N → a ≠ b → (T a).2.1 ≠ (T b).2.1) (k : Nat) (hk : k < N) {index : Nat} (hw : Cond.fieldLinkNest own index ref (T k).2.1 (T k).2.2.1 host ∈ nwl) (hr : (T k).1 = ref) (hfin : (T k).2.2.2 = false) {v : Value} {fs' : List Value} (hset : fs.set k v = fs') (hn : narrow (ty0 k) v = v) (hfit : fits (ty0 k) v = true) (hlen : k < fs.length) (hdg : decode cc pc = .ok (.putfield index, 3))
    (kk : ∀ (f1 : Nat → va_E) (H1 : Heap) (locs1 : List Loc), f1 = va_up f a (.inr (ci, fs')) → pgS G A H0 P f1 H1 locs1 → W p l e R s m args below meth c H1 locs1 cells slots Q (F0 m (pc + 3) ls rest)) : W p l e R s m args below meth c H locs cells slots Q (F0 m pc ls (v :: .ref a :: rest)) := by
  subst hset
  exact pg_putN C hE hM ha hf hc hin hty hnm k hk hw hr hfin hn hfit hlen hdg (fun H1 locs1 h => kk _ H1 locs1 rfl h)
theorem cg_iald (C : CallFix p m c cc nL s args bg own) (hE : ev G A s H0) (hM : pgS G A H0 P f H locs) (ha : a ∈ P) {n : Nat} {g : Nat → Int32} (hf : f a = .inl (G.2.1 0, n, .inl g)) (j : Nat) {i : Int32} (hi : i = nI j) (hj : j < n) (hn : n < 2147483648) (hdg : decode cc pc = .ok (.iaload, 1))
    (kk : W p l e R s m args below meth c H locs cells slots Q (F0 m (pc + 1) ls (.int (g j) :: rest))) : W p l e R s m args below meth c H locs cells slots Q (F0 m pc ls (.int i :: .ref a :: rest)) := by
  subst hi
  exact pg_iald C hE hM ha hf (vp_in_nI hj hn) hdg (by rw [nI_clamp (by omega)]; exact kk)
theorem cg_iast (C : CallFix p m c cc nL s args bg own) (hE : ev G A s H0) (hM : pgS G A H0 P f H locs) (ha : a ∈ P) {n : Nat} {g : Nat → Int32} (hf : f a = .inl (G.2.1 0, n, .inl g)) (j : Nat) {i x : Int32} (hi : i = nI j) (hj : j < n) (hn : n < 2147483648) (hdg : decode cc pc = .ok (.iastore, 1))
    (kk : ∀ (f1 : Nat → va_E) (H1 : Heap) (locs1 : List Loc), f1 = va_up f a (.inl (G.2.1 0, n, .inl (upd g j x))) → pgS G A H0 P f1 H1 locs1 → W p l e R s m args below meth c H1 locs1 cells slots Q (F0 m (pc + 1) ls rest)) : W p l e R s m args below meth c H locs cells slots Q (F0 m pc ls (.int x :: .int i :: .ref a :: rest)) := by
  subst hi
  exact pg_iast C hE hM ha hf (vp_in_nI hj hn) hdg (fun H1 locs1 h => kk _ H1 locs1 rfl (by rw [nI_clamp (by omega)] at h; exact h))
theorem cg_aald (C : CallFix p m c cc nL s args bg own) (hE : ev G A s H0) (hM : pgS G A H0 P f H locs) (ha : a ∈ P) {t0 n : Nat} {g : Nat → Option Nat} {E : String} (hf : f a = arR G t0 n g) (ht : (tys G)[t0]? = some (G.2.1 t0, .object E)) (j : Nat) {i : Int32} (hi : i = nI j) (hj : j < n) (hn : n < 2147483648) {x : Nat} (hx : g j = some x) (hdg : decode cc pc = .ok (.aaload, 1))
    (kk : W p l e R s m args below meth c H locs cells slots Q (F0 m (pc + 1) ls (.ref x :: rest))) : W p l e R s m args below meth c H locs cells slots Q (F0 m pc ls (.int i :: .ref a :: rest)) := by
  subst hi
  exact pg_aald C hE hM ha hf ht (vp_in_nI hj hn) hdg (by rw [nI_clamp (by omega), hx]; exact kk)
theorem cg_aast (C : CallFix p m c cc nL s args bg own) (hE : ev G A s H0) (hM : pgS G A H0 P f H locs) (ha : a ∈ P) {t0 n : Nat} {g : Nat → Option Nat} {E : String} (hf : f a = arR G t0 n g) (ht : (tys G)[t0]? = some (G.2.1 t0, .object E)) {v : Nat} (hv : v ∈ P) {ci : Nat} {fs : List Value} (hfv : f v = .inr (ci, fs)) {r : vw_C} (hc : cl[ci]? = some r) (hca : r.1 = E ∨ Cond.castable r.1 E ∈ nwl) (j : Nat) {i : Int32} (hi : i = nI j) (hj : j < n) (hn : n < 2147483648) (hdg : decode cc pc = .ok (.aastore, 1))
    (kk : ∀ (f1 : Nat → va_E) (H1 : Heap) (locs1 : List Loc), f1 = va_up f a (arR G t0 n (va_up g j (some v))) → pgS G A H0 P f1 H1 locs1 → W p l e R s m args below meth c H1 locs1 cells slots Q (F0 m (pc + 1) ls rest)) : W p l e R s m args below meth c H locs cells slots Q (F0 m pc ls (.ref v :: .int i :: .ref a :: rest)) := by
  subst hi
  exact pg_aast C hE hM ha hf ht hv hfv hc hca (vp_in_nI hj hn) hdg (fun H1 locs1 h => kk _ H1 locs1 rfl (by rw [nI_clamp (by omega)] at h; exact h))
theorem cg_aastN (C : CallFix p m c cc nL s args bg own) (hE : ev G A s H0) (hM : pgS G A H0 P f H locs) (ha : a ∈ P) {t0 n : Nat} {g : Nat → Option Nat} {E : String} (hf : f a = arR G t0 n g) (ht : (tys G)[t0]? = some (G.2.1 t0, .object E)) (j : Nat) {i : Int32} (hi : i = nI j) (hj : j < n) (hn : n < 2147483648) (hdg : decode cc pc = .ok (.aastore, 1))
    (kk : ∀ (f1 : Nat → va_E) (H1 : Heap) (locs1 : List Loc), f1 = va_up f a (arR G t0 n (va_up g j none)) → pgS G A H0 P f1 H1 locs1 → W p l e R s m args below meth c H1 locs1 cells slots Q (F0 m (pc + 1) ls rest)) : W p l e R s m args below meth c H locs cells slots Q (F0 m pc ls (.null :: .int i :: .ref a :: rest)) := by
  subst hi
  obtain ⟨q0, he⟩ := hM.ix ha
  have hs := fun e => pg_set (e := e) hM.2.1 ha he
  rw [hf] at he
  refine va_astqN C.1 C.2.1 hE.1.1 hM.1 hM.2.1 hM.2.2.1 q0 t0 he ht (vp_in_nI hj hn) hdg (fun H1 locs1 a1 a2 a3 => kk _ H1 locs1 rfl ⟨?_, ?_, a3, hM.2.2.2⟩)
  · rw [nI_clamp (by omega), hs] at a1; exact a1
  · rw [nI_clamp (by omega), hs] at a2; exact a2
theorem cg_cast (C : CallFix p m c cc nL s args bg own) (hE : ev G A s H0) (hM : pgS G A H0 P f H locs) (ha : a ∈ P) {ci : Nat} {fs : List Value} (hf : f a = .inr (ci, fs)) {C0 : String} {T : u_T} {N index : Nat} (hc : cl[ci]? = some (C0, T, N)) (hw : Cond.classLink own index C0 ∈ bg) (hdg : decode cc pc = .ok (.checkcast index, 3))
    (kk : W p l e R s m args below meth c H locs cells slots Q (F0 m (pc + 3) ls (.ref a :: rest))) : W p l e R s m args below meth c H locs cells slots Q (F0 m pc ls (.ref a :: rest)) := by
  obtain ⟨q0, he⟩ := hM.ix ha
  rw [hf] at he
  exact va_castE C.1 C.2.1 C.2.2.2.1 (C.2.2.2.2 _ hw) (va_recv hE.1.1 hM.1 hc he) hdg kk
theorem cg_new (C : CallFix p m c cc nL s args bg own) (hE : ev G A s H0) (hM : pgS G A H0 P f H locs) {ci N index : Nat} {C0 : String} {T : u_T} (hc : cl[ci]? = some (C0, T, N)) (hin : ∀ w ∈ u_ws C0 T N, w ∈ bg) {ty0 : Nat → FieldType} (hty : ∀ k, k < N → parseFieldDescriptor (T k).2.2.1 = some (ty0 k)) (w1 : Cond.classLink own index C0 ∈ bg) (w2 : Cond.instantiable C0 N ∈ bg) (w3 : Cond.initialized C0 ∈ bg) {fs : List Value} (hfs : ∀ j, j < N → defaultValue (ty0 j) = vp_V fs j) (hcells : cells + 1 ≤ R.cells) (hslots : slots + N ≤ R.slots) (hdg : decode cc pc = .ok (.new index, 3))
    (kk : ∀ (q : Nat) (P1 : List Nat) (f1 : Nat → va_E) (H1 : Heap), q ∉ P → P1 = P ++ [q] → f1 = va_up f q (.inr (ci, fs)) → pgS G A H0 P1 f1 H1 locs → W p l e R s m args below meth c H1 locs (cells + 1) (slots + N) Q (F0 m (pc + 3) ls (.ref q :: rest))) : W p l e R s m args below meth c H locs cells slots Q (F0 m pc ls rest) :=
  pg_new C hE hM hc hin hty w1 w2 w3 hfs hcells hslots hdg (fun q H1 hq h => kk q _ _ H1 hq rfl rfl h)
theorem cg_acmp_eq (C : CallFix p m c cc nL s args bg own) {x y : Nat} {off : Int} {tgt : Nat} (hdg : decode cc pc = .ok (.if_acmp .eq off, 3)) (ht : (pc : Int) + off = (tgt : Int))
    (kt : x = y → W p l e R s m args below meth c H locs cells slots Q (F0 m tgt ls rest)) (kf : ¬ x = y → W p l e R s m args below meth c H locs cells slots Q (F0 m (pc + 3) ls rest)) : W p l e R s m args below meth c H locs cells slots Q (F0 m pc ls (.ref y :: .ref x :: rest)) :=
  lv_acmp_eq (rx := some x) (ry := some y) C.1 C.2.1 hdg ht (fun h => kt (Option.some.inj h)) (fun h => kf (fun z => h (congrArg some z)))
theorem cg_acmp_ne (C : CallFix p m c cc nL s args bg own) {x y : Nat} {off : Int} {tgt : Nat} (hdg : decode cc pc = .ok (.if_acmp .ne off, 3)) (ht : (pc : Int) + off = (tgt : Int))
    (kt : ¬ x = y → W p l e R s m args below meth c H locs cells slots Q (F0 m tgt ls rest)) (kf : x = y → W p l e R s m args below meth c H locs cells slots Q (F0 m (pc + 3) ls rest)) : W p l e R s m args below meth c H locs cells slots Q (F0 m pc ls (.ref y :: .ref x :: rest)) :=
  lv_acmp_ne (rx := some x) (ry := some y) C.1 C.2.1 hdg ht (fun h => kt (fun z => h (congrArg some z))) (fun h => kf (Option.some.inj h))
/-- the empty list's array -/
theorem cg_z0 (C : CallFix p m c cc nL s args bg own) (hE : ev G A s s.heap) (hM : pgS G A s.heap P f H locs) {index : Nat} (hw : Cond.fieldLink own index "java/util/ArrayList" "DEFAULTCAPACITY_EMPTY_ELEMENTDATA" "[Ljava/lang/Object;" ∈ bg) (hdg : decode cc pc = .ok (.getstatic index, 3))
    (kk : W p l e R s m args below meth c H locs cells slots Q (F0 m (pc + 3) ls (.ref G.2.2 :: rest))) : W p l e R s m args below meth c H locs cells slots Q (F0 m pc ls rest) :=
  va_gets C.1 C.2.1 hE.2.1.1 hM.2.2.1 C.2.2.2.1 (C.2.2.2.2 _ hw) (fun _ h => h) hdg kk
theorem cg_z0len (C : CallFix p m c cc nL s args bg own) (hE : ev G A s s.heap) (hM : pgS G A s.heap P f H locs) (hdg : decode cc pc = .ok (.arraylength, 1))
    (kk : W p l e R s m args below meth c H locs cells slots Q (F0 m (pc + 1) ls (.int 0 :: rest))) : W p l e R s m args below meth c H locs cells slots Q (F0 m pc ls (.ref G.2.2 :: rest)) :=
  va_tlen C.1 C.2.1 hE.2.1.2 hM.2.2.1 rfl hdg kk
theorem cg_z0P (hE : ev G A s s.heap) (hM : pgS G A s.heap P f H locs) : G.2.2 ∉ P := fun h => by
  obtain ⟨_, _, _, _, _, _, _, hA⟩ := hE.2.1.2
  exact hA (pg_plA hM.2.1 _ h)
variable {y : MethodName} {bytes : ByteArray} {maxL index fr lc n : Nat} {ret : Option FieldType} {As st0 : List Value} {b : Nat}
theorem cg_callV (C : CallFix p m c cc nL s args bg own) (hE : ev G A s s.heap) (hM : pgS G A s.heap P f H locs) (hc : ct0 l G y bytes maxL ret fr lc (.ref b :: As) P f post0) (hb : b ∈ P) {ci : Nat} {fs : List Value} (hf : f b = .inr (ci, fs)) {T : u_T} {N0 : Nat} (hcl : cl[ci]? = some (y.cls, T, N0)) (w1 : Cond.methodLink own index y ∈ bg) (cy : cyV y bytes maxL ret n) (hR : fr + 1 ≤ R.frames ∧ 8 + (maxL + 11) + lc ≤ R.locals) (hn : As.length = n) (hs : ls.size = nL) (hst : st0 = As.reverse ++ .ref b :: rest) (hrs : (rest.map fun v => v.category).sum ≤ 8) (hroom : cells ≤ R.cells ∧ slots ≤ R.slots) (hdg : decode cc pc = .ok (.invokevirtual index, 3))
    (kk : ∀ (v : Option Value) (f' : Nat → va_E) (H1 : Heap) (locs1 : List Loc), post0 v f' → pgS G A s.heap P f' H1 locs1 → W p l e R s m args below meth c H1 locs1 cells slots Q (F0 m (pc + 3) ls (v.toList ++ rest))) : W p l e R s m args below meth c H locs cells slots Q (F0 m pc ls st0) :=
  pg_callV C hE hM hc hb hf hcl w1 cy hR hn hs hst hrs hroom hdg (fun v N f' H1 locs1 hp hM' => by
    obtain ⟨rfl, hp⟩ := hp
    rw [List.append_nil] at hM'
    exact kk v f' H1 locs1 hp hM')
theorem cg_callS (C : CallFix p m c cc nL s args bg own) (hE : ev G A s s.heap) (hM : pgS G A s.heap P f H locs) (hc : ct0 l G y bytes maxL ret fr lc As P f post0) (w1 : Cond.methodLink own index y ∈ bg) (cy : cyS y bytes maxL ret n) (hR : fr + 1 ≤ R.frames ∧ 8 + (maxL + 11) + lc ≤ R.locals) (hn : As.length = n) (hs : ls.size = nL) (hst : st0 = As.reverse ++ rest) (hrs : (rest.map fun v => v.category).sum ≤ 8) (hroom : cells ≤ R.cells ∧ slots ≤ R.slots) (hdg : decode cc pc = .ok (.invokestatic index, 3))
    (kk : ∀ (v : Option Value) (f' : Nat → va_E) (H1 : Heap) (locs1 : List Loc), post0 v f' → pgS G A s.heap P f' H1 locs1 → W p l e R s m args below meth c H1 locs1 cells slots Q (F0 m (pc + 3) ls (v.toList ++ rest))) : W p l e R s m args below meth c H locs cells slots Q (F0 m pc ls st0) :=
  pg_callS C hE hM hc w1 cy hR hn hs hst hrs hroom hdg (fun v N f' H1 locs1 hp hM' => by
    obtain ⟨rfl, hp⟩ := hp
    rw [List.append_nil] at hM'
    exact kk v f' H1 locs1 hp hM')
theorem cg_callSN (C : CallFix p m c cc nL s args bg own) (hE : ev G A s s.heap) (hM : pgS G A s.heap P f H locs) (hc : ct0 l G y bytes maxL ret fr lc As P f post0) {host : String} (w1 : Cond.methodLinkNest own index y host ∈ nwl) (cy : cyS y bytes maxL ret n) (hR : fr + 1 ≤ R.frames ∧ 8 + (maxL + 11) + lc ≤ R.locals) (hn : As.length = n) (hs : ls.size = nL) (hst : st0 = As.reverse ++ rest) (hrs : (rest.map fun v => v.category).sum ≤ 8) (hroom : cells ≤ R.cells ∧ slots ≤ R.slots) (hdg : decode cc pc = .ok (.invokestatic index, 3))
    (kk : ∀ (v : Option Value) (f' : Nat → va_E) (H1 : Heap) (locs1 : List Loc), post0 v f' → pgS G A s.heap P f' H1 locs1 → W p l e R s m args below meth c H1 locs1 cells slots Q (F0 m (pc + 3) ls (v.toList ++ rest))) : W p l e R s m args below meth c H locs cells slots Q (F0 m pc ls st0) :=
  pg_callSN C hE hM hc w1 cy hR hn hs hst hrs hroom hdg (fun v N f' H1 locs1 hp hM' => by
    obtain ⟨rfl, hp⟩ := hp
    rw [List.append_nil] at hM'
    exact kk v f' H1 locs1 hp hM')
theorem cg_callI (C : CallFix p m c cc nL s args bg own) (hE : ev G A s s.heap) (hM : pgS G A s.heap P f H locs) (hc : ct0 l G y bytes maxL none fr lc (.ref b :: As) P f post0) (w1 : Cond.methodLink own index y ∈ bg) (cy : cyI y bytes maxL n) (hR : fr + 1 ≤ R.frames ∧ 8 + (maxL + 11) + lc ≤ R.locals) (hn : As.length = n) (hs : ls.size = nL) (hst : st0 = As.reverse ++ .ref b :: rest) (hrs : (rest.map fun v => v.category).sum ≤ 8) (hroom : cells ≤ R.cells ∧ slots ≤ R.slots) (hdg : decode cc pc = .ok (.invokespecial index, 3))
    (kk : ∀ (v : Option Value) (f' : Nat → va_E) (H1 : Heap) (locs1 : List Loc), post0 v f' → pgS G A s.heap P f' H1 locs1 → W p l e R s m args below meth c H1 locs1 cells slots Q (F0 m (pc + 3) ls (v.toList ++ rest))) : W p l e R s m args below meth c H locs cells slots Q (F0 m pc ls st0) :=
  pg_callI C hE hM hc w1 cy hR hn hs hst hrs hroom hdg (fun v N f' H1 locs1 hp hM' => by
    obtain ⟨rfl, hp⟩ := hp
    rw [List.append_nil] at hM'
    exact kk v f' H1 locs1 hp hM')
theorem cg_callIN (C : CallFix p m c cc nL s args bg own) (hE : ev G A s s.heap) (hM : pgS G A s.heap P f H locs) (hc : ct0 l G y bytes maxL none fr lc (.ref b :: As) P f post0) {host : String} (w1 : Cond.methodLinkNest own index y host ∈ nwl) (cy : cyI y bytes maxL n) (hR : fr + 1 ≤ R.frames ∧ 8 + (maxL + 11) + lc ≤ R.locals) (hn : As.length = n) (hs : ls.size = nL) (hst : st0 = As.reverse ++ .ref b :: rest) (hrs : (rest.map fun v => v.category).sum ≤ 8) (hroom : cells ≤ R.cells ∧ slots ≤ R.slots) (hdg : decode cc pc = .ok (.invokespecial index, 3))
    (kk : ∀ (v : Option Value) (f' : Nat → va_E) (H1 : Heap) (locs1 : List Loc), post0 v f' → pgS G A s.heap P f' H1 locs1 → W p l e R s m args below meth c H1 locs1 cells slots Q (F0 m (pc + 3) ls (v.toList ++ rest))) : W p l e R s m args below meth c H locs cells slots Q (F0 m pc ls st0) :=
  pg_callIN C hE hM hc w1 cy hR hn hs hst hrs hroom hdg (fun v N f' H1 locs1 hp hM' => by
    obtain ⟨rfl, hp⟩ := hp
    rw [List.append_nil] at hM'
    exact kk v f' H1 locs1 hp hM')
theorem cg_newI (C : CallFix p m c cc nL s args bg own) (hE : ev G A s H0) (hM : pgS G A H0 P f H locs) (N : Nat) {x : Int32} (hx : x = nI N) (hb : N < 100000) (hcells : cells + 1 ≤ R.cells) (hslots : slots + N ≤ R.slots) (hdg : decode cc pc = .ok (.newarray .int, 2))
    (kk : ∀ (q : Nat) (P1 : List Nat) (f1 : Nat → va_E) (H1 : Heap), q ∉ P → P1 = P ++ [q] → f1 = va_up f q (.inl (G.2.1 0, N, .inl (fun _ => 0))) → pgS G A H0 P1 f1 H1 locs → W p l e R s m args below meth c H1 locs (cells + 1) (slots + N) Q (F0 m (pc + 2) ls (.ref q :: rest))) : W p l e R s m args below meth c H locs cells slots Q (F0 m pc ls (.int x :: rest)) := by
  subst hx
  exact pg_newI C hE hM tw_44 (nI_nn (by omega)) (nI_clamp (by omega)) (by omega) hcells hslots hdg (fun q H1 hq h => kk q _ _ H1 hq rfl rfl h)
theorem cg_newR (C : CallFix p m c cc nL s args bg own) (hE : ev G A s H0) (hM : pgS G A H0 P f H locs) {E : String} {t0 : Nat} (ht : (tys G)[t0]? = some (G.2.1 t0, .object E)) (hao : va_AO E s) {index : Nat} (w1 : Cond.classLink own index E ∈ bg) (N : Nat) {x : Int32} (hx : x = nI N) (hb : N < 100000) (hcells : cells + 1 ≤ R.cells) (hslots : slots + N ≤ R.slots) (hdg : decode cc pc = .ok (.anewarray index, 3))
    (kk : ∀ (q : Nat) (P1 : List Nat) (f1 : Nat → va_E) (H1 : Heap), q ∉ P → P1 = P ++ [q] → f1 = va_up f q (arR G t0 N (fun _ => none)) → pgS G A H0 P1 f1 H1 locs → W p l e R s m args below meth c H1 locs (cells + 1) (slots + N) Q (F0 m (pc + 3) ls (.ref q :: rest))) : W p l e R s m args below meth c H locs cells slots Q (F0 m pc ls (.int x :: rest)) := by
  subst hx
  exact pg_newR C hE hM ht hao w1 (nI_nn (by omega)) (nI_clamp (by omega)) (by omega) hcells hslots hdg (fun q H1 hq h => kk q _ _ H1 hq rfl rfl h)
theorem cg_callVA (C : CallFix p m c cc nL s args bg own) (hE : ev G A s s.heap) (hM : pgS G A s.heap P f H locs) (hc : ct l G y bytes maxL ret fr lc mc ms (.ref b :: As) P f post) (hb : b ∈ P) {ci : Nat} {fs : List Value} (hf : f b = .inr (ci, fs)) {T : u_T} {N0 : Nat} (hcl : cl[ci]? = some (y.cls, T, N0)) (w1 : Cond.methodLink own index y ∈ bg) (cy : cyV y bytes maxL ret n) (hR : fr + 1 ≤ R.frames ∧ 8 + (maxL + 11) + lc ≤ R.locals) (hn : As.length = n) (hs : ls.size = nL) (hst : st0 = As.reverse ++ .ref b :: rest) (hrs : (rest.map fun v => v.category).sum ≤ 8) (hroom : cells + mc ≤ R.cells ∧ slots + ms ≤ R.slots) (hdg : decode cc pc = .ok (.invokevirtual index, 3))
    (kk : ∀ (v : Option Value) (N : List Nat) (P1 : List Nat) (f' : Nat → va_E) (H1 : Heap) (locs1 : List Loc), P1 = P ++ N → post v N f' → pgS G A s.heap P1 f' H1 locs1 → W p l e R s m args below meth c H1 locs1 (cells + mc) (slots + ms) Q (F0 m (pc + 3) ls (v.toList ++ rest))) : W p l e R s m args below meth c H locs cells slots Q (F0 m pc ls st0) :=
  pg_callV C hE hM hc hb hf hcl w1 cy hR hn hs hst hrs hroom hdg (fun v N f' H1 locs1 hp hM' => kk v N _ f' H1 locs1 rfl hp hM')
theorem cg_callSA (C : CallFix p m c cc nL s args bg own) (hE : ev G A s s.heap) (hM : pgS G A s.heap P f H locs) (hc : ct l G y bytes maxL ret fr lc mc ms As P f post) (w1 : Cond.methodLink own index y ∈ bg) (cy : cyS y bytes maxL ret n) (hR : fr + 1 ≤ R.frames ∧ 8 + (maxL + 11) + lc ≤ R.locals) (hn : As.length = n) (hs : ls.size = nL) (hst : st0 = As.reverse ++ rest) (hrs : (rest.map fun v => v.category).sum ≤ 8) (hroom : cells + mc ≤ R.cells ∧ slots + ms ≤ R.slots) (hdg : decode cc pc = .ok (.invokestatic index, 3))
    (kk : ∀ (v : Option Value) (N : List Nat) (P1 : List Nat) (f' : Nat → va_E) (H1 : Heap) (locs1 : List Loc), P1 = P ++ N → post v N f' → pgS G A s.heap P1 f' H1 locs1 → W p l e R s m args below meth c H1 locs1 (cells + mc) (slots + ms) Q (F0 m (pc + 3) ls (v.toList ++ rest))) : W p l e R s m args below meth c H locs cells slots Q (F0 m pc ls st0) :=
  pg_callS C hE hM hc w1 cy hR hn hs hst hrs hroom hdg (fun v N f' H1 locs1 hp hM' => kk v N _ f' H1 locs1 rfl hp hM')
theorem cg_callSNA (C : CallFix p m c cc nL s args bg own) (hE : ev G A s s.heap) (hM : pgS G A s.heap P f H locs) (hc : ct l G y bytes maxL ret fr lc mc ms As P f post) {host : String} (w1 : Cond.methodLinkNest own index y host ∈ nwl) (cy : cyS y bytes maxL ret n) (hR : fr + 1 ≤ R.frames ∧ 8 + (maxL + 11) + lc ≤ R.locals) (hn : As.length = n) (hs : ls.size = nL) (hst : st0 = As.reverse ++ rest) (hrs : (rest.map fun v => v.category).sum ≤ 8) (hroom : cells + mc ≤ R.cells ∧ slots + ms ≤ R.slots) (hdg : decode cc pc = .ok (.invokestatic index, 3))
    (kk : ∀ (v : Option Value) (N : List Nat) (P1 : List Nat) (f' : Nat → va_E) (H1 : Heap) (locs1 : List Loc), P1 = P ++ N → post v N f' → pgS G A s.heap P1 f' H1 locs1 → W p l e R s m args below meth c H1 locs1 (cells + mc) (slots + ms) Q (F0 m (pc + 3) ls (v.toList ++ rest))) : W p l e R s m args below meth c H locs cells slots Q (F0 m pc ls st0) :=
  pg_callSN C hE hM hc w1 cy hR hn hs hst hrs hroom hdg (fun v N f' H1 locs1 hp hM' => kk v N _ f' H1 locs1 rfl hp hM')
theorem cg_callIA (C : CallFix p m c cc nL s args bg own) (hE : ev G A s s.heap) (hM : pgS G A s.heap P f H locs) (hc : ct l G y bytes maxL none fr lc mc ms (.ref b :: As) P f post) (w1 : Cond.methodLink own index y ∈ bg) (cy : cyI y bytes maxL n) (hR : fr + 1 ≤ R.frames ∧ 8 + (maxL + 11) + lc ≤ R.locals) (hn : As.length = n) (hs : ls.size = nL) (hst : st0 = As.reverse ++ .ref b :: rest) (hrs : (rest.map fun v => v.category).sum ≤ 8) (hroom : cells + mc ≤ R.cells ∧ slots + ms ≤ R.slots) (hdg : decode cc pc = .ok (.invokespecial index, 3))
    (kk : ∀ (v : Option Value) (N : List Nat) (P1 : List Nat) (f' : Nat → va_E) (H1 : Heap) (locs1 : List Loc), P1 = P ++ N → post v N f' → pgS G A s.heap P1 f' H1 locs1 → W p l e R s m args below meth c H1 locs1 (cells + mc) (slots + ms) Q (F0 m (pc + 3) ls (v.toList ++ rest))) : W p l e R s m args below meth c H locs cells slots Q (F0 m pc ls st0) :=
  pg_callI C hE hM hc w1 cy hR hn hs hst hrs hroom hdg (fun v N f' H1 locs1 hp hM' => kk v N _ f' H1 locs1 rfl hp hM')
theorem cg_callINA (C : CallFix p m c cc nL s args bg own) (hE : ev G A s s.heap) (hM : pgS G A s.heap P f H locs) (hc : ct l G y bytes maxL none fr lc mc ms (.ref b :: As) P f post) {host : String} (w1 : Cond.methodLinkNest own index y host ∈ nwl) (cy : cyI y bytes maxL n) (hR : fr + 1 ≤ R.frames ∧ 8 + (maxL + 11) + lc ≤ R.locals) (hn : As.length = n) (hs : ls.size = nL) (hst : st0 = As.reverse ++ .ref b :: rest) (hrs : (rest.map fun v => v.category).sum ≤ 8) (hroom : cells + mc ≤ R.cells ∧ slots + ms ≤ R.slots) (hdg : decode cc pc = .ok (.invokespecial index, 3))
    (kk : ∀ (v : Option Value) (N : List Nat) (P1 : List Nat) (f' : Nat → va_E) (H1 : Heap) (locs1 : List Loc), P1 = P ++ N → post v N f' → pgS G A s.heap P1 f' H1 locs1 → W p l e R s m args below meth c H1 locs1 (cells + mc) (slots + ms) Q (F0 m (pc + 3) ls (v.toList ++ rest))) : W p l e R s m args below meth c H locs cells slots Q (F0 m pc ls st0) :=
  pg_callIN C hE hM hc w1 cy hR hn hs hst hrs hroom hdg (fun v N f' H1 locs1 hp hM' => kk v N _ f' H1 locs1 rfl hp hM')
theorem cg_iret (C : CallFix p m c cc nL s av.toArray bg own) (hr : meth.sig.returnType = some .int) (hlk : meth.locks = false) {x : Int32} (hM : pgS G (pgA P s.heap.size) s.heap P f H locs) (hdg : decode cc pc = .ok (.ireturn, 1)) (hp : post0 (some (.int x)) f) : W p l e R s m av.toArray below meth c H locs 0 0 (pQ G below av s P (c0 post0) 0 0) (F0 m pc ls [.int x]) :=
  pg_iret C hr hlk hM (List.append_nil P).symm (Nat.le_refl _) (Nat.le_refl _) hdg ⟨rfl, hp⟩
theorem cg_zret (C : CallFix p m c cc nL s av.toArray bg own) (hr : meth.sig.returnType = some .boolean) (hlk : meth.locks = false) {x : Int32} (hM : pgS G (pgA P s.heap.size) s.heap P f H locs) (hdg : decode cc pc = .ok (.ireturn, 1)) (hn : narrow .boolean (.int x) = .int x) (hp : post0 (some (.int x)) f) : W p l e R s m av.toArray below meth c H locs 0 0 (pQ G below av s P (c0 post0) 0 0) (F0 m pc ls [.int x]) :=
  pg_zret C hr hlk hM (List.append_nil P).symm (Nat.le_refl _) (Nat.le_refl _) hdg hn ⟨rfl, hp⟩
theorem cg_lret (C : CallFix p m c cc nL s av.toArray bg own) (hr : meth.sig.returnType = some .long) (hlk : meth.locks = false) {x : Int64} (hM : pgS G (pgA P s.heap.size) s.heap P f H locs) (hdg : decode cc pc = .ok (.lreturn, 1)) (hp : post0 (some (.long x)) f) : W p l e R s m av.toArray below meth c H locs 0 0 (pQ G below av s P (c0 post0) 0 0) (F0 m pc ls [.long x]) :=
  pg_lret C hr hlk hM (List.append_nil P).symm (Nat.le_refl _) (Nat.le_refl _) hdg ⟨rfl, hp⟩
theorem cg_vret (C : CallFix p m c cc nL s av.toArray bg own) (hr : meth.sig.returnType = none) (hlk : meth.locks = false) (hM : pgS G (pgA P s.heap.size) s.heap P f H locs) (hdg : decode cc pc = .ok (.return_, 1)) (hp : post0 none f) : W p l e R s m av.toArray below meth c H locs 0 0 (pQ G below av s P (c0 post0) 0 0) (F0 m pc ls []) :=
  pg_vret C hr hlk hM (List.append_nil P).symm (Nat.le_refl _) (Nat.le_refl _) hdg ⟨rfl, hp⟩
theorem cg_aret (C : CallFix p m c cc nL s av.toArray bg own) {rt : FieldType} (hr : meth.sig.returnType = some rt) (hrt : (∃ n, rt = .object n) ∨ ∃ t, rt = .array t) (hlk : meth.locks = false) {x : Value} (hx : x = .null ∨ ∃ a, x = .ref a) (hM : pgS G (pgA P s.heap.size) s.heap P f H locs) (hdg : decode cc pc = .ok (.areturn, 1)) (hp : post0 (some x) f) : W p l e R s m av.toArray below meth c H locs 0 0 (pQ G below av s P (c0 post0) 0 0) (F0 m pc ls [x]) :=
  pg_aret C hr hrt hlk hx hM (List.append_nil P).symm (Nat.le_refl _) (Nat.le_refl _) hdg ⟨rfl, hp⟩
theorem cg_getM (C : CallFix p m c cc nL s args bg "java/util/ArrayList") (hE : ev G A s H0) (hM : pgS G A H0 P f H locs) (ha : a ∈ P) {fs : List Value} (hf : f a = .inr (3, fs)) {v : Value} (hv : fs[2]? = some v) {index : Nat} (hx : index = 63) (hdg : decode cc pc = .ok (.getfield index, 3))
    (kk : W p l e R s m args below meth c H locs cells slots Q (F0 m (pc + 3) ls (v :: rest))) : W p l e R s m args below meth c H locs cells slots Q (F0 m pc ls (.ref a :: rest)) := by
  subst hx
  obtain ⟨q0, he⟩ := hM.ix ha
  rw [hf] at he
  exact va_get (ref := "java/util/ArrayList") C.1 C.2.1 C.2.2.2.2 in_AL C.2.2.2.1 hE.1.1 hM.1 q0 he rfl 2 (by decide) (C.2.2.2.2 _ tw_68) (fun x h9 => u_same (C.2.2.2.2 _ tw_69) x h9) hv hdg kk
theorem cg_putM (C : CallFix p m c cc nL s args bg "java/util/ArrayList") (hE : ev G A s H0) (hM : pgS G A H0 P f H locs) (ha : a ∈ P) {fs : List Value} (hf : f a = .inr (3, fs)) {x : Int32} {fs' : List Value} (hset : fs.set 2 (.int x) = fs') {index : Nat} (hx : index = 63) (hlen : 2 < fs.length) (hdg : decode cc pc = .ok (.putfield index, 3))
    (kk : ∀ (f1 : Nat → va_E) (H1 : Heap) (locs1 : List Loc), f1 = va_up f a (.inr (3, fs')) → pgS G A H0 P f1 H1 locs1 → W p l e R s m args below meth c H1 locs1 cells slots Q (F0 m (pc + 3) ls rest)) : W p l e R s m args below meth c H locs cells slots Q (F0 m pc ls (.int x :: .ref a :: rest)) := by
  subst hx
  subst hset
  obtain ⟨q0, he⟩ := hM.ix ha
  have hs := fun e => pg_set (e := e) hM.2.1 ha he
  rw [hf] at he
  exact va_put (ref := "java/util/ArrayList") C.1 C.2.1 C.2.2.2.2 in_AL ty_AL ok_AL n_AL C.2.2.2.1 hE.1.1 hM.1 hM.2.1 hM.2.2.1 q0 he rfl 2 (by decide) (C.2.2.2.2 _ tw_68) (fun x h9 => u_same (C.2.2.2.2 _ tw_69) x h9) rfl (ok_AL 2 (by decide)) rfl rfl hlen hdg (fun H1 locs1 a1 a2 a3 => kk _ H1 locs1 rfl ⟨by rw [← hs]; exact a1, by rw [← hs]; exact a2, a3, hM.2.2.2⟩)
end CG
def kp (P : List Nat) (f f1 : Nat → va_E) : Prop := ∀ a, a ∈ P → f1 a = f a
theorem hPN_new {P Q R N : List Nat} {q : Nat} (h : Q = P ++ N) (h1 : R = Q ++ [q]) : R = P ++ (N ++ [q]) := h1.trans ((congrArg (· ++ [q]) h).trans (List.append_assoc _ _ _))
theorem hPN_app {P Q R N M : List Nat} (h : Q = P ++ N) (h1 : R = Q ++ M) : R = P ++ (N ++ M) := h1.trans ((congrArg (· ++ M) h).trans (List.append_assoc _ _ _))
