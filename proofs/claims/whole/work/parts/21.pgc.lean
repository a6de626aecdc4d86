theorem ev.same {G : GG} {A : Nat → Prop} {U U' : State} {H : Heap} (hv : U.vm = U'.vm) (h : ev G A U H) : ev G A U' H := by
  have hal : U.vm.Alike U'.vm := by rw [hv]; exact Vm.Alike.refl _
  obtain ⟨h1, ⟨h2, h3⟩, ⟨hmi, hn1, hn2⟩, ⟨hx1, hx2⟩, hs⟩ := h
  exact ⟨⟨va_K.moved hal h1.1, fun w hw => va_Nw.same (nw_ont w hw) hv (h1.2.1 w hw), h1.2.2.1.moved hal, h1.2.2.2.1.moved hal, h1.2.2.2.2.moved hal⟩, ⟨h2.moved hal, h3.moved hal⟩, ⟨hmi.moved hal, hn1.moved hal, hn2.moved hal⟩, ⟨hx1.moved hal, hx2.moved hal⟩, fun w hw => (hs w hw).imp (fun a h => h.same hv.symm)⟩
/-- a method's contract over the pool: its start, its end -/
def ctP (G : GG) (L : List Nat) (f : Nat → va_E) (sz : Nat) : State → Prop := fun U => U.heap.size = sz ∧ pgR G L f U.heap ∧ ev G (pgA L sz) U U.heap
def ctQ (G : GG) (L : List Nat) (sz : Nat) (post : Option Value → List Nat → (Nat → va_E) → Prop) : Array Value → State → Outcome → State → Prop := fun _ st oc t => ∃ (v : Option Value) (N : List Nat) (f' : Nat → va_E), oc = .returned v ∧ post v N f' ∧ pgR G (L ++ N) f' t.heap ∧ (∀ q ∈ N, sz ≤ q) ∧ va_F (pgA L sz) st t
def ct (l : Launch) (G : GG) (y : MethodName) (cc : ByteArray) (nL : Nat) (rt : Option FieldType) (fr lc mc ms : Nat) (av : List Value) (L : List Nat) (f : Nat → va_E) (post : Option Value → List Nat → (Nat → va_E) → Prop) : Prop :=
  ∀ sz : Nat, Met l y (Cond.code y cc nL rt :: bg) { frames := fr, cells := mc, slots := ms, locals := lc } (va_Pc av (ctP G L f sz)) (ctQ G L sz post) mc ms (pgA L sz)
abbrev pQ (G : GG) (below : List Frame) (av : List Value) (s : State) (L : List Nat) (post : Option Value → List Nat → (Nat → va_E) → Prop) (mc ms : Nat) : State → Prop := MQ below (ctQ G L s.heap.size post) av.toArray s mc ms (pgA L s.heap.size)
theorem ct_intro {l : Launch} {G : GG} {y : MethodName} {cc : ByteArray} {nL : Nat} {rt : Option FieldType} {fr lc mc ms : Nat} {av : List Value} {L : List Nat} {f : Nat → va_E} {post : Option Value → List Nat → (Nat → va_E) → Prop} (hy : plainName y.cls = true) (vs : List (Option Value)) (h1 : vs.length = nL) (h2 : loL 0 vs = lv_args 0 av) (h3 : (lg_sl av).length ≤ nL)
    (body : ∀ (p : Program) (e : Env) (s : State) (m : MethodId) (below : List Frame) (meth : Method) (c : Code) (ls : Array Slot), CallFix p m c cc nL s av.toArray bg y.cls → meth.sig.returnType = rt → meth.locks = false → meth.name = y.name → ev G (pgA L s.heap.size) s s.heap → pgS G (pgA L s.heap.size) s.heap L f s.heap [] → lo ls vs → W p l e { frames := fr, cells := mc, slots := ms, locals := lc } s m av.toArray below meth c s.heap [] 0 0 (pQ G below av s L post mc ms) (F0 m 0 ls [])) : ct l G y cc nL rt fr lc mc ms av L f post := by
  intro sz
  refine Met.ofW (cc := cc) (maxL := nL) (ret := rt) hy rfl ?_
  intro p e s m args below meth c s₁ B hml hv
  obtain ⟨rfl, hsz, hR, hE⟩ := hv
  subst hsz
  have hts := atoms_spec (ws := Cond.code y cc nL rt :: bg) B.pre
  have hl := lv_entry av (n := nL) h3
  rw [lg_entry_eq]
  generalize (lg_sl av ++ List.replicate (nL - (lg_sl av).length) Slot.unset).toArray = ls at hl ⊢
  exact body p e s m below meth c ls ⟨B.exec, B.bytes, hml, findClass_of_methodNamed B.named, fun w h => hts w (List.mem_cons_of_mem _ h)⟩ B.returns B.notSynchronized (name_of_methodNamed B.named B.method).1 hE ⟨hR.1, pg_plD hR.2 (fun q h => Or.inl h), va_S.rf, fun q h => Or.inr h⟩ (by unfold lo; rw [h1, h2]; exact hl)
section PGC
variable {p : Program} {l : Launch} {e : Env} {R : Room} {s : State} {m : MethodId} {args : Array Value} {below : List Frame} {meth : Method} {c : Code} {H : Heap} {locs : List Loc} {cells slots : Nat} {Q : State → Prop}
variable {cc : ByteArray} {pc nL : Nat} {ls : Array Slot} {rest : List Value} {G : GG} {A : Nat → Prop} {a : Nat} {H0 : Heap} {L P : List Nat} {f : Nat → va_E} {own : String} {vs : List (Option Value)}
variable {post : Option Value → List Nat → (Nat → va_E) → Prop} {av : List Value} {mc ms : Nat}
theorem pg_end {N : List Nat} {v : Option Value} (hM : pgS G (pgA L s.heap.size) s.heap P f H locs) (hP : P = L ++ N) (hp : post v N f) : ∀ t : State, t.heap = H → s.WarmedH t.vm → ctQ G L s.heap.size post av.toArray s (.returned v) t := by
  subst hP
  intro t ht _
  refine ⟨v, N, f, rfl, hp, ⟨by rw [ht]; exact hM.1, hM.2.1.weaken (fun _ _ _ _ => trivial)⟩, fun q hq => ?_, hM.2.2.1.F ht⟩
  exact (pg_plA hM.2.1 q (List.mem_append_right _ hq)).resolve_left (pg_apart hM.2.1 hq)
theorem pg_iret (C : CallFix p m c cc nL s av.toArray bg own) (hr : meth.sig.returnType = some .int) (hlk : meth.locks = false) {N : List Nat} {x : Int32} (hM : pgS G (pgA L s.heap.size) s.heap P f H locs) (hP : P = L ++ N) (h1 : cells ≤ mc) (h2 : slots ≤ ms) (hdg : decode cc pc = .ok (.ireturn, 1)) (hp : post (some (.int x)) N f) : W p l e R s m av.toArray below meth c H locs cells slots (pQ G below av s L post mc ms) (F0 m pc ls [.int x]) :=
  W.widen h1 h2 (W.iret C.1 C.2.1 hr (pg_end hM hP hp) hM.2.2.1.2.2 hdg)
theorem pg_zret (C : CallFix p m c cc nL s av.toArray bg own) (hr : meth.sig.returnType = some .boolean) (hlk : meth.locks = false) {N : List Nat} {x : Int32} (hM : pgS G (pgA L s.heap.size) s.heap P f H locs) (hP : P = L ++ N) (h1 : cells ≤ mc) (h2 : slots ≤ ms) (hdg : decode cc pc = .ok (.ireturn, 1)) (hn : narrow .boolean (.int x) = .int x) (hp : post (some (.int x)) N f) : W p l e R s m av.toArray below meth c H locs cells slots (pQ G below av s L post mc ms) (F0 m pc ls [.int x]) :=
  W.widen h1 h2 (W.zret C.1 C.2.1 hr hn (pg_end hM hP hp) hM.2.2.1.2.2 hdg)
theorem pg_lret (C : CallFix p m c cc nL s av.toArray bg own) (hr : meth.sig.returnType = some .long) (hlk : meth.locks = false) {N : List Nat} {x : Int64} (hM : pgS G (pgA L s.heap.size) s.heap P f H locs) (hP : P = L ++ N) (h1 : cells ≤ mc) (h2 : slots ≤ ms) (hdg : decode cc pc = .ok (.lreturn, 1)) (hp : post (some (.long x)) N f) : W p l e R s m av.toArray below meth c H locs cells slots (pQ G below av s L post mc ms) (F0 m pc ls [.long x]) :=
  W.widen h1 h2 (W.lret C.1 C.2.1 hr (pg_end hM hP hp) hM.2.2.1.2.2 hdg)
theorem pg_vret (C : CallFix p m c cc nL s av.toArray bg own) (hr : meth.sig.returnType = none) (hlk : meth.locks = false) {N : List Nat} (hM : pgS G (pgA L s.heap.size) s.heap P f H locs) (hP : P = L ++ N) (h1 : cells ≤ mc) (h2 : slots ≤ ms) (hdg : decode cc pc = .ok (.return_, 1)) (hp : post none N f) : W p l e R s m av.toArray below meth c H locs cells slots (pQ G below av s L post mc ms) (F0 m pc ls []) :=
  W.widen h1 h2 (W.vret C.1 C.2.1 hr (pg_end hM hP hp) hM.2.2.1.2.2 hdg)
theorem pg_aret (C : CallFix p m c cc nL s av.toArray bg own) {rt : FieldType} (hr : meth.sig.returnType = some rt) (hrt : (∃ n, rt = .object n) ∨ ∃ t, rt = .array t) (hlk : meth.locks = false) {N : List Nat} {x : Value} (hx : x = .null ∨ ∃ a, x = .ref a) (hM : pgS G (pgA L s.heap.size) s.heap P f H locs) (hP : P = L ++ N) (h1 : cells ≤ mc) (h2 : slots ≤ ms) (hdg : decode cc pc = .ok (.areturn, 1)) (hp : post (some x) N f) : W p l e R s m av.toArray below meth c H locs cells slots (pQ G below av s L post mc ms) (F0 m pc ls [x]) :=
  W.widen h1 h2 (W.aret C.1 C.2.1 hr hrt hx (pg_end hM hP hp) hM.2.2.1.2.2 hdg)
theorem pg_after {st0 : List Value} {ar : Array Value} (hr : va_Run p l e R s m args below meth c H locs cells slots mc ms (F0 m pc ls st0) rest (ctQ G P H.size post ar) (pgA P H.size)) (hM : pgS G A s.heap P f H locs)
    (kk : ∀ (v : Option Value) (N : List Nat) (f' : Nat → va_E) (H1 : Heap) (locs1 : List Loc), post v N f' → pgS G A s.heap (P ++ N) f' H1 locs1 → W p l e R s m args below meth c H1 locs1 (cells + mc) (slots + ms) Q (F0 m (pc + 3) ls (v.toList ++ rest))) : W p l e R s m args below meth c H locs cells slots Q (F0 m pc ls st0) := by
  intro T hT X
  obtain ⟨v, st₀, t, T', L', h0, X', hL, e1, e2, ⟨v', N, f', hv, hp, hR, hN, hz, hk⟩, st⟩ := hr T hT X
  cases hv
  rw [h0] at hz hk
  have hA : ∀ q, pgA P H.size q → A q := fun q h => h.elim (pg_plA hM.2.1 q) (fun h => hM.2.2.2 q (Nat.le_trans hM.2.2.1.1 h))
  have hS := hM.2.2.1
  obtain ⟨t2, a1, b1⟩ := kk v N f' T'.heap (locs ++ L') hp ⟨by rw [e1]; exact hR.1, pg_plD hR.2 (fun q h => (List.mem_append.mp h).elim (pg_plA hM.2.1 q) (fun h => hM.2.2.2 q (Nat.le_trans hS.1 (hN q h)))), ⟨Nat.le_trans hS.1 (by rw [e1]; exact hz), fun q h1 h2 => by rw [e1, hk q (Nat.lt_of_lt_of_le h1 hS.1) (fun z => h2 (hA q z))]; exact hS.2.1 q h1 h2, fun q hq => by
      rcases List.mem_append.mp hq with h | h
      · exact hS.2.2 q h
      · exact hA _ (hL q h)⟩, hM.2.2.2⟩ T' rfl X'
  exact ⟨t2, st t2 a1, b1⟩
theorem pg_blind {sz : Nat} : FrameBlind (va_Pc av (ctP G P f sz)) := fun a U g mk q => ⟨q.1, q.2.1, q.2.2.1, ev.same (U := U) rfl q.2.2.2⟩
theorem pg_pre (hE : ev G A s s.heap) (hM : pgS G A s.heap P f H locs) : ∀ U : State, U.heap = H → s.WarmedH U.vm → va_Pc av (ctP G P f H.size) av.toArray U := fun U hU hW =>
  ⟨rfl, by rw [hU], ⟨by rw [hU]; exact hM.1, hM.2.1.weaken (fun _ _ _ _ => trivial)⟩, by rw [hU]; exact hE.into hM.2.2.1 (fun q h => h.elim (pg_plA hM.2.1 q) (fun h => hM.2.2.2 q (Nat.le_trans hM.2.2.1.1 h))) hW⟩
/-- a method that can be called: its words -/
def cyV (y : MethodName) (bytes : ByteArray) (maxL : Nat) (ret : Option FieldType) (n : Nat) : Prop := Cond.instanceMethod y ∈ bg ∧ Cond.selects y.cls y y ∈ bg ∧ Cond.initialized y.cls ∈ bg ∧ Cond.code y bytes maxL ret ∈ bg ∧ (y.cls ≠ "java/lang/invoke/MethodHandle" ∧ y.cls ≠ "java/lang/invoke/VarHandle" ∧ (parseMethodDescriptor y.desc).map (fun d => d.parameters.length) = some n)
def cyS (y : MethodName) (bytes : ByteArray) (maxL : Nat) (ret : Option FieldType) (n : Nat) : Prop := Cond.static y ∈ bg ∧ Cond.initialized y.cls ∈ bg ∧ Cond.code y bytes maxL ret ∈ bg ∧ (y.cls ≠ "java/lang/invoke/MethodHandle" ∧ y.cls ≠ "java/lang/invoke/VarHandle" ∧ (parseMethodDescriptor y.desc).map (fun d => d.parameters.length) = some n)
def cyI (y : MethodName) (bytes : ByteArray) (maxL : Nat) (n : Nat) : Prop := Cond.instanceMethod y ∈ bg ∧ Cond.initialized y.cls ∈ bg ∧ Cond.code y bytes maxL none ∈ bg ∧ y.name = "<init>" ∧ (y.cls ≠ "java/lang/invoke/MethodHandle" ∧ y.cls ≠ "java/lang/invoke/VarHandle" ∧ (parseMethodDescriptor y.desc).map (fun d => d.parameters.length) = some n)
theorem gi_code {y : MethodName} {bytes : ByteArray} {maxL : Nat} {ret : Option FieldType} (h : Cond.code y bytes maxL ret ∈ bg) : GoodIn bg (Cond.code y bytes maxL ret :: bg) := fun w hw => (List.mem_cons.mp hw).elim (fun e => by rw [e]; exact ⟨h, bg_good h⟩) (fun h => ⟨h, bg_good h⟩)
theorem gi_app {xs ys : List Cond} (h1 : ∀ w ∈ xs, w ∈ bg) (h2 : GoodIn bg ys) : GoodIn bg (xs ++ ys) := fun w hw => (List.mem_append.mp hw).elim (fun h => ⟨h1 w h, bg_good (h1 w h)⟩) (h2 w)
variable {y : MethodName} {bytes : ByteArray} {maxL index fr lc n : Nat} {ret : Option FieldType} {As st0 : List Value} {b : Nat}
theorem pg_callV (C : CallFix p m c cc nL s args bg own) (hE : ev G A s s.heap) (hM : pgS G A s.heap P f H locs) (hc : ct l G y bytes maxL ret fr lc mc ms (.ref b :: As) P f post) (hb : b ∈ P) {ci : Nat} {fs : List Value} (hf : f b = .inr (ci, fs)) {T : u_T} {N0 : Nat} (hcl : cl[ci]? = some (y.cls, T, N0)) (w1 : Cond.methodLink own index y ∈ bg) (cy : cyV y bytes maxL ret n) (hR : fr + 1 ≤ R.frames ∧ 8 + (maxL + 11) + lc ≤ R.locals) (hn : As.length = n) (hs : ls.size = nL) (hst : st0 = As.reverse ++ .ref b :: rest) (hrs : (rest.map fun v => v.category).sum ≤ 8) (hroom : cells + mc ≤ R.cells ∧ slots + ms ≤ R.slots) (hdg : decode cc pc = .ok (.invokevirtual index, 3))
    (kk : ∀ (v : Option Value) (N : List Nat) (f' : Nat → va_E) (H1 : Heap) (locs1 : List Loc), post v N f' → pgS G A s.heap (P ++ N) f' H1 locs1 → W p l e R s m args below meth c H1 locs1 (cells + mc) (slots + ms) Q (F0 m (pc + 3) ls (v.toList ++ rest))) : W p l e R s m args below meth c H locs cells slots Q (F0 m pc ls st0) := by
  obtain ⟨q0, he⟩ := hM.ix hb
  rw [hf] at he
  refine pg_after (va_runV (As := As) (rest := rest) C (hc H.size) (cwV (C := y.cls) n C.2.2.2.2 (gi_app (fun w hw => ?_) (gi_code cy.2.2.2.1)) rfl rfl rfl ⟨rfl, cy.2.2.2.2⟩ hR) ⟨pg_blind, va_recv hE.1.1 hM.1 hcl he, pg_pre hE hM⟩ rfl hn hs hst (lv_room hrs) hdg hroom) hM kk
  simp only [List.mem_cons, List.not_mem_nil, or_false] at hw
  rcases hw with rfl | rfl | rfl | rfl
  · exact w1
  · exact cy.1
  · exact cy.2.1
  · exact cy.2.2.1
theorem pg_callS (C : CallFix p m c cc nL s args bg own) (hE : ev G A s s.heap) (hM : pgS G A s.heap P f H locs) (hc : ct l G y bytes maxL ret fr lc mc ms As P f post) (w1 : Cond.methodLink own index y ∈ bg) (cy : cyS y bytes maxL ret n) (hR : fr + 1 ≤ R.frames ∧ 8 + (maxL + 11) + lc ≤ R.locals) (hn : As.length = n) (hs : ls.size = nL) (hst : st0 = As.reverse ++ rest) (hrs : (rest.map fun v => v.category).sum ≤ 8) (hroom : cells + mc ≤ R.cells ∧ slots + ms ≤ R.slots) (hdg : decode cc pc = .ok (.invokestatic index, 3))
    (kk : ∀ (v : Option Value) (N : List Nat) (f' : Nat → va_E) (H1 : Heap) (locs1 : List Loc), post v N f' → pgS G A s.heap (P ++ N) f' H1 locs1 → W p l e R s m args below meth c H1 locs1 (cells + mc) (slots + ms) Q (F0 m (pc + 3) ls (v.toList ++ rest))) : W p l e R s m args below meth c H locs cells slots Q (F0 m pc ls st0) := by
  refine pg_after (va_runS (As := As) (rest := rest) C (hc H.size) (va_cwS n C.2.2.2.2 (gi_app (fun w hw => ?_) (gi_code cy.2.2.1)) rfl rfl rfl cy.2.2.2 hR) ⟨pg_blind, pg_pre hE hM⟩ rfl hn hs hst (lv_room hrs) hdg hroom) hM kk
  simp only [List.mem_cons, List.not_mem_nil, or_false] at hw
  rcases hw with rfl | rfl | rfl
  · exact w1
  · exact cy.1
  · exact cy.2.1
theorem pg_callI (C : CallFix p m c cc nL s args bg own) (hE : ev G A s s.heap) (hM : pgS G A s.heap P f H locs) (hc : ct l G y bytes maxL none fr lc mc ms (.ref b :: As) P f post) (w1 : Cond.methodLink own index y ∈ bg) (cy : cyI y bytes maxL n) (hR : fr + 1 ≤ R.frames ∧ 8 + (maxL + 11) + lc ≤ R.locals) (hn : As.length = n) (hs : ls.size = nL) (hst : st0 = As.reverse ++ .ref b :: rest) (hrs : (rest.map fun v => v.category).sum ≤ 8) (hroom : cells + mc ≤ R.cells ∧ slots + ms ≤ R.slots) (hdg : decode cc pc = .ok (.invokespecial index, 3))
    (kk : ∀ (v : Option Value) (N : List Nat) (f' : Nat → va_E) (H1 : Heap) (locs1 : List Loc), post v N f' → pgS G A s.heap (P ++ N) f' H1 locs1 → W p l e R s m args below meth c H1 locs1 (cells + mc) (slots + ms) Q (F0 m (pc + 3) ls (v.toList ++ rest))) : W p l e R s m args below meth c H locs cells slots Q (F0 m pc ls st0) :=
  pg_after (va_runI (As := As) (rest := rest) C (hc H.size) (cwI n C.2.2.2.2 (gi_code cy.2.2.1) rfl rfl rfl (C.2.2.2.2 _ cy.2.1) (C.2.2.2.2 _ w1) (C.2.2.2.2 _ cy.1) cy.2.2.2.1 cy.2.2.2.2 hR) ⟨pg_blind, pg_pre hE hM⟩ rfl hn hs hst (lv_room hrs) hdg hroom) hM kk
theorem pg_callSN (C : CallFix p m c cc nL s args bg own) (hE : ev G A s s.heap) (hM : pgS G A s.heap P f H locs) (hc : ct l G y bytes maxL ret fr lc mc ms As P f post) {host : String} (w1 : Cond.methodLinkNest own index y host ∈ nwl) (cy : cyS y bytes maxL ret n) (hR : fr + 1 ≤ R.frames ∧ 8 + (maxL + 11) + lc ≤ R.locals) (hn : As.length = n) (hs : ls.size = nL) (hst : st0 = As.reverse ++ rest) (hrs : (rest.map fun v => v.category).sum ≤ 8) (hroom : cells + mc ≤ R.cells ∧ slots + ms ≤ R.slots) (hdg : decode cc pc = .ok (.invokestatic index, 3))
    (kk : ∀ (v : Option Value) (N : List Nat) (f' : Nat → va_E) (H1 : Heap) (locs1 : List Loc), post v N f' → pgS G A s.heap (P ++ N) f' H1 locs1 → W p l e R s m args below meth c H1 locs1 (cells + mc) (slots + ms) Q (F0 m (pc + 3) ls (v.toList ++ rest))) : W p l e R s m args below meth c H locs cells slots Q (F0 m pc ls st0) :=
  pg_after (va_runSN (As := As) (rest := rest) C (hc H.size) ⟨va_cnB n C.2.2.2.2 (gi_code cy.2.2.1) rfl rfl rfl (hE.1.2.1 _ w1) (C.2.2.2.2 _ cy.2.1) cy.2.2.2 hR, C.2.2.2.2 _ cy.1, trivial⟩ ⟨pg_blind, pg_pre hE hM⟩ rfl hn hs hst (lv_room hrs) hdg hroom) hM kk
theorem pg_callIN (C : CallFix p m c cc nL s args bg own) (hE : ev G A s s.heap) (hM : pgS G A s.heap P f H locs) (hc : ct l G y bytes maxL none fr lc mc ms (.ref b :: As) P f post) {host : String} (w1 : Cond.methodLinkNest own index y host ∈ nwl) (cy : cyI y bytes maxL n) (hR : fr + 1 ≤ R.frames ∧ 8 + (maxL + 11) + lc ≤ R.locals) (hn : As.length = n) (hs : ls.size = nL) (hst : st0 = As.reverse ++ .ref b :: rest) (hrs : (rest.map fun v => v.category).sum ≤ 8) (hroom : cells + mc ≤ R.cells ∧ slots + ms ≤ R.slots) (hdg : decode cc pc = .ok (.invokespecial index, 3))
    (kk : ∀ (v : Option Value) (N : List Nat) (f' : Nat → va_E) (H1 : Heap) (locs1 : List Loc), post v N f' → pgS G A s.heap (P ++ N) f' H1 locs1 → W p l e R s m args below meth c H1 locs1 (cells + mc) (slots + ms) Q (F0 m (pc + 3) ls (v.toList ++ rest))) : W p l e R s m args below meth c H locs cells slots Q (F0 m pc ls st0) :=
  pg_after (va_runIN (As := As) (rest := rest) C (hc H.size) ⟨va_cnB n C.2.2.2.2 (gi_code cy.2.2.1) rfl rfl rfl (hE.1.2.1 _ w1) (C.2.2.2.2 _ cy.2.1) cy.2.2.2.2 hR, cy.2.2.2.1, C.2.2.2.2 _ cy.1⟩ ⟨pg_blind, pg_pre hE hM⟩ rfl hn hs hst (lv_room hrs) hdg hroom) hM kk
theorem pg_push {q : Nat} {x : va_E} (hM : pgS G A H0 P f H locs) {H1 : Heap} (a1 : va_P G.1 cl (va_pl P f ++ [(q, x)]) H1) (a2 : va_D A (va_pl P f ++ [(q, x)])) (a3 : va_S A H0 H1 locs) : q ∉ P ∧ pgS G A H0 (P ++ [q]) (va_up f q x) H1 locs := by
  have hq : q ∉ P := by
    intro h
    obtain ⟨k, hk⟩ := hM.ix h
    have hlt : k < (va_pl P f).length := (List.getElem?_eq_some_iff.mp hk).1
    have h1 : (va_pl P f ++ [(q, x)])[k]? = some (q, f q) := by rw [List.getElem?_append_left hlt]; exact hk
    have h2 : (va_pl P f ++ [(q, x)])[(va_pl P f).length]? = some (q, x) := by simp
    have := a2.1 k _ _ _ h1 h2 rfl
    omega
  exact ⟨hq, by rw [← va_pl_push hq]; exact a1, by rw [← va_pl_push hq]; exact a2, a3, hM.2.2.2⟩
theorem pg_newI (C : CallFix p m c cc nL s args bg own) (hE : ev G A s H0) (hM : pgS G A H0 P f H locs) (w1 : Cond.arrayClass .int ∈ bg) {x : Int32} {N : Nat} (hx : ¬ x < 0) (hN : x.toNatClampNeg = N) (hb : N * 4 ≤ 536870912) (hcells : cells + 1 ≤ R.cells) (hslots : slots + N ≤ R.slots) (hdg : decode cc pc = .ok (.newarray .int, 2))
    (kk : ∀ (q : Nat) (H1 : Heap), q ∉ P → pgS G A H0 (P ++ [q]) (va_up f q (.inl (G.2.1 0, N, .inl (fun _ => 0)))) H1 locs → W p l e R s m args below meth c H1 locs (cells + 1) (slots + N) Q (F0 m (pc + 2) ls (.ref q :: rest))) : W p l e R s m args below meth c H locs cells slots Q (F0 m pc ls (.int x :: rest)) := by
  refine va_newa (atype := .int) (ty := .int) (a0 := (N, .inl (fun _ => 0))) C.1 C.2.1 (C.2.2.2.2 _ w1) rfl hE.1.1 hM.1 hM.2.1 hM.2.2.1 hM.2.2.2 (fun _ => rfl) hx hN hb hcells hslots hdg (fun q cA H1 k a1 a2 a3 => ?_)
  have e1 : s.vm.findClass ("[" ++ FieldType.int.toString) = some cA := (k.2 6 _ rfl).2
  have e2 : s.vm.findClass ("[" ++ FieldType.int.toString) = some (G.2.1 0) := (hE.1.1.2 0 _ rfl).2
  cases Option.some.inj (e1.symm.trans e2)
  obtain ⟨hq, h⟩ := pg_push hM a1 a2 a3
  exact kk q H1 hq h
theorem pg_newL (C : CallFix p m c cc nL s args bg own) (hE : ev G A s H0) (hM : pgS G A H0 P f H locs) (w1 : Cond.arrayClass .long ∈ bg) {x : Int32} {N : Nat} (hx : ¬ x < 0) (hN : x.toNatClampNeg = N) (hb : N * 8 ≤ 536870912) (hcells : cells + 1 ≤ R.cells) (hslots : slots + N ≤ R.slots) (hdg : decode cc pc = .ok (.newarray .long, 2))
    (kk : ∀ (q : Nat) (H1 : Heap), q ∉ P → pgS G A H0 (P ++ [q]) (va_up f q (.inl (G.2.1 1, N, .inr (.inl (fun _ => 0))))) H1 locs → W p l e R s m args below meth c H1 locs (cells + 1) (slots + N) Q (F0 m (pc + 2) ls (.ref q :: rest))) : W p l e R s m args below meth c H locs cells slots Q (F0 m pc ls (.int x :: rest)) := by
  refine va_newa (atype := .long) (ty := .long) (a0 := (N, .inr (.inl (fun _ => 0)))) C.1 C.2.1 (C.2.2.2.2 _ w1) rfl hE.1.1 hM.1 hM.2.1 hM.2.2.1 hM.2.2.2 (fun _ => rfl) hx hN hb hcells hslots hdg (fun q cA H1 k a1 a2 a3 => ?_)
  have e1 : s.vm.findClass ("[" ++ FieldType.long.toString) = some cA := (k.2 6 _ rfl).2
  have e2 : s.vm.findClass ("[" ++ FieldType.long.toString) = some (G.2.1 1) := (hE.1.1.2 1 _ rfl).2
  cases Option.some.inj (e1.symm.trans e2)
  obtain ⟨hq, h⟩ := pg_push hM a1 a2 a3
  exact kk q H1 hq h
theorem pg_newZ (C : CallFix p m c cc nL s args bg own) (hE : ev G A s H0) (hM : pgS G A H0 P f H locs) (w1 : Cond.arrayClass .boolean ∈ bg) {x : Int32} {N : Nat} (hx : ¬ x < 0) (hN : x.toNatClampNeg = N) (hb : N * 1 ≤ 536870912) (hcells : cells + 1 ≤ R.cells) (hslots : slots + N ≤ R.slots) (hdg : decode cc pc = .ok (.newarray .boolean, 2))
    (kk : ∀ (q : Nat) (H1 : Heap), q ∉ P → pgS G A H0 (P ++ [q]) (va_up f q (.inl (G.2.1 2, N, .inl (fun _ => 0)))) H1 locs → W p l e R s m args below meth c H1 locs (cells + 1) (slots + N) Q (F0 m (pc + 2) ls (.ref q :: rest))) : W p l e R s m args below meth c H locs cells slots Q (F0 m pc ls (.int x :: rest)) := by
  refine va_newa (atype := .boolean) (ty := .boolean) (a0 := (N, .inl (fun _ => 0))) C.1 C.2.1 (C.2.2.2.2 _ w1) rfl hE.1.1 hM.1 hM.2.1 hM.2.2.1 hM.2.2.2 (fun _ => rfl) hx hN hb hcells hslots hdg (fun q cA H1 k a1 a2 a3 => ?_)
  have e1 : s.vm.findClass ("[" ++ FieldType.boolean.toString) = some cA := (k.2 6 _ rfl).2
  have e2 : s.vm.findClass ("[" ++ FieldType.boolean.toString) = some (G.2.1 2) := (hE.1.1.2 2 _ rfl).2
  cases Option.some.inj (e1.symm.trans e2)
  obtain ⟨hq, h⟩ := pg_push hM a1 a2 a3
  exact kk q H1 hq h
theorem pg_newR (C : CallFix p m c cc nL s args bg own) (hE : ev G A s H0) (hM : pgS G A H0 P f H locs) {E : String} {t0 : Nat} (ht : (tys G)[t0]? = some (G.2.1 t0, .object E)) (hao : va_AO E s) (w1 : Cond.classLink own index E ∈ bg) {x : Int32} {N : Nat} (hx : ¬ x < 0) (hN : x.toNatClampNeg = N) (hb : N * 4 ≤ 536870912) (hcells : cells + 1 ≤ R.cells) (hslots : slots + N ≤ R.slots) (hdg : decode cc pc = .ok (.anewarray index, 3))
    (kk : ∀ (q : Nat) (H1 : Heap), q ∉ P → pgS G A H0 (P ++ [q]) (va_up f q (.inl (G.2.1 t0, N, .inr (.inr (.inr (.inr (fun _ => none))))))) H1 locs → W p l e R s m args below meth c H1 locs (cells + 1) (slots + N) Q (F0 m (pc + 3) ls (.ref q :: rest))) : W p l e R s m args below meth c H locs cells slots Q (F0 m pc ls (.int x :: rest)) := by
  refine va_newq C.1 C.2.1 C.2.2.2.1 (C.2.2.2.2 _ w1) hao hE.1.1 hM.1 hM.2.1 hM.2.2.1 hM.2.2.2 hx hN hb hcells hslots hdg (fun q cA H1 k a1 a2 a3 => ?_)
  obtain ⟨_, _, _, _, _, e1⟩ := (k.2 6 _ rfl).2
  obtain ⟨_, _, _, _, _, e2⟩ := (hE.1.1.2 t0 _ ht).2
  cases Option.some.inj (e1.symm.trans e2)
  obtain ⟨hq, h⟩ := pg_push hM a1 a2 a3
  exact kk q H1 hq h
end PGC
