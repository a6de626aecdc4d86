/-- the stand, begun anew at the state that it has come to -/
theorem st_rebase {p : Program} {l : Launch} {e : Env} {R : Room} {s : State} {m : MethodId} {args : Array Value} {below : List Frame} {meth : Method} {c : Code} {T : State} {locs : List Loc} {cells slots : Nat} (X : Stand p l e R s m args below meth c T locs cells slots) (k n : Nat) (h1 : cells + k ≤ R.cells) (h2 : slots + n ≤ R.slots) : Stand p l e { R with cells := k, slots := n } ({ s with heap := T.heap, slotsUsed := T.slotsUsed, vm := T.vm } : State) m args below meth c T [] 0 0 := by
  have hal := X.warmed.alike
  have hmeth : ∀ mm : MethodId, T.vm.method? mm = s.vm.method? mm := fun mm => hal.method? mm
  have hcode : ∀ mm : MethodId, ({ s with heap := T.heap, slotsUsed := T.slotsUsed, vm := T.vm } : State).code? mm = s.code? mm := fun mm => by
    rw [State.code?_eq, State.code?_eq]
    exact congrArg (fun z => z.bind (·.code)) (hmeth mm)
  have hF : ({ s with heap := T.heap, slotsUsed := T.slotsUsed, vm := T.vm } : State).frames = .invoking m args :: below := X.frames
  have hm' : ({ s with heap := T.heap, slotsUsed := T.slotsUsed, vm := T.vm } : State).vm.method? m = some meth := by rw [← X.method]; exact hmeth m
  have hU : ({ s with heap := T.heap, slotsUsed := T.slotsUsed, vm := T.vm } : State).localsInUse = s.localsInUse := by
    rw [State.localsInUse_invoking hF hm' X.code, State.localsInUse_invoking X.frames X.method X.code]
  have hroom : ({ s with heap := T.heap, slotsUsed := T.slotsUsed, vm := T.vm } : State).hasRoom e.platform { R with cells := k, slots := n } = true := by
    have h := X.room
    have hb := X.book
    have e1 := X.heapSize
    have e2 := X.used
    unfold State.hasRoom at h ⊢
    rw [hU]
    simp only [Bool.and_eq_true, decide_eq_true_eq] at h ⊢
    obtain ⟨⟨⟨⟨a1, a2⟩, a3⟩, a4⟩, a5⟩ := h
    refine ⟨⟨⟨⟨a1, a2⟩, ?_⟩, ?_⟩, hb⟩
    · show T.heap.size + k ≤ _
      omega
    · show T.slotsUsed + n ≤ _
      omega
  have hhears : ({ s with heap := T.heap, slotsUsed := T.slotsUsed, vm := T.vm } : State).hears m below = true := by
    have h := X.hears
    cases hb : below with
    | nil => rw [hb] at h; simp only [State.hears] at h ⊢; rw [hmeth]; exact h
    | cons f r =>
      rw [hb] at h
      cases f <;> simp only [State.hears] at h ⊢ <;> first | (rw [hcode]; exact h) | (rw [hmeth]; exact h) | exact h
  refine ⟨X.admits, X.cas, X.clock, hF, hroom, hhears, hm', X.code, X.here, X.tail, State.WarmedH.refl _, X.limits, X.bytes, ?_, Nat.le_refl _, Nat.le_refl _, ?_, ?_, fun a c hc => ⟨c, hc, rfl, rfl, fun _ _ => rfl⟩⟩
  · exact congrArg (fun u => State.setVm u T.vm) X.same.1
  · show T.slotsUsed = T.slotsUsed + ((T.heap.toList.drop T.heap.size).map (·.slots.size)).sum
    rw [List.drop_of_length_le (by simp)]; rfl
  · show ((T.heap.toList.drop T.heap.size).map (·.slots.size)).sum ≤ 0
    rw [List.drop_of_length_le (by simp)]; exact Nat.le_refl _
/-- a throw's end, against the state at which 'new' stood -/
def thQ (below : List Frame) (s : State) (X : String) : State → Prop := fun U => U.status = .running ∧ Ended U below (.threw s.heap.size) ∧ s.WarmedH U.vm ∧ s.sameButNew ({ U with vm := s.vm } : State) [] 1 6 ∧ ∃ ce : Cell, U.heap[s.heap.size]? = some ce ∧ ce.vm = .none ∧ s.vm.findClass X = some ce.cls
abbrev xUp : List String := ["java/lang/RuntimeException", "java/lang/Exception"]
section THR
variable {p : Program} {l : Launch} {e : Env} {R : Room} {s : State} {m : MethodId} {args : Array Value} {below : List Frame} {meth : Method} {c : Code} {H : Heap} {locs : List Loc} {cells slots : Nat} {Q : State → Prop}
variable {cc : ByteArray} {pc nL : Nat} {ls : Array Slot} {rest : List Value} {G : GG} {A : Nat → Prop} {L : List Nat} {f : Nat → va_E} {av : List Value} {mc ms : Nat}
theorem th_run (C : CallFix p m c cc nL s args bg "FleetFloor") (hE : ev G A s s.heap) (hlk : meth.locks = false) (hx0 : ∀ (pc : Nat), ∀ x ∈ c.exceptionTable.toList, covers x pc = false) (hfl : l.flags = flags0) {X : String} {ix ic is : Nat} (hown : ∀ a ∈ Bundle.ownAtoms "FleetFloor" ic X xUp, a.before args s = true) (hX : Bundle.fit X = true) (w1 : Cond.classLink "FleetFloor" ix X ∈ bg) (w2 : Cond.instantiable X 6 ∈ bg) (w3 : Cond.initialized X ∈ bg) {tx : String} (hw : (is, tx) ∈ xw) (hs : ls.size = nL) (hR : 6 ≤ R.frames ∧ 100 ≤ R.locals ∧ 1 ≤ R.cells ∧ 6 ≤ R.slots)
    (d1 : decode cc pc = .ok (.new ix, 3)) (d2 : decode cc (pc + 3) = .ok (.dup, 1)) (d3 : decode cc (pc + 4) = .ok (.ldc is, 2)) (d4 : decode cc (pc + 6) = .ok (.invokespecial ic, 3)) (d5 : decode cc (pc + 9) = .ok (.athrow, 1)) : W p l e R s m args below meth c s.heap [] 0 0 (thQ below s X) (F0 m pc ls []) := by
  refine W.newc C.1 C.2.1 C.2.2.2.1 (C.2.2.2.2 _ w1) (C.2.2.2.2 _ w2) (C.2.2.2.2 _ w3) rfl d1 (by omega) (by omega) (fun cX kX hfX hkX _ _ => ?_)
  refine lv_dup C.1 C.2.1 d2 rfl ?_
  obtain ⟨q, hq⟩ := hE.2.2.2.2 _ hw
  refine va_ldcS C.1 C.2.1 C.2.2.2.1 hq d3 ?_
  intro T hT XT
  have hcell : T.heap[s.heap.size]? = some (freshCell cX kX) := by rw [hT]; simp [freshCell]
  obtain ⟨U, hst, hrun, hend, hW, hsame, ce, hce, K⟩ := XT.ctorThrowS C.1 (Launch.traces_off hfl XT.admits) (own := "FleetFloor") (cls := X) (names := xUp) (ic := ic) C.2.2.2.1 hX (by decide +kernel) hown (fun x h => by cases h) hfX hkX hcell (Nat.le_refl _) (msg := .ref q) rfl
    (g := F0 m (pc + 6) ls [.ref q, .ref s.heap.size, .ref s.heap.size]) rfl (hs.trans C.2.2.1.symm) rfl rfl (rest := []) rfl (by rw [C.2.1]; exact d4) (by rw [C.2.1]; exact d5) (hx0 _) (by show 2 + 3 < R.frames; omega) (by show _ + (13 * (2 + 1) + 42) ≤ R.locals; simp [JFrame.monitorRoom, Value.category]; omega)
  exact ⟨U, hst, hrun, hend, hW, hsame, ce, hce, K.vm, K.cls⟩
end THR
/-- a throw's answer over the pool: nothing of the pool has changed -/
def ctQX (G : GG) (L : List Nat) (f : Nat → va_E) (sz : Nat) (X : String) : Array Value → State → Outcome → State → Prop := fun _ st oc t => ∃ x : Nat, oc = .threw x ∧ pgR G L f t.heap ∧ va_F (pgA L sz) st t ∧ ∃ ce : Cell, t.heap[x]? = some ce ∧ ce.vm = .none ∧ st.vm.findClass X = some ce.cls
def ctQY (G : GG) (L : List Nat) (f : Nat → va_E) (sz : Nat) (X : String) (mc ms : Nat) : Array Value → State → Outcome → State → Prop := fun a st o t => ctQX G L f sz X a st o t ∧ ∃ Ls, (st.WarmedH t.vm ∧ st.sameButNew ({ t with vm := st.vm } : State) Ls mc ms) ∧ ∀ q ∈ Ls, pgA L sz q.base
def ctX (l : Launch) (G : GG) (y : MethodName) (cc : ByteArray) (nL : Nat) (rt : Option FieldType) (fr lc mc ms : Nat) (av : List Value) (L : List Nat) (f : Nat → va_E) (X : String) : Prop :=
  ∀ sz : Nat, MetFree l y (headSpec (Cond.code y cc nL rt :: bg) { frames := fr, cells := mc, slots := ms, locals := lc }) (va_Pc av (ctP G L f sz)) (fun _ _ _ _ _ => True) (ctQY G L f sz X mc ms)
abbrev xQ (G : GG) (below : List Frame) (av : List Value) (s : State) (L : List Nat) (f : Nat → va_E) (X : String) (mc ms : Nat) : State → Prop := fun t => ∃ o, t.status = .running ∧ Ended t below o ∧ ctQY G L f s.heap.size X mc ms av.toArray s o t
theorem ctX_intro {l : Launch} {G : GG} {y : MethodName} {cc : ByteArray} {nL : Nat} {rt : Option FieldType} {fr lc mc ms : Nat} {av : List Value} {L : List Nat} {f : Nat → va_E} {X : String} (hy : plainName y.cls = true) (vs : List (Option Value)) (h1 : vs.length = nL) (h2 : loL 0 vs = lv_args 0 av) (h3 : (lg_sl av).length ≤ nL)
    (body : ∀ (p : Program) (e : Env) (s : State) (m : MethodId) (below : List Frame) (meth : Method) (c : Code) (ls : Array Slot), CallFix p m c cc nL s av.toArray bg y.cls → meth.locks = false → (∀ (pc : Nat), ∀ x ∈ c.exceptionTable.toList, covers x pc = false) → ev G (pgA L s.heap.size) s s.heap → pgS G (pgA L s.heap.size) s.heap L f s.heap [] → lo ls vs → W p l e { frames := fr, cells := mc, slots := ms, locals := lc } s m av.toArray below meth c s.heap [] 0 0 (xQ G below av s L f X mc ms) (F0 m 0 ls [])) : ctX l G y cc nL rt fr lc mc ms av L f X := by
  intro sz
  refine MetFree.of_bodyS (code := cc) (maxLocals := nL) (ret := rt) hy ?_ ?_
  · intro args s m h hn
    obtain ⟨meth, c, h1, h2, h3, h4, h5, h6, -, -⟩ := Cond.code_spec hn (atoms_spec (ws := Cond.code y cc nL rt :: bg) h _ List.mem_cons_self)
    exact ⟨meth, c, h1, h2, h3, h4, h5, h6⟩
  · intro p e s m args below meth c s₁ B hml hv _
    have hcv := atoms_spec (ws := Cond.code y cc nL rt :: bg) B.pre _ List.mem_cons_self
    obtain ⟨rfl, hsz, hR, hE⟩ := hv
    subst hsz
    have hts := atoms_spec (ws := Cond.code y cc nL rt :: bg) B.pre
    have hl := lv_entry av (n := nL) h3
    have hh0 : s₁.heap = s.heap := by rw [B.state]; rfl
    have hx0 : ∀ (pc : Nat), ∀ x ∈ c.exceptionTable.toList, covers x pc = false := fun pc => covers_of_empty (B.noHandlers hcv) pc
    have hbody := body p e s m below meth c (lg_sl av ++ List.replicate (nL - (lg_sl av).length) Slot.unset).toArray ⟨B.exec, B.bytes, hml, findClass_of_methodNamed B.named, fun w h => hts w (List.mem_cons_of_mem _ h)⟩ B.notSynchronized hx0 hE ⟨hR.1, pg_plD hR.2 (fun q h => Or.inl h), va_S.rf, fun q h => Or.inr h⟩ (by unfold lo; rw [h1, h2]; exact hl)
    obtain ⟨t, a1, o, b1, b2, b3⟩ := hbody s₁ hh0 (Stand.of_body B)
    rw [lg_entry_eq]
    exact ⟨t, o, a1, b1, b2, b3⟩
section THS
variable {p : Program} {l : Launch} {e : Env} {R : Room} {s : State} {m : MethodId} {args : Array Value} {below : List Frame} {meth : Method} {c : Code} {H : Heap} {locs : List Loc} {cells slots : Nat} {Q : State → Prop}
variable {cc : ByteArray} {pc nL : Nat} {ls : Array Slot} {rest : List Value} {G : GG} {A : Nat → Prop} {L P : List Nat} {f f0 : Nat → va_E} {av : List Value} {mc ms : Nat}
theorem same_cells {u v : State} {k n : Nat} (h : u.sameButNew v [] k n) {a : Nat} (ha : a < u.heap.size) : v.heap[a]? = u.heap[a]? := by
  obtain ⟨x, hx⟩ : ∃ x, u.heap[a]? = some x := ⟨_, Array.getElem?_eq_getElem ha⟩
  obtain ⟨x', h1, h2, h3, h4⟩ := h.2.2.2.2.2 a x hx
  rw [h1, hx]
  have : x'.slots = x.slots := Array.ext_getElem? (fun i => h4 i (by simp))
  rw [h2, this]
/-- 'throw new X(text)': nothing of the pool changes -/
theorem pg_thr (C : CallFix p m c cc nL s av.toArray bg "FleetFloor") (hlk : meth.locks = false) (hx0 : ∀ (pc : Nat), ∀ x ∈ c.exceptionTable.toList, covers x pc = false) (hE : ev G (pgA L s.heap.size) s s.heap) (hM : pgS G (pgA L s.heap.size) s.heap P f H locs) (hsub : ∀ q ∈ L, q ∈ P) (hnd : va_D (fun _ => True) (va_pl L f0)) (hf : ∀ q ∈ L, f q = f0 q) (hfl : l.flags = flags0) {X : String} {ix ic is : Nat} (hown : ∀ (s' : State) (A' : Nat → Prop), CallFix p m c cc nL s' av.toArray bg "FleetFloor" → ev G A' s' s'.heap → ∀ a ∈ Bundle.ownAtoms "FleetFloor" ic X xUp, a.before av.toArray s' = true) (hX : Bundle.fit X = true) (w1 : Cond.classLink "FleetFloor" ix X ∈ bg) (w2 : Cond.instantiable X 6 ∈ bg) (w3 : Cond.initialized X ∈ bg) {tx : String} (hw : (is, tx) ∈ xw) (hs : ls.size = nL) (hR : 6 ≤ R.frames ∧ 100 ≤ R.locals ∧ cells + 1 ≤ R.cells ∧ slots + 6 ≤ R.slots) (hm1 : cells + 1 ≤ mc) (hm2 : slots + 6 ≤ ms)
    (d1 : decode cc pc = .ok (.new ix, 3)) (d2 : decode cc (pc + 3) = .ok (.dup, 1)) (d3 : decode cc (pc + 4) = .ok (.ldc is, 2)) (d4 : decode cc (pc + 6) = .ok (.invokespecial ic, 3)) (d5 : decode cc (pc + 9) = .ok (.athrow, 1)) : W p l e R s m av.toArray below meth c H locs cells slots (xQ G below av s L f0 X mc ms) (F0 m pc ls []) := by
  intro T hT XT
  have XR := st_rebase XT 1 6 hR.2.2.1 hR.2.2.2
  generalize hS : ({ s with heap := T.heap, slotsUsed := T.slotsUsed, vm := T.vm } : State) = s' at XR
  have e1 : s'.heap = T.heap := by rw [← hS]
  have e2 : s'.vm = T.vm := by rw [← hS]
  have hW : s.WarmedH s'.vm := by rw [e2]; exact XT.warmed
  have C' : CallFix p m c cc nL s' av.toArray bg "FleetFloor" := ⟨C.1, C.2.1, C.2.2.1, by rw [hW.alike.findClass]; exact C.2.2.2.1, fun w h => word_at hW (bg_good h) (C.2.2.2.2 w h)⟩
  have hE' : ev G (pgA L s.heap.size) s' s'.heap := by rw [e1, hT]; exact hE.into hM.2.2.1 (fun _ h => h) hW
  obtain ⟨U, hst, hrun, hend, hW2, hsame, ce, hce, hce2, hce3⟩ := th_run (G := G) (A := pgA L s.heap.size) C' hE' hlk hx0 hfl (hown s' _ C' hE') hX w1 w2 w3 hw hs (show 6 ≤ R.frames ∧ 100 ≤ R.locals ∧ 1 ≤ 1 ∧ 6 ≤ 6 from ⟨hR.1, hR.2.1, Nat.le_refl _, Nat.le_refl _⟩) d1 d2 d3 d4 d5 T e1.symm XR
  have hk : ∀ q : Nat, q < H.size → U.heap[q]? = H[q]? := fun q h => by
    have := same_cells hsame (a := q) (by rw [e1, hT]; exact h)
    rw [e1, hT] at this
    exact this
  have hsz : H.size ≤ U.heap.size := by
    have h2 : s'.heap.size ≤ U.heap.size := hsame.2.1
    rw [e1, hT] at h2
    exact h2
  refine ⟨U, hst, _, hrun, hend, ⟨_, rfl, ⟨?_, hnd⟩, ⟨Nat.le_trans hM.2.2.1.1 hsz, fun q h1 h2 => (hk q (Nat.lt_of_lt_of_le h1 hM.2.2.1.1)).trans (hM.2.2.1.2.1 q h1 h2)⟩, ce, hce, hce2, ?_⟩, locs, ⟨?_, ?_⟩, hM.2.2.1.2.2⟩
  · intro k x hx
    obtain ⟨a, ha, rfl⟩ := List.mem_map.mp (List.mem_of_getElem? hx)
    obtain ⟨k2, hk2⟩ := hM.ix (hsub a ha)
    have h3 := hM.1 k2 _ hk2
    rw [hf a ha] at h3
    exact h3.kept (hk a h3.lt)
  · rw [← hW.alike.findClass]; exact hce3
  · exact State.WarmedH.trans hW hW2
  · have hs2 : (T.setVm s.vm).sameButNew ({ U with vm := s.vm } : State) [] 1 6 := by
      obtain ⟨g1, g2, g3, g4, g5, g6⟩ := hsame
      subst hS
      refine ⟨?_, g2, g3, g4, g5, g6⟩
      have h1 := congrArg (fun u => State.setVm u s.vm) g1
      have h2 := XT.same.1
      rw [h2]
      refine h1.trans ?_
      show _ = ({ ((s.setFrames (T.setVm s.vm).frames).setFrames U.frames) with heap := U.heap, slotsUsed := U.slotsUsed } : State)
      rw [State.setFrames_setFrames]
      rfl
    have h3 := XT.same.trans hs2
    rw [List.append_nil] at h3
    exact h3.mono hm1 hm2
end THS
