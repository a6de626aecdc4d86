theorem pg_mkD {L : List Nat} {f : Nat → va_E} (hn : L.Nodup) : va_D (fun _ => True) (va_pl L f) := by
  refine ⟨fun i j x y hi hj hxy => ?_, fun _ _ _ => trivial⟩
  unfold va_pl at hi hj
  rw [List.getElem?_map] at hi hj
  obtain ⟨a, ha, rfl⟩ := Option.map_eq_some_iff.mp hi
  obtain ⟨b, hb, rfl⟩ := Option.map_eq_some_iff.mp hj
  have hab : a = b := hxy
  subst hab
  exact (List.getElem?_inj (List.getElem?_eq_some_iff.mp ha).1 hn).mp (ha.trans hb.symm)
theorem va_D.nd {A : Nat → Prop} {L : List Nat} {f : Nat → va_E} (h : va_D A (va_pl L f)) : L.Nodup := by
  refine List.pairwise_iff_getElem.mpr (fun i j hi hj hij hne => ?_)
  have h1 : (va_pl L f)[i]? = some (L[i], f L[i]) := by unfold va_pl; rw [List.getElem?_map, List.getElem?_eq_getElem hi]; rfl
  have h2 : (va_pl L f)[j]? = some (L[j], f L[j]) := by unfold va_pl; rw [List.getElem?_map, List.getElem?_eq_getElem hj]; rfl
  have := h.1 i j _ _ h1 h2 hne
  omega
theorem pl_ix {L : List Nat} {f : Nat → va_E} {a : Nat} (ha : a ∈ L) : ∃ k : Nat, (va_pl L f)[k]? = some (a, f a) := List.getElem?_of_mem (List.mem_map.mpr ⟨a, ha, rfl⟩)
theorem pl_of {L : List Nat} {f : Nat → va_E} {k : Nat} {x : Nat × va_E} (h : (va_pl L f)[k]? = some x) : x.1 ∈ L ∧ x = (x.1, f x.1) := by
  obtain ⟨a, ha, rfl⟩ := List.mem_map.mp (List.mem_of_getElem? h)
  exact ⟨ha, rfl⟩
theorem pgR.sub {G : GG} {L L' : List Nat} {f : Nat → va_E} {H : Heap} (h : pgR G L f H) (hs : ∀ q ∈ L', q ∈ L) (hn : L'.Nodup) : pgR G L' f H := by
  refine ⟨fun k x hx => ?_, pg_mkD hn⟩
  obtain ⟨h1, h2⟩ := pl_of hx
  obtain ⟨k2, hk2⟩ := pl_ix (f := f) (hs _ h1)
  rw [h2]
  exact h.1 k2 _ hk2
/-- a contract over a part of the pool: the rest stays -/
theorem ct_sub {l : Launch} {G : GG} {y : MethodName} {cc : ByteArray} {nL : Nat} {rt : Option FieldType} {fr lc mc ms : Nat} {av : List Value} {PC L : List Nat} {f : Nat → va_E} {post : Option Value → List Nat → (Nat → va_E) → Prop} (hc : ct l G y cc nL rt fr lc mc ms av PC f post) (hs : ∀ q ∈ PC, q ∈ L) (hn : PC.Nodup) : ct l G y cc nL rt fr lc mc ms av L f (fun x N f2 => ∃ f1, post x N f1 ∧ (∀ q, q ∈ PC ∨ q ∈ N → f2 q = f1 q) ∧ ∀ q ∈ L, q ∉ PC → f2 q = f q) := by
  intro sz p e ha hcc hk s m args below hf happ hPc hK
  obtain ⟨e0, e1, hR, hE⟩ := hPc
  have hA : ∀ q, pgA PC sz q → pgA L sz q := fun q h => h.imp (hs q) id
  obtain ⟨n, o, h1, h2, h3, ⟨v, N, f1, g1, g2, g3, g4, g5⟩, Ls, g6, g7⟩ := hc sz p e ha hcc hk s m args below hf happ ⟨e0, e1, hR.sub hs hn, hE.into va_S.rf hA (State.WarmedH.refl _)⟩ hK
  have hlt : ∀ q ∈ L, q < sz := fun q hq => by
    obtain ⟨k, hk⟩ := pl_ix (f := f) hq
    rw [← e1]; exact (hR.1 k _ hk).lt
  have hNL : ∀ q ∈ N, q ∉ L := fun q h z => absurd (hlt q z) (Nat.not_lt.mpr (g4 q h))
  have hndP := va_D.nd g3.2
  refine ⟨n, o, h1, h2, h3, ⟨v, N, fun q => if q ∈ PC ∨ q ∈ N then f1 q else f q, g1, ⟨f1, g2, fun q h => if_pos h, fun q hq hp => if_neg (fun z => z.elim hp (fun z => hNL q z hq))⟩, ⟨fun k x hx => ?_, pg_mkD ?_⟩, g4, ⟨g5.1, fun q h1 h2 => g5.2 q h1 (fun z => h2 (hA q z))⟩⟩, Ls, g6, fun q h => hA _ (g7 q h)⟩
  · obtain ⟨i1, i2⟩ := pl_of hx
    rw [i2]
    by_cases hx1 : x.1 ∈ PC ∨ x.1 ∈ N
    · rw [if_pos hx1]
      obtain ⟨k2, hk2⟩ := pl_ix (f := f1) (List.mem_append.mpr hx1)
      exact g3.1 k2 _ hk2
    · rw [if_neg hx1]
      have hxL : x.1 ∈ L := (List.mem_append.mp i1).resolve_right (fun z => hx1 (Or.inr z))
      obtain ⟨k2, hk2⟩ := pl_ix (f := f) hxL
      exact (hR.1 k2 _ hk2).kept (g5.2 x.1 (by rw [e1]; exact hlt _ hxL) (fun z => z.elim (fun z => hx1 (Or.inl z)) (fun z => absurd (hlt _ hxL) (Nat.not_lt.mpr z))))
  · refine List.nodup_append.mpr ⟨va_D.nd hR.2, (List.nodup_append.mp hndP).2.1, fun a ha b hb hab => ?_⟩
    subst hab
    exact hNL a hb ha
theorem ctX_sub {l : Launch} {G : GG} {y : MethodName} {cc : ByteArray} {nL : Nat} {rt : Option FieldType} {fr lc mc ms : Nat} {av : List Value} {PC L : List Nat} {f : Nat → va_E} {X : String} (hc : ctX l G y cc nL rt fr lc mc ms av PC f X) (hs : ∀ q ∈ PC, q ∈ L) (hn : PC.Nodup) : ctX l G y cc nL rt fr lc mc ms av L f X := by
  intro sz p e ha hcc hk s m args below hf happ hPc hK
  obtain ⟨e0, e1, hR, hE⟩ := hPc
  have hA : ∀ q, pgA PC sz q → pgA L sz q := fun q h => h.imp (hs q) id
  obtain ⟨n, o, h1, h2, h3, ⟨x, g1, g3, g5, g8⟩, Ls, g6, g7⟩ := hc sz p e ha hcc hk s m args below hf happ ⟨e0, e1, hR.sub hs hn, hE.into va_S.rf hA (State.WarmedH.refl _)⟩ hK
  have hlt : ∀ q ∈ L, q < sz := fun q hq => by
    obtain ⟨k, hk⟩ := pl_ix (f := f) hq
    rw [← e1]; exact (hR.1 k _ hk).lt
  refine ⟨n, o, h1, h2, h3, ⟨x, g1, ⟨fun k x hx => ?_, hR.2⟩, ⟨g5.1, fun q h1 h2 => g5.2 q h1 (fun z => h2 (hA q z))⟩, g8⟩, Ls, g6, fun q h => hA _ (g7 q h)⟩
  obtain ⟨i1, i2⟩ := pl_of hx
  rw [i2]
  by_cases hx1 : x.1 ∈ PC
  · obtain ⟨k2, hk2⟩ := pl_ix (f := f) hx1
    exact g3.1 k2 _ hk2
  · obtain ⟨k2, hk2⟩ := pl_ix (f := f) i1
    exact (hR.1 k2 _ hk2).kept (g5.2 x.1 (by rw [e1]; exact hlt _ i1) (fun z => z.elim hx1 (fun z => absurd (hlt _ i1) (Nat.not_lt.mpr z))))
/-- a contract of a method that catches -/
def ctH (l : Launch) (G : GG) (y : MethodName) (cc : ByteArray) (nL : Nat) (rt : Option FieldType) (hh : List (Nat × Nat × Nat × Nat)) (fr lc mc ms : Nat) (av : List Value) (L : List Nat) (f : Nat → va_E) (post : Option Value → List Nat → (Nat → va_E) → Prop) : Prop :=
  ∀ sz : Nat, Met l y (Cond.codeWith y cc nL rt hh :: bg) { frames := fr, cells := mc, slots := ms, locals := lc } (va_Pc av (ctP G L f sz)) (ctQ G L sz post) mc ms (pgA L sz)
theorem ctH_intro {l : Launch} {G : GG} {y : MethodName} {cc : ByteArray} {nL : Nat} {rt : Option FieldType} {hh : List (Nat × Nat × Nat × Nat)} {fr lc mc ms : Nat} {av : List Value} {L : List Nat} {f : Nat → va_E} {post : Option Value → List Nat → (Nat → va_E) → Prop} (hy : plainName y.cls = true) (vs : List (Option Value)) (h1 : vs.length = nL) (h2 : loL 0 vs = lv_args 0 av) (h3 : (lg_sl av).length ≤ nL)
    (body : ∀ (p : Program) (e : Env) (s : State) (m : MethodId) (below : List Frame) (meth : Method) (c : Code) (ls : Array Slot), CallFix p m c cc nL s av.toArray bg y.cls → meth.sig.returnType = rt → meth.locks = false → c.exceptionTable.toList = tableOf hh → ev G (pgA L s.heap.size) s s.heap → pgS G (pgA L s.heap.size) s.heap L f s.heap [] → lo ls vs → W p l e { frames := fr, cells := mc, slots := ms, locals := lc } s m av.toArray below meth c s.heap [] 0 0 (pQ G below av s L post mc ms) (F0 m 0 ls [])) : ctH l G y cc nL rt hh fr lc mc ms av L f post := by
  intro sz
  refine va_MetW (cc := cc) (maxL := nL) (ret := rt) (hh := hh) hy rfl ?_
  intro p e s m args below meth c s₁ B hml hv
  obtain ⟨rfl, hsz, hR, hE⟩ := hv
  subst hsz
  have hts := atoms_spec (ws := Cond.codeWith y cc nL rt hh :: bg) B.pre
  have hl := lv_entry av (n := nL) h3
  have htab : c.exceptionTable.toList = tableOf hh := by
    obtain ⟨m', meth', c', hn', hm', hc', -, -, ht', -⟩ := Cond.codeWith_spec (hts _ List.mem_cons_self)
    cases B.named.symm.trans hn'
    cases B.method.symm.trans hm'
    cases (Stand.of_body B).code.symm.trans hc'
    rw [← ht', table_eq]
  rw [lg_entry_eq]
  generalize (lg_sl av ++ List.replicate (nL - (lg_sl av).length) Slot.unset).toArray = ls at hl ⊢
  exact body p e s m below meth c ls ⟨B.exec, B.bytes, hml, findClass_of_methodNamed B.named, fun w h => hts w (List.mem_cons_of_mem _ h)⟩ B.returns B.notSynchronized htab hE ⟨hR.1, pg_plD hR.2 (fun q h => Or.inl h), va_S.rf, fun q h => Or.inr h⟩ (by unfold lo; rw [h1, h2]; exact hl)
section FHS
variable {Q : Handler → Pre} {E : CtlPost} {e : Env} {d : Bool} {acts : List Action} {S : State} {g : JFrame} {a : Addr}
/-- a row of the table over the pc, her class linked now or before: she takes the object, or the search goes on behind her -/
theorem fh_row {x : ExceptionTableEntry} {t : List ExceptionTableEntry} {k : ClassId} {cell : Cell} (hx : covers x g.pc = true) (h0 : x.catchType ≠ 0) (hl : S.vm.ClassLinks e.platform g.method.cls x.catchType k) (hcell : S.heap[a]? = some cell) (hobj : cell.vm = .none) (hc : ∃ z, S.vm.classes[cell.cls]? = some z) (hk : ∃ z, S.vm.classes[k]? = some z) :
    wp (findHandler.go g a (x :: t)) Q E e d acts S ↔ (if S.vm.assignable cell.cls k = true then Q (.found x.handlerPc) d acts (S.setVm (S.vm.noted g.method.cls x.catchType (.cls k))) else wp (findHandler.go g a t) Q E e d acts (S.setVm (S.vm.noted g.method.cls x.catchType (.cls k)))) := by
  simp only [covers] at hx
  obtain ⟨r1, r2⟩ := (resolveClass_links e.toSetting hl).op (op := VmOp.resolveClass g.method.cls x.catchType) rfl
  have hal : S.vm.Alike (S.vm.noted g.method.cls x.catchType (.cls k)) := (Vm.Alike.refl S.vm).noted _ _ _
  obtain ⟨z1, hz1⟩ := hc
  obtain ⟨z2, hz2⟩ := hk
  obtain ⟨y1, hy1, -⟩ := hal.2.2 _ _ hz1
  obtain ⟨y2, hy2, -⟩ := hal.2.2 _ _ hz2
  rw [← hal.assignable]
  cases hf : (S.vm.noted g.method.cls x.catchType (.cls k)).assignable cell.cls k <;> simp [findHandler.go, hx, h0, r1, r2, hcell, hobj, hy1, hy2, hf, VmOp.dirties, VmOp.acts]
/-- such a row, against tables that have grown warmer -/
theorem fh_warm {s : State} {x : ExceptionTableEntry} {t : List ExceptionTableEntry} {k : ClassId} {cell : Cell} (hx : covers x g.pc = true) (h0 : x.catchType ≠ 0) (hl : s.vm.ClassLinks e.platform g.method.cls x.catchType k) (hW : s.WarmedH S.vm) (hcell : S.heap[a]? = some cell) (hobj : cell.vm = .none) (hc : ∃ z, s.vm.classes[cell.cls]? = some z) :
    ∃ vm', s.WarmedH vm' ∧ ∀ (Q : Handler → Pre) (E : CtlPost) (d : Bool) (acts : List Action), wp (findHandler.go g a (x :: t)) Q E e d acts S ↔ (if s.vm.assignable cell.cls k = true then Q (.found x.handlerPc) d acts (S.setVm vm') else wp (findHandler.go g a t) Q E e d acts (S.setVm vm')) := by
  obtain ⟨dk, _, _, kt, hd, _, _, _, _, hkt, _, hopen⟩ := hl.here
  obtain ⟨z1, hz1⟩ := hc
  obtain ⟨y1, hy1, -⟩ := hW.alike.2.2 _ _ hz1
  obtain ⟨y2, hy2, -⟩ := hW.alike.2.2 _ _ hkt
  refine ⟨_, hW.noted hd hopen (State.rightAt_cls hl), fun Q E d acts => ?_⟩
  rw [← hW.alike.assignable]
  exact fh_row hx h0 (hW.classLinks hl) hcell hobj ⟨y1, hy1⟩ ⟨y2, hy2⟩
theorem fh_all {s : State} {cell : Cell} (hobj : cell.vm = .none) (hc : ∃ z, s.vm.classes[cell.cls]? = some z) {x : ExceptionTableEntry} {rest : List ExceptionTableEntry} {k : ClassId} (hx : covers x g.pc = true) (h0 : x.catchType ≠ 0) (hl : s.vm.ClassLinks e.platform g.method.cls x.catchType k) (hf : s.vm.assignable cell.cls k = true) :
    ∀ (pre : List ExceptionTableEntry) (S : State), s.WarmedH S.vm → S.heap[a]? = some cell → (∀ y ∈ pre, covers y g.pc = true ∧ y.catchType ≠ 0 ∧ ∃ j, s.vm.ClassLinks e.platform g.method.cls y.catchType j ∧ s.vm.assignable cell.cls j = false) →
      ∃ vm', s.WarmedH vm' ∧ ∀ (Q : Handler → Pre) (E : CtlPost) (d : Bool) (acts : List Action), wp (findHandler.go g a (pre ++ x :: rest)) Q E e d acts S ↔ Q (.found x.handlerPc) d acts (S.setVm vm')
  | [], S, hW, hS, _ => by
    obtain ⟨vm', hW', h⟩ := fh_warm (t := rest) hx h0 hl hW hS hobj hc
    exact ⟨vm', hW', fun Q E d acts => (h Q E d acts).trans (by rw [if_pos hf])⟩
  | y :: ys, S, hW, hS, hp => by
    obtain ⟨hy, hy0, j, hj, hno⟩ := hp y List.mem_cons_self
    obtain ⟨vm1, hW1, h1⟩ := fh_warm (t := ys ++ x :: rest) hy hy0 hj hW hS hobj hc
    obtain ⟨vm2, hW2, h2⟩ := fh_all hobj hc hx h0 hl hf ys (S.setVm vm1) hW1 hS (fun z hz => hp z (List.mem_cons_of_mem _ hz))
    exact ⟨vm2, hW2, fun Q E d acts => (h1 Q E d acts).trans (by rw [hno, if_neg (by decide)]; exact h2 Q E d acts)⟩
end FHS
section CVX
variable {p : Program} {l : Launch} {e : Env} {R : Room} {s : State} {m : MethodId} {args : Array Value} {below : List Frame} {meth : Method} {c : Code} {H : Heap} {locs : List Loc} {cells slots : Nat} {Q : State → Prop}
variable {cc : ByteArray} {pc nL : Nat} {ls : Array Slot} {rest : List Value} {G : GG} {A : Nat → Prop} {a : Nat} {P : List Nat} {f : Nat → va_E} {own : String} {mc ms : Nat}
variable {y : MethodName} {bytes : ByteArray} {maxL index fr lc n : Nat} {ret : Option FieldType} {As st0 : List Value} {b : Nat} {X : String} {hh : List (Nat × Nat × Nat × Nat)} {post : Option Value → List Nat → (Nat → va_E) → Prop}
/-- from the note of a throw over the walk's frame to the handler -/
theorem st_caught {T : State} (XT : Stand p l e R s m args below meth c T locs cells slots) {g : JFrame} (hg : g.method = m) {cell : Cell} (hcell : T.heap[a]? = some cell) (hobj : cell.vm = .none) (hc : ∃ z, s.vm.classes[cell.cls]? = some z) (pre : List ExceptionTableEntry) {x : ExceptionTableEntry} {rst : List ExceptionTableEntry} (htab : c.exceptionTable.toList = pre ++ x :: rst) {k : ClassId} (hx : covers x g.pc = true) (h0 : x.catchType ≠ 0) (hl : s.vm.ClassLinks e.platform m.cls x.catchType k) (hf : s.vm.assignable cell.cls k = true) (hp : ∀ y ∈ pre, covers y g.pc = true ∧ y.catchType ≠ 0 ∧ ∃ j, s.vm.ClassLinks e.platform m.cls y.catchType j ∧ s.vm.assignable cell.cls j = false) :
    ∃ vm', Stand p l e R s m args below meth c (T.setVm vm') locs cells slots ∧ Steps p.tables e below ((T.setTop g).pushFrame (.throwing a)) ((T.setVm vm').setTop { g with pc := x.handlerPc, stack := [.ref a] }) := by
  subst hg
  obtain ⟨g₀, hr⟩ := XT.frames_eq
  obtain ⟨vm', hW', hq⟩ := fh_all (e := e) (g := g) (a := a) (rest := rst) hobj hc hx h0 hl hf pre ((T.setTop g).pushFrame (.throwing a)) XT.warmed hcell hp
  have hfind : ∀ (Q : Handler → Pre) (E : CtlPost) (d : Bool) (acts : List Action), wp (findHandler g a) Q E e d acts ((T.setTop g).pushFrame (.throwing a)) ↔ Q (.found x.handlerPc) d acts (((T.setTop g).pushFrame (.throwing a)).setVm vm') := fun Q E d acts =>
    (Jvm.W.findHandler_eq (s := (T.setTop g).pushFrame (.throwing a)) (meth := meth) (code := c) XT.method' XT.code).trans (by rw [htab]; exact hq Q E d acts)
  refine ⟨vm', XT.noted hW', ?_⟩
  obtain ⟨hgo, hw⟩ := XT.here.throwing a
  refine Steps.head hgo hw ?_
  have hst : (stepThrowing e ((T.setTop g).pushFrame (.throwing a)) a (.java g :: T.frames.tail)).1 = (((T.setTop g).pushFrame (.throwing a)).setVm vm').setFrames (.java { g with pc := x.handlerPc, stack := [.ref a] } :: T.frames.tail) := by
    simp only [stepThrowing, searchFrame, vmDo]
    generalize hgo : Sem.go _ e false [] ((T.setTop g).pushFrame (.throwing a)) = res
    obtain ⟨as, rfl, -⟩ := Sem.eq_ok_of hgo (a := Handler.found x.handlerPc) (s' := ((T.setTop g).pushFrame (.throwing a)).setVm vm') (acts' := []) (by simp [hfind _ _ _ _])
    rfl
  have hr' : (T.setVm vm').frames = .java g₀ :: below := hr
  rw [stepThread_throwing (frames_entered XT.here.top _), hst, State.setTop_of_frames _ hr', hr, List.tail_cons]
  have e1 : ∀ F : List Frame, (((T.setTop g).pushFrame (.throwing a)).setVm vm').setFrames F = (T.setVm vm').setFrames F := fun F => by
    have e2 : ((T.setTop g).pushFrame (.throwing a)).setVm vm' = (T.setVm vm').setFrames (.throwing a :: .java g :: below) := by
      rw [State.pushFrame, State.frames_setTop _ hr, State.setTop_of_frames _ hr, State.setFrames_setFrames]
      rfl
    rw [e2, State.setFrames_setFrames]
  rw [e1]
  exact Steps.refl _
/-- a call that throws, caught here -/
theorem cg_callVX (C : CallFix p m c cc nL s args bg own) (hE : ev G A s s.heap) (hM : pgS G A s.heap P f H locs) (hc : ctX l G y bytes maxL ret fr lc mc ms (.ref b :: As) P f X) (hb : b ∈ P) {ci : Nat} {fs : List Value} (hf : f b = .inr (ci, fs)) {T : u_T} {N0 : Nat} (hcl : cl[ci]? = some (y.cls, T, N0)) (w1 : Cond.methodLink own index y ∈ bg) (cy : cyV y bytes maxL ret n) (hR : fr + 1 ≤ R.frames ∧ 8 + (maxL + 11) + lc ≤ R.locals) (hn : As.length = n) (hs : ls.size = nL) (hst : st0 = As.reverse ++ .ref b :: rest) (hrs : (rest.map fun v => v.category).sum ≤ 8) (hroom : cells + mc ≤ R.cells ∧ slots + ms ≤ R.slots) (hdg : decode cc pc = .ok (.invokevirtual index, 3))
    (pre : List ExceptionTableEntry) (x : ExceptionTableEntry) (rst : List ExceptionTableEntry) (htab : c.exceptionTable.toList = pre ++ x :: rst) (hpre : ∀ y ∈ pre, covers y pc = true ∧ ∃ Y, y.catchType ≠ 0 ∧ Cond.classLink own y.catchType Y ∈ bg ∧ va_Nc X Y s) (hx : covers x pc = true) (h0 : x.catchType ≠ 0) (hlk : Cond.classLink own x.catchType X ∈ bg) (hcast : Cond.castable X X ∈ nwl)
    (kk : ∀ (z : Nat) (H1 : Heap) (locs1 : List Loc), pgS G A s.heap P f H1 locs1 → W p l e R s m args below meth c H1 locs1 (cells + mc) (slots + ms) Q (F0 m x.handlerPc ls [.ref z])) : W p l e R s m args below meth c H locs cells slots Q (F0 m pc ls st0) := by
  intro T0 hT0 XT
  have hts := C.2.2.2.2
  have hpl : e.platform.magicAccessors = ({} : Platform).magicAccessors := by rw [XT.admits.platform]
  obtain ⟨q0, he⟩ := hM.ix hb
  rw [hf] at he
  obtain ⟨cellB, hcB, hoB, hclB⟩ := va_recv hE.1.1 hM.1 hcl he
  obtain ⟨hy1, hy2, hy3⟩ := cy.2.2.2.2
  obtain ⟨mk, methM, hnamed, hmethM, hstM, habM⟩ := Cond.instanceMethod_spec (hts _ cy.1)
  obtain ⟨methM', cM, hmethM', hcM, -, hlM, -, -, -, hsigM⟩ := Cond.code_spec hnamed (hts _ cy.2.2.2.1)
  cases hmethM.symm.trans hmethM'
  obtain ⟨c2, r2, m2, q1, q2, q3, q4, kP, hkP, hkPi⟩ := Cond.selects_spec (hts _ cy.2.1)
  cases hclB.symm.trans q1
  cases (State.methodFound?_of_named hnamed ⟨hy1, hy2⟩).symm.trans q2
  cases hnamed.symm.trans q3
  have hselP : selectMethod e.platform s.vm cellB.cls mk = .method mk := by rw [Launch.admits_selectMethod XT.admits]; exact q4
  have hlen : As.length = methM.sig.parameters.length := by
    rw [hsigM] at hy3
    exact hn.trans (Option.some.inj hy3).symm
  obtain ⟨vm₁, X₁, hstep₁⟩ := XT.invokevirtual C.1 C.2.2.2.1 (hts _ w1) hnamed hmethM hstM hkP hkPi ⟨hy1, hy2⟩ (a := b) (cell := cellB) (by rw [hT0]; exact hcB)
    (fun z h => by rw [h] at hoB; cases hoB) hselP hmethM habM hkP hkPi (g := F0 m pc ls st0) rfl (argsL := As) (rest := rest) hlen hst (by rw [C.2.1]; exact hdg)
  have hnamed₁ : (T0.setVm vm₁).methodNamed? y = some mk := X₁.named hnamed
  have hW : ∀ w ∈ bg, ∀ a' : Array Value, w.before a' (T0.setVm vm₁) = true := fun w hw a' => word_at X₁.warmed (bg_good hw) (hts w hw)
  obtain ⟨methY, cY, hmY, hcY, -, hlY, -, -, -, -⟩ := Cond.code_spec hnamed₁ (hW _ cy.2.2.2.1 #[])
  obtain ⟨kY, hkY, -⟩ := className_of_methodNamed hnamed₁
  have hiY : kY.init = .initialized := Cond.initialized_spec (findClass_of_methodNamed hnamed₁) hkY (hW _ cy.2.2.1 #[])
  have hrm : 2 * (F0 m pc ls rest).monitorRoom + (rest.map fun v => v.category).sum ≤ 8 := lv_room hrs
  have happ := Spec.appliesLoose_calling (x := y) (S := headSpec (Cond.code y bytes maxL ret :: bg) { frames := fr, cells := mc, slots := ms, locals := lc }) (args := (Value.ref b :: As).toArray) (g := F0 m pc ls rest) X₁.here (by rw [C.2.1]; exact hdg) hnamed₁ hkY hiY
    (X₁.room_calling (g := F0 m pc ls rest) (R' := { frames := fr, cells := mc, slots := ms, locals := lc }) (hs.trans C.2.2.1.symm) hmY hcY hR.1 (by rw [hlY]; exact Nat.le_trans (Nat.add_le_add_right (Nat.add_le_add_right hrm _) _) hR.2) hroom.1 hroom.2)
    (atoms_intro fun w hw => (List.mem_cons.mp hw).elim (fun z => by rw [z]; exact hW _ cy.2.2.2.1 _) (fun z => hW _ z _))
  have hfr : ((T0.setVm vm₁).setTop (F0 m pc ls rest)).frames = [.java (F0 m pc ls rest)] ++ below := by
    obtain ⟨g₀, hg₀⟩ := X₁.frames_eq
    rw [State.frames_setTop _ hg₀]; rfl
  obtain ⟨o, t, hsteps, -, hend, ⟨v, rfl, hR9, hF9, ce, hce, hce2, hce3⟩, Ls, ⟨hWt, hSt⟩, i2⟩ := Jvm.Free.Steps.callFree (hc H.size) p X₁.admits X₁.cas X₁.clock (acts := []) hfr happ (pg_blind (av := .ref b :: As) _ _ (F0 m pc ls rest) mk (pg_pre hE hM _ hT0 X₁.warmed)) trivial
  rw [hfr] at hend
  obtain ⟨T', X', -, -, ht⟩ := X₁.outOfThrown (g := F0 m pc ls rest) rfl hend hWt hSt
  have e1 : T'.heap = t.heap := by rw [ht]; exact (Stand.throwing_heap T' _ _).symm
  have hce4 : s.vm.findClass X = some ce.cls := by rw [← X₁.warmed.alike.findClass]; exact hce3
  obtain ⟨c3, t3, j1, j2, j3⟩ := Cond.castable_spec (va_Nw.of (A := #[]) (nw_ont _ hcast) (hE.1.2.1 _ hcast))
  cases j1.symm.trans j2
  cases hce4.symm.trans j1
  obtain ⟨c4, hc4, hl4⟩ := Cond.classLink_spec C.2.2.2.1 (hts _ hlk) e.platform hpl
  cases hce4.symm.trans hc4
  obtain ⟨vm2, X2, st2⟩ := st_caught X' (g := F0 m pc ls rest) rfl (a := v) (cell := ce) (by rw [e1]; exact hce) hce2 (Vm.classAt_of_findClass hce4) pre htab hx h0 hl4 j3 (fun y hy => by
    obtain ⟨k9, Y, k0, k1, cN, tN, k2, k3, k4⟩ := hpre y hy
    obtain ⟨c', hc', hcl'⟩ := Cond.classLink_spec C.2.2.2.1 (hts _ k1) e.platform hpl
    cases hc'.symm.trans k3
    cases hce4.symm.trans k2
    exact ⟨k9, k0, _, hcl', k4⟩)
  rw [← ht] at st2
  have hA : ∀ q, pgA P H.size q → A q := fun q h => h.elim (pg_plA hM.2.1 q) (fun h => hM.2.2.2 q (Nat.le_trans hM.2.2.1.1 h))
  have hS := hM.2.2.1
  have h0' : ((T0.setVm vm₁).calling (F0 m pc ls rest) mk (Value.ref b :: As).toArray).heap = H := hT0
  obtain ⟨hz, hk⟩ := hF9
  obtain ⟨t2, a1, b1⟩ := kk v T'.heap (locs ++ Ls) ⟨by rw [e1]; exact hR9.1, hM.2.1, ⟨Nat.le_trans hS.1 (by rw [e1, ← h0']; exact hz), fun q h1 h2 => by rw [e1, hk q (Nat.lt_of_lt_of_le h1 (by rw [show (((T0.setVm vm₁).setTop (F0 m pc ls rest)).pushFrame (.invoking mk (Value.ref b :: As).toArray)).heap = H from hT0]; exact hS.1)) (fun z => h2 (hA q z)), show (((T0.setVm vm₁).setTop (F0 m pc ls rest)).pushFrame (.invoking mk (Value.ref b :: As).toArray)).heap = H from hT0]; exact hS.2.1 q h1 h2, fun q hq => by
      rcases List.mem_append.mp hq with h | h
      · exact hS.2.2 q h
      · exact hA _ (i2 q h)⟩, hM.2.2.2⟩ (T'.setVm vm2) rfl X2
  refine ⟨t2, (hstep₁ _ fun acts => ?_), b1⟩
  rw [doInvoke_state]
  exact hsteps.trans (st2.trans a1)
end CVX
