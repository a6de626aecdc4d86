theorem pg_mkD {L : List Nat} {f : Nat → va_E} (hn : L.Nodup) : va_D (fun _ => True) (va_pl L f) := by
  refine ⟨fun i j x y hi hj hxy => ?_, fun _ _ _ => trivial⟩
  unfold va_pl at hi hj
  rw [List.getElem?_map] at hi hj
  obtain ⟨a, ha, rfl⟩ := Option.map_eq_some_iff.mp hi
  obtain ⟨b, hb, rfl⟩ := Option.map_eq_some_iff.mp hj
  have hab : a = b := hxy
  subst hab
  exact (List.getElem?_inj (List.getElem?_eq_some_iff.mp ha).1 hn).mp (ha.trans hb.symm)
theorem va_D.nd {A : Nat → Prop} {L : List Nat} {f : Nat → va_E} (h : va_D A (va_pl L f)) : L.Nodup := by
  refine List.pairwise_iff_getElem.mpr (fun i j hi hj hij hne => ?_)
  have h1 : (va_pl L f)[i]? = some (L[i], f L[i]) := by unfold va_pl; rw [List.getElem?_map, List.getElem?_eq_getElem hi]; rfl
  have h2 : (va_pl L f)[j]? = some (L[j], f L[j]) := by unfold va_pl; rw [List.getElem?_map, List.getElem?_eq_getElem hj]; rfl
  have := h.1 i j _ _ h1 h2 hne
  omega
theorem pl_ix {L : List Nat} {f : Nat → va_E} {a : Nat} (ha : a ∈ L) : ∃ k : Nat, (va_pl L f)[k]? = some (a, f a) := List.getElem?_of_mem (List.mem_map.mpr ⟨a, ha, rfl⟩)
theorem pl_of {L : List Nat} {f : Nat → va_E} {k : Nat} {x : Nat × va_E} (h : (va_pl L f)[k]? = some x) : x.1 ∈ L ∧ x = (x.1, f x.1) := by
  obtain ⟨a, ha, rfl⟩ := List.mem_map.mp (List.mem_of_getElem? h)
  exact ⟨ha, rfl⟩
theorem pgR.sub {G : GG} {L L' : List Nat} {f : Nat → va_E} {H : Heap} (h : pgR G L f H) (hs : ∀ q ∈ L', q ∈ L) (hn : L'.Nodup) : pgR G L' f H := by
  refine ⟨fun k x hx => ?_, pg_mkD hn⟩
  obtain ⟨h1, h2⟩ := pl_of hx
  obtain ⟨k2, hk2⟩ := pl_ix (f := f) (hs _ h1)
  rw [h2]
  exact h.1 k2 _ hk2
/-- a contract over a part of the pool: the rest stays -/
theorem ct_sub {l : Launch} {G : GG} {y : MethodName} {cc : ByteArray} {nL : Nat} {rt : Option FieldType} {fr lc mc ms : Nat} {av : List Value} {PC L : List Nat} {f : Nat → va_E} {post : Option Value → List Nat → (Nat → va_E) → Prop} (hc : ct l G y cc nL rt fr lc mc ms av PC f post) (hs : ∀ q ∈ PC, q ∈ L) (hn : PC.Nodup) : ct l G y cc nL rt fr lc mc ms av L f (fun x N f2 => ∃ f1, post x N f1 ∧ (∀ q, q ∈ PC ∨ q ∈ N → f2 q = f1 q) ∧ ∀ q ∈ L, q ∉ PC → f2 q = f q) := by
  intro sz p e ha hcc hk s m args below hf happ hPc hK
  obtain ⟨e0, e1, hR, hE⟩ := hPc
  have hA : ∀ q, pgA PC sz q → pgA L sz q := fun q h => h.imp (hs q) id
  obtain ⟨n, o, h1, h2, h3, ⟨v, N, f1, g1, g2, g3, g4, g5⟩, Ls, g6, g7⟩ := hc sz p e ha hcc hk s m args below hf happ ⟨e0, e1, hR.sub hs hn, hE.into va_S.rf hA (State.WarmedH.refl _)⟩ hK
  have hlt : ∀ q ∈ L, q < sz := fun q hq => by
    obtain ⟨k, hk⟩ := pl_ix (f := f) hq
    rw [← e1]; exact (hR.1 k _ hk).lt
  have hNL : ∀ q ∈ N, q ∉ L := fun q h z => absurd (hlt q z) (Nat.not_lt.mpr (g4 q h))
  have hndP := va_D.nd g3.2
  refine ⟨n, o, h1, h2, h3, ⟨v, N, fun q => if q ∈ PC ∨ q ∈ N then f1 q else f q, g1, ⟨f1, g2, fun q h => if_pos h, fun q hq hp => if_neg (fun z => z.elim hp (fun z => hNL q z hq))⟩, ⟨fun k x hx => ?_, pg_mkD ?_⟩, g4, ⟨g5.1, fun q h1 h2 => g5.2 q h1 (fun z => h2 (hA q z))⟩⟩, Ls, g6, fun q h => hA _ (g7 q h)⟩
  · obtain ⟨i1, i2⟩ := pl_of hx
    rw [i2]
    by_cases hx1 : x.1 ∈ PC ∨ x.1 ∈ N
    · rw [if_pos hx1]
      obtain ⟨k2, hk2⟩ := pl_ix (f := f1) (List.mem_append.mpr hx1)
      exact g3.1 k2 _ hk2
    · rw [if_neg hx1]
      have hxL : x.1 ∈ L := (List.mem_append.mp i1).resolve_right (fun z => hx1 (Or.inr z))
      obtain ⟨k2, hk2⟩ := pl_ix (f := f) hxL
      exact (hR.1 k2 _ hk2).kept (g5.2 x.1 (by rw [e1]; exact hlt _ hxL) (fun z => z.elim (fun z => hx1 (Or.inl z)) (fun z => absurd (hlt _ hxL) (Nat.not_lt.mpr z))))
  · refine List.nodup_append.mpr ⟨va_D.nd hR.2, (List.nodup_append.mp hndP).2.1, fun a ha b hb hab => ?_⟩
    subst hab
    exact hNL a hb ha
theorem ctX_sub {l : Launch} {G : GG} {y : MethodName} {cc : ByteArray} {nL : Nat} {rt : Option FieldType} {fr lc mc ms : Nat} {av : List Value} {PC L : List Nat} {f : Nat → va_E} {X : String} (hc : ctX l G y cc nL rt fr lc mc ms av PC f X) (hs : ∀ q ∈ PC, q ∈ L) (hn : PC.Nodup) : ctX l G y cc nL rt fr lc mc ms av L f X := by
  intro sz p e ha hcc hk s m args below hf happ hPc hK
  obtain ⟨e0, e1, hR, hE⟩ := hPc
  have hA : ∀ q, pgA PC sz q → pgA L sz q := fun q h => h.imp (hs q) id
  obtain ⟨n, o, h1, h2, h3, ⟨x, g1, g3, g5, g8⟩, Ls, g6, g7⟩ := hc sz p e ha hcc hk s m args below hf happ ⟨e0, e1, hR.sub hs hn, hE.into va_S.rf hA (State.WarmedH.refl _)⟩ hK
  have hlt : ∀ q ∈ L, q < sz := fun q hq => by
    obtain ⟨k, hk⟩ := pl_ix (f := f) hq
    rw [← e1]; exact (hR.1 k _ hk).lt
  refine ⟨n, o, h1, h2, h3, ⟨x, g1, ⟨fun k x hx => ?_, hR.2⟩, ⟨g5.1, fun q h1 h2 => g5.2 q h1 (fun z => h2 (hA q z))⟩, g8⟩, Ls, g6, fun q h => hA _ (g7 q h)⟩
  obtain ⟨i1, i2⟩ := pl_of hx
  rw [i2]
  by_cases hx1 : x.1 ∈ PC
  · obtain ⟨k2, hk2⟩ := pl_ix (f := f) hx1
    exact g3.1 k2 _ hk2
  · obtain ⟨k2, hk2⟩ := pl_ix (f := f) i1
    exact (hR.1 k2 _ hk2).kept (g5.2 x.1 (by rw [e1]; exact hlt _ i1) (fun z => z.elim hx1 (fun z => absurd (hlt _ i1) (Nat.not_lt.mpr z))))
/-- a contract of a method that catches -/
def ctH (l : Launch) (G : GG) (y : MethodName) (cc : ByteArray) (nL : Nat) (rt : Option FieldType) (hh : List (Nat × Nat × Nat × Nat)) (fr lc mc ms : Nat) (av : List Value) (L : List Nat) (f : Nat → va_E) (post : Option Value → List Nat → (Nat → va_E) → Prop) : Prop :=
  ∀ sz : Nat, Met l y (Cond.codeWith y cc nL rt hh :: bg) { frames := fr, cells := mc, slots := ms, locals := lc } (va_Pc av (ctP G L f sz)) (ctQ G L sz post) mc ms (pgA L sz)
theorem ctH_intro {l : Launch} {G : GG} {y : MethodName} {cc : ByteArray} {nL : Nat} {rt : Option FieldType} {hh : List (Nat × Nat × Nat × Nat)} {fr lc mc ms : Nat} {av : List Value} {L : List Nat} {f : Nat → va_E} {post : Option Value → List Nat → (Nat → va_E) → Prop} (hy : plainName y.cls = true) (vs : List (Option Value)) (h1 : vs.length = nL) (h2 : loL 0 vs = lv_args 0 av) (h3 : (lg_sl av).length ≤ nL)
    (body : ∀ (p : Program) (e : Env) (s : State) (m : MethodId) (below : List Frame) (meth : Method) (c : Code) (ls : Array Slot), CallFix p m c cc nL s av.toArray bg y.cls → meth.sig.returnType = rt → meth.locks = false → c.exceptionTable.toList = tableOf hh → ev G (pgA L s.heap.size) s s.heap → pgS G (pgA L s.heap.size) s.heap L f s.heap [] → lo ls vs → W p l e { frames := fr, cells := mc, slots := ms, locals := lc } s m av.toArray below meth c s.heap [] 0 0 (pQ G below av s L post mc ms) (F0 m 0 ls [])) : ctH l G y cc nL rt hh fr lc mc ms av L f post := by
  intro sz
  refine va_MetW (cc := cc) (maxL := nL) (ret := rt) (hh := hh) hy rfl ?_
  intro p e s m args below meth c s₁ B hml hv
  obtain ⟨rfl, hsz, hR, hE⟩ := hv
  subst hsz
  have hts := atoms_spec (ws := Cond.codeWith y cc nL rt hh :: bg) B.pre
  have hl := lv_entry av (n := nL) h3
  have htab : c.exceptionTable.toList = tableOf hh := by
    obtain ⟨m', meth', c', hn', hm', hc', -, -, ht', -⟩ := Cond.codeWith_spec (hts _ List.mem_cons_self)
    cases B.named.symm.trans hn'
    cases B.method.symm.trans hm'
    cases (Stand.of_body B).code.symm.trans hc'
    rw [← ht', table_eq]
  rw [lg_entry_eq]
  generalize (lg_sl av ++ List.replicate (nL - (lg_sl av).length) Slot.unset).toArray = ls at hl ⊢
  exact body p e s m below meth c ls ⟨B.exec, B.bytes, hml, findClass_of_methodNamed B.named, fun w h => hts w (List.mem_cons_of_mem _ h)⟩ B.returns B.notSynchronized htab hE ⟨hR.1, pg_plD hR.2 (fun q h => Or.inl h), va_S.rf, fun q h => Or.inr h⟩ (by unfold lo; rw [h1, h2]; exact hl)
def PreX (R : Room) (mc ms : Nat) (Pc : Array Value → State → Prop) : Pt → Array Value → Prop := fun A a => A.cells + mc ≤ R.cells ∧ A.slots + ms ≤ R.slots ∧ Pc a A.U
def PostX (G : GG) (L : List Nat) (f : Nat → va_E) (sz : Nat) (X : String) (mc ms : Nat) : Pt → Array Value → Addr → Pt → Prop := fun A a x B =>
  ∃ (g : JFrame) (mk : MethodId) (t : State) (Ls : List Loc), B.U.heap = t.heap ∧ B.U.vm = t.vm ∧ ctQX G L f sz X a (A.U.calling g mk a) (.threw x) t ∧ B.locs = A.locs ++ Ls ∧ (∀ q ∈ Ls, pgA L sz q.base) ∧ B.cells = A.cells + mc ∧ B.slots = A.slots + ms
section CVX
variable {p : Program} {l : Launch} {e : Env} {R : Room} {s : State} {m : MethodId} {args : Array Value} {below : List Frame} {meth : Method} {c : Code} {H : Heap} {locs : List Loc} {cells slots : Nat} {Q : State → Prop}
variable {cc : ByteArray} {pc nL : Nat} {ls : Array Slot} {rest : List Value} {G : GG} {A : Nat → Prop} {a : Nat} {P : List Nat} {f : Nat → va_E} {own : String} {mc ms : Nat}
variable {y : MethodName} {bytes : ByteArray} {maxL index fr lc n : Nat} {ret : Option FieldType} {As st0 : List Value} {b : Nat} {X : String} {hh : List (Nat × Nat × Nat × Nat)} {post : Option Value → List Nat → (Nat → va_E) → Prop}
theorem bk_X {sargs : Array Value} {av : List Value} {sz : Nat} (hc : ctX l G y bytes maxL ret fr lc mc ms av P f X) (hR : fr + 1 ≤ R.frames ∧ 8 + (maxL + 11) + lc ≤ R.locals) (hts : ∀ w ∈ bg, w.before sargs s = true) (hcd : Cond.code y bytes maxL ret ∈ bg) (hin : Cond.initialized y.cls ∈ bg) : Jvm.Free.BackT l R p e below s sargs y 3 8 (PreX R mc ms (va_Pc av (ctP G P f sz))) (PostX G P f sz X mc ms) := by
  have hws : ∀ w ∈ Cond.code y bytes maxL ret :: bg, ∀ (a' : Array Value) (U : State), s.WarmedH U.vm → w.before a' U = true := fun w hw a' U hW => by
    have hb : w ∈ bg := (List.mem_cons.mp hw).elim (fun z => z ▸ hcd) id
    exact word_at hW (bg_good hb) (hts w hb)
  refine Jvm.Free.BackT.of_free (S := headSpec (Cond.code y bytes maxL ret :: bg) { frames := fr, cells := mc, slots := ms, locals := lc }) (P := va_Pc av (ctP G P f sz)) (K := fun _ _ _ _ _ => True) (Q := ctQY G P f sz X mc ms) (bytes := bytes) (maxL := maxL) (ret := ret)
    (E := fun a st o t L k n => k = mc ∧ n = ms ∧ ∀ q ∈ L, pgA P sz q.base) (hc sz) hR.1 hR.2 ?_ ?_ (fun _ _ _ _ _ _ _ _ _ => trivial) ?_ ?_
  · intro m meth c A a X hp
    exact ⟨atoms_intro fun w hw => hws w hw _ _ X.warmed, hws _ List.mem_cons_self _ _ X.warmed, word_at X.warmed (bg_good hin) (hts _ hin), hp.1, hp.2.1⟩
  · intro m meth c A a g mk X hp
    exact pg_blind _ _ _ _ hp.2.2
  · intro a st o t ⟨hq, L, hF, hL⟩
    exact ⟨L, mc, ms, hF, rfl, rfl, hL⟩
  · intro m meth c A a g mk v t L k n X hp hq hF ⟨e1, e2, hL⟩
    subst e1; subst e2
    exact ⟨g, mk, t, L, rfl, rfl, hq.1, rfl, hL, rfl, rfl⟩
/-- a call that throws, caught here -/
theorem cg_callVX (C : CallFix p m c cc nL s args bg own) (hE : ev G A s s.heap) (hM : pgS G A s.heap P f H locs) (hc : ctX l G y bytes maxL ret fr lc mc ms (.ref b :: As) P f X) (hb : b ∈ P) {ci : Nat} {fs : List Value} (hf : f b = .inr (ci, fs)) {T : u_T} {N0 : Nat} (hcl : cl[ci]? = some (y.cls, T, N0)) (w1 : Cond.methodLink own index y ∈ bg) (cy : cyV y bytes maxL ret n) (hR : fr + 1 ≤ R.frames ∧ 8 + (maxL + 11) + lc ≤ R.locals) (hn : As.length = n) (hs : ls.size = nL) (hst : st0 = As.reverse ++ .ref b :: rest) (hrs : (rest.map fun v => v.category).sum ≤ 8) (hroom : cells + mc ≤ R.cells ∧ slots + ms ≤ R.slots) (hdg : decode cc pc = .ok (.invokevirtual index, 3))
    (pre : List ExceptionTableEntry) (x : ExceptionTableEntry) (rst : List ExceptionTableEntry) (htab : c.exceptionTable.toList = pre ++ x :: rst) (hpre : ∀ y ∈ pre, ∃ Y, y.catchType ≠ 0 ∧ Cond.classLink own y.catchType Y ∈ bg ∧ va_Nc X Y s) (hx : covers x pc = true) (h0 : x.catchType ≠ 0) (hlk : Cond.classLink own x.catchType X ∈ bg) (hcast : Cond.castable X X ∈ nwl)
    (kk : ∀ (z : Nat) (H1 : Heap) (locs1 : List Loc), pgS G A s.heap P f H1 locs1 → W p l e R s m args below meth c H1 locs1 (cells + mc) (slots + ms) Q (F0 m x.handlerPc ls [.ref z])) : W p l e R s m args below meth c H locs cells slots Q (F0 m pc ls st0) := by
  intro T0 hT0 XT
  obtain ⟨q0, he⟩ := hM.ix hb
  rw [hf] at he
  obtain ⟨cellB, hcB, hoB, hclB⟩ := va_recv hE.1.1 hM.1 hcl he
  have hinst := C.2.2.2.2 _ cy.1
  have hcode := C.2.2.2.2 _ cy.2.2.2.1
  obtain ⟨hy1, hy2, hy3⟩ := cy.2.2.2.2
  obtain ⟨mk, methM, hnamed, hmethM, hstM, habM⟩ := Cond.instanceMethod_spec hinst
  obtain ⟨methM', cM, hmethM', -, -, -, -, -, -, hsigM⟩ := Cond.code_spec hnamed hcode
  cases hmethM.symm.trans hmethM'
  obtain ⟨c2, r2, m2, q1, q2, q3, q4, kP, hkP, hkPi⟩ := Cond.selects_spec (C.2.2.2.2 _ cy.2.1)
  cases hclB.symm.trans q1
  cases (State.methodFound?_of_named hnamed ⟨hy1, hy2⟩).symm.trans q2
  cases hnamed.symm.trans q3
  have hselP : selectMethod e.platform s.vm cellB.cls mk = .method mk := by rw [Launch.admits_selectMethod XT.admits]; exact q4
  have hlen : As.length = methM.sig.parameters.length := by
    rw [hsigM] at hy3
    exact hn.trans (Option.some.inj hy3).symm
  obtain ⟨vm₁, X₁, hstep₁⟩ := XT.invokevirtual C.1 C.2.2.2.1 (C.2.2.2.2 _ w1) hnamed hmethM hstM hkP hkPi ⟨hy1, hy2⟩ (a := b) (cell := cellB) (by rw [hT0]; exact hcB)
    (fun z h => by rw [h] at hoB; cases hoB) hselP hmethM habM hkP hkPi (g := F0 m pc ls st0) rfl (argsL := As) (rest := rest) hlen hst (by rw [C.2.1]; exact hdg)
  have hK := bk_X (R := R) (p := p) (e := e) (below := below) (sz := H.size) hc hR C.2.2.2.2 cy.2.2.2.1 cy.2.2.1
  obtain ⟨v, ⟨U', l2, c2, s2⟩, X', ⟨g', mk', t, Ls, e1, e2, ⟨x9, hx9, hR9, hF9, ce, hce, hce2, hce3⟩, i1, i2, i3, i4⟩, hsteps⟩ := hK m meth c ⟨T0.setVm vm₁, locs, cells, slots⟩ { F0 m pc ls st0 with stack := rest } (.invokevirtual index) mk (Value.ref b :: As).toArray X₁ rfl (hs.trans C.2.2.1.symm) (by rw [C.2.1]; exact hdg) (lv_room hrs) (X₁.named hnamed) ⟨hroom.1, hroom.2, pg_pre hE hM _ hT0 X₁.warmed⟩
  dsimp only [Pt.U, Pt.locs, Pt.cells, Pt.slots] at X' e1 e2 i1 i2 i3 i4 hsteps hce3 hF9
  subst i1; subst i3; subst i4
  cases hx9
  have hce4 : s.vm.findClass X = some ce.cls := by rw [← X₁.warmed.alike.findClass]; exact hce3
  obtain ⟨c3, t3, j1, j2, j3⟩ := Cond.castable_spec (va_Nw.of (A := #[]) (nw_ont _ hcast) (hE.1.2.1 _ hcast))
  cases j1.symm.trans j2
  cases hce4.symm.trans j1
  obtain ⟨hend, hk0⟩ := X'.catches_of_link C.2.2.2.1 (x := x) h0 (C.2.2.2.2 _ hlk) hce4 j3
  have hcome : Steps p.tables e below (T0.setTop (F0 m pc ls st0)) ((U'.setTop { F0 m pc ls st0 with stack := rest }).pushFrame (.throwing v)) := hstep₁ _ fun acts => by rw [doInvoke_state]; exact hsteps
  have hpl : e.platform.magicAccessors = ({} : Platform).magicAccessors := by rw [XT.admits.platform]
  obtain ⟨vm2, X2, st2⟩ := X'.thenCaughtThrough v (g := { F0 m pc ls st0 with stack := rest }) rfl hcome (cell := ce) (by rw [e1]; exact hce) (by rw [hce2]; rfl) hk0 pre x rst htab (fun y hy => by
    obtain ⟨Y, k0, k1, cN, tN, k2, k3, k4⟩ := hpre y hy
    obtain ⟨c', hc', hcl'⟩ := Cond.classLink_spec C.2.2.2.1 (C.2.2.2.2 _ k1) e.platform hpl
    cases hc'.symm.trans k3
    cases hce4.symm.trans k2
    exact Or.inr ⟨k0, _, hcl', k4⟩) hx hend
  have hA : ∀ q, pgA P H.size q → A q := fun q h => h.elim (pg_plA hM.2.1 q) (fun h => hM.2.2.2 q (Nat.le_trans hM.2.2.1.1 h))
  have hS := hM.2.2.1
  have h0' : ((T0.setVm vm₁).calling g' mk' (Value.ref b :: As).toArray).heap = H := hT0
  obtain ⟨hz, hk⟩ := hF9
  rw [h0'] at hz hk
  obtain ⟨t2, a1, b1⟩ := kk v U'.heap (locs ++ Ls) ⟨by rw [e1]; exact hR9.1, hM.2.1, ⟨Nat.le_trans hS.1 (by rw [e1]; exact hz), fun q h1 h2 => by rw [e1, hk q (Nat.lt_of_lt_of_le h1 hS.1) (fun z => h2 (hA q z))]; exact hS.2.1 q h1 h2, fun q hq => by
      rcases List.mem_append.mp hq with h | h
      · exact hS.2.2 q h
      · exact hA _ (i2 q h)⟩, hM.2.2.2⟩ (U'.setVm vm2) rfl X2
  exact ⟨t2, st2.trans a1, b1⟩
end CVX
