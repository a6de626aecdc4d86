abbrev upl (g : Nat → Int64) (x : Int64) : Nat → Int64 := vp_updL g 0 x
section CSH
variable {p : Program} {l : Launch} {e : Env} {R : Room} {s : State} {m : MethodId} {args : Array Value} {below : List Frame} {meth : Method} {c : Code} {H : Heap} {locs : List Loc} {cells slots : Nat} {Q : State → Prop}
variable {cc : ByteArray} {pc nL : Nat} {ls : Array Slot} {rest : List Value} {G : GG} {A : Nat → Prop} {a : Nat} {P : List Nat} {f : Nat → va_E} {own : String} {mc ms : Nat}
variable {y : MethodName} {bytes : ByteArray} {maxL index fr lc n : Nat} {ret : Option FieldType} {As st0 : List Value} {b : Nat} {X : String} {hh : List (Nat × Nat × Nat × Nat)} {post : Option Value → List Nat → (Nat → va_E) → Prop}
def cyH (y : MethodName) (bytes : ByteArray) (maxL : Nat) (ret : Option FieldType) (hh : List (Nat × Nat × Nat × Nat)) (n : Nat) : Prop := Cond.static y ∈ bg ∧ Cond.initialized y.cls ∈ bg ∧ Cond.codeWith y bytes maxL ret hh ∈ bg ∧ (y.cls ≠ "java/lang/invoke/MethodHandle" ∧ y.cls ≠ "java/lang/invoke/VarHandle" ∧ (parseMethodDescriptor y.desc).map (fun d => d.parameters.length) = some n)
theorem cg_callSH (C : CallFix p m c cc nL s args bg own) (hE : ev G A s s.heap) (hM : pgS G A s.heap P f H locs) (hc : ctH l G y bytes maxL ret hh fr lc mc ms As P f post) (w1 : Cond.methodLink own index y ∈ bg) (cy : cyH y bytes maxL ret hh n) (hR : fr + 1 ≤ R.frames ∧ 8 + (maxL + 11) + lc ≤ R.locals) (hn : As.length = n) (hs : ls.size = nL) (hst : st0 = As.reverse ++ rest) (hrs : (rest.map fun v => v.category).sum ≤ 8) (hroom : cells + mc ≤ R.cells ∧ slots + ms ≤ R.slots) (hdg : decode cc pc = .ok (.invokestatic index, 3))
    (kk : ∀ (v : Option Value) (N : List Nat) (f' : Nat → va_E) (H1 : Heap) (locs1 : List Loc), post v N f' → pgS G A s.heap (P ++ N) f' H1 locs1 → W p l e R s m args below meth c H1 locs1 (cells + mc) (slots + ms) Q (F0 m (pc + 3) ls (v.toList ++ rest))) : W p l e R s m args below meth c H locs cells slots Q (F0 m pc ls st0) := by
  refine pg_after (mc := mc) (ms := ms) (rest := rest) (ar := As.toArray) (post := post) (fun T0 hT0 XT => ?_) hM kk
  have hws : ∀ w ∈ Cond.codeWith y bytes maxL ret hh :: bg, ∀ (a' : Array Value) (U : State), s.WarmedH U.vm → w.before a' U = true := fun w hw a' U hW => by
    have hb : w ∈ bg := (List.mem_cons.mp hw).elim (fun z => z ▸ cy.2.2.1) id
    exact word_at hW (bg_good hb) (C.2.2.2.2 w hb)
  have hK : Back l R p e below s args y 3 8 (PreOf R mc ms (va_Pc As (ctP G P f H.size))) (PostOf (ctQ G P H.size post) mc ms (pgA P H.size)) := va_backW (bytes := bytes) (maxL := maxL) (ret := ret) (hh := hh) (hc H.size) pg_blind rfl rfl hR.1 hR.2 hws List.mem_cons_self (fun a' U hW => word_at hW (bg_good cy.2.1) (C.2.2.2.2 _ cy.2.1))
  obtain ⟨hy1, hy2, hy3⟩ := cy.2.2.2
  obtain ⟨mk, methM, cM, hnamed, hmethM, -, -, -, -, -, -, hsigM⟩ := Cond.codeWith_spec (C.2.2.2.2 _ cy.2.2.1)
  have hstatic : methM.isStatic = true := Cond.static_spec hnamed hmethM (C.2.2.2.2 _ cy.1)
  obtain ⟨kP, hkP, -⟩ := className_of_methodNamed hnamed
  have hinitP : kP.init = .initialized := Cond.initialized_spec (findClass_of_methodNamed hnamed) hkP (C.2.2.2.2 _ cy.2.1)
  have hlen : As.length = methM.sig.parameters.length := by
    rw [hsigM] at hy3
    exact hn.trans (Option.some.inj hy3).symm
  obtain ⟨vm₁, X₁, hstep₁⟩ := XT.invokestatic C.1 C.2.2.2.1 (C.2.2.2.2 _ w1) hnamed hmethM hstatic hkP hinitP ⟨hy1, hy2⟩ (g := F0 m pc ls st0) rfl (argsL := As) (rest := rest) hlen hst (by rw [C.2.1]; exact hdg)
  obtain ⟨v, ⟨U', l2, c2, s2⟩, X', ⟨g', mk', t, Ls, e1, e2, hq, i1, i2, i3, i4⟩, hsteps⟩ := hK m meth c ⟨T0.setVm vm₁, locs, cells, slots⟩ { F0 m pc ls st0 with stack := rest } (.invokestatic index) mk As.toArray X₁ rfl (hs.trans C.2.2.1.symm) (by rw [C.2.1]; exact hdg) (lv_room hrs) (X₁.named hnamed) ⟨hroom.1, hroom.2, pg_pre hE hM _ hT0 X₁.warmed⟩
  dsimp only [Pt.U, Pt.locs, Pt.cells, Pt.slots] at X' e1 e2 i1 i2 i3 i4 hsteps
  subst i1; subst i3; subst i4
  exact ⟨v, (T0.setVm vm₁).calling g' mk' As.toArray, t, U', Ls, hT0, X', i2, e1, e2, hq, fun target h => hstep₁ _ fun acts => by rw [doInvoke_state]; exact hsteps.trans h⟩
end CSH
theorem cy_Law_open : cyH y_Law_open c_Law_open 3 (some .int) [(0, 8, 11, 13), (0, 8, 14, 15)] 2 := ⟨tw_309, tw_0, tw_310, by decide, by decide, by decide +kernel⟩
theorem h_open (l : Launch) (G : GG) {L : List Nat} {f : Nat → va_E} {o ou mc ms : Nat} {x0 : Int32} {fs : List Value} {g : Nat → Int64} {Φ : List Nat → (Nat → va_E) → Prop} (hc : ct l G y_FF_open c_FF_open 3 (some .int) 7 116 mc ms [.ref o] L f (fun x N f1 => x = some (.int x0) ∧ Φ N f1 ∧ f1 ou = .inl (G.2.1 1, 1, .inr (.inl g)))) (ho : o ∈ L ∧ f o = .inr (0, fs)) (hou : ou ∈ L) : ctH l G y_Law_open c_Law_open 3 (some .int) [(0, 8, 11, 13), (0, 8, 14, 15)] 8 138 mc ms [.ref o, .ref ou] L f (fun x N f1 => x = some (.int 0) ∧ ∃ f0, Φ N f0 ∧ f1 = va_up f0 ou (.inl (G.2.1 1, 1, .inr (.inl (upl g x0.toInt64))))) := by
  refine ctH_intro (by decide) [some (.ref o), some (.ref ou), none] rfl rfl (Nat.le_of_ble_eq_true rfl) ?_
  intro p e s m below meth c ls C hr hlk htab hE hM hl
  refine lv_aload_n C.1 C.2.1 d_Law_open_0 rfl (lo_at hl 1 rfl) ?_
  refine lv_iconst (v := 0) C.1 C.2.1 d_Law_open_1 (by decide) ?_
  refine lv_aload_n C.1 C.2.1 d_Law_open_2 rfl (lo_at hl 0 rfl) ?_
  refine cg_callVA C hE hM hc ho.1 ho.2 rfl tw_313 cy_FF_open ⟨(Nat.le_of_ble_eq_true rfl), (Nat.le_of_ble_eq_true rfl)⟩ rfl hl.1 rfl (Nat.le_of_ble_eq_true rfl) ⟨by (try show _ ≤ mc); omega, by (try show _ ≤ ms); omega⟩ d_Law_open_3 (fun x9 N1 P1 f1 H1 locs1 hP1 hp hM => ?_)
  obtain ⟨rfl, hΦ, hf1⟩ := hp
  refine W.eq (g2 := F0 m 6 ls [_, _, _]) rfl ?_
  refine lv_i2l C.1 C.2.1 d_Law_open_6 rfl ?_
  have hou1 : ou ∈ P1 := by rw [hP1]; exact List.mem_append_left _ hou
  refine pg_last C hE hM hou1 hf1 (i := 0) (by unfold vp_in; decide) d_Law_open_7 (fun H1 locs1 hM => ?_)
  refine lv_goto (tgt := 17) C.1 C.2.1 d_Law_open_8 (by decide) ?_
  refine lv_iconst (v := 0) C.1 C.2.1 d_Law_open_17 (by decide) ?_
  exact pg_iret C hr hlk hM hP1 (by omega) (by omega) d_Law_open_18 ⟨rfl, f1, hΦ, rfl⟩
theorem h_openxI (l : Launch) (G : GG) {L : List Nat} {f : Nat → va_E} {o ou mc ms : Nat} {fs : List Value} (hc : ctX l G y_FF_open c_FF_open 3 (some .int) 7 116 mc ms [.ref o] L f xI) (ho : o ∈ L ∧ f o = .inr (0, fs)) : ctH l G y_Law_open c_Law_open 3 (some .int) [(0, 8, 11, 13), (0, 8, 14, 15)] 8 138 mc ms [.ref o, .ref ou] L f (fun x N f1 => x = some (.int 1) ∧ N = [] ∧ f1 = f) := by
  refine ctH_intro (by decide) [some (.ref o), some (.ref ou), none] rfl rfl (Nat.le_of_ble_eq_true rfl) ?_
  intro p e s m below meth c ls C hr hlk htab hE hM hl
  refine lv_aload_n C.1 C.2.1 d_Law_open_0 rfl (lo_at hl 1 rfl) ?_
  refine lv_iconst (v := 0) C.1 C.2.1 d_Law_open_1 (by decide) ?_
  refine lv_aload_n C.1 C.2.1 d_Law_open_2 rfl (lo_at hl 0 rfl) ?_
  refine cg_callVX (n := 0) C hE hM hc ho.1 ho.2 rfl tw_313 cy_FF_open ⟨(Nat.le_of_ble_eq_true rfl), (Nat.le_of_ble_eq_true rfl)⟩ rfl hl.1 rfl (Nat.le_of_ble_eq_true rfl) ⟨by (try show _ ≤ mc); omega, by (try show _ ≤ ms); omega⟩ d_Law_open_3 [] ⟨0, 8, 11, 13⟩ [⟨0, 8, 14, 15⟩] htab (fun y hy => by cases hy) rfl (by decide) tw_311 nw_449 (fun z H1 locs1 hM => ?_)
  refine W.eq (g2 := F0 m 11 ls [_]) rfl ?_
  refine lo_astore_n C hl d_Law_open_11 (Nat.le_of_ble_eq_true rfl) rfl (fun ls hl => ?_)
  refine lv_iconst (v := 1) C.1 C.2.1 d_Law_open_12 (by decide) ?_
  exact pg_iret C hr hlk hM (List.append_nil L).symm (by omega) (by omega) d_Law_open_13 ⟨rfl, rfl, rfl⟩
theorem h_openxS (l : Launch) (G : GG) {L : List Nat} {f : Nat → va_E} {o ou mc ms : Nat} {fs : List Value} (hc : ctX l G y_FF_open c_FF_open 3 (some .int) 7 116 mc ms [.ref o] L f xS) (ho : o ∈ L ∧ f o = .inr (0, fs)) : ctH l G y_Law_open c_Law_open 3 (some .int) [(0, 8, 11, 13), (0, 8, 14, 15)] 8 138 mc ms [.ref o, .ref ou] L f (fun x N f1 => x = some (.int 2) ∧ N = [] ∧ f1 = f) := by
  refine ctH_intro (by decide) [some (.ref o), some (.ref ou), none] rfl rfl (Nat.le_of_ble_eq_true rfl) ?_
  intro p e s m below meth c ls C hr hlk htab hE hM hl
  refine lv_aload_n C.1 C.2.1 d_Law_open_0 rfl (lo_at hl 1 rfl) ?_
  refine lv_iconst (v := 0) C.1 C.2.1 d_Law_open_1 (by decide) ?_
  refine lv_aload_n C.1 C.2.1 d_Law_open_2 rfl (lo_at hl 0 rfl) ?_
  refine cg_callVX (n := 0) C hE hM hc ho.1 ho.2 rfl tw_313 cy_FF_open ⟨(Nat.le_of_ble_eq_true rfl), (Nat.le_of_ble_eq_true rfl)⟩ rfl hl.1 rfl (Nat.le_of_ble_eq_true rfl) ⟨by (try show _ ≤ mc); omega, by (try show _ ≤ ms); omega⟩ d_Law_open_3 [⟨0, 8, 11, 13⟩] ⟨0, 8, 14, 15⟩ [] htab (fun y hy => by rw [List.mem_singleton.mp hy]; exact ⟨rfl, xI, by decide, tw_311, hE.2.2.1.2.1⟩) rfl (by decide) tw_312 nw_319 (fun z H1 locs1 hM => ?_)
  refine W.eq (g2 := F0 m 14 ls [_]) rfl ?_
  refine lo_astore_n C hl d_Law_open_14 (Nat.le_of_ble_eq_true rfl) rfl (fun ls hl => ?_)
  refine lv_iconst (v := 2) C.1 C.2.1 d_Law_open_15 (by decide) ?_
  exact pg_iret C hr hlk hM (List.append_nil L).symm (by omega) (by omega) d_Law_open_16 ⟨rfl, rfl, rfl⟩
theorem cy_Law_task : cyH y_Law_task c_Law_task 5 (some .int) [(0, 10, 13, 15), (0, 10, 17, 13)] 4 := ⟨tw_570, tw_0, tw_571, by decide, by decide, by decide +kernel⟩
theorem h_task (l : Launch) (G : GG) {L : List Nat} {f : Nat → va_E} {o ou mc ms : Nat} (a b : Int32) {x0 : Int32} {fs : List Value} {g : Nat → Int64} {Φ : List Nat → (Nat → va_E) → Prop} (hc : ct l G y_FF_task c_FF_task 3 (some .int) 7 171 mc ms [.ref o, .int a, .int b] L f (fun x N f1 => x = some (.int x0) ∧ Φ N f1 ∧ f1 ou = .inl (G.2.1 1, 1, .inr (.inl g)))) (ho : o ∈ L ∧ f o = .inr (0, fs)) (hou : ou ∈ L) : ctH l G y_Law_task c_Law_task 5 (some .int) [(0, 10, 13, 15), (0, 10, 17, 13)] 8 193 mc ms [.ref o, .int a, .int b, .ref ou] L f (fun x N f1 => x = some (.int 0) ∧ ∃ f0, Φ N f0 ∧ f1 = va_up f0 ou (.inl (G.2.1 1, 1, .inr (.inl (upl g x0.toInt64))))) := by
  refine ctH_intro (by decide) [some (.ref o), some (.int a), some (.int b), some (.ref ou), none] rfl rfl (Nat.le_of_ble_eq_true rfl) ?_
  intro p e s m below meth c ls C hr hlk htab hE hM hl
  refine lv_aload_n C.1 C.2.1 d_Law_task_0 rfl (lo_at hl 3 rfl) ?_
  refine lv_iconst (v := 0) C.1 C.2.1 d_Law_task_1 (by decide) ?_
  refine lv_aload_n C.1 C.2.1 d_Law_task_2 rfl (lo_at hl 0 rfl) ?_
  refine lv_iload_n C.1 C.2.1 d_Law_task_3 rfl (lo_at hl 1 rfl) ?_
  refine lv_iload_n C.1 C.2.1 d_Law_task_4 rfl (lo_at hl 2 rfl) ?_
  refine cg_callVA C hE hM hc ho.1 ho.2 rfl tw_572 cy_FF_task ⟨(Nat.le_of_ble_eq_true rfl), (Nat.le_of_ble_eq_true rfl)⟩ rfl hl.1 rfl (Nat.le_of_ble_eq_true rfl) ⟨by (try show _ ≤ mc); omega, by (try show _ ≤ ms); omega⟩ d_Law_task_5 (fun x9 N1 P1 f1 H1 locs1 hP1 hp hM => ?_)
  obtain ⟨rfl, hΦ, hf1⟩ := hp
  refine W.eq (g2 := F0 m 8 ls [_, _, _]) rfl ?_
  refine lv_i2l C.1 C.2.1 d_Law_task_8 rfl ?_
  have hou1 : ou ∈ P1 := by rw [hP1]; exact List.mem_append_left _ hou
  refine pg_last C hE hM hou1 hf1 (i := 0) (by unfold vp_in; decide) d_Law_task_9 (fun H1 locs1 hM => ?_)
  refine lv_goto (tgt := 21) C.1 C.2.1 d_Law_task_10 (by decide) ?_
  refine lv_iconst (v := 0) C.1 C.2.1 d_Law_task_21 (by decide) ?_
  exact pg_iret C hr hlk hM hP1 (by omega) (by omega) d_Law_task_22 ⟨rfl, f1, hΦ, rfl⟩
theorem h_taskxS (l : Launch) (G : GG) {L : List Nat} {f : Nat → va_E} {o ou mc ms : Nat} (a b : Int32) {fs : List Value} (hc : ctX l G y_FF_task c_FF_task 3 (some .int) 7 171 mc ms [.ref o, .int a, .int b] L f xS) (ho : o ∈ L ∧ f o = .inr (0, fs)) : ctH l G y_Law_task c_Law_task 5 (some .int) [(0, 10, 13, 15), (0, 10, 17, 13)] 8 193 mc ms [.ref o, .int a, .int b, .ref ou] L f (fun x N f1 => x = some (.int 1) ∧ N = [] ∧ f1 = f) := by
  refine ctH_intro (by decide) [some (.ref o), some (.int a), some (.int b), some (.ref ou), none] rfl rfl (Nat.le_of_ble_eq_true rfl) ?_
  intro p e s m below meth c ls C hr hlk htab hE hM hl
  refine lv_aload_n C.1 C.2.1 d_Law_task_0 rfl (lo_at hl 3 rfl) ?_
  refine lv_iconst (v := 0) C.1 C.2.1 d_Law_task_1 (by decide) ?_
  refine lv_aload_n C.1 C.2.1 d_Law_task_2 rfl (lo_at hl 0 rfl) ?_
  refine lv_iload_n C.1 C.2.1 d_Law_task_3 rfl (lo_at hl 1 rfl) ?_
  refine lv_iload_n C.1 C.2.1 d_Law_task_4 rfl (lo_at hl 2 rfl) ?_
  refine cg_callVX (n := 2) C hE hM hc ho.1 ho.2 rfl tw_572 cy_FF_task ⟨(Nat.le_of_ble_eq_true rfl), (Nat.le_of_ble_eq_true rfl)⟩ rfl hl.1 rfl (Nat.le_of_ble_eq_true rfl) ⟨by (try show _ ≤ mc); omega, by (try show _ ≤ ms); omega⟩ d_Law_task_5 [] ⟨0, 10, 13, 15⟩ [⟨0, 10, 17, 13⟩] htab (fun y hy => by cases hy) rfl (by decide) tw_312 nw_319 (fun z H1 locs1 hM => ?_)
  refine W.eq (g2 := F0 m 13 ls [_]) rfl ?_
  refine lo_astore C hl d_Law_task_13 (Nat.le_of_ble_eq_true rfl) rfl (fun ls hl => ?_)
  refine lv_iconst (v := 1) C.1 C.2.1 d_Law_task_15 (by decide) ?_
  exact pg_iret C hr hlk hM (List.append_nil L).symm (by omega) (by omega) d_Law_task_16 ⟨rfl, rfl, rfl⟩
theorem h_taskxI (l : Launch) (G : GG) {L : List Nat} {f : Nat → va_E} {o ou mc ms : Nat} (a b : Int32) {fs : List Value} (hc : ctX l G y_FF_task c_FF_task 3 (some .int) 7 171 mc ms [.ref o, .int a, .int b] L f xI) (ho : o ∈ L ∧ f o = .inr (0, fs)) : ctH l G y_Law_task c_Law_task 5 (some .int) [(0, 10, 13, 15), (0, 10, 17, 13)] 8 193 mc ms [.ref o, .int a, .int b, .ref ou] L f (fun x N f1 => x = some (.int 2) ∧ N = [] ∧ f1 = f) := by
  refine ctH_intro (by decide) [some (.ref o), some (.int a), some (.int b), some (.ref ou), none] rfl rfl (Nat.le_of_ble_eq_true rfl) ?_
  intro p e s m below meth c ls C hr hlk htab hE hM hl
  refine lv_aload_n C.1 C.2.1 d_Law_task_0 rfl (lo_at hl 3 rfl) ?_
  refine lv_iconst (v := 0) C.1 C.2.1 d_Law_task_1 (by decide) ?_
  refine lv_aload_n C.1 C.2.1 d_Law_task_2 rfl (lo_at hl 0 rfl) ?_
  refine lv_iload_n C.1 C.2.1 d_Law_task_3 rfl (lo_at hl 1 rfl) ?_
  refine lv_iload_n C.1 C.2.1 d_Law_task_4 rfl (lo_at hl 2 rfl) ?_
  refine cg_callVX (n := 2) C hE hM hc ho.1 ho.2 rfl tw_572 cy_FF_task ⟨(Nat.le_of_ble_eq_true rfl), (Nat.le_of_ble_eq_true rfl)⟩ rfl hl.1 rfl (Nat.le_of_ble_eq_true rfl) ⟨by (try show _ ≤ mc); omega, by (try show _ ≤ ms); omega⟩ d_Law_task_5 [⟨0, 10, 13, 15⟩] ⟨0, 10, 17, 13⟩ [] htab (fun y hy => by rw [List.mem_singleton.mp hy]; exact ⟨rfl, xS, by decide, tw_312, hE.2.2.1.2.2⟩) rfl (by decide) tw_311 nw_449 (fun z H1 locs1 hM => ?_)
  refine W.eq (g2 := F0 m 17 ls [_]) rfl ?_
  refine lo_astore C hl d_Law_task_17 (Nat.le_of_ble_eq_true rfl) rfl (fun ls hl => ?_)
  refine lv_iconst (v := 2) C.1 C.2.1 d_Law_task_19 (by decide) ?_
  exact pg_iret C hr hlk hM (List.append_nil L).symm (by omega) (by omega) d_Law_task_20 ⟨rfl, rfl, rfl⟩
theorem cy_Law_tick : cyH y_Law_tick c_Law_tick 3 (some .int) [(0, 8, 11, 15)] 2 := ⟨tw_606, tw_0, tw_607, by decide, by decide, by decide +kernel⟩
theorem h_tick (l : Launch) (G : GG) {L : List Nat} {f : Nat → va_E} {o ou mc ms : Nat} {x0 : Int32} {fs : List Value} {g : Nat → Int64} {Φ : List Nat → (Nat → va_E) → Prop} (hc : ct l G y_FF_tick c_FF_tick 2 (some .int) 9 216 mc ms [.ref o] L f (fun x N f1 => x = some (.int x0) ∧ Φ N f1 ∧ f1 ou = .inl (G.2.1 1, 1, .inr (.inl g)))) (ho : o ∈ L ∧ f o = .inr (0, fs)) (hou : ou ∈ L) : ctH l G y_Law_tick c_Law_tick 3 (some .int) [(0, 8, 11, 15)] 10 237 mc ms [.ref o, .ref ou] L f (fun x N f1 => x = some (.int 0) ∧ ∃ f0, Φ N f0 ∧ f1 = va_up f0 ou (.inl (G.2.1 1, 1, .inr (.inl (upl g x0.toInt64))))) := by
  refine ctH_intro (by decide) [some (.ref o), some (.ref ou), none] rfl rfl (Nat.le_of_ble_eq_true rfl) ?_
  intro p e s m below meth c ls C hr hlk htab hE hM hl
  refine lv_aload_n C.1 C.2.1 d_Law_tick_0 rfl (lo_at hl 1 rfl) ?_
  refine lv_iconst (v := 0) C.1 C.2.1 d_Law_tick_1 (by decide) ?_
  refine lv_aload_n C.1 C.2.1 d_Law_tick_2 rfl (lo_at hl 0 rfl) ?_
  refine cg_callVA C hE hM hc ho.1 ho.2 rfl tw_608 cy_FF_tick ⟨(Nat.le_of_ble_eq_true rfl), (Nat.le_of_ble_eq_true rfl)⟩ rfl hl.1 rfl (Nat.le_of_ble_eq_true rfl) ⟨by (try show _ ≤ mc); omega, by (try show _ ≤ ms); omega⟩ d_Law_tick_3 (fun x9 N1 P1 f1 H1 locs1 hP1 hp hM => ?_)
  obtain ⟨rfl, hΦ, hf1⟩ := hp
  refine W.eq (g2 := F0 m 6 ls [_, _, _]) rfl ?_
  refine lv_i2l C.1 C.2.1 d_Law_tick_6 rfl ?_
  have hou1 : ou ∈ P1 := by rw [hP1]; exact List.mem_append_left _ hou
  refine pg_last C hE hM hou1 hf1 (i := 0) (by unfold vp_in; decide) d_Law_tick_7 (fun H1 locs1 hM => ?_)
  refine lv_goto (tgt := 14) C.1 C.2.1 d_Law_tick_8 (by decide) ?_
  refine lv_iconst (v := 0) C.1 C.2.1 d_Law_tick_14 (by decide) ?_
  exact pg_iret C hr hlk hM hP1 (by omega) (by omega) d_Law_tick_15 ⟨rfl, f1, hΦ, rfl⟩
theorem h_tickxS (l : Launch) (G : GG) {L : List Nat} {f : Nat → va_E} {o ou mc ms : Nat} {fs : List Value} (hc : ctX l G y_FF_tick c_FF_tick 2 (some .int) 9 216 mc ms [.ref o] L f xS) (ho : o ∈ L ∧ f o = .inr (0, fs)) : ctH l G y_Law_tick c_Law_tick 3 (some .int) [(0, 8, 11, 15)] 10 237 mc ms [.ref o, .ref ou] L f (fun x N f1 => x = some (.int 1) ∧ N = [] ∧ f1 = f) := by
  refine ctH_intro (by decide) [some (.ref o), some (.ref ou), none] rfl rfl (Nat.le_of_ble_eq_true rfl) ?_
  intro p e s m below meth c ls C hr hlk htab hE hM hl
  refine lv_aload_n C.1 C.2.1 d_Law_tick_0 rfl (lo_at hl 1 rfl) ?_
  refine lv_iconst (v := 0) C.1 C.2.1 d_Law_tick_1 (by decide) ?_
  refine lv_aload_n C.1 C.2.1 d_Law_tick_2 rfl (lo_at hl 0 rfl) ?_
  refine cg_callVX (n := 0) C hE hM hc ho.1 ho.2 rfl tw_608 cy_FF_tick ⟨(Nat.le_of_ble_eq_true rfl), (Nat.le_of_ble_eq_true rfl)⟩ rfl hl.1 rfl (Nat.le_of_ble_eq_true rfl) ⟨by (try show _ ≤ mc); omega, by (try show _ ≤ ms); omega⟩ d_Law_tick_3 [] ⟨0, 8, 11, 15⟩ [] htab (fun y hy => by cases hy) rfl (by decide) tw_312 nw_319 (fun z H1 locs1 hM => ?_)
  refine W.eq (g2 := F0 m 11 ls [_]) rfl ?_
  refine lo_astore_n C hl d_Law_tick_11 (Nat.le_of_ble_eq_true rfl) rfl (fun ls hl => ?_)
  refine lv_iconst (v := 1) C.1 C.2.1 d_Law_tick_12 (by decide) ?_
  exact pg_iret C hr hlk hM (List.append_nil L).symm (by omega) (by omega) d_Law_tick_13 ⟨rfl, rfl, rfl⟩
