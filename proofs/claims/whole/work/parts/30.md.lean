/-! the reference's state: numbers v, arrays A (ints; 7: booleans), B (longs), each by the number of its field; its arrays' addresses r -/
abbrev mdF (v : Nat → Int32) (r : Nat → Nat) : List Value := [.int (v 0), .int (v 1), .ref (r 2), .int (v 3), .int (v 4), .ref (r 5), .ref (r 6), .ref (r 7), .ref (r 8), .int (v 9), .int (v 10), .ref (r 11), .ref (r 12), .ref (r 13), .ref (r 14), .ref (r 15), .ref (r 16), .ref (r 17), .ref (r 18), .int (v 19), .ref (r 20), .ref (r 21), .ref (r 22), .ref (r 23), .ref (r 24), .ref (r 25), .ref (r 26), .ref (r 27), .ref (r 28), .int (v 29), .int (v 30), .int (v 31), .ref (r 32), .ref (r 33), .ref (r 34), .ref (r 35), .ref (r 36), .ref (r 37), .int (v 38), .int (v 39)]
def mdI : Nat → Bool
  | 2 | 5 | 6 | 8 | 11 | 12 | 13 | 14 | 15 | 16 | 17 | 18 | 20 | 21 | 22 | 23 | 24 | 25 | 26 | 27 | 28 | 32 | 33 | 34 => true
  | _ => false
def mdL : Nat → Bool
  | 35 | 36 | 37 => true
  | _ => false
/-- how long each array is -/
def mdN : Nat → Nat
  | 2 | 5 | 6 | 7 | 8 => 96
  | 11 | 12 | 13 | 14 | 15 | 16 | 17 | 18 => 24
  | 20 | 21 => 3600
  | 22 | 23 | 24 | 25 | 26 | 27 | 28 => 6
  | 32 | 33 | 34 => 60
  | 35 | 36 => 304
  | 37 => 908
  | _ => 0
def mdR (k : Nat) : Bool := mdI k || (k == 7) || mdL k
def mdS (G : GG) (o : Nat) (r : Nat → Nat) (P : List Nat) (f0 f : Nat → va_E) (v : Nat → Int32) (A : Nat → Nat → Int32) (B : Nat → Nat → Int64) : Prop :=
  (o ∈ P ∧ ∀ k, mdR k = true → r k ∈ P) ∧ ((∀ k, mdR k = true → r k ≠ o) ∧ ∀ k j, mdR k = true → mdR j = true → r k = r j → k = j) ∧
  (f o = .inr (10, mdF v r) ∧ (∀ k, mdI k = true → f (r k) = .inl (G.2.1 0, mdN k, .inl (A k))) ∧ f (r 7) = .inl (G.2.1 2, 96, .inl (A 7)) ∧ ∀ k, mdL k = true → f (r k) = .inl (G.2.1 1, mdN k, .inr (.inl (B k)))) ∧
  ∀ a, a ≠ o → (∀ k, mdR k = true → a ≠ r k) → f a = f0 a
theorem mdI_R {k : Nat} (h : mdI k = true) : mdR k = true := by simp [mdR, h]
theorem mdL_R {k : Nat} (h : mdL k = true) : mdR k = true := by simp [mdR, h]
theorem mdI_7 {k : Nat} (h : mdI k = true) : k ≠ 7 := by rintro rfl; exact absurd h (by decide)
theorem mdL_7 {k : Nat} (h : mdL k = true) : k ≠ 7 := by rintro rfl; exact absurd h (by decide)
theorem mdI_L {k j : Nat} (h : mdI k = true) (h2 : mdL j = true) : k ≠ j := by
  rintro rfl
  unfold mdL at h2
  split at h2
  · exact absurd h (by decide)
  · exact absurd h (by decide)
  · exact absurd h (by decide)
  · cases h2
section MDS
variable {G : GG} {o : Nat} {r : Nat → Nat} {P : List Nat} {f0 f : Nat → va_E} {v : Nat → Int32} {A : Nat → Nat → Int32} {B : Nat → Nat → Int64}
theorem mdS.setv (h : mdS G o r P f0 f v A B) (k : Nat) {x : Int32} {fs : List Value} (hk : fs = mdF (upd v k x) r) : mdS G o r P f0 (va_up f o (.inr (10, fs))) (upd v k x) A B := by
  obtain ⟨h1, h2, ⟨h3, h4, h5, h6⟩, h7⟩ := h
  refine ⟨h1, h2, ⟨by rw [va_up_self, hk], fun j hj => ?_, ?_, fun j hj => ?_⟩, fun a ha hb => ?_⟩
  · rw [va_up_ne _ _ (h2.1 j (mdI_R hj))]; exact h4 j hj
  · rw [va_up_ne _ _ (h2.1 7 rfl)]; exact h5
  · rw [va_up_ne _ _ (h2.1 j (mdL_R hj))]; exact h6 j hj
  · rw [va_up_ne _ _ ha]; exact h7 a ha hb
theorem mdS.seti (h : mdS G o r P f0 f v A B) (k : Nat) (hk : mdI k = true) {g : Nat → Int32} : mdS G o r P f0 (va_up f (r k) (.inl (G.2.1 0, mdN k, .inl g))) v (va_up A k g) B := by
  obtain ⟨h1, h2, ⟨h3, h4, h5, h6⟩, h7⟩ := h
  refine ⟨h1, h2, ⟨?_, fun j hj => ?_, ?_, fun j hj => ?_⟩, fun a ha hb => ?_⟩
  · rw [va_up_ne _ _ (Ne.symm (h2.1 k (mdI_R hk)))]; exact h3
  · by_cases e : j = k
    · subst e; rw [va_up_self, va_up_self]
    · rw [va_up_ne _ _ (fun z => e (h2.2 j k (mdI_R hj) (mdI_R hk) z)), va_up_ne _ _ e]; exact h4 j hj
  · rw [va_up_ne _ _ (fun z => mdI_7 hk (h2.2 7 k rfl (mdI_R hk) z).symm), va_up_ne _ _ (Ne.symm (mdI_7 hk))]; exact h5
  · rw [va_up_ne _ _ (fun z => mdI_L hk hj (h2.2 j k (mdL_R hj) (mdI_R hk) z).symm)]; exact h6 j hj
  · rw [va_up_ne _ _ (hb k (mdI_R hk))]; exact h7 a ha hb
theorem mdS.setz (h : mdS G o r P f0 f v A B) {g : Nat → Int32} : mdS G o r P f0 (va_up f (r 7) (.inl (G.2.1 2, 96, .inl g))) v (va_up A 7 g) B := by
  obtain ⟨h1, h2, ⟨h3, h4, h5, h6⟩, h7⟩ := h
  refine ⟨h1, h2, ⟨?_, fun j hj => ?_, ?_, fun j hj => ?_⟩, fun a ha hb => ?_⟩
  · rw [va_up_ne _ _ (Ne.symm (h2.1 7 rfl))]; exact h3
  · rw [va_up_ne _ _ (fun z => mdI_7 hj (h2.2 j 7 (mdI_R hj) rfl z)), va_up_ne _ _ (mdI_7 hj)]; exact h4 j hj
  · rw [va_up_self, va_up_self]
  · rw [va_up_ne _ _ (fun z => mdL_7 hj (h2.2 j 7 (mdL_R hj) rfl z))]; exact h6 j hj
  · rw [va_up_ne _ _ (hb 7 rfl)]; exact h7 a ha hb
theorem mdS.setl (h : mdS G o r P f0 f v A B) (k : Nat) (hk : mdL k = true) {g : Nat → Int64} : mdS G o r P f0 (va_up f (r k) (.inl (G.2.1 1, mdN k, .inr (.inl g)))) v A (va_up B k g) := by
  obtain ⟨h1, h2, ⟨h3, h4, h5, h6⟩, h7⟩ := h
  refine ⟨h1, h2, ⟨?_, fun j hj => ?_, ?_, fun j hj => ?_⟩, fun a ha hb => ?_⟩
  · rw [va_up_ne _ _ (Ne.symm (h2.1 k (mdL_R hk)))]; exact h3
  · rw [va_up_ne _ _ (fun z => mdI_L hj hk (h2.2 j k (mdI_R hj) (mdL_R hk) z))]; exact h4 j hj
  · rw [va_up_ne _ _ (fun z => mdL_7 hk (h2.2 7 k rfl (mdL_R hk) z).symm)]; exact h5
  · by_cases e : j = k
    · subst e; rw [va_up_self, va_up_self]
    · rw [va_up_ne _ _ (fun z => e (h2.2 j k (mdL_R hj) (mdL_R hk) z)), va_up_ne _ _ e]; exact h6 j hj
  · rw [va_up_ne _ _ (hb k (mdL_R hk))]; exact h7 a ha hb
theorem mdS.trans {f1 : Nat → va_E} {v' : Nat → Int32} {A' : Nat → Nat → Int32} {B' : Nat → Nat → Int64} (h : mdS G o r P f0 f v A B) (h' : mdS G o r P f f1 v' A' B') : mdS G o r P f0 f1 v' A' B' :=
  ⟨h'.1, h'.2.1, h'.2.2.1, fun a ha hb => (h'.2.2.2 a ha hb).trans (h.2.2.2 a ha hb)⟩
theorem mdS.self (h : mdS G o r P f0 f v A B) : mdS G o r P f f v A B := ⟨h.1, h.2.1, h.2.2.1, fun _ _ _ => rfl⟩
end MDS
/-- a contract of the reference: its state before, its answer and state behind -/
def mct (l : Launch) (G : GG) (y : MethodName) (cc : ByteArray) (nL : Nat) (rt : Option FieldType) (fr lc : Nat) (av : List Value) (o : Nat) (r : Nat → Nat) (v : Nat → Int32) (A : Nat → Nat → Int32) (B : Nat → Nat → Int64) (post : Option Value → (Nat → Int32) → (Nat → Nat → Int32) → (Nat → Nat → Int64) → Prop) : Prop :=
  ∀ (P : List Nat) (f : Nat → va_E), mdS G o r P f f v A B → ct l G y cc nL rt fr lc 0 0 av P f (fun ret N f' => N = [] ∧ ∃ v' A' B', post ret v' A' B' ∧ mdS G o r P f f' v' A' B')
abbrev mQ (G : GG) (o : Nat) (r : Nat → Nat) (P : List Nat) (f : Nat → va_E) (post : Option Value → (Nat → Int32) → (Nat → Nat → Int32) → (Nat → Nat → Int64) → Prop) : Option Value → List Nat → (Nat → va_E) → Prop := fun ret N f' => N = [] ∧ ∃ v' A' B', post ret v' A' B' ∧ mdS G o r P f f' v' A' B'
theorem mct_intro {l : Launch} {G : GG} {y : MethodName} {cc : ByteArray} {nL : Nat} {rt : Option FieldType} {fr lc : Nat} {av : List Value} {o : Nat} {r : Nat → Nat} {v : Nat → Int32} {A : Nat → Nat → Int32} {B : Nat → Nat → Int64} {post : Option Value → (Nat → Int32) → (Nat → Nat → Int32) → (Nat → Nat → Int64) → Prop} (hy : plainName y.cls = true) (vs : List (Option Value)) (h1 : vs.length = nL) (h2 : loL 0 vs = lv_args 0 av) (h3 : (lg_sl av).length ≤ nL)
    (body : ∀ (p : Program) (e : Env) (s : State) (m : MethodId) (below : List Frame) (meth : Method) (c : Code) (ls : Array Slot) (P : List Nat) (f : Nat → va_E), CallFix p m c cc nL s av.toArray bg y.cls → meth.sig.returnType = rt → meth.locks = false → ev G (pgA P s.heap.size) s s.heap → pgS G (pgA P s.heap.size) s.heap P f s.heap [] → mdS G o r P f f v A B → lo ls vs → W p l e { frames := fr, cells := 0, slots := 0, locals := lc } s m av.toArray below meth c s.heap [] 0 0 (pQ G below av s P (mQ G o r P f post) 0 0) (F0 m 0 ls [])) : mct l G y cc nL rt fr lc av o r v A B post :=
  fun P f hm => ct_intro hy vs h1 h2 h3 (fun p e s m below meth c ls C hr hlk _ hE hM hl => body p e s m below meth c ls P f C hr hlk hE hM hm hl)
section MDR
variable {p : Program} {l : Launch} {e : Env} {R : Room} {s : State} {m : MethodId} {args : Array Value} {below : List Frame} {meth : Method} {c : Code} {H : Heap} {locs : List Loc} {cells slots : Nat} {Q : State → Prop}
variable {cc : ByteArray} {pc nL : Nat} {ls : Array Slot} {rest : List Value} {G : GG} {A0 : Nat → Prop} {H0 : Heap} {P : List Nat} {f0 f : Nat → va_E} {own : String} {vs : List (Option Value)} {o : Nat} {r : Nat → Nat} {v : Nat → Int32} {A : Nat → Nat → Int32} {B : Nat → Nat → Int64}
theorem md_get (C : CallFix p m c cc nL s args bg own) (hE : ev G A0 s H0) (hM : pgS G A0 H0 P f H locs) (hm : mdS G o r P f0 f v A B) (k : Nat) (hk : k < 40) {index : Nat} (hw : Cond.fieldLink own index "FleetFloorModel" (T_Mod k).2.1 (T_Mod k).2.2.1 ∈ bg) (hr : (T_Mod k).1 = "FleetFloorModel") {x : Value} (hv : (mdF v r)[k]? = some x) (hdg : decode cc pc = .ok (.getfield index, 3))
    (kk : W p l e R s m args below meth c H locs cells slots Q (F0 m (pc + 3) ls (x :: rest))) : W p l e R s m args below meth c H locs cells slots Q (F0 m pc ls (.ref o :: rest)) :=
  pg_get C hE hM hm.1.1 hm.2.2.1.1 rfl in_Mod k hk hw hr hv hdg kk
theorem md_put (C : CallFix p m c cc nL s args bg own) (hE : ev G A0 s H0) (hM : pgS G A0 H0 P f H locs) (hm : mdS G o r P f0 f v A B) (k : Nat) (hk : k < 40) {index : Nat} (hw : Cond.fieldLink own index "FleetFloorModel" (T_Mod k).2.1 (T_Mod k).2.2.1 ∈ bg) (hr : (T_Mod k).1 = "FleetFloorModel") (hfin : (T_Mod k).2.2.2 = false) {x : Int32} (hn : narrow (ty_Mod k) (.int x) = .int x) (hfit : fits (ty_Mod k) (.int x) = true) (hset : (mdF v r).set k (.int x) = mdF (upd v k x) r) (hdg : decode cc pc = .ok (.putfield index, 3))
    (kk : ∀ (f' : Nat → va_E) (H1 : Heap) (locs1 : List Loc), pgS G A0 H0 P f' H1 locs1 → mdS G o r P f0 f' (upd v k x) A B → W p l e R s m args below meth c H1 locs1 cells slots Q (F0 m (pc + 3) ls rest)) : W p l e R s m args below meth c H locs cells slots Q (F0 m pc ls (.int x :: .ref o :: rest)) :=
  pg_put C hE hM hm.1.1 hm.2.2.1.1 rfl in_Mod ok_Mod n_Mod k hk hw hr hfin hn hfit hk hdg (fun H1 locs1 h => kk _ H1 locs1 h (hm.setv k hset))
theorem md_iald (C : CallFix p m c cc nL s args bg own) (hE : ev G A0 s H0) (hM : pgS G A0 H0 P f H locs) (hm : mdS G o r P f0 f v A B) (k : Nat) (hk : mdI k = true) {i : Int32} (hin : vp_in i (mdN k)) (hdg : decode cc pc = .ok (.iaload, 1))
    (kk : W p l e R s m args below meth c H locs cells slots Q (F0 m (pc + 1) ls (.int (A k i.toNatClampNeg) :: rest))) : W p l e R s m args below meth c H locs cells slots Q (F0 m pc ls (.int i :: .ref (r k) :: rest)) :=
  pg_iald C hE hM (hm.1.2 k (mdI_R hk)) (hm.2.2.1.2.1 k hk) hin hdg kk
theorem md_zald (C : CallFix p m c cc nL s args bg own) (hE : ev G A0 s H0) (hM : pgS G A0 H0 P f H locs) (hm : mdS G o r P f0 f v A B) {i : Int32} (hin : vp_in i 96) (hdg : decode cc pc = .ok (.baload, 1))
    (kk : W p l e R s m args below meth c H locs cells slots Q (F0 m (pc + 1) ls (.int (A 7 i.toNatClampNeg) :: rest))) : W p l e R s m args below meth c H locs cells slots Q (F0 m pc ls (.int i :: .ref (r 7) :: rest)) :=
  pg_zald C hE hM (hm.1.2 7 rfl) hm.2.2.1.2.2.1 hin hdg kk
theorem md_lald (C : CallFix p m c cc nL s args bg own) (hE : ev G A0 s H0) (hM : pgS G A0 H0 P f H locs) (hm : mdS G o r P f0 f v A B) (k : Nat) (hk : mdL k = true) {i : Int32} (hin : vp_in i (mdN k)) (hdg : decode cc pc = .ok (.laload, 1))
    (kk : W p l e R s m args below meth c H locs cells slots Q (F0 m (pc + 1) ls (.long (B k i.toNatClampNeg) :: rest))) : W p l e R s m args below meth c H locs cells slots Q (F0 m pc ls (.int i :: .ref (r k) :: rest)) :=
  pg_lald C hE hM (hm.1.2 k (mdL_R hk)) (hm.2.2.1.2.2.2 k hk) hin hdg kk
theorem md_iast (C : CallFix p m c cc nL s args bg own) (hE : ev G A0 s H0) (hM : pgS G A0 H0 P f H locs) (hm : mdS G o r P f0 f v A B) (k : Nat) (hk : mdI k = true) {i x : Int32} (hin : vp_in i (mdN k)) (hdg : decode cc pc = .ok (.iastore, 1))
    (kk : ∀ (f' : Nat → va_E) (H1 : Heap) (locs1 : List Loc), pgS G A0 H0 P f' H1 locs1 → mdS G o r P f0 f' v (va_up A k (upd (A k) i.toNatClampNeg x)) B → W p l e R s m args below meth c H1 locs1 cells slots Q (F0 m (pc + 1) ls rest)) : W p l e R s m args below meth c H locs cells slots Q (F0 m pc ls (.int x :: .int i :: .ref (r k) :: rest)) :=
  pg_iast C hE hM (hm.1.2 k (mdI_R hk)) (hm.2.2.1.2.1 k hk) hin hdg (fun H1 locs1 h => kk _ H1 locs1 h (hm.seti k hk))
theorem md_zast (C : CallFix p m c cc nL s args bg own) (hE : ev G A0 s H0) (hM : pgS G A0 H0 P f H locs) (hm : mdS G o r P f0 f v A B) {i x : Int32} (hin : vp_in i 96) (hdg : decode cc pc = .ok (.bastore, 1))
    (kk : ∀ (f' : Nat → va_E) (H1 : Heap) (locs1 : List Loc), pgS G A0 H0 P f' H1 locs1 → mdS G o r P f0 f' v (va_up A 7 (upd (A 7) i.toNatClampNeg (vp_nar .boolean x))) B → W p l e R s m args below meth c H1 locs1 cells slots Q (F0 m (pc + 1) ls rest)) : W p l e R s m args below meth c H locs cells slots Q (F0 m pc ls (.int x :: .int i :: .ref (r 7) :: rest)) :=
  pg_zast C hE hM (hm.1.2 7 rfl) hm.2.2.1.2.2.1 hin hdg (fun H1 locs1 h => kk _ H1 locs1 h hm.setz)
theorem md_last (C : CallFix p m c cc nL s args bg own) (hE : ev G A0 s H0) (hM : pgS G A0 H0 P f H locs) (hm : mdS G o r P f0 f v A B) (k : Nat) (hk : mdL k = true) {i : Int32} {x : Int64} (hin : vp_in i (mdN k)) (hdg : decode cc pc = .ok (.lastore, 1))
    (kk : ∀ (f' : Nat → va_E) (H1 : Heap) (locs1 : List Loc), pgS G A0 H0 P f' H1 locs1 → mdS G o r P f0 f' v A (va_up B k (vp_updL (B k) i.toNatClampNeg x)) → W p l e R s m args below meth c H1 locs1 cells slots Q (F0 m (pc + 1) ls rest)) : W p l e R s m args below meth c H locs cells slots Q (F0 m pc ls (.long x :: .int i :: .ref (r k) :: rest)) :=
  pg_last C hE hM (hm.1.2 k (mdL_R hk)) (hm.2.2.1.2.2.2 k hk) hin hdg (fun H1 locs1 h => kk _ H1 locs1 h (hm.setl k hk))
theorem mdN_small (k : Nat) : mdN k < 2147483648 := by
  unfold mdN
  split <;> decide
theorem md_ialdN (C : CallFix p m c cc nL s args bg own) (hE : ev G A0 s H0) (hM : pgS G A0 H0 P f H locs) (hm : mdS G o r P f0 f v A B) (k : Nat) (hk : mdI k = true) (j : Nat) {i : Int32} (hi : i = nI j) (hj : j < mdN k) (hdg : decode cc pc = .ok (.iaload, 1))
    (kk : W p l e R s m args below meth c H locs cells slots Q (F0 m (pc + 1) ls (.int (A k j) :: rest))) : W p l e R s m args below meth c H locs cells slots Q (F0 m pc ls (.int i :: .ref (r k) :: rest)) := by
  subst hi
  have hs := mdN_small k
  exact md_iald C hE hM hm k hk (vp_in_nI hj hs) hdg (by rw [nI_clamp (by omega)]; exact kk)
theorem md_zaldN (C : CallFix p m c cc nL s args bg own) (hE : ev G A0 s H0) (hM : pgS G A0 H0 P f H locs) (hm : mdS G o r P f0 f v A B) (j : Nat) {i : Int32} (hi : i = nI j) (hj : j < 96) (hdg : decode cc pc = .ok (.baload, 1))
    (kk : W p l e R s m args below meth c H locs cells slots Q (F0 m (pc + 1) ls (.int (A 7 j) :: rest))) : W p l e R s m args below meth c H locs cells slots Q (F0 m pc ls (.int i :: .ref (r 7) :: rest)) := by
  subst hi
  exact md_zald C hE hM hm (vp_in_nI hj (by decide)) hdg (by rw [nI_clamp (by omega)]; exact kk)
theorem md_laldN (C : CallFix p m c cc nL s args bg own) (hE : ev G A0 s H0) (hM : pgS G A0 H0 P f H locs) (hm : mdS G o r P f0 f v A B) (k : Nat) (hk : mdL k = true) (j : Nat) {i : Int32} (hi : i = nI j) (hj : j < mdN k) (hdg : decode cc pc = .ok (.laload, 1))
    (kk : W p l e R s m args below meth c H locs cells slots Q (F0 m (pc + 1) ls (.long (B k j) :: rest))) : W p l e R s m args below meth c H locs cells slots Q (F0 m pc ls (.int i :: .ref (r k) :: rest)) := by
  subst hi
  have hs := mdN_small k
  exact md_lald C hE hM hm k hk (vp_in_nI hj hs) hdg (by rw [nI_clamp (by omega)]; exact kk)
theorem md_iastN (C : CallFix p m c cc nL s args bg own) (hE : ev G A0 s H0) (hM : pgS G A0 H0 P f H locs) (hm : mdS G o r P f0 f v A B) (k : Nat) (hk : mdI k = true) (j : Nat) {i x : Int32} (hi : i = nI j) (hj : j < mdN k) (hdg : decode cc pc = .ok (.iastore, 1))
    (kk : ∀ (f' : Nat → va_E) (H1 : Heap) (locs1 : List Loc), pgS G A0 H0 P f' H1 locs1 → mdS G o r P f0 f' v (va_up A k (upd (A k) j x)) B → W p l e R s m args below meth c H1 locs1 cells slots Q (F0 m (pc + 1) ls rest)) : W p l e R s m args below meth c H locs cells slots Q (F0 m pc ls (.int x :: .int i :: .ref (r k) :: rest)) := by
  subst hi
  have hs := mdN_small k
  refine md_iast C hE hM hm k hk (vp_in_nI hj hs) hdg (fun f1 H1 locs1 h1 h2 => kk f1 H1 locs1 h1 ?_)
  rw [nI_clamp (by omega)] at h2
  exact h2
theorem md_zastN (C : CallFix p m c cc nL s args bg own) (hE : ev G A0 s H0) (hM : pgS G A0 H0 P f H locs) (hm : mdS G o r P f0 f v A B) (j : Nat) {i x : Int32} (hi : i = nI j) (hj : j < 96) (hdg : decode cc pc = .ok (.bastore, 1))
    (kk : ∀ (f' : Nat → va_E) (H1 : Heap) (locs1 : List Loc), pgS G A0 H0 P f' H1 locs1 → mdS G o r P f0 f' v (va_up A 7 (upd (A 7) j (vp_nar .boolean x))) B → W p l e R s m args below meth c H1 locs1 cells slots Q (F0 m (pc + 1) ls rest)) : W p l e R s m args below meth c H locs cells slots Q (F0 m pc ls (.int x :: .int i :: .ref (r 7) :: rest)) := by
  subst hi
  refine md_zast C hE hM hm (vp_in_nI hj (by decide)) hdg (fun f1 H1 locs1 h1 h2 => kk f1 H1 locs1 h1 ?_)
  rw [nI_clamp (by omega)] at h2
  exact h2
theorem md_lastN (C : CallFix p m c cc nL s args bg own) (hE : ev G A0 s H0) (hM : pgS G A0 H0 P f H locs) (hm : mdS G o r P f0 f v A B) (k : Nat) (hk : mdL k = true) (j : Nat) {i : Int32} {x : Int64} (hi : i = nI j) (hj : j < mdN k) (hdg : decode cc pc = .ok (.lastore, 1))
    (kk : ∀ (f' : Nat → va_E) (H1 : Heap) (locs1 : List Loc), pgS G A0 H0 P f' H1 locs1 → mdS G o r P f0 f' v A (va_up B k (vp_updL (B k) j x)) → W p l e R s m args below meth c H1 locs1 cells slots Q (F0 m (pc + 1) ls rest)) : W p l e R s m args below meth c H locs cells slots Q (F0 m pc ls (.long x :: .int i :: .ref (r k) :: rest)) := by
  subst hi
  have hs := mdN_small k
  refine md_last C hE hM hm k hk (vp_in_nI hj hs) hdg (fun f1 H1 locs1 h1 h2 => kk f1 H1 locs1 h1 ?_)
  rw [nI_clamp (by omega)] at h2
  exact h2
variable {y : MethodName} {bytes : ByteArray} {maxL index fr lc n : Nat} {ret : Option FieldType} {As st0 : List Value} {post : Option Value → (Nat → Int32) → (Nat → Nat → Int32) → (Nat → Nat → Int64) → Prop}
theorem md_callV (C : CallFix p m c cc nL s args bg own) (hE : ev G A0 s s.heap) (hM : pgS G A0 s.heap P f H locs) (hm : mdS G o r P f0 f v A B) (hc : mct l G y bytes maxL ret fr lc (.ref o :: As) o r v A B post) (hcl : y.cls = "FleetFloorModel") (w1 : Cond.methodLink own index y ∈ bg) (cy : cyV y bytes maxL ret n) (hR : fr + 1 ≤ R.frames ∧ 8 + (maxL + 11) + lc ≤ R.locals) (hn : As.length = n) (hs : ls.size = nL) (hst : st0 = As.reverse ++ .ref o :: rest) (hrs : (rest.map fun v => v.category).sum ≤ 8) (hroom : cells ≤ R.cells ∧ slots ≤ R.slots) (hdg : decode cc pc = .ok (.invokevirtual index, 3))
    (kk : ∀ (x : Option Value) (f' : Nat → va_E) (H1 : Heap) (locs1 : List Loc) (v' : Nat → Int32) (A' : Nat → Nat → Int32) (B' : Nat → Nat → Int64), post x v' A' B' → pgS G A0 s.heap P f' H1 locs1 → mdS G o r P f0 f' v' A' B' → W p l e R s m args below meth c H1 locs1 cells slots Q (F0 m (pc + 3) ls (x.toList ++ rest))) : W p l e R s m args below meth c H locs cells slots Q (F0 m pc ls st0) := by
  refine pg_callV C hE hM (hc P f hm.self) hm.1.1 hm.2.2.1.1 (by rw [hcl]; rfl) w1 cy hR hn hs hst hrs hroom hdg ?_
  rintro x N f' H1 locs1 ⟨rfl, v', A', B', hp, hm'⟩ hM'
  rw [List.append_nil] at hM'
  exact kk x f' H1 locs1 v' A' B' hp hM' (hm.trans hm')
theorem md_callS (C : CallFix p m c cc nL s args bg own) (hE : ev G A0 s s.heap) (hM : pgS G A0 s.heap P f H locs) (hm : mdS G o r P f0 f v A B) (hc : mct l G y bytes maxL ret fr lc As o r v A B post) (w1 : Cond.methodLink own index y ∈ bg) (cy : cyS y bytes maxL ret n) (hR : fr + 1 ≤ R.frames ∧ 8 + (maxL + 11) + lc ≤ R.locals) (hn : As.length = n) (hs : ls.size = nL) (hst : st0 = As.reverse ++ rest) (hrs : (rest.map fun v => v.category).sum ≤ 8) (hroom : cells ≤ R.cells ∧ slots ≤ R.slots) (hdg : decode cc pc = .ok (.invokestatic index, 3))
    (kk : ∀ (x : Option Value) (f' : Nat → va_E) (H1 : Heap) (locs1 : List Loc) (v' : Nat → Int32) (A' : Nat → Nat → Int32) (B' : Nat → Nat → Int64), post x v' A' B' → pgS G A0 s.heap P f' H1 locs1 → mdS G o r P f0 f' v' A' B' → W p l e R s m args below meth c H1 locs1 cells slots Q (F0 m (pc + 3) ls (x.toList ++ rest))) : W p l e R s m args below meth c H locs cells slots Q (F0 m pc ls st0) := by
  refine pg_callS C hE hM (hc P f hm.self) w1 cy hR hn hs hst hrs hroom hdg ?_
  rintro x N f' H1 locs1 ⟨rfl, v', A', B', hp, hm'⟩ hM'
  rw [List.append_nil] at hM'
  exact kk x f' H1 locs1 v' A' B' hp hM' (hm.trans hm')
variable {av : List Value}
theorem md_iret (C : CallFix p m c cc nL s av.toArray bg own) (hr : meth.sig.returnType = some .int) (hlk : meth.locks = false) {x : Int32} (hM : pgS G (pgA P s.heap.size) s.heap P f H locs) (hm : mdS G o r P f0 f v A B) (hdg : decode cc pc = .ok (.ireturn, 1)) (hp : post (some (.int x)) v A B) : W p l e R s m av.toArray below meth c H locs 0 0 (pQ G below av s P (mQ G o r P f0 post) 0 0) (F0 m pc ls [.int x]) :=
  pg_iret C hr hlk hM (List.append_nil P).symm (Nat.le_refl _) (Nat.le_refl _) hdg ⟨rfl, v, A, B, hp, hm⟩
theorem md_zret (C : CallFix p m c cc nL s av.toArray bg own) (hr : meth.sig.returnType = some .boolean) (hlk : meth.locks = false) {x : Int32} (hM : pgS G (pgA P s.heap.size) s.heap P f H locs) (hm : mdS G o r P f0 f v A B) (hdg : decode cc pc = .ok (.ireturn, 1)) (hn : narrow .boolean (.int x) = .int x) (hp : post (some (.int x)) v A B) : W p l e R s m av.toArray below meth c H locs 0 0 (pQ G below av s P (mQ G o r P f0 post) 0 0) (F0 m pc ls [.int x]) :=
  pg_zret C hr hlk hM (List.append_nil P).symm (Nat.le_refl _) (Nat.le_refl _) hdg hn ⟨rfl, v, A, B, hp, hm⟩
theorem md_vret (C : CallFix p m c cc nL s av.toArray bg own) (hr : meth.sig.returnType = none) (hlk : meth.locks = false) (hM : pgS G (pgA P s.heap.size) s.heap P f H locs) (hm : mdS G o r P f0 f v A B) (hdg : decode cc pc = .ok (.return_, 1)) (hp : post none v A B) : W p l e R s m av.toArray below meth c H locs 0 0 (pQ G below av s P (mQ G o r P f0 post) 0 0) (F0 m pc ls []) :=
  pg_vret C hr hlk hM (List.append_nil P).symm (Nat.le_refl _) (Nat.le_refl _) hdg ⟨rfl, v, A, B, hp, hm⟩
end MDR
