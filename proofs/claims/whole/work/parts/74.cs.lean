/-! the class's memory -/
abbrev frX (G : GG) (P : List Nat) (f : Nat → va_E) (P1 : List Nat) (f1 : Nat → va_E) (W : Nat → Prop) : Prop := (∀ y, y ∈ P → y ∈ P1) ∧ (∀ y, y ∈ P → ¬ W y → (∀ n h, f y ≠ arR G 5 n h) → f1 y = f y) ∧ (∀ b cap n g, ¬ W b → lsS G P f b cap n g → lsS G P1 f1 b cap n g) ∧ (lsW G P1 f1)
theorem frX.sub {G : GG} {P : List Nat} {f : Nat → va_E} {P1 : List Nat} {f1 : Nat → va_E} {W : Nat → Prop} (h : frX G P f P1 f1 W) : ∀ y, y ∈ P → y ∈ P1 := h.1
theorem frX.cel {G : GG} {P : List Nat} {f : Nat → va_E} {P1 : List Nat} {f1 : Nat → va_E} {W : Nat → Prop} (h : frX G P f P1 f1 W) : ∀ y, y ∈ P → ¬ W y → (∀ n h, f y ≠ arR G 5 n h) → f1 y = f y := h.2.1
theorem frX.lst {G : GG} {P : List Nat} {f : Nat → va_E} {P1 : List Nat} {f1 : Nat → va_E} {W : Nat → Prop} (h : frX G P f P1 f1 W) : ∀ b cap n g, ¬ W b → lsS G P f b cap n g → lsS G P1 f1 b cap n g := h.2.2.1
theorem frX.lw {G : GG} {P : List Nat} {f : Nat → va_E} {P1 : List Nat} {f1 : Nat → va_E} {W : Nat → Prop} (h : frX G P f P1 f1 W) : lsW G P1 f1 := h.2.2.2
section FRX
variable {G : GG} {P P1 : List Nat} {f f1 : Nat → va_E} {W : Nat → Prop}
theorem frX.ob (h : frX G P f P1 f1 W) {y ci : Nat} {fs : List Value} (hy : y ∈ P) (hW : ¬ W y) (hf : f y = .inr (ci, fs)) : y ∈ P1 ∧ f1 y = .inr (ci, fs) :=
  ⟨h.sub y hy, (h.cel y hy hW (fun n g z => by rw [hf] at z; cases z)).trans hf⟩
theorem frX.ai (h : frX G P f P1 f1 W) {y t n : Nat} {g : Nat → Int32} (hy : y ∈ P) (hW : ¬ W y) (hf : f y = .inl (G.2.1 t, n, .inl g)) : y ∈ P1 ∧ f1 y = .inl (G.2.1 t, n, .inl g) :=
  ⟨h.sub y hy, (h.cel y hy hW (fun n g z => by rw [hf] at z; have := congrArg (fun q => q.2.2) (Sum.inl.inj z); cases this)).trans hf⟩
theorem frX.ar (h : frX G P f P1 f1 W) {y t n : Nat} {g : Nat → Option Nat} (hy : y ∈ P) (hW : ¬ W y) (hf : f y = arR G t n g) (ht : G.2.1 t ≠ G.2.1 5) : y ∈ P1 ∧ f1 y = arR G t n g :=
  ⟨h.sub y hy, (h.cel y hy hW (fun n g z => by rw [hf] at z; exact ht (congrArg Prod.fst (Sum.inl.inj z)))).trans hf⟩
theorem frL.x {b : Nat} (h : frL G P f P1 f1 b) (hs : ∀ y, y ∈ P → y ∈ P1) : frX G P f P1 f1 (fun y => y = b) := ⟨hs, fun y hy hW ha => h.1 y hy hW ha, fun b2 cap n g hW hl => h.2.1 b2 cap n g hW hl, h.2.2⟩
theorem apF.x {a mv : Nat} (h : apF G P f P1 f1 a mv) : frX G P f P1 f1 (fun y => y = a ∨ y = mv) := ⟨h.1, fun y hy hW ha => h.2.1 y hy (fun z => hW (Or.inl z)) (fun z => hW (Or.inr z)) ha, fun b2 cap n g hW hl => h.2.2.1 b2 cap n g (fun z => hW (Or.inr z)) hl, h.2.2.2⟩
theorem wr_x {a ci : Nat} {fs gs : List Value} (hf : f1 = va_up f a (.inr (ci, gs))) (ha : f a = .inr (ci, fs)) (h3 : ci ≠ 3) (hw : lsW G P f) : frX G P f P f1 (fun y => y = a) :=
  ⟨fun _ h => h, fun y _ hW _ => by rw [hf, va_up_ne _ _ hW], fun b cap n g _ hl => hl.wr hf ha h3, hw.wr hf ha h3⟩
theorem nw_x {q : Nat} {e : va_E} (hf : f1 = va_up f q e) (hq : q ∉ P) (hP : P1 = P ++ [q]) (hqz : q ≠ G.2.2) (he : ∀ d n m, e ≠ .inr (3, [.ref d, n, m])) (hw : lsW G P f) : frX G P f P1 f1 (fun _ => False) :=
  ⟨fun y h => by rw [hP]; exact List.mem_append_left _ h, fun y hy _ _ => by rw [hf, va_up_ne _ _ (fun z : y = q => hq (z ▸ hy))], fun b cap n g _ hl => hl.nw hf hq hP, hw.nw hf hq hP hqz he⟩
theorem pS.x {pl va : Nat} {d c : Nat → Nat} {S S0 : Nat → Nat → Bool} {Wy F W0 F0 : Nat → Int32} (h : pS G pl va d c P f f1 S Wy F) (h0 : pS G pl va d c P f f S0 W0 F0) (hw : lsW G P f) : frX G P f P f1 (fun y => y = pl ∨ y = d 3 ∨ ∃ i, i < 762 ∧ y = c i) := by
  refine ⟨fun _ h => h, fun y _ hW _ => h.2.2.2.2 y (fun z => hW (Or.inl z)) (fun z => hW (Or.inr (Or.inl z))) (fun i hi z => hW (Or.inr (Or.inr ⟨i, hi, z⟩))), fun b cap n g _ hl => h.lst h0 hl, ?_⟩
  have back : ∀ b fs, f1 b = .inr (3, fs) → f b = .inr (3, fs) := by
    intro b fs hb
    rw [← hb]
    refine (h.2.2.2.2 b (fun z => ?_) (fun z => ?_) (fun i hi z => ?_)).symm
    · rw [z, h.2.2.1.1] at hb; cases hb
    · rw [z, h.2.2.1.2.2.2.2] at hb; cases hb
    · obtain ⟨u, w, hc, -⟩ := h.2.2.2.1 i hi
      rw [z, hc] at hb; cases hb
  exact ⟨fun b1 b2 dd n1 n2 m1 m2 hb1 hb2 h1 h2 hd => hw.1 b1 b2 dd n1 n2 m1 m2 hb1 hb2 (back _ _ h1) (back _ _ h2) hd, fun a dd n m ha h1 => hw.2 a dd n m ha (back _ _ h1)⟩
end FRX
def vhF (D : Nat → Nat → Nat) (T : TS) (u : Nat) : List Value := [.int (nI u), .int (T.A 6 u), .ref (D 2 u), .int (T.A 23 u), .int (T.A 24 u), .int (T.A 25 u), .int (T.A 26 u), .int (T.A 28 u), .int (T.k.X 0 u), .int (T.k.X 1 u)]
def ffF (D : Nat → Nat → Nat) (v : Nat → Int32) : List Value := [.ref (D 0 0), .ref (D 0 2), .ref (D 0 4), .ref (D 0 5), .ref (D 0 6), if v 1 = 0 then .null else .ref (D 0 7), .int (v 10), .int (v 30), .int (v 29)]
abbrev cS (G : GG) (P : List Nat) (f : Nat → va_E) (o : Nat) (D : Nat → Nat → Nat) (C : Nat → Nat) (T : TS) : Prop := (o ∈ P ∧ f o = .inr (0, ffF D T.v)) ∧ (D 0 0 ∈ P ∧ f (D 0 0) = .inr (1, [.ref (D 0 1)])) ∧ (D 0 1 ∈ P ∧ f (D 0 1) = .inl (G.2.1 0, 96, .inl (T.A 2))) ∧ (D 0 2 ∈ P ∧ f (D 0 2) = .inr (2, [.ref (D 0 3)])) ∧ (lsS G P f (D 0 3) (C 0) (T.k.N 1) (D 3)) ∧ (∀ i, i < T.k.N 1 → D 3 i ∈ P ∧ f (D 3 i) = .inr (5, [.int (T.A 32 i), .int (T.A 33 i), .int (T.A 34 i)])) ∧ (lsS G P f (D 0 4) (C 1) (T.k.N 2) (D 4)) ∧ (∀ t, t < T.k.N 2 → D 4 t ∈ P ∧ f (D 4 t) = .inr (7, [.int (T.A 11 t), .int (T.A 12 t), .int (T.A 13 t), .int (T.A 18 t)])) ∧ (D 0 5 ∈ P ∧ f (D 0 5) = arR G 3 (T.k.N 0) (fun u => some (D 1 u))) ∧ (∀ u, u < T.k.N 0 → D 1 u ∈ P ∧ f (D 1 u) = .inr (8, vhF D T u)) ∧ (∀ u, u < T.k.N 0 → lsS G P f (D 2 u) (C (10 + u)) (T.k.q 1 u) (D (10 + u))) ∧ (∀ u, u < T.k.N 0 → ∀ i, i < T.k.q 1 u → D (10 + u) i ∈ P ∧ f (D (10 + u) i) = .inr (6, [.int (nI (T.k.ce u i)), .int (nI (T.k.tm u i))])) ∧ (D 0 6 ∈ P ∧ ∃ g, f (D 0 6) = .inl (G.2.1 0, T.k.N 3, .inl g) ∧ ∀ j, j < T.k.N 3 → g j = T.A 5 j) ∧ (∀ u w, u < T.k.N 0 → w < T.k.N 0 → D 1 u = D 1 w → u = w) ∧ (∀ u w, u < T.k.N 0 → w < T.k.N 0 → D 2 u = D 2 w → u = w) ∧ (D 0 3 ≠ D 0 4 ∧ ∀ u, u < T.k.N 0 → D 2 u ≠ D 0 3 ∧ D 2 u ≠ D 0 4) ∧ (∀ s t, s < T.k.N 2 → t < T.k.N 2 → D 4 s = D 4 t → s = t) ∧ (C 0 ≤ 130 ∧ C 1 ≤ 58 ∧ ∀ u, u < T.k.N 0 → C (10 + u) ≤ 2 * T.k.q 1 u + 10) ∧ (lsW G P f) ∧ (T.v 1 = 0 ∨ (T.v 1 = 1 ∧ ∃ S Wy F, pS G (D 0 7) (D 0 5) (D 5) (D 6) P f f S Wy F ∧ ∀ k, k < 96 → (S 0 k = true ↔ (T.A 2 k = 1 ∨ T.A 2 k = 2))))
theorem cS.ff {G : GG} {P : List Nat} {f : Nat → va_E} {o : Nat} {D : Nat → Nat → Nat} {C : Nat → Nat} {T : TS} (h : cS G P f o D C T) : o ∈ P ∧ f o = .inr (0, ffF D T.v) := h.1
theorem cS.mp {G : GG} {P : List Nat} {f : Nat → va_E} {o : Nat} {D : Nat → Nat → Nat} {C : Nat → Nat} {T : TS} (h : cS G P f o D C T) : D 0 0 ∈ P ∧ f (D 0 0) = .inr (1, [.ref (D 0 1)]) := h.2.1
theorem cS.kd {G : GG} {P : List Nat} {f : Nat → va_E} {o : Nat} {D : Nat → Nat → Nat} {C : Nat → Nat} {T : TS} (h : cS G P f o D C T) : D 0 1 ∈ P ∧ f (D 0 1) = .inl (G.2.1 0, 96, .inl (T.A 2)) := h.2.2.1
theorem cS.ar {G : GG} {P : List Nat} {f : Nat → va_E} {o : Nat} {D : Nat → Nat → Nat} {C : Nat → Nat} {T : TS} (h : cS G P f o D C T) : D 0 2 ∈ P ∧ f (D 0 2) = .inr (2, [.ref (D 0 3)]) := h.2.2.2.1
theorem cS.al {G : GG} {P : List Nat} {f : Nat → va_E} {o : Nat} {D : Nat → Nat → Nat} {C : Nat → Nat} {T : TS} (h : cS G P f o D C T) : lsS G P f (D 0 3) (C 0) (T.k.N 1) (D 3) := h.2.2.2.2.1
theorem cS.lt {G : GG} {P : List Nat} {f : Nat → va_E} {o : Nat} {D : Nat → Nat → Nat} {C : Nat → Nat} {T : TS} (h : cS G P f o D C T) : ∀ i, i < T.k.N 1 → D 3 i ∈ P ∧ f (D 3 i) = .inr (5, [.int (T.A 32 i), .int (T.A 33 i), .int (T.A 34 i)]) := h.2.2.2.2.2.1
theorem cS.tl {G : GG} {P : List Nat} {f : Nat → va_E} {o : Nat} {D : Nat → Nat → Nat} {C : Nat → Nat} {T : TS} (h : cS G P f o D C T) : lsS G P f (D 0 4) (C 1) (T.k.N 2) (D 4) := h.2.2.2.2.2.2.1
theorem cS.tk {G : GG} {P : List Nat} {f : Nat → va_E} {o : Nat} {D : Nat → Nat → Nat} {C : Nat → Nat} {T : TS} (h : cS G P f o D C T) : ∀ t, t < T.k.N 2 → D 4 t ∈ P ∧ f (D 4 t) = .inr (7, [.int (T.A 11 t), .int (T.A 12 t), .int (T.A 13 t), .int (T.A 18 t)]) := h.2.2.2.2.2.2.2.1
theorem cS.va {G : GG} {P : List Nat} {f : Nat → va_E} {o : Nat} {D : Nat → Nat → Nat} {C : Nat → Nat} {T : TS} (h : cS G P f o D C T) : D 0 5 ∈ P ∧ f (D 0 5) = arR G 3 (T.k.N 0) (fun u => some (D 1 u)) := h.2.2.2.2.2.2.2.2.1
theorem cS.vh {G : GG} {P : List Nat} {f : Nat → va_E} {o : Nat} {D : Nat → Nat → Nat} {C : Nat → Nat} {T : TS} (h : cS G P f o D C T) : ∀ u, u < T.k.N 0 → D 1 u ∈ P ∧ f (D 1 u) = .inr (8, vhF D T u) := h.2.2.2.2.2.2.2.2.2.1
theorem cS.vl {G : GG} {P : List Nat} {f : Nat → va_E} {o : Nat} {D : Nat → Nat → Nat} {C : Nat → Nat} {T : TS} (h : cS G P f o D C T) : ∀ u, u < T.k.N 0 → lsS G P f (D 2 u) (C (10 + u)) (T.k.q 1 u) (D (10 + u)) := h.2.2.2.2.2.2.2.2.2.2.1
theorem cS.mv {G : GG} {P : List Nat} {f : Nat → va_E} {o : Nat} {D : Nat → Nat → Nat} {C : Nat → Nat} {T : TS} (h : cS G P f o D C T) : ∀ u, u < T.k.N 0 → ∀ i, i < T.k.q 1 u → D (10 + u) i ∈ P ∧ f (D (10 + u) i) = .inr (6, [.int (nI (T.k.ce u i)), .int (nI (T.k.tm u i))]) := h.2.2.2.2.2.2.2.2.2.2.2.1
theorem cS.sa {G : GG} {P : List Nat} {f : Nat → va_E} {o : Nat} {D : Nat → Nat → Nat} {C : Nat → Nat} {T : TS} (h : cS G P f o D C T) : D 0 6 ∈ P ∧ ∃ g, f (D 0 6) = .inl (G.2.1 0, T.k.N 3, .inl g) ∧ ∀ j, j < T.k.N 3 → g j = T.A 5 j := h.2.2.2.2.2.2.2.2.2.2.2.2.1
theorem cS.vj {G : GG} {P : List Nat} {f : Nat → va_E} {o : Nat} {D : Nat → Nat → Nat} {C : Nat → Nat} {T : TS} (h : cS G P f o D C T) : ∀ u w, u < T.k.N 0 → w < T.k.N 0 → D 1 u = D 1 w → u = w := h.2.2.2.2.2.2.2.2.2.2.2.2.2.1
theorem cS.lj {G : GG} {P : List Nat} {f : Nat → va_E} {o : Nat} {D : Nat → Nat → Nat} {C : Nat → Nat} {T : TS} (h : cS G P f o D C T) : ∀ u w, u < T.k.N 0 → w < T.k.N 0 → D 2 u = D 2 w → u = w := h.2.2.2.2.2.2.2.2.2.2.2.2.2.2.1
theorem cS.l0 {G : GG} {P : List Nat} {f : Nat → va_E} {o : Nat} {D : Nat → Nat → Nat} {C : Nat → Nat} {T : TS} (h : cS G P f o D C T) : D 0 3 ≠ D 0 4 ∧ ∀ u, u < T.k.N 0 → D 2 u ≠ D 0 3 ∧ D 2 u ≠ D 0 4 := h.2.2.2.2.2.2.2.2.2.2.2.2.2.2.2.1
theorem cS.tj {G : GG} {P : List Nat} {f : Nat → va_E} {o : Nat} {D : Nat → Nat → Nat} {C : Nat → Nat} {T : TS} (h : cS G P f o D C T) : ∀ s t, s < T.k.N 2 → t < T.k.N 2 → D 4 s = D 4 t → s = t := h.2.2.2.2.2.2.2.2.2.2.2.2.2.2.2.2.1
theorem cS.cp {G : GG} {P : List Nat} {f : Nat → va_E} {o : Nat} {D : Nat → Nat → Nat} {C : Nat → Nat} {T : TS} (h : cS G P f o D C T) : C 0 ≤ 130 ∧ C 1 ≤ 58 ∧ ∀ u, u < T.k.N 0 → C (10 + u) ≤ 2 * T.k.q 1 u + 10 := h.2.2.2.2.2.2.2.2.2.2.2.2.2.2.2.2.2.1
theorem cS.lw {G : GG} {P : List Nat} {f : Nat → va_E} {o : Nat} {D : Nat → Nat → Nat} {C : Nat → Nat} {T : TS} (h : cS G P f o D C T) : lsW G P f := h.2.2.2.2.2.2.2.2.2.2.2.2.2.2.2.2.2.2.1
theorem cS.pl {G : GG} {P : List Nat} {f : Nat → va_E} {o : Nat} {D : Nat → Nat → Nat} {C : Nat → Nat} {T : TS} (h : cS G P f o D C T) : T.v 1 = 0 ∨ (T.v 1 = 1 ∧ ∃ S Wy F, pS G (D 0 7) (D 0 5) (D 5) (D 6) P f f S Wy F ∧ ∀ k, k < 96 → (S 0 k = true ↔ (T.A 2 k = 1 ∨ T.A 2 k = 2))) := h.2.2.2.2.2.2.2.2.2.2.2.2.2.2.2.2.2.2.2
theorem cS.mk {G : GG} {P : List Nat} {f : Nat → va_E} {o : Nat} {D : Nat → Nat → Nat} {C : Nat → Nat} {T : TS} (ff : o ∈ P ∧ f o = .inr (0, ffF D T.v)) (mp : D 0 0 ∈ P ∧ f (D 0 0) = .inr (1, [.ref (D 0 1)])) (kd : D 0 1 ∈ P ∧ f (D 0 1) = .inl (G.2.1 0, 96, .inl (T.A 2))) (ar : D 0 2 ∈ P ∧ f (D 0 2) = .inr (2, [.ref (D 0 3)])) (al : lsS G P f (D 0 3) (C 0) (T.k.N 1) (D 3)) (lt : ∀ i, i < T.k.N 1 → D 3 i ∈ P ∧ f (D 3 i) = .inr (5, [.int (T.A 32 i), .int (T.A 33 i), .int (T.A 34 i)])) (tl : lsS G P f (D 0 4) (C 1) (T.k.N 2) (D 4)) (tk : ∀ t, t < T.k.N 2 → D 4 t ∈ P ∧ f (D 4 t) = .inr (7, [.int (T.A 11 t), .int (T.A 12 t), .int (T.A 13 t), .int (T.A 18 t)])) (va : D 0 5 ∈ P ∧ f (D 0 5) = arR G 3 (T.k.N 0) (fun u => some (D 1 u))) (vh : ∀ u, u < T.k.N 0 → D 1 u ∈ P ∧ f (D 1 u) = .inr (8, vhF D T u)) (vl : ∀ u, u < T.k.N 0 → lsS G P f (D 2 u) (C (10 + u)) (T.k.q 1 u) (D (10 + u))) (mv : ∀ u, u < T.k.N 0 → ∀ i, i < T.k.q 1 u → D (10 + u) i ∈ P ∧ f (D (10 + u) i) = .inr (6, [.int (nI (T.k.ce u i)), .int (nI (T.k.tm u i))])) (sa : D 0 6 ∈ P ∧ ∃ g, f (D 0 6) = .inl (G.2.1 0, T.k.N 3, .inl g) ∧ ∀ j, j < T.k.N 3 → g j = T.A 5 j) (vj : ∀ u w, u < T.k.N 0 → w < T.k.N 0 → D 1 u = D 1 w → u = w) (lj : ∀ u w, u < T.k.N 0 → w < T.k.N 0 → D 2 u = D 2 w → u = w) (l0 : D 0 3 ≠ D 0 4 ∧ ∀ u, u < T.k.N 0 → D 2 u ≠ D 0 3 ∧ D 2 u ≠ D 0 4) (tj : ∀ s t, s < T.k.N 2 → t < T.k.N 2 → D 4 s = D 4 t → s = t) (cp : C 0 ≤ 130 ∧ C 1 ≤ 58 ∧ ∀ u, u < T.k.N 0 → C (10 + u) ≤ 2 * T.k.q 1 u + 10) (lw : lsW G P f) (pl : T.v 1 = 0 ∨ (T.v 1 = 1 ∧ ∃ S Wy F, pS G (D 0 7) (D 0 5) (D 5) (D 6) P f f S Wy F ∧ ∀ k, k < 96 → (S 0 k = true ↔ (T.A 2 k = 1 ∨ T.A 2 k = 2)))) : cS G P f o D C T := ⟨ff, mp, kd, ar, al, lt, tl, tk, va, vh, vl, mv, sa, vj, lj, l0, tj, cp, lw, pl⟩
section CS
variable {G : GG} {P P1 : List Nat} {f f1 : Nat → va_E} {W : Nat → Prop} {o : Nat} {D : Nat → Nat → Nat} {C : Nat → Nat} {T T' : TS}
theorem cS.congr (h : cS G P f o D C T) (hq : eqC T.v T.A T'.v T'.A) (hN : T'.k.N = T.k.N) (hq1 : T'.k.q 1 = T.k.q 1) (hce : T'.k.ce = T.k.ce) (htm : T'.k.tm = T.k.tm) (hX : T'.k.X = T.k.X) : cS G P f o D C T' := by
  have hA := fun j hj => hq.2 j hj
  apply cS.mk
  case ff => unfold ffF; rw [← hq.1 1 rfl, ← hq.1 10 rfl, ← hq.1 29 rfl, ← hq.1 30 rfl]; exact h.ff
  case mp => exact h.mp
  case kd => rw [← hA 2 rfl]; exact h.kd
  case ar => exact h.ar
  case al => rw [hN]; exact h.al
  case lt => rw [hN, ← hA 32 rfl, ← hA 33 rfl, ← hA 34 rfl]; exact h.lt
  case tl => rw [hN]; exact h.tl
  case tk => rw [hN, ← hA 11 rfl, ← hA 12 rfl, ← hA 13 rfl, ← hA 18 rfl]; exact h.tk
  case va => rw [hN]; exact h.va
  case vh => unfold vhF; rw [hN, hX, ← hA 6 rfl, ← hA 23 rfl, ← hA 24 rfl, ← hA 25 rfl, ← hA 26 rfl, ← hA 28 rfl]; exact h.vh
  case vl => rw [hN, hq1]; exact h.vl
  case mv => rw [hN, hq1, hce, htm]; exact h.mv
  case sa => rw [hN, ← hA 5 rfl]; exact h.sa
  case vj => rw [hN]; exact h.vj
  case lj => rw [hN]; exact h.lj
  case l0 => rw [hN]; exact h.l0
  case tj => rw [hN]; exact h.tj
  case cp => rw [hN, hq1]; exact h.cp
  case lw => exact h.lw
  case pl => rw [← hq.1 1 rfl, ← hA 2 rfl]; exact h.pl
/-- what is written is none of these -/
theorem frX.pl (hx : frX G P f P1 f1 W) (h45 : G.2.1 4 ≠ G.2.1 5) (hW : ∀ a, W a → ∃ ci fs, f a = .inr (ci, fs) ∧ ci ≠ 4 ∧ ci ≠ 9) {pl va : Nat} {d c : Nat → Nat} {S : Nat → Nat → Bool} {Wy F : Nat → Int32} (h : pS G pl va d c P f f S Wy F) : pS G pl va d c P1 f1 f1 S Wy F := by
  refine h.any hx.sub (fun a ha hk => hx.cel a ha (fun z => ?_) (fun n g z => ?_))
  · obtain ⟨ci, fs, h1, h2, h3⟩ := hW a z
    rcases hk with ⟨gs, hk⟩ | ⟨gs, hk⟩ | ⟨n, g, hk⟩ | ⟨n, g, hk⟩
    · rw [h1] at hk; cases hk; exact h3 rfl
    · rw [h1] at hk; cases hk; exact h2 rfl
    · rw [h1] at hk; cases hk
    · rw [h1] at hk; cases hk
  · rcases hk with ⟨gs, hk⟩ | ⟨gs, hk⟩ | ⟨n', g', hk⟩ | ⟨n', g', hk⟩
    · rw [z] at hk; cases hk
    · rw [z] at hk; cases hk
    · rw [z] at hk; exact h45 (congrArg Prod.fst (Sum.inl.inj hk)).symm
    · rw [z] at hk; have := congrArg (fun q => q.2.2) (Sum.inl.inj hk); cases this
theorem ob_nW {W : Nat → Prop} {y ci : Nat} {fs : List Value} (cs : Nat → Prop) (hW : ∀ a, W a → ∃ cj gs, f a = .inr (cj, gs) ∧ cs cj) (hf : f y = .inr (ci, fs)) (hc : ¬ cs ci) : ¬ W y := fun z => by
  obtain ⟨cj, gs, h1, h2⟩ := hW y z
  rw [h1] at hf
  cases hf
  exact hc h2
theorem ar_nW {W : Nat → Prop} {y : Nat} {x : ClassId × vp_A} (cs : Nat → Prop) (hW : ∀ a, W a → ∃ cj gs, f a = .inr (cj, gs) ∧ cs cj) (hf : f y = .inl x) : ¬ W y := fun z => by
  obtain ⟨cj, gs, h1, h2⟩ := hW y z
  rw [h1] at hf
  cases hf
/-- a new cell -/
theorem cS.nw (h : cS G P f o D C T) (hx : frX G P f P1 f1 (fun _ => False)) (h35 : G.2.1 3 ≠ G.2.1 5) (h45 : G.2.1 4 ≠ G.2.1 5) : cS G P1 f1 o D C T := by
  apply cS.mk
  case ff => exact hx.ob h.ff.1 (fun z => z) h.ff.2
  case mp => exact hx.ob h.mp.1 (fun z => z) h.mp.2
  case kd => exact hx.ai h.kd.1 (fun z => z) h.kd.2
  case ar => exact hx.ob h.ar.1 (fun z => z) h.ar.2
  case al => exact hx.lst _ _ _ _ (fun z => z) h.al
  case lt => exact fun i hi => hx.ob (h.lt i hi).1 (fun z => z) (h.lt i hi).2
  case tl => exact hx.lst _ _ _ _ (fun z => z) h.tl
  case tk => exact fun i hi => hx.ob (h.tk i hi).1 (fun z => z) (h.tk i hi).2
  case va => exact hx.ar h.va.1 (fun z => z) h.va.2 h35
  case vh => exact fun i hi => hx.ob (h.vh i hi).1 (fun z => z) (h.vh i hi).2
  case vl => exact fun u hu => hx.lst _ _ _ _ (fun z => z) (h.vl u hu)
  case mv => exact fun u hu i hi => hx.ob (h.mv u hu i hi).1 (fun z => z) (h.mv u hu i hi).2
  case sa =>
    obtain ⟨h1, g, h2, h3⟩ := h.sa
    exact ⟨hx.sub _ h1, g, (hx.ai h1 (fun z => z) h2).2, h3⟩
  case vj => exact h.vj
  case lj => exact h.lj
  case l0 => exact h.l0
  case tj => exact h.tj
  case cp => exact h.cp
  case lw => exact hx.lw
  case pl =>
    rcases h.pl with z | ⟨z, S, Wy, F, h1, h2⟩
    · exact Or.inl z
    · exact Or.inr ⟨z, S, Wy, F, hx.pl h45 (fun _ z => z.elim) h1, h2⟩
/-- a vehicle's fields -/
theorem cS.veh (h : cS G P f o D C T) {u : Nat} (hx : frX G P f P1 f1 (fun y => y = D 1 u)) (h35 : G.2.1 3 ≠ G.2.1 5) (h45 : G.2.1 4 ≠ G.2.1 5) (hu : u < T.k.N 0) (hv : T'.v = T.v) (hA : ∀ j, crA j = true → j ≠ 23 → j ≠ 24 → j ≠ 25 → j ≠ 26 → j ≠ 28 → T'.A j = T.A j) (hN : T'.k.N = T.k.N) (hq1 : T'.k.q 1 = T.k.q 1) (hce : T'.k.ce = T.k.ce) (htm : T'.k.tm = T.k.tm) (hxo : ∀ x, x ≠ u → vhF D T' x = vhF D T x) (hf : f1 (D 1 u) = .inr (8, vhF D T' u)) : cS G P1 f1 o D C T' := by
  have hW : ∀ a, a = D 1 u → ∃ cj gs, f a = .inr (cj, gs) ∧ cj = 8 := fun a z => ⟨8, _, (congrArg f z).trans (h.vh u hu).2, rfl⟩
  have nb := fun {y ci : Nat} {fs : List Value} (hf : f y = .inr (ci, fs)) (hc : ci ≠ 8) => ob_nW (W := fun y => y = D 1 u) (fun c => c = 8) hW hf hc
  have na := fun {y : Nat} {x : ClassId × vp_A} (hf : f y = .inl x) => ar_nW (W := fun y => y = D 1 u) (fun c => c = 8) hW hf
  have a2 := hA 2 rfl (by decide) (by decide) (by decide) (by decide) (by decide)
  apply cS.mk
  case ff => rw [hv]; exact hx.ob h.ff.1 (nb h.ff.2 (by decide)) h.ff.2
  case mp => exact hx.ob h.mp.1 (nb h.mp.2 (by decide)) h.mp.2
  case kd => rw [a2]; exact hx.ai h.kd.1 (na h.kd.2) h.kd.2
  case ar => exact hx.ob h.ar.1 (nb h.ar.2 (by decide)) h.ar.2
  case al =>
    rw [hN]
    obtain ⟨fs, hc⟩ := h.al.cel
    exact hx.lst _ _ _ _ (nb hc (by decide)) h.al
  case lt =>
    rw [hN, hA 32 rfl (by decide) (by decide) (by decide) (by decide) (by decide), hA 33 rfl (by decide) (by decide) (by decide) (by decide) (by decide), hA 34 rfl (by decide) (by decide) (by decide) (by decide) (by decide)]
    exact fun i hi => hx.ob (h.lt i hi).1 (nb (h.lt i hi).2 (by decide)) (h.lt i hi).2
  case tl =>
    rw [hN]
    obtain ⟨fs, hc⟩ := h.tl.cel
    exact hx.lst _ _ _ _ (nb hc (by decide)) h.tl
  case tk =>
    rw [hN, hA 11 rfl (by decide) (by decide) (by decide) (by decide) (by decide), hA 12 rfl (by decide) (by decide) (by decide) (by decide) (by decide), hA 13 rfl (by decide) (by decide) (by decide) (by decide) (by decide), hA 18 rfl (by decide) (by decide) (by decide) (by decide) (by decide)]
    exact fun i hi => hx.ob (h.tk i hi).1 (nb (h.tk i hi).2 (by decide)) (h.tk i hi).2
  case va => rw [hN]; exact hx.ar h.va.1 (na h.va.2) h.va.2 h35
  case vh =>
    rw [hN]
    intro x hx'
    by_cases e : x = u
    · subst e; exact ⟨hx.sub _ (h.vh x hx').1, hf⟩
    · rw [hxo x e]; exact hx.ob (h.vh x hx').1 (fun z => e (h.vj x u hx' hu z)) (h.vh x hx').2
  case vl =>
    rw [hN, hq1]
    intro x hx'
    obtain ⟨fs, hc⟩ := (h.vl x hx').cel
    exact hx.lst _ _ _ _ (nb hc (by decide)) (h.vl x hx')
  case mv => rw [hN, hq1, hce, htm]; exact fun u hu i hi => hx.ob (h.mv u hu i hi).1 (nb (h.mv u hu i hi).2 (by decide)) (h.mv u hu i hi).2
  case sa =>
    rw [hN, hA 5 rfl (by decide) (by decide) (by decide) (by decide) (by decide)]
    obtain ⟨h1, g, h2, h3⟩ := h.sa
    exact ⟨hx.sub _ h1, g, (hx.ai h1 (na h2) h2).2, h3⟩
  case vj => rw [hN]; exact h.vj
  case lj => rw [hN]; exact h.lj
  case l0 => rw [hN]; exact h.l0
  case tj => rw [hN]; exact h.tj
  case cp => rw [hN, hq1]; exact h.cp
  case lw => exact hx.lw
  case pl =>
    rw [hv, a2]
    rcases h.pl with z | ⟨z, S, Wy, F, h1, h2⟩
    · exact Or.inl z
    · exact Or.inr ⟨z, S, Wy, F, hx.pl h45 (fun a y => ⟨8, _, (congrArg f y).trans (h.vh u hu).2, by decide, by decide⟩) h1, h2⟩
/-- a task's fields -/
theorem cS.tsk (h : cS G P f o D C T) {t : Nat} (hx : frX G P f P1 f1 (fun y => y = D 4 t)) (h35 : G.2.1 3 ≠ G.2.1 5) (h45 : G.2.1 4 ≠ G.2.1 5) (ht : t < T.k.N 2) (hv : T'.v = T.v) (hA : ∀ j, crA j = true → j ≠ 13 → j ≠ 18 → T'.A j = T.A j) (hk : T'.k = T.k) (hxo : ∀ x, x ≠ t → T'.A 13 x = T.A 13 x ∧ T'.A 18 x = T.A 18 x) (hf : f1 (D 4 t) = .inr (7, [.int (T'.A 11 t), .int (T'.A 12 t), .int (T'.A 13 t), .int (T'.A 18 t)])) : cS G P1 f1 o D C T' := by
  have hW : ∀ a, a = D 4 t → ∃ cj gs, f a = .inr (cj, gs) ∧ cj = 7 := fun a z => ⟨7, _, (congrArg f z).trans (h.tk t ht).2, rfl⟩
  have nb := fun {y ci : Nat} {fs : List Value} (hf : f y = .inr (ci, fs)) (hc : ci ≠ 7) => ob_nW (W := fun y => y = D 4 t) (fun c => c = 7) hW hf hc
  have na := fun {y : Nat} {x : ClassId × vp_A} (hf : f y = .inl x) => ar_nW (W := fun y => y = D 4 t) (fun c => c = 7) hW hf
  have a2 := hA 2 rfl (by decide) (by decide)
  apply cS.mk
  case ff => rw [hv]; exact hx.ob h.ff.1 (nb h.ff.2 (by decide)) h.ff.2
  case mp => exact hx.ob h.mp.1 (nb h.mp.2 (by decide)) h.mp.2
  case kd => rw [a2]; exact hx.ai h.kd.1 (na h.kd.2) h.kd.2
  case ar => exact hx.ob h.ar.1 (nb h.ar.2 (by decide)) h.ar.2
  case al =>
    rw [hk]
    obtain ⟨fs, hc⟩ := h.al.cel
    exact hx.lst _ _ _ _ (nb hc (by decide)) h.al
  case lt =>
    rw [hk, hA 32 rfl (by decide) (by decide), hA 33 rfl (by decide) (by decide), hA 34 rfl (by decide) (by decide)]
    exact fun i hi => hx.ob (h.lt i hi).1 (nb (h.lt i hi).2 (by decide)) (h.lt i hi).2
  case tl =>
    rw [hk]
    obtain ⟨fs, hc⟩ := h.tl.cel
    exact hx.lst _ _ _ _ (nb hc (by decide)) h.tl
  case tk =>
    rw [hk]
    intro x hx'
    by_cases e : x = t
    · subst e; exact ⟨hx.sub _ (h.tk x hx').1, hf⟩
    · rw [(hxo x e).1, (hxo x e).2, hA 11 rfl (by decide) (by decide), hA 12 rfl (by decide) (by decide)]
      exact hx.ob (h.tk x hx').1 (fun z => e (h.tj x t hx' ht z)) (h.tk x hx').2
  case va => rw [hk]; exact hx.ar h.va.1 (na h.va.2) h.va.2 h35
  case vh =>
    unfold vhF
    rw [hk, hA 6 rfl (by decide) (by decide), hA 23 rfl (by decide) (by decide), hA 24 rfl (by decide) (by decide), hA 25 rfl (by decide) (by decide), hA 26 rfl (by decide) (by decide), hA 28 rfl (by decide) (by decide)]
    exact fun i hi => hx.ob (h.vh i hi).1 (nb (h.vh i hi).2 (by decide)) (h.vh i hi).2
  case vl =>
    rw [hk]
    intro x hx'
    obtain ⟨fs, hc⟩ := (h.vl x hx').cel
    exact hx.lst _ _ _ _ (nb hc (by decide)) (h.vl x hx')
  case mv => rw [hk]; exact fun u hu i hi => hx.ob (h.mv u hu i hi).1 (nb (h.mv u hu i hi).2 (by decide)) (h.mv u hu i hi).2
  case sa =>
    rw [hk, hA 5 rfl (by decide) (by decide)]
    obtain ⟨h1, g, h2, h3⟩ := h.sa
    exact ⟨hx.sub _ h1, g, (hx.ai h1 (na h2) h2).2, h3⟩
  case vj => rw [hk]; exact h.vj
  case lj => rw [hk]; exact h.lj
  case l0 => rw [hk]; exact h.l0
  case tj => rw [hk]; exact h.tj
  case cp => rw [hk]; exact h.cp
  case lw => exact hx.lw
  case pl =>
    rw [hv, a2]
    rcases h.pl with z | ⟨z, S, Wy, F, h1, h2⟩
    · exact Or.inl z
    · exact Or.inr ⟨z, S, Wy, F, hx.pl h45 (fun a y => ⟨7, _, (congrArg f y).trans (h.tk t ht).2, by decide, by decide⟩) h1, h2⟩
/-- the floor's own numbers -/
theorem cS.own (h : cS G P f o D C T) (hx : frX G P f P1 f1 (fun y => y = o)) (h35 : G.2.1 3 ≠ G.2.1 5) (h45 : G.2.1 4 ≠ G.2.1 5) {v' : Nat → Int32} (hv : v' 1 = T.v 1) (hf : f1 o = .inr (0, ffF D v')) : cS G P1 f1 o D C ⟨v', T.A, T.k⟩ := by
  have hW : ∀ a, a = o → ∃ cj gs, f a = .inr (cj, gs) ∧ cj = 0 := fun a z => ⟨0, _, (congrArg f z).trans h.ff.2, rfl⟩
  have nb := fun {y ci : Nat} {fs : List Value} (hf : f y = .inr (ci, fs)) (hc : ci ≠ 0) => ob_nW (W := fun y => y = o) (fun c => c = 0) hW hf hc
  have na := fun {y : Nat} {x : ClassId × vp_A} (hf : f y = .inl x) => ar_nW (W := fun y => y = o) (fun c => c = 0) hW hf
  apply cS.mk
  case ff => exact ⟨hx.sub _ h.ff.1, hf⟩
  case mp => exact hx.ob h.mp.1 (nb h.mp.2 (by decide)) h.mp.2
  case kd => exact hx.ai h.kd.1 (na h.kd.2) h.kd.2
  case ar => exact hx.ob h.ar.1 (nb h.ar.2 (by decide)) h.ar.2
  case al =>
    obtain ⟨fs, hc⟩ := h.al.cel
    exact hx.lst _ _ _ _ (nb hc (by decide)) h.al
  case lt => exact fun i hi => hx.ob (h.lt i hi).1 (nb (h.lt i hi).2 (by decide)) (h.lt i hi).2
  case tl =>
    obtain ⟨fs, hc⟩ := h.tl.cel
    exact hx.lst _ _ _ _ (nb hc (by decide)) h.tl
  case tk => exact fun i hi => hx.ob (h.tk i hi).1 (nb (h.tk i hi).2 (by decide)) (h.tk i hi).2
  case va => exact hx.ar h.va.1 (na h.va.2) h.va.2 h35
  case vh => exact fun i hi => hx.ob (h.vh i hi).1 (nb (h.vh i hi).2 (by decide)) (h.vh i hi).2
  case vl =>
    intro x hx'
    obtain ⟨fs, hc⟩ := (h.vl x hx').cel
    exact hx.lst _ _ _ _ (nb hc (by decide)) (h.vl x hx')
  case mv => exact fun u hu i hi => hx.ob (h.mv u hu i hi).1 (nb (h.mv u hu i hi).2 (by decide)) (h.mv u hu i hi).2
  case sa =>
    obtain ⟨h1, g, h2, h3⟩ := h.sa
    exact ⟨hx.sub _ h1, g, (hx.ai h1 (na h2) h2).2, h3⟩
  case vj => exact h.vj
  case lj => exact h.lj
  case l0 => exact h.l0
  case tj => exact h.tj
  case cp => exact h.cp
  case lw => exact hx.lw
  case pl =>
    rcases h.pl with z | ⟨z, S, Wy, F, h1, h2⟩
    · exact Or.inl (hv.trans z)
    · exact Or.inr ⟨hv.trans z, S, Wy, F, hx.pl h45 (fun a y => ⟨0, _, (congrArg f y).trans h.ff.2, by decide, by decide⟩) h1, h2⟩
/-- the letters -/
theorem cS.air (h : cS G P f o D C T) (hx : frX G P f P1 f1 (fun y => y = D 0 3)) (h35 : G.2.1 3 ≠ G.2.1 5) (h45 : G.2.1 4 ≠ G.2.1 5) (hv : ∀ j, j ≠ 31 → T'.v j = T.v j) (hA : ∀ j, crA j = true → j ≠ 32 → j ≠ 33 → j ≠ 34 → T'.A j = T.A j) (hN : ∀ j, j ≠ 1 → T'.k.N j = T.k.N j) (hq1 : T'.k.q 1 = T.k.q 1) (hce : T'.k.ce = T.k.ce) (htm : T'.k.tm = T.k.tm) (hX : T'.k.X = T.k.X) {c0 : Nat} {g1 : Nat → Nat} (hc0 : c0 ≤ 130) (hl : lsS G P1 f1 (D 0 3) c0 (T'.k.N 1) g1) (hlt : ∀ i, i < T'.k.N 1 → g1 i ∈ P1 ∧ f1 (g1 i) = .inr (5, [.int (T'.A 32 i), .int (T'.A 33 i), .int (T'.A 34 i)])) : cS G P1 f1 o (va_up D 3 g1) (va_up C 0 c0) T' := by
  obtain ⟨fs0, hal⟩ := h.al.cel
  have hW : ∀ a, a = D 0 3 → ∃ cj gs, f a = .inr (cj, gs) ∧ cj = 3 := fun a z => ⟨3, _, (congrArg f z).trans hal, rfl⟩
  have nb := fun {y ci : Nat} {fs : List Value} (hf : f y = .inr (ci, fs)) (hc : ci ≠ 3) => ob_nW (W := fun y => y = D 0 3) (fun c => c = 3) hW hf hc
  have na := fun {y : Nat} {x : ClassId × vp_A} (hf : f y = .inl x) => ar_nW (W := fun y => y = D 0 3) (fun c => c = 3) hW hf
  have a2 := hA 2 rfl (by decide) (by decide) (by decide)
  have d := fun j (hj : j ≠ 3) => va_up_ne D g1 hj
  have dv : ∀ u : Nat, va_up D 3 g1 (10 + u) = D (10 + u) := fun u => va_up_ne _ _ (by omega)
  have cv : ∀ u : Nat, va_up C 0 c0 (10 + u) = C (10 + u) := fun u => va_up_ne _ _ (by omega)
  apply cS.mk
  case ff =>
    unfold ffF
    rw [d 0 (by decide), hv 1 (by decide), hv 10 (by decide), hv 30 (by decide), hv 29 (by decide)]
    exact hx.ob h.ff.1 (nb h.ff.2 (by decide)) h.ff.2
  case mp => rw [d 0 (by decide)]; exact hx.ob h.mp.1 (nb h.mp.2 (by decide)) h.mp.2
  case kd => rw [d 0 (by decide), a2]; exact hx.ai h.kd.1 (na h.kd.2) h.kd.2
  case ar => rw [d 0 (by decide)]; exact hx.ob h.ar.1 (nb h.ar.2 (by decide)) h.ar.2
  case al => rw [d 0 (by decide), va_up_self, va_up_self]; exact hl
  case lt => rw [va_up_self]; exact hlt
  case tl => rw [d 0 (by decide), d 4 (by decide), va_up_ne _ _ (by decide), hN 2 (by decide)]; exact hx.lst _ _ _ _ (fun z => h.l0.1 z.symm) h.tl
  case tk =>
    rw [d 4 (by decide), hN 2 (by decide), hA 11 rfl (by decide) (by decide) (by decide), hA 12 rfl (by decide) (by decide) (by decide), hA 13 rfl (by decide) (by decide) (by decide), hA 18 rfl (by decide) (by decide) (by decide)]
    exact fun i hi => hx.ob (h.tk i hi).1 (nb (h.tk i hi).2 (by decide)) (h.tk i hi).2
  case va => rw [d 0 (by decide), d 1 (by decide), hN 0 (by decide)]; exact hx.ar h.va.1 (na h.va.2) h.va.2 h35
  case vh =>
    unfold vhF
    rw [d 1 (by decide), d 2 (by decide), hN 0 (by decide), hX, hA 6 rfl (by decide) (by decide) (by decide), hA 23 rfl (by decide) (by decide) (by decide), hA 24 rfl (by decide) (by decide) (by decide), hA 25 rfl (by decide) (by decide) (by decide), hA 26 rfl (by decide) (by decide) (by decide), hA 28 rfl (by decide) (by decide) (by decide)]
    exact fun i hi => hx.ob (h.vh i hi).1 (nb (h.vh i hi).2 (by decide)) (h.vh i hi).2
  case vl =>
    rw [d 2 (by decide), hN 0 (by decide), hq1]
    intro x hx'
    rw [dv, cv]
    exact hx.lst _ _ _ _ (h.l0.2 x hx').1 (h.vl x hx')
  case mv =>
    rw [hN 0 (by decide), hq1, hce, htm]
    intro u hu i hi
    rw [dv]
    exact hx.ob (h.mv u hu i hi).1 (nb (h.mv u hu i hi).2 (by decide)) (h.mv u hu i hi).2
  case sa =>
    rw [d 0 (by decide), hN 3 (by decide), hA 5 rfl (by decide) (by decide) (by decide)]
    obtain ⟨h1, g, h2, h3⟩ := h.sa
    exact ⟨hx.sub _ h1, g, (hx.ai h1 (na h2) h2).2, h3⟩
  case vj => rw [d 1 (by decide), hN 0 (by decide)]; exact h.vj
  case lj => rw [d 2 (by decide), hN 0 (by decide)]; exact h.lj
  case l0 => rw [d 0 (by decide), d 2 (by decide), hN 0 (by decide)]; exact h.l0
  case tj => rw [d 4 (by decide), hN 2 (by decide)]; exact h.tj
  case cp =>
    rw [va_up_self, va_up_ne _ _ (by decide), hN 0 (by decide), hq1]
    exact ⟨hc0, h.cp.2.1, fun u hu => by rw [cv]; exact h.cp.2.2 u hu⟩
  case lw => exact hx.lw
  case pl =>
    rw [hv 1 (by decide), a2, d 0 (by decide), d 5 (by decide), d 6 (by decide)]
    rcases h.pl with z | ⟨z, S, Wy, F, h1, h2⟩
    · exact Or.inl z
    · exact Or.inr ⟨z, S, Wy, F, hx.pl h45 (fun a y => ⟨3, _, (congrArg f y).trans hal, by decide, by decide⟩) h1, h2⟩
end CS
section CS
variable {G : GG} {P P1 : List Nat} {f f1 : Nat → va_E} {W : Nat → Prop} {o : Nat} {D : Nat → Nat → Nat} {C : Nat → Nat} {T T' : TS}
theorem kp_x (hs : ∀ y, y ∈ P → y ∈ P1) (hk : ∀ y, y ∈ P → f1 y = f y) (hw : lsW G P1 f1) : frX G P f P1 f1 (fun _ => False) :=
  ⟨hs, fun y hy _ _ => hk y hy, fun b cap n g _ hl => hl.keep hs (hk b hl.1) (fun a ha _ => hk a ha), hw⟩
/-- a task comes to the tasks -/
theorem cS.tad (h : cS G P f o D C T) (hx : frX G P f P1 f1 (fun y => y = D 0 4)) (h35 : G.2.1 3 ≠ G.2.1 5) (h45 : G.2.1 4 ≠ G.2.1 5) (hv : ∀ j, j ≠ 9 → T'.v j = T.v j) (hA : ∀ j, crA j = true → j ≠ 11 → j ≠ 12 → j ≠ 13 → j ≠ 18 → T'.A j = T.A j) (hN2 : T'.k.N 2 = T.k.N 2 + 1) (hN : ∀ j, j ≠ 2 → T'.k.N j = T.k.N j) (hq1 : T'.k.q 1 = T.k.q 1) (hce : T'.k.ce = T.k.ce) (htm : T'.k.tm = T.k.tm) (hX : T'.k.X = T.k.X) {c1 y : Nat} (hc1 : c1 ≤ 58) (hl : lsS G P1 f1 (D 0 4) c1 (T.k.N 2 + 1) (va_up (D 4) (T.k.N 2) y)) (ho : ∀ t, t < T.k.N 2 → T'.A 11 t = T.A 11 t ∧ T'.A 12 t = T.A 12 t ∧ T'.A 13 t = T.A 13 t ∧ T'.A 18 t = T.A 18 t) (hy : y ∈ P1 ∧ f1 y = .inr (7, [.int (T'.A 11 (T.k.N 2)), .int (T'.A 12 (T.k.N 2)), .int (T'.A 13 (T.k.N 2)), .int (T'.A 18 (T.k.N 2))])) (hyn : ∀ t, t < T.k.N 2 → D 4 t ≠ y) : cS G P1 f1 o (va_up D 4 (va_up (D 4) (T.k.N 2) y)) (va_up C 1 c1) T' := by
  obtain ⟨fs0, hal⟩ := h.tl.cel
  have hW : ∀ a, a = D 0 4 → ∃ cj gs, f a = .inr (cj, gs) ∧ cj = 3 := fun a z => ⟨3, _, (congrArg f z).trans hal, rfl⟩
  have nb := fun {y ci : Nat} {fs : List Value} (hf : f y = .inr (ci, fs)) (hc : ci ≠ 3) => ob_nW (W := fun y => y = D 0 4) (fun c => c = 3) hW hf hc
  have na := fun {y : Nat} {x : ClassId × vp_A} (hf : f y = .inl x) => ar_nW (W := fun y => y = D 0 4) (fun c => c = 3) hW hf
  have a2 := hA 2 rfl (by decide) (by decide) (by decide) (by decide)
  have d := fun j (hj : j ≠ 4) => va_up_ne D (va_up (D 4) (T.k.N 2) y) hj
  have dv : ∀ u : Nat, va_up D 4 (va_up (D 4) (T.k.N 2) y) (10 + u) = D (10 + u) := fun u => va_up_ne _ _ (by omega)
  have cv : ∀ u : Nat, va_up C 1 c1 (10 + u) = C (10 + u) := fun u => va_up_ne _ _ (by omega)
  apply cS.mk
  case ff =>
    unfold ffF
    rw [d 0 (by decide), hv 1 (by decide), hv 10 (by decide), hv 30 (by decide), hv 29 (by decide)]
    exact hx.ob h.ff.1 (nb h.ff.2 (by decide)) h.ff.2
  case mp => rw [d 0 (by decide)]; exact hx.ob h.mp.1 (nb h.mp.2 (by decide)) h.mp.2
  case kd => rw [d 0 (by decide), a2]; exact hx.ai h.kd.1 (na h.kd.2) h.kd.2
  case ar => rw [d 0 (by decide)]; exact hx.ob h.ar.1 (nb h.ar.2 (by decide)) h.ar.2
  case al => rw [d 0 (by decide), d 3 (by decide), va_up_ne _ _ (by decide), hN 1 (by decide)]; exact hx.lst _ _ _ _ (fun z => h.l0.1 z) h.al
  case lt =>
    rw [d 3 (by decide), hN 1 (by decide), hA 32 rfl (by decide) (by decide) (by decide) (by decide), hA 33 rfl (by decide) (by decide) (by decide) (by decide), hA 34 rfl (by decide) (by decide) (by decide) (by decide)]
    exact fun i hi => hx.ob (h.lt i hi).1 (nb (h.lt i hi).2 (by decide)) (h.lt i hi).2
  case tl => rw [d 0 (by decide), va_up_self, va_up_self, hN2]; exact hl
  case tk =>
    rw [va_up_self, hN2]
    intro t ht
    by_cases e : t = T.k.N 2
    · subst e; rw [va_up_self]; exact hy
    · rw [va_up_ne _ _ e, (ho t (by omega)).1, (ho t (by omega)).2.1, (ho t (by omega)).2.2.1, (ho t (by omega)).2.2.2]
      exact hx.ob (h.tk t (by omega)).1 (nb (h.tk t (by omega)).2 (by decide)) (h.tk t (by omega)).2
  case va => rw [d 0 (by decide), d 1 (by decide), hN 0 (by decide)]; exact hx.ar h.va.1 (na h.va.2) h.va.2 h35
  case vh =>
    unfold vhF
    rw [d 1 (by decide), d 2 (by decide), hN 0 (by decide), hX, hA 6 rfl (by decide) (by decide) (by decide) (by decide), hA 23 rfl (by decide) (by decide) (by decide) (by decide), hA 24 rfl (by decide) (by decide) (by decide) (by decide), hA 25 rfl (by decide) (by decide) (by decide) (by decide), hA 26 rfl (by decide) (by decide) (by decide) (by decide), hA 28 rfl (by decide) (by decide) (by decide) (by decide)]
    exact fun i hi => hx.ob (h.vh i hi).1 (nb (h.vh i hi).2 (by decide)) (h.vh i hi).2
  case vl =>
    rw [d 2 (by decide), hN 0 (by decide), hq1]
    intro x hx'
    rw [dv, cv]
    exact hx.lst _ _ _ _ (h.l0.2 x hx').2 (h.vl x hx')
  case mv =>
    rw [hN 0 (by decide), hq1, hce, htm]
    intro u hu i hi
    rw [dv]
    exact hx.ob (h.mv u hu i hi).1 (nb (h.mv u hu i hi).2 (by decide)) (h.mv u hu i hi).2
  case sa =>
    rw [d 0 (by decide), hN 3 (by decide), hA 5 rfl (by decide) (by decide) (by decide) (by decide)]
    obtain ⟨h1, g, h2, h3⟩ := h.sa
    exact ⟨hx.sub _ h1, g, (hx.ai h1 (na h2) h2).2, h3⟩
  case vj => rw [d 1 (by decide), hN 0 (by decide)]; exact h.vj
  case lj => rw [d 2 (by decide), hN 0 (by decide)]; exact h.lj
  case l0 => rw [d 0 (by decide), d 2 (by decide), hN 0 (by decide)]; exact h.l0
  case tj =>
    rw [va_up_self, hN2]
    intro s t hs ht
    by_cases e1 : s = T.k.N 2
    · by_cases e2 : t = T.k.N 2
      · intro _; omega
      · rw [e1, va_up_self, va_up_ne _ _ e2]; intro z; exact absurd z.symm (hyn t (by omega))
    · by_cases e2 : t = T.k.N 2
      · rw [e2, va_up_self, va_up_ne _ _ e1]; intro z; exact absurd z (hyn s (by omega))
      · rw [va_up_ne _ _ e1, va_up_ne _ _ e2]; exact h.tj s t (by omega) (by omega)
  case cp =>
    rw [va_up_self, va_up_ne _ _ (by decide), hN 0 (by decide), hq1]
    exact ⟨h.cp.1, hc1, fun u hu => by rw [cv]; exact h.cp.2.2 u hu⟩
  case lw => exact hx.lw
  case pl =>
    rw [hv 1 (by decide), a2, d 0 (by decide), d 5 (by decide), d 6 (by decide)]
    rcases h.pl with z | ⟨z, S, Wy, F, h1, h2⟩
    · exact Or.inl z
    · exact Or.inr ⟨z, S, Wy, F, hx.pl h45 (fun a y => ⟨3, _, (congrArg f y).trans hal, by decide, by decide⟩) h1, h2⟩
/-- the planner's memory moves -/
theorem cS.fnd (h : cS G P f o D C T) (h35 : G.2.1 3 ≠ G.2.1 5) (hv : T.v 1 = 1) (hs : T.k.N 3 ≤ 96) {S S' : Nat → Nat → Bool} {Wy F Wy' F' : Nat → Int32} (h0 : pS G (D 0 7) (D 0 5) (D 5) (D 6) P f f S Wy F) (h1 : pS G (D 0 7) (D 0 5) (D 5) (D 6) P f f1 S' Wy' F') (hS : ∀ k, k < 96 → (S' 0 k = true ↔ (T.A 2 k = 1 ∨ T.A 2 k = 2))) : cS G P f1 o D C T := by
  have hx := h1.x h0 h.lw
  have nb : ∀ {y ci : Nat} {fs : List Value}, f y = .inr (ci, fs) → ci ≠ 4 → ci ≠ 9 → ¬ (y = D 0 7 ∨ y = D 5 3 ∨ ∃ i, i < 762 ∧ y = D 6 i) := by
    rintro y ci fs hf h4 h9 (z | z | ⟨i, hi, z⟩)
    · rw [z, h0.2.2.1.1] at hf; cases hf; exact h9 rfl
    · rw [z, h0.2.2.1.2.2.2.2] at hf; cases hf
    · obtain ⟨u, w, hc, -⟩ := h0.2.2.2.1 i hi
      rw [z, hc] at hf; cases hf; exact h4 rfl
  have na : ∀ {y n : Nat} {g : Nat → Int32}, f y = .inl (G.2.1 0, n, .inl g) → n ≠ 151 → ¬ (y = D 0 7 ∨ y = D 5 3 ∨ ∃ i, i < 762 ∧ y = D 6 i) := by
    rintro y n g hf hn (z | z | ⟨i, hi, z⟩)
    · rw [z, h0.2.2.1.1] at hf; cases hf
    · rw [z, h0.2.2.1.2.2.2.2] at hf
      have := congrArg (fun q => q.2.1) (Sum.inl.inj hf)
      exact hn this.symm
    · obtain ⟨u, w, hc, -⟩ := h0.2.2.2.1 i hi
      rw [z, hc] at hf; cases hf
  have nr : ∀ {y t n : Nat} {g : Nat → Option Nat}, f y = arR G t n g → ¬ (y = D 0 7 ∨ y = D 5 3 ∨ ∃ i, i < 762 ∧ y = D 6 i) := by
    rintro y t n g hf (z | z | ⟨i, hi, z⟩)
    · rw [z, h0.2.2.1.1] at hf; cases hf
    · rw [z, h0.2.2.1.2.2.2.2] at hf
      have := congrArg (fun q => q.2.2) (Sum.inl.inj hf)
      cases this
    · obtain ⟨u, w, hc, -⟩ := h0.2.2.2.1 i hi
      rw [z, hc] at hf; cases hf
  apply cS.mk
  case ff => exact hx.ob h.ff.1 (nb h.ff.2 (by decide) (by decide)) h.ff.2
  case mp => exact hx.ob h.mp.1 (nb h.mp.2 (by decide) (by decide)) h.mp.2
  case kd => exact hx.ai h.kd.1 (na h.kd.2 (by decide)) h.kd.2
  case ar => exact hx.ob h.ar.1 (nb h.ar.2 (by decide) (by decide)) h.ar.2
  case al =>
    obtain ⟨fs, hc⟩ := h.al.cel
    exact hx.lst _ _ _ _ (nb hc (by decide) (by decide)) h.al
  case lt => exact fun i hi => hx.ob (h.lt i hi).1 (nb (h.lt i hi).2 (by decide) (by decide)) (h.lt i hi).2
  case tl =>
    obtain ⟨fs, hc⟩ := h.tl.cel
    exact hx.lst _ _ _ _ (nb hc (by decide) (by decide)) h.tl
  case tk => exact fun i hi => hx.ob (h.tk i hi).1 (nb (h.tk i hi).2 (by decide) (by decide)) (h.tk i hi).2
  case va => exact hx.ar h.va.1 (nr h.va.2) h.va.2 h35
  case vh => exact fun i hi => hx.ob (h.vh i hi).1 (nb (h.vh i hi).2 (by decide) (by decide)) (h.vh i hi).2
  case vl =>
    intro x hx'
    obtain ⟨fs, hc⟩ := (h.vl x hx').cel
    exact hx.lst _ _ _ _ (nb hc (by decide) (by decide)) (h.vl x hx')
  case mv => exact fun u hu i hi => hx.ob (h.mv u hu i hi).1 (nb (h.mv u hu i hi).2 (by decide) (by decide)) (h.mv u hu i hi).2
  case sa =>
    obtain ⟨h1, g, h2, h3⟩ := h.sa
    exact ⟨hx.sub _ h1, g, (hx.ai h1 (na h2 (by omega)) h2).2, h3⟩
  case vj => exact h.vj
  case lj => exact h.lj
  case l0 => exact h.l0
  case tj => exact h.tj
  case cp => exact h.cp
  case lw => exact hx.lw
  case pl => exact Or.inr ⟨hv, S', Wy', F', h1.self, hS⟩
/-- a vehicle's moves grow -/
theorem cS.app (h : cS G P f o D C T) {u : Nat} (hx : frX G P f P1 f1 (fun y => y = D 1 u ∨ y = D 2 u)) (h35 : G.2.1 3 ≠ G.2.1 5) (hu : u < T.k.N 0) (hv : T'.v = T.v) (hA : T'.A = T.A) (hN0 : T'.k.N 0 = T.k.N 0) (hN1 : T'.k.N 1 = T.k.N 1) (hN2 : T'.k.N 2 = T.k.N 2) (hN3 : T'.k.N 3 = T.k.N 3) (hxo : ∀ x, x ≠ u → vhF D T' x = vhF D T x) (hf : f1 (D 1 u) = .inr (8, vhF D T' u)) (ho : ∀ x, x ≠ u → T'.k.q 1 x = T.k.q 1 x ∧ T'.k.ce x = T.k.ce x ∧ T'.k.tm x = T.k.tm x) {c1 : Nat} {g1 : Nat → Nat} (hc1 : c1 ≤ 2 * T'.k.q 1 u + 10) (hl : lsS G P1 f1 (D 2 u) c1 (T'.k.q 1 u) g1) (hm : ∀ i, i < T'.k.q 1 u → g1 i ∈ P1 ∧ f1 (g1 i) = .inr (6, [.int (nI (T'.k.ce u i)), .int (nI (T'.k.tm u i))])) (hp : T.v 1 = 1) {S : Nat → Nat → Bool} {Wy F : Nat → Int32} (h1 : pS G (D 0 7) (D 0 5) (D 5) (D 6) P1 f1 f1 S Wy F) (hS : ∀ k, k < 96 → (S 0 k = true ↔ (T.A 2 k = 1 ∨ T.A 2 k = 2))) : cS G P1 f1 o (va_up D (10 + u) g1) (va_up C (10 + u) c1) T' := by
  obtain ⟨fs0, hal⟩ := (h.vl u hu).cel
  have hW : ∀ a, (a = D 1 u ∨ a = D 2 u) → ∃ cj gs, f a = .inr (cj, gs) ∧ (cj = 8 ∨ cj = 3) := by
    rintro a (z | z)
    · exact ⟨8, _, (congrArg f z).trans (h.vh u hu).2, Or.inl rfl⟩
    · exact ⟨3, _, (congrArg f z).trans hal, Or.inr rfl⟩
  have nb := fun {y ci : Nat} {fs : List Value} (hf : f y = .inr (ci, fs)) (hc : ¬ (ci = 8 ∨ ci = 3)) => ob_nW (W := fun y => y = D 1 u ∨ y = D 2 u) (fun c => c = 8 ∨ c = 3) hW hf hc
  have na := fun {y : Nat} {x : ClassId × vp_A} (hf : f y = .inl x) => ar_nW (W := fun y => y = D 1 u ∨ y = D 2 u) (fun c => c = 8 ∨ c = 3) hW hf
  have nl : ∀ {b cap n : Nat} {g : Nat → Nat}, lsS G P f b cap n g → b ≠ D 2 u → ¬ (b = D 1 u ∨ b = D 2 u) := by
    rintro b cap n g hl hb (z | z)
    · obtain ⟨fs, hc⟩ := hl.cel
      rw [z, (h.vh u hu).2] at hc; cases hc
    · exact hb z
  have d := fun j (hj : j < 10) => va_up_ne D g1 (show j ≠ 10 + u by omega)
  have cc := fun j (hj : j < 10) => va_up_ne C c1 (show j ≠ 10 + u by omega)
  have vhe : ∀ x, vhF (va_up D (10 + u) g1) T' x = vhF D T' x := fun x => by unfold vhF; rw [d 2 (by decide)]
  apply cS.mk
  case ff => unfold ffF; rw [hv, d 0 (by decide)]; exact hx.ob h.ff.1 (nb h.ff.2 (by decide)) h.ff.2
  case mp => rw [d 0 (by decide)]; exact hx.ob h.mp.1 (nb h.mp.2 (by decide)) h.mp.2
  case kd => rw [d 0 (by decide), hA]; exact hx.ai h.kd.1 (na h.kd.2) h.kd.2
  case ar => rw [d 0 (by decide)]; exact hx.ob h.ar.1 (nb h.ar.2 (by decide)) h.ar.2
  case al => rw [d 0 (by decide), d 3 (by decide), cc 0 (by decide), hN1]; exact hx.lst _ _ _ _ (nl h.al (Ne.symm (h.l0.2 u hu).1)) h.al
  case lt => rw [d 3 (by decide), hN1, hA]; exact fun i hi => hx.ob (h.lt i hi).1 (nb (h.lt i hi).2 (by decide)) (h.lt i hi).2
  case tl => rw [d 0 (by decide), d 4 (by decide), cc 1 (by decide), hN2]; exact hx.lst _ _ _ _ (nl h.tl (Ne.symm (h.l0.2 u hu).2)) h.tl
  case tk => rw [d 4 (by decide), hN2, hA]; exact fun i hi => hx.ob (h.tk i hi).1 (nb (h.tk i hi).2 (by decide)) (h.tk i hi).2
  case va => rw [d 0 (by decide), d 1 (by decide), hN0]; exact hx.ar h.va.1 (na h.va.2) h.va.2 h35
  case vh =>
    rw [hN0, d 1 (by decide)]
    intro x hx'
    rw [vhe]
    by_cases e : x = u
    · subst e; exact ⟨hx.sub _ (h.vh x hx').1, hf⟩
    · rw [hxo x e]
      refine hx.ob (h.vh x hx').1 ?_ (h.vh x hx').2
      rintro (z | z)
      · exact e (h.vj x u hx' hu z)
      · have hc := (h.vh x hx').2
        rw [z, hal] at hc; cases hc
  case vl =>
    rw [hN0, d 2 (by decide)]
    intro x hx'
    by_cases e : x = u
    · subst e; rw [va_up_self, va_up_self]; exact hl
    · rw [va_up_ne _ _ (by omega), va_up_ne _ _ (by omega), (ho x e).1]
      exact hx.lst _ _ _ _ (nl (h.vl x hx') (fun z => e (h.lj x u hx' hu z))) (h.vl x hx')
  case mv =>
    rw [hN0]
    intro x hx'
    by_cases e : x = u
    · subst e; rw [va_up_self]; exact hm
    · rw [va_up_ne _ _ (by omega), (ho x e).1, (ho x e).2.1, (ho x e).2.2]
      exact fun i hi => hx.ob (h.mv x hx' i hi).1 (nb (h.mv x hx' i hi).2 (by decide)) (h.mv x hx' i hi).2
  case sa =>
    rw [d 0 (by decide), hN3, hA]
    obtain ⟨h1, g, h2, h3⟩ := h.sa
    exact ⟨hx.sub _ h1, g, (hx.ai h1 (na h2) h2).2, h3⟩
  case vj => rw [d 1 (by decide), hN0]; exact h.vj
  case lj => rw [d 2 (by decide), hN0]; exact h.lj
  case l0 => rw [d 0 (by decide), d 2 (by decide), hN0]; exact h.l0
  case tj => rw [d 4 (by decide), hN2]; exact h.tj
  case cp =>
    rw [cc 0 (by decide), cc 1 (by decide), hN0]
    refine ⟨h.cp.1, h.cp.2.1, fun x hx' => ?_⟩
    by_cases e : x = u
    · subst e; rw [va_up_self]; exact hc1
    · rw [va_up_ne _ _ (by omega), (ho x e).1]; exact h.cp.2.2 x hx'
  case lw => exact hx.lw
  case pl => rw [hv, hA, d 0 (by decide), d 5 (by decide), d 6 (by decide)]; exact Or.inr ⟨hp, S, Wy, F, h1, hS⟩
/-- a cell's kind -/
theorem cS.map (h : cS G P f o D C T) (h35 : G.2.1 3 ≠ G.2.1 5) (hv : T.v 1 = 0) (hN0 : T.k.N 3 = 0) {K : Nat → Int32} (hf : f1 = va_up f (D 0 1) (.inl (G.2.1 0, 96, .inl K))) : cS G P f1 o D C ⟨T.v, va_up T.A 2 K, T.k⟩ := by
  have no : ∀ {y ci : Nat} {fs : List Value}, f y = .inr (ci, fs) → f1 y = .inr (ci, fs) := fun {y ci fs} hy => by rw [hf, va_up_ne _ _ (ar_ne h.kd.2 hy).symm]; exact hy
  have n5 : ∀ {y t n : Nat} {g : Nat → Option Nat}, f y = arR G t n g → f1 y = arR G t n g := fun {y t n g} hy => by
    rw [hf, va_up_ne _ _ (fun z => ?_)]; exact hy
    rw [z, h.kd.2] at hy
    have := congrArg (fun q => q.2.2) (Sum.inl.inj hy)
    cases this
  have nl : ∀ {b cap n : Nat} {g : Nat → Nat}, lsS G P f b cap n g → lsS G P f1 b cap n g := fun {b cap n g} hl => by
    obtain ⟨fs, hc⟩ := hl.cel
    exact hl.keep (fun _ h => h) ((no hc).trans hc.symm) (fun a _ ⟨n, hh, ha⟩ => (n5 ha).trans ha.symm)
  apply cS.mk
  case ff => exact ⟨h.ff.1, no h.ff.2⟩
  case mp => exact ⟨h.mp.1, no h.mp.2⟩
  case kd => exact ⟨h.kd.1, by rw [hf, va_up_self]; rfl⟩
  case ar => exact ⟨h.ar.1, no h.ar.2⟩
  case al => exact nl h.al
  case lt => exact fun i hi => ⟨(h.lt i hi).1, no (h.lt i hi).2⟩
  case tl => exact nl h.tl
  case tk => exact fun i hi => ⟨(h.tk i hi).1, no (h.tk i hi).2⟩
  case va => exact ⟨h.va.1, n5 h.va.2⟩
  case vh => exact fun i hi => ⟨(h.vh i hi).1, no (h.vh i hi).2⟩
  case vl => exact fun u hu => nl (h.vl u hu)
  case mv => exact fun u hu i hi => ⟨(h.mv u hu i hi).1, no (h.mv u hu i hi).2⟩
  case sa =>
    obtain ⟨h1, g, h2, h3⟩ := h.sa
    refine ⟨h1, g, ?_, h3⟩
    rw [hf, va_up_ne _ _ (fun z => ?_)]; exact h2
    rw [z, h.kd.2] at h2
    have := congrArg (fun q => q.2.1) (Sum.inl.inj h2)
    simp only at this
    omega
  case vj => exact h.vj
  case lj => exact h.lj
  case l0 => exact h.l0
  case tj => exact h.tj
  case cp => exact h.cp
  case lw =>
    have back : ∀ b fs, f1 b = .inr (3, fs) → f b = .inr (3, fs) := by
      intro b fs hb
      rw [hf] at hb
      by_cases e : b = D 0 1
      · rw [e, va_up_self] at hb; cases hb
      · rw [va_up_ne _ _ e] at hb; exact hb
    exact ⟨fun b1 b2 dd n1 n2 m1 m2 hb1 hb2 h1 h2 hd => h.lw.1 b1 b2 dd n1 n2 m1 m2 hb1 hb2 (back _ _ h1) (back _ _ h2) hd, fun a dd n m ha h1 => h.lw.2 a dd n m ha (back _ _ h1)⟩
  case pl => exact Or.inl hv
end CS
