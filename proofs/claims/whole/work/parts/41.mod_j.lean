theorem gz_congr {v v1 : Nat → Int32} {A A1 : Nat → Nat → Int32} {B B1 : Nat → Nat → Int64} (h38 : v1 38 = v 38) (h2 : A1 2 = A 2) (h6 : A1 6 = A 6) (h35 : B1 35 = B 35) (h36 : B1 36 = B 36) (c w k : Nat) : gz v1 A1 B1 c w k = gz v A B c w k := by
  unfold gz bad isOt
  rw [h38, h2, h6, h35, h36]
theorem dnN_congr {A A1 : Nat → Nat → Int32} (h11 : A1 11 = A 11) (h12 : A1 12 = A 12) (t d g : Nat) : dnN A1 t d g = dnN A t d g := by
  unfold dnN
  rw [h11, h12]
theorem okW_congr {v v1 : Nat → Int32} {A A1 : Nat → Nat → Int32} {B : Nat → Nat → Int64} (h38 : v1 38 = v 38) (h2 : A1 2 = A 2) (h6 : A1 6 = A 6) (h11 : A1 11 = A 11) (h12 : A1 12 = A 12) (t r g c : Nat) : okW v1 A1 B t r g c = okW v A B t r g c := by
  funext w
  unfold okW
  simp only [gz_congr h38 h2 h6 rfl rfl, dnN_congr h11 h12]
theorem RR_congr {v v1 : Nat → Int32} {A A1 : Nat → Nat → Int32} {B B1 : Nat → Nat → Int64} {t home : Nat} (h38 : v1 38 = v 38) (h2 : A1 2 = A 2) (h6 : A1 6 = A 6) (h11 : A1 11 = A 11) (h12 : A1 12 = A 12) (h35 : B1 35 = B 35) (h36 : B1 36 = B 36) : ∀ r g c, RR v1 A1 B1 t home r g c ↔ RR v A B t home r g c := by
  intro r
  induction r with
  | zero => intro g c; exact Iff.rfl
  | succ r ih =>
    intro g c
    unfold RR
    simp only [gz_congr h38 h2 h6 h35 h36, dnN_congr h11 h12, ih]
theorem NN_congr {v v1 : Nat → Int32} {A A1 : Nat → Nat → Int32} {B B1 : Nat → Nat → Int64} {t home e : Nat} (h38 : v1 38 = v 38) (h2 : A1 2 = A 2) (h6 : A1 6 = A 6) (h11 : A1 11 = A 11) (h12 : A1 12 = A 12) (h35 : B1 35 = B 35) (h36 : B1 36 = B 36) : ∀ k g c, NN v1 A1 B1 t home e k g c ↔ NN v A B t home e k g c := by
  intro k
  induction k with
  | zero => intro g c; exact Iff.rfl
  | succ k ih =>
    intro g c
    unfold NN
    simp only [gz_congr h38 h2 h6 h35 h36, dnN_congr h11 h12, ih, RR_congr h38 h2 h6 h11 h12 h35 h36]
theorem tk_step {v : Nat → Int32} {A : Nat → Nat → Int32} {B : Nat → Nat → Int64} {t home e r g c : Nat} (hM : nwM (RR v A B t home) (NN v A B t home e) e 0 (B 37)) (hr : r < e) (hg : g < 3) (hc : c < 96) (hN : NN v A B t home e (e - r) g c) : ∃ w d, lwF (okW v A B t r g c) 5 0 = some w ∧ w < 5 ∧ nbq c w = some d ∧ d < 96 ∧ NN v A B t home e (e - (r + 1)) (dnN A t d g) d := by
  have hb : ∀ g2 d, g2 < 3 → d < 96 → (bt (B 37) (3 * r + 3 + g2) d ↔ NN v A B t home e (e - (r + 1)) g2 d) := by
    intro g2 d h1 h2
    have := hM (r + 1) g2 d (by omega) h1 h2
    rw [show 3 * (r + 1) + g2 = 3 * r + 3 + g2 by omega] at this
    rw [this]
    exact ⟨fun z => z.elim (fun z => by omega) (fun z => z.2), fun z => Or.inr ⟨by omega, z⟩⟩
  rw [show e - r = (e - (r + 1)) + 1 by omega] at hN
  obtain ⟨_, w0, d0, h1, h2, h3⟩ := hN
  rw [show e - (e - (r + 1)) = r + 1 by omega] at h2
  have ok0 : okW v A B t r g c w0 := ⟨d0, h2, (hb _ _ (dnN_le hg) (gz_lt hc h1 h2)).mpr h3⟩
  cases hl : lwF (okW v A B t r g c) 5 0 with
  | none => exact absurd ok0 ((lwF_spec 5 0).2 hl w0 (Nat.zero_le _) (by omega))
  | some w =>
    obtain ⟨⟨d, q1, q2⟩, _, q3, _⟩ := (lwF_spec 5 0).1 w hl
    have hw : w < 5 := by omega
    have hd := gz_lt hc hw q1
    refine ⟨w, d, rfl, hw, ?_, hd, (hb _ _ (dnN_le hg) hd).mp q2⟩
    cases e1 : nbq c w with
    | none => rw [gz_0 e1] at q1; cases q1
    | some d2 =>
      by_cases q : bad v A B d2 w (r + 1)
      · rw [gz_none e1 q] at q1; cases q1
      · rw [gz_some e1 q] at q1; exact q1
/-- one move of the plan is written down -/
def tkA (v : Nat → Int32) (A : Nat → Nat → Int32) (t r d g g2 : Nat) : Nat → Nat → Int32 :=
  let A1 := if g < 2 ∧ g2 = 2 then va_up A 17 (upd (A 17) t (A 16 t + v 19 - A 14 t)) else A
  let A2 := va_up A1 20 (upd (A1 20) (ix (v 19)) (nI d))
  va_up A2 21 (upd (A2 21) (ix (v 19)) (v 29 + nI r + 1))
/-- the plan's steps: W says which way is taken -/
def tkL (W : Nat → Nat → Nat → Option Nat) (D : Nat → Nat → Nat) (t : Nat) : Nat → Nat → Nat → Nat → (Nat → Int32) → (Nat → Nat → Int32) → (Nat → Int32) × (Nat → Nat → Int32)
  | 0, _, _, _, v, A => (v, A)
  | n + 1, r, g, c, v, A =>
    let w := (W r g c).getD 4
    let d := (nbq c w).getD c
    let g2 := D d g
    if w = 4 then tkL W D t n (r + 1) g2 d v A else tkL W D t n (r + 1) g2 d (upd v 19 (v 19 + 1)) (tkA v A t r d g g2)
theorem tkL_stay {W : Nat → Nat → Nat → Option Nat} {D : Nat → Nat → Nat} {t n r g c d : Nat} {v : Nat → Int32} {A : Nat → Nat → Int32} (h : W r g c = some 4) (hd : nbq c 4 = some d) : tkL W D t (n + 1) r g c v A = tkL W D t n (r + 1) (D d g) d v A := by
  rw [tkL]
  simp only [h, Option.getD_some, hd, if_true]
theorem tkL_go {W : Nat → Nat → Nat → Option Nat} {D : Nat → Nat → Nat} {t n r g c w d : Nat} {v : Nat → Int32} {A : Nat → Nat → Int32} (h : W r g c = some w) (hw : w ≠ 4) (hd : nbq c w = some d) : tkL W D t (n + 1) r g c v A = tkL W D t n (r + 1) (D d g) d (upd v 19 (v 19 + 1)) (tkA v A t r d g (D d g)) := by
  rw [tkL]
  simp only [h, Option.getD_some, hd, if_neg hw]
noncomputable abbrev wyF (v : Nat → Int32) (A : Nat → Nat → Int32) (B : Nat → Nat → Int64) (t : Nat) : Nat → Nat → Nat → Option Nat := fun r g c => lwF (okW v A B t r g c) 5 0
/-- before the steps: whose plan it is, where its rows begin -/
def tkB (v : Nat → Int32) (A : Nat → Nat → Int32) (t pu : Nat) : Nat → Nat → Int32 :=
  let A1 := va_up A 13 (upd (A 13) t (v 38))
  let A2 := va_up A1 14 (upd (A1 14) t (v 19))
  va_up A2 16 (upd (A2 16) t (A2 27 pu))
noncomputable def tkM (v : Nat → Int32) (A : Nat → Nat → Int32) (B : Nat → Nat → Int64) (t pu home e : Nat) : (Nat → Int32) × (Nat → Nat → Int32) := tkL (wyF v A B t) (fun d g => dnN A t d g) t e 0 0 home v (tkB v A t pu)
/-- behind the steps -/
def tkE (q : (Nat → Int32) × (Nat → Nat → Int32)) (t pu : Nat) : Nat → Nat → Int32 :=
  let A1 := va_up q.2 15 (upd (q.2 15) t (q.1 19 - q.2 14 t))
  let A2 := va_up A1 27 (upd (A1 27) pu (A1 27 pu + A1 15 t))
  va_up A2 28 (upd (A2 28) pu (nI t))
theorem nbq_4 (c : Nat) : nbq c 4 = some c := rfl
theorem tkA_keep {v : Nat → Int32} {A : Nat → Nat → Int32} {t r d g g2 k : Nat} (h17 : k ≠ 17) (h20 : k ≠ 20) (h21 : k ≠ 21) : tkA v A t r d g g2 k = A k := by
  unfold tkA
  rw [va_up_ne _ _ h21, va_up_ne _ _ h20]
  split
  · rw [va_up_ne _ _ h17]
  · rfl
set_option maxHeartbeats 4000000 in
set_option maxRecDepth 100000 in
theorem k_Mod_take (l : Launch) (G : GG) (o : Nat) (r : Nat → Nat) (v : Nat → Int32) (A : Nat → Nat → Int32) (B : Nat → Nat → Int64) (t0 e0 : Nat) {pu home ro0 : Nat} (ht : t0 < 24) (he : e0 ≤ 150) (h38 : v 38 = nI pu) (hpu : pu < 6) (hhome : A 6 pu = nI home) (hh : home < 96) (h19 : v 19 = nI ro0) (hro0 : ro0 + e0 ≤ 3600) (hM0 : nwM (RR v A B t0 home) (NN v A B t0 home e0) e0 0 (B 37)) (hN0 : NN v A B t0 home e0 e0 0 home) : mct l G y_Mod_take c_Mod_take 8 none 3 72 [.ref o, .int (nI t0), .int (nI e0)] o r v A B (fun x v1 A1 B1 => x = none ∧ v1 = upd (tkM v A B t0 pu home e0).1 10 ((tkM v A B t0 pu home e0).1 10 + 1) ∧ A1 = tkE (tkM v A B t0 pu home e0) t0 pu ∧ B1 = B) := by
  refine mct_intro (by decide) [some (.ref o), some (.int (nI t0)), some (.int (nI e0)), none, none, none, none, none] rfl rfl (Nat.le_of_ble_eq_true rfl) ?_
  intro p e s m below meth c ls P f C hr hlk hE hM hm hl
  refine lv_aload_n C.1 C.2.1 d_Mod_take_0 rfl (lo_at hl 0 rfl) ?_
  refine md_get C hE hM hm 6 (Nat.le_of_ble_eq_true rfl) tw_788 rfl rfl d_Mod_take_1 ?_
  refine lv_aload_n C.1 C.2.1 d_Mod_take_4 rfl (lo_at hl 0 rfl) ?_
  refine md_get C hE hM hm 38 (Nat.le_of_ble_eq_true rfl) tw_820 rfl rfl d_Mod_take_5 ?_
  refine md_ialdN C hE hM hm 6 rfl pu h38 (show pu < 96 by omega) d_Mod_take_8 ?_
  rw [hhome]
  refine lo_istore_n C hl d_Mod_take_9 (Nat.le_of_ble_eq_true rfl) rfl (fun ls hl => ?_)
  refine lv_iconst (v := 0) C.1 C.2.1 d_Mod_take_10 (by decide) ?_
  refine lo_istore C hl d_Mod_take_11 (Nat.le_of_ble_eq_true rfl) rfl (fun ls hl => ?_)
  refine lv_aload_n C.1 C.2.1 d_Mod_take_13 rfl (lo_at hl 0 rfl) ?_
  refine md_get C hE hM hm 13 (Nat.le_of_ble_eq_true rfl) tw_795 rfl rfl d_Mod_take_14 ?_
  refine lv_iload_n C.1 C.2.1 d_Mod_take_17 rfl (lo_at hl 1 rfl) ?_
  refine lv_aload_n C.1 C.2.1 d_Mod_take_18 rfl (lo_at hl 0 rfl) ?_
  refine md_get C hE hM hm 38 (Nat.le_of_ble_eq_true rfl) tw_820 rfl rfl d_Mod_take_19 ?_
  refine md_iastN C hE hM hm 13 rfl t0 rfl (show t0 < 24 by omega) d_Mod_take_22 (fun f1 H1 locs1 hM hm => ?_)
  refine lv_aload_n C.1 C.2.1 d_Mod_take_23 rfl (lo_at hl 0 rfl) ?_
  refine md_get C hE hM hm 14 (Nat.le_of_ble_eq_true rfl) tw_796 rfl rfl d_Mod_take_24 ?_
  refine lv_iload_n C.1 C.2.1 d_Mod_take_27 rfl (lo_at hl 1 rfl) ?_
  refine lv_aload_n C.1 C.2.1 d_Mod_take_28 rfl (lo_at hl 0 rfl) ?_
  refine md_get C hE hM hm 19 (Nat.le_of_ble_eq_true rfl) tw_801 rfl rfl d_Mod_take_29 ?_
  refine md_iastN C hE hM hm 14 rfl t0 rfl (show t0 < 24 by omega) d_Mod_take_32 (fun f1 H1 locs1 hM hm => ?_)
  refine lv_aload_n C.1 C.2.1 d_Mod_take_33 rfl (lo_at hl 0 rfl) ?_
  refine md_get C hE hM hm 16 (Nat.le_of_ble_eq_true rfl) tw_798 rfl rfl d_Mod_take_34 ?_
  refine lv_iload_n C.1 C.2.1 d_Mod_take_37 rfl (lo_at hl 1 rfl) ?_
  refine lv_aload_n C.1 C.2.1 d_Mod_take_38 rfl (lo_at hl 0 rfl) ?_
  refine md_get C hE hM hm 27 (Nat.le_of_ble_eq_true rfl) tw_809 rfl rfl d_Mod_take_39 ?_
  refine lv_aload_n C.1 C.2.1 d_Mod_take_42 rfl (lo_at hl 0 rfl) ?_
  refine md_get C hE hM hm 38 (Nat.le_of_ble_eq_true rfl) tw_820 rfl rfl d_Mod_take_43 ?_
  refine md_ialdN C hE hM hm 27 rfl pu h38 (show pu < 6 by omega) d_Mod_take_46 ?_
  refine md_iastN C hE hM hm 16 rfl t0 rfl (show t0 < 24 by omega) d_Mod_take_47 (fun f1 H1 locs1 hM hm => ?_)
  refine lv_iconst (v := 0) C.1 C.2.1 d_Mod_take_48 (by decide) ?_
  refine lo_istore C hl d_Mod_take_49 (Nat.le_of_ble_eq_true rfl) rfl (fun ls hl => ?_)
  refine W.loop (α := (Nat) × (Nat) × (Nat) × (Nat) × (Nat → Int32) × (Nat → Nat → Int32) × (Array Slot) × (Heap) × (List Loc) × (Nat → va_E)) (fun a => e0 - a.1) (fun a => (a.1 ≤ e0) ∧ (a.2.1 < 3) ∧ (a.2.2.1 < 96) ∧ (NN v A B t0 home e0 (e0 - a.1) a.2.1 a.2.2.1) ∧ (a.2.2.2.2.1 19 = nI a.2.2.2.1) ∧ (a.2.2.2.1 + (e0 - a.1) ≤ 3600) ∧ (a.2.2.2.2.1 38 = nI pu) ∧ (a.2.2.2.2.1 38 = v 38) ∧ (a.2.2.2.2.2.1 2 = A 2) ∧ (a.2.2.2.2.2.1 6 = A 6) ∧ (a.2.2.2.2.2.1 11 = A 11) ∧ (a.2.2.2.2.2.1 12 = A 12) ∧ (tkL (wyF v A B t0) (fun d g => dnN A t0 d g) t0 (e0 - a.1) a.1 a.2.1 a.2.2.1 a.2.2.2.2.1 a.2.2.2.2.2.1 = tkM v A B t0 pu home e0) ∧ lo a.2.2.2.2.2.2.1 [some (.ref o), some (.int (nI t0)), some (.int (nI e0)), some (.int (nI a.2.2.1)), some (.int (nI a.2.1)), some (.int (nI a.1)), none, none] ∧ pgS G (pgA P s.heap.size) s.heap P a.2.2.2.2.2.2.2.2.2 a.2.2.2.2.2.2.2.1 a.2.2.2.2.2.2.2.2.1 ∧ mdS G o r P f a.2.2.2.2.2.2.2.2.2 (a.2.2.2.2.1) (a.2.2.2.2.2.1) (B)) (fun a => a.2.2.2.2.2.2.2.1) (fun a => a.2.2.2.2.2.2.2.2.1) (fun _ => 0) (fun _ => 0) (fun a => F0 m 51 a.2.2.2.2.2.2.1 []) ?_ (0, 0, home, ro0, v, tkB v A t0 pu, ls, H1, locs1, f1) ⟨Nat.zero_le _, Nat.le_of_ble_eq_true rfl, hh, hN0, h19, hro0, h38, rfl, rfl, rfl, rfl, rfl, rfl, lo_weak hl ⟨rfl, rfl, rfl, rfl, rfl, rfl, trivial⟩, hM, hm⟩
  rintro ⟨r0, g0, c0, ro, v1, A1, ls, H1, locs1, f1⟩ ⟨hr0, hg, hc, hNN, h19, hro, h38, hv38, hA2, hA6, hA11, hA12, hval, hl, hM, hm⟩ ih51
  dsimp only at hr0 hg hc hNN h19 hro h38 hv38 hA2 hA6 hA11 hA12 hval hl hM hm
  show W _ _ _ _ _ _ _ _ _ _ _ _ _ _ _ (F0 m 51 ls [])
  refine lv_iload C.1 C.2.1 d_Mod_take_51 (lo_at hl 5 rfl) ?_
  refine lv_iload_n C.1 C.2.1 d_Mod_take_53 rfl (lo_at hl 2 rfl) ?_
  refine lv_icmp_ge (tgt := 179) C.1 C.2.1 d_Mod_take_54 (by decide) (fun hc54 => ?_) (fun hc54 => ?_)
  · have hr9 : r0 = e0 := Nat.le_antisymm hr0 (nI_leN (by omega) (by omega) hc54)
    refine lv_aload_n C.1 C.2.1 d_Mod_take_179 rfl (lo_at hl 0 rfl) ?_
    refine md_get C hE hM hm 15 (Nat.le_of_ble_eq_true rfl) tw_797 rfl rfl d_Mod_take_180 ?_
    refine lv_iload_n C.1 C.2.1 d_Mod_take_183 rfl (lo_at hl 1 rfl) ?_
    refine lv_aload_n C.1 C.2.1 d_Mod_take_184 rfl (lo_at hl 0 rfl) ?_
    refine md_get C hE hM hm 19 (Nat.le_of_ble_eq_true rfl) tw_801 rfl rfl d_Mod_take_185 ?_
    refine lv_aload_n C.1 C.2.1 d_Mod_take_188 rfl (lo_at hl 0 rfl) ?_
    refine md_get C hE hM hm 14 (Nat.le_of_ble_eq_true rfl) tw_796 rfl rfl d_Mod_take_189 ?_
    refine lv_iload_n C.1 C.2.1 d_Mod_take_192 rfl (lo_at hl 1 rfl) ?_
    refine md_ialdN C hE hM hm 14 rfl t0 rfl (show t0 < 24 by omega) d_Mod_take_193 ?_
    refine lv_isub C.1 C.2.1 d_Mod_take_194 ?_
    refine md_iastN C hE hM hm 15 rfl t0 rfl (show t0 < 24 by omega) d_Mod_take_195 (fun f1 H1 locs1 hM hm => ?_)
    refine lv_aload_n C.1 C.2.1 d_Mod_take_196 rfl (lo_at hl 0 rfl) ?_
    refine md_get C hE hM hm 27 (Nat.le_of_ble_eq_true rfl) tw_809 rfl rfl d_Mod_take_197 ?_
    refine lv_aload_n C.1 C.2.1 d_Mod_take_200 rfl (lo_at hl 0 rfl) ?_
    refine md_get C hE hM hm 38 (Nat.le_of_ble_eq_true rfl) tw_820 rfl rfl d_Mod_take_201 ?_
    refine lv_dup2_11 C.1 C.2.1 d_Mod_take_204 rfl rfl ?_
    refine md_ialdN C hE hM hm 27 rfl pu h38 (show pu < 6 by omega) d_Mod_take_205 ?_
    refine lv_aload_n C.1 C.2.1 d_Mod_take_206 rfl (lo_at hl 0 rfl) ?_
    refine md_get C hE hM hm 15 (Nat.le_of_ble_eq_true rfl) tw_797 rfl rfl d_Mod_take_207 ?_
    refine lv_iload_n C.1 C.2.1 d_Mod_take_210 rfl (lo_at hl 1 rfl) ?_
    refine md_ialdN C hE hM hm 15 rfl t0 rfl (show t0 < 24 by omega) d_Mod_take_211 ?_
    refine lv_iadd C.1 C.2.1 d_Mod_take_212 ?_
    refine md_iastN C hE hM hm 27 rfl pu h38 (show pu < 6 by omega) d_Mod_take_213 (fun f1 H1 locs1 hM hm => ?_)
    refine lv_aload_n C.1 C.2.1 d_Mod_take_214 rfl (lo_at hl 0 rfl) ?_
    refine md_get C hE hM hm 28 (Nat.le_of_ble_eq_true rfl) tw_810 rfl rfl d_Mod_take_215 ?_
    refine lv_aload_n C.1 C.2.1 d_Mod_take_218 rfl (lo_at hl 0 rfl) ?_
    refine md_get C hE hM hm 38 (Nat.le_of_ble_eq_true rfl) tw_820 rfl rfl d_Mod_take_219 ?_
    refine lv_iload_n C.1 C.2.1 d_Mod_take_222 rfl (lo_at hl 1 rfl) ?_
    refine md_iastN C hE hM hm 28 rfl pu h38 (show pu < 6 by omega) d_Mod_take_223 (fun f1 H1 locs1 hM hm => ?_)
    refine lv_aload_n C.1 C.2.1 d_Mod_take_224 rfl (lo_at hl 0 rfl) ?_
    refine lv_dup C.1 C.2.1 d_Mod_take_225 rfl ?_
    refine md_get C hE hM hm 10 (Nat.le_of_ble_eq_true rfl) tw_792 rfl rfl d_Mod_take_226 ?_
    refine lv_iconst (v := 1) C.1 C.2.1 d_Mod_take_229 (by decide) ?_
    refine lv_iadd C.1 C.2.1 d_Mod_take_230 ?_
    refine md_put C hE hM hm 10 (Nat.le_of_ble_eq_true rfl) tw_792 rfl rfl rfl rfl rfl d_Mod_take_231 (fun f1 H1 locs1 hM hm => ?_)
    refine md_vret C hr hlk hM hm d_Mod_take_234 ?_
    have hfin : tkM v A B t0 pu home e0 = (v1, A1) := by rw [← hval, show e0 - r0 = 0 by omega]; rfl
    refine ⟨rfl, ?_, ?_, rfl⟩ <;> rw [hfin] <;> rfl
  · have hr9 : r0 < e0 := nI_ltN (by omega) (by omega) hc54
    obtain ⟨w, d, hlw, hw5, hnb, hd, hNd⟩ := tk_step hM0 hr9 hg hc hNN
    have hdn := dnN_le (A := A) (t := t0) (d := d) hg
    refine lv_aload_n C.1 C.2.1 d_Mod_take_57 rfl (lo_at hl 0 rfl) ?_
    refine lv_iload_n C.1 C.2.1 d_Mod_take_58 rfl (lo_at hl 1 rfl) ?_
    refine lv_iload C.1 C.2.1 d_Mod_take_59 (lo_at hl 5 rfl) ?_
    refine lv_iload C.1 C.2.1 d_Mod_take_61 (lo_at hl 4 rfl) ?_
    refine lv_iload_n C.1 C.2.1 d_Mod_take_63 rfl (lo_at hl 3 rfl) ?_
    refine md_callV C hE hM hm (k_Mod_lowest l G o r v1 A1 B t0 r0 g0 c0 (pu := pu) ht (by omega) hg hc h38 hpu) rfl tw_1036 cy_Mod_lowest ⟨(Nat.le_of_ble_eq_true rfl), (Nat.le_of_ble_eq_true rfl)⟩ rfl hl.1 rfl (Nat.le_of_ble_eq_true rfl) ⟨Nat.zero_le _, Nat.zero_le _⟩ d_Mod_take_64 (fun x9 f1 H1 locs1 v9 A9 B9 hp hM hm => ?_)
    obtain ⟨hx9, hv9, hA9, hB9⟩ := hp
    subst hx9
    rw [hv9, hA9, hB9] at hm
    rw [okW_congr hv38 hA2 hA6 hA11 hA12, hlw, on_some]
    refine W.eq (g2 := F0 m 67 ls (_ :: _)) rfl ?_
    refine lo_istore C hl d_Mod_take_67 (Nat.le_of_ble_eq_true rfl) rfl (fun ls hl => ?_)
    refine lv_iload_n C.1 C.2.1 d_Mod_take_69 rfl (lo_at hl 3 rfl) ?_
    refine lv_iload C.1 C.2.1 d_Mod_take_70 (lo_at hl 6 rfl) ?_
    refine md_callS C hE hM hm (k_Mod_neighbour l G o r _ _ _ _ _) tw_927 cy_Mod_neighbour ⟨(Nat.le_of_ble_eq_true rfl), (Nat.le_of_ble_eq_true rfl)⟩ rfl hl.1 rfl (Nat.le_of_ble_eq_true rfl) ⟨Nat.zero_le _, Nat.zero_le _⟩ d_Mod_take_72 (fun x9 f1 H1 locs1 v9 A9 B9 hp hM hm => ?_)
    obtain ⟨hx9, hv9, hA9, hB9⟩ := hp
    subst hx9
    rw [hv9, hA9, hB9] at hm
    rw [nb_on hc hw5, hnb, on_some]
    refine W.eq (g2 := F0 m 75 ls (_ :: _)) rfl ?_
    refine lo_istore_n C hl d_Mod_take_75 (Nat.le_of_ble_eq_true rfl) rfl (fun ls hl => ?_)
    refine lv_iload C.1 C.2.1 d_Mod_take_76 (lo_at hl 4 rfl) ?_
    refine lo_istore C hl d_Mod_take_78 (Nat.le_of_ble_eq_true rfl) rfl (fun ls hl => ?_)
    refine lv_aload_n C.1 C.2.1 d_Mod_take_80 rfl (lo_at hl 0 rfl) ?_
    refine lv_iload_n C.1 C.2.1 d_Mod_take_81 rfl (lo_at hl 1 rfl) ?_
    refine lv_iload_n C.1 C.2.1 d_Mod_take_82 rfl (lo_at hl 3 rfl) ?_
    refine lv_iload C.1 C.2.1 d_Mod_take_83 (lo_at hl 4 rfl) ?_
    refine md_callV C hE hM hm (k_Mod_doneAt l G o r _ _ _ _ _ _ (vp_in_nI ht (by decide))) rfl tw_1028 cy_Mod_doneAt ⟨(Nat.le_of_ble_eq_true rfl), (Nat.le_of_ble_eq_true rfl)⟩ rfl hl.1 rfl (Nat.le_of_ble_eq_true rfl) ⟨Nat.zero_le _, Nat.zero_le _⟩ d_Mod_take_85 (fun x9 f1 H1 locs1 v9 A9 B9 hp hM hm => ?_)
    obtain ⟨hx9, hv9, hA9, hB9⟩ := hp
    subst hx9
    rw [hv9, hA9, hB9] at hm
    rw [dnA_N ht hg, dnN_congr hA11 hA12]
    refine W.eq (g2 := F0 m 88 ls (_ :: _)) rfl ?_
    refine lo_istore C hl d_Mod_take_88 (Nat.le_of_ble_eq_true rfl) rfl (fun ls hl => ?_)
    refine lv_iload C.1 C.2.1 d_Mod_take_90 (lo_at hl 6 rfl) ?_
    refine lv_iconst (v := 4) C.1 C.2.1 d_Mod_take_92 (by decide) ?_
    refine lv_icmp_ne (tgt := 99) C.1 C.2.1 d_Mod_take_93 (by decide) (fun hc93 => ?_) (fun hc93 => ?_)
    · refine lv_iload C.1 C.2.1 d_Mod_take_99 (lo_at hl 7 rfl) ?_
      refine lv_iconst (v := 2) C.1 C.2.1 d_Mod_take_101 (by decide) ?_
      refine lv_icmp_ge (tgt := 135) C.1 C.2.1 d_Mod_take_102 (by decide) (fun hc102 => ?_) (fun hc102 => ?_)
      · refine lv_aload_n C.1 C.2.1 d_Mod_take_135 rfl (lo_at hl 0 rfl) ?_
        refine md_get C hE hM hm 20 (Nat.le_of_ble_eq_true rfl) tw_802 rfl rfl d_Mod_take_136 ?_
        refine lv_aload_n C.1 C.2.1 d_Mod_take_139 rfl (lo_at hl 0 rfl) ?_
        refine md_get C hE hM hm 19 (Nat.le_of_ble_eq_true rfl) tw_801 rfl rfl d_Mod_take_140 ?_
        refine lv_iload_n C.1 C.2.1 d_Mod_take_143 rfl (lo_at hl 3 rfl) ?_
        refine md_iast C hE hM hm 20 rfl (by rw [h19]; exact vp_in_nI (show ro < 3600 by omega) (by decide)) d_Mod_take_144 (fun f1 H1 locs1 hM hm => ?_)
        refine lv_aload_n C.1 C.2.1 d_Mod_take_145 rfl (lo_at hl 0 rfl) ?_
        refine md_get C hE hM hm 21 (Nat.le_of_ble_eq_true rfl) tw_803 rfl rfl d_Mod_take_146 ?_
        refine lv_aload_n C.1 C.2.1 d_Mod_take_149 rfl (lo_at hl 0 rfl) ?_
        refine md_get C hE hM hm 19 (Nat.le_of_ble_eq_true rfl) tw_801 rfl rfl d_Mod_take_150 ?_
        refine lv_aload_n C.1 C.2.1 d_Mod_take_153 rfl (lo_at hl 0 rfl) ?_
        refine md_get C hE hM hm 29 (Nat.le_of_ble_eq_true rfl) tw_811 rfl rfl d_Mod_take_154 ?_
        refine lv_iload C.1 C.2.1 d_Mod_take_157 (lo_at hl 5 rfl) ?_
        refine lv_iadd C.1 C.2.1 d_Mod_take_159 ?_
        refine lv_iconst (v := 1) C.1 C.2.1 d_Mod_take_160 (by decide) ?_
        refine lv_iadd C.1 C.2.1 d_Mod_take_161 ?_
        refine md_iast C hE hM hm 21 rfl (by rw [h19]; exact vp_in_nI (show ro < 3600 by omega) (by decide)) d_Mod_take_162 (fun f1 H1 locs1 hM hm => ?_)
        refine lv_aload_n C.1 C.2.1 d_Mod_take_163 rfl (lo_at hl 0 rfl) ?_
        refine lv_dup C.1 C.2.1 d_Mod_take_164 rfl ?_
        refine md_get C hE hM hm 19 (Nat.le_of_ble_eq_true rfl) tw_801 rfl rfl d_Mod_take_165 ?_
        refine lv_iconst (v := 1) C.1 C.2.1 d_Mod_take_168 (by decide) ?_
        refine lv_iadd C.1 C.2.1 d_Mod_take_169 ?_
        refine md_put C hE hM hm 19 (Nat.le_of_ble_eq_true rfl) tw_801 rfl rfl rfl rfl rfl d_Mod_take_170 (fun f1 H1 locs1 hM hm => ?_)
        refine lo_iinc C hl d_Mod_take_173 rfl rfl (fun ls hl => ?_)
        refine lv_goto (tgt := 51) C.1 C.2.1 d_Mod_take_176 (by decide) ?_
        have hw4 : w ≠ 4 := fun z => hc93 (by rw [z]; rfl)
        have hcase : ¬ (g0 < 2 ∧ dnN A t0 d g0 = 2) := fun z => absurd z.1 (by have := nI_leN (a := 2) (b := g0) (by decide) (by omega) hc102; omega)
        rw [show va_up (va_up A1 20 (upd (A1 20) (v1 19).toNatClampNeg (nI d))) 21 (upd (va_up A1 20 (upd (A1 20) (v1 19).toNatClampNeg (nI d)) 21) (v1 19).toNatClampNeg (v1 29 + nI r0 + 1)) = tkA v1 A1 t0 r0 d g0 (dnN A t0 d g0) from by rw [tkA, if_neg hcase]] at hm
        have hval2 : tkL (wyF v A B t0) (fun d g => dnN A t0 d g) t0 (e0 - (r0 + 1)) (r0 + 1) (dnN A t0 d g0) d (upd v1 19 (v1 19 + 1)) (tkA v1 A1 t0 r0 d g0 (dnN A t0 d g0)) = tkM v A B t0 pu home e0 := by rw [← hval, show e0 - r0 = (e0 - (r0 + 1)) + 1 by omega, tkL_go hlw hw4 hnb]
        have h9 := hl
        rw [nI_pl] at h9
        exact ih51 (r0 + 1, dnN A t0 d g0, d, ro + 1, upd v1 19 (v1 19 + 1), tkA v1 A1 t0 r0 d g0 (dnN A t0 d g0), ls, H1, locs1, f1) ⟨by (try dsimp only); omega, hdn, hd, hNd, (by show v1 19 + 1 = _; rw [h19, nI_1]), by (try dsimp only); omega, h38, hv38, ((tkA_keep (v := v1) (A := A1) (t := t0) (r := r0) (d := d) (g := g0) (g2 := dnN A t0 d g0) (k := 2) (by decide) (by decide) (by decide)).trans hA2), ((tkA_keep (v := v1) (A := A1) (t := t0) (r := r0) (d := d) (g := g0) (g2 := dnN A t0 d g0) (k := 6) (by decide) (by decide) (by decide)).trans hA6), ((tkA_keep (v := v1) (A := A1) (t := t0) (r := r0) (d := d) (g := g0) (g2 := dnN A t0 d g0) (k := 11) (by decide) (by decide) (by decide)).trans hA11), ((tkA_keep (v := v1) (A := A1) (t := t0) (r := r0) (d := d) (g := g0) (g2 := dnN A t0 d g0) (k := 12) (by decide) (by decide) (by decide)).trans hA12), hval2, lo_weak h9 ⟨rfl, rfl, rfl, rfl, rfl, rfl, trivial⟩, hM, hm⟩ (by show e0 - (r0 + 1) < e0 - r0; omega)
      · refine lv_iload C.1 C.2.1 d_Mod_take_105 (lo_at hl 4 rfl) ?_
        refine lv_iconst (v := 2) C.1 C.2.1 d_Mod_take_107 (by decide) ?_
        refine lv_icmp_ne (tgt := 135) C.1 C.2.1 d_Mod_take_108 (by decide) (fun hc108 => ?_) (fun hc108 => ?_)
        · refine lv_aload_n C.1 C.2.1 d_Mod_take_135 rfl (lo_at hl 0 rfl) ?_
          refine md_get C hE hM hm 20 (Nat.le_of_ble_eq_true rfl) tw_802 rfl rfl d_Mod_take_136 ?_
          refine lv_aload_n C.1 C.2.1 d_Mod_take_139 rfl (lo_at hl 0 rfl) ?_
          refine md_get C hE hM hm 19 (Nat.le_of_ble_eq_true rfl) tw_801 rfl rfl d_Mod_take_140 ?_
          refine lv_iload_n C.1 C.2.1 d_Mod_take_143 rfl (lo_at hl 3 rfl) ?_
          refine md_iast C hE hM hm 20 rfl (by rw [h19]; exact vp_in_nI (show ro < 3600 by omega) (by decide)) d_Mod_take_144 (fun f1 H1 locs1 hM hm => ?_)
          refine lv_aload_n C.1 C.2.1 d_Mod_take_145 rfl (lo_at hl 0 rfl) ?_
          refine md_get C hE hM hm 21 (Nat.le_of_ble_eq_true rfl) tw_803 rfl rfl d_Mod_take_146 ?_
          refine lv_aload_n C.1 C.2.1 d_Mod_take_149 rfl (lo_at hl 0 rfl) ?_
          refine md_get C hE hM hm 19 (Nat.le_of_ble_eq_true rfl) tw_801 rfl rfl d_Mod_take_150 ?_
          refine lv_aload_n C.1 C.2.1 d_Mod_take_153 rfl (lo_at hl 0 rfl) ?_
          refine md_get C hE hM hm 29 (Nat.le_of_ble_eq_true rfl) tw_811 rfl rfl d_Mod_take_154 ?_
          refine lv_iload C.1 C.2.1 d_Mod_take_157 (lo_at hl 5 rfl) ?_
          refine lv_iadd C.1 C.2.1 d_Mod_take_159 ?_
          refine lv_iconst (v := 1) C.1 C.2.1 d_Mod_take_160 (by decide) ?_
          refine lv_iadd C.1 C.2.1 d_Mod_take_161 ?_
          refine md_iast C hE hM hm 21 rfl (by rw [h19]; exact vp_in_nI (show ro < 3600 by omega) (by decide)) d_Mod_take_162 (fun f1 H1 locs1 hM hm => ?_)
          refine lv_aload_n C.1 C.2.1 d_Mod_take_163 rfl (lo_at hl 0 rfl) ?_
          refine lv_dup C.1 C.2.1 d_Mod_take_164 rfl ?_
          refine md_get C hE hM hm 19 (Nat.le_of_ble_eq_true rfl) tw_801 rfl rfl d_Mod_take_165 ?_
          refine lv_iconst (v := 1) C.1 C.2.1 d_Mod_take_168 (by decide) ?_
          refine lv_iadd C.1 C.2.1 d_Mod_take_169 ?_
          refine md_put C hE hM hm 19 (Nat.le_of_ble_eq_true rfl) tw_801 rfl rfl rfl rfl rfl d_Mod_take_170 (fun f1 H1 locs1 hM hm => ?_)
          refine lo_iinc C hl d_Mod_take_173 rfl rfl (fun ls hl => ?_)
          refine lv_goto (tgt := 51) C.1 C.2.1 d_Mod_take_176 (by decide) ?_
          have hw4 : w ≠ 4 := fun z => hc93 (by rw [z]; rfl)
          have hcase : ¬ (g0 < 2 ∧ dnN A t0 d g0 = 2) := fun z => hc108 (by rw [z.2]; rfl)
          rw [show va_up (va_up A1 20 (upd (A1 20) (v1 19).toNatClampNeg (nI d))) 21 (upd (va_up A1 20 (upd (A1 20) (v1 19).toNatClampNeg (nI d)) 21) (v1 19).toNatClampNeg (v1 29 + nI r0 + 1)) = tkA v1 A1 t0 r0 d g0 (dnN A t0 d g0) from by rw [tkA, if_neg hcase]] at hm
          have hval2 : tkL (wyF v A B t0) (fun d g => dnN A t0 d g) t0 (e0 - (r0 + 1)) (r0 + 1) (dnN A t0 d g0) d (upd v1 19 (v1 19 + 1)) (tkA v1 A1 t0 r0 d g0 (dnN A t0 d g0)) = tkM v A B t0 pu home e0 := by rw [← hval, show e0 - r0 = (e0 - (r0 + 1)) + 1 by omega, tkL_go hlw hw4 hnb]
          have h9 := hl
          rw [nI_pl] at h9
          exact ih51 (r0 + 1, dnN A t0 d g0, d, ro + 1, upd v1 19 (v1 19 + 1), tkA v1 A1 t0 r0 d g0 (dnN A t0 d g0), ls, H1, locs1, f1) ⟨by (try dsimp only); omega, hdn, hd, hNd, (by show v1 19 + 1 = _; rw [h19, nI_1]), by (try dsimp only); omega, h38, hv38, ((tkA_keep (v := v1) (A := A1) (t := t0) (r := r0) (d := d) (g := g0) (g2 := dnN A t0 d g0) (k := 2) (by decide) (by decide) (by decide)).trans hA2), ((tkA_keep (v := v1) (A := A1) (t := t0) (r := r0) (d := d) (g := g0) (g2 := dnN A t0 d g0) (k := 6) (by decide) (by decide) (by decide)).trans hA6), ((tkA_keep (v := v1) (A := A1) (t := t0) (r := r0) (d := d) (g := g0) (g2 := dnN A t0 d g0) (k := 11) (by decide) (by decide) (by decide)).trans hA11), ((tkA_keep (v := v1) (A := A1) (t := t0) (r := r0) (d := d) (g := g0) (g2 := dnN A t0 d g0) (k := 12) (by decide) (by decide) (by decide)).trans hA12), hval2, lo_weak h9 ⟨rfl, rfl, rfl, rfl, rfl, rfl, trivial⟩, hM, hm⟩ (by show e0 - (r0 + 1) < e0 - r0; omega)
        · refine lv_aload_n C.1 C.2.1 d_Mod_take_111 rfl (lo_at hl 0 rfl) ?_
          refine md_get C hE hM hm 17 (Nat.le_of_ble_eq_true rfl) tw_799 rfl rfl d_Mod_take_112 ?_
          refine lv_iload_n C.1 C.2.1 d_Mod_take_115 rfl (lo_at hl 1 rfl) ?_
          refine lv_aload_n C.1 C.2.1 d_Mod_take_116 rfl (lo_at hl 0 rfl) ?_
          refine md_get C hE hM hm 16 (Nat.le_of_ble_eq_true rfl) tw_798 rfl rfl d_Mod_take_117 ?_
          refine lv_iload_n C.1 C.2.1 d_Mod_take_120 rfl (lo_at hl 1 rfl) ?_
          refine md_ialdN C hE hM hm 16 rfl t0 rfl (show t0 < 24 by omega) d_Mod_take_121 ?_
          refine lv_aload_n C.1 C.2.1 d_Mod_take_122 rfl (lo_at hl 0 rfl) ?_
          refine md_get C hE hM hm 19 (Nat.le_of_ble_eq_true rfl) tw_801 rfl rfl d_Mod_take_123 ?_
          refine lv_iadd C.1 C.2.1 d_Mod_take_126 ?_
          refine lv_aload_n C.1 C.2.1 d_Mod_take_127 rfl (lo_at hl 0 rfl) ?_
          refine md_get C hE hM hm 14 (Nat.le_of_ble_eq_true rfl) tw_796 rfl rfl d_Mod_take_128 ?_
          refine lv_iload_n C.1 C.2.1 d_Mod_take_131 rfl (lo_at hl 1 rfl) ?_
          refine md_ialdN C hE hM hm 14 rfl t0 rfl (show t0 < 24 by omega) d_Mod_take_132 ?_
          refine lv_isub C.1 C.2.1 d_Mod_take_133 ?_
          refine md_iastN C hE hM hm 17 rfl t0 rfl (show t0 < 24 by omega) d_Mod_take_134 (fun f1 H1 locs1 hM hm => ?_)
          refine lv_aload_n C.1 C.2.1 d_Mod_take_135 rfl (lo_at hl 0 rfl) ?_
          refine md_get C hE hM hm 20 (Nat.le_of_ble_eq_true rfl) tw_802 rfl rfl d_Mod_take_136 ?_
          refine lv_aload_n C.1 C.2.1 d_Mod_take_139 rfl (lo_at hl 0 rfl) ?_
          refine md_get C hE hM hm 19 (Nat.le_of_ble_eq_true rfl) tw_801 rfl rfl d_Mod_take_140 ?_
          refine lv_iload_n C.1 C.2.1 d_Mod_take_143 rfl (lo_at hl 3 rfl) ?_
          refine md_iast C hE hM hm 20 rfl (by rw [h19]; exact vp_in_nI (show ro < 3600 by omega) (by decide)) d_Mod_take_144 (fun f1 H1 locs1 hM hm => ?_)
          refine lv_aload_n C.1 C.2.1 d_Mod_take_145 rfl (lo_at hl 0 rfl) ?_
          refine md_get C hE hM hm 21 (Nat.le_of_ble_eq_true rfl) tw_803 rfl rfl d_Mod_take_146 ?_
          refine lv_aload_n C.1 C.2.1 d_Mod_take_149 rfl (lo_at hl 0 rfl) ?_
          refine md_get C hE hM hm 19 (Nat.le_of_ble_eq_true rfl) tw_801 rfl rfl d_Mod_take_150 ?_
          refine lv_aload_n C.1 C.2.1 d_Mod_take_153 rfl (lo_at hl 0 rfl) ?_
          refine md_get C hE hM hm 29 (Nat.le_of_ble_eq_true rfl) tw_811 rfl rfl d_Mod_take_154 ?_
          refine lv_iload C.1 C.2.1 d_Mod_take_157 (lo_at hl 5 rfl) ?_
          refine lv_iadd C.1 C.2.1 d_Mod_take_159 ?_
          refine lv_iconst (v := 1) C.1 C.2.1 d_Mod_take_160 (by decide) ?_
          refine lv_iadd C.1 C.2.1 d_Mod_take_161 ?_
          refine md_iast C hE hM hm 21 rfl (by rw [h19]; exact vp_in_nI (show ro < 3600 by omega) (by decide)) d_Mod_take_162 (fun f1 H1 locs1 hM hm => ?_)
          refine lv_aload_n C.1 C.2.1 d_Mod_take_163 rfl (lo_at hl 0 rfl) ?_
          refine lv_dup C.1 C.2.1 d_Mod_take_164 rfl ?_
          refine md_get C hE hM hm 19 (Nat.le_of_ble_eq_true rfl) tw_801 rfl rfl d_Mod_take_165 ?_
          refine lv_iconst (v := 1) C.1 C.2.1 d_Mod_take_168 (by decide) ?_
          refine lv_iadd C.1 C.2.1 d_Mod_take_169 ?_
          refine md_put C hE hM hm 19 (Nat.le_of_ble_eq_true rfl) tw_801 rfl rfl rfl rfl rfl d_Mod_take_170 (fun f1 H1 locs1 hM hm => ?_)
          refine lo_iinc C hl d_Mod_take_173 rfl rfl (fun ls hl => ?_)
          refine lv_goto (tgt := 51) C.1 C.2.1 d_Mod_take_176 (by decide) ?_
          have hw4 : w ≠ 4 := fun z => hc93 (by rw [z]; rfl)
          have hcase : g0 < 2 ∧ dnN A t0 d g0 = 2 := ⟨nI_ltN (by omega) (by decide) hc102, (nI_eq (by omega) (by decide)).mp hc108⟩
          have hm : mdS G o r P f f1 (upd v1 19 (v1 19 + 1)) (tkA v1 A1 t0 r0 d g0 (dnN A t0 d g0)) B := by rw [tkA, if_pos hcase]; exact hm
          have hval2 : tkL (wyF v A B t0) (fun d g => dnN A t0 d g) t0 (e0 - (r0 + 1)) (r0 + 1) (dnN A t0 d g0) d (upd v1 19 (v1 19 + 1)) (tkA v1 A1 t0 r0 d g0 (dnN A t0 d g0)) = tkM v A B t0 pu home e0 := by rw [← hval, show e0 - r0 = (e0 - (r0 + 1)) + 1 by omega, tkL_go hlw hw4 hnb]
          have h9 := hl
          rw [nI_pl] at h9
          exact ih51 (r0 + 1, dnN A t0 d g0, d, ro + 1, upd v1 19 (v1 19 + 1), tkA v1 A1 t0 r0 d g0 (dnN A t0 d g0), ls, H1, locs1, f1) ⟨by (try dsimp only); omega, hdn, hd, hNd, (by show v1 19 + 1 = _; rw [h19, nI_1]), by (try dsimp only); omega, h38, hv38, ((tkA_keep (v := v1) (A := A1) (t := t0) (r := r0) (d := d) (g := g0) (g2 := dnN A t0 d g0) (k := 2) (by decide) (by decide) (by decide)).trans hA2), ((tkA_keep (v := v1) (A := A1) (t := t0) (r := r0) (d := d) (g := g0) (g2 := dnN A t0 d g0) (k := 6) (by decide) (by decide) (by decide)).trans hA6), ((tkA_keep (v := v1) (A := A1) (t := t0) (r := r0) (d := d) (g := g0) (g2 := dnN A t0 d g0) (k := 11) (by decide) (by decide) (by decide)).trans hA11), ((tkA_keep (v := v1) (A := A1) (t := t0) (r := r0) (d := d) (g := g0) (g2 := dnN A t0 d g0) (k := 12) (by decide) (by decide) (by decide)).trans hA12), hval2, lo_weak h9 ⟨rfl, rfl, rfl, rfl, rfl, rfl, trivial⟩, hM, hm⟩ (by show e0 - (r0 + 1) < e0 - r0; omega)
    · refine lv_goto (tgt := 173) C.1 C.2.1 d_Mod_take_96 (by decide) ?_
      refine lo_iinc C hl d_Mod_take_173 rfl rfl (fun ls hl => ?_)
      refine lv_goto (tgt := 51) C.1 C.2.1 d_Mod_take_176 (by decide) ?_
      have hw4 : w = 4 := (nI_eq (by omega) (by decide)).mp hc93
      subst hw4
      have hval2 : tkL (wyF v A B t0) (fun d g => dnN A t0 d g) t0 (e0 - (r0 + 1)) (r0 + 1) (dnN A t0 d g0) d v1 A1 = tkM v A B t0 pu home e0 := by rw [← hval, show e0 - r0 = (e0 - (r0 + 1)) + 1 by omega, tkL_stay hlw hnb]
      have h9 := hl
      rw [nI_pl] at h9
      exact ih51 (r0 + 1, dnN A t0 d g0, d, ro, v1, A1, ls, H1, locs1, f1) ⟨by (try dsimp only); omega, hdn, hd, hNd, h19, by (try dsimp only); omega, h38, hv38, hA2, hA6, hA11, hA12, hval2, lo_weak h9 ⟨rfl, rfl, rfl, rfl, rfl, rfl, trivial⟩, hM, hm⟩ (by show e0 - (r0 + 1) < e0 - r0; omega)
