theorem k_Mod_tick0 (l : Launch) (G : GG) (o : Nat) (r : Nat → Nat) (v : Nat → Int32) (A : Nat → Nat → Int32) (B : Nat → Nat → Int64) (hvo : v 1 = 0) : mct l G y_Mod_tick c_Mod_tick 4 (some .int) 6 144 [.ref o] o r v A B (fun x v1 A1 B1 => x = some (.int 0) ∧ v1 = upd v 0 1 ∧ A1 = A ∧ B1 = B) := by
  refine mct_intro (by decide) [some (.ref o), none, none, none] rfl rfl (Nat.le_of_ble_eq_true rfl) ?_
  intro p e s m below meth c ls P f C hr hlk hE hM hm hl
  refine lv_aload_n C.1 C.2.1 d_Mod_tick_0 rfl (lo_at hl 0 rfl) ?_
  refine lv_aload_n C.1 C.2.1 d_Mod_tick_1 rfl (lo_at hl 0 rfl) ?_
  refine md_get C hE hM hm 1 (Nat.le_of_ble_eq_true rfl) tw_783 rfl rfl d_Mod_tick_2 ?_
  refine lv_if_ne (tgt := 12) C.1 C.2.1 d_Mod_tick_5 (by decide) (fun hc5 => False.elim (hc5 hvo)) (fun hc5 => ?_)
  refine lv_iconst (v := 1) C.1 C.2.1 d_Mod_tick_8 (by decide) ?_
  refine lv_goto (tgt := 13) C.1 C.2.1 d_Mod_tick_9 (by decide) ?_
  refine lv_iconst (v := 0) C.1 C.2.1 d_Mod_tick_13 (by decide) ?_
  refine md_callV C hE hM hm (k_Mod_throwing l G o r _ _ _ _ _) rfl tw_930 cy_Mod_throwing ⟨(Nat.le_of_ble_eq_true rfl), (Nat.le_of_ble_eq_true rfl)⟩ rfl hl.1 rfl (Nat.le_of_ble_eq_true rfl) ⟨Nat.zero_le _, Nat.zero_le _⟩ d_Mod_tick_14 (fun x9 f1 H1 locs1 v9 A9 B9 hp hM hm => ?_)
  obtain ⟨hx9, hv9, hA9, hB9⟩ := hp
  subst hx9
  rw [hv9, hA9, hB9] at hm
  refine W.eq (g2 := F0 m 17 ls (_ :: _)) rfl ?_
  refine lv_if_eq (tgt := 22) C.1 C.2.1 d_Mod_tick_17 (by decide) (fun hc17 => False.elim (bz_0.mp hc17 (by decide))) (fun hc17 => ?_)
  refine lv_iconst (v := 0) C.1 C.2.1 d_Mod_tick_20 (by decide) ?_
  exact md_iret C hr hlk hM hm d_Mod_tick_21 ⟨rfl, by rw [show thr 1 0 = 1 by decide], rfl, rfl⟩
/-! the law: the class's state in a part of the pool, the reference's in the pool, apart; the one long -/
def LI (G : GG) (L : List Nat) (f : Nat → va_E) (o : Nat) (T : TS) (PC : List Nat) (D : Nat → Nat → Nat) (C : Nat → Nat) (mo : Nat) (r : Nat → Nat) (v : Nat → Int32) (A : Nat → Nat → Int32) (B : Nat → Nat → Int64) (ou : Nat) : Prop :=
  cS G PC f o D C T ∧ mdS G mo r L f f v A B ∧ PC.Nodup ∧ (∀ q ∈ PC, q ∈ L ∧ q ≠ mo ∧ (∀ j, mdR j = true → q ≠ r j) ∧ q ≠ ou) ∧ (ou ∈ L ∧ ou ≠ mo ∧ ∀ j, mdR j = true → ou ≠ r j) ∧ ∃ g, f ou = .inl (G.2.1 1, 1, .inr (.inl g))
section LIS
variable {G : GG} {L : List Nat} {f f1 f2 : Nat → va_E} {o : Nat} {T T' : TS} {PC N : List Nat} {D D' : Nat → Nat → Nat} {C C' : Nat → Nat} {mo : Nat} {r : Nat → Nat} {v v' : Nat → Int32} {A A' : Nat → Nat → Int32} {B B' : Nat → Nat → Int64} {ou : Nat} {k : KS}
theorem cS.kept (h : cS G PC f o D C T) (hk : ∀ q ∈ PC, f1 q = f q) (h3 : G.2.1 3 ≠ G.2.1 5 ∧ G.2.1 4 ≠ G.2.1 5) : cS G PC f1 o D C T :=
  h.nw (kp_x (fun _ h => h) hk (h.lw.kp hk)) h3.1 h3.2
theorem mdS.on (h : mdS G mo r L f f v A B) {L1 : List Nat} (hs : ∀ q ∈ L, q ∈ L1) (h1 : f1 mo = f mo) (h2 : ∀ j, mdR j = true → f1 (r j) = f (r j)) : mdS G mo r L1 f1 f1 v A B := by
  obtain ⟨a1, a2, ⟨a3, a4, a5, a6⟩, -⟩ := h
  exact ⟨⟨hs _ a1.1, fun k hk => hs _ (a1.2 k hk)⟩, a2, ⟨h1.trans a3, fun k hk => (h2 k (mdI_R hk)).trans (a4 k hk), (h2 7 rfl).trans a5, fun k hk => (h2 k (mdL_R hk)).trans (a6 k hk)⟩, fun _ _ _ => rfl⟩
theorem LI.at (h : LI G L f o T PC D C mo r v A B ou) : o ∈ L ∧ f o = .inr (0, ffF D T.v) := ⟨(h.2.2.2.1 _ h.1.ff.1).1, h.1.ff.2⟩
theorem LI.sub (h : LI G L f o T PC D C mo r v A B ou) : ∀ q ∈ PC, q ∈ L := fun q hq => (h.2.2.2.1 q hq).1
/-- behind a call of the class -/
theorem LI.cls (h : LI G L f o T PC D C mo r v A B ou) (h3 : G.2.1 3 ≠ G.2.1 5 ∧ G.2.1 4 ≠ G.2.1 5) (hnd : (L ++ N).Nodup) (h1 : ∀ q, q ∈ PC ∨ q ∈ N → f2 q = f1 q) (h2 : ∀ q ∈ L, q ∉ PC → f2 q = f q) (hS : cS G (PC ++ N) f1 o D' C' T') : LI G (L ++ N) f2 o T' (PC ++ N) D' C' mo r v A B ou := by
  obtain ⟨a1, a2, a3, a4, a5, g, a6⟩ := h
  obtain ⟨b1, b2, b3⟩ := List.nodup_append.mp hnd
  have hno : ∀ x, x ∈ L → (∀ q ∈ PC, q ≠ x) → f2 x = f x := fun x hx hq => h2 x hx (fun z => hq x z rfl)
  have hNn : ∀ q ∈ N, ∀ x ∈ L, q ≠ x := fun q hq x hx z => b3 x hx q hq z.symm
  refine ⟨hS.kept (fun q hq => h1 q (List.mem_append.mp hq)) h3, a2.on (fun q hq => List.mem_append_left _ hq) (hno _ a2.1.1 (fun q hq => (a4 q hq).2.1)) (fun j hj => hno _ (a2.1.2 j hj) (fun q hq => (a4 q hq).2.2.1 j hj)), List.nodup_append.mpr ⟨a3, b2, fun a ha b hb z => b3 a (a4 a ha).1 b hb z⟩, fun q hq => ?_, ⟨List.mem_append_left _ a5.1, a5.2⟩, g, (hno _ a5.1 (fun q hq => (a4 q hq).2.2.2)).trans a6⟩
  rcases List.mem_append.mp hq with hq | hq
  · exact ⟨List.mem_append_left _ (a4 q hq).1, (a4 q hq).2⟩
  · exact ⟨List.mem_append_right _ hq, hNn q hq _ a2.1.1, fun j hj => hNn q hq _ (a2.1.2 j hj), hNn q hq _ a5.1⟩
/-- behind a call of the reference -/
theorem LI.mod (h : LI G L f o T PC D C mo r v A B ou) (h3 : G.2.1 3 ≠ G.2.1 5 ∧ G.2.1 4 ≠ G.2.1 5) (hm : mdS G mo r L f f1 v' A' B') : LI G L f1 o T PC D C mo r v' A' B' ou := by
  obtain ⟨a1, a2, a3, a4, a5, g, a6⟩ := h
  exact ⟨a1.kept (fun q hq => hm.2.2.2 q (a4 q hq).2.1 (fun k hk => (a4 q hq).2.2.1 k hk)) h3, hm.self, a3, a4, a5, g, (hm.2.2.2 ou a5.2.1 a5.2.2).trans a6⟩
/-- behind a write of the long -/
theorem LI.out (h : LI G L f o T PC D C mo r v A B ou) (h3 : G.2.1 3 ≠ G.2.1 5 ∧ G.2.1 4 ≠ G.2.1 5) {g' : Nat → Int64} (hf : f1 = va_up f ou (.inl (G.2.1 1, 1, .inr (.inl g')))) : LI G L f1 o T PC D C mo r v A B ou := by
  subst hf
  obtain ⟨a1, a2, a3, a4, a5, g, a6⟩ := h
  exact ⟨a1.kept (fun q hq => va_up_ne _ _ (a4 q hq).2.2.2) h3, a2.on (fun q hq => hq) (va_up_ne _ _ (Ne.symm a5.2.1)) (fun j hj => va_up_ne _ _ (Ne.symm (a5.2.2 j hj))), a3, a4, a5, g', va_up_self _ _ _⟩
/-- the class's state by another name -/
theorem LI.as (h : LI G L f o T PC D C mo r v A B ou) (hq : eqC T.v T.A T'.v T'.A) (hN : T'.k.N = T.k.N) (hq1 : T'.k.q 1 = T.k.q 1) (hce : T'.k.ce = T.k.ce) (htm : T'.k.tm = T.k.tm) (hX : T'.k.X = T.k.X) : LI G L f o T' PC D C mo r v A B ou := ⟨h.1.congr hq hN hq1 hce htm hX, h.2⟩
theorem LI.as0 (h : LI G L f o (v, A, k) PC D C mo r v' A' B ou) (hq : eqC v A v' A') : LI G L f o (v', A', k) PC D C mo r v' A' B ou := h.as (T' := (v', A', k)) hq rfl rfl rfl rfl rfl
theorem LI.kp (h : LI G L f o T PC D C mo r v A B ou) (h3 : G.2.1 3 ≠ G.2.1 5 ∧ G.2.1 4 ≠ G.2.1 5) (hk : ∀ q ∈ L, f1 q = f q) : LI G L f1 o T PC D C mo r v A B ou := by
  obtain ⟨a1, a2, a3, a4, a5, g, a6⟩ := h
  exact ⟨a1.kept (fun q hq => hk q (a4 q hq).1) h3, a2.on (fun q hq => hq) (hk _ a2.1.1) (fun j hj => hk _ (a2.1.2 j hj)), a3, a4, a5, g, (hk _ a5.1).trans a6⟩
end LIS
theorem eqC_0 (v : Nat → Int32) (A : Nat → Nat → Int32) (x : Int32) : eqC v A (upd v 0 x) A := ⟨fun j hj => (upd_ne _ _ (by rintro rfl; cases hj)).symm, fun _ _ => rfl⟩
/-- the room at the head of the law's loop -/
def lwC (i : Nat) (v : Nat → Int32) (k : KS) : Nat := 100 + i * 200 + 300 * k.N 4 + (if v 1 = 0 then 0 else 2000)
def lwS (i : Nat) (v : Nat → Int32) (k : KS) : Nat := 10000 + i * 3500 + 30000 * k.N 4 + (if v 1 = 0 then 0 else 5000)
theorem lwC_le {i : Nat} {v : Nat → Int32} {k : KS} (hi : i ≤ 512) (hk : k.N 4 ≤ 24) : lwC i v k ≤ 112000 ∧ lwS i v k ≤ 2600000 := by
  unfold lwC lwS
  constructor <;> split <;> omega
