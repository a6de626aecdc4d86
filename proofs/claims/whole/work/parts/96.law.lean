/-! THE CLAIM OUT OF ONE WALK OF THE LAW'S BODY. Your part is whole_start (and what it stands on); all else here is the same for every law, but numbers. -/
def R_law : String := "FleetFloorLaw"
def lw_P (b : Addr) (xs : List Int32) (args : Array Value) (s : State) : Prop := args = #[.ref b] ∧ s.IntsAt b xs ∧ xs.length ≤ 2048 ∧ (Jvm.Cond.and given_1 narrow_1).before args s = true
def lw_Q (_ : Array Value) (s : State) (o : Outcome) (t : State) : Prop := o = .returned (some (.int 1)) ∧ Framed s o t [] 601024 7293034
def lw_Z (below : List Frame) (a : Array Value) (s : State) : State → Prop := fun t => ∃ o, t.status = .running ∧ Ended t below o ∧ lw_Q a s o t
/-- the law's own end, with 1 on the stack, nothing written that was there before, its room as the claim has it -/
theorem lw_ret {p : Program} {l : Launch} {e : Env} {s : State} {m : MethodId} {below : List Frame} {meth : Method} {c : Code} {b : Nat} (hx : p.tables.exec = Jvm.exec) (hb : c.code = code) (hr : meth.sig.returnType = ret) (hlocks : meth.locks = false) {pc : Nat} {H : Heap} {ls : Array Slot} (hdg : decode code pc = .ok (.ireturn, 1)) : W p l e room_1 s m #[Value.ref b] below meth c H [] 601024 7293034 (lw_Z below #[Value.ref b] s) (F0 m pc ls [.int 1]) := by
  intro T hT X
  obtain ⟨fs, hret, hrun, hended, hW, hframe⟩ := X.leave (v := some (.int 1)) (hlocks := hlocks) (fun h => by rw [hr] at h; cases h)
  have hmeth' : T.vm.method? m = some meth := X.method'
  refine ⟨T.setFrames fs, ?_, .returned (some (.int 1)), hrun, hended, rfl, ⟨_, rfl⟩, hW, hframe⟩
  jvm_step X.here [X.here.top, hx, hb, hdg, hmeth', hr, ret, narrow_b1]
  (try refine ⟨rfl, ?_⟩); (try refine ⟨rfl, ?_⟩)
  first | (intro acts; rw [hret _ acts rfl rfl rfl]) | rw [hret _ _ rfl rfl rfl]
  exact Steps.refl _
/-- what holds at the law's entry: the machine, the code, the tables' words (any of lw_tbl by 'hts w (by decide +kernel)'), the script of L ints xs at the cell b, what the Statement gives of the start (any of its parts by flat_of_before) -/
def lw_At (p : Program) (s : State) (m : MethodId) (meth : Method) (c : Code) (b L : Nat) (xs : Nat → Int32) : Prop :=
  p.tables.exec = Jvm.exec ∧ c.code = code ∧ meth.sig.returnType = ret ∧ c.maxLocals = 7 ∧ s.vm.findClass R_law = some m.cls ∧ (∀ w ∈ lw_tbl, w.before #[Value.ref b] s = true) ∧ va_X b L xs s s.heap ∧ b < s.heap.size ∧ meth.locks = false ∧ (Jvm.Cond.and given_1 narrow_1).before #[Value.ref b] s = true
theorem k_Mod_tick0 (l : Launch) (G : GG) (o : Nat) (r : Nat → Nat) (v : Nat → Int32) (A : Nat → Nat → Int32) (B : Nat → Nat → Int64) (hvo : v 1 = 0) : mct l G y_Mod_tick c_Mod_tick 4 (some .int) 6 144 [.ref o] o r v A B (fun x v1 A1 B1 => x = some (.int 0) ∧ v1 = upd v 0 1 ∧ A1 = A ∧ B1 = B) := by
  refine mct_intro (by decide) [some (.ref o), none, none, none] rfl rfl (Nat.le_of_ble_eq_true rfl) ?_
  intro p e s m below meth c ls P f C hr hlk hE hM hm hl
  refine lv_aload_n C.1 C.2.1 d_Mod_tick_0 rfl (lo_at hl 0 rfl) ?_
  refine lv_aload_n C.1 C.2.1 d_Mod_tick_1 rfl (lo_at hl 0 rfl) ?_
  refine md_get C hE hM hm 1 (Nat.le_of_ble_eq_true rfl) tw_783 rfl rfl d_Mod_tick_2 ?_
  refine lv_if_ne (tgt := 12) C.1 C.2.1 d_Mod_tick_5 (by decide) (fun hc5 => False.elim (hc5 hvo)) (fun hc5 => ?_)
  refine lv_iconst (v := 1) C.1 C.2.1 d_Mod_tick_8 (by decide) ?_
  refine lv_goto (tgt := 13) C.1 C.2.1 d_Mod_tick_9 (by decide) ?_
  refine lv_iconst (v := 0) C.1 C.2.1 d_Mod_tick_13 (by decide) ?_
  refine md_callV C hE hM hm (k_Mod_throwing l G o r _ _ _ _ _) rfl tw_930 cy_Mod_throwing ⟨(Nat.le_of_ble_eq_true rfl), (Nat.le_of_ble_eq_true rfl)⟩ rfl hl.1 rfl (Nat.le_of_ble_eq_true rfl) ⟨Nat.zero_le _, Nat.zero_le _⟩ d_Mod_tick_14 (fun x9 f1 H1 locs1 v9 A9 B9 hp hM hm => ?_)
  obtain ⟨hx9, hv9, hA9, hB9⟩ := hp
  subst hx9
  rw [hv9, hA9, hB9] at hm
  refine W.eq (g2 := F0 m 17 ls (_ :: _)) rfl ?_
  refine lv_if_eq (tgt := 22) C.1 C.2.1 d_Mod_tick_17 (by decide) (fun hc17 => False.elim (bz_0.mp hc17 (by decide))) (fun hc17 => ?_)
  refine lv_iconst (v := 0) C.1 C.2.1 d_Mod_tick_20 (by decide) ?_
  exact md_iret C hr hlk hM hm d_Mod_tick_21 ⟨rfl, by rw [show thr 1 0 = 1 by decide], rfl, rfl⟩
/-! the law: the class's state in a part of the pool, the reference's in the pool, apart; the one long -/
def LI (G : GG) (L : List Nat) (f : Nat → va_E) (o : Nat) (T : TS) (PC : List Nat) (D : Nat → Nat → Nat) (C : Nat → Nat) (mo : Nat) (r : Nat → Nat) (v : Nat → Int32) (A : Nat → Nat → Int32) (B : Nat → Nat → Int64) (ou : Nat) : Prop :=
  cS G PC f o D C T ∧ mdS G mo r L f f v A B ∧ PC.Nodup ∧ (∀ q ∈ PC, q ∈ L ∧ q ≠ mo ∧ (∀ j, mdR j = true → q ≠ r j) ∧ q ≠ ou) ∧ (ou ∈ L ∧ ou ≠ mo ∧ ∀ j, mdR j = true → ou ≠ r j) ∧ ∃ g, f ou = .inl (G.2.1 1, 1, .inr (.inl g))
section LIS
variable {G : GG} {L : List Nat} {f f1 f2 : Nat → va_E} {o : Nat} {T T' : TS} {PC N : List Nat} {D D' : Nat → Nat → Nat} {C C' : Nat → Nat} {mo : Nat} {r : Nat → Nat} {v v' : Nat → Int32} {A A' : Nat → Nat → Int32} {B B' : Nat → Nat → Int64} {ou : Nat} {k : KS}
theorem cS.kept (h : cS G PC f o D C T) (hk : ∀ q ∈ PC, f1 q = f q) (h3 : G.2.1 3 ≠ G.2.1 5 ∧ G.2.1 4 ≠ G.2.1 5) : cS G PC f1 o D C T :=
  h.nw (kp_x (fun _ h => h) hk (h.lw.kp hk)) h3.1 h3.2
theorem mdS.on (h : mdS G mo r L f f v A B) {L1 : List Nat} (hs : ∀ q ∈ L, q ∈ L1) (h1 : f1 mo = f mo) (h2 : ∀ j, mdR j = true → f1 (r j) = f (r j)) : mdS G mo r L1 f1 f1 v A B := by
  obtain ⟨a1, a2, ⟨a3, a4, a5, a6⟩, -⟩ := h
  exact ⟨⟨hs _ a1.1, fun k hk => hs _ (a1.2 k hk)⟩, a2, ⟨h1.trans a3, fun k hk => (h2 k (mdI_R hk)).trans (a4 k hk), (h2 7 rfl).trans a5, fun k hk => (h2 k (mdL_R hk)).trans (a6 k hk)⟩, fun _ _ _ => rfl⟩
theorem LI.at (h : LI G L f o T PC D C mo r v A B ou) : o ∈ L ∧ f o = .inr (0, ffF D T.v) := ⟨(h.2.2.2.1 _ h.1.ff.1).1, h.1.ff.2⟩
theorem LI.sub (h : LI G L f o T PC D C mo r v A B ou) : ∀ q ∈ PC, q ∈ L := fun q hq => (h.2.2.2.1 q hq).1
/-- behind a call of the class -/
theorem LI.cls (h : LI G L f o T PC D C mo r v A B ou) (h3 : G.2.1 3 ≠ G.2.1 5 ∧ G.2.1 4 ≠ G.2.1 5) (hnd : (L ++ N).Nodup) (h1 : ∀ q, q ∈ PC ∨ q ∈ N → f2 q = f1 q) (h2 : ∀ q ∈ L, q ∉ PC → f2 q = f q) (hS : cS G (PC ++ N) f1 o D' C' T') : LI G (L ++ N) f2 o T' (PC ++ N) D' C' mo r v A B ou := by
  obtain ⟨a1, a2, a3, a4, a5, g, a6⟩ := h
  obtain ⟨b1, b2, b3⟩ := List.nodup_append.mp hnd
  have hno : ∀ x, x ∈ L → (∀ q ∈ PC, q ≠ x) → f2 x = f x := fun x hx hq => h2 x hx (fun z => hq x z rfl)
  have hNn : ∀ q ∈ N, ∀ x ∈ L, q ≠ x := fun q hq x hx z => b3 x hx q hq z.symm
  refine ⟨hS.kept (fun q hq => h1 q (List.mem_append.mp hq)) h3, a2.on (fun q hq => List.mem_append_left _ hq) (hno _ a2.1.1 (fun q hq => (a4 q hq).2.1)) (fun j hj => hno _ (a2.1.2 j hj) (fun q hq => (a4 q hq).2.2.1 j hj)), List.nodup_append.mpr ⟨a3, b2, fun a ha b hb z => b3 a (a4 a ha).1 b hb z⟩, fun q hq => ?_, ⟨List.mem_append_left _ a5.1, a5.2⟩, g, (hno _ a5.1 (fun q hq => (a4 q hq).2.2.2)).trans a6⟩
  rcases List.mem_append.mp hq with hq | hq
  · exact ⟨List.mem_append_left _ (a4 q hq).1, (a4 q hq).2⟩
  · exact ⟨List.mem_append_right _ hq, hNn q hq _ a2.1.1, fun j hj => hNn q hq _ (a2.1.2 j hj), hNn q hq _ a5.1⟩
/-- behind a call of the reference -/
theorem LI.mod (h : LI G L f o T PC D C mo r v A B ou) (h3 : G.2.1 3 ≠ G.2.1 5 ∧ G.2.1 4 ≠ G.2.1 5) (hm : mdS G mo r L f f1 v' A' B') : LI G L f1 o T PC D C mo r v' A' B' ou := by
  obtain ⟨a1, a2, a3, a4, a5, g, a6⟩ := h
  exact ⟨a1.kept (fun q hq => hm.2.2.2 q (a4 q hq).2.1 (fun k hk => (a4 q hq).2.2.1 k hk)) h3, hm.self, a3, a4, a5, g, (hm.2.2.2 ou a5.2.1 a5.2.2).trans a6⟩
/-- behind a write of the long -/
theorem LI.out (h : LI G L f o T PC D C mo r v A B ou) (h3 : G.2.1 3 ≠ G.2.1 5 ∧ G.2.1 4 ≠ G.2.1 5) {g' : Nat → Int64} (hf : f1 = va_up f ou (.inl (G.2.1 1, 1, .inr (.inl g')))) : LI G L f1 o T PC D C mo r v A B ou := by
  subst hf
  obtain ⟨a1, a2, a3, a4, a5, g, a6⟩ := h
  exact ⟨a1.kept (fun q hq => va_up_ne _ _ (a4 q hq).2.2.2) h3, a2.on (fun q hq => hq) (va_up_ne _ _ (Ne.symm a5.2.1)) (fun j hj => va_up_ne _ _ (Ne.symm (a5.2.2 j hj))), a3, a4, a5, g', va_up_self _ _ _⟩
/-- the class's state by another name -/
theorem LI.as (h : LI G L f o T PC D C mo r v A B ou) (hq : eqC T.v T.A T'.v T'.A) (hN : T'.k.N = T.k.N) (hq1 : T'.k.q 1 = T.k.q 1) (hce : T'.k.ce = T.k.ce) (htm : T'.k.tm = T.k.tm) (hX : T'.k.X = T.k.X) : LI G L f o T' PC D C mo r v A B ou := ⟨h.1.congr hq hN hq1 hce htm hX, h.2⟩
theorem LI.as0 (h : LI G L f o (v, A, k) PC D C mo r v' A' B ou) (hq : eqC v A v' A') : LI G L f o (v', A', k) PC D C mo r v' A' B ou := h.as (T' := (v', A', k)) hq rfl rfl rfl rfl rfl
theorem LI.kp (h : LI G L f o T PC D C mo r v A B ou) (h3 : G.2.1 3 ≠ G.2.1 5 ∧ G.2.1 4 ≠ G.2.1 5) (hk : ∀ q ∈ L, f1 q = f q) : LI G L f1 o T PC D C mo r v A B ou := by
  obtain ⟨a1, a2, a3, a4, a5, g, a6⟩ := h
  exact ⟨a1.kept (fun q hq => hk q (a4 q hq).1) h3, a2.on (fun q hq => hq) (hk _ a2.1.1) (fun j hj => hk _ (a2.1.2 j hj)), a3, a4, a5, g, (hk _ a5.1).trans a6⟩
end LIS
theorem eqC_0 (v : Nat → Int32) (A : Nat → Nat → Int32) (x : Int32) : eqC v A (upd v 0 x) A := ⟨fun j hj => (upd_ne _ _ (by rintro rfl; cases hj)).symm, fun _ _ => rfl⟩
/-- the room at the head of the law's loop -/
def lwC (i : Nat) (v : Nat → Int32) (k : KS) : Nat := 100 + i * 200 + 300 * k.N 4 + (if v 1 = 0 then 0 else 2000)
def lwS (i : Nat) (v : Nat → Int32) (k : KS) : Nat := 10000 + i * 3500 + 30000 * k.N 4 + (if v 1 = 0 then 0 else 5000)
theorem lwC_le {i : Nat} {v : Nat → Int32} {k : KS} (hi : i ≤ 512) (hk : k.N 4 ≤ 24) : lwC i v k ≤ 112000 ∧ lwS i v k ≤ 2600000 := by
  unfold lwC lwS
  constructor <;> split <;> omega
section LJS
variable {v : Nat → Int32} {A : Nat → Nat → Int32} {k : KS} {k0 : Int32}
theorem lw_lt (hJ : JI v A k) (h : isLt v k0) : ∃ i, k0 = nI i ∧ ix k0 = i ∧ i < k.N 1 := by
  have h1 := hJ.n1.2
  obtain ⟨i, e, hi⟩ := (inb_iff (by omega) hJ.n1.1).mp h
  exact ⟨i, e, by rw [e]; exact nI_clamp (by omega), hi⟩
theorem lw_J_rem (hJ : JI v A k) (h : isLt v k0) : JI (upd (upd v 0 0) 31 (nI (k.N 1 - 1))) (rmL (k.N 1 - 1 - ix k0) (ix k0) A) (kRem (v, A, k) (ix k0)).k := by
  obtain ⟨i, -, e, hi⟩ := lw_lt hJ h
  rw [e]
  exact (hJ.v0 0).rem hi
theorem lw_J_dlv (hJ : JI v A k) (h : isLt v k0) : ∃ k', JI (upd (upd v 0 0) 31 (nI (k.N 1 - 1))) (rmL (k.N 1 - 1 - ix k0) (ix k0) (dlvA A k0)) k' ∧ k'.N = va_up k.N 1 (k.N 1 - 1) ∧ k'.q 1 = k.q 1 ∧ k'.ce = k.ce ∧ k'.tm = k.tm ∧ k'.X = k.X := by
  obtain ⟨i, e0, e, hi⟩ := lw_lt hJ h
  obtain ⟨w, n, hw, hw0, hn, hc⟩ := hJ.lt i hi
  have hb := hJ.cn w hw0
  have hnp := hJ.np
  have hnb : n < 100000 := by rcases hc with ⟨-, h⟩ | ⟨-, h⟩ <;> omega
  rw [e, e0]
  have hd := (hJ.v0 0).dlv hi hw hn hw0 hnb
  have hN : (kDlv k (A 32 i = 0) w n).N = k.N := rfl
  have hr := hd.rem (i := i) hi
  refine ⟨_, hr, rfl, ?_, rfl, rfl, rfl⟩
  show (kDlv k (A 32 i = 0) w n).q 1 = k.q 1
  unfold kDlv
  dsimp only [KS.q, KS.mk]
  split <;> rfl
theorem lw_J_snd (hJ : JI v A k) (h : isLt v k0) : JI (sndV (upd v 0 0)) (sndA v A (A 32 (ix k0)) (A 33 (ix k0)) (A 34 (ix k0))) (kSn k) := by
  obtain ⟨i, e0, e, hi⟩ := lw_lt hJ h
  obtain ⟨w, n, hw, hw0, hn, hc⟩ := hJ.lt i hi
  rw [e, hw, hn]
  have e2 : sndA v A = sndA (upd v 0 0) A := rfl
  rw [e2]
  rcases hc with ⟨c1, c2⟩ | ⟨c1, c2⟩
  · rw [c1]; exact (hJ.v0 0).snd (ki := 0) hw0 (Or.inl ⟨rfl, c2⟩)
  · rw [c1]; exact (hJ.v0 0).snd (ki := 1) hw0 (Or.inr ⟨rfl, c2⟩)
theorem lw_J_cell (hJ : JI v A k) {c0 : Int32} (h : okCell v c0 k0) : JI (upd v 0 0) (va_up A 2 (upd (A 2) (ix c0) k0)) k := by
  obtain ⟨hv, hc, hk⟩ := h
  obtain ⟨i, e, hi⟩ := (inb_iff (x := 96) (n := 96) (by decide) rfl).mp (show inb c0 0 (96 - 1) from hc)
  obtain ⟨j, e2, hj⟩ := (inb_iff (x := 4) (n := 4) (by decide) rfl).mp (show inb k0 0 (4 - 1) from hk)
  have hx : ix c0 = i := by rw [e]; exact nI_clamp (by omega)
  rw [hx]
  refine (hJ.v0 0).cell hv hi ?_
  rw [e2]
  have : j = 0 ∨ j = 1 ∨ j = 2 ∨ j = 3 := by omega
  rcases this with rfl | rfl | rfl | rfl
  · exact Or.inl rfl
  · exact Or.inr (Or.inl rfl)
  · exact Or.inr (Or.inr (Or.inl rfl))
  · exact Or.inr (Or.inr (Or.inr rfl))
theorem lw_J_mov (hJ : JI v A k) {u0 i0 w0 : Int32} (h : movQ v A u0 i0 w0) : vp_in (plc v A u0 i0) 3600 := by
  have h0 := hJ.n0.2
  obtain ⟨h1, h2, -⟩ := h
  obtain ⟨u, e, hu⟩ := (inb_iff (by omega) hJ.n0.1).mp h1
  have hx : ix u0 = u := by rw [e]; exact nI_clamp (by omega)
  have hb := hJ.qb hu
  rw [hx, (hJ.cn u hu).1.1] at h2
  obtain ⟨i, e2, hi⟩ := (inb_iff (by omega) rfl).mp h2
  rw [e, e2]
  exact (hJ.vin hu hi).1
theorem lw_J_33 (hJ : JI v A k) : ∀ j, j < k.N 1 → vp_in (A 33 j) 6 := fun j hj => by
  obtain ⟨w, n, hw, hw0, -⟩ := hJ.lt j hj
  have h0 := hJ.n0.2
  rw [hw]
  intro z
  rcases z with z | z
  · exact absurd z (nI_nn (by omega))
  · rw [nI_clamp (by omega)] at z; omega
theorem lw_v1 (hJ : JI v A k) : v 1 = 0 ∨ v 1 = 1 := hJ.op.elim (fun h => Or.inl h.1) (fun h => Or.inr h.1)
theorem lw_n3 (hJ : JI v A k) (hv : v 1 = 0) : k.N 3 = 0 := hJ.op.elim (fun h => h.2.2.2.1) (fun h => by rw [h.1] at hv; cases hv)
theorem lwC_up {i a : Nat} {v' : Nat → Int32} {k' : KS} (hv : v' 1 = v 1) (hk : k'.N 4 = k.N 4) (ha : a ≤ 200) : lwC i v k + a ≤ lwC (i + 1) v' k' := by
  unfold lwC; rw [hv, hk]; omega
theorem lwS_up {i a : Nat} {v' : Nat → Int32} {k' : KS} (hv : v' 1 = v 1) (hk : k'.N 4 = k.N 4) (ha : a ≤ 3500) : lwS i v k + a ≤ lwS (i + 1) v' k' := by
  unfold lwS; rw [hv, hk]; omega
end LJS
theorem ct_imp {l : Launch} {G : GG} {y : MethodName} {cc : ByteArray} {nL : Nat} {rt : Option FieldType} {fr lc mc ms : Nat} {av : List Value} {P : List Nat} {f : Nat → va_E} {post post' : Option Value → List Nat → (Nat → va_E) → Prop} (h : ct l G y cc nL rt fr lc mc ms av P f post) (hp : ∀ x N f1, post x N f1 → post' x N f1) : ct l G y cc nL rt fr lc mc ms av P f post' := by
  intro sz p e ha hc hk s m args below hf happ hPc hK
  obtain ⟨n, o, h1, h2, h3, ⟨⟨v, N, f', g1, g2, g3, g4, g5⟩, h5⟩⟩ := h sz p e ha hc hk s m args below hf happ hPc hK
  exact ⟨n, o, h1, h2, h3, ⟨v, N, f', g1, hp _ _ _ g2, g3, g4, g5⟩, h5⟩
abbrev lwV (b o mo ou i : Nat) : List (Option Value) := [some (.ref b), some (.ref o), some (.ref mo), some (.ref ou), some (.int (nI (4 * i))), none, none]
/-- the law's loop goes on -/
def lwK (p : Program) (l : Launch) (e : Env) (s : State) (m : MethodId) (below : List Frame) (meth : Method) (c : Code) (b : Nat) (G : GG) (o mo : Nat) (r : Nat → Nat) (ou i : Nat) : Prop :=
  ∀ (L PC : List Nat) (D : Nat → Nat → Nat) (C9 : Nat → Nat) (f : Nat → va_E) (v : Nat → Int32) (A : Nat → Nat → Int32) (B : Nat → Nat → Int64) (k : KS) (H : Heap) (locs : List Loc) (ls : Array Slot), LI G L f o (v, A, k) PC D C9 mo r v A B ou → JI v A k → pgS G (pgA [] s.heap.size) s.heap L f H locs → lo ls (lwV b o mo ou i) → W p l e room_1 s m #[Value.ref b] below meth c H locs (lwC (i + 1) v k) (lwS (i + 1) v k) (lw_Z below #[Value.ref b] s) (F0 m 570 ls [])
section LAR
variable {p : Program} {l : Launch} {e : Env} {R : Room} {s : State} {m : MethodId} {args : Array Value} {below : List Frame} {meth : Method} {c : Code} {H : Heap} {locs : List Loc} {cells slots : Nat} {Q : State → Prop}
variable {cc : ByteArray} {pc nL : Nat} {ls : Array Slot} {rest : List Value} {A : Nat → Prop} {own : String} {vs : List (Option Value)}
theorem lw_arg (C : CallFix p m c cc nL s args bg own) {b Lx i : Nat} {xs : Nat → Int32} (hX : va_X b Lx xs s s.heap) (hbl : b < s.heap.size) (hbA : ¬ A b) (hS : va_S A s.heap H locs) (hl : lo ls vs) (h0 : vs[0]? = some (some (.ref b))) (h4 : vs[4]? = some (some (.int (nI (4 * i))))) (hi : 4 * i + 4 ≤ Lx) (hL : Lx ≤ 2048) (j : Nat) (hj : j < 4) {jj : Int} (hjj : Int32.ofInt jj = nI j)
    (d1 : decode cc pc = .ok (.aload_n 0, 1)) (d2 : decode cc (pc + 1) = .ok (.iload 4, 2)) (d3 : decode cc (pc + 3) = .ok (.iconst jj, 1)) (d4 : decode cc (pc + 4) = .ok (.iadd, 1)) (d5 : decode cc (pc + 5) = .ok (.iaload, 1))
    (kk : W p l e R s m args below meth c H locs cells slots Q (F0 m (pc + 6) ls (.int (xs (4 * i + j)) :: rest))) : W p l e R s m args below meth c H locs cells slots Q (F0 m pc ls rest) := by
  refine lv_aload_n C.1 C.2.1 d1 rfl (lo_at hl 0 h0) ?_
  refine lv_iload C.1 C.2.1 d2 (lo_at hl 4 h4) ?_
  refine lv_iconst (v := nI j) C.1 C.2.1 d3 hjj ?_
  refine lv_iadd C.1 C.2.1 d4 ?_
  rw [nI_add]
  have hcl : (nI (4 * i + j)).toNatClampNeg = 4 * i + j := nI_clamp (by omega)
  refine va_sld C.1 C.2.1 hX hbl hbA hS (i := nI (4 * i + j)) ?_ d5 ?_
  · intro z
    rcases z with z | z
    · exact absurd z (nI_nn (by omega))
    · rw [hcl] at z; omega
  · rw [hcl]; exact kk
end LAR
theorem lw_go {p : Program} {l : Launch} {e : Env} {s : State} {m : MethodId} {below : List Frame} {meth : Method} {c : Code} {b i : Nat} {G : GG} {o mo ou : Nat} {r : Nat → Nat} {L PC : List Nat} {D : Nat → Nat → Nat} {C9 : Nat → Nat} {f : Nat → va_E} {T : TS} {v : Nat → Int32} {A : Nat → Nat → Int32} {B : Nat → Nat → Int64} {k : KS} {H : Heap} {locs : List Loc} {ls : Array Slot} {cells slots : Nat} (kk : lwK p l e s m below meth c b G o mo r ou i) (hI : LI G L f o T PC D C9 mo r v A B ou) (hJ : JI v A k) (hq : eqC T.v T.A v A) (hN : k.N = T.k.N) (hq1 : k.q 1 = T.k.q 1) (hce : k.ce = T.k.ce) (htm : k.tm = T.k.tm) (hX : k.X = T.k.X) (hM : pgS G (pgA [] s.heap.size) s.heap L f H locs) (hl : lo ls (lwV b o mo ou i)) (hc : cells ≤ lwC (i + 1) v k) (hs : slots ≤ lwS (i + 1) v k) : W p l e room_1 s m #[Value.ref b] below meth c H locs cells slots (lw_Z below #[Value.ref b] s) (F0 m 570 ls []) :=
  W.widen hc hs (kk _ _ _ _ _ _ _ _ _ _ _ _ (hI.as (T' := (v, A, k)) hq hN hq1 hce htm hX) hJ hM hl)
