theorem vV_Mod : ∀ j, j < 40 → defaultValue (ty_Mod j) = vp_V [.int 0, .int 0, .null, .int 0, .int 0, .null, .null, .null, .null, .int 0, .int 0, .null, .null, .null, .null, .null, .null, .null, .null, .int 0, .null, .null, .null, .null, .null, .null, .null, .null, .null, .int 0, .int 0, .int 0, .null, .null, .null, .null, .null, .null, .int 0, .int 0] j := fun j hj => match j, hj with
  | 0, _ => rfl
  | 1, _ => rfl
  | 2, _ => rfl
  | 3, _ => rfl
  | 4, _ => rfl
  | 5, _ => rfl
  | 6, _ => rfl
  | 7, _ => rfl
  | 8, _ => rfl
  | 9, _ => rfl
  | 10, _ => rfl
  | 11, _ => rfl
  | 12, _ => rfl
  | 13, _ => rfl
  | 14, _ => rfl
  | 15, _ => rfl
  | 16, _ => rfl
  | 17, _ => rfl
  | 18, _ => rfl
  | 19, _ => rfl
  | 20, _ => rfl
  | 21, _ => rfl
  | 22, _ => rfl
  | 23, _ => rfl
  | 24, _ => rfl
  | 25, _ => rfl
  | 26, _ => rfl
  | 27, _ => rfl
  | 28, _ => rfl
  | 29, _ => rfl
  | 30, _ => rfl
  | 31, _ => rfl
  | 32, _ => rfl
  | 33, _ => rfl
  | 34, _ => rfl
  | 35, _ => rfl
  | 36, _ => rfl
  | 37, _ => rfl
  | 38, _ => rfl
  | 39, _ => rfl
  | n + 40, h => absurd h (by omega)
theorem whole_start {p : Program} {e : Env} {s : State} {m : MethodId} {below : List Frame} {meth : Method} {c : Code} (l : Launch) (hfl : l.flags = flags0) {b L : Nat} {xs : Nat → Int32} (hL : L ≤ 2048) (C0 : lw_At p s m meth c b L xs) : W p l e room_1 s m #[Value.ref b] below meth c s.heap [] 0 0 (lw_Z below #[Value.ref b] s) (entryFrame m ([Value.ref b] : List Value).toArray 7) := by
  obtain ⟨hx, hb, hr, hml, hown, hts, hX, hbl, hlk, hgv⟩ := C0
  obtain ⟨G, hE⟩ := lw_ev hts hgv
  have h3 := ids_ne hE
  have C : CallFix p m c c_Law_law 7 s #[Value.ref b] bg "FleetFloorLaw" := ⟨hx, hb, hml, hown, fun w h => hts w (List.mem_filter.mp h).1⟩
  have hl0 := lv_entry [Value.ref b] (n := 7) (Nat.le_of_ble_eq_true rfl)
  rw [lg_entry_eq]
  generalize (lg_sl [Value.ref b] ++ List.replicate (7 - (lg_sl [Value.ref b]).length) Slot.unset).toArray = ls at hl0 ⊢
  have hl : lo ls [some (.ref b), none, none, none, none, none, none] := by unfold lo; exact hl0
  clear hl0
  have hM : pgS G (pgA [] s.heap.size) s.heap [] (fun _ => .inr (0, [])) s.heap [] := ⟨fun k x h => (by cases h), ⟨fun i j x y h => (by cases h), fun k q h => (by cases h)⟩, va_S.rf, fun q h => Or.inr h⟩
  refine cg_new C hE hM (ci := 0) (fs := [.null, .null, .null, .null, .null, .null, .int 0, .int 0, .int 0]) rfl in_FF ok_FF tw_26 tw_27 tw_1 vV_FF (Nat.le_of_ble_eq_true rfl) (Nat.le_of_ble_eq_true rfl) d_Law_law_0 (fun o P1 f1 H1 hq1 hP1 hf1 hM => ?_)
  have hmo : o ∈ P1 := by rw [hP1]; exact List.mem_singleton.mpr rfl
  have hco : f1 o = .inr (0, [.null, .null, .null, .null, .null, .null, .int 0, .int 0, .int 0]) := (congrFun hf1 o).trans (va_up_self _ _ _)
  have hW1 : lsW G P1 f1 := by
    have key : ∀ a d n m, a ∈ P1 → f1 a = .inr (3, [.ref d, n, m]) → False := fun a d n m ha h => by
      rw [hP1] at ha
      rw [List.mem_singleton.mp ha, hco] at h
      cases h
    exact ⟨fun b1 b2 d n1 n2 m1 m2 hb1 hb2 h1 h2 hd => (key b1 _ _ _ hb1 h1).elim, fun a d n m ha h => (key a _ _ _ ha h).elim⟩
  refine lv_dup C.1 C.2.1 d_Law_law_3 rfl ?_
  refine cg_callIA C hE hM (k_FF_init l G o hmo hco hW1) tw_28 cy_FF_init ⟨(Nat.le_of_ble_eq_true rfl), (Nat.le_of_ble_eq_true rfl)⟩ rfl hl.1 rfl (Nat.le_of_ble_eq_true rfl) ⟨by show _ ≤ 601024; omega, by show _ ≤ 7293034; omega⟩ d_Law_law_4 (fun x9 N1 P2 f2 H1 locs1 hP2 hp hM => ?_)
  obtain ⟨hx9, D, hS⟩ := hp
  subst hx9
  rw [← hP2] at hS
  refine W.eq (g2 := F0 m 7 ls [_]) rfl ?_
  refine lo_astore_n C hl d_Law_law_7 (Nat.le_of_ble_eq_true rfl) rfl (fun ls hl => ?_)
  refine cg_new C hE hM (ci := 10) (fs := [.int 0, .int 0, .null, .int 0, .int 0, .null, .null, .null, .null, .int 0, .int 0, .null, .null, .null, .null, .null, .null, .null, .null, .int 0, .null, .null, .null, .null, .null, .null, .null, .null, .null, .int 0, .int 0, .int 0, .null, .null, .null, .null, .null, .null, .int 0, .int 0]) rfl in_Mod ok_Mod tw_776 tw_777 tw_7 vV_Mod (Nat.le_of_ble_eq_true rfl) (Nat.le_of_ble_eq_true rfl) d_Law_law_8 (fun mo P3 f3 H1 hq3 hP3 hf3 hM => ?_)
  have hmm : mo ∈ P3 := by rw [hP3]; exact List.mem_append_right _ (List.mem_singleton.mpr rfl)
  have hcm : f3 mo = .inr (10, [.int 0, .int 0, .null, .int 0, .int 0, .null, .null, .null, .null, .int 0, .int 0, .null, .null, .null, .null, .null, .null, .null, .null, .int 0, .null, .null, .null, .null, .null, .null, .null, .null, .null, .int 0, .int 0, .int 0, .null, .null, .null, .null, .null, .null, .int 0, .int 0]) := (congrFun hf3 mo).trans (va_up_self _ _ _)
  have hne3 : ∀ q ∈ P2, q ≠ mo := fun q hq z => hq3 (z ▸ hq)
  have hS := hS.kept (f1 := f3) (fun q hq => by rw [hf3]; exact va_up_ne _ _ (hne3 q hq)) h3
  have hsub3 : ∀ q ∈ P2, q ∈ P3 := fun q hq => by rw [hP3]; exact List.mem_append_left _ hq
  refine lv_dup C.1 C.2.1 d_Law_law_11 rfl ?_
  refine cg_callIA C hE hM (ct_sub (k_Mod_init l G mo [mo] f3 (List.mem_singleton.mpr rfl) hcm) (fun q hq => by rw [List.mem_singleton.mp hq]; exact hmm) (List.pairwise_singleton _ _)) tw_778 cy_Mod_init ⟨(Nat.le_of_ble_eq_true rfl), (Nat.le_of_ble_eq_true rfl)⟩ rfl hl.1 rfl (Nat.le_of_ble_eq_true rfl) ⟨by show _ ≤ 601024; omega, by show _ ≤ 7293034; omega⟩ d_Law_law_12 (fun x9 N2 P4 f4 H1 locs1 hP4 hp hM => ?_)
  obtain ⟨f5, ⟨hx9, hN2, Lm, fs, hmdp, r, hfs, hLm⟩, h1, h2⟩ := hp
  subst hx9
  subst hfs
  subst hLm
  have hmd := (mdp_mdS hmdp).self
  have hnd4 := va_D.nd hM.2.1
  rw [hP4] at hnd4
  obtain ⟨b1, b2, b3⟩ := List.nodup_append.mp hnd4
  have hmd4 := hmd.on (f1 := f4) (L1 := P4) (fun q hq => by
    rw [hP4]
    rcases List.mem_append.mp hq with z | z
    · rw [List.mem_singleton.mp z]; exact List.mem_append_left _ hmm
    · exact List.mem_append_right _ z) (h1 mo (Or.inl (List.mem_singleton.mpr rfl))) (fun j hj => h1 (r j) (List.mem_append.mp (hmd.1.2 j hj)))
  have hrN : ∀ j, mdR j = true → r j ∈ N2 := fun j hj => (List.mem_append.mp (hmd.1.2 j hj)).resolve_left (fun z => hmd.2.1.1 j hj (List.mem_singleton.mp z))
  have hS := hS.kept (f1 := f4) (fun q hq => h2 q (hsub3 q hq) (fun z => hne3 q hq (List.mem_singleton.mp z))) h3
  have hsub4 : ∀ q ∈ P2, q ∈ P4 := fun q hq => by rw [hP4]; exact List.mem_append_left _ (hsub3 q hq)
  refine W.eq (g2 := F0 m 15 ls [_]) rfl ?_
  refine lo_astore_n C hl d_Law_law_15 (Nat.le_of_ble_eq_true rfl) rfl (fun ls hl => ?_)
  refine lv_iconst (v := 1) C.1 C.2.1 d_Law_law_16 (by decide) ?_
  refine pg_newL C hE hM tw_903 (x := 1) (N := 1) (by decide) rfl (by decide) (Nat.le_of_ble_eq_true rfl) (Nat.le_of_ble_eq_true rfl) d_Law_law_17 (fun ou H1 hqo hM => ?_)
  refine lo_astore_n C hl d_Law_law_19 (Nat.le_of_ble_eq_true rfl) rfl (fun ls hl => ?_)
  refine lv_iconst (v := 0) C.1 C.2.1 d_Law_law_20 (by decide) ?_
  refine lo_istore C hl d_Law_law_21 (Nat.le_of_ble_eq_true rfl) rfl (fun ls hl => ?_)
  have hneo : ∀ q ∈ P4, q ≠ ou := fun q hq z => hqo (z ▸ hq)
  have hI : LI G (P4 ++ [ou]) (va_up f4 ou (.inl (G.2.1 1, 1, .inr (.inl (fun _ => 0))))) o (fun _ => 0, fun _ _ => 0, kIni) P2 D (fun _ => 0) mo r (fun _ => 0) (fun _ _ => 0) (fun _ _ => 0) ou := by
    refine ⟨hS.kept (fun q hq => va_up_ne _ _ (hneo q (hsub4 q hq))) h3, hmd4.on (fun q hq => List.mem_append_left _ hq) (va_up_ne _ _ (hneo _ hmd4.1.1)) (fun j hj => va_up_ne _ _ (hneo _ (hmd4.1.2 j hj))), ?_, fun q hq => ⟨List.mem_append_left _ (hsub4 q hq), hne3 q hq, fun j hj => b3 q (hsub3 q hq) (r j) (hrN j hj), hneo q (hsub4 q hq)⟩, ⟨List.mem_append_right _ (List.mem_singleton.mpr rfl), Ne.symm (hneo _ hmd4.1.1), fun j hj => Ne.symm (hneo _ (hmd4.1.2 j hj))⟩, _, va_up_self _ _ _⟩
    rw [hP3] at b1
    exact (List.nodup_append.mp b1).1
  exact W.widen (by show _ ≤ 100; omega) (by show _ ≤ 10000; omega) (lw_loop hfl hr hlk C hE hX hbl hL 512 0 (P4 ++ [ou]) P2 D (fun _ => 0) _ (fun _ => 0) (fun _ _ => 0) (fun _ _ => 0) kIni _ _ _ (by omega) (by omega) hI ini_JI hM (lo_weak hl ⟨rfl, rfl, rfl, rfl, rfl, trivial⟩))
set_option maxHeartbeats 4000000 in
theorem lw_walk (l : Launch) (hfl : l.flags = flags0) (b : Addr) (xs : List Int32) : MetFree l x (headSpec (Jvm.Cond.code x code maxLocals ret :: tables_1) room_1) (lw_P b xs) (fun _ _ _ _ _ => True) lw_Q := by
  refine MetFree.of_bodyS (code := code) (maxLocals := maxLocals) (ret := ret) (by decide) ?_ ?_
  · intro args s m h hn
    obtain ⟨meth, c, h1, h2, h3, h4, h5, h6, -, -⟩ := Cond.code_spec hn (atoms_spec (ws := Jvm.Cond.code x code maxLocals ret :: tables_1) h _ List.mem_cons_self)
    exact ⟨meth, c, h1, h2, h3, h4, h5, h6⟩
  · intro p e s m args below meth c s₁ B hml0 hP _
    obtain ⟨rfl, hx, hbd, hgv⟩ := hP
    obtain ⟨scr, harrAt, hlist, hof, hsmall⟩ := hx
    obtain ⟨hcb, hkn, -, -⟩ := State.arrayAt?_spec harrAt
    have hown : s.vm.findClass R_law = some m.cls := findClass_of_methodNamed B.named
    have hts0 : ∀ c ∈ (Jvm.Cond.code x code maxLocals ret :: tables_1), c.before #[Value.ref b] s = true := atoms_spec (ws := Jvm.Cond.code x code maxLocals ret :: tables_1) B.pre
    have hts : ∀ w ∈ lw_tbl, w.before #[Value.ref b] s = true := k2_hts_sels lw_privs (fun w hw => hts0 w (List.mem_cons_of_mem _ hw)) lw_privs_ok
    have hml : c.maxLocals = 7 := B.maxLocals_eq (hts0 _ List.mem_cons_self)
    have X₀ : Stand p l e room_1 s m #[Value.ref b] below meth c s₁ [] 0 0 := Stand.of_body B
    have hh0 : s₁.heap = s.heap := by rw [B.state]; rfl
    have hsz : scr.slots.size = xs.length := by rw [← Array.length_toList, hlist, List.length_map]
    have hval : ∀ j : Nat, j < xs.length → scr.slots[j]? = some (.int (xs.getD j 0)) := fun j hj => by
      rw [← Array.getElem?_toList, hlist]
      simp [hj]
    have hbl : b < s.heap.size := (Array.getElem?_eq_some_iff.mp hcb).1
    have hX : va_X b xs.length (fun j => xs.getD j 0) s s.heap := ⟨scr, hcb, hof, hkn, hsz, hval⟩
    have K : W p l e room_1 s m #[Value.ref b] below meth c s₁.heap [] 0 0 (lw_Z below #[Value.ref b] s) (entryFrame m ([Value.ref b] : List Value).toArray 7) := by
      rw [hh0]
      exact whole_start l hfl hbd ⟨B.exec, B.bytes, B.returns, hml, hown, hts, hX, hbl, B.notSynchronized, hgv⟩
    obtain ⟨t, a1, o, b1, b2, b3⟩ := K s₁ rfl X₀
    exact ⟨t, o, a1, b1, b2, b3⟩
theorem lw_pre_spec {args : Array Value} {s : State} (h : (Jvm.Cond.and given_1 narrow_1).before args s = true) (hr : rest_1_c.before args s = true) : ∃ (b : Addr) (xs : List Int32), lw_P b xs args s := by
  have hs := flat_of_before _ h
  have hq := flat_of_before _ hr
  have hc : (Cond.count 1).before args s = true := hs _ (by decide +kernel)
  have harr : (Cond.arrayOf (.arg 0) .int).before args s = true := hs _ (by decide +kernel)
  have hle : (Cond.le (.length (.arg 0)) (.int 2048)).before args s = true := hs _ (by decide +kernel)
  have hlen : (Cond.isInt (.length (.arg 0))).before args s = true := hq _ (by decide +kernel)
  have hall : (Cond.all (.arg 0) (.isInt (.elem (.arg 0) (.index 0)))).before args s = true := hq _ (by decide +kernel)
  obtain ⟨b, xs, hb, hx⟩ := State.ints_of_pre rfl harr hlen hall
  have hsm : xs.length < 2 ^ 31 := hx.choose_spec.2.2.2
  have hev : (Term.length (.arg 0)).eval args s none [] s = some (.int xs.length.toInt32) := hx.length_eval hb
  have hv := Cond.le_ints hev (show (Term.int 2048).eval args s none [] s = some (.int 2048) from rfl)
  have hd : xs.length.toInt32 ≤ 2048 := by
    simpa [Cond.before, Cond.holds, hv] using hle
  have hN : xs.length ≤ 2048 := (Int32.ofNat_le_ofNat hsm (by decide)).mp (show Int32.ofNat xs.length ≤ Int32.ofNat 2048 from hd)
  exact ⟨b, xs, Cond.one_arg hc (show args[0]? = some (.ref b) from hb), hx, hN, h⟩
theorem lw_comes (l : Launch) (hfl : l.flags = flags0) : Comes l x (Jvm.Cond.code x code maxLocals ret :: tables_1) room_1 (fun tb e args s => Calls_1 tb e args s ∧ rest_1 tb e args s ∧ Pre_1 tb e args s)
    (fun _ _ args s o t => lw_Q args s o t) := by
  intro p e ha hc hk s m args below hf hfit hheap happ hpre
  obtain ⟨b, xs, hP⟩ := lw_pre_spec hpre.2.2 hpre.2.1
  obtain ⟨k, o, h1, h2, h3, hQ⟩ := lw_walk l hfl b xs p e ha hc hk s m args below hf ((Spec.applies_iff_loose hf).mp happ).1 hP trivial
  exact ⟨k, o, h1, h2, h3, hQ⟩
theorem lw_frame {s t : State} {o : Outcome} {args : Array Value} (h : Framed s o t [] 601024 7293034) :
    Framed s o t (fieldLocs frame_1_writes args s ++ arrayLocs frame_1_arrays args s ++ staticLocs frame_1_statics s) 601024 7293034 := h
theorem lw_limb (L : Cond) (hL : ∀ (args : Array Value) (s t : State), L.after args s (.returned (some (.int 1))) t = true) :
    ArmFor flags0 classFile x code maxLocals ret World_1 tables_1 room_1 Calls_1 rest_1 Pre_1
      (fun tb e a s o t => postC L tb e a s o t ∧ Framed s o t (fieldLocs frame_1_writes a s ++ arrayLocs frame_1_arrays a s ++ staticLocs frame_1_statics s) 601024 7293034) := by
  intro l hfl _ _ p e ha hc hk s m args below hf hfit hheap happ hpre
  obtain ⟨k, o, h1, h2, h3, rfl, hF⟩ := lw_comes l hfl p e ha hc hk s m args below hf hfit hheap happ hpre
  exact ⟨k, _, h1, h2, h3, hL args s _, lw_frame hF⟩
theorem i_vc : Claimed_1_1 ∧ Claimed_1_2 := ⟨lw_limb limb_1_1 (fun args s t => by simp [limb_1_1, Cond.after, Cond.holds, Cond.value]), lw_limb limb_1_2 (fun args s t => Cond.after_iff.mpr (by
  first | (rw [show limb_1_2 = Cond.eq .result (.int 1) from rfl, Cond.eq_ints (x := 1) (y := 1) rfl rfl]; simp; done) | (simp [limb_1_2, Cond.value, Term.eval]; done)))⟩
