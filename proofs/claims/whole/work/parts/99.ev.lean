theorem lw_classes {s : State} {args : Array Value} (hb : ∀ w ∈ bg, w.before args s = true) : ∃ D : va_G, ∀ (c : Nat) (q : vw_C), cl[c]? = some q → u_Kn s q.1 q.2.1 q.2.2 (D.1 c) (D.2 c) := by
  have h : ∀ c : Nat, ∃ x : ClassId × (Nat → Nat), ∀ q : vw_C, cl[c]? = some q → u_Kn s q.1 q.2.1 q.2.2 x.1 x.2 := by
    intro c
    match c with
    | 0 => obtain ⟨a, i, h⟩ := u_known hb in_FF (hb _ tw_27); exact ⟨(a, i), fun q hq => by cases hq; exact h⟩
    | 1 => obtain ⟨a, i, h⟩ := u_known hb in_Map (hb _ tw_35); exact ⟨(a, i), fun q hq => by cases hq; exact h⟩
    | 2 => obtain ⟨a, i, h⟩ := u_known hb in_Air (hb _ tw_46); exact ⟨(a, i), fun q hq => by cases hq; exact h⟩
    | 3 => obtain ⟨a, i, h⟩ := u_known hb in_AL (hb _ tw_52); exact ⟨(a, i), fun q hq => by cases hq; exact h⟩
    | 4 => obtain ⟨a, i, h⟩ := u_known hb in_Cel (hb _ tw_397); exact ⟨(a, i), fun q hq => by cases hq; exact h⟩
    | 5 => obtain ⟨a, i, h⟩ := u_known hb in_Let (hb _ tw_634); exact ⟨(a, i), fun q hq => by cases hq; exact h⟩
    | 6 => obtain ⟨a, i, h⟩ := u_known hb in_Mov (hb _ tw_750); exact ⟨(a, i), fun q hq => by cases hq; exact h⟩
    | 7 => obtain ⟨a, i, h⟩ := u_known hb in_Tsk (hb _ tw_582); exact ⟨(a, i), fun q hq => by cases hq; exact h⟩
    | 8 => obtain ⟨a, i, h⟩ := u_known hb in_Veh (hb _ tw_467); exact ⟨(a, i), fun q hq => by cases hq; exact h⟩
    | 9 => obtain ⟨a, i, h⟩ := u_known hb in_Pln (hb _ tw_521); exact ⟨(a, i), fun q hq => by cases hq; exact h⟩
    | 10 => obtain ⟨a, i, h⟩ := u_known hb in_Mod (hb _ tw_777); exact ⟨(a, i), fun q hq => by cases hq; exact h⟩
    | n + 11 => exact ⟨(0, fun _ => 0), fun q hq => by cases hq⟩
  obtain ⟨F, hF⟩ := Classical.axiomOfChoice h
  exact ⟨(fun c => (F c).1, fun c => (F c).2), fun c q hq => hF c q hq⟩
theorem lw_arrP {s : State} {args : Array Value} {ty : FieldType} (h : (Cond.arrayClass ty).before args s = true) : ∃ cA : ClassId, ArrOfT s cA ty ∧ s.vm.findClass ("[" ++ ty.toString) = some cA := by
  obtain ⟨c, k, comp, h1, h2, h3⟩ := Cond.arrayClass_spec h
  exact ⟨c, fun n z => ⟨fun k h => (by cases h), k, h2, comp, h3⟩, h1⟩
theorem lw_arrO {s : State} {args : Array Value} {E : String} (h : (Cond.arrayOver (.object E)).before args s = true) : ∃ cA : ClassId, ArrOfT s cA (.object E) ∧ va_RA s cA (.object E) := by
  obtain ⟨comp, c, k, h1, -, h2, h3, h4⟩ := Cond.arrayOver_spec h
  exact ⟨c, fun n z => ⟨fun k h => (by cases h), k, h2, comp, h3⟩, k, comp, h2, h3, h1, h4⟩
abbrev eDt : Term := .static "java/util/ArrayList" "DEFAULTCAPACITY_EMPTY_ELEMENTDATA" "[Ljava/lang/Object;"
theorem lw_len0 {s : State} {args : Array Value} (h : (Cond.eq (.length eDt) (.int 0)).before args s = true) : (Term.length eDt).eval args s none [] s = some (.int (Int32.ofNat 0)) := by
  simp only [Cond.before, Cond.holds, Cond.value] at h
  cases hv : (Term.length eDt).eval args s none [] s with
  | none => rw [hv] at h; simp at h
  | some v =>
    rw [hv] at h
    have e2 : (Term.int 0).eval args s none [] s = some (.int 0) := rfl
    rw [e2] at h
    cases v <;> simp_all
def idF (a0 a1 a2 a3 a4 a5 mi : Nat) : Nat → Nat
  | 0 => a0
  | 1 => a1
  | 2 => a2
  | 3 => a3
  | 4 => a4
  | 5 => a5
  | _ => mi
theorem lw_str {s : State} {args : Array Value} {k : Nat} {tx : String} (h1 : (Cond.stringRef "FleetFloor" k tx).before args s = true) (h2 : (Cond.exactly (.string "FleetFloor" k) "java/lang/String").before args s = true) : ∃ a : Nat, vk_R "FleetFloor" k tx a s := by
  obtain ⟨a, c, cell, k, h, -⟩ := Cond.exactly_spec h2
  exact ⟨a, vk_R.of h1 h⟩
set_option maxRecDepth 100000 in
theorem lw_ev {s : State} {b : Nat} (hts : ∀ w ∈ lw_tbl, w.before #[Value.ref b] s = true) (hgv : (Jvm.Cond.and given_1 narrow_1).before #[Value.ref b] s = true) : ∃ G : GG, ev G (pgA [] s.heap.size) s s.heap := by
  have hb : ∀ w ∈ bg, w.before #[Value.ref b] s = true := fun w h => hts w (List.mem_filter.mp h).1
  have hs := flat_of_before _ hgv
  have hA : ∀ a : Nat, a < s.heap.size → ¬ pgA [] s.heap.size a := fun a h z => z.elim (fun z => absurd z List.not_mem_nil) (fun z => absurd h (Nat.not_lt.mpr z))
  obtain ⟨D, hD⟩ := lw_classes hb
  obtain ⟨a0, p0, q0⟩ := lw_arrP (hb _ tw_44)
  obtain ⟨a1, p1, q1⟩ := lw_arrP (hb _ tw_903)
  obtain ⟨a2, p2, q2⟩ := lw_arrP (hb _ tw_902)
  obtain ⟨a3, p3, q3⟩ := lw_arrO (hts _ tx_84)
  obtain ⟨a4, p4, q4⟩ := lw_arrO (hts _ tx_527)
  obtain ⟨a5, p5, q5⟩ := lw_arrO (hts _ tx_264)
  obtain ⟨mi, hmi⟩ := va_Mi.of (hs (.isRef (.mirror "[Ljava/lang/Object;")) (by decide +kernel))
  obtain ⟨d, hd, hT⟩ := va_Tof (tm := eDt) (N := 0) (f := fun _ => .null) (by decide) (hs (.arrayOf eDt (.object "java/lang/Object")) (by decide +kernel)) (lw_len0 (hs _ (by decide +kernel))) (fun j hj => absurd hj (Nat.not_lt_zero _)) hA
  refine ⟨(D, idF a0 a1 a2 a3 a4 a5 mi, d), ⟨⟨hD, ?_⟩, fun w hw => va_Nw.of (nw_ont w hw) (hts w (nw_in w hw)), va_AO.of (hts _ tx_84), va_AO.of (hts _ tx_527), va_AO.of (hts _ tx_264)⟩, ⟨va_Zof (hts _ tx_64) (hb _ tw_6) hd hA, hT⟩, ⟨hmi, va_Nc.of (hs _ (by decide +kernel)), va_Nc.of (hs _ (by decide +kernel))⟩, ⟨xz.of (hts _ tx_344) (hs _ (by decide +kernel)) hA, xz.of (hts _ tx_346) (hs _ (by decide +kernel)) hA⟩, ?_⟩
  · intro k q hk
    match k with
    | 0 => cases hk; exact ⟨p0, q0⟩
    | 1 => cases hk; exact ⟨p1, q1⟩
    | 2 => cases hk; exact ⟨p2, q2⟩
    | 3 => cases hk; exact ⟨p3, q3⟩
    | 4 => cases hk; exact ⟨p4, q4⟩
    | 5 => cases hk; exact ⟨p5, q5⟩
    | n + 6 => cases hk
  · exact List.forall_mem_cons.mpr ⟨lw_str (hts _ tx_357) (hs _ (by decide +kernel)), List.forall_mem_cons.mpr ⟨lw_str (hts _ tx_456) (hs _ (by decide +kernel)), List.forall_mem_cons.mpr ⟨lw_str (hts _ tx_576) (hs _ (by decide +kernel)), List.forall_mem_cons.mpr ⟨lw_str (hts _ tx_581) (hs _ (by decide +kernel)), List.forall_mem_cons.mpr ⟨lw_str (hts _ tx_612) (hs _ (by decide +kernel)), fun _ h => absurd h List.not_mem_nil⟩⟩⟩⟩⟩
theorem lw_and15 (y : Int32) : ∃ j : Nat, y &&& 15 = nI j ∧ j < 16 := by
  refine ⟨(y.toBitVec &&& 15#32).toNat, ?_, ?_⟩
  · apply Int32.toBitVec_inj.mp
    show y.toBitVec &&& 15#32 = BitVec.ofNat 32 (y.toBitVec &&& 15#32).toNat
    rw [BitVec.ofNat_toNat]
    simp
  · rw [BitVec.toNat_and]
    exact Nat.lt_of_le_of_lt (Nat.and_le_right) (by decide)
theorem lw_cmp {Lx i : Nat} (hL : Lx ≤ 2048) (hi : i ≤ 512) : (Int32.ofNat Lx - 4 < nI (4 * i)) ↔ Lx < 4 * i + 4 := by
  have h1 : (nI (4 * i)).toInt = ((4 * i : Nat) : Int) := nI_toInt (by omega)
  have h2 : (Int32.ofNat Lx).toInt = (Lx : Int) := nI_toInt (n := Lx) (by omega)
  have h3 : (Int32.ofNat Lx - 4).toInt = (Lx : Int) - 4 := by
    rw [Int32.toInt_sub, h2, show (4 : Int32).toInt = 4 from rfl]
    have e : (2 : Int) ^ 32 = 4294967296 := by decide
    rw [Int.bmod_eq_of_le (by omega) (by omega)]
  rw [Int32.lt_iff_toInt_lt, h1, h3]
  omega
theorem lw_body {p : Program} {l : Launch} {e : Env} {s : State} {m : MethodId} {below : List Frame} {meth : Method} {c : Code} {b Lx : Nat} {xs : Nat → Int32} {G : GG} {o mo ou : Nat} {r : Nat → Nat} {i : Nat} {L PC : List Nat} {D : Nat → Nat → Nat} {C9 : Nat → Nat} {f : Nat → va_E} {v : Nat → Int32} {A : Nat → Nat → Int32} {B : Nat → Nat → Int64} {k : KS} {H : Heap} {locs : List Loc} {ls : Array Slot} (hfl : l.flags = flags0) (C : CallFix p m c c_Law_law 7 s #[Value.ref b] bg "FleetFloorLaw") (hE : ev G (pgA [] s.heap.size) s s.heap) (hX : va_X b Lx xs s s.heap) (hbl : b < s.heap.size) (hL : Lx ≤ 2048) (hi : 4 * i + 4 ≤ Lx) (hI : LI G L f o (v, A, k) PC D C9 mo r v A B ou) (hJ : JI v A k) (hM : pgS G (pgA [] s.heap.size) s.heap L f H locs) (hl : lo ls (lwV b o mo ou i)) (kk : lwK p l e s m below meth c b G o mo r ou i) : W p l e room_1 s m #[Value.ref b] below meth c H locs (lwC i v k) (lwS i v k) (lw_Z below #[Value.ref b] s) (F0 m 32 ls []) := by
  have hbA : ¬ pgA [] s.heap.size b := fun z => z.elim (fun z => absurd z List.not_mem_nil) (fun z => absurd hbl (Nat.not_lt.mpr z))
  refine lv_aload_n C.1 C.2.1 d_Law_law_32 rfl (lo_at hl 0 rfl) ?_
  refine lv_iload C.1 C.2.1 d_Law_law_33 (lo_at hl 4 rfl) ?_
  have hcl : (nI (4 * i)).toNatClampNeg = 4 * i := nI_clamp (by omega)
  refine va_sld C.1 C.2.1 hX hbl hbA hM.2.2.1 (i := nI (4 * i)) ?_ d_Law_law_35 ?_
  · intro z
    rcases z with z | z
    · exact absurd z (nI_nn (by omega))
    · rw [hcl] at z; omega
  rw [hcl]
  refine lv_bipush (v := 15) C.1 C.2.1 d_Law_law_36 (by decide) ?_
  refine lv_iand C.1 C.2.1 d_Law_law_38 ?_
  obtain ⟨j, hj, hj16⟩ := lw_and15 (xs (4 * i))
  rw [hj]
  clear hj
  match j, hj16 with
  | 0, _ =>
    refine lv_tableIn (tgt := 104) (off := 65) C.1 C.2.1 d_Law_law_39 (by decide) (by decide) rfl (by decide) ?_
    exact lw_cell C hE hX hbl hL hi hI hJ hM hl kk
  | 1, _ =>
    refine lv_tableIn (tgt := 141) (off := 102) C.1 C.2.1 d_Law_law_39 (by decide) (by decide) rfl (by decide) ?_
    rcases hJ.op with hv | hv
    · rcases Classical.em (good (A 2)) with hg | hg
      · exact lw_open_ok C hE hX hbl hL hi hI hJ hM hl kk hv.1 hg
      · exact lw_open_I C hE hX hbl hL hi hI hJ hM hl kk hfl hv.1 hg
    · exact lw_open_S C hE hX hbl hL hi hI hJ hM hl kk hfl hv.1 hv.2
  | 2, _ =>
    refine lv_tableIn (tgt := 185) (off := 146) C.1 C.2.1 d_Law_law_39 (by decide) (by decide) rfl (by decide) ?_
    rcases lw_v1 hJ with hv | hv
    · exact lw_task_S C hE hX hbl hL hi hI hJ hM hl kk hfl (Or.inl hv)
    · by_cases hn2 : k.N 2 < 24
      · by_cases hab : inb (xs (4 * i + 1)) 0 (v 3 - 1) ∧ inb (xs (4 * i + 2)) 0 (v 3 - 1)
        · have h3 := hJ.n3.2
          obtain ⟨a, ea, ha⟩ := (inb_iff (by omega) hJ.n3.1).mp hab.1
          obtain ⟨b9, eb, hb9⟩ := (inb_iff (by omega) hJ.n3.1).mp hab.2
          exact lw_task_ok C hE hX hbl hL hi hI hJ hM hl kk hv hn2 a b9 ea eb ha hb9
        · exact lw_task_I C hE hX hbl hL hi hI hJ hM hl kk hfl hv hn2 hab
      · exact lw_task_S C hE hX hbl hL hi hI hJ hM hl kk hfl (Or.inr hn2)
  | 3, _ =>
    refine lv_tableIn (tgt := 253) (off := 214) C.1 C.2.1 d_Law_law_39 (by decide) (by decide) rfl (by decide) ?_
    rcases lw_v1 hJ with hv | hv
    · exact lw_tick_S C hE hX hbl hL hi hI hJ hM hl kk hfl hv
    · exact lw_tick_ok C hE hX hbl hL hi hI hJ hM hl kk hv
  | 4, _ =>
    refine lv_tableIn (tgt := 297) (off := 258) C.1 C.2.1 d_Law_law_39 (by decide) (by decide) rfl (by decide) ?_
    exact lw_letters C hE hX hbl hL hi hI hJ hM hl kk
  | 5, _ =>
    refine lv_tableIn (tgt := 310) (off := 271) C.1 C.2.1 d_Law_law_39 (by decide) (by decide) rfl (by decide) ?_
    exact lw_letter C hE hX hbl hL hi hI hJ hM hl kk
  | 6, _ =>
    refine lv_tableIn (tgt := 347) (off := 308) C.1 C.2.1 d_Law_law_39 (by decide) (by decide) rfl (by decide) ?_
    exact lw_deliver C hE hX hbl hL hi hI hJ hM hl kk
  | 7, _ =>
    refine lv_tableIn (tgt := 372) (off := 333) C.1 C.2.1 d_Law_law_39 (by decide) (by decide) rfl (by decide) ?_
    exact lw_lose C hE hX hbl hL hi hI hJ hM hl kk
  | 8, _ =>
    refine lv_tableIn (tgt := 397) (off := 358) C.1 C.2.1 d_Law_law_39 (by decide) (by decide) rfl (by decide) ?_
    exact lw_twin C hE hX hbl hL hi hI hJ hM hl kk
  | 9, _ =>
    refine lv_tableIn (tgt := 422) (off := 383) C.1 C.2.1 d_Law_law_39 (by decide) (by decide) rfl (by decide) ?_
    exact lw_vehicle C hE hX hbl hL hi hI hJ hM hl kk
  | 10, _ =>
    refine lv_tableIn (tgt := 459) (off := 420) C.1 C.2.1 d_Law_law_39 (by decide) (by decide) rfl (by decide) ?_
    exact lw_move C hE hX hbl hL hi hI hJ hM hl kk
  | 11, _ =>
    refine lv_tableIn (tgt := 508) (off := 469) C.1 C.2.1 d_Law_law_39 (by decide) (by decide) rfl (by decide) ?_
    exact lw_taskOf C hE hX hbl hL hi hI hJ hM hl kk
  | 12, _ =>
    refine lv_tableIn (tgt := 545) (off := 506) C.1 C.2.1 d_Law_law_39 (by decide) (by decide) rfl (by decide) ?_
    exact lw_count C hE hX hbl hL hi hI hJ hM hl kk
  | 13, _ =>
    refine lv_tableOut (tgt := 570) C.1 C.2.1 d_Law_law_39 (Or.inr (by decide)) (by decide) ?_
    exact lw_go kk hI hJ (eqC.refl _ _) rfl rfl rfl rfl rfl hM hl (lwC_up (a := 0) rfl rfl (Nat.le_of_ble_eq_true rfl)) (lwS_up (a := 0) rfl rfl (Nat.le_of_ble_eq_true rfl))
  | 14, _ =>
    refine lv_tableOut (tgt := 570) C.1 C.2.1 d_Law_law_39 (Or.inr (by decide)) (by decide) ?_
    exact lw_go kk hI hJ (eqC.refl _ _) rfl rfl rfl rfl rfl hM hl (lwC_up (a := 0) rfl rfl (Nat.le_of_ble_eq_true rfl)) (lwS_up (a := 0) rfl rfl (Nat.le_of_ble_eq_true rfl))
  | 15, _ =>
    refine lv_tableOut (tgt := 570) C.1 C.2.1 d_Law_law_39 (Or.inr (by decide)) (by decide) ?_
    exact lw_go kk hI hJ (eqC.refl _ _) rfl rfl rfl rfl rfl hM hl (lwC_up (a := 0) rfl rfl (Nat.le_of_ble_eq_true rfl)) (lwS_up (a := 0) rfl rfl (Nat.le_of_ble_eq_true rfl))
  | n + 16, h => exact absurd h (by omega)
theorem lw_loop {p : Program} {l : Launch} {e : Env} {s : State} {m : MethodId} {below : List Frame} {meth : Method} {c : Code} {b Lx : Nat} {xs : Nat → Int32} {G : GG} {o mo ou : Nat} {r : Nat → Nat} (hfl : l.flags = flags0) (hr : meth.sig.returnType = ret) (hlk : meth.locks = false) (C : CallFix p m c c_Law_law 7 s #[Value.ref b] bg "FleetFloorLaw") (hE : ev G (pgA [] s.heap.size) s s.heap) (hX : va_X b Lx xs s s.heap) (hbl : b < s.heap.size) (hL : Lx ≤ 2048) : ∀ (n i : Nat) (L PC : List Nat) (D : Nat → Nat → Nat) (C9 : Nat → Nat) (f : Nat → va_E) (v : Nat → Int32) (A : Nat → Nat → Int32) (B : Nat → Nat → Int64) (k : KS) (H : Heap) (locs : List Loc) (ls : Array Slot), Lx < 4 * (i + n) + 4 → i ≤ 512 → LI G L f o (v, A, k) PC D C9 mo r v A B ou → JI v A k → pgS G (pgA [] s.heap.size) s.heap L f H locs → lo ls (lwV b o mo ou i) → W p l e room_1 s m #[Value.ref b] below meth c H locs (lwC i v k) (lwS i v k) (lw_Z below #[Value.ref b] s) (F0 m 23 ls []) := by
  have hbA : ¬ pgA [] s.heap.size b := fun z => z.elim (fun z => absurd z List.not_mem_nil) (fun z => absurd hbl (Nat.not_lt.mpr z))
  intro n
  induction n with
  | zero =>
    intro i L PC D C9 f v A B k H locs ls hn hi hI hJ hM hl
    obtain ⟨hw1, hw2⟩ := lwC_le (i := i) (v := v) (k := k) hi hJ.np
    refine lv_iload C.1 C.2.1 d_Law_law_23 (lo_at hl 4 rfl) ?_
    refine lv_aload_n C.1 C.2.1 d_Law_law_25 rfl (lo_at hl 0 rfl) ?_
    refine va_slen C.1 C.2.1 hX hbl hbA hM.2.2.1 d_Law_law_26 ?_
    refine lv_iconst (v := 4) C.1 C.2.1 d_Law_law_27 (by decide) ?_
    refine lv_isub C.1 C.2.1 d_Law_law_28 ?_
    refine lv_icmp_gt (tgt := 576) C.1 C.2.1 d_Law_law_29 (by decide) (fun _ => ?_) (fun h => absurd ((lw_cmp hL hi).mpr (by omega)) h)
    refine lv_iconst (v := 1) C.1 C.2.1 d_Law_law_576 (by decide) ?_
    refine va_forget (fun q hq => (hM.2.2.1.2.2 q hq).elim (fun z => absurd z List.not_mem_nil) id) ?_
    exact W.widen (by omega) (by omega) (lw_ret C.1 C.2.1 hr hlk d_Law_law_577)
  | succ n ih =>
    intro i L PC D C9 f v A B k H locs ls hn hi hI hJ hM hl
    obtain ⟨hw1, hw2⟩ := lwC_le (i := i) (v := v) (k := k) hi hJ.np
    refine lv_iload C.1 C.2.1 d_Law_law_23 (lo_at hl 4 rfl) ?_
    refine lv_aload_n C.1 C.2.1 d_Law_law_25 rfl (lo_at hl 0 rfl) ?_
    refine va_slen C.1 C.2.1 hX hbl hbA hM.2.2.1 d_Law_law_26 ?_
    refine lv_iconst (v := 4) C.1 C.2.1 d_Law_law_27 (by decide) ?_
    refine lv_isub C.1 C.2.1 d_Law_law_28 ?_
    refine lv_icmp_gt (tgt := 576) C.1 C.2.1 d_Law_law_29 (by decide) (fun _ => ?_) (fun h => ?_)
    · refine lv_iconst (v := 1) C.1 C.2.1 d_Law_law_576 (by decide) ?_
      refine va_forget (fun q hq => (hM.2.2.1.2.2 q hq).elim (fun z => absurd z List.not_mem_nil) id) ?_
      exact W.widen (by omega) (by omega) (lw_ret C.1 C.2.1 hr hlk d_Law_law_577)
    · have hi4 : 4 * i + 4 ≤ Lx := Nat.le_of_not_lt (fun z => h ((lw_cmp hL hi).mpr z))
      refine lw_body hfl C hE hX hbl hL hi4 hI hJ hM hl ?_
      intro L PC D C9 f v A B k H locs ls hI hJ hM hl
      refine lo_iinc C hl d_Law_law_570 rfl rfl (fun ls hl => ?_)
      refine lv_goto (tgt := 23) C.1 C.2.1 d_Law_law_573 (by decide) ?_
      have e4 : nI (4 * i) + Int32.ofInt 4 = nI (4 * (i + 1)) := by rw [show Int32.ofInt 4 = nI 4 from rfl, nI_add]; rfl
      rw [e4] at hl
      exact ih (i + 1) L PC D C9 f v A B k H locs ls (by omega) (by omega) hI hJ hM hl
