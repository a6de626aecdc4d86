/-! which cells a way leads to: ends are come to, never gone on from -/
def RS (K : Nat → Int32) (fr : Nat) : Nat → Nat → Prop
  | 0, d => d = fr
  | n + 1, d => RS K fr n d ∨ ∃ c w, c < 96 ∧ w < 4 ∧ RS K fr n c ∧ (c = fr ∨ K c = 1) ∧ nbq c w = some d ∧ ¬ K d = 0
def RE (K : Nat → Int32) (fr d : Nat) : Prop := ∃ n, RS K fr n d
theorem RE_0 {K : Nat → Int32} {fr : Nat} : RE K fr fr := ⟨0, rfl⟩
theorem RE_step {K : Nat → Int32} {fr c w d : Nat} (hc : c < 96) (hw : w < 4) (h : RE K fr c) (hk : c = fr ∨ K c = 1) (hn : nbq c w = some d) (hd : ¬ K d = 0) : RE K fr d := by
  obtain ⟨n, h⟩ := h
  exact ⟨n + 1, Or.inr ⟨c, w, hc, hw, h, hk, hn, hd⟩⟩
def un (g : Nat → Int32) : Nat → Nat
  | 0 => 0
  | n + 1 => un g n + (if g n = 0 then 1 else 0)
theorem un_congr {g g' : Nat → Int32} : ∀ n, (∀ j, j < n → g j = g' j) → un g n = un g' n := by
  intro n
  induction n with
  | zero => intro _; rfl
  | succ n ih => intro h; rw [un, un, ih (fun j hj => h j (by omega)), h n (by omega)]
theorem un_set {g : Nat → Int32} {d : Nat} (h0 : g d = 0) : ∀ n, d < n → un (upd g d 1) n + 1 = un g n := by
  intro n
  induction n with
  | zero => intro h; omega
  | succ n ih =>
    intro h
    rw [un, un]
    by_cases q : d = n
    · subst q
      rw [pk_us, h0, un_congr d (g := upd g d 1) (g' := g) (fun j hj => pk_un (by omega))]
      simp
    · have := ih (by omega)
      rw [pk_un (show n ≠ d by omega)]
      omega
theorem un_0 {g : Nat → Int32} : ∀ n, (∀ j, j < n → g j = 0) → un g n = n := by
  intro n
  induction n with
  | zero => intro _; rfl
  | succ n ih => intro h; rw [un, ih (fun j hj => h j (by omega)), h n (by omega)]; simp
/-- between two cells of the pile -/
def dO (K g pl : Nat → Int32) (fr n : Nat) : Prop := (∀ d, d < 96 → g d = 0 ∨ g d = 1) ∧ g fr = 1 ∧ (∀ d, d < 96 → g d = 1 → RE K fr d) ∧ (∀ i, i < n → ∃ e, e < 96 ∧ pl i = nI e ∧ g e = 1 ∧ (e = fr ∨ K e = 1)) ∧
  (∀ e, e < 96 → g e = 1 → (e = fr ∨ K e = 1) → (∃ i, i < n ∧ pl i = nI e) ∨ ∀ y, y < 4 → ∀ d, nbq e y = some d → ¬ K d = 0 → g d = 1) ∧ n + un g 96 ≤ 96
/-- .. and while the ways of c are tried -/
def dI (K g pl : Nat → Int32) (fr n c w : Nat) : Prop := (∀ d, d < 96 → g d = 0 ∨ g d = 1) ∧ g fr = 1 ∧ (∀ d, d < 96 → g d = 1 → RE K fr d) ∧ (∀ i, i < n → ∃ e, e < 96 ∧ pl i = nI e ∧ g e = 1 ∧ (e = fr ∨ K e = 1)) ∧
  (∀ e, e < 96 → g e = 1 → (e = fr ∨ K e = 1) → (∃ i, i < n ∧ pl i = nI e) ∨ ∀ y, y < 4 → (e = c → y < w) → ∀ d, nbq e y = some d → ¬ K d = 0 → g d = 1) ∧ n + un g 96 ≤ 95 ∧ c < 96 ∧ g c = 1 ∧ (c = fr ∨ K c = 1)
theorem dO_0 {K g pl : Nat → Int32} {fr : Nat} (hf : fr < 96) (hz : ∀ j, j < 96 → g j = 0) : dO K (upd g fr 1) (upd pl 0 (nI fr)) fr 1 := by
  refine ⟨fun d hd => ?_, pk_us, fun d hd h => ?_, fun i hi => ?_, fun e he h hk => ?_, ?_⟩
  · by_cases q : d = fr
    · rw [q, pk_us]; exact Or.inr rfl
    · rw [pk_un q]; exact Or.inl (hz d hd)
  · by_cases q : d = fr
    · rw [q]; exact RE_0
    · rw [pk_un q, hz d hd] at h; exact absurd h (by decide)
  · have : i = 0 := by omega
    subst this
    exact ⟨fr, hf, pk_us, pk_us, Or.inl rfl⟩
  · by_cases q : e = fr
    · exact Or.inl ⟨0, by omega, by rw [q]; exact pk_us⟩
    · rw [pk_un q, hz e he] at h; exact absurd h (by decide)
  · have := un_set (hz fr hf) 96 hf
    rw [un_0 96 hz] at this
    omega
theorem dO_pop {K g pl : Nat → Int32} {fr n : Nat} (h : dO K g pl fr (n + 1)) : ∃ c, c < 96 ∧ pl n = nI c ∧ dI K g pl fr n c 0 := by
  obtain ⟨h1, h2, h3, h4, h5, h6⟩ := h
  obtain ⟨c, c1, c2, c3, c4⟩ := h4 n (by omega)
  refine ⟨c, c1, c2, h1, h2, h3, fun i hi => h4 i (by omega), fun e he hg hk => ?_, by omega, c1, c3, c4⟩
  rcases h5 e he hg hk with ⟨i, i1, i2⟩ | h
  · by_cases q : i = n
    · subst q
      have : e = c := (nI_eq (by omega) (by omega)).mp (by rw [← i2, c2])
      exact Or.inr (fun y hy hc => absurd (hc this) (Nat.not_lt_zero _))
    · exact Or.inl ⟨i, by omega, i2⟩
  · exact Or.inr (fun y hy _ => h y hy)
theorem dI_skip {K g pl : Nat → Int32} {fr n c w : Nat} (h : dI K g pl fr n c w) (hs : ∀ d, nbq c w = some d → ¬ K d = 0 → g d = 1) : dI K g pl fr n c (w + 1) := by
  obtain ⟨h1, h2, h3, h4, h5, h6⟩ := h
  refine ⟨h1, h2, h3, h4, fun e he hg hk => ?_, h6⟩
  rcases h5 e he hg hk with h | h
  · exact Or.inl h
  · refine Or.inr (fun y hy hc d hn hd => ?_)
    by_cases q : e = c ∧ y = w
    · rw [q.1, q.2] at hn; exact hs d hn hd
    · exact h y hy (fun z => by have := hc z; omega) d hn hd
theorem dI_see {K g pl : Nat → Int32} {fr n c w d : Nat} (h : dI K g pl fr n c w) (hw : w < 4) (hn : nbq c w = some d) (hd : d < 96) (hk : ¬ K d = 0) (hk1 : ¬ K d = 1) (hg0 : g d = 0) : dI K (upd g d 1) pl fr n c (w + 1) := by
  obtain ⟨h1, h2, h3, h4, h5, h6, h7, h8, h9⟩ := h
  have mono : ∀ x, g x = 1 → upd g d 1 x = 1 := fun x hx => by
    by_cases q : x = d
    · rw [q]; exact pk_us
    · rw [pk_un q]; exact hx
  refine ⟨fun x hx => ?_, mono fr h2, fun x hx hg => ?_, fun i hi => ?_, fun e he hg hke => ?_, ?_, h7, mono c h8, h9⟩
  · by_cases q : x = d
    · rw [q]; exact Or.inr pk_us
    · rw [pk_un q]; exact h1 x hx
  · by_cases q : x = d
    · rw [q]; exact RE_step h7 hw (h3 c h7 h8) h9 hn hk
    · rw [pk_un q] at hg; exact h3 x hx hg
  · obtain ⟨e, e1, e2, e3, e4⟩ := h4 i hi
    exact ⟨e, e1, e2, mono e e3, e4⟩
  · by_cases q : e = d
    · subst q
      rcases hke with q | q
      · rw [q] at hg0; rw [hg0] at h2; exact absurd h2 (by decide)
      · exact absurd q hk1
    · rw [pk_un q] at hg
      rcases h5 e he hg hke with h | h
      · exact Or.inl h
      · refine Or.inr (fun y hy hc x hx hxk => ?_)
        by_cases q2 : e = c ∧ y = w
        · rw [q2.1, q2.2, hn] at hx
          cases hx; exact pk_us
        · exact mono x (h y hy (fun z => by have := hc z; omega) x hx hxk)
  · have := un_set hg0 96 hd
    omega
theorem dI_push {K g pl : Nat → Int32} {fr n c w d : Nat} (h : dI K g pl fr n c w) (hw : w < 4) (hn : nbq c w = some d) (hd : d < 96) (hk1 : K d = 1) (hg0 : g d = 0) : dI K (upd g d 1) (upd pl n (nI d)) fr (n + 1) c (w + 1) := by
  have hk : ¬ K d = 0 := by rw [hk1]; decide
  obtain ⟨h1, h2, h3, h4, h5, h6, h7, h8, h9⟩ := h
  have mono : ∀ x, g x = 1 → upd g d 1 x = 1 := fun x hx => by
    by_cases q : x = d
    · rw [q]; exact pk_us
    · rw [pk_un q]; exact hx
  refine ⟨fun x hx => ?_, mono fr h2, fun x hx hg => ?_, fun i hi => ?_, fun e he hg hke => ?_, ?_, h7, mono c h8, h9⟩
  · by_cases q : x = d
    · rw [q]; exact Or.inr pk_us
    · rw [pk_un q]; exact h1 x hx
  · by_cases q : x = d
    · rw [q]; exact RE_step h7 hw (h3 c h7 h8) h9 hn hk
    · rw [pk_un q] at hg; exact h3 x hx hg
  · by_cases q : i = n
    · rw [q]; exact ⟨d, hd, pk_us, pk_us, Or.inr hk1⟩
    · obtain ⟨e, e1, e2, e3, e4⟩ := h4 i (by omega)
      exact ⟨e, e1, by rw [pk_un q]; exact e2, mono e e3, e4⟩
  · by_cases q : e = d
    · exact Or.inl ⟨n, by omega, by rw [q]; exact pk_us⟩
    · rw [pk_un q] at hg
      rcases h5 e he hg hke with ⟨i, i1, i2⟩ | h
      · exact Or.inl ⟨i, by omega, by rw [pk_un (by omega)]; exact i2⟩
      · refine Or.inr (fun y hy hc x hx hxk => ?_)
        by_cases q2 : e = c ∧ y = w
        · rw [q2.1, q2.2, hn] at hx
          cases hx; exact pk_us
        · exact mono x (h y hy (fun z => by have := hc z; omega) x hx hxk)
  · have := un_set hg0 96 hd
    omega
theorem dI_done {K g pl : Nat → Int32} {fr n c : Nat} (h : dI K g pl fr n c 4) : dO K g pl fr n := by
  obtain ⟨h1, h2, h3, h4, h5, h6, h7, h8, h9⟩ := h
  refine ⟨h1, h2, h3, h4, fun e he hg hk => ?_, by omega⟩
  rcases h5 e he hg hk with h | h
  · exact Or.inl h
  · exact Or.inr (fun y hy => h y hy (fun _ => hy))
theorem dO_end {K g pl : Nat → Int32} {fr : Nat} (hf : fr < 96) (h : dO K g pl fr 0) : ∀ d, d < 96 → (g d = 1 ↔ RE K fr d) := by
  obtain ⟨h1, h2, h3, h4, h5, h6⟩ := h
  have key : ∀ n d, RS K fr n d → d < 96 ∧ g d = 1 := by
    intro n
    induction n with
    | zero => intro d hd; rw [show d = fr from hd]; exact ⟨hf, h2⟩
    | succ n ih =>
      intro d hd
      rcases hd with hd | ⟨c, w, c1, c2, c3, c4, c5, c6⟩
      · exact ih d hd
      · obtain ⟨-, k2⟩ := ih c c3
        refine ⟨nbq_lt c1 (by omega) c5, ?_⟩
        rcases h5 c c1 k2 c4 with ⟨i, i1, _⟩ | h
        · omega
        · exact h w c2 d c5 c6
  exact fun d hd => ⟨h3 d hd, fun ⟨n, hn⟩ => (key n d hn).2⟩
theorem up78 (A : Nat → Nat → Int32) (g g' pl : Nat → Int32) : va_up (va_up (va_up A 7 g) 8 pl) 7 g' = va_up (va_up A 7 g') 8 pl := by
  funext j
  unfold va_up
  by_cases h8 : j = 8
  · subst h8; rfl
  · by_cases h7 : j = 7
    · subst h7; rfl
    · simp [h8, h7]
set_option maxHeartbeats 4000000 in
set_option maxRecDepth 100000 in
theorem k_Mod_leadsToAll (l : Launch) (G : GG) (o : Nat) (r : Nat → Nat) (v : Nat → Int32) (A : Nat → Nat → Int32) (B : Nat → Nat → Int64) (fr : Nat) (hf : fr < 96) : mct l G y_Mod_leadsToAll c_Mod_leadsToAll 6 (some .boolean) 1 22 [.ref o, .int (nI fr)] o r v A B (fun x v1 A1 B1 => ∃ z : Bool, x = some (.int (bz (z = true))) ∧ (z = true ↔ ∀ c, c < 96 → (A 2 c < 2 ∨ RE (A 2) fr c)) ∧ v1 = v ∧ (∃ g pl, A1 = va_up (va_up A 7 g) 8 pl) ∧ B1 = B) := by
  refine mct_intro (by decide) [some (.ref o), some (.int (nI fr)), none, none, none, none] rfl rfl (Nat.le_of_ble_eq_true rfl) ?_
  intro p e s m below meth c ls P f C hr hlk hE hM hm hl
  refine lv_iconst (v := 0) C.1 C.2.1 d_Mod_leadsToAll_0 (by decide) ?_
  refine lo_istore_n C hl d_Mod_leadsToAll_1 (Nat.le_of_ble_eq_true rfl) rfl (fun ls hl => ?_)
  refine W.loop (α := (Nat) × (Nat → Int32) × (Array Slot) × (Heap) × (List Loc) × (Nat → va_E)) (fun a => 96 - a.1) (fun a => (a.1 ≤ 96) ∧ (∀ j, j < a.1 → a.2.1 j = 0) ∧ lo a.2.2.1 [some (.ref o), some (.int (nI fr)), some (.int (nI a.1)), none, none, none] ∧ pgS G (pgA P s.heap.size) s.heap P a.2.2.2.2.2 a.2.2.2.1 a.2.2.2.2.1 ∧ mdS G o r P f a.2.2.2.2.2 (v) (va_up A 7 a.2.1) (B)) (fun a => a.2.2.2.1) (fun a => a.2.2.2.2.1) (fun _ => 0) (fun _ => 0) (fun a => F0 m 2 a.2.2.1 []) ?_ (0, A 7, ls, s.heap, [], f) ⟨Nat.zero_le _, fun j hj => absurd hj (Nat.not_lt_zero _), lo_weak hl ⟨rfl, rfl, rfl, trivial⟩, hM, (by rw [va_up_id]; exact hm)⟩
  rintro ⟨k, g, ls, H1, locs1, f1⟩ ⟨hk, hz, hl, hM, hm⟩ ih2
  dsimp only at hk hz hl hM hm
  show W _ _ _ _ _ _ _ _ _ _ _ _ _ _ _ (F0 m 2 ls [])
  refine lv_iload_n C.1 C.2.1 d_Mod_leadsToAll_2 rfl (lo_at hl 2 rfl) ?_
  refine lv_bipush (v := 96) C.1 C.2.1 d_Mod_leadsToAll_3 (by decide) ?_
  rw [show (96 : Int32) = nI 96 from rfl]
  refine lv_icmp_ge (tgt := 21) C.1 C.2.1 d_Mod_leadsToAll_5 (by decide) (fun hc5 => ?_) (fun hc5 => ?_)
  · have hk9 : k = 96 := Nat.le_antisymm hk (nI_leN (by omega) (by omega) hc5)
    refine lv_iconst (v := 1) C.1 C.2.1 d_Mod_leadsToAll_21 (by decide) ?_
    refine lo_istore_n C hl d_Mod_leadsToAll_22 (Nat.le_of_ble_eq_true rfl) rfl (fun ls hl => ?_)
    refine lv_aload_n C.1 C.2.1 d_Mod_leadsToAll_23 rfl (lo_at hl 0 rfl) ?_
    refine md_get C hE hM hm 8 (Nat.le_of_ble_eq_true rfl) tw_790 rfl rfl d_Mod_leadsToAll_24 ?_
    refine lv_iconst (v := 0) C.1 C.2.1 d_Mod_leadsToAll_27 (by decide) ?_
    refine lv_iload_n C.1 C.2.1 d_Mod_leadsToAll_28 rfl (lo_at hl 1 rfl) ?_
    refine md_iastN C hE hM hm 8 rfl 0 rfl (show 0 < 96 by decide) d_Mod_leadsToAll_29 (fun f1 H1 locs1 hM hm => ?_)
    refine lv_aload_n C.1 C.2.1 d_Mod_leadsToAll_30 rfl (lo_at hl 0 rfl) ?_
    refine md_get C hE hM hm 7 (Nat.le_of_ble_eq_true rfl) tw_789 rfl rfl d_Mod_leadsToAll_31 ?_
    refine lv_iload_n C.1 C.2.1 d_Mod_leadsToAll_34 rfl (lo_at hl 1 rfl) ?_
    refine lv_iconst (v := 1) C.1 C.2.1 d_Mod_leadsToAll_35 (by decide) ?_
    refine md_zastN C hE hM hm fr rfl (show fr < 96 by omega) d_Mod_leadsToAll_36 (fun f1 H1 locs1 hM hm => ?_)
    refine W.loop (α := (Nat) × (Nat → Int32) × (Nat → Int32) × (Array Slot) × (Heap) × (List Loc) × (Nat → va_E)) (fun a => 2 * un a.2.1 96 + a.1) (fun a => (dO (A 2) a.2.1 a.2.2.1 fr a.1) ∧ lo a.2.2.2.1 [some (.ref o), some (.int (nI fr)), some (.int (nI a.1)), none, none, none] ∧ pgS G (pgA P s.heap.size) s.heap P a.2.2.2.2.2.2 a.2.2.2.2.1 a.2.2.2.2.2.1 ∧ mdS G o r P f a.2.2.2.2.2.2 (v) (va_up (va_up A 7 a.2.1) 8 a.2.2.1) (B)) (fun a => a.2.2.2.2.1) (fun a => a.2.2.2.2.2.1) (fun _ => 0) (fun _ => 0) (fun a => F0 m 37 a.2.2.2.1 []) ?_ (1, upd g fr 1, upd (A 8) 0 (nI fr), ls, H1, locs1, f1) ⟨dO_0 hf (fun j hj => hz j (by omega)), lo_weak hl ⟨rfl, rfl, rfl, trivial⟩, hM, (by rw [up78] at hm; exact hm)⟩
    rintro ⟨n1, g, pl, ls, H1, locs1, f1⟩ ⟨hdo, hl, hM, hm⟩ ih37
    dsimp only at hdo hl hM hm
    show W _ _ _ _ _ _ _ _ _ _ _ _ _ _ _ (F0 m 37 ls [])
    refine lv_iload_n C.1 C.2.1 d_Mod_leadsToAll_37 rfl (lo_at hl 2 rfl) ?_
    refine lv_if_le (tgt := 138) C.1 C.2.1 d_Mod_leadsToAll_38 (by decide) (fun hc38 => ?_) (fun hc38 => ?_)
    · have hn9 : n1 = 0 := by
        cases n1 with
        | zero => rfl
        | succ q => exact absurd hc38 (nI_nle (by omega) (by have := hdo.2.2.2.2.2; omega))
      rw [hn9] at hdo
      have hend := dO_end hf hdo
      refine lv_iconst (v := 1) C.1 C.2.1 d_Mod_leadsToAll_138 (by decide) ?_
      refine lo_istore_n C hl d_Mod_leadsToAll_139 (Nat.le_of_ble_eq_true rfl) rfl (fun ls hl => ?_)
      refine lv_iconst (v := 0) C.1 C.2.1 d_Mod_leadsToAll_140 (by decide) ?_
      refine lo_istore C hl d_Mod_leadsToAll_141 (Nat.le_of_ble_eq_true rfl) rfl (fun ls hl => ?_)
      refine W.loop (α := (Nat) × (Bool) × (Array Slot)) (fun a => 96 - a.1) (fun a => (a.1 ≤ 96) ∧ ((a.2.1 = true) ↔ ∀ x, x < a.1 → (A 2 x < 2 ∨ ¬ g x = 0)) ∧ lo a.2.2 [some (.ref o), none, none, some (.int (bz (a.2.1 = true))), some (.int (nI a.1)), none]) (fun a => H1) (fun a => locs1) (fun _ => 0) (fun _ => 0) (fun a => F0 m 143 a.2.2 []) ?_ (0, true, ls) ⟨Nat.zero_le _, ⟨fun _ x hx => absurd hx (Nat.not_lt_zero _), fun _ => rfl⟩, lo_weak hl ⟨rfl, rfl, rfl, trivial⟩⟩
      rintro ⟨k, q, ls⟩ ⟨hk, hq, hl⟩ ih143
      dsimp only at hk hq hl
      show W _ _ _ _ _ _ _ _ _ _ _ _ _ _ _ (F0 m 143 ls [])
      refine lv_iload C.1 C.2.1 d_Mod_leadsToAll_143 (lo_at hl 4 rfl) ?_
      refine lv_bipush (v := 96) C.1 C.2.1 d_Mod_leadsToAll_145 (by decide) ?_
      rw [show (96 : Int32) = nI 96 from rfl]
      refine lv_icmp_ge (tgt := 187) C.1 C.2.1 d_Mod_leadsToAll_147 (by decide) (fun hc147 => ?_) (fun hc147 => ?_)
      · have hk9 : k = 96 := Nat.le_antisymm hk (nI_leN (by omega) (by omega) hc147)
        refine lv_iload_n C.1 C.2.1 d_Mod_leadsToAll_187 rfl (lo_at hl 3 rfl) ?_
        refine md_zret C hr hlk hM hm d_Mod_leadsToAll_188 bz_nar ?_
        refine ⟨q, rfl, ?_, rfl, ⟨g, pl, rfl⟩, rfl⟩
        rw [hq, hk9]
        constructor
        · intro h x hx
          rcases h x hx with h | h
          · exact Or.inl h
          · exact Or.inr ((hend x hx).mp ((hdo.1 x hx).resolve_left h))
        · intro h x hx
          rcases h x hx with h | h
          · exact Or.inl h
          · right; rw [(hend x hx).mpr h]; decide
      · have hk9 : k < 96 := nI_ltN (by omega) (by omega) hc147
        refine lv_iload_n C.1 C.2.1 d_Mod_leadsToAll_150 rfl (lo_at hl 3 rfl) ?_
        refine lv_if_eq (tgt := 179) C.1 C.2.1 d_Mod_leadsToAll_151 (by decide) (fun hc151 => ?_) (fun hc151 => ?_)
        · replace hc151 := bz_0.mp hc151
          refine lv_iconst (v := 0) C.1 C.2.1 d_Mod_leadsToAll_179 (by decide) ?_
          refine lo_istore_n C hl d_Mod_leadsToAll_180 (Nat.le_of_ble_eq_true rfl) rfl (fun ls hl => ?_)
          refine lo_iinc C hl d_Mod_leadsToAll_181 rfl rfl (fun ls hl => ?_)
          refine lv_goto (tgt := 143) C.1 C.2.1 d_Mod_leadsToAll_184 (by decide) ?_
          have hq2 : (false = true) ↔ ∀ x, x < k + 1 → (A 2 x < 2 ∨ ¬ g x = 0) := by
            exact ⟨fun z => absurd z (by decide), fun z => absurd (hq.mpr (fun x hx => z x (by omega))) hc151⟩
          have h9 := hl
          rw [nI_pl] at h9
          exact ih143 (k + 1, false, ls) ⟨by (try dsimp only); omega, hq2, lo_weak h9 ⟨rfl, rfl, rfl, trivial⟩⟩ (by show 96 - (k + 1) < 96 - k; omega)
        · replace hc151 := bz_1.mp hc151
          refine lv_aload_n C.1 C.2.1 d_Mod_leadsToAll_154 rfl (lo_at hl 0 rfl) ?_
          refine md_get C hE hM hm 2 (Nat.le_of_ble_eq_true rfl) tw_784 rfl rfl d_Mod_leadsToAll_155 ?_
          refine lv_iload C.1 C.2.1 d_Mod_leadsToAll_158 (lo_at hl 4 rfl) ?_
          refine md_ialdN C hE hM hm 2 rfl k rfl (show k < 96 by omega) d_Mod_leadsToAll_160 ?_
          refine lv_iconst (v := 2) C.1 C.2.1 d_Mod_leadsToAll_161 (by decide) ?_
          refine lv_icmp_lt (tgt := 175) C.1 C.2.1 d_Mod_leadsToAll_162 (by decide) (fun hc162 => ?_) (fun hc162 => ?_)
          · refine lv_iconst (v := 1) C.1 C.2.1 d_Mod_leadsToAll_175 (by decide) ?_
            refine lv_goto (tgt := 180) C.1 C.2.1 d_Mod_leadsToAll_176 (by decide) ?_
            refine lo_istore_n C hl d_Mod_leadsToAll_180 (Nat.le_of_ble_eq_true rfl) rfl (fun ls hl => ?_)
            refine lo_iinc C hl d_Mod_leadsToAll_181 rfl rfl (fun ls hl => ?_)
            refine lv_goto (tgt := 143) C.1 C.2.1 d_Mod_leadsToAll_184 (by decide) ?_
            have hq2 : (true = true) ↔ ∀ x, x < k + 1 → (A 2 x < 2 ∨ ¬ g x = 0) := by
              exact ⟨fun _ x hx => by by_cases e : x = k; (rw [e]; exact Or.inl hc162); (exact (hq.mp hc151) x (by omega)), fun _ => rfl⟩
            have h9 := hl
            rw [nI_pl] at h9
            exact ih143 (k + 1, true, ls) ⟨by (try dsimp only); omega, hq2, lo_weak h9 ⟨rfl, rfl, rfl, trivial⟩⟩ (by show 96 - (k + 1) < 96 - k; omega)
          · refine lv_aload_n C.1 C.2.1 d_Mod_leadsToAll_165 rfl (lo_at hl 0 rfl) ?_
            refine md_get C hE hM hm 7 (Nat.le_of_ble_eq_true rfl) tw_789 rfl rfl d_Mod_leadsToAll_166 ?_
            refine lv_iload C.1 C.2.1 d_Mod_leadsToAll_169 (lo_at hl 4 rfl) ?_
            refine md_zaldN C hE hM hm k rfl (show k < 96 by omega) d_Mod_leadsToAll_171 ?_
            refine lv_if_eq (tgt := 179) C.1 C.2.1 d_Mod_leadsToAll_172 (by decide) (fun hc172 => ?_) (fun hc172 => ?_)
            · refine lv_iconst (v := 0) C.1 C.2.1 d_Mod_leadsToAll_179 (by decide) ?_
              refine lo_istore_n C hl d_Mod_leadsToAll_180 (Nat.le_of_ble_eq_true rfl) rfl (fun ls hl => ?_)
              refine lo_iinc C hl d_Mod_leadsToAll_181 rfl rfl (fun ls hl => ?_)
              refine lv_goto (tgt := 143) C.1 C.2.1 d_Mod_leadsToAll_184 (by decide) ?_
              have hq2 : (false = true) ↔ ∀ x, x < k + 1 → (A 2 x < 2 ∨ ¬ g x = 0) := by
                exact ⟨fun z => absurd z (by decide), fun z => by rcases z k (by omega) with h | h; exact absurd h hc162; exact absurd hc172 h⟩
              have h9 := hl
              rw [nI_pl] at h9
              exact ih143 (k + 1, false, ls) ⟨by (try dsimp only); omega, hq2, lo_weak h9 ⟨rfl, rfl, rfl, trivial⟩⟩ (by show 96 - (k + 1) < 96 - k; omega)
            · refine lv_iconst (v := 1) C.1 C.2.1 d_Mod_leadsToAll_175 (by decide) ?_
              refine lv_goto (tgt := 180) C.1 C.2.1 d_Mod_leadsToAll_176 (by decide) ?_
              refine lo_istore_n C hl d_Mod_leadsToAll_180 (Nat.le_of_ble_eq_true rfl) rfl (fun ls hl => ?_)
              refine lo_iinc C hl d_Mod_leadsToAll_181 rfl rfl (fun ls hl => ?_)
              refine lv_goto (tgt := 143) C.1 C.2.1 d_Mod_leadsToAll_184 (by decide) ?_
              have hq2 : (true = true) ↔ ∀ x, x < k + 1 → (A 2 x < 2 ∨ ¬ g x = 0) := by
                exact ⟨fun _ x hx => by by_cases e : x = k; (rw [e]; exact Or.inr hc172); (exact (hq.mp hc151) x (by omega)), fun _ => rfl⟩
              have h9 := hl
              rw [nI_pl] at h9
              exact ih143 (k + 1, true, ls) ⟨by (try dsimp only); omega, hq2, lo_weak h9 ⟨rfl, rfl, rfl, trivial⟩⟩ (by show 96 - (k + 1) < 96 - k; omega)
    · obtain ⟨n0, rfl⟩ : ∃ q, n1 = q + 1 := by
        cases n1 with
        | zero => exact absurd (by decide) hc38
        | succ q => exact ⟨q, rfl⟩
      obtain ⟨cc, hcc, hpc, hdi⟩ := dO_pop hdo
      have hn96 : n0 + 1 + un g 96 ≤ 96 := hdo.2.2.2.2.2
      refine lo_iinc C hl d_Mod_leadsToAll_41 rfl rfl (fun ls hl => ?_)
      rw [m1_add, nI_pred] at hl
      refine lv_aload_n C.1 C.2.1 d_Mod_leadsToAll_44 rfl (lo_at hl 0 rfl) ?_
      refine md_get C hE hM hm 8 (Nat.le_of_ble_eq_true rfl) tw_790 rfl rfl d_Mod_leadsToAll_45 ?_
      refine lv_iload_n C.1 C.2.1 d_Mod_leadsToAll_48 rfl (lo_at hl 2 rfl) ?_
      refine md_ialdN C hE hM hm 8 rfl n0 rfl (show n0 < 96 by omega) d_Mod_leadsToAll_49 ?_
      rw [show va_up (va_up A 7 g) 8 pl 8 n0 = pl n0 from rfl, hpc]
      refine lo_istore_n C hl d_Mod_leadsToAll_50 (Nat.le_of_ble_eq_true rfl) rfl (fun ls hl => ?_)
      refine lv_iconst (v := 0) C.1 C.2.1 d_Mod_leadsToAll_51 (by decide) ?_
      refine lo_istore C hl d_Mod_leadsToAll_52 (Nat.le_of_ble_eq_true rfl) rfl (fun ls hl => ?_)
      obtain ⟨M, hMe⟩ : ∃ M, M = 2 * un g 96 + (n0 + 1) := ⟨_, rfl⟩
      have hM0 : 2 * un g 96 + n0 < M := by omega
      refine W.loop (α := (Nat) × (Nat) × (Nat → Int32) × (Nat → Int32) × (Array Slot) × (Heap) × (List Loc) × (Nat → va_E)) (fun a => 4 - a.1) (fun a => (a.1 ≤ 4) ∧ (dI (A 2) a.2.2.1 a.2.2.2.1 fr a.2.1 cc a.1) ∧ (2 * un a.2.2.1 96 + a.2.1 < M) ∧ lo a.2.2.2.2.1 [some (.ref o), some (.int (nI fr)), some (.int (nI a.2.1)), some (.int (nI cc)), some (.int (nI a.1)), none] ∧ pgS G (pgA P s.heap.size) s.heap P a.2.2.2.2.2.2.2 a.2.2.2.2.2.1 a.2.2.2.2.2.2.1 ∧ mdS G o r P f a.2.2.2.2.2.2.2 (v) (va_up (va_up A 7 a.2.2.1) 8 a.2.2.2.1) (B)) (fun a => a.2.2.2.2.2.1) (fun a => a.2.2.2.2.2.2.1) (fun _ => 0) (fun _ => 0) (fun a => F0 m 54 a.2.2.2.2.1 []) ?_ (0, n0, g, pl, ls, H1, locs1, f1) ⟨Nat.zero_le _, hdi, hM0, lo_weak hl ⟨rfl, rfl, rfl, rfl, rfl, trivial⟩, hM, hm⟩
      rintro ⟨w, n, g, pl, ls, H1, locs1, f1⟩ ⟨hw, hdi, hmu, hl, hM, hm⟩ ih54
      dsimp only at hw hdi hmu hl hM hm
      show W _ _ _ _ _ _ _ _ _ _ _ _ _ _ _ (F0 m 54 ls [])
      refine lv_iload C.1 C.2.1 d_Mod_leadsToAll_54 (lo_at hl 4 rfl) ?_
      refine lv_iconst (v := 4) C.1 C.2.1 d_Mod_leadsToAll_56 (by decide) ?_
      rw [show (4 : Int32) = nI 4 from rfl]
      refine lv_icmp_ge (tgt := 135) C.1 C.2.1 d_Mod_leadsToAll_57 (by decide) (fun hc57 => ?_) (fun hc57 => ?_)
      · have hw9 : w = 4 := Nat.le_antisymm hw (nI_leN (by omega) (by omega) hc57)
        rw [hw9] at hdi
        refine lv_goto (tgt := 37) C.1 C.2.1 d_Mod_leadsToAll_135 (by decide) ?_
        have h9 := hl
        exact ih37 (n, g, pl, ls, H1, locs1, f1) ⟨dI_done hdi, lo_weak h9 ⟨rfl, rfl, rfl, trivial⟩, hM, hm⟩ (by rw [hMe] at hmu; exact hmu)
      · have hw9 : w < 4 := nI_ltN (by omega) (by omega) hc57
        refine lv_iload_n C.1 C.2.1 d_Mod_leadsToAll_60 rfl (lo_at hl 3 rfl) ?_
        refine lv_iload C.1 C.2.1 d_Mod_leadsToAll_61 (lo_at hl 4 rfl) ?_
        refine md_callS C hE hM hm (k_Mod_neighbour l G o r _ _ _ _ _) tw_927 cy_Mod_neighbour ⟨(Nat.le_of_ble_eq_true rfl), (Nat.le_of_ble_eq_true rfl)⟩ rfl hl.1 rfl (Nat.le_of_ble_eq_true rfl) ⟨Nat.zero_le _, Nat.zero_le _⟩ d_Mod_leadsToAll_63 (fun x9 f1 H1 locs1 v9 A9 B9 hp hM hm => ?_)
        obtain ⟨hx9, hv9, hA9, hB9⟩ := hp
        subst hx9
        rw [hv9, hA9, hB9] at hm
        rw [nb_on hcc (show w < 5 by omega)]
        refine W.eq (g2 := F0 m 66 ls (_ :: _)) rfl ?_
        refine lo_istore C hl d_Mod_leadsToAll_66 (Nat.le_of_ble_eq_true rfl) rfl (fun ls hl => ?_)
        refine lv_iload C.1 C.2.1 d_Mod_leadsToAll_68 (lo_at hl 5 rfl) ?_
        refine lv_if_lt (tgt := 129) C.1 C.2.1 d_Mod_leadsToAll_70 (by decide) (fun hc70 => ?_) (fun hc70 => ?_)
        · refine lo_iinc C hl d_Mod_leadsToAll_129 rfl rfl (fun ls hl => ?_)
          refine lv_goto (tgt := 54) C.1 C.2.1 d_Mod_leadsToAll_132 (by decide) ?_
          have hdn : dI (A 2) g pl fr n cc (w + 1) := dI_skip hdi (fun d h => by rw [on_ng (fun d h => nbq_lt hcc (by omega) h) hc70] at h; cases h)
          have h9 := hl
          rw [nI_pl] at h9
          exact ih54 (w + 1, n, g, pl, ls, H1, locs1, f1) ⟨by (try dsimp only); omega, hdn, hmu, lo_weak h9 ⟨rfl, rfl, rfl, rfl, rfl, trivial⟩, hM, hm⟩ (by show 4 - (w + 1) < 4 - w; omega)
        · obtain ⟨d, hq⟩ := on_nn hc70
          have hd : d < 96 := nbq_lt hcc (by omega) hq
          rw [hq, on_some] at hl
          refine lv_aload_n C.1 C.2.1 d_Mod_leadsToAll_73 rfl (lo_at hl 0 rfl) ?_
          refine md_get C hE hM hm 2 (Nat.le_of_ble_eq_true rfl) tw_784 rfl rfl d_Mod_leadsToAll_74 ?_
          refine lv_iload C.1 C.2.1 d_Mod_leadsToAll_77 (lo_at hl 5 rfl) ?_
          refine md_ialdN C hE hM hm 2 rfl d rfl (show d < 96 by omega) d_Mod_leadsToAll_79 ?_
          refine lv_if_eq (tgt := 129) C.1 C.2.1 d_Mod_leadsToAll_80 (by decide) (fun hc80 => ?_) (fun hc80 => ?_)
          · refine lo_iinc C hl d_Mod_leadsToAll_129 rfl rfl (fun ls hl => ?_)
            refine lv_goto (tgt := 54) C.1 C.2.1 d_Mod_leadsToAll_132 (by decide) ?_
            have hdn : dI (A 2) g pl fr n cc (w + 1) := dI_skip hdi (fun x h hk => by rw [hq] at h; cases h; exact absurd hc80 hk)
            have h9 := hl
            rw [nI_pl] at h9
            exact ih54 (w + 1, n, g, pl, ls, H1, locs1, f1) ⟨by (try dsimp only); omega, hdn, hmu, lo_weak h9 ⟨rfl, rfl, rfl, rfl, rfl, trivial⟩, hM, hm⟩ (by show 4 - (w + 1) < 4 - w; omega)
          · refine lv_aload_n C.1 C.2.1 d_Mod_leadsToAll_83 rfl (lo_at hl 0 rfl) ?_
            refine md_get C hE hM hm 7 (Nat.le_of_ble_eq_true rfl) tw_789 rfl rfl d_Mod_leadsToAll_84 ?_
            refine lv_iload C.1 C.2.1 d_Mod_leadsToAll_87 (lo_at hl 5 rfl) ?_
            refine md_zaldN C hE hM hm d rfl (show d < 96 by omega) d_Mod_leadsToAll_89 ?_
            refine lv_if_eq (tgt := 96) C.1 C.2.1 d_Mod_leadsToAll_90 (by decide) (fun hc90 => ?_) (fun hc90 => ?_)
            · rw [show va_up (va_up A 7 g) 8 pl 7 d = g d from rfl] at hc90
              refine lv_aload_n C.1 C.2.1 d_Mod_leadsToAll_96 rfl (lo_at hl 0 rfl) ?_
              refine md_get C hE hM hm 7 (Nat.le_of_ble_eq_true rfl) tw_789 rfl rfl d_Mod_leadsToAll_97 ?_
              refine lv_iload C.1 C.2.1 d_Mod_leadsToAll_100 (lo_at hl 5 rfl) ?_
              refine lv_iconst (v := 1) C.1 C.2.1 d_Mod_leadsToAll_102 (by decide) ?_
              refine md_zastN C hE hM hm d rfl (show d < 96 by omega) d_Mod_leadsToAll_103 (fun f1 H1 locs1 hM hm => ?_)
              refine lv_aload_n C.1 C.2.1 d_Mod_leadsToAll_104 rfl (lo_at hl 0 rfl) ?_
              refine md_get C hE hM hm 2 (Nat.le_of_ble_eq_true rfl) tw_784 rfl rfl d_Mod_leadsToAll_105 ?_
              refine lv_iload C.1 C.2.1 d_Mod_leadsToAll_108 (lo_at hl 5 rfl) ?_
              refine md_ialdN C hE hM hm 2 rfl d rfl (show d < 96 by omega) d_Mod_leadsToAll_110 ?_
              refine lv_iconst (v := 1) C.1 C.2.1 d_Mod_leadsToAll_111 (by decide) ?_
              refine lv_icmp_eq (tgt := 118) C.1 C.2.1 d_Mod_leadsToAll_112 (by decide) (fun hc112 => ?_) (fun hc112 => ?_)
              · have hn95 : n + un g 96 ≤ 95 := hdi.2.2.2.2.2.1
                refine lv_aload_n C.1 C.2.1 d_Mod_leadsToAll_118 rfl (lo_at hl 0 rfl) ?_
                refine md_get C hE hM hm 8 (Nat.le_of_ble_eq_true rfl) tw_790 rfl rfl d_Mod_leadsToAll_119 ?_
                refine lv_iload_n C.1 C.2.1 d_Mod_leadsToAll_122 rfl (lo_at hl 2 rfl) ?_
                refine lv_iload C.1 C.2.1 d_Mod_leadsToAll_123 (lo_at hl 5 rfl) ?_
                refine md_iastN C hE hM hm 8 rfl n rfl (show n < 96 by omega) d_Mod_leadsToAll_125 (fun f1 H1 locs1 hM hm => ?_)
                refine lo_iinc C hl d_Mod_leadsToAll_126 rfl rfl (fun ls hl => ?_)
                refine lo_iinc C hl d_Mod_leadsToAll_129 rfl rfl (fun ls hl => ?_)
                refine lv_goto (tgt := 54) C.1 C.2.1 d_Mod_leadsToAll_132 (by decide) ?_
                have hdn : dI (A 2) (upd g d 1) (upd pl n (nI d)) fr (n + 1) cc (w + 1) := dI_push hdi hw9 hq hd hc112 hc90
                rw [up78, bx_uu] at hm
                have hun := un_set (g := g) hc90 96 hd
                have h9 := hl
                rw [nI_pl, nI_pl] at h9
                exact ih54 (w + 1, n + 1, upd g d 1, upd pl n (nI d), ls, H1, locs1, f1) ⟨by (try dsimp only); omega, hdn, (by show 2 * un (upd g d 1) 96 + (n + 1) < M; omega), lo_weak h9 ⟨rfl, rfl, rfl, rfl, rfl, trivial⟩, hM, hm⟩ (by show 4 - (w + 1) < 4 - w; omega)
              · refine lv_goto (tgt := 129) C.1 C.2.1 d_Mod_leadsToAll_115 (by decide) ?_
                refine lo_iinc C hl d_Mod_leadsToAll_129 rfl rfl (fun ls hl => ?_)
                refine lv_goto (tgt := 54) C.1 C.2.1 d_Mod_leadsToAll_132 (by decide) ?_
                have hdn : dI (A 2) (upd g d 1) pl fr n cc (w + 1) := dI_see hdi hw9 hq hd hc80 hc112 hc90
                rw [up78] at hm
                have hun := un_set (g := g) hc90 96 hd
                have h9 := hl
                rw [nI_pl] at h9
                exact ih54 (w + 1, n, upd g d 1, pl, ls, H1, locs1, f1) ⟨by (try dsimp only); omega, hdn, (by show 2 * un (upd g d 1) 96 + n < M; omega), lo_weak h9 ⟨rfl, rfl, rfl, rfl, rfl, trivial⟩, hM, hm⟩ (by show 4 - (w + 1) < 4 - w; omega)
            · refine lv_goto (tgt := 129) C.1 C.2.1 d_Mod_leadsToAll_93 (by decide) ?_
              refine lo_iinc C hl d_Mod_leadsToAll_129 rfl rfl (fun ls hl => ?_)
              refine lv_goto (tgt := 54) C.1 C.2.1 d_Mod_leadsToAll_132 (by decide) ?_
              have hdn : dI (A 2) g pl fr n cc (w + 1) := dI_skip hdi (fun x h _ => by rw [hq] at h; cases h; exact (hdi.1 d hd).resolve_left hc90)
              have h9 := hl
              rw [nI_pl] at h9
              exact ih54 (w + 1, n, g, pl, ls, H1, locs1, f1) ⟨by (try dsimp only); omega, hdn, hmu, lo_weak h9 ⟨rfl, rfl, rfl, rfl, rfl, trivial⟩, hM, hm⟩ (by show 4 - (w + 1) < 4 - w; omega)
  · have hk9 : k < 96 := nI_ltN (by omega) (by omega) hc5
    refine lv_aload_n C.1 C.2.1 d_Mod_leadsToAll_8 rfl (lo_at hl 0 rfl) ?_
    refine md_get C hE hM hm 7 (Nat.le_of_ble_eq_true rfl) tw_789 rfl rfl d_Mod_leadsToAll_9 ?_
    refine lv_iload_n C.1 C.2.1 d_Mod_leadsToAll_12 rfl (lo_at hl 2 rfl) ?_
    refine lv_iconst (v := 0) C.1 C.2.1 d_Mod_leadsToAll_13 (by decide) ?_
    refine md_zastN C hE hM hm k rfl (show k < 96 by omega) d_Mod_leadsToAll_14 (fun f1 H1 locs1 hM hm => ?_)
    refine lo_iinc C hl d_Mod_leadsToAll_15 rfl rfl (fun ls hl => ?_)
    refine lv_goto (tgt := 2) C.1 C.2.1 d_Mod_leadsToAll_18 (by decide) ?_
    have h9 := hl
    rw [nI_pl] at h9
    exact ih2 (k + 1, upd g k 0, ls, H1, locs1, f1) ⟨by (try dsimp only); omega, fun j hj => by show upd g k 0 j = 0; by_cases q : j = k; (rw [q]; exact pk_us); (rw [pk_un q]; exact hz j (by have : j < k + 1 := hj; omega)), lo_weak h9 ⟨rfl, rfl, rfl, trivial⟩, hM, (by rw [bx_uu] at hm; exact hm)⟩ (by show 96 - (k + 1) < 96 - k; omega)
