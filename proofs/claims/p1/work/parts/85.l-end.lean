theorem n_D {E : gEnv} {ws : va_W} {cn sn pc : Nat} {L : List (Nat × Value)} {st : List Value} (k : va_D (eA E) ws → NW E ws cn sn pc L st) : NW E ws cn sn pc L st := fun H locs ls hP hD hS hl => k hD H locs ls hP hD hS hl
theorem n_perm {E : gEnv} {ws ws' : va_W} {cn sn pc : Nat} {L : List (Nat × Value)} {st : List Value} (is : List Nat) (hn : va_nd is = true) (hs : is.map (fun i => ws[i]?) = ws'.map some) (k : NW E ws' cn sn pc L st) : NW E ws cn sn pc L st := fun H locs ls hP hD hS hl => by
  refine k H locs ls (fun j q hj => ?_) (hD.sub is hn hs) hS hl
  have h1 : (is.map (fun i => ws[i]?))[j]? = some (some q) := by rw [hs, List.getElem?_map, hj]; rfl
  rw [List.getElem?_map] at h1
  cases hi : is[j]? with
  | none => rw [hi] at h1; cases h1
  | some i => rw [hi] at h1; exact hP i q (Option.some.inj h1)
theorem arr_of {args : Array Value} {s : State} {ty : FieldType} (h : (Cond.arrayClass ty).before args s = true) (hp : ∀ cA : ClassId, s.vm.findClass ("[" ++ ty.toString) = some cA → va_RA s cA ty) : ∃ cA : ClassId, ArrOfT s cA ty ∧ va_RA s cA ty := by
  obtain ⟨cA, kA, comp, h1, h2, h3⟩ := Cond.arrayClass_spec h
  exact ⟨cA, fun n z => ⟨fun k q => (by cases q), kA, h2, comp, h3⟩, hp cA h1⟩
theorem hzX12 : ∀ j, j < 17 → defaultValue (tyX12 j) = vp_V fzX12 j := by decide +kernel
/-- the law, from its loop on -/
theorem l_loop {E : gEnv} {Gc Gm : gAd} {b L qo : Nat} {xs : Nat → Int32} {cn sn : Nat} (hl0 : (el E).stackTraces = false) (hT : Gm.2 = Gc.2) (hL : L ≤ 6) (h : lOK E Gc.2 b L xs) (hz : zAll Gc (eA E) (es E)) (hA : ∀ q, cFree Gc q → eA E q) (hcc : ∀ k, 200 ≤ k → k < 1400 → ∃ (i : Nat) (e : va_E), (cW Gc cS0)[i]? = some (Gc.1 k, e)) (hcm : ∀ (σ : MS) (k : Nat), ∃ (i : Nat) (e : va_E), (mW Gm σ)[i]? = some (Gm.1 k, e)) (hc : cn + 1 ≤ 600002) (hs : sn + 6 ≤ 7302232) : NW E (cW Gc cS0 ++ (mW Gm mS0 ++ [(qo, .inl (Gc.2 1, 1, .inr (.inl (fun _ => 0))))])) cn sn 23 [(0, .ref b), (1, .ref (Gc.1 200)), (2, .ref (Gm.1 0)), (3, .ref qo), (4, .int 0)] [] := by
  by_cases h6 : L = 6
  · subst h6
    exact l_turn hl0 hT h hz hA hcc hcm hc hs
  · have hE := h.1
    refine n_iload hE 4 (dL_law_g0.2.2.2.2.2.2.2.2.2.2.2.2.2.1) rfl ?_
    refine n_aload_n hE 0 (dL_law_g0.2.2.2.2.2.2.2.2.2.2.2.2.2.2.1) rfl rfl ?_
    refine l_slen h (dL_law_g0.2.2.2.2.2.2.2.2.2.2.2.2.2.2.2) ?_
    refine n_bipush (v := 6) hE (dL_law_g1.1) (by decide) ?_
    refine l_isub h (dL_law_g1.2.1) ?_
    refine l_icmp_gt h 1067 (dL_law_g1.2.2.1) (by decide) (fun _ => ?_) (fun q => absurd ?_ q)
    · refine n_iconst (v := 1) hE (dL_law_g40.2.2.2.2.2.2.2.2.2.1) (by decide) ?_
      exact l_ret1 h (by omega) (by omega) (dL_law_g40.2.2.2.2.2.2.2.2.2.2)
    · rcases (show L = 0 ∨ L = 1 ∨ L = 2 ∨ L = 3 ∨ L = 4 ∨ L = 5 by omega) with rfl | rfl | rfl | rfl | rfl | rfl <;> decide
set_option maxHeartbeats 8000000 in
set_option maxRecDepth 100000 in
theorem whole_start {p : Program} {e : Env} {s : State} {m : MethodId} {below : List Frame} {meth : Method} {c : Code} (l : Launch) (hl0 : l.stackTraces = false) {b L : Nat} {xs : Nat → Int32} (hL : L ≤ 6) (C0 : lw_At p s m meth c b L xs) : W p l e room_1 s m #[Value.ref b] below meth c s.heap [] 0 0 (lw_Z below #[Value.ref b] s) (entryFrame m ([Value.ref b] : List Value).toArray 8) := by
  obtain ⟨hx, hb, hr, hml, hown, hts, hX, hbl, hlocks, hgv⟩ := id C0
  have hg : ∀ w ∈ gTb, w.before #[Value.ref b] s = true := fun w hw => hts w (List.mem_filter.mp hw).1
  have hnar : narrow_1.before #[Value.ref b] s = true := by rw [Cond.before_and, Bool.and_eq_true] at hgv; exact hgv.2
  obtain ⟨c0, i0, hK0⟩ := u_known (C := RX1) (T := TX1) (N := 18) (n := 18) hg nc_X1.2.1 (hg _ (gTb_1 (List.mem_of_getElem? (i := 57) rfl) rfl))
  obtain ⟨c1, i1, hK1⟩ := u_known (C := RX2) (T := TX2) (N := 8) (n := 8) hg nc_X2.2.1 (hg _ (gTb_1 (List.mem_of_getElem? (i := 225) rfl) rfl))
  obtain ⟨c2, i2, hK2⟩ := u_known (C := RX3) (T := TX3) (N := 3) (n := 3) hg nc_X3.2.1 (hg _ (gTb_1 (List.mem_of_getElem? (i := 37) rfl) rfl))
  obtain ⟨c3, i3, hK3⟩ := u_known (C := RX4) (T := TX4) (N := 6) (n := 6) hg nc_X4.2.1 (hg _ (gTb_1 (List.mem_of_getElem? (i := 163) rfl) rfl))
  obtain ⟨c4, i4, hK4⟩ := u_known (C := RX5) (T := TX5) (N := 9) (n := 9) hg nc_X5.2.1 (hg _ (gTb_1 (List.mem_of_getElem? (i := 128) rfl) rfl))
  obtain ⟨c5, i5, hK5⟩ := u_known (C := RX6) (T := TX6) (N := 1) (n := 1) hg nc_X6.2.1 (hg _ (gTb_1 (List.mem_of_getElem? (i := 189) rfl) rfl))
  obtain ⟨c6, i6, hK6⟩ := u_known (C := RX7) (T := TX7) (N := 13) (n := 13) hg nc_X7.2.1 (hg _ (gTb_2 (List.mem_of_getElem? (i := 59) rfl) rfl))
  obtain ⟨c7, i7, hK7⟩ := u_known (C := RX8) (T := TX8) (N := 5) (n := 5) hg nc_X8.2.1 (hg _ (gTb_1 (List.mem_of_getElem? (i := 202) rfl) rfl))
  obtain ⟨c8, i8, hK8⟩ := u_known (C := RX9) (T := TX9) (N := 9) (n := 9) hg nc_X9.2.1 (hg _ (gTb_2 (List.mem_of_getElem? (i := 19) rfl) rfl))
  obtain ⟨c9, i9, hK9⟩ := u_known (C := RX11) (T := TX11) (N := 10) (n := 10) hg nc_X11.2.1 (hg _ (gTb_2 (List.mem_of_getElem? (i := 61) rfl) rfl))
  obtain ⟨c10, i10, hK10⟩ := u_known (C := RX12) (T := TX12) (N := 17) (n := 17) hg nc_X12.2.1 (hg _ (gTb_1 (List.mem_of_getElem? (i := 29) rfl) rfl))
  obtain ⟨c11, i11, hK11⟩ := u_known (C := RX13) (T := TX13) (N := 104) (n := 104) hg nc_X13.2.1 (hg _ (gTb_7 (List.mem_of_getElem? (i := 172) rfl) rfl))
  obtain ⟨dC, dI, hKc⟩ : ∃ (dC : Nat → ClassId) (dI : Nat → Nat → Nat), ∀ (k : Nat) (q : vw_C), gCl[k]? = some q → u_Kn s q.1 q.2.1 q.2.2 (dC k) (dI k) := by
    refine ⟨fun k => if k = 0 then c0 else if k = 1 then c1 else if k = 2 then c2 else if k = 3 then c3 else if k = 4 then c4 else if k = 5 then c5 else if k = 6 then c6 else if k = 7 then c7 else if k = 8 then c8 else if k = 9 then c9 else if k = 10 then c10 else c11, fun k => if k = 0 then i0 else if k = 1 then i1 else if k = 2 then i2 else if k = 3 then i3 else if k = 4 then i4 else if k = 5 then i5 else if k = 6 then i6 else if k = 7 then i7 else if k = 8 then i8 else if k = 9 then i9 else if k = 10 then i10 else i11, ?_⟩
    intro k q hq
    match k, hq with
    | 0, hq => cases hq; exact hK0
    | 1, hq => cases hq; exact hK1
    | 2, hq => cases hq; exact hK2
    | 3, hq => cases hq; exact hK3
    | 4, hq => cases hq; exact hK4
    | 5, hq => cases hq; exact hK5
    | 6, hq => cases hq; exact hK6
    | 7, hq => cases hq; exact hK7
    | 8, hq => cases hq; exact hK8
    | 9, hq => cases hq; exact hK9
    | 10, hq => cases hq; exact hK10
    | 11, hq => cases hq; exact hK11
    | k + 12, hq => simp [gCl] at hq
  obtain ⟨t0, ht0⟩ := arr_of (hg _ (gTb_1 (List.mem_of_getElem? (i := 126) rfl) rfl)) (fun _ h => h)
  obtain ⟨t1, ht1⟩ := arr_of (hg _ (gTb_1 (List.mem_of_getElem? (i := 223) rfl) rfl)) (fun _ h => h)
  obtain ⟨t2, ht2⟩ := arr_of (hg _ (gTb_1 (List.mem_of_getElem? (i := 54) rfl) rfl)) (fun _ h => h)
  obtain ⟨t3, ht3⟩ := arr_of (hg _ (gTb_1 (List.mem_of_getElem? (i := 55) rfl) rfl)) (fun _ h => h)
  obtain ⟨t4, ht4⟩ := arr_of (hg _ (gTb_1 (List.mem_of_getElem? (i := 187) rfl) rfl)) (fun _ h => h)
  obtain ⟨T, hKt⟩ : ∃ T : Nat → ClassId, ∀ (k : Nat) (q : ClassId × FieldType), (nTy T)[k]? = some q → ArrOfT s q.1 q.2 ∧ va_RA s q.1 q.2 := by
    refine ⟨fun k => if k = 0 then t0 else if k = 1 then t1 else if k = 2 then t2 else if k = 3 then t3 else t4, ?_⟩
    intro k q hq
    match k, hq with
    | 0, hq => cases hq; exact ht0
    | 1, hq => cases hq; exact ht1
    | 2, hq => cases hq; exact ht2
    | 3, hq => cases hq; exact ht3
    | 4, hq => cases hq; exact ht4
    | k + 5, hq => simp [nTy] at hq
  have hl := lv_entry ([.ref b]) (n := 8) (Nat.le_of_ble_eq_true rfl)
  rw [lg_entry_eq]
  generalize (lg_sl ([.ref b]) ++ List.replicate (8 - (lg_sl ([.ref b])).length) Slot.unset).toArray = ls at hl ⊢
  have hl : lv_has ls 8 [(0, .ref b)] := hl
  obtain ⟨E, hEe⟩ : ∃ E : gEnv, E = (p, l, e, room_1, s, m, #[Value.ref b], below, meth, c, fun _ _ => True, (dC, dI), gCl, nTy T, (fun q => s.heap.size ≤ q), gNo, 8, lw_Z below #[Value.ref b] s) := ⟨_, rfl⟩
  have hE : nOK E cL_law RL T room_1 := by subst hEe; exact ⟨hx, hb, hml, hown, hg, hlocks, rfl, ⟨hKc, hKt⟩, fun _ h => h, z_nest hts⟩
  have hlk : lOK E T b L xs := ⟨hE, by subst hEe; rfl, by subst hEe; rfl, by subst hEe; rfl, by subst hEe; exact hr, by subst hEe; exact hX, by subst hEe; exact hbl, by subst hEe; rfl⟩
  have hel : (el E).stackTraces = false := by subst hEe; exact hl0
  have hza : ∀ g : Nat → Nat, zAll (zG #[Value.ref b] s g T) (eA E) (es E) := fun g => by subst hEe; exact z_all g T hts hnar (fun a ha => Nat.not_le.mpr ha)
  have hN8 : eN E = 8 := by subst hEe; rfl
  have main : NW E [] 0 0 0 [(0, .ref b)] [] := by
    refine n_new (fs := fzX12) hE nc_X12 (gTb_1 (List.mem_of_getElem? (i := 28) rfl) rfl) (gTb_1 (List.mem_of_getElem? (i := 29) rfl) rfl) (gTb_1 (List.mem_of_getElem? (i := 1) rfl) rfl) hzX12 (by decide) (by decide) (dL_law_g0.1) (fun q0 => ?_)
    refine n_dup hE (dL_law_g0.2.1) rfl ?_
    refine n_callI (n := 0) (b := q0) hE [] [.ref q0] (kX12_init (el E) (eD E) T (eA E) _ q0) rfl ⟨gTb_1 (List.mem_of_getElem? (i := 32) rfl) rfl, gTb_1 (List.mem_of_getElem? (i := 1) rfl) rfl, gTb_1 (List.mem_of_getElem? (i := 31) rfl) rfl⟩ ⟨by decide +kernel, by decide +kernel⟩ (by decide +kernel) (Or.inl (gTb_1 (List.mem_of_getElem? (i := 30) rfl) rfl)) rfl rfl (by simp [Value.category]) ⟨by decide, by decide⟩ ⟨by decide, by decide⟩ (dL_law_g0.2.2.1) (fun ws1 hw => ?_)
    obtain ⟨g, hg0, hgc, rfl⟩ := hw
    refine n_astore_n hE [(1, .ref q0), (0, .ref b)] (dL_law_g0.2.2.2.1) rfl hN8 (by decide) rfl ?_
    refine n_perm cPerm cPerm_nd (cPerm_ok g T) ?_
    refine n_new (fs := fzX13) hE nc_X13 (gTb_7 (List.mem_of_getElem? (i := 171) rfl) rfl) (gTb_7 (List.mem_of_getElem? (i := 172) rfl) rfl) (gTb_1 (List.mem_of_getElem? (i := 12) rfl) rfl) hzX13 (by decide) (by decide) (dL_law_g0.2.2.2.2.1) (fun q1 => ?_)
    refine n_dup hE (dL_law_g0.2.2.2.2.2.1) rfl ?_
    refine n_callI (n := 0) (b := q1) hE [] [.ref q1] (kX13_init (el E) (eD E) T (eA E) _ q1) rfl ⟨gTb_7 (List.mem_of_getElem? (i := 175) rfl) rfl, gTb_1 (List.mem_of_getElem? (i := 12) rfl) rfl, gTb_7 (List.mem_of_getElem? (i := 174) rfl) rfl⟩ ⟨by decide +kernel, by decide +kernel⟩ (by decide +kernel) (Or.inl (gTb_7 (List.mem_of_getElem? (i := 173) rfl) rfl)) rfl rfl (by simp [Value.category]) ⟨by decide, by decide⟩ ⟨by decide, by decide⟩ (dL_law_g0.2.2.2.2.2.2.1) (fun ws1 hw => ?_)
    obtain ⟨gm, hm0, hmc, rfl⟩ := hw
    refine n_astore_n hE [(2, .ref q1), (1, .ref q0), (0, .ref b)] (dL_law_g0.2.2.2.2.2.2.2.1) rfl hN8 (by decide) rfl ?_
    refine n_iconst (v := 1) hE (dL_law_g0.2.2.2.2.2.2.2.2.1) (by decide) ?_
    refine n_newa (N := 1) (n := 1) (aty := .long) (a0 := (1, .inr (.inl (fun _ => 0)))) hE .long rfl 1 rfl (gTb_1 (List.mem_of_getElem? (i := 223) rfl) rfl) (fun _ => rfl) (by decide) (by decide) (by decide) (by decide) (by decide) (dL_law_g0.2.2.2.2.2.2.2.2.2.1) (fun qo => ?_)
    refine n_astore_n hE [(3, .ref qo), (2, .ref q1), (1, .ref q0), (0, .ref b)] (dL_law_g0.2.2.2.2.2.2.2.2.2.2.1) rfl hN8 (by decide) rfl ?_
    refine n_iconst (v := 0) hE (dL_law_g0.2.2.2.2.2.2.2.2.2.2.2.1) (by decide) ?_
    refine n_istore hE [(4, .int 0), (3, .ref qo), (2, .ref q1), (1, .ref q0), (0, .ref b)] (dL_law_g0.2.2.2.2.2.2.2.2.2.2.2.2.1) hN8 (by decide) rfl ?_
    refine l_pick [4, 3, 2, 1, 0] (L' := [(0, .ref b), (1, .ref q0), (2, .ref q1), (3, .ref qo), (4, .int 0)]) rfl ?_
    rw [List.append_assoc]
    refine n_D (fun hD => ?_)
    have hcc : ∀ k, 200 ≤ k → k < 1400 → ∃ (i : Nat) (e : va_E), (cW (zG #[Value.ref b] s g T) cS0)[i]? = some ((zG #[Value.ref b] s g T).1 k, e) := fun k _ h2 => by
      obtain ⟨i, e, hi⟩ := hgc k
      refine ⟨i, e, ?_⟩
      rw [show (zG #[Value.ref b] s g T).1 k = g k from if_pos (by omega)]
      exact hi
    have hAA : ∀ q, cFree (zG #[Value.ref b] s g T) q → eA E q := fun q hq => by
      obtain ⟨k, h1, h2, rfl⟩ := hq
      obtain ⟨i, e, hi⟩ := hcc k h1 h2
      exact hD.2 i _ (n_left hi)
    have hfin := l_loop (E := E) (Gc := zG #[Value.ref b] s g T) (Gm := (gm, T)) (b := b) (L := L) (qo := qo) (xs := xs) (cn := 0 + 1 + rmX12.cells + 1 + rmX13.cells + 1) (sn := 0 + 17 + rmX12.slots + 104 + rmX13.slots + 1) hel rfl hL hlk (hza g) hAA hcc hmc (by decide) (by decide)
    subst hg0
    subst hm0
    exact hfin
  have := main s.heap [] ls (fun k q h => by simp at h) ⟨fun i j p q h => by simp at h, fun k q h => by simp at h⟩ (by subst hEe; exact va_S.rf) (by rw [hN8]; exact hl)
  subst hEe
  exact this
-- ===== YOUR PART ENDS =====
set_option maxHeartbeats 4000000 in
theorem lw_walk (l : Launch) (hl0 : l.stackTraces = false) (b : Addr) (xs : List Int32) : MetFree l x (headSpec (Jvm.Cond.code x code maxLocals ret :: tables_1) room_1) (lw_P b xs) (fun _ _ _ _ _ => True) lw_Q := by
  refine MetFree.of_bodyS (code := code) (maxLocals := maxLocals) (ret := ret) (by decide) ?_ ?_
  · intro args s m h hn
    obtain ⟨meth, c, h1, h2, h3, h4, h5, h6, -, -⟩ := Cond.code_spec hn (atoms_spec (ws := Jvm.Cond.code x code maxLocals ret :: tables_1) h _ List.mem_cons_self)
    exact ⟨meth, c, h1, h2, h3, h4, h5, h6⟩
  · intro p e s m args below meth c s₁ B hml0 hP _
    obtain ⟨rfl, hx, hbd, hgv⟩ := hP
    obtain ⟨scr, harrAt, hlist, hof, hsmall⟩ := hx
    obtain ⟨hcb, hkn, -, -⟩ := State.arrayAt?_spec harrAt
    have hown : s.vm.findClass R_law = some m.cls := findClass_of_methodNamed B.named
    have hts0 : ∀ c ∈ (Jvm.Cond.code x code maxLocals ret :: tables_1), c.before #[Value.ref b] s = true := atoms_spec (ws := Jvm.Cond.code x code maxLocals ret :: tables_1) B.pre
    have hts : ∀ w ∈ lw_tbl, w.before #[Value.ref b] s = true := k2_hts_sels lw_privs (fun w hw => hts0 w (List.mem_cons_of_mem _ hw)) lw_privs_ok
    have hml : c.maxLocals = 8 := B.maxLocals_eq (hts0 _ List.mem_cons_self)
    have X₀ : Stand p l e room_1 s m #[Value.ref b] below meth c s₁ [] 0 0 := Stand.of_body B
    have hh0 : s₁.heap = s.heap := by rw [B.state]; rfl
    have hsz : scr.slots.size = xs.length := by rw [← Array.length_toList, hlist, List.length_map]
    have hval : ∀ j : Nat, j < xs.length → scr.slots[j]? = some (.int (xs.getD j 0)) := fun j hj => by
      rw [← Array.getElem?_toList, hlist]
      simp [hj]
    have hbl : b < s.heap.size := (Array.getElem?_eq_some_iff.mp hcb).1
    have hX : va_X b xs.length (fun j => xs.getD j 0) s s.heap := ⟨scr, hcb, hof, hkn, hsz, hval⟩
    have K : W p l e room_1 s m #[Value.ref b] below meth c s₁.heap [] 0 0 (lw_Z below #[Value.ref b] s) (entryFrame m ([Value.ref b] : List Value).toArray 8) := by
      rw [hh0]
      exact whole_start l hl0 hbd ⟨B.exec, B.bytes, B.returns, hml, hown, hts, hX, hbl, B.notSynchronized, hgv⟩
    obtain ⟨t, a1, o, b1, b2, b3⟩ := K s₁ rfl X₀
    exact ⟨t, o, a1, b1, b2, b3⟩
theorem lw_pre_spec {args : Array Value} {s : State} (h : (Jvm.Cond.and given_1 narrow_1).before args s = true) (hr : rest_1_c.before args s = true) : ∃ (b : Addr) (xs : List Int32), lw_P b xs args s := by
  have hs := flat_of_before _ h
  have hq := flat_of_before _ hr
  have hc : (Cond.count 1).before args s = true := hs _ (by decide +kernel)
  have harr : (Cond.arrayOf (.arg 0) .int).before args s = true := hs _ (by decide +kernel)
  have hle : (Cond.le (.length (.arg 0)) (.int 6)).before args s = true := hs _ (by decide +kernel)
  have hlen : (Cond.isInt (.length (.arg 0))).before args s = true := hq _ (by decide +kernel)
  have hall : (Cond.all (.arg 0) (.isInt (.elem (.arg 0) (.index 0)))).before args s = true := hq _ (by decide +kernel)
  obtain ⟨b, xs, hb, hx⟩ := State.ints_of_pre rfl harr hlen hall
  have hsm : xs.length < 2 ^ 31 := hx.choose_spec.2.2.2
  have hev : (Term.length (.arg 0)).eval args s none [] s = some (.int xs.length.toInt32) := hx.length_eval hb
  have hv := Cond.le_ints hev (show (Term.int 6).eval args s none [] s = some (.int 6) from rfl)
  have hd : xs.length.toInt32 ≤ 6 := by
    simpa [Cond.before, Cond.holds, hv] using hle
  have hN : xs.length ≤ 6 := (Int32.ofNat_le_ofNat hsm (by decide)).mp (show Int32.ofNat xs.length ≤ Int32.ofNat 6 from hd)
  exact ⟨b, xs, Cond.one_arg hc (show args[0]? = some (.ref b) from hb), hx, hN, h⟩
theorem lw_comes (l : Launch) (hl0 : l.stackTraces = false) : Comes l x (Jvm.Cond.code x code maxLocals ret :: tables_1) room_1 (fun tb e args s => Calls_1 tb e args s ∧ rest_1 tb e args s ∧ Pre_1 tb e args s)
    (fun _ _ args s o t => lw_Q args s o t) := by
  intro p e ha hc hk s m args below hf hfit hheap happ hpre
  obtain ⟨b, xs, hP⟩ := lw_pre_spec hpre.2.2 hpre.2.1
  obtain ⟨k, o, h1, h2, h3, hQ⟩ := lw_walk l hl0 b xs p e ha hc hk s m args below hf ((Spec.applies_iff_loose hf).mp happ).1 hP trivial
  exact ⟨k, o, h1, h2, h3, hQ⟩
theorem lw_frame {s t : State} {o : Outcome} {args : Array Value} (h : Framed s o t [] 600002 7302232) :
    Framed s o t (fieldLocs frame_1_writes args s ++ arrayLocs frame_1_arrays args s ++ staticLocs frame_1_statics s) 600002 7302232 := h
theorem lw_limb (L : Cond) (hL : ∀ (args : Array Value) (s t : State), L.after args s (.returned (some (.int 1))) t = true) :
    ArmFor flags0 classFile x code maxLocals ret World_1 tables_1 room_1 Calls_1 rest_1 Pre_1
      (fun tb e a s o t => postC L tb e a s o t ∧ Framed s o t (fieldLocs frame_1_writes a s ++ arrayLocs frame_1_arrays a s ++ staticLocs frame_1_statics s) 600002 7302232) := by
  intro l hfl _ _ p e ha hc hk s m args below hf hfit hheap happ hpre
  have hl0 : l.stackTraces = false := by unfold Launch.stackTraces; rw [hfl]; decide
  obtain ⟨k, o, h1, h2, h3, rfl, hF⟩ := lw_comes l hl0 p e ha hc hk s m args below hf hfit hheap happ hpre
  exact ⟨k, _, h1, h2, h3, hL args s _, lw_frame hF⟩
theorem i_vc : Claimed_1_1 ∧ Claimed_1_2 := ⟨lw_limb limb_1_1 (fun args s t => by simp [limb_1_1, Cond.after, Cond.holds, Cond.value]), lw_limb limb_1_2 (fun args s t => Cond.after_iff.mpr (by
  first | (rw [show limb_1_2 = Cond.eq .result (.int 1) from rfl, Cond.eq_ints (x := 1) (y := 1) rfl rfl]; simp; done) | (simp [limb_1_2, Cond.value, Term.eval]; done)))⟩
