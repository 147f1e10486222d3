/-- a helper of the law: a call that throws at the start, caught: the answer is 1 -/
def hMet (l : Launch) (D : va_G) (T : Nat → ClassId) (A : Nat → Prop) (G : gAd) (y : MethodName) (code : ByteArray) (maxL : Nat) (hh : List (Nat × Nat × Nat × Nat)) (R : Room) (av : List Value) (ws Rs : va_W) : Prop :=
  Met l y (.codeWith y code maxL (some .int) hh :: gTb) R (va_Pc av (fun U => nPre D T A ws U ∧ zAll G A U)) (va_Qi (fun (r : Int32) (ws' : va_W) => r = 1 ∧ ws' = Rs) (fun (ws' : va_W) (t : State) => va_P D gCl ws' t.heap ∧ va_D A ws') A) R.cells R.slots A
def hFin (E : gEnv) (Rs : va_W) : Prop := eP E = MQ (eb E) (va_Qi (fun (r : Int32) (ws' : va_W) => r = 1 ∧ ws' = Rs) (fun (ws' : va_W) (t : State) => va_P (eD E) gCl ws' t.heap ∧ va_D (eA E) ws') (eA E)) (eg E) (es E) (eR E).cells (eR E).slots (eA E)
theorem hPre_blind {D : va_G} {T : Nat → ClassId} {A : Nat → Prop} {G : gAd} {ws : va_W} {av : List Value} : FrameBlind (va_Pc av (fun U => nPre D T A ws U ∧ zAll G A U)) := by
  intro a U g mk q
  obtain ⟨q0, q1, qZ⟩ := q
  exact ⟨q0, (nPre_blind (av := av) a U g mk ⟨q0, q1⟩).2, zAll_blind qZ⟩
theorem h_enter {l : Launch} {D : va_G} {T : Nat → ClassId} {A : Nat → Prop} {G : gAd} {y : MethodName} {code : ByteArray} {maxL : Nat} {hh : List (Nat × Nat × Nat × Nat)} {R : Room} {av : List Value} {ws Rs : va_W}
    (hy : plainName y.cls = true) (L0 : List (Nat × Value)) (hL : lv_args 0 av = L0) (hs : (lg_sl av).length ≤ maxL)
    (k : ∀ E : gEnv, nOK E code y.cls T R → el E = l → eD E = D → eA E = A → eN E = maxL → zAll G (eA E) (es E) → (ec E).exceptionTable.toList = tableOf hh → (et E).sig.returnType = some .int → hFin E Rs → NW E ws 0 0 0 L0 []) : hMet l D T A G y code maxL hh R av ws Rs := by
  refine va_MetW (cc := code) (maxL := maxL) (ret := some .int) (hh := hh) hy rfl ?_
  intro p e s m args below meth c s₁ B hml hv
  obtain ⟨rfl, ⟨hP, hK, hD, hA, hN⟩, hz⟩ := hv
  have hts := atoms_spec (ws := Cond.codeWith y code maxL (some .int) hh :: gTb) B.pre
  have htab := vx_table (x := y) B (hts _ List.mem_cons_self)
  have hl := lv_entry av (n := maxL) hs
  rw [lg_entry_eq]
  generalize (lg_sl av ++ List.replicate (maxL - (lg_sl av).length) Slot.unset).toArray = ls at hl ⊢
  rw [hL] at hl
  exact k (p, l, e, R, s, m, av.toArray, below, meth, c, fun _ _ => True, D, gCl, nTy T, A, gNo, maxL, MQ below (va_Qi (fun (r : Int32) (ws' : va_W) => r = 1 ∧ ws' = Rs) (fun (ws' : va_W) (t : State) => va_P D gCl ws' t.heap ∧ va_D A ws') A) av.toArray s R.cells R.slots A) ⟨B.exec, B.bytes, hml, findClass_of_methodNamed B.named, fun w hw => hts w (List.mem_cons_of_mem _ hw), B.notSynchronized, rfl, hK, hA, hN⟩ rfl rfl rfl rfl hz htab B.returns rfl s.heap [] ls hP hD va_S.rf hl
section HROWS
variable {E : gEnv} {cc : ByteArray} {own : String} {T : Nat → ClassId} {R : Room} {ws : va_W} {cn sn pc : Nat} {L : List (Nat × Value)} {st : List Value}
theorem n_iload_n (hE : nOK E cc own T R) (j : Nat) {n : Fin 4} {i : Nat} {x : Int32} (hd : decode cc pc = .ok (.iload_n n, 1)) (hi : (n : Nat) = i) (hj : L[j]? = some (i, .int x)) (k : NW E ws cn sn (pc + 1) L (.int x :: st)) : NW E ws cn sn pc L st := fun H locs ls hP hD hS hl => lv_iload_n hE.1 hE.2.1 hd hi (lv_at hl j hj) (k H locs ls hP hD hS hl)
theorem n_iload (hE : nOK E cc own T R) (j : Nat) {i : Nat} {x : Int32} (hd : decode cc pc = .ok (.iload i, 2)) (hj : L[j]? = some (i, .int x)) (k : NW E ws cn sn (pc + 2) L (.int x :: st)) : NW E ws cn sn pc L st := fun H locs ls hP hD hS hl => lv_iload hE.1 hE.2.1 hd (lv_at hl j hj) (k H locs ls hP hD hS hl)
theorem n_aload (hE : nOK E cc own T R) (j : Nat) {i : Nat} {x : Nat} (hd : decode cc pc = .ok (.aload i, 2)) (hj : L[j]? = some (i, .ref x)) (k : NW E ws cn sn (pc + 2) L (.ref x :: st)) : NW E ws cn sn pc L st := fun H locs ls hP hD hS hl => lv_aload hE.1 hE.2.1 hd (lv_at hl j hj) (k H locs ls hP hD hS hl)
theorem n_astore_n (hE : nOK E cc own T R) (L' : List (Nat × Value)) {n : Fin 4} {i : Nat} {x : Nat} (hd : decode cc pc = .ok (.astore_n n, 1)) (hi : (n : Nat) = i) {nL : Nat} (hN : eN E = nL) (hn : i < nL) (hl1 : (i, Value.ref x) :: L.filter (fun q => !(q.1 == i) && !(q.1 + 1 == i && q.2.category == 2)) = L') (k : NW E ws cn sn (pc + 1) L' st) : NW E ws cn sn pc L (.ref x :: st) := fun H locs ls hP hD hS hl => lv_astore_n hE.1 hE.2.1 hd hi hl (by rw [hN]; exact hn) hl1 (fun ls hl => k H locs ls hP hD hS hl)
theorem n_astore (hE : nOK E cc own T R) (L' : List (Nat × Value)) {i : Nat} {x : Nat} (hd : decode cc pc = .ok (.astore i, 2)) {nL : Nat} (hN : eN E = nL) (hn : i < nL) (hl1 : (i, Value.ref x) :: L.filter (fun q => !(q.1 == i) && !(q.1 + 1 == i && q.2.category == 2)) = L') (k : NW E ws cn sn (pc + 2) L' st) : NW E ws cn sn pc L (.ref x :: st) := fun H locs ls hP hD hS hl => lv_astore hE.1 hE.2.1 hd hl (by rw [hN]; exact hn) hl1 (fun ls hl => k H locs ls hP hD hS hl)
theorem n_istore (hE : nOK E cc own T R) (L' : List (Nat × Value)) {i : Nat} {x : Int32} (hd : decode cc pc = .ok (.istore i, 2)) {nL : Nat} (hN : eN E = nL) (hn : i < nL) (hl1 : (i, Value.int x) :: L.filter (fun q => !(q.1 == i) && !(q.1 + 1 == i && q.2.category == 2)) = L') (k : NW E ws cn sn (pc + 2) L' st) : NW E ws cn sn pc L (.int x :: st) := fun H locs ls hP hD hS hl => lv_istore hE.1 hE.2.1 hd hl (by rw [hN]; exact hn) hl1 (fun ls hl => k H locs ls hP hD hS hl)
theorem n_lstore (hE : nOK E cc own T R) (L' : List (Nat × Value)) {i : Nat} {x : Int64} (hd : decode cc pc = .ok (.lstore i, 2)) {nL : Nat} (hN : eN E = nL) (hn : i + 1 < nL) (hl1 : (i, Value.long x) :: L.filter (fun q => !(q.1 == i) && (!(q.1 == i + 1) && !(q.1 + 1 == i && q.2.category == 2))) = L') (k : NW E ws cn sn (pc + 2) L' st) : NW E ws cn sn pc L (.long x :: st) := fun H locs ls hP hD hS hl => lv_lstore hE.1 hE.2.1 hd hl (by rw [hN]; exact hn) hl1 (fun ls hl => k H locs ls hP hD hS hl)
theorem h_iret (hE : nOK E cc own T R) {Rs : va_W} (hF : hFin E Rs) (hr : (et E).sig.returnType = some .int) (hc : cn ≤ R.cells) (hs : sn ≤ R.slots) (hd : decode cc pc = .ok (.ireturn, 1)) : NW E Rs cn sn pc L [.int 1] := fun H locs ls hP hD hS hl => by
  obtain ⟨h1, h2, h3, h4, h5, h6, h7, h8, h9, h10⟩ := hE
  rw [hF]
  exact W.widen (k := (eR E).cells) (n := (eR E).slots) (by rw [h7]; exact hc) (by rw [h7]; exact hs) (W.iret h1 h2 hr (fun t ht hW => ⟨⟨1, Rs, rfl, ⟨rfl, rfl⟩, by rw [ht]; exact hP, hD⟩, hS.F ht⟩) hS.2.2 hd h6)
end HROWS
theorem cCut {G : gAd} {σ : CS} (hc : ∀ k, 200 ≤ k → k < 1400 → ∃ (i : Nat) (e : va_E), (cW G σ)[i]? = some (G.1 k, e)) : nCut (cFree G) (cW G σ) := ⟨fun q hq => by obtain ⟨k, h1, h2, rfl⟩ := hq; exact hc k h1 h2, fun i x hx => cW_in G σ x (List.mem_of_getElem? hx)⟩
theorem zAll_at {E : gEnv} {G : gAd} (hz : zAll G (eA E) (es E)) (hA : ∀ q, cFree G q → eA E q) : ∀ U : State, (es E).WarmedH U.vm → va_F (eA E) (es E) U → cZ G U := fun _ hW hF => zAll_narrow (zAll_on hW hF hz) hA
theorem cast_X {E : gEnv} {G : gAd} (hz : zAll G (eA E) (es E)) : (Cond.castable ioobe ioobe).before (eg E) (es E) = true := (hz.1.2.1 _ List.mem_cons_self).use rfl
abbrev rmH : Room := { frames := 8, cells := 1, slots := 6, locals := 512 }
theorem gc_kind : gCalV RL 7 yX12_kind cX12_kind 2 (some .int) 1 := ⟨⟨gTb_7 (List.mem_of_getElem? (i := 27) rfl) rfl, gTb_7 (List.mem_of_getElem? (i := 30) rfl) rfl, gTb_1 (List.mem_of_getElem? (i := 1) rfl) rfl, ⟨by decide +kernel, by decide +kernel⟩, by decide +kernel, by decide⟩, gTb_7 (List.mem_of_getElem? (i := 28) rfl) rfl, gTb_7 (List.mem_of_getElem? (i := 29) rfl) rfl⟩
set_option maxHeartbeats 4000000 in
theorem kL_kind (l : Launch) (hl0 : l.stackTraces = false) (D : va_G) (A : Nat → Prop) (G : gAd) (σ : CS) (Rs : va_W) (qo : Nat) (a1 : Int32) (hcov : ∀ k, 200 ≤ k → k < 1400 → ∃ (i : Nat) (e : va_E), (cW G σ)[i]? = some (G.1 k, e)) (hA : ∀ q, cFree G q → A q) (hw : wc_ft_kind (fun _ _ => False) (fun _ => True) σ a1) : hMet l D G.2 A G yL_kind cL_kind 4 [(0, 9, 12, 13)] rmH [.ref (G.1 200), .int a1, .ref qo] (cW G σ ++ Rs) Rs := by
  refine h_enter (by decide +kernel) [(0, .ref (G.1 200)), (1, .int a1), (2, .ref qo)] rfl (Nat.le_of_ble_eq_true rfl) (fun E hE hl1 hD1 hA1 hN1 hz htab hr hF => ?_)
  have hE : nOK E cL_kind RL G.2 rmH := hE
  subst hl1; subst hD1; subst hA1
  refine n_aload_n hE 2 (dL_kind_g0.1) rfl rfl ?_
  refine n_iconst (v := 0) hE (dL_kind_g0.2.1) (by decide) ?_
  refine n_aload_n hE 0 (dL_kind_g0.2.2.1) rfl rfl ?_
  refine n_iload_n hE 1 (dL_kind_g0.2.2.2.1) rfl rfl ?_
  refine l_callX hE [.int a1] [.int 0, .ref qo] (cCut hcov) (cZ_ok G) (zAll_at hz hA) gc_kind (kc_ft_kind (D := eD E) hl0 hw) (fun ws' rv h => ?_) ⟨0, 10, cF_ft G σ, _, rfl, rfl, rfl⟩ (by decide) (by decide) ⟨by decide, by decide⟩ rfl rfl (by simp [Value.category]) (dL_kind_g0.2.2.2.2.1) ⟨0, 9, 12, 13⟩ htab (by decide) (by decide) (gTb_7 (List.mem_of_getElem? (i := 26) rfl) rfl) (cast_X hz) (fun qx => ?_)
  · obtain ⟨σ', -, r, -, h⟩ := h
    exact h
  refine n_astore_n hE [(3, .ref qx), (0, .ref (G.1 200)), (1, .int a1), (2, .ref qo)] (dL_kind_g0.2.2.2.2.2.2.2.2.1) rfl hN1 (by decide) rfl ?_
  refine n_iconst (v := 1) hE (dL_kind_g0.2.2.2.2.2.2.2.2.2.1) (by decide) ?_
  exact h_iret hE hF hr (by decide) (by decide) (dL_kind_g0.2.2.2.2.2.2.2.2.2.2.1)
theorem gc_number : gCalV RL 15 yX12_number cX12_number 7 (some .long) 3 := ⟨⟨gTb_7 (List.mem_of_getElem? (i := 104) rfl) rfl, gTb_7 (List.mem_of_getElem? (i := 107) rfl) rfl, gTb_1 (List.mem_of_getElem? (i := 1) rfl) rfl, ⟨by decide +kernel, by decide +kernel⟩, by decide +kernel, by decide⟩, gTb_7 (List.mem_of_getElem? (i := 105) rfl) rfl, gTb_7 (List.mem_of_getElem? (i := 106) rfl) rfl⟩
set_option maxHeartbeats 4000000 in
theorem kL_number (l : Launch) (hl0 : l.stackTraces = false) (D : va_G) (A : Nat → Prop) (G : gAd) (σ : CS) (Rs : va_W) (qo : Nat) (a1 a2 a3 : Int32) (hcov : ∀ k, 200 ≤ k → k < 1400 → ∃ (i : Nat) (e : va_E), (cW G σ)[i]? = some (G.1 k, e)) (hA : ∀ q, cFree G q → A q) (hw : wc_ft_number (fun _ _ => False) (fun _ => True) σ a1 a2 a3) : hMet l D G.2 A G yL_number cL_number 6 [(0, 11, 14, 13)] rmH [.ref (G.1 200), .int a1, .int a2, .int a3, .ref qo] (cW G σ ++ Rs) Rs := by
  refine h_enter (by decide +kernel) [(0, .ref (G.1 200)), (1, .int a1), (2, .int a2), (3, .int a3), (4, .ref qo)] rfl (Nat.le_of_ble_eq_true rfl) (fun E hE hl1 hD1 hA1 hN1 hz htab hr hF => ?_)
  have hE : nOK E cL_number RL G.2 rmH := hE
  subst hl1; subst hD1; subst hA1
  refine n_aload hE 4 (dL_number_g0.1) rfl ?_
  refine n_iconst (v := 0) hE (dL_number_g0.2.1) (by decide) ?_
  refine n_aload_n hE 0 (dL_number_g0.2.2.1) rfl rfl ?_
  refine n_iload_n hE 1 (dL_number_g0.2.2.2.1) rfl rfl ?_
  refine n_iload_n hE 2 (dL_number_g0.2.2.2.2.1) rfl rfl ?_
  refine n_iload_n hE 3 (dL_number_g0.2.2.2.2.2.1) rfl rfl ?_
  refine l_callX hE [.int a1, .int a2, .int a3] [.int 0, .ref qo] (cCut hcov) (cZ_ok G) (zAll_at hz hA) gc_number (kc_ft_number (D := eD E) hl0 hw) (fun ws' rv h => ?_) ⟨0, 10, cF_ft G σ, _, rfl, rfl, rfl⟩ (by decide) (by decide) ⟨by decide, by decide⟩ rfl rfl (by simp [Value.category]) (dL_number_g0.2.2.2.2.2.2.1) ⟨0, 11, 14, 13⟩ htab (by decide) (by decide) (gTb_7 (List.mem_of_getElem? (i := 26) rfl) rfl) (cast_X hz) (fun qx => ?_)
  · obtain ⟨σ', -, r, -, h⟩ := h
    exact h
  refine n_astore hE [(5, .ref qx), (0, .ref (G.1 200)), (1, .int a1), (2, .int a2), (3, .int a3), (4, .ref qo)] (dL_number_g0.2.2.2.2.2.2.2.2.2.1) hN1 (by decide) rfl ?_
  refine n_iconst (v := 1) hE (dL_number_g0.2.2.2.2.2.2.2.2.2.2.1) (by decide) ?_
  exact h_iret hE hF hr (by decide) (by decide) (dL_number_g0.2.2.2.2.2.2.2.2.2.2.2.1)
theorem gc_leans : gCalV RL 19 yX12_leans cX12_leans 2 (some .int) 1 := ⟨⟨gTb_7 (List.mem_of_getElem? (i := 115) rfl) rfl, gTb_7 (List.mem_of_getElem? (i := 118) rfl) rfl, gTb_1 (List.mem_of_getElem? (i := 1) rfl) rfl, ⟨by decide +kernel, by decide +kernel⟩, by decide +kernel, by decide⟩, gTb_7 (List.mem_of_getElem? (i := 116) rfl) rfl, gTb_7 (List.mem_of_getElem? (i := 117) rfl) rfl⟩
set_option maxHeartbeats 4000000 in
theorem kL_leans (l : Launch) (hl0 : l.stackTraces = false) (D : va_G) (A : Nat → Prop) (G : gAd) (σ : CS) (Rs : va_W) (qo : Nat) (a1 : Int32) (hcov : ∀ k, 200 ≤ k → k < 1400 → ∃ (i : Nat) (e : va_E), (cW G σ)[i]? = some (G.1 k, e)) (hA : ∀ q, cFree G q → A q) (hw : wc_ft_leans (fun _ _ => False) (fun _ => True) σ a1) : hMet l D G.2 A G yL_leans cL_leans 4 [(0, 9, 12, 13)] rmH [.ref (G.1 200), .int a1, .ref qo] (cW G σ ++ Rs) Rs := by
  refine h_enter (by decide +kernel) [(0, .ref (G.1 200)), (1, .int a1), (2, .ref qo)] rfl (Nat.le_of_ble_eq_true rfl) (fun E hE hl1 hD1 hA1 hN1 hz htab hr hF => ?_)
  have hE : nOK E cL_leans RL G.2 rmH := hE
  subst hl1; subst hD1; subst hA1
  refine n_aload_n hE 2 (dL_leans_g0.1) rfl rfl ?_
  refine n_iconst (v := 0) hE (dL_leans_g0.2.1) (by decide) ?_
  refine n_aload_n hE 0 (dL_leans_g0.2.2.1) rfl rfl ?_
  refine n_iload_n hE 1 (dL_leans_g0.2.2.2.1) rfl rfl ?_
  refine l_callX hE [.int a1] [.int 0, .ref qo] (cCut hcov) (cZ_ok G) (zAll_at hz hA) gc_leans (kc_ft_leans (D := eD E) hl0 hw) (fun ws' rv h => ?_) ⟨0, 10, cF_ft G σ, _, rfl, rfl, rfl⟩ (by decide) (by decide) ⟨by decide, by decide⟩ rfl rfl (by simp [Value.category]) (dL_leans_g0.2.2.2.2.1) ⟨0, 9, 12, 13⟩ htab (by decide) (by decide) (gTb_7 (List.mem_of_getElem? (i := 26) rfl) rfl) (cast_X hz) (fun qx => ?_)
  · obtain ⟨σ', -, r, -, h⟩ := h
    exact h
  refine n_astore_n hE [(3, .ref qx), (0, .ref (G.1 200)), (1, .int a1), (2, .ref qo)] (dL_leans_g0.2.2.2.2.2.2.2.2.1) rfl hN1 (by decide) rfl ?_
  refine n_iconst (v := 1) hE (dL_leans_g0.2.2.2.2.2.2.2.2.2.1) (by decide) ?_
  exact h_iret hE hF hr (by decide) (by decide) (dL_leans_g0.2.2.2.2.2.2.2.2.2.2.1)
theorem gc_stated : gCalV RL 22 yX12_stated cX12_stated 2 (some .int) 1 := ⟨⟨gTb_7 (List.mem_of_getElem? (i := 123) rfl) rfl, gTb_7 (List.mem_of_getElem? (i := 126) rfl) rfl, gTb_1 (List.mem_of_getElem? (i := 1) rfl) rfl, ⟨by decide +kernel, by decide +kernel⟩, by decide +kernel, by decide⟩, gTb_7 (List.mem_of_getElem? (i := 124) rfl) rfl, gTb_7 (List.mem_of_getElem? (i := 125) rfl) rfl⟩
set_option maxHeartbeats 4000000 in
theorem kL_stated (l : Launch) (hl0 : l.stackTraces = false) (D : va_G) (A : Nat → Prop) (G : gAd) (σ : CS) (Rs : va_W) (qo : Nat) (a1 : Int32) (hcov : ∀ k, 200 ≤ k → k < 1400 → ∃ (i : Nat) (e : va_E), (cW G σ)[i]? = some (G.1 k, e)) (hA : ∀ q, cFree G q → A q) (hw : wc_ft_stated (fun _ _ => False) (fun _ => True) σ a1) : hMet l D G.2 A G yL_stated cL_stated 4 [(0, 9, 12, 13)] rmH [.ref (G.1 200), .int a1, .ref qo] (cW G σ ++ Rs) Rs := by
  refine h_enter (by decide +kernel) [(0, .ref (G.1 200)), (1, .int a1), (2, .ref qo)] rfl (Nat.le_of_ble_eq_true rfl) (fun E hE hl1 hD1 hA1 hN1 hz htab hr hF => ?_)
  have hE : nOK E cL_stated RL G.2 rmH := hE
  subst hl1; subst hD1; subst hA1
  refine n_aload_n hE 2 (dL_stated_g0.1) rfl rfl ?_
  refine n_iconst (v := 0) hE (dL_stated_g0.2.1) (by decide) ?_
  refine n_aload_n hE 0 (dL_stated_g0.2.2.1) rfl rfl ?_
  refine n_iload_n hE 1 (dL_stated_g0.2.2.2.1) rfl rfl ?_
  refine l_callX hE [.int a1] [.int 0, .ref qo] (cCut hcov) (cZ_ok G) (zAll_at hz hA) gc_stated (kc_ft_stated (D := eD E) hl0 hw) (fun ws' rv h => ?_) ⟨0, 10, cF_ft G σ, _, rfl, rfl, rfl⟩ (by decide) (by decide) ⟨by decide, by decide⟩ rfl rfl (by simp [Value.category]) (dL_stated_g0.2.2.2.2.1) ⟨0, 9, 12, 13⟩ htab (by decide) (by decide) (gTb_7 (List.mem_of_getElem? (i := 26) rfl) rfl) (cast_X hz) (fun qx => ?_)
  · obtain ⟨σ', -, r, -, h⟩ := h
    exact h
  refine n_astore_n hE [(3, .ref qx), (0, .ref (G.1 200)), (1, .int a1), (2, .ref qo)] (dL_stated_g0.2.2.2.2.2.2.2.2.1) rfl hN1 (by decide) rfl ?_
  refine n_iconst (v := 1) hE (dL_stated_g0.2.2.2.2.2.2.2.2.2.1) (by decide) ?_
  exact h_iret hE hF hr (by decide) (by decide) (dL_stated_g0.2.2.2.2.2.2.2.2.2.2.1)
theorem gc_same : gCalV RL 25 yX12_same cX12_same 3 (some .boolean) 2 := ⟨⟨gTb_7 (List.mem_of_getElem? (i := 131) rfl) rfl, gTb_7 (List.mem_of_getElem? (i := 134) rfl) rfl, gTb_1 (List.mem_of_getElem? (i := 1) rfl) rfl, ⟨by decide +kernel, by decide +kernel⟩, by decide +kernel, by decide⟩, gTb_7 (List.mem_of_getElem? (i := 132) rfl) rfl, gTb_7 (List.mem_of_getElem? (i := 133) rfl) rfl⟩
set_option maxHeartbeats 4000000 in
theorem kL_same (l : Launch) (hl0 : l.stackTraces = false) (D : va_G) (A : Nat → Prop) (G : gAd) (σ : CS) (Rs : va_W) (qo : Nat) (a1 a2 : Int32) (hcov : ∀ k, 200 ≤ k → k < 1400 → ∃ (i : Nat) (e : va_E), (cW G σ)[i]? = some (G.1 k, e)) (hA : ∀ q, cFree G q → A q) (hw : wc_ft_same (fun _ _ => False) (fun _ => True) σ a1 a2) : hMet l D G.2 A G yL_same cL_same 5 [(0, 17, 20, 13)] rmH [.ref (G.1 200), .int a1, .int a2, .ref qo] (cW G σ ++ Rs) Rs := by
  refine h_enter (by decide +kernel) [(0, .ref (G.1 200)), (1, .int a1), (2, .int a2), (3, .ref qo)] rfl (Nat.le_of_ble_eq_true rfl) (fun E hE hl1 hD1 hA1 hN1 hz htab hr hF => ?_)
  have hE : nOK E cL_same RL G.2 rmH := hE
  subst hl1; subst hD1; subst hA1
  refine n_aload_n hE 3 (dL_same_g0.1) rfl rfl ?_
  refine n_iconst (v := 0) hE (dL_same_g0.2.1) (by decide) ?_
  refine n_aload_n hE 0 (dL_same_g0.2.2.1) rfl rfl ?_
  refine n_iload_n hE 1 (dL_same_g0.2.2.2.1) rfl rfl ?_
  refine n_iload_n hE 2 (dL_same_g0.2.2.2.2.1) rfl rfl ?_
  refine l_callX hE [.int a1, .int a2] [.int 0, .ref qo] (cCut hcov) (cZ_ok G) (zAll_at hz hA) gc_same (kc_ft_same (D := eD E) hl0 hw) (fun ws' rv h => ?_) ⟨0, 10, cF_ft G σ, _, rfl, rfl, rfl⟩ (by decide) (by decide) ⟨by decide, by decide⟩ rfl rfl (by simp [Value.category]) (dL_same_g0.2.2.2.2.2.1) ⟨0, 17, 20, 13⟩ htab (by decide) (by decide) (gTb_7 (List.mem_of_getElem? (i := 26) rfl) rfl) (cast_X hz) (fun qx => ?_)
  · obtain ⟨σ', -, r, -, h⟩ := h
    exact h
  refine n_astore hE [(4, .ref qx), (0, .ref (G.1 200)), (1, .int a1), (2, .int a2), (3, .ref qo)] (dL_same_g0.2.2.2.2.2.2.2.2.2.2.2.2.1) hN1 (by decide) rfl ?_
  refine n_iconst (v := 1) hE (dL_same_g0.2.2.2.2.2.2.2.2.2.2.2.2.2.1) (by decide) ?_
  exact h_iret hE hF hr (by decide) (by decide) (dL_same_g0.2.2.2.2.2.2.2.2.2.2.2.2.2.2.1)
theorem gc_write : gCalV RL 29 yX12_write cX12_write 3 (some .int) 1 := ⟨⟨gTb_7 (List.mem_of_getElem? (i := 139) rfl) rfl, gTb_7 (List.mem_of_getElem? (i := 142) rfl) rfl, gTb_1 (List.mem_of_getElem? (i := 1) rfl) rfl, ⟨by decide +kernel, by decide +kernel⟩, by decide +kernel, by decide⟩, gTb_7 (List.mem_of_getElem? (i := 140) rfl) rfl, gTb_7 (List.mem_of_getElem? (i := 141) rfl) rfl⟩
set_option maxHeartbeats 4000000 in
theorem kL_write (l : Launch) (hl0 : l.stackTraces = false) (D : va_G) (A : Nat → Prop) (G : gAd) (σ : CS) (Rs : va_W) (qo : Nat) (a1 : Int32) (hcov : ∀ k, 200 ≤ k → k < 1400 → ∃ (i : Nat) (e : va_E), (cW G σ)[i]? = some (G.1 k, e)) (hA : ∀ q, cFree G q → A q) (hw : wc_ft_write (fun _ _ => False) (fun _ => True) σ a1) : hMet l D G.2 A G yL_write cL_write 4 [(0, 9, 12, 13)] rmH [.ref (G.1 200), .int a1, .ref qo] (cW G σ ++ Rs) Rs := by
  refine h_enter (by decide +kernel) [(0, .ref (G.1 200)), (1, .int a1), (2, .ref qo)] rfl (Nat.le_of_ble_eq_true rfl) (fun E hE hl1 hD1 hA1 hN1 hz htab hr hF => ?_)
  have hE : nOK E cL_write RL G.2 rmH := hE
  subst hl1; subst hD1; subst hA1
  refine n_aload_n hE 2 (dL_write_g0.1) rfl rfl ?_
  refine n_iconst (v := 0) hE (dL_write_g0.2.1) (by decide) ?_
  refine n_aload_n hE 0 (dL_write_g0.2.2.1) rfl rfl ?_
  refine n_iload_n hE 1 (dL_write_g0.2.2.2.1) rfl rfl ?_
  refine l_callX hE [.int a1] [.int 0, .ref qo] (cCut hcov) (cZ_ok G) (zAll_at hz hA) gc_write (kc_ft_write (D := eD E) hl0 hw) (fun ws' rv h => ?_) ⟨0, 10, cF_ft G σ, _, rfl, rfl, rfl⟩ (by decide) (by decide) ⟨by decide, by decide⟩ rfl rfl (by simp [Value.category]) (dL_write_g0.2.2.2.2.1) ⟨0, 9, 12, 13⟩ htab (by decide) (by decide) (gTb_7 (List.mem_of_getElem? (i := 26) rfl) rfl) (cast_X hz) (fun qx => ?_)
  · obtain ⟨σ', -, r, -, h⟩ := h
    exact h
  refine n_astore_n hE [(3, .ref qx), (0, .ref (G.1 200)), (1, .int a1), (2, .ref qo)] (dL_write_g0.2.2.2.2.2.2.2.2.1) rfl hN1 (by decide) rfl ?_
  refine n_iconst (v := 1) hE (dL_write_g0.2.2.2.2.2.2.2.2.2.1) (by decide) ?_
  exact h_iret hE hF hr (by decide) (by decide) (dL_write_g0.2.2.2.2.2.2.2.2.2.2.1)
theorem gc_out : gCalV RL 32 yX12_out cX12_out 2 (some .int) 1 := ⟨⟨gTb_7 (List.mem_of_getElem? (i := 161) rfl) rfl, gTb_7 (List.mem_of_getElem? (i := 164) rfl) rfl, gTb_1 (List.mem_of_getElem? (i := 1) rfl) rfl, ⟨by decide +kernel, by decide +kernel⟩, by decide +kernel, by decide⟩, gTb_7 (List.mem_of_getElem? (i := 162) rfl) rfl, gTb_7 (List.mem_of_getElem? (i := 163) rfl) rfl⟩
set_option maxHeartbeats 4000000 in
theorem kL_out (l : Launch) (hl0 : l.stackTraces = false) (D : va_G) (A : Nat → Prop) (G : gAd) (σ : CS) (Rs : va_W) (qo : Nat) (a1 : Int32) (hcov : ∀ k, 200 ≤ k → k < 1400 → ∃ (i : Nat) (e : va_E), (cW G σ)[i]? = some (G.1 k, e)) (hA : ∀ q, cFree G q → A q) (hw : wc_ft_out (fun _ _ => False) (fun _ => True) σ a1) : hMet l D G.2 A G yL_out cL_out 4 [(0, 9, 12, 13)] rmH [.ref (G.1 200), .int a1, .ref qo] (cW G σ ++ Rs) Rs := by
  refine h_enter (by decide +kernel) [(0, .ref (G.1 200)), (1, .int a1), (2, .ref qo)] rfl (Nat.le_of_ble_eq_true rfl) (fun E hE hl1 hD1 hA1 hN1 hz htab hr hF => ?_)
  have hE : nOK E cL_out RL G.2 rmH := hE
  subst hl1; subst hD1; subst hA1
  refine n_aload_n hE 2 (dL_out_g0.1) rfl rfl ?_
  refine n_iconst (v := 0) hE (dL_out_g0.2.1) (by decide) ?_
  refine n_aload_n hE 0 (dL_out_g0.2.2.1) rfl rfl ?_
  refine n_iload_n hE 1 (dL_out_g0.2.2.2.1) rfl rfl ?_
  refine l_callX hE [.int a1] [.int 0, .ref qo] (cCut hcov) (cZ_ok G) (zAll_at hz hA) gc_out (kc_ft_out (D := eD E) hl0 hw) (fun ws' rv h => ?_) ⟨0, 10, cF_ft G σ, _, rfl, rfl, rfl⟩ (by decide) (by decide) ⟨by decide, by decide⟩ rfl rfl (by simp [Value.category]) (dL_out_g0.2.2.2.2.1) ⟨0, 9, 12, 13⟩ htab (by decide) (by decide) (gTb_7 (List.mem_of_getElem? (i := 26) rfl) rfl) (cast_X hz) (fun qx => ?_)
  · obtain ⟨σ', -, r, -, h⟩ := h
    exact h
  refine n_astore_n hE [(3, .ref qx), (0, .ref (G.1 200)), (1, .int a1), (2, .ref qo)] (dL_out_g0.2.2.2.2.2.2.2.2.1) rfl hN1 (by decide) rfl ?_
  refine n_iconst (v := 1) hE (dL_out_g0.2.2.2.2.2.2.2.2.2.1) (by decide) ?_
  exact h_iret hE hF hr (by decide) (by decide) (dL_out_g0.2.2.2.2.2.2.2.2.2.2.1)
