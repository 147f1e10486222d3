section VXC
variable {p : Program} {l : Launch} {e : Env} {R : Room} {s : State} {m : MethodId} {args : Array Value} {below : List Frame} {meth : Method} {c : Code} {H : Heap} {locs : List Loc} {cells slots : Nat} {Q : State → Prop}
variable {pc : Nat} {ls : Array Slot} {rest : List Value}
theorem vx_catch {own name : String} {E : String} {ce : Cell} {q : Addr} (hown : s.vm.findClass own = some m.cls) (pre : List ExceptionTableEntry) (x : ExceptionTableEntry) (suf : List ExceptionTableEntry) (hsplit : c.exceptionTable.toList = pre ++ x :: suf)
    (hpass : ∀ z ∈ pre, covers z pc = false ∨ (z.catchType ≠ 0 ∧ ∃ nm : String, (Cond.classLink own z.catchType nm).before args s = true ∧ va_Nc E nm s)) (hx : covers x pc = true) (h0 : x.catchType ≠ 0)
    (hlink : (Cond.classLink own x.catchType name).before args s = true) (hcast : (Cond.castable E name).before args s = true) (hcell : H[q]? = some ce) (hv : ce.vm = .none) (hcl : s.vm.findClass E = some ce.cls)
    (kk : W p l e R s m args below meth c H locs cells slots Q (F0 m x.handlerPc ls [.ref q])) : vx_W p l e R s m args below meth c H locs cells slots Q (F0 m pc ls rest) q := by
  intro T hT X
  have hpl : e.platform.magicAccessors = ({} : Platform).magicAccessors := by rw [X.admits.platform]
  obtain ⟨c3, c4, hc3, hc4, hasg⟩ := Cond.castable_spec hcast
  cases Option.some.inj (hc3.symm.trans hcl)
  obtain ⟨c5, hc5, hcl5⟩ := Cond.classLink_spec hown hlink e.platform hpl
  cases Option.some.inj (hc4.symm.trans hc5)
  obtain ⟨vm', X', st⟩ := X.thenCaughtThrough q (g := F0 m pc ls rest) rfl (Steps.refl _) (by rw [hT]; exact hcell) (by rw [hv]; rfl) (by obtain ⟨k9, h9, -⟩ := Vm.findClass_spec hcl; exact ⟨k9, h9⟩) pre x suf hsplit
    (fun z hz => by
      rcases hpass z hz with h | ⟨hz0, nm, hl1, hn1⟩
      · exact Or.inl h
      · obtain ⟨c6, hc6, hcl6⟩ := Cond.classLink_spec hown hl1 e.platform hpl
        obtain ⟨a8, b8, h1, h2, h3⟩ := hn1
        cases Option.some.inj (h1.symm.trans hcl)
        cases Option.some.inj (h2.symm.trans hc6)
        exact Or.inr ⟨hz0, _, hcl6, h3⟩) hx (Or.inr ⟨h0, c4, hcl5, hasg⟩)
  obtain ⟨t, a1, b1⟩ := kk (T.setVm vm') hT X'
  exact ⟨t, st.trans a1, b1⟩
end VXC
/-! THE LAW: its calls into the class and the reference -/
/-- what is given of the cells that nobody writes, none of them in A -/
def zAll (G : gAd) (A : Nat → Prop) : State → Prop := fun U => ((∀ w ∈ cNest, va_Nw w U) ∧ zX A U U.heap) ∧ (∀ q ∈ cStr, vk_R q.1 q.2.1 q.2.2.1 (G.1 (5000 + q.2.2.2)) U) ∧ zS G A U U.heap ∧ zT G A U U.heap ∧ zV G A U U.heap
theorem zAll_on {G : gAd} {A : Nat → Prop} {s U : State} (hW : s.WarmedH U.vm) (hF : va_F A s U) (h : zAll G A s) : zAll G A U :=
  ⟨⟨fun w hw => cNest_warm hW hw (h.1.1 w hw), fun w hw => xBad_warm hW hw (h.1.2.1 w hw), (h.1.2.2.1.kept hF.2).moved hW.alike, (h.1.2.2.2.kept hF.2).moved hW.alike⟩, fun q hq => vk_R.warm hW (h.2.1 q hq), zS.on hW.alike hF.2 h.2.2.1, zT.on hW.alike hF.2 h.2.2.2.1, zV.on hW.alike hF.2 h.2.2.2.2⟩
theorem zAll_blind {G : gAd} {A : Nat → Prop} {U : State} {g : JFrame} {mk : MethodId} {a : Array Value} (h : zAll G A U) : zAll G A (U.calling g mk a) :=
  ⟨⟨fun w hw => va_Nw.same (cNest_tab hw) (show U.vm = (U.calling g mk a).vm from rfl) (h.1.1 w hw), fun w hw => va_Nw.same (xBad_tab hw) (show U.vm = (U.calling g mk a).vm from rfl) (h.1.2.1 w hw), vx_Zq.moved (Vm.Alike.refl U.vm) h.1.2.2.1, vx_Zq.moved (Vm.Alike.refl U.vm) h.1.2.2.2⟩, fun q hq => vk_R.same (show (U.calling g mk a).vm = U.vm from rfl) (h.2.1 q hq), zS.on (Vm.Alike.refl U.vm) (fun _ _ _ => rfl) h.2.2.1, zT.on (Vm.Alike.refl U.vm) (fun _ _ _ => rfl) h.2.2.2.1, zV.on (Vm.Alike.refl U.vm) (fun _ _ _ => rfl) h.2.2.2.2⟩
theorem zAll_narrow {G : gAd} {A : Nat → Prop} {U : State} (h : zAll G A U) (hA : ∀ q, cFree G q → A q) : cZ G U :=
  ⟨⟨h.1.1, h.1.2.1, h.1.2.2.1.narrow hA, h.1.2.2.2.narrow hA⟩, h.2.1, fun i hi => ⟨(h.2.2.1 i hi).1.narrow hA, (h.2.2.1 i hi).2.1.narrow hA, (h.2.2.1 i hi).2.2.1.narrow hA, (h.2.2.1 i hi).2.2.2.narrow hA⟩,
   fun i hi => ⟨(h.2.2.2.1 i hi).1.narrow hA, (h.2.2.2.1 i hi).2.1.narrow hA, (h.2.2.2.1 i hi).2.2.1.narrow hA, (h.2.2.2.1 i hi).2.2.2.1.narrow hA, (h.2.2.2.1 i hi).2.2.2.2.narrow hA⟩,
   ⟨h.2.2.2.2.1.narrow hA, h.2.2.2.2.2.1.narrow hA, h.2.2.2.2.2.2.1.narrow hA, h.2.2.2.2.2.2.2.1.narrow hA, h.2.2.2.2.2.2.2.2.1.narrow hA, h.2.2.2.2.2.2.2.2.2.1.narrow hA, h.2.2.2.2.2.2.2.2.2.2.1.narrow hA, h.2.2.2.2.2.2.2.2.2.2.2.1.narrow hA, fun q hm => (h.2.2.2.2.2.2.2.2.2.2.2.2 q hm).narrow hA⟩⟩
/-- a part W1 of the world is the callee's alone: its cells are just those of A1 -/
def nCut (A1 : Nat → Prop) (W1 : va_W) : Prop := (∀ q, A1 q → ∃ (i : Nat) (e : va_E), W1[i]? = some (q, e)) ∧ ∀ (i : Nat) (x : Nat × va_E), W1[i]? = some x → A1 x.1
theorem n_left {W1 R : va_W} {i : Nat} {x : Nat × va_E} (h : W1[i]? = some x) : (W1 ++ R)[i]? = some x := by
  rw [List.getElem?_append_left (List.getElem?_eq_some_iff.mp h).1]; exact h
theorem n_right {W1 R : va_W} {i : Nat} {x : Nat × va_E} (h : R[i]? = some x) : (W1 ++ R)[W1.length + i]? = some x := by
  rw [List.getElem?_append_right (Nat.le_add_right _ _), Nat.add_sub_cancel_left]; exact h
theorem nP_left {D : va_G} {cl : List vw_C} {W1 R : va_W} {H : Heap} (h : va_P D cl (W1 ++ R) H) : va_P D cl W1 H := fun k q hk => h k q (n_left hk)
theorem nP_right {D : va_G} {cl : List vw_C} {W1 R : va_W} {H : Heap} (h : va_P D cl (W1 ++ R) H) : va_P D cl R H := fun k q hk => h _ q (n_right hk)
theorem nD_right {A : Nat → Prop} {W1 R : va_W} (h : va_D A (W1 ++ R)) : va_D A R := ⟨fun i j p q hp hq e => by have := h.1 _ _ p q (n_right hp) (n_right hq) e; omega, fun k q hk => h.2 _ q (n_right hk)⟩
theorem nD_cut {A A1 : Nat → Prop} {W1 R : va_W} (hc : nCut A1 W1) (h : va_D A (W1 ++ R)) : va_D A1 W1 := ⟨fun i j p q hp hq e => h.1 i j p q (n_left hp) (n_left hq) e, hc.2⟩
theorem n_apart {A A1 : Nat → Prop} {W1 R : va_W} (hc : nCut A1 W1) (h : va_D A (W1 ++ R)) {k : Nat} {q : Nat × va_E} (hk : R[k]? = some q) : ¬ A1 q.1 := fun hq => by
  obtain ⟨i, e, hi⟩ := hc.1 _ hq
  have e1 := h.1 i (W1.length + k) (q.1, e) q (n_left hi) (n_right hk) rfl
  have e2 := (List.getElem?_eq_some_iff.mp hi).1
  omega
/-- behind a call: what it left, beside the rest -/
theorem n_joinP {D : va_G} {cl : List vw_C} {A A1 : Nat → Prop} {W1 W2 R : va_W} {H H1 : Heap} (hc : nCut A1 W1) (hP : va_P D cl (W1 ++ R) H) (hD : va_D A (W1 ++ R)) (hk : ∀ q : Nat, q < H.size → ¬ A1 q → H1[q]? = H[q]?) (hP2 : va_P D cl W2 H1) (hD2 : va_D A1 W2) : va_P D cl (W2 ++ R) H1 ∧ va_D A (W2 ++ R) := by
  have hR : ∀ (k : Nat) (q : Nat × va_E), R[k]? = some q → va_at D cl q H1 := fun k q hq => (hP _ q (n_right hq)).kept (hk q.1 (hP _ q (n_right hq)).lt (n_apart hc hD hq))
  refine ⟨va_P.app hP2 hR, va_D.app (hD2.weaken (fun k q hq h => ?_)) (nD_right hD) (fun i j x y hx hy hxy => ?_)⟩
  · obtain ⟨i, e, hi⟩ := hc.1 _ h
    exact hD.2 i (q.1, e) (n_left hi)
  · exact n_apart hc hD hy (by rw [← hxy]; exact hD2.2 i x hx)
section LROWS
variable {E : gEnv} {cc : ByteArray} {own : String} {T : Nat → ClassId} {R : Room} {cn sn pc : Nat} {L : List (Nat × Value)} {st : List Value} {W1 Rs : va_W}
theorem n_drop (k : NW E Rs cn sn pc L st) : NW E (W1 ++ Rs) cn sn pc L st := fun H locs ls hP hD hS hl => k H locs ls (nP_right hP) (nD_right hD) hS hl
/-- a call into one of the two, seen from the law -/
theorem l_callV (hE : nOK E cc own T R) {A1 : Nat → Prop} {Z1 : State → Prop} {y : MethodName} {code : ByteArray} {maxL h n idx b : Nat} {ret' : Option FieldType} (As rest : List Value) {Qw : va_W → Option Value → Prop} (hcut : nCut A1 W1) (hZok : gZok A1 Z1) (hZ : ∀ U : State, (es E).WarmedH U.vm → va_F (eA E) (es E) U → Z1 U)
    (hc : gCalV own idx y code maxL ret' n) (hM : gMet (el E) (eD E) gCl (nTy T) A1 Z1 y code maxL ret' h (.ref b :: As) W1 Qw)
    (hrec : ∃ (q0 ci : Nat) (fs : List Value) (q : vw_C), W1[q0]? = some (b, .inr (ci, fs)) ∧ gCl[ci]? = some q ∧ q.1 = y.cls)
    (hf : h + 1 ≤ R.frames) (hlo : 24 + (maxL + 11) + 64 * h ≤ R.locals) (hcs : cn ≤ R.cells ∧ sn ≤ R.slots) (hn : As.length = n) (hst : st = As.reverse ++ .ref b :: rest) (hW : (rest.map fun v => v.category).sum ≤ 24) (hd : decode cc pc = .ok (.invokevirtual idx, 3))
    (k : ∀ (ws' : va_W) (rv : Option Value), Qw ws' rv → NW E (ws' ++ Rs) cn sn (pc + 3) L (rv.toList ++ rest)) : NW E (W1 ++ Rs) cn sn pc L st := by
  have hpay := nWs_pay hE hc.1.2.1
  intro H locs ls hP hD hS hl T0 hT X
  obtain ⟨hx, hb, hml, hown, hts, hlk, hR, hK, hA, hN⟩ := hE
  obtain ⟨⟨hlink, hcode, hini, hy, hsig, hmx⟩, hinst, hsel⟩ := hc
  obtain ⟨q0, ci, fs, q, he, hcl, hqn⟩ := hrec
  have hP1 := nP_left hP
  obtain ⟨cell, hc1, hc2, hc3⟩ := va_recv hK hP1 hcl he
  have hA1 : ∀ q, A1 q → eA E q := fun q hq => by
    obtain ⟨i, e, hi⟩ := hcut.1 _ hq
    exact hD.2 i (q, e) (n_left hi)
  obtain ⟨v, vm₁, g', mk, t, T', L1, X', hL1, e1, e2, hq, hgo⟩ := callVK (bytes := code) (maxL := maxL) (ret := ret') (W := 24) (mc := 0) (ms := 0) (argsL := As) (rest := rest) (g := F0 (em E) pc ls st) X hx hM (gG_blind hZok) rfl rfl (by rw [hR]; exact hf) (by rw [hR]; exact hlo) hpay List.mem_cons_self hown (hts _ hlink) (hts _ hinst) (hts _ hsel) (hts _ hcode) (hts _ hini) hy (by rw [hT]; exact hc1) hc2 (by rw [← hqn]; exact hc3) rfl (by rw [hml]; exact hl.1) (fun sig hs => by rw [hs] at hsig; exact hn.trans (Option.some.inj hsig).symm) hst (by show 2 * (F0 (em E) pc ls st).monitorRoom + _ ≤ 24; simpa [JFrame.monitorRoom] using hW) (by rw [hb]; exact hd) (by rw [hR]; exact hcs.1) (by rw [hR]; exact hcs.2)
    (fun vm₁ hW₁ => ⟨rfl, by show va_P _ _ _ (T0.setVm vm₁).heap; rw [show (T0.setVm vm₁).heap = H from hT]; exact hP1, va_K.moved hW₁.alike hK, nD_cut hcut hD, hZ _ hW₁ (hS.F (show (T0.setVm vm₁).heap = H from hT))⟩)
  obtain ⟨ws', rv, hv, hQ, ⟨hP', hK', hD', -⟩, hF⟩ := hq
  cases hv
  have hz : H.size ≤ T'.heap.size := by rw [e1, ← hT]; exact hF.1
  have hk : ∀ q : Nat, q < H.size → ¬ A1 q → T'.heap[q]? = H[q]? := fun q h1 h2 => by rw [e1, ← hT]; exact hF.2 q (by rw [← hT] at h1; exact h1) h2
  obtain ⟨hPj, hDj⟩ := n_joinP hcut hP hD hk (by rw [e1]; exact hP') hD'
  obtain ⟨t2, s2, q2⟩ := k ws' v hQ T'.heap (locs ++ L1) ls hPj hDj (gS_after hS hz (fun q h1 h2 => hk q h1 (fun z => h2 (hA1 q z))) (fun q hq => hA1 _ (hL1 q hq))) hl T' rfl X'
  exact ⟨t2, hgo t2 s2, q2⟩
/-- a call that throws, caught here -/
theorem l_callX (hE : nOK E cc own T R) {A1 : Nat → Prop} {Z1 : State → Prop} {y : MethodName} {code : ByteArray} {maxL h n idx b : Nat} {ret' : Option FieldType} (As rest : List Value) {Qw : va_W → Option Value → Prop} {QX : va_W → Prop} (hcut : nCut A1 W1) (hZok : gZok A1 Z1) (hZ : ∀ U : State, (es E).WarmedH U.vm → va_F (eA E) (es E) U → Z1 U)
    (hc : gCalV own idx y code maxL ret' n) (hM : gMetX (el E) (eD E) gCl (nTy T) A1 Z1 y code maxL ret' h (.ref b :: As) W1 Qw QX) (hno : ∀ (ws' : va_W) (rv : Option Value), ¬ Qw ws' rv)
    (hrec : ∃ (q0 ci : Nat) (fs : List Value) (q : vw_C), W1[q0]? = some (b, .inr (ci, fs)) ∧ gCl[ci]? = some q ∧ q.1 = y.cls)
    (hf : h + 1 ≤ R.frames) (hlo : 8 + (maxL + 11) + 64 * h ≤ R.locals) (hcs : cn + 1 ≤ R.cells ∧ sn + 6 ≤ R.slots) (hn : As.length = n) (hst : st = As.reverse ++ .ref b :: rest) (hW : (rest.map fun v => v.category).sum ≤ 8) (hd : decode cc pc = .ok (.invokevirtual idx, 3))
    (x : ExceptionTableEntry) (htab : (ec E).exceptionTable.toList = [x]) (hx1 : covers x pc = true) (hx0 : x.catchType ≠ 0) (hxl : Cond.classLink own x.catchType ioobe ∈ gTb) (hxc : (Cond.castable ioobe ioobe).before (eg E) (es E) = true)
    (k : ∀ q : Nat, NW E Rs (cn + 1) (sn + 6) x.handlerPc L [.ref q]) : NW E (W1 ++ Rs) cn sn pc L st := by
  have hpay := nWs_pay hE hc.1.2.1
  intro H locs ls hP hD hS hl T0 hT X
  obtain ⟨hx, hb, hml, hown, hts, hlk, hR, hK, hA, hN⟩ := hE
  obtain ⟨⟨hlink, hcode, hini, hy, hsig, hmx⟩, hinst, hsel⟩ := hc
  obtain ⟨q0, ci, fs, q, he, hcl, hqn⟩ := hrec
  have hP1 := nP_left hP
  have hA1 : ∀ q, A1 q → eA E q := fun q hq => by
    obtain ⟨i, e, hi⟩ := hcut.1 _ hq
    exact hD.2 i (q, e) (n_left hi)
  have hlen : ∀ sig, parseMethodDescriptor y.desc = some sig → n = sig.parameters.length := fun sig h => by rw [h] at hsig; exact (Option.some.inj hsig).symm
  have hrun := vx_runV (bytes := code) (maxL := maxL) (ret := ret') (n := n) (Ts := gTb) (nL := eN E) (C := y.cls) (As := As) (rest := rest) (b := b) (g := F0 (em E) pc ls st) (cells := cn) (slots := sn) (locs := locs) (H := H) (below := eb E) (meth := et E) (R := eR E) (e := ee E) (l := el E) ⟨hx, hb, hml, hown, hts⟩ hM
    ⟨⟨rfl, rfl, by rw [hR]; exact hf, by rw [hR]; exact hlo, hpay, List.mem_cons_self, hts _ hcode, hts _ hini, hy, hlen, hts _ hlink⟩, hts _ hinst, hts _ hsel⟩
    ⟨gG_blind hZok, (by have := va_recv hK hP1 hcl he; rw [hqn] at this; exact this), fun U hU hW => ⟨rfl, by rw [hU]; exact hP1, va_K.moved hW.alike hK, nD_cut hcut hD, hZ _ hW (hS.F hU)⟩⟩ rfl hn hl.1 hst (by show 2 * (F0 (em E) pc ls st).monitorRoom + _ ≤ 8; simpa [JFrame.monitorRoom] using hW) hd (by rw [hR]; exact hcs)
  rcases hrun T0 hT X with ⟨v, st₀, t, T', L1, h0, X', hL, e1, e2, hq, hgo⟩ | ⟨q9, st₀, t, T', L1, Ec, ce, h0, X', hL, e1, e2, hq, hce, hcv, hcl9, hgo⟩
  · obtain ⟨ws', rv, -, hQ, -⟩ := hq
    exact absurd hQ (hno ws' rv)
  · obtain ⟨rfl, ws', hQ, hP', hK', hD', hF⟩ := hq
    obtain ⟨k1, k2, k3⟩ := vx_keep h0 e1 hS (fun q _ h => hA1 q h) hA1 hL hF
    obtain ⟨hPj, hDj⟩ := n_joinP hcut hP hD k2 (by rw [e1]; exact hP') hD'
    have hcat := vx_catch (rest := rest) (pc := pc) (own := own) (name := ioobe) (E := ioobe) (ce := ce) (q := q9) (s := es E) (args := eg E) (c := ec E) (p := ep E) (l := el E) (e := ee E) (R := eR E) (m := em E) (below := eb E) (meth := et E) (H := T'.heap) (locs := locs ++ L1) (cells := cn + 1) (slots := sn + 6) (ls := ls) (Q := eP E) hown [] x [] (by rw [htab]; rfl) (fun z hz => by cases hz) hx1 hx0 (hts _ hxl) hxc (by rw [e1]; exact hce) hcv hcl9 (k q9 T'.heap (locs ++ L1) ls (nP_right hPj) (nD_right hDj) k3 hl)
    obtain ⟨t2, a1, b1⟩ := hcat T' rfl X'
    exact ⟨t2, hgo.trans a1, b1⟩
end LROWS
