section ROWS2
variable {E : gEnv} {cc : ByteArray} {own : String} {ret : Option FieldType} {hgt : Nat} {ws : va_W} {pc : Nat} {L : List (Nat × Value)} {st : List Value}
/-- a call on an object of which nobody writes -/
theorem r_callVK (hE : gOK E cc own ret hgt) {y : MethodName} {code : ByteArray} {maxL h n idx : Nat} {ret' : Option FieldType} {b : Nat} (As rest : List Value) {Qw : va_W → Option Value → Prop}
    (hc : gCalV own idx y code maxL ret' n) (hM : gMet (el E) (eD E) (eC E) (eT E) (eA E) (eZ E) y code maxL ret' h (.ref b :: As) ws Qw)
    (hrec : va_O y.cls b (eA E) (es E) (es E).heap)
    (hh : h + 1 ≤ hgt) (hn : As.length = n) (hst : st = As.reverse ++ .ref b :: rest) (hW : (rest.map fun v => v.category).sum ≤ 24) (hd : decode cc pc = .ok (.invokevirtual idx, 3))
    (k : ∀ (ws' : va_W) (rv : Option Value), Qw ws' rv → GW E ws' (pc + 3) L (rv.toList ++ rest)) : GW E ws pc L st := by
  intro H locs ls hP hD hS hl T hT X
  obtain ⟨hx, hb, hml, hown, hts, hlk, hrt, hR, hK, hZs, hZ⟩ := id hE
  obtain ⟨⟨hlink, hcode, hini, hy, hsig, hmx⟩, hinst, hsel⟩ := hc
  obtain ⟨cell, hc1, hc2, hc3, -⟩ := hrec.kept hS.2.1
  obtain ⟨v, vm₁, g', mk, t, T', L1, X', hL1, e1, e2, hq, hgo⟩ := callVK (bytes := code) (maxL := maxL) (ret := ret') (W := 24) (mc := 0) (ms := 0) (argsL := As) (rest := rest) (g := F0 (em E) pc ls st) X hx hM (gG_blind hZ) rfl rfl (by rw [hR.1]; exact hh) (by rw [hR.2]; show 24 + (maxL + 11) + 64 * h ≤ 64 * hgt; omega) (gWs_pay hE hcode) List.mem_cons_self hown (hts _ hlink) (hts _ hinst) (hts _ hsel) (hts _ hcode) (hts _ hini) hy (by rw [hT]; exact hc1) hc2 hc3 rfl (by rw [hml]; exact hl.1) (fun sig hs => by rw [hs] at hsig; exact hn.trans (Option.some.inj hsig).symm) hst (by show 2 * (F0 (em E) pc ls st).monitorRoom + _ ≤ 24; simpa [JFrame.monitorRoom] using hW) (by rw [hb]; exact hd) (Nat.zero_le _) (Nat.zero_le _)
    (fun vm₁ hW₁ => ⟨rfl, by show va_P _ _ _ (T.setVm vm₁).heap; rw [show (T.setVm vm₁).heap = H from hT]; exact hP, va_K.moved hW₁.alike hK, hD, hZ.2 _ _ hW₁ (hS.F (show (T.setVm vm₁).heap = H from hT)) hZs⟩)
  obtain ⟨ws', rv, hv, hQ, ⟨hP', hK', hD', -⟩, hF⟩ := hq
  cases hv
  have hz : H.size ≤ T'.heap.size := by rw [e1, ← hT]; exact hF.1
  have hk : ∀ q : Nat, q < H.size → ¬ eA E q → T'.heap[q]? = H[q]? := fun q h1 h2 => by rw [e1, ← hT]; exact hF.2 q (by rw [← hT] at h1; exact h1) h2
  obtain ⟨t2, s2, q2⟩ := k ws' v hQ T'.heap (locs ++ L1) ls (by rw [e1]; exact hP') hD' (gS_after hS hz hk hL1) hl T' rfl X'
  exact ⟨t2, hgo t2 s2, q2⟩
/-- the words of a call of an inherited method x, by the class C, that is y -/
def gCalU (own : String) (idx : Nat) (C : String) (x y : MethodName) (code : ByteArray) (maxL : Nat) (ret : Option FieldType) (n : Nat) : Prop :=
  (Cond.methodLink own idx x ∈ gTb ∧ Cond.sameMethod x.cls y.cls x.name x.desc ∈ gTb ∧ Cond.selects C x y ∈ gTb ∧ Cond.instanceMethod y ∈ gTb ∧ Cond.code y code maxL ret ∈ gTb ∧ Cond.initialized y.cls ∈ gTb) ∧ y = ⟨y.cls, x.name, x.desc⟩ ∧ (y.cls ≠ "java/lang/invoke/MethodHandle" ∧ y.cls ≠ "java/lang/invoke/VarHandle") ∧ (parseMethodDescriptor x.desc).map (fun d => d.parameters.length) = some n ∧ maxL ≤ 25
theorem r_callVU (hE : gOK E cc own ret hgt) {C : String} {x y : MethodName} {code : ByteArray} {maxL h n idx : Nat} {ret' : Option FieldType} {b : Nat} (As rest : List Value) {Qw : va_W → Option Value → Prop}
    (hc : gCalU own idx C x y code maxL ret' n) (hM : gMet (el E) (eD E) (eC E) (eT E) (eA E) (eZ E) y code maxL ret' h (.ref b :: As) ws Qw)
    (hrec : va_O C b (eA E) (es E) (es E).heap)
    (hh : h + 1 ≤ hgt) (hn : As.length = n) (hst : st = As.reverse ++ .ref b :: rest) (hW : (rest.map fun v => v.category).sum ≤ 24) (hd : decode cc pc = .ok (.invokevirtual idx, 3))
    (k : ∀ (ws' : va_W) (rv : Option Value), Qw ws' rv → GW E ws' (pc + 3) L (rv.toList ++ rest)) : GW E ws pc L st := by
  intro H locs ls hP hD hS hl T hT X
  obtain ⟨hx, hb, hml, hown, hts, hlk, hrt, hR, hK, hZs, hZ⟩ := id hE
  obtain ⟨⟨hlink, hsame, hsel, hinst, hcode, hini⟩, hyx, hy, hsig, hmx⟩ := hc
  obtain ⟨cell, hc1, hc2, hc3, -⟩ := hrec.kept hS.2.1
  have hBk : Back (el E) (eR E) (ep E) (ee E) (eb E) (es E) (eg E) y 3 24 (PreOf (eR E) 0 0 (va_Pc (.ref b :: As) (gG (eD E) (eC E) (eT E) (eA E) (eZ E) ws))) (PostOf (gQ (eD E) (eC E) (eT E) (eA E) (eZ E) Qw) 0 0 (eA E)) :=
    back_of (bytes := code) (maxL := maxL) (ret := ret') hM (gG_blind hZ) rfl rfl (by rw [hR.1]; exact hh) (by rw [hR.2]; show 24 + (maxL + 11) + 64 * h ≤ 64 * hgt; omega) (gWs_pay hE hcode) List.mem_cons_self (fun a' U hW => word_at hW (gTb_good _ hini) (hts _ hini))
  obtain ⟨v, vm₁, ⟨U', l2, c2, s2⟩, hW₁, X', ⟨g', mk, t, L1, e1, e2, hq, h1, hL1, h2, h3⟩, hgo⟩ := va_callVU X hx (C := C) (owner := y.cls) (bytes := code) (maxL := maxL) (ret := ret') hown (hts _ hlink) (hts _ hsame) (by rw [← hyx]; exact va_Decl.of (hts _ hinst) (hts _ hcode)) hy (hts _ hsel) (hts _ hinst) (hts _ hcode) hBk (by rw [hT]; exact hc1) hc2 hc3 (g := F0 (em E) pc ls st) rfl (by rw [hml]; exact hl.1) (argsL := As) (rest := rest) (fun sig hs => by rw [hs] at hsig; exact hn.trans (Option.some.inj hsig).symm) hst (by show 2 * (F0 (em E) pc ls st).monitorRoom + _ ≤ 24; simpa [JFrame.monitorRoom] using hW) (by rw [hb]; exact hd)
    (fun vm₁ hW₁ => ⟨Nat.zero_le _, Nat.zero_le _, rfl, by show va_P _ _ _ (T.setVm vm₁).heap; rw [show (T.setVm vm₁).heap = H from hT]; exact hP, va_K.moved hW₁.alike hK, hD, hZ.2 _ _ hW₁ (hS.F (show (T.setVm vm₁).heap = H from hT)) hZs⟩)
  dsimp only [Pt.U, Pt.locs, Pt.cells, Pt.slots] at X' e1 e2 h1 h2 h3 hgo
  subst h1; subst h2; subst h3
  obtain ⟨ws', rv, hv, hQ, ⟨hP', hK', hD', -⟩, hF⟩ := hq
  cases hv
  have hz : H.size ≤ U'.heap.size := by rw [e1, ← hT]; exact hF.1
  have hk : ∀ q : Nat, q < H.size → ¬ eA E q → U'.heap[q]? = H[q]? := fun q h1 h2 => by rw [e1, ← hT]; exact hF.2 q (by rw [← hT] at h1; exact h1) h2
  obtain ⟨t2, s3, q2⟩ := k ws' v hQ U'.heap (locs ++ L1) ls (by rw [e1]; exact hP') hD' (gS_after hS hz hk hL1) hl U' rfl X'
  exact ⟨t2, hgo t2 s3, q2⟩
theorem r_getK (hE : gOK E cc own ret hgt) {o n d : String} {v : Value} {q idx : Nat} (hO : va_OF o n d v q (eA E) (es E) (es E).heap) (hlk : Cond.fieldLink own idx o n d ∈ gTb) (hd : decode cc pc = .ok (.getfield idx, 3)) (k : GW E ws (pc + 3) L (v :: st)) : GW E ws pc L (.ref q :: st) :=
  fun H locs ls hP hD hS hl => vk_getf hE.1 hE.2.1 hO hS hE.2.2.2.1 (hE.2.2.2.2.1 _ hlk) (fun _ h => h) hd (k H locs ls hP hD hS hl)
theorem r_gets (hE : gOK E cc own ret hgt) {C n d : String} {v : Value} {idx : Nat} (hO : va_Z C n d v (eA E) (es E) (es E).heap) (hlk : Cond.fieldLink own idx C n d ∈ gTb) (hd : decode cc pc = .ok (.getstatic idx, 3)) (k : GW E ws (pc + 3) L (v :: st)) : GW E ws pc L st :=
  fun H locs ls hP hD hS hl => va_gets hE.1 hE.2.1 hO hS hE.2.2.2.1 (hE.2.2.2.2.1 _ hlk) (fun _ h => h) hd (k H locs ls hP hD hS hl)
theorem r_getsN (hE : gOK E cc own ret hgt) {C n d host : String} {v : Value} {idx : Nat} (hO : va_Z C n d v (eA E) (es E) (es E).heap) (hw : va_Nw (Cond.fieldLinkNest own idx C n d host) (es E)) (hd : decode cc pc = .ok (.getstatic idx, 3)) (k : GW E ws (pc + 3) L (v :: st)) : GW E ws pc L st :=
  fun H locs ls hP hD hS hl => va_getsN hE.1 hE.2.1 hO hS hE.2.2.2.1 (hw.use rfl) (fun _ h => h) hd (k H locs ls hP hD hS hl)
theorem r_tlen (hE : gOK E cc own ret hgt) {ty : FieldType} {t N : Nat} {f : Nat → Value} {v : Int32} (hT : va_T ty t N f (eA E) (es E) (es E).heap) (hv : Int32.ofNat N = v) (hd : decode cc pc = .ok (.arraylength, 1)) (k : GW E ws (pc + 1) L (.int v :: st)) : GW E ws pc L (.ref t :: st) :=
  fun H locs ls hP hD hS hl => va_tlen hE.1 hE.2.1 hT hS hv hd (k H locs ls hP hD hS hl)
theorem r_tb (hE : gOK E cc own ret hgt) {t N : Nat} {f : Nat → Value} {i : Int32} {v : Value} (hT : va_T .byte t N f (eA E) (es E) (es E).heap) (hi : vp_in i N) (hv : f i.toNatClampNeg = v) (hd : decode cc pc = .ok (.baload, 1)) (k : GW E ws (pc + 1) L (v :: st)) : GW E ws pc L (.int i :: .ref t :: st) :=
  fun H locs ls hP hD hS hl => va_tb hE.1 hE.2.1 hT hS hi hv hd (k H locs ls hP hD hS hl)
theorem r_ti (hE : gOK E cc own ret hgt) {t N : Nat} {f : Nat → Value} {i : Int32} {v : Value} (hT : va_T .int t N f (eA E) (es E) (es E).heap) (hi : vp_in i N) (hv : f i.toNatClampNeg = v) (hd : decode cc pc = .ok (.iaload, 1)) (k : GW E ws (pc + 1) L (v :: st)) : GW E ws pc L (.int i :: .ref t :: st) :=
  fun H locs ls hP hD hS hl => va_ti hE.1 hE.2.1 hT hS hi hv hd (k H locs ls hP hD hS hl)
theorem r_tq (hE : gOK E cc own ret hgt) {C : String} {t N : Nat} {f : Nat → Value} {i : Int32} {v : Value} (hT : va_T (.object C) t N f (eA E) (es E) (es E).heap) (hi : vp_in i N) (hv : f i.toNatClampNeg = v) (hd : decode cc pc = .ok (.aaload, 1)) (k : GW E ws (pc + 1) L (v :: st)) : GW E ws pc L (.int i :: .ref t :: st) :=
  fun H locs ls hP hD hS hl => vb_tq hE.1 hE.2.1 hT hS hi hv hd (k H locs ls hP hD hS hl)
theorem r_ldcS (hE : gOK E cc own ret hgt) {tx : String} {idx q : Nat} (hZ : vk_R own idx tx q (es E)) (hd : decode cc pc = .ok (.ldc idx, 2)) (k : GW E ws (pc + 2) L (.ref q :: st)) : GW E ws pc L st :=
  fun H locs ls hP hD hS hl => va_ldcS hE.1 hE.2.1 hE.2.2.2.1 hZ hd (k H locs ls hP hD hS hl)
theorem r_ldcSw (hE : gOK E cc own ret hgt) {tx : String} {idx q : Nat} (hZ : vk_R own idx tx q (es E)) (hd : decode cc pc = .ok (.ldc_w idx, 3)) (k : GW E ws (pc + 3) L (.ref q :: st)) : GW E ws pc L st :=
  fun H locs ls hP hD hS hl T hT X => by
    obtain ⟨t, a1, b1⟩ := k H locs ls hP hD hS hl T hT X
    exact ⟨t, X.ldcStringW hE.1 hE.2.2.2.1 (text := tx) (a := q) hZ.1 hZ.2 (g := F0 (em E) pc ls st) rfl (by rw [hE.2.1]; exact hd) t a1, b1⟩
theorem r_mmin (hE : gOK E cc own ret hgt) {idx : Nat} {x y : Int32} (hlk : Cond.methodLink own idx Lib.Math.min.name ∈ gTb) (hst : Cond.static Lib.Math.min.name ∈ gTb) (hini : Cond.initialized "java/lang/Math" ∈ gTb) (hcode : Cond.code Lib.Math.min.name Lib.Math.min.code 2 (some .int) ∈ gTb) (hh : 2 ≤ hgt) (hW : (st.map fun v => v.category).sum ≤ 24) (hd : decode cc pc = .ok (.invokestatic idx, 3)) (k : GW E ws (pc + 3) L (.int (if y < x then y else x) :: st)) : GW E ws pc L (.int y :: .int x :: st) :=
  fun H locs ls hP hD hS hl => va_mmin hE.1 hE.2.1 (hE.2.2.1.trans hl.1.symm) hE.2.2.2.1 (hE.2.2.2.2.1 _ hlk) (hE.2.2.2.2.1 _ hst) (hE.2.2.2.2.1 _ hini) (hE.2.2.2.2.1 _ hcode) (by rw [hE.2.2.2.2.2.2.2.1.1]; omega) (by rw [hE.2.2.2.2.2.2.2.1.2]; omega) (Nat.zero_le _) (Nat.zero_le _) hd (k H locs ls hP hD hS hl)
theorem r_mmax (hE : gOK E cc own ret hgt) {idx : Nat} {x y : Int32} (hlk : Cond.methodLink own idx Lib.Math.max.name ∈ gTb) (hst : Cond.static Lib.Math.max.name ∈ gTb) (hini : Cond.initialized "java/lang/Math" ∈ gTb) (hcode : Cond.code Lib.Math.max.name Lib.Math.max.code 2 (some .int) ∈ gTb) (hh : 2 ≤ hgt) (hW : (st.map fun v => v.category).sum ≤ 24) (hd : decode cc pc = .ok (.invokestatic idx, 3)) (k : GW E ws (pc + 3) L (.int (if x < y then y else x) :: st)) : GW E ws pc L (.int y :: .int x :: st) :=
  fun H locs ls hP hD hS hl => va_mmax hE.1 hE.2.1 (hE.2.2.1.trans hl.1.symm) hE.2.2.2.1 (hE.2.2.2.2.1 _ hlk) (hE.2.2.2.2.1 _ hst) (hE.2.2.2.2.1 _ hini) (hE.2.2.2.2.1 _ hcode) (by rw [hE.2.2.2.2.2.2.2.1.1]; omega) (by rw [hE.2.2.2.2.2.2.2.1.2]; omega) (Nat.zero_le _) (Nat.zero_le _) hd (k H locs ls hP hD hS hl)
theorem r_zload_n (hE : gOK E cc own ret hgt) (j : Nat) {n : Fin 4} {i : Nat} (hd : decode cc pc = .ok (.aload_n n, 1)) (hi : (n : Nat) = i) (hj : L[j]? = some (i, .null)) (k : GW E ws (pc + 1) L (.null :: st)) : GW E ws pc L st := fun H locs ls hP hD hS hl => lv_aload_nN hE.1 hE.2.1 hd hi (lv_at hl j hj) (k H locs ls hP hD hS hl)
theorem r_nret {ty : FieldType} (hE : gOK E cc own (some ty) hgt) (hF : gFin E) {v : Int32} (hd : decode cc pc = .ok (.ireturn, 1)) (hn : narrow ty (.int v) = .int v) (h : eQ E ws (some (.int v))) : GW E ws pc L [.int v] := fun H locs ls hP hD hS hl =>
  show W _ _ _ _ _ _ _ _ _ _ _ _ 0 0 (eP E) _ from hF ▸ W.zret hE.1 hE.2.1 hE.2.2.2.2.2.2.1 hn (fun t ht hW => ⟨ws, some (.int v), rfl, h, ⟨by rw [ht]; exact hP, va_K.moved hW.alike hE.2.2.2.2.2.2.2.2.1, hD, hE.2.2.2.2.2.2.2.2.2.2.2 _ _ hW (hS.F ht) hE.2.2.2.2.2.2.2.2.2.1⟩, hS.F ht⟩) hS.2.2 hd hE.2.2.2.2.2.1
theorem r_acmp_ne (hE : gOK E cc own ret hgt) {a b : Nat} {off : Int} (tgt : Nat) {P Q : Prop} (hd : decode cc pc = .ok (.if_acmp .ne off, 3)) (ht : (pc : Int) + off = (tgt : Int)) (h : (¬ a = b → P) ∧ (a = b → Q)) (kt : P → GW E ws tgt L st) (kf : Q → GW E ws (pc + 3) L st) : GW E ws pc L (.ref b :: .ref a :: st) := fun H locs ls hP hD hS hl =>
  lv_acmp_ne (rx := some a) (ry := some b) hE.1 hE.2.1 hd ht (fun c => kt (h.1 (fun q => c (by rw [q]))) H locs ls hP hD hS hl) (fun c => kf (h.2 (Option.some.inj c)) H locs ls hP hD hS hl)
theorem r_look (hE : gOK E cc own ret hgt) {dflt : Int} {ps : Array (Int × Int)} {len : Nat} {x : Int32} {off : Int} (tgt : Nat) (hd : decode cc pc = .ok (.lookupswitch dflt ps, len)) (hp : (ps.toList.zip (ps.toList.drop 1)).all (fun (a, next) => a.1 < next.1) = true) (ho : Op.lookupswitch.offset ps.toList dflt x.toInt = off) (ht : (pc : Int) + off = (tgt : Int)) (k : GW E ws tgt L st) : GW E ws pc L (.int x :: st) :=
  fun H locs ls hP hD hS hl => lv_lookup hE.1 hE.2.1 hd hp ho ht (k H locs ls hP hD hS hl)
end ROWS2
