/-! GROWING WALKS: constructors, and the law itself: the world may grow, cn cells of sn slots so far -/
abbrev nTy (T : Nat → ClassId) : List (ClassId × FieldType) := [(T 0, .int), (T 1, .long), (T 2, .byte), (T 3, .char), (T 4, .boolean)]
def NW (E : gEnv) (ws : va_W) (cn sn pc : Nat) (L : List (Nat × Value)) (st : List Value) : Prop :=
  ∀ (H : Heap) (locs : List Loc) (ls : Array Slot), va_P (eD E) gCl ws H → va_D (eA E) ws → va_S (eA E) (es E).heap H locs → lv_has ls (eN E) L →
    W (ep E) (el E) (ee E) (eR E) (es E) (em E) (eg E) (eb E) (et E) (ec E) H locs cn sn (eP E) (F0 (em E) pc ls st)
def nOK (E : gEnv) (cc : ByteArray) (own : String) (T : Nat → ClassId) (R : Room) : Prop :=
  (ep E).tables.exec = Jvm.exec ∧ (ec E).code = cc ∧ (ec E).maxLocals = eN E ∧ (es E).vm.findClass own = some (em E).cls ∧ (∀ w ∈ gTb, w.before (eg E) (es E) = true) ∧ (et E).locks = false ∧ eR E = R ∧ va_K (eD E) gCl (nTy T) (es E) ∧ (∀ q, (es E).heap.size ≤ q → eA E q) ∧ (∀ w ∈ cNest, va_Nw w (es E))
def nPre (D : va_G) (T : Nat → ClassId) (A : Nat → Prop) (ws : va_W) (U : State) : Prop := va_P D gCl ws U.heap ∧ va_K D gCl (nTy T) U ∧ va_D A ws ∧ (∀ q, U.heap.size ≤ q → A q) ∧ (∀ w ∈ cNest, va_Nw w U)
/-- a constructor's contract: it returns, and its world is as Qw says -/
def nMet (l : Launch) (D : va_G) (T : Nat → ClassId) (A : Nat → Prop) (y : MethodName) (code : ByteArray) (maxL : Nat) (R : Room) (av : List Value) (ws : va_W) (Qw : va_W → Prop) : Prop :=
  Met l y (gWs y code maxL none) R (va_Pc av (nPre D T A ws)) (va_Qv Qw (fun (ws' : va_W) (t : State) => va_P D gCl ws' t.heap ∧ va_D A ws') A) R.cells R.slots A
def nFin (E : gEnv) (Qw : va_W → Prop) : Prop := eP E = MQ (eb E) (va_Qv Qw (fun (ws' : va_W) (t : State) => va_P (eD E) gCl ws' t.heap ∧ va_D (eA E) ws') (eA E)) (eg E) (es E) (eR E).cells (eR E).slots (eA E)
theorem nPre_blind {D : va_G} {T : Nat → ClassId} {A : Nat → Prop} {ws : va_W} {av : List Value} : FrameBlind (va_Pc av (nPre D T A ws)) := by
  intro a U g mk q
  obtain ⟨q0, qP, qK, qD, qA, qN⟩ := q
  exact ⟨q0, qP, va_K.moved (u := U) (U := U.calling g mk a) (Vm.Alike.refl U.vm) qK, qD, qA, fun w hw => va_Nw.same (cNest_tab hw) (show U.vm = (U.calling g mk a).vm from rfl) (qN w hw)⟩
theorem n_enter {l : Launch} {D : va_G} {T : Nat → ClassId} {A : Nat → Prop} {y : MethodName} {code : ByteArray} {maxL : Nat} {R : Room} {av : List Value} {ws : va_W} {Qw : va_W → Prop}
    (hy : plainName y.cls = true) (hin : y.name = "<init>") (L0 : List (Nat × Value)) (hL : lv_args 0 av = L0) (hs : (lg_sl av).length ≤ maxL)
    (k : ∀ E : gEnv, nOK E code y.cls T R → el E = l → eD E = D → eA E = A → eN E = maxL → (et E).name = "<init>" → (et E).sig.returnType = none → nFin E Qw → NW E ws 0 0 0 L0 []) : nMet l D T A y code maxL R av ws Qw := by
  refine Met.ofW (cc := code) (maxL := maxL) (ret := none) hy rfl ?_
  intro p e s m args below meth c s₁ B hml hv
  obtain ⟨rfl, hP, hK, hD, hA, hN⟩ := hv
  have hts := atoms_spec (ws := gWs y code maxL none) B.pre
  have hl := lv_entry av (n := maxL) hs
  rw [lg_entry_eq]
  generalize (lg_sl av ++ List.replicate (maxL - (lg_sl av).length) Slot.unset).toArray = ls at hl ⊢
  rw [hL] at hl
  exact k (p, l, e, R, s, m, av.toArray, below, meth, c, fun _ _ => True, D, gCl, nTy T, A, gNo, maxL, MQ below (va_Qv Qw (fun (ws' : va_W) (t : State) => va_P D gCl ws' t.heap ∧ va_D A ws') A) av.toArray s R.cells R.slots A) ⟨B.exec, B.bytes, hml, findClass_of_methodNamed B.named, fun w hw => hts w (List.mem_cons_of_mem _ hw), B.notSynchronized, rfl, hK, hA, hN⟩ rfl rfl rfl rfl ((name_of_methodNamed B.named B.method).1.trans hin) B.returns rfl s.heap [] ls hP hD va_S.rf hl
/-- what is known of a class -/
def nCls (ci : Nat) (C : String) (T' : u_T) (N : Nat) (ty : Nat → FieldType) : Prop := gCl[ci]? = some (C, T', N) ∧ (∀ w ∈ u_ws C T' N, w ∈ gTb) ∧ (∀ k, k < N → parseFieldDescriptor (T' k).2.2.1 = some (ty k)) ∧ (∀ a, a < N → ∀ b, b < N → a ≠ b → (T' a).2.1 ≠ (T' b).2.1)
theorem nc_X1 : nCls 0 RX1 TX1 18 tyX1 := ⟨rfl, cIn_X1, tyX1_ok, nmX1⟩
theorem nc_X2 : nCls 1 RX2 TX2 8 tyX2 := ⟨rfl, cIn_X2, tyX2_ok, nmX2⟩
theorem nc_X3 : nCls 2 RX3 TX3 3 tyX3 := ⟨rfl, cIn_X3, tyX3_ok, nmX3⟩
theorem nc_X4 : nCls 3 RX4 TX4 6 tyX4 := ⟨rfl, cIn_X4, tyX4_ok, nmX4⟩
theorem nc_X5 : nCls 4 RX5 TX5 9 tyX5 := ⟨rfl, cIn_X5, tyX5_ok, nmX5⟩
theorem nc_X6 : nCls 5 RX6 TX6 1 tyX6 := ⟨rfl, cIn_X6, tyX6_ok, nmX6⟩
theorem nc_X7 : nCls 6 RX7 TX7 13 tyX7 := ⟨rfl, cIn_X7, tyX7_ok, nmX7⟩
theorem nc_X8 : nCls 7 RX8 TX8 5 tyX8 := ⟨rfl, cIn_X8, tyX8_ok, nmX8⟩
theorem nc_X9 : nCls 8 RX9 TX9 9 tyX9 := ⟨rfl, cIn_X9, tyX9_ok, nmX9⟩
theorem nc_X11 : nCls 9 RX11 TX11 10 tyX11 := ⟨rfl, cIn_X11, tyX11_ok, nmX11⟩
theorem nc_X12 : nCls 10 RX12 TX12 17 tyX12 := ⟨rfl, cIn_X12, tyX12_ok, nmX12⟩
theorem nc_X13 : nCls 11 RX13 TX13 104 tyX13 := ⟨rfl, mIn, tyX13_ok, nmX13⟩
theorem va_RA_inj {U : State} {c1 c2 : ClassId} {ty : FieldType} (h1 : va_RA U c1 ty) (h2 : va_RA U c2 ty) : c1 = c2 := by
  cases ty with
  | object C =>
    obtain ⟨_, _, _, _, _, a⟩ := h1
    obtain ⟨_, _, _, _, _, b⟩ := h2
    exact Option.some.inj (a.symm.trans b)
  | _ => exact Option.some.inj (Eq.trans (Eq.symm h1) h2)
theorem n_at (X Y : va_W) (x : Nat × va_E) : (X ++ x :: Y)[X.length]? = some x := by simp
theorem n_set (X Y : va_W) (x y : Nat × va_E) : (X ++ x :: Y).set X.length y = X ++ y :: Y := by simp
section NROWS
variable {E : gEnv} {cc : ByteArray} {own : String} {T : Nat → ClassId} {R : Room} {ws : va_W} {cn sn pc : Nat} {L : List (Nat × Value)} {st : List Value}
theorem n_bipush (hE : nOK E cc own T R) {n : Int} {v : Int32} (hd : decode cc pc = .ok (.bipush n, 2)) (hv : (Int8.ofInt n).toInt32 = v) (k : NW E ws cn sn (pc + 2) L (.int v :: st)) : NW E ws cn sn pc L st := fun H locs ls hP hD hS hl => lv_bipush hE.1 hE.2.1 hd hv (k H locs ls hP hD hS hl)
theorem n_sipush (hE : nOK E cc own T R) {n : Int} {v : Int32} (hd : decode cc pc = .ok (.sipush n, 3)) (hv : (Int16.ofInt n).toInt32 = v) (k : NW E ws cn sn (pc + 3) L (.int v :: st)) : NW E ws cn sn pc L st := fun H locs ls hP hD hS hl => lv_sipush hE.1 hE.2.1 hd hv (k H locs ls hP hD hS hl)
theorem n_iconst (hE : nOK E cc own T R) {n : Int} {v : Int32} (hd : decode cc pc = .ok (.iconst n, 1)) (hv : Int32.ofInt n = v) (k : NW E ws cn sn (pc + 1) L (.int v :: st)) : NW E ws cn sn pc L st := fun H locs ls hP hD hS hl => lv_iconst hE.1 hE.2.1 hd hv (k H locs ls hP hD hS hl)
theorem n_ldc (hE : nOK E cc own T R) {index : Nat} {v : Int32} (hd : decode cc pc = .ok (.ldc index, 2)) (hc : Cond.constant own index v ∈ gTb) (k : NW E ws cn sn (pc + 2) L (.int v :: st)) : NW E ws cn sn pc L st := fun H locs ls hP hD hS hl => lv_ldc hE.1 hE.2.1 hE.2.2.2.1 (hE.2.2.2.2.1 _ hc) hd (k H locs ls hP hD hS hl)
theorem n_dup (hE : nOK E cc own T R) {v : Value} (hd : decode cc pc = .ok (.dup, 1)) (hv : v.category = 1) (k : NW E ws cn sn (pc + 1) L (v :: v :: st)) : NW E ws cn sn pc L (v :: st) := fun H locs ls hP hD hS hl => lv_dup hE.1 hE.2.1 hd hv (k H locs ls hP hD hS hl)
theorem n_aload_n (hE : nOK E cc own T R) (j : Nat) {n : Fin 4} {i : Nat} {x : Nat} (hd : decode cc pc = .ok (.aload_n n, 1)) (hi : (n : Nat) = i) (hj : L[j]? = some (i, .ref x)) (k : NW E ws cn sn (pc + 1) L (.ref x :: st)) : NW E ws cn sn pc L st := fun H locs ls hP hD hS hl => lv_aload_n hE.1 hE.2.1 hd hi (lv_at hl j hj) (k H locs ls hP hD hS hl)
theorem n_newa (hE : nOK E cc own T R) {aty : ArrayType} (ty : FieldType) (hty : newarray.typeOf aty = ty) (j : Nat) (hj : (nTy T)[j]? = some (T j, ty)) (harr : Cond.arrayClass (newarray.typeOf aty) ∈ gTb) {n : Int32} {N : Nat} {a0 : vp_A} (ha : ∀ cA : ClassId, vp_cell cA a0 = arrV cA N (fun _ => defaultValue ty)) (hn : ¬ n < 0) (hN : n.toNatClampNeg = N) (hb : N * componentBytes ty ≤ 536870912) (hc : cn + 1 ≤ R.cells) (hs : sn + N ≤ R.slots) (hd : decode cc pc = .ok (.newarray aty, 2))
    (k : ∀ q : Nat, NW E (ws ++ [(q, .inl (T j, a0))]) (cn + 1) (sn + N) (pc + 2) L (.ref q :: st)) : NW E ws cn sn pc L (.int n :: st) := fun H locs ls hP hD hS hl => by
  obtain ⟨h1, h2, h3, h4, h5, h6, h7, h8, h9, h10⟩ := hE
  refine va_newa h1 h2 (h5 _ harr) hty h8 hP hD hS h9 ha hn hN hb (by rw [h7]; exact hc) (by rw [h7]; exact hs) hd (fun q cA H1 hK1 hP1 hD1 hS1 => ?_)
  have e1 := (hK1.2 5 (cA, ty) rfl).2
  have e2 := (h8.2 j (T j, ty) hj).2
  have e := va_RA_inj e1 e2
  subst e
  exact k q H1 locs ls hP1 hD1 hS1 hl
theorem n_new (hE : nOK E cc own T R) {ci N idx : Nat} {C : String} {T' : u_T} {ty : Nat → FieldType} (hC : nCls ci C T' N ty) (hl1 : Cond.classLink own idx C ∈ gTb) (hi1 : Cond.instantiable C N ∈ gTb) (hini : Cond.initialized C ∈ gTb) {fs : List Value} (hfs : ∀ j, j < N → defaultValue (ty j) = vp_V fs j) (hc : cn + 1 ≤ R.cells) (hs : sn + N ≤ R.slots) (hd : decode cc pc = .ok (.new idx, 3))
    (k : ∀ q : Nat, NW E (ws ++ [(q, .inr (ci, fs))]) (cn + 1) (sn + N) (pc + 3) L (.ref q :: st)) : NW E ws cn sn pc L st := fun H locs ls hP hD hS hl => by
  obtain ⟨h1, h2, h3, h4, h5, h6, h7, h8, h9, h10⟩ := hE
  exact va_new h1 h2 h5 hC.2.1 ty hC.2.2.1 h4 (h5 _ hl1) (h5 _ hi1) (h5 _ hini) h8 hP hD hS h9 hC.1 hfs (by rw [h7]; exact hc) (by rw [h7]; exact hs) hd (fun q H1 hP1 hD1 hS1 => k q H1 locs ls hP1 hD1 hS1 hl)
theorem n_put (hE : nOK E cc own T R) {ci N idx a : Nat} {C : String} {T' : u_T} {ty : Nat → FieldType} (hC : nCls ci C T' N ty) (X Y : va_W) {fs : List Value} (kf : Nat) (hk : kf < N) (hw : (T' kf).2.2.2 = false ∨ ((T' kf).2.2.2 = true ∧ (et E).name = "<init>" ∧ (T' kf).1 = own)) (hlk : Cond.fieldLink own idx (T' kf).1 (T' kf).2.1 (T' kf).2.2.1 ∈ gTb) {v : Value} (hn : narrow (ty kf) v = v) (hfit : fits (ty kf) v = true) (hl1 : kf < fs.length) (hd : decode cc pc = .ok (.putfield idx, 3))
    (k : NW E (X ++ (a, .inr (ci, fs.set kf v)) :: Y) cn sn (pc + 3) L st) : NW E (X ++ (a, .inr (ci, fs)) :: Y) cn sn pc L (v :: .ref a :: st) := fun H locs ls hP hD hS hl => by
  obtain ⟨h1, h2, h3, h4, h5, h6, h7, h8, h9, h10⟩ := hE
  have kk : ∀ (H1 : Heap) (locs1 : List Loc), va_P (eD E) gCl ((X ++ (a, .inr (ci, fs)) :: Y).set X.length (a, .inr (ci, fs.set kf v))) H1 → va_D (eA E) ((X ++ (a, .inr (ci, fs)) :: Y).set X.length (a, .inr (ci, fs.set kf v))) → va_S (eA E) (es E).heap H1 locs1 → W (ep E) (el E) (ee E) (eR E) (es E) (em E) (eg E) (eb E) (et E) (ec E) H1 locs1 cn sn (eP E) (F0 (em E) (pc + 3) ls st) := fun H1 locs1 hP1 hD1 hS1 => by
    rw [n_set] at hP1 hD1
    exact k H1 locs1 ls hP1 hD1 hS1 hl
  rcases hw with hw | ⟨hw, hi, ho⟩
  · exact va_put h1 h2 h5 hC.2.1 ty hC.2.2.1 hC.2.2.2 h4 h8 hP hD hS X.length (n_at X Y _) hC.1 kf hk (h5 _ hlk) (fun _ h => h) hw (hC.2.2.1 kf hk) hn hfit hl1 hd kk
  · exact va_putF h1 h2 h5 hC.2.1 ty hC.2.2.1 hC.2.2.2 h4 h8 hP hD hS X.length (n_at X Y _) hC.1 kf hk (h5 _ hlk) (fun _ h => h) hw hi ho (hC.2.2.1 kf hk) hn hfit hl1 hd kk
theorem n_get (hE : nOK E cc own T R) {ci N idx a : Nat} {C : String} {T' : u_T} {ty : Nat → FieldType} (hC : nCls ci C T' N ty) (X Y : va_W) {fs : List Value} (kf : Nat) (hk : kf < N) (hlk : Cond.fieldLink own idx (T' kf).1 (T' kf).2.1 (T' kf).2.2.1 ∈ gTb) {v : Value} (hv : fs[kf]? = some v) (hd : decode cc pc = .ok (.getfield idx, 3))
    (k : NW E (X ++ (a, .inr (ci, fs)) :: Y) cn sn (pc + 3) L (v :: st)) : NW E (X ++ (a, .inr (ci, fs)) :: Y) cn sn pc L (.ref a :: st) := fun H locs ls hP hD hS hl => by
  obtain ⟨h1, h2, h3, h4, h5, h6, h7, h8, h9, h10⟩ := hE
  exact va_get h1 h2 h5 hC.2.1 h4 h8 hP X.length (n_at X Y _) hC.1 kf hk (h5 _ hlk) (fun _ h => h) hv hd (k H locs ls hP hD hS hl)
/-- a place of the newest row, one of chars -/
theorem n_cast (hE : nOK E cc own T R) (X : va_W) {a n : Nat} {f : Nat → Int32} {i x : Int32} (hi : vp_in i n) (hd : decode cc pc = .ok (.castore, 1))
    (k : NW E (X ++ [(a, .inl (T 3, n, .inl (upd f i.toNatClampNeg (vp_nar .char x))))]) cn sn (pc + 1) L st) : NW E (X ++ [(a, .inl (T 3, n, .inl f))]) cn sn pc L (.int x :: .int i :: .ref a :: st) := fun H locs ls hP hD hS hl => by
  obtain ⟨h1, h2, h3, h4, h5, h6, h7, h8, h9, h10⟩ := hE
  refine va_cast h1 h2 h8 hP hD hS X.length 3 (n_at X [] _) rfl hi hd (fun H1 locs1 hP1 hD1 hS1 => ?_)
  rw [n_set] at hP1 hD1
  exact k H1 locs1 ls hP1 hD1 hS1 hl
theorem n_objInit (hE : nOK E cc own T R) {idx a : Nat} (hlk : Cond.methodLink own idx Lib.objectInit ∈ gTb) (hin : Cond.instanceMethod Lib.objectInit ∈ gTb) (hcode : Cond.code Lib.objectInit ⟨#[0xb1]⟩ 1 none ∈ gTb) (hf : 1 ≤ R.frames) (hlo : 12 ≤ R.locals) (hd : decode cc pc = .ok (.invokespecial idx, 3)) (k : NW E ws cn sn (pc + 3) L []) : NW E ws cn sn pc L [.ref a] := fun H locs ls hP hD hS hl => by
  obtain ⟨h1, h2, h3, h4, h5, h6, h7, h8, h9, h10⟩ := hE
  exact W.objInit h1 h2 h4 (h5 _ hlk) (h5 _ hin) (h5 _ hcode) (g := F0 (em E) pc ls [.ref a]) rfl (by rw [h3]; exact hl.1) rfl hd (by rw [h7]; exact hf) (by rw [h7]; simpa [JFrame.monitorRoom, F0] using hlo) (k H locs ls hP hD hS hl)
theorem n_vret (hE : nOK E cc own T R) {Qw : va_W → Prop} (hF : nFin E Qw) (hr : (et E).sig.returnType = none) (hc : cn ≤ R.cells) (hs : sn ≤ R.slots) (hd : decode cc pc = .ok (.return_, 1)) (h : Qw ws) : NW E ws cn sn pc L [] := fun H locs ls hP hD hS hl => by
  obtain ⟨h1, h2, h3, h4, h5, h6, h7, h8, h9, h10⟩ := hE
  rw [hF]
  exact W.widen (k := (eR E).cells) (n := (eR E).slots) (by rw [h7]; exact hc) (by rw [h7]; exact hs) (W.vret h1 h2 hr (fun t ht hW => ⟨⟨ws, rfl, h, by rw [ht]; exact hP, hD⟩, hS.F ht⟩) hS.2.2 hd h6)
theorem nWs_pay (hE : nOK E cc own T R) {y : MethodName} {code : ByteArray} {maxL : Nat} {ret : Option FieldType} (hc : Cond.code y code maxL ret ∈ gTb) : ∀ w ∈ gWs y code maxL ret, ∀ (a' : Array Value) (U : State), (es E).WarmedH U.vm → w.before a' U = true := by
  intro w hw a' U hW
  have hm : w ∈ gTb := by
    rcases List.mem_cons.mp hw with rfl | h
    · exact hc
    · exact h
  exact word_at hW (gTb_good w hm) (hE.2.2.2.2.1 w hm)
/-- a call of a constructor -/
theorem n_callI (hE : nOK E cc own T R) {y : MethodName} {code : ByteArray} {maxL n idx b : Nat} {R' : Room} (As rest : List Value) {Qw : va_W → Prop} (hM : nMet (el E) (eD E) T (eA E) y code maxL R' (.ref b :: As) ws Qw) (hnm : y.name = "<init>") (hc : Cond.code y code maxL none ∈ gTb ∧ Cond.initialized y.cls ∈ gTb ∧ Cond.instanceMethod y ∈ gTb) (hy : y.cls ≠ "java/lang/invoke/MethodHandle" ∧ y.cls ≠ "java/lang/invoke/VarHandle") (hsig : (parseMethodDescriptor y.desc).map (fun d => d.parameters.length) = some n)
    (hlk : Cond.methodLink own idx y ∈ gTb ∨ ∃ host : String, Cond.methodLinkNest own idx y host ∈ cNest) (hn : As.length = n) (hst : st = As.reverse ++ .ref b :: rest) (hW : (rest.map fun v => v.category).sum ≤ 8) (hR : R'.frames + 1 ≤ R.frames ∧ 8 + (maxL + 11) + R'.locals ≤ R.locals) (hcs : cn + R'.cells ≤ R.cells ∧ sn + R'.slots ≤ R.slots) (hd : decode cc pc = .ok (.invokespecial idx, 3))
    (k : ∀ ws' : va_W, Qw ws' → NW E ws' (cn + R'.cells) (sn + R'.slots) (pc + 3) L rest) : NW E ws cn sn pc L st := fun H locs ls hP hD hS hl => by
  have hpay := nWs_pay hE hc.1
  obtain ⟨h1, h2, h3, h4, h5, h6, h7, h8, h9, h10⟩ := hE
  have hpre : PreS (es E) H (va_Pc (.ref b :: As) (nPre (eD E) T (eA E) ws)) (.ref b :: As) := ⟨nPre_blind, fun U hU hW => ⟨rfl, by rw [hU]; exact hP, va_K.moved hW.alike h8, hD, fun q hq => h9 q (Nat.le_trans hS.1 (by rw [← hU]; exact hq)), fun w hw => cNest_warm hW hw (h10 w hw)⟩⟩
  have hlen : ∀ sig, parseMethodDescriptor y.desc = some sig → n = sig.parameters.length := fun sig h => by rw [h] at hsig; exact (Option.some.inj hsig).symm
  have hst' : (F0 (em E) pc ls st).stack = As.reverse ++ .ref b :: rest := hst
  have hW' : 2 * (F0 (em E) pc ls st).monitorRoom + (rest.map fun v => v.category).sum ≤ 8 := by simpa [JFrame.monitorRoom, F0] using hW
  have hrun : va_Run (ep E) (el E) (ee E) (eR E) (es E) (em E) (eg E) (eb E) (et E) (ec E) H locs cn sn R'.cells R'.slots (F0 (em E) pc ls st) rest (va_Qv Qw (fun (ws' : va_W) (t : State) => va_P (eD E) gCl ws' t.heap ∧ va_D (eA E) ws') (eA E) (Value.ref b :: As).toArray) (eA E) := by
    rcases hlk with hlk | ⟨host, hlk⟩
    · exact va_runI (bytes := code) (maxL := maxL) (n := n) (Ts := gTb) (nL := eN E) ⟨h1, h2, h3, h4, h5⟩ hM ⟨⟨rfl, rfl, by rw [h7]; exact hR.1, by rw [h7]; exact hR.2, hpay, List.mem_cons_self, h5 _ hc.1, h5 _ hc.2.1, hy, hlen, h5 _ hlk⟩, hnm, h5 _ hc.2.2⟩ hpre rfl hn hl.1 hst' hW' hd (by rw [h7]; exact hcs)
    · exact va_runIN (bytes := code) (maxL := maxL) (n := n) (Ts := gTb) (nL := eN E) (host := host) ⟨h1, h2, h3, h4, h5⟩ hM ⟨⟨⟨rfl, rfl, by rw [h7]; exact hR.1, by rw [h7]; exact hR.2, hpay, List.mem_cons_self⟩, h5 _ hc.1, h5 _ hc.2.1, hy, hlen, (h10 _ hlk).use rfl⟩, hnm, h5 _ hc.2.2⟩ hpre rfl hn hl.1 hst' hW' hd (by rw [h7]; exact hcs)
  exact va_callv hrun hS (fun _ _ h => h) (fun _ h => h) (fun ws' t H1 locs1 ht hvm hw hB hz hk hS1 => k ws' hw H1 locs1 ls (by rw [← ht]; exact hB.1) hB.2 hS1 hl)
end NROWS
/-- aload_0, a length, newarray, putfield: a new row in a field -/
theorem n_row {E : gEnv} {cc : ByteArray} {own : String} {T : Nat → ClassId} {R : Room} {cn sn pc pc1 : Nat} {L : List (Nat × Value)} (hE : nOK E cc own T R) {ci N idx a : Nat} {C : String} {T' : u_T} {ty : Nat → FieldType} (hC : nCls ci C T' N ty) (X Y : va_W) {fs : List Value} (kf : Nat) (hk : kf < N) (hw : (T' kf).2.2.2 = true ∧ (et E).name = "<init>" ∧ (T' kf).1 = own) (hlk : Cond.fieldLink own idx (T' kf).1 (T' kf).2.1 (T' kf).2.2.1 ∈ gTb) (hl1 : kf < fs.length) (hL : L[0]? = some (0, .ref a))
    {aty : ArrayType} (tya : FieldType) (hty : newarray.typeOf aty = tya) (j : Nat) (hj : (nTy T)[j]? = some (T j, tya)) (hfa : ty kf = .array tya) (harr : Cond.arrayClass (newarray.typeOf aty) ∈ gTb) {n : Int32} {M : Nat} (a0 : vp_A) (ha : ∀ cA : ClassId, vp_cell cA a0 = arrV cA M (fun _ => defaultValue tya)) (hn : ¬ n < 0) (hN : n.toNatClampNeg = M) (hb : M * componentBytes tya ≤ 536870912) (hc : cn + 1 ≤ R.cells) (hs : sn + M ≤ R.slots)
    (d0 : decode cc pc = .ok (.aload_n 0, 1)) (hp : ∀ (w : va_W) (s' : List Value), NW E w cn sn pc1 L (.int n :: s') → NW E w cn sn (pc + 1) L s') (d2 : decode cc pc1 = .ok (.newarray aty, 2)) (d3 : decode cc (pc1 + 2) = .ok (.putfield idx, 3))
    (k : ∀ q : Nat, NW E (X ++ (a, .inr (ci, fs.set kf (.ref q))) :: (Y ++ [(q, .inl (T j, a0))])) (cn + 1) (sn + M) (pc1 + 5) L []) : NW E (X ++ (a, .inr (ci, fs)) :: Y) cn sn pc L [] := by
  refine n_aload_n hE 0 d0 rfl hL ?_
  refine hp _ _ ?_
  refine n_newa hE tya hty j hj harr ha hn hN hb hc hs d2 (fun q => ?_)
  rw [List.append_assoc, List.cons_append]
  exact n_put hE hC X (Y ++ [(q, .inl (T j, a0))]) kf hk (Or.inr hw) hlk (by rw [hfa]; rfl) (by rw [hfa]; rfl) hl1 d3 (k q)
/-- aload_0, a number, putfield -/
theorem n_num {E : gEnv} {cc : ByteArray} {own : String} {T : Nat → ClassId} {R : Room} {cn sn pc pc1 : Nat} {L : List (Nat × Value)} (hE : nOK E cc own T R) {ci N idx a : Nat} {C : String} {T' : u_T} {ty : Nat → FieldType} (hC : nCls ci C T' N ty) (X Y : va_W) {fs : List Value} (kf : Nat) (hk : kf < N) (hw : (T' kf).2.2.2 = false ∨ ((T' kf).2.2.2 = true ∧ (et E).name = "<init>" ∧ (T' kf).1 = own)) (hlk : Cond.fieldLink own idx (T' kf).1 (T' kf).2.1 (T' kf).2.2.1 ∈ gTb) (hl1 : kf < fs.length) (hL : L[0]? = some (0, .ref a)) {v : Value} (hn : narrow (ty kf) v = v) (hfit : fits (ty kf) v = true)
    (d0 : decode cc pc = .ok (.aload_n 0, 1)) (hp : ∀ (w : va_W) (s' : List Value), NW E w cn sn pc1 L (v :: s') → NW E w cn sn (pc + 1) L s') (d3 : decode cc pc1 = .ok (.putfield idx, 3))
    (k : NW E (X ++ (a, .inr (ci, fs.set kf v)) :: Y) cn sn (pc1 + 3) L []) : NW E (X ++ (a, .inr (ci, fs)) :: Y) cn sn pc L [] := by
  refine n_aload_n hE 0 d0 rfl hL ?_
  refine hp _ _ ?_
  exact n_put hE hC X Y kf hk hw hlk hn hfit hl1 d3 k
