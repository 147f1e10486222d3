/-! THE LAYER: a method's walk as a chain of rows over 'GW': the machine at a pc with locals L, operand stack st and a heap that holds the cells ws comes to its end. -/
/-- the room of a method h calls high -/
def gRm (h : Nat) : Room := { frames := h, cells := 0, slots := 0, locals := 64 * h }
abbrev gWs (y : MethodName) (code : ByteArray) (maxL : Nat) (ret : Option FieldType) : List Cond := .code y code maxL ret :: gTb
/-- p, l, e, R, s, m, args, below, meth, c, what must hold of the last cells and the answer, D, classes, array classes, what may change, locals -/
abbrev gEnv : Type := Program × Launch × Env × Room × State × MethodId × Array Value × List Frame × Method × Code × (va_W → Option Value → Prop) × va_G × List vw_C × List (ClassId × FieldType) × (Nat → Prop) × (State → Prop) × Nat × (State → Prop)
abbrev ep (E : gEnv) : Program := E.1
abbrev el (E : gEnv) : Launch := E.2.1
abbrev ee (E : gEnv) : Env := E.2.2.1
abbrev eR (E : gEnv) : Room := E.2.2.2.1
abbrev es (E : gEnv) : State := E.2.2.2.2.1
abbrev em (E : gEnv) : MethodId := E.2.2.2.2.2.1
abbrev eg (E : gEnv) : Array Value := E.2.2.2.2.2.2.1
abbrev eb (E : gEnv) : List Frame := E.2.2.2.2.2.2.2.1
abbrev et (E : gEnv) : Method := E.2.2.2.2.2.2.2.2.1
abbrev ec (E : gEnv) : Code := E.2.2.2.2.2.2.2.2.2.1
abbrev eQ (E : gEnv) : va_W → Option Value → Prop := E.2.2.2.2.2.2.2.2.2.2.1
abbrev eD (E : gEnv) : va_G := E.2.2.2.2.2.2.2.2.2.2.2.1
abbrev eC (E : gEnv) : List vw_C := E.2.2.2.2.2.2.2.2.2.2.2.2.1
abbrev eT (E : gEnv) : List (ClassId × FieldType) := E.2.2.2.2.2.2.2.2.2.2.2.2.2.1
abbrev eA (E : gEnv) : Nat → Prop := E.2.2.2.2.2.2.2.2.2.2.2.2.2.2.1
abbrev eZ (E : gEnv) : State → Prop := E.2.2.2.2.2.2.2.2.2.2.2.2.2.2.2.1
abbrev eN (E : gEnv) : Nat := E.2.2.2.2.2.2.2.2.2.2.2.2.2.2.2.2.1
/-- where the walk must come to -/
abbrev eP (E : gEnv) : State → Prop := E.2.2.2.2.2.2.2.2.2.2.2.2.2.2.2.2.2
/-- what holds of the cells that nobody writes: kept when the tables warm and the heap outside A stays -/
def gZok (A : Nat → Prop) (Z : State → Prop) : Prop := (∀ (U : State) (g : JFrame) (mk : MethodId) (a : Array Value), Z U → Z (U.calling g mk a)) ∧ ∀ s U : State, s.WarmedH U.vm → va_F A s U → Z s → Z U
def gG (D : va_G) (cl : List vw_C) (tys : List (ClassId × FieldType)) (A : Nat → Prop) (Z : State → Prop) (ws : va_W) (U : State) : Prop := va_P D cl ws U.heap ∧ va_K D cl tys U ∧ va_D A ws ∧ Z U
def gQ (D : va_G) (cl : List vw_C) (tys : List (ClassId × FieldType)) (A : Nat → Prop) (Z : State → Prop) (Qw : va_W → Option Value → Prop) : Array Value → State → Outcome → State → Prop := fun _ st oc t =>
  ∃ (ws' : va_W) (rv : Option Value), oc = .returned rv ∧ Qw ws' rv ∧ gG D cl tys A Z ws' t ∧ va_F A st t
/-- a contract: from every heap that holds ws the method returns, with cells and an answer that Qw allows; it makes nothing, and changes nothing outside A -/
def gMet (l : Launch) (D : va_G) (cl : List vw_C) (tys : List (ClassId × FieldType)) (A : Nat → Prop) (Z : State → Prop) (y : MethodName) (code : ByteArray) (maxL : Nat) (ret : Option FieldType) (h : Nat) (av : List Value) (ws : va_W) (Qw : va_W → Option Value → Prop) : Prop :=
  Met l y (gWs y code maxL ret) (gRm h) (va_Pc av (gG D cl tys A Z ws)) (gQ D cl tys A Z Qw) 0 0 A
def GW (E : gEnv) (ws : va_W) (pc : Nat) (L : List (Nat × Value)) (st : List Value) : Prop :=
  ∀ (H : Heap) (locs : List Loc) (ls : Array Slot), va_P (eD E) (eC E) ws H → va_D (eA E) ws → va_S (eA E) (es E).heap H locs → lv_has ls (eN E) L →
    W (ep E) (el E) (ee E) (eR E) (es E) (em E) (eg E) (eb E) (et E) (ec E) H locs 0 0 (eP E) (F0 (em E) pc ls st)
/-- the walk's end is a return, with at most mc cells of ms slots made -/
def gFinN (E : gEnv) (mc ms : Nat) : Prop := eP E = MQ (eb E) (gQ (eD E) (eC E) (eT E) (eA E) (eZ E) (eQ E)) (eg E) (es E) mc ms (eA E)
abbrev gFin (E : gEnv) : Prop := gFinN E 0 0
def gOK (E : gEnv) (cc : ByteArray) (own : String) (ret : Option FieldType) (h : Nat) : Prop :=
  (ep E).tables.exec = Jvm.exec ∧ (ec E).code = cc ∧ (ec E).maxLocals = eN E ∧ (es E).vm.findClass own = some (em E).cls ∧ (∀ w ∈ gTb, w.before (eg E) (es E) = true) ∧ (et E).locks = false ∧ (et E).sig.returnType = ret ∧ ((eR E).frames = h ∧ (eR E).locals = 64 * h) ∧ va_K (eD E) (eC E) (eT E) (es E) ∧ eZ E (es E) ∧ gZok (eA E) (eZ E)
theorem gG_blind {D : va_G} {cl : List vw_C} {tys : List (ClassId × FieldType)} {A : Nat → Prop} {Z : State → Prop} {ws : va_W} {av : List Value} (hZ : gZok A Z) : FrameBlind (va_Pc av (gG D cl tys A Z ws)) := by
  intro a U g mk q
  obtain ⟨q0, qP, qK, qD, qZ⟩ := q
  exact ⟨q0, qP, va_K.moved (u := U) (U := U.calling g mk a) (Vm.Alike.refl U.vm) qK, qD, hZ.1 U g mk a qZ⟩
/-- the walk of a method from its entry gives its contract -/
theorem g_enter {l : Launch} {D : va_G} {cl : List vw_C} {tys : List (ClassId × FieldType)} {A : Nat → Prop} {Z : State → Prop} {y : MethodName} {code : ByteArray} {maxL : Nat} {ret : Option FieldType} {h : Nat} {av : List Value} {ws : va_W} {Qw : va_W → Option Value → Prop} (hZ : gZok A Z)
    (hy : plainName y.cls = true) (L0 : List (Nat × Value)) (hL : lv_args 0 av = L0) (hs : (lg_sl av).length ≤ maxL)
    (k : ∀ E : gEnv, gOK E code y.cls ret h → el E = l → eD E = D → eC E = cl → eT E = tys → eA E = A → eZ E = Z → eN E = maxL → eQ E = Qw → gFin E → GW E ws 0 L0 []) : gMet l D cl tys A Z y code maxL ret h av ws Qw := by
  refine Met.ofW (cc := code) (maxL := maxL) (ret := ret) hy rfl ?_
  intro p e s m args below meth c s₁ B hml hv
  obtain ⟨rfl, hP, hK, hD, hZs⟩ := hv
  have hts := atoms_spec (ws := gWs y code maxL ret) B.pre
  have hl := lv_entry av (n := maxL) hs
  rw [lg_entry_eq]
  generalize (lg_sl av ++ List.replicate (maxL - (lg_sl av).length) Slot.unset).toArray = ls at hl ⊢
  rw [hL] at hl
  exact k (p, l, e, gRm h, s, m, av.toArray, below, meth, c, Qw, D, cl, tys, A, Z, maxL, MQ below (gQ D cl tys A Z Qw) av.toArray s 0 0 A) ⟨B.exec, B.bytes, hml, findClass_of_methodNamed B.named, fun w hw => hts w (List.mem_cons_of_mem _ hw), B.notSynchronized, B.returns, ⟨rfl, rfl⟩, hK, hZs, hZ⟩ rfl rfl rfl rfl rfl rfl rfl rfl rfl s.heap [] ls hP hD va_S.rf hl
section ROWS
variable {E : gEnv} {cc : ByteArray} {own : String} {ret : Option FieldType} {hgt : Nat} {ws : va_W} {pc : Nat} {L : List (Nat × Value)} {st : List Value}
theorem r_iadd (hE : gOK E cc own ret hgt) {x y : Int32} (hd : decode cc pc = .ok (.iadd, 1)) (k : GW E ws (pc + 1) L (.int (x + y) :: st)) : GW E ws pc L (.int y :: .int x :: st) := fun H locs ls hP hD hS hl => lv_iadd hE.1 hE.2.1 hd (k H locs ls hP hD hS hl)
theorem r_isub (hE : gOK E cc own ret hgt) {x y : Int32} (hd : decode cc pc = .ok (.isub, 1)) (k : GW E ws (pc + 1) L (.int (x - y) :: st)) : GW E ws pc L (.int y :: .int x :: st) := fun H locs ls hP hD hS hl => lv_isub hE.1 hE.2.1 hd (k H locs ls hP hD hS hl)
theorem r_imul (hE : gOK E cc own ret hgt) {x y : Int32} (hd : decode cc pc = .ok (.imul, 1)) (k : GW E ws (pc + 1) L (.int (x * y) :: st)) : GW E ws pc L (.int y :: .int x :: st) := fun H locs ls hP hD hS hl => lv_imul hE.1 hE.2.1 hd (k H locs ls hP hD hS hl)
theorem r_iand (hE : gOK E cc own ret hgt) {x y : Int32} (hd : decode cc pc = .ok (.iand, 1)) (k : GW E ws (pc + 1) L (.int (x &&& y) :: st)) : GW E ws pc L (.int y :: .int x :: st) := fun H locs ls hP hD hS hl => lv_iand hE.1 hE.2.1 hd (k H locs ls hP hD hS hl)
theorem r_ior (hE : gOK E cc own ret hgt) {x y : Int32} (hd : decode cc pc = .ok (.ior, 1)) (k : GW E ws (pc + 1) L (.int (x ||| y) :: st)) : GW E ws pc L (.int y :: .int x :: st) := fun H locs ls hP hD hS hl => lv_ior hE.1 hE.2.1 hd (k H locs ls hP hD hS hl)
theorem r_ixor (hE : gOK E cc own ret hgt) {x y : Int32} (hd : decode cc pc = .ok (.ixor, 1)) (k : GW E ws (pc + 1) L (.int (x ^^^ y) :: st)) : GW E ws pc L (.int y :: .int x :: st) := fun H locs ls hP hD hS hl => lv_ixor hE.1 hE.2.1 hd (k H locs ls hP hD hS hl)
theorem r_ladd (hE : gOK E cc own ret hgt) {x y : Int64} (hd : decode cc pc = .ok (.ladd, 1)) (k : GW E ws (pc + 1) L (.long (x + y) :: st)) : GW E ws pc L (.long y :: .long x :: st) := fun H locs ls hP hD hS hl => lv_ladd hE.1 hE.2.1 hd (k H locs ls hP hD hS hl)
theorem r_lsub (hE : gOK E cc own ret hgt) {x y : Int64} (hd : decode cc pc = .ok (.lsub, 1)) (k : GW E ws (pc + 1) L (.long (x - y) :: st)) : GW E ws pc L (.long y :: .long x :: st) := fun H locs ls hP hD hS hl => lv_lsub hE.1 hE.2.1 hd (k H locs ls hP hD hS hl)
theorem r_lmul (hE : gOK E cc own ret hgt) {x y : Int64} (hd : decode cc pc = .ok (.lmul, 1)) (k : GW E ws (pc + 1) L (.long (x * y) :: st)) : GW E ws pc L (.long y :: .long x :: st) := fun H locs ls hP hD hS hl => lv_lmul hE.1 hE.2.1 hd (k H locs ls hP hD hS hl)
theorem r_land (hE : gOK E cc own ret hgt) {x y : Int64} (hd : decode cc pc = .ok (.land, 1)) (k : GW E ws (pc + 1) L (.long (x &&& y) :: st)) : GW E ws pc L (.long y :: .long x :: st) := fun H locs ls hP hD hS hl => lv_land hE.1 hE.2.1 hd (k H locs ls hP hD hS hl)
theorem r_lor (hE : gOK E cc own ret hgt) {x y : Int64} (hd : decode cc pc = .ok (.lor, 1)) (k : GW E ws (pc + 1) L (.long (x ||| y) :: st)) : GW E ws pc L (.long y :: .long x :: st) := fun H locs ls hP hD hS hl => lv_lor hE.1 hE.2.1 hd (k H locs ls hP hD hS hl)
theorem r_lxor (hE : gOK E cc own ret hgt) {x y : Int64} (hd : decode cc pc = .ok (.lxor, 1)) (k : GW E ws (pc + 1) L (.long (x ^^^ y) :: st)) : GW E ws pc L (.long y :: .long x :: st) := fun H locs ls hP hD hS hl => lv_lxor hE.1 hE.2.1 hd (k H locs ls hP hD hS hl)
theorem r_ineg (hE : gOK E cc own ret hgt) {x : Int32} (hd : decode cc pc = .ok (.ineg, 1)) (k : GW E ws (pc + 1) L (.int (-x) :: st)) : GW E ws pc L (.int x :: st) := fun H locs ls hP hD hS hl => lv_ineg hE.1 hE.2.1 hd (k H locs ls hP hD hS hl)
theorem r_lneg (hE : gOK E cc own ret hgt) {x : Int64} (hd : decode cc pc = .ok (.lneg, 1)) (k : GW E ws (pc + 1) L (.long (-x) :: st)) : GW E ws pc L (.long x :: st) := fun H locs ls hP hD hS hl => lv_lneg hE.1 hE.2.1 hd (k H locs ls hP hD hS hl)
theorem r_idiv (hE : gOK E cc own ret hgt) {x y : Int32} (hd : decode cc pc = .ok (.idiv, 1)) (hne : ¬ y = 0) (k : GW E ws (pc + 1) L (.int (x / y) :: st)) : GW E ws pc L (.int y :: .int x :: st) := fun H locs ls hP hD hS hl => lv_idiv hE.1 hE.2.1 hd hne (k H locs ls hP hD hS hl)
theorem r_irem (hE : gOK E cc own ret hgt) {x y : Int32} (hd : decode cc pc = .ok (.irem, 1)) (hne : ¬ y = 0) (k : GW E ws (pc + 1) L (.int (x - x / y * y) :: st)) : GW E ws pc L (.int y :: .int x :: st) := fun H locs ls hP hD hS hl => lv_irem hE.1 hE.2.1 hd hne (k H locs ls hP hD hS hl)
theorem r_ldiv (hE : gOK E cc own ret hgt) {x y : Int64} (hd : decode cc pc = .ok (.ldiv, 1)) (hne : ¬ y = 0) (k : GW E ws (pc + 1) L (.long (x / y) :: st)) : GW E ws pc L (.long y :: .long x :: st) := fun H locs ls hP hD hS hl => lv_ldiv hE.1 hE.2.1 hd hne (k H locs ls hP hD hS hl)
theorem r_lrem (hE : gOK E cc own ret hgt) {x y : Int64} (hd : decode cc pc = .ok (.lrem, 1)) (hne : ¬ y = 0) (k : GW E ws (pc + 1) L (.long (x - x / y * y) :: st)) : GW E ws pc L (.long y :: .long x :: st) := fun H locs ls hP hD hS hl => lv_lrem hE.1 hE.2.1 hd hne (k H locs ls hP hD hS hl)
theorem r_ishl (hE : gOK E cc own ret hgt) {x y : Int32} (hd : decode cc pc = .ok (.ishl, 1)) (k : GW E ws (pc + 1) L (.int (x <<< (y &&& 31)) :: st)) : GW E ws pc L (.int y :: .int x :: st) := fun H locs ls hP hD hS hl => lv_ishl hE.1 hE.2.1 hd (k H locs ls hP hD hS hl)
theorem r_ishr (hE : gOK E cc own ret hgt) {x y : Int32} (hd : decode cc pc = .ok (.ishr, 1)) (k : GW E ws (pc + 1) L (.int (x >>> (y &&& 31)) :: st)) : GW E ws pc L (.int y :: .int x :: st) := fun H locs ls hP hD hS hl => lv_ishr hE.1 hE.2.1 hd (k H locs ls hP hD hS hl)
theorem r_iushr (hE : gOK E cc own ret hgt) {x y : Int32} (hd : decode cc pc = .ok (.iushr, 1)) (k : GW E ws (pc + 1) L (.int ((x.toUInt32 >>> (y.toUInt32 &&& Int32.toUInt32 31)).toInt32) :: st)) : GW E ws pc L (.int y :: .int x :: st) := fun H locs ls hP hD hS hl => lv_iushr hE.1 hE.2.1 hd rfl (k H locs ls hP hD hS hl)
theorem r_lshl (hE : gOK E cc own ret hgt) {x : Int64} {y : Int32} (hd : decode cc pc = .ok (.lshl, 1)) (k : GW E ws (pc + 1) L (.long (x <<< (y.toInt64 &&& 63)) :: st)) : GW E ws pc L (.int y :: .long x :: st) := fun H locs ls hP hD hS hl => lv_lshl hE.1 hE.2.1 hd rfl (k H locs ls hP hD hS hl)
theorem r_lshr (hE : gOK E cc own ret hgt) {x : Int64} {y : Int32} (hd : decode cc pc = .ok (.lshr, 1)) (k : GW E ws (pc + 1) L (.long (x >>> (y.toInt64 &&& 63)) :: st)) : GW E ws pc L (.int y :: .long x :: st) := fun H locs ls hP hD hS hl => lv_lshr hE.1 hE.2.1 hd rfl (k H locs ls hP hD hS hl)
theorem r_i2l (hE : gOK E cc own ret hgt) {x : Int32} (hd : decode cc pc = .ok (.i2l, 1)) (k : GW E ws (pc + 1) L (.long x.toInt64 :: st)) : GW E ws pc L (.int x :: st) := fun H locs ls hP hD hS hl => lv_i2l hE.1 hE.2.1 hd rfl (k H locs ls hP hD hS hl)
theorem r_l2i (hE : gOK E cc own ret hgt) {x : Int64} (hd : decode cc pc = .ok (.l2i, 1)) (k : GW E ws (pc + 1) L (.int x.toInt32 :: st)) : GW E ws pc L (.long x :: st) := fun H locs ls hP hD hS hl => lv_l2i hE.1 hE.2.1 hd rfl (k H locs ls hP hD hS hl)
theorem r_i2b (hE : gOK E cc own ret hgt) {x : Int32} (hd : decode cc pc = .ok (.i2b, 1)) (k : GW E ws (pc + 1) L (.int x.toInt8.toInt32 :: st)) : GW E ws pc L (.int x :: st) := fun H locs ls hP hD hS hl => lv_i2b hE.1 hE.2.1 hd rfl (k H locs ls hP hD hS hl)
theorem r_i2c (hE : gOK E cc own ret hgt) {x : Int32} (hd : decode cc pc = .ok (.i2c, 1)) (k : GW E ws (pc + 1) L (.int (x.toUInt32 % 65536).toInt32 :: st)) : GW E ws pc L (.int x :: st) := fun H locs ls hP hD hS hl => lv_i2c hE.1 hE.2.1 hd rfl (k H locs ls hP hD hS hl)
theorem r_lcmp (hE : gOK E cc own ret hgt) {x y : Int64} (hd : decode cc pc = .ok (.lcmp, 1)) (k : GW E ws (pc + 1) L (.int (lg_cmp x y) :: st)) : GW E ws pc L (.long y :: .long x :: st) := fun H locs ls hP hD hS hl => W.lcmp hE.1 hE.2.1 hd (k H locs ls hP hD hS hl)
theorem r_iconst (hE : gOK E cc own ret hgt) {n : Int} {v : Int32} (hd : decode cc pc = .ok (.iconst n, 1)) (hv : Int32.ofInt n = v) (k : GW E ws (pc + 1) L (.int v :: st)) : GW E ws pc L (st) := fun H locs ls hP hD hS hl => lv_iconst hE.1 hE.2.1 hd hv (k H locs ls hP hD hS hl)
theorem r_bipush (hE : gOK E cc own ret hgt) {n : Int} {v : Int32} (hd : decode cc pc = .ok (.bipush n, 2)) (hv : (Int8.ofInt n).toInt32 = v) (k : GW E ws (pc + 2) L (.int v :: st)) : GW E ws pc L (st) := fun H locs ls hP hD hS hl => lv_bipush hE.1 hE.2.1 hd hv (k H locs ls hP hD hS hl)
theorem r_sipush (hE : gOK E cc own ret hgt) {n : Int} {v : Int32} (hd : decode cc pc = .ok (.sipush n, 3)) (hv : (Int16.ofInt n).toInt32 = v) (k : GW E ws (pc + 3) L (.int v :: st)) : GW E ws pc L (st) := fun H locs ls hP hD hS hl => lv_sipush hE.1 hE.2.1 hd hv (k H locs ls hP hD hS hl)
theorem r_lconst (hE : gOK E cc own ret hgt) {n : Fin 2} {v : Int64} (hd : decode cc pc = .ok (.lconst n, 1)) (hv : Int64.ofNat (n : Nat) = v) (k : GW E ws (pc + 1) L (.long v :: st)) : GW E ws pc L (st) := fun H locs ls hP hD hS hl => lv_lconst hE.1 hE.2.1 hd hv (k H locs ls hP hD hS hl)
theorem r_ldc (hE : gOK E cc own ret hgt) {index : Nat} {v : Int32} (hd : decode cc pc = .ok (.ldc index, 2)) (hc : Cond.constant own index v ∈ gTb) (k : GW E ws (pc + 2) L (.int v :: st)) : GW E ws pc L (st) := fun H locs ls hP hD hS hl => lv_ldc hE.1 hE.2.1 hE.2.2.2.1 (hE.2.2.2.2.1 _ hc) hd (k H locs ls hP hD hS hl)
theorem r_ldc2 (hE : gOK E cc own ret hgt) {index : Nat} {v : Int64} (hd : decode cc pc = .ok (.ldc2_w index, 3)) (hc : Cond.constantLong own index v ∈ gTb) (k : GW E ws (pc + 3) L (.long v :: st)) : GW E ws pc L (st) := fun H locs ls hP hD hS hl => lv_ldc2 hE.1 hE.2.1 hE.2.2.2.1 (hE.2.2.2.2.1 _ hc) hd (k H locs ls hP hD hS hl)
theorem r_ldcw (hE : gOK E cc own ret hgt) {index : Nat} {v : Int32} (hd : decode cc pc = .ok (.ldc_w index, 3)) (hc : Cond.constant own index v ∈ gTb) (k : GW E ws (pc + 3) L (.int v :: st)) : GW E ws pc L (st) := fun H locs ls hP hD hS hl => lv_ldcw hE.1 hE.2.1 hE.2.2.2.1 (hE.2.2.2.2.1 _ hc) hd (k H locs ls hP hD hS hl)
theorem r_dup (hE : gOK E cc own ret hgt) {v : Value} (hd : decode cc pc = .ok (.dup, 1)) (hv : v.category = 1) (k : GW E ws (pc + 1) L (v :: v :: st)) : GW E ws pc L (v :: st) := fun H locs ls hP hD hS hl => lv_dup hE.1 hE.2.1 hd hv (k H locs ls hP hD hS hl)
theorem r_pop (hE : gOK E cc own ret hgt) {v : Value} (hd : decode cc pc = .ok (.pop, 1)) (hv : v.category = 1) (k : GW E ws (pc + 1) L (st)) : GW E ws pc L (v :: st) := fun H locs ls hP hD hS hl => lv_pop hE.1 hE.2.1 hd hv (k H locs ls hP hD hS hl)
theorem r_dup_x1 (hE : gOK E cc own ret hgt) {v u : Value} (hd : decode cc pc = .ok (.dup_x1, 1)) (hv : v.category = 1) (hu : u.category = 1) (k : GW E ws (pc + 1) L (v :: u :: v :: st)) : GW E ws pc L (v :: u :: st) := fun H locs ls hP hD hS hl => lv_dup_x1 hE.1 hE.2.1 hd hv hu (k H locs ls hP hD hS hl)
theorem r_dup_x2 (hE : gOK E cc own ret hgt) {v u z : Value} (hd : decode cc pc = .ok (.dup_x2, 1)) (hv : v.category = 1) (hu : u.category = 1) (hz : z.category = 1) (k : GW E ws (pc + 1) L (v :: u :: z :: v :: st)) : GW E ws pc L (v :: u :: z :: st) := fun H locs ls hP hD hS hl => lv_dup_x2 hE.1 hE.2.1 hd hv hu hz (k H locs ls hP hD hS hl)
theorem r_dup2 (hE : gOK E cc own ret hgt) {v u : Value} (hd : decode cc pc = .ok (.dup2, 1)) (hv : v.category = 1) (hu : u.category = 1) (k : GW E ws (pc + 1) L (v :: u :: v :: u :: st)) : GW E ws pc L (v :: u :: st) := fun H locs ls hP hD hS hl => lv_dup2_11 hE.1 hE.2.1 hd hv hu (k H locs ls hP hD hS hl)
theorem r_pop2 (hE : gOK E cc own ret hgt) {v : Value} (hd : decode cc pc = .ok (.pop2, 1)) (hv : v.category = 2) (k : GW E ws (pc + 1) L (st)) : GW E ws pc L (v :: st) := fun H locs ls hP hD hS hl => lv_pop2_2 hE.1 hE.2.1 hd hv (k H locs ls hP hD hS hl)
theorem r_iload_n (hE : gOK E cc own ret hgt) (j : Nat) {n : Fin 4} {i : Nat} {x : Int32} (hd : decode cc pc = .ok (.iload_n n, 1)) (hi : (n : Nat) = i) (hj : L[j]? = some (i, .int x)) (k : GW E ws (pc + 1) L (.int x :: st)) : GW E ws pc L st := fun H locs ls hP hD hS hl => lv_iload_n hE.1 hE.2.1 hd hi (lv_at hl j hj) (k H locs ls hP hD hS hl)
theorem r_iload (hE : gOK E cc own ret hgt) (j : Nat) {i : Nat} {x : Int32} (hd : decode cc pc = .ok (.iload i, 2)) (hj : L[j]? = some (i, .int x)) (k : GW E ws (pc + 2) L (.int x :: st)) : GW E ws pc L st := fun H locs ls hP hD hS hl => lv_iload hE.1 hE.2.1 hd (lv_at hl j hj) (k H locs ls hP hD hS hl)
theorem r_lload_n (hE : gOK E cc own ret hgt) (j : Nat) {n : Fin 4} {i : Nat} {x : Int64} (hd : decode cc pc = .ok (.lload_n n, 1)) (hi : (n : Nat) = i) (hj : L[j]? = some (i, .long x)) (k : GW E ws (pc + 1) L (.long x :: st)) : GW E ws pc L st := fun H locs ls hP hD hS hl => lv_lload_n hE.1 hE.2.1 hd hi (lv_at hl j hj) (k H locs ls hP hD hS hl)
theorem r_lload (hE : gOK E cc own ret hgt) (j : Nat) {i : Nat} {x : Int64} (hd : decode cc pc = .ok (.lload i, 2)) (hj : L[j]? = some (i, .long x)) (k : GW E ws (pc + 2) L (.long x :: st)) : GW E ws pc L st := fun H locs ls hP hD hS hl => lv_lload hE.1 hE.2.1 hd (lv_at hl j hj) (k H locs ls hP hD hS hl)
theorem r_aload_n (hE : gOK E cc own ret hgt) (j : Nat) {n : Fin 4} {i : Nat} {x : Nat} (hd : decode cc pc = .ok (.aload_n n, 1)) (hi : (n : Nat) = i) (hj : L[j]? = some (i, .ref x)) (k : GW E ws (pc + 1) L (.ref x :: st)) : GW E ws pc L st := fun H locs ls hP hD hS hl => lv_aload_n hE.1 hE.2.1 hd hi (lv_at hl j hj) (k H locs ls hP hD hS hl)
theorem r_aload (hE : gOK E cc own ret hgt) (j : Nat) {i : Nat} {x : Nat} (hd : decode cc pc = .ok (.aload i, 2)) (hj : L[j]? = some (i, .ref x)) (k : GW E ws (pc + 2) L (.ref x :: st)) : GW E ws pc L st := fun H locs ls hP hD hS hl => lv_aload hE.1 hE.2.1 hd (lv_at hl j hj) (k H locs ls hP hD hS hl)
theorem r_istore_n (hE : gOK E cc own ret hgt) (L' : List (Nat × Value)) {n : Fin 4} {i : Nat} {x : Int32} (hd : decode cc pc = .ok (.istore_n n, 1)) (hi : (n : Nat) = i) {nL : Nat} (hN : eN E = nL) (hn : i < nL) (hl : (i, Value.int x) :: L.filter (fun q => !(q.1 == i) && !(q.1 + 1 == i && q.2.category == 2)) = L') (k : GW E ws (pc + 1) L' st) : GW E ws pc L (.int x :: st) := fun H locs ls hP hD hS hv => lv_istore_n hE.1 hE.2.1 hd hi hv (hN ▸ hn) hl (fun ls hl => k H locs ls hP hD hS hl)
theorem r_istore (hE : gOK E cc own ret hgt) (L' : List (Nat × Value)) {i : Nat} {x : Int32} (hd : decode cc pc = .ok (.istore i, 2)) {nL : Nat} (hN : eN E = nL) (hn : i < nL) (hl : (i, Value.int x) :: L.filter (fun q => !(q.1 == i) && !(q.1 + 1 == i && q.2.category == 2)) = L') (k : GW E ws (pc + 2) L' st) : GW E ws pc L (.int x :: st) := fun H locs ls hP hD hS hv => lv_istore hE.1 hE.2.1 hd hv (hN ▸ hn) hl (fun ls hl => k H locs ls hP hD hS hl)
theorem r_lstore_n (hE : gOK E cc own ret hgt) (L' : List (Nat × Value)) {n : Fin 4} {i : Nat} {x : Int64} (hd : decode cc pc = .ok (.lstore_n n, 1)) (hi : (n : Nat) = i) {nL : Nat} (hN : eN E = nL) (hn : i + 1 < nL) (hl : (i, Value.long x) :: L.filter (fun q => !(q.1 == i) && (!(q.1 == i + 1) && !(q.1 + 1 == i && q.2.category == 2))) = L') (k : GW E ws (pc + 1) L' st) : GW E ws pc L (.long x :: st) := fun H locs ls hP hD hS hv => lv_lstore_n hE.1 hE.2.1 hd hi hv (hN ▸ hn) hl (fun ls hl => k H locs ls hP hD hS hl)
theorem r_lstore (hE : gOK E cc own ret hgt) (L' : List (Nat × Value)) {i : Nat} {x : Int64} (hd : decode cc pc = .ok (.lstore i, 2)) {nL : Nat} (hN : eN E = nL) (hn : i + 1 < nL) (hl : (i, Value.long x) :: L.filter (fun q => !(q.1 == i) && (!(q.1 == i + 1) && !(q.1 + 1 == i && q.2.category == 2))) = L') (k : GW E ws (pc + 2) L' st) : GW E ws pc L (.long x :: st) := fun H locs ls hP hD hS hv => lv_lstore hE.1 hE.2.1 hd hv (hN ▸ hn) hl (fun ls hl => k H locs ls hP hD hS hl)
theorem r_astore_n (hE : gOK E cc own ret hgt) (L' : List (Nat × Value)) {n : Fin 4} {i : Nat} {x : Nat} (hd : decode cc pc = .ok (.astore_n n, 1)) (hi : (n : Nat) = i) {nL : Nat} (hN : eN E = nL) (hn : i < nL) (hl : (i, Value.ref x) :: L.filter (fun q => !(q.1 == i) && !(q.1 + 1 == i && q.2.category == 2)) = L') (k : GW E ws (pc + 1) L' st) : GW E ws pc L (.ref x :: st) := fun H locs ls hP hD hS hv => lv_astore_n hE.1 hE.2.1 hd hi hv (hN ▸ hn) hl (fun ls hl => k H locs ls hP hD hS hl)
theorem r_astore (hE : gOK E cc own ret hgt) (L' : List (Nat × Value)) {i : Nat} {x : Nat} (hd : decode cc pc = .ok (.astore i, 2)) {nL : Nat} (hN : eN E = nL) (hn : i < nL) (hl : (i, Value.ref x) :: L.filter (fun q => !(q.1 == i) && !(q.1 + 1 == i && q.2.category == 2)) = L') (k : GW E ws (pc + 2) L' st) : GW E ws pc L (.ref x :: st) := fun H locs ls hP hD hS hv => lv_astore hE.1 hE.2.1 hd hv (hN ▸ hn) hl (fun ls hl => k H locs ls hP hD hS hl)
theorem r_iinc (hE : gOK E cc own ret hgt) (L' : List (Nat × Value)) (j : Nat) {i : Nat} {n : Int} {x v : Int32} (hd : decode cc pc = .ok (.iinc i n, 3)) (hj : L[j]? = some (i, .int x)) (hv : x + Int32.ofInt n = v) {nL : Nat} (hN : eN E = nL) (hn : i < nL) (hl : (i, Value.int v) :: L.filter (fun q => !(q.1 == i) && !(q.1 + 1 == i && q.2.category == 2)) = L') (k : GW E ws (pc + 3) L' st) : GW E ws pc L st := fun H locs ls hP hD hS hb => lv_iinc hE.1 hE.2.1 hd hb hj hv (hN ▸ hn) hl (fun ls hl => k H locs ls hP hD hS hl)
theorem r_icmp_eq (hE : gOK E cc own ret hgt) {x y : Int32} {off : Int} (tgt : Nat) {P Q : Prop} (hd : decode cc pc = .ok (.if_icmp .eq off, 3)) (ht : (pc : Int) + off = (tgt : Int)) (h : (x = y → P) ∧ (¬ (x = y) → Q)) (kt : P → GW E ws tgt L st) (kf : Q → GW E ws (pc + 3) L st) : GW E ws pc L (.int y :: .int x :: st) := fun H locs ls hP hD hS hl => lv_icmp_eq hE.1 hE.2.1 hd ht (fun c => kt (h.1 c) H locs ls hP hD hS hl) (fun c => kf (h.2 c) H locs ls hP hD hS hl)
theorem r_if_eq (hE : gOK E cc own ret hgt) {x : Int32} {off : Int} (tgt : Nat) {P Q : Prop} (hd : decode cc pc = .ok (.ifCond .eq off, 3)) (ht : (pc : Int) + off = (tgt : Int)) (h : (x = 0 → P) ∧ (¬ (x = 0) → Q)) (kt : P → GW E ws tgt L st) (kf : Q → GW E ws (pc + 3) L st) : GW E ws pc L (.int x :: st) := fun H locs ls hP hD hS hl => lv_if_eq hE.1 hE.2.1 hd ht (fun c => kt (h.1 c) H locs ls hP hD hS hl) (fun c => kf (h.2 c) H locs ls hP hD hS hl)
theorem r_icmp_ne (hE : gOK E cc own ret hgt) {x y : Int32} {off : Int} (tgt : Nat) {P Q : Prop} (hd : decode cc pc = .ok (.if_icmp .ne off, 3)) (ht : (pc : Int) + off = (tgt : Int)) (h : (¬ x = y → P) ∧ (x = y → Q)) (kt : P → GW E ws tgt L st) (kf : Q → GW E ws (pc + 3) L st) : GW E ws pc L (.int y :: .int x :: st) := fun H locs ls hP hD hS hl => lv_icmp_ne hE.1 hE.2.1 hd ht (fun c => kt (h.1 c) H locs ls hP hD hS hl) (fun c => kf (h.2 c) H locs ls hP hD hS hl)
theorem r_if_ne (hE : gOK E cc own ret hgt) {x : Int32} {off : Int} (tgt : Nat) {P Q : Prop} (hd : decode cc pc = .ok (.ifCond .ne off, 3)) (ht : (pc : Int) + off = (tgt : Int)) (h : (¬ x = 0 → P) ∧ (x = 0 → Q)) (kt : P → GW E ws tgt L st) (kf : Q → GW E ws (pc + 3) L st) : GW E ws pc L (.int x :: st) := fun H locs ls hP hD hS hl => lv_if_ne hE.1 hE.2.1 hd ht (fun c => kt (h.1 c) H locs ls hP hD hS hl) (fun c => kf (h.2 c) H locs ls hP hD hS hl)
theorem r_icmp_lt (hE : gOK E cc own ret hgt) {x y : Int32} {off : Int} (tgt : Nat) {P Q : Prop} (hd : decode cc pc = .ok (.if_icmp .lt off, 3)) (ht : (pc : Int) + off = (tgt : Int)) (h : (x < y → P) ∧ (¬ (x < y) → Q)) (kt : P → GW E ws tgt L st) (kf : Q → GW E ws (pc + 3) L st) : GW E ws pc L (.int y :: .int x :: st) := fun H locs ls hP hD hS hl => lv_icmp_lt hE.1 hE.2.1 hd ht (fun c => kt (h.1 c) H locs ls hP hD hS hl) (fun c => kf (h.2 c) H locs ls hP hD hS hl)
theorem r_if_lt (hE : gOK E cc own ret hgt) {x : Int32} {off : Int} (tgt : Nat) {P Q : Prop} (hd : decode cc pc = .ok (.ifCond .lt off, 3)) (ht : (pc : Int) + off = (tgt : Int)) (h : (x < 0 → P) ∧ (¬ (x < 0) → Q)) (kt : P → GW E ws tgt L st) (kf : Q → GW E ws (pc + 3) L st) : GW E ws pc L (.int x :: st) := fun H locs ls hP hD hS hl => lv_if_lt hE.1 hE.2.1 hd ht (fun c => kt (h.1 c) H locs ls hP hD hS hl) (fun c => kf (h.2 c) H locs ls hP hD hS hl)
theorem r_icmp_ge (hE : gOK E cc own ret hgt) {x y : Int32} {off : Int} (tgt : Nat) {P Q : Prop} (hd : decode cc pc = .ok (.if_icmp .ge off, 3)) (ht : (pc : Int) + off = (tgt : Int)) (h : (y ≤ x → P) ∧ (¬ (y ≤ x) → Q)) (kt : P → GW E ws tgt L st) (kf : Q → GW E ws (pc + 3) L st) : GW E ws pc L (.int y :: .int x :: st) := fun H locs ls hP hD hS hl => lv_icmp_ge hE.1 hE.2.1 hd ht (fun c => kt (h.1 c) H locs ls hP hD hS hl) (fun c => kf (h.2 c) H locs ls hP hD hS hl)
theorem r_if_ge (hE : gOK E cc own ret hgt) {x : Int32} {off : Int} (tgt : Nat) {P Q : Prop} (hd : decode cc pc = .ok (.ifCond .ge off, 3)) (ht : (pc : Int) + off = (tgt : Int)) (h : (0 ≤ x → P) ∧ (¬ (0 ≤ x) → Q)) (kt : P → GW E ws tgt L st) (kf : Q → GW E ws (pc + 3) L st) : GW E ws pc L (.int x :: st) := fun H locs ls hP hD hS hl => lv_if_ge hE.1 hE.2.1 hd ht (fun c => kt (h.1 c) H locs ls hP hD hS hl) (fun c => kf (h.2 c) H locs ls hP hD hS hl)
theorem r_icmp_gt (hE : gOK E cc own ret hgt) {x y : Int32} {off : Int} (tgt : Nat) {P Q : Prop} (hd : decode cc pc = .ok (.if_icmp .gt off, 3)) (ht : (pc : Int) + off = (tgt : Int)) (h : (y < x → P) ∧ (¬ (y < x) → Q)) (kt : P → GW E ws tgt L st) (kf : Q → GW E ws (pc + 3) L st) : GW E ws pc L (.int y :: .int x :: st) := fun H locs ls hP hD hS hl => lv_icmp_gt hE.1 hE.2.1 hd ht (fun c => kt (h.1 c) H locs ls hP hD hS hl) (fun c => kf (h.2 c) H locs ls hP hD hS hl)
theorem r_if_gt (hE : gOK E cc own ret hgt) {x : Int32} {off : Int} (tgt : Nat) {P Q : Prop} (hd : decode cc pc = .ok (.ifCond .gt off, 3)) (ht : (pc : Int) + off = (tgt : Int)) (h : (0 < x → P) ∧ (¬ (0 < x) → Q)) (kt : P → GW E ws tgt L st) (kf : Q → GW E ws (pc + 3) L st) : GW E ws pc L (.int x :: st) := fun H locs ls hP hD hS hl => lv_if_gt hE.1 hE.2.1 hd ht (fun c => kt (h.1 c) H locs ls hP hD hS hl) (fun c => kf (h.2 c) H locs ls hP hD hS hl)
theorem r_icmp_le (hE : gOK E cc own ret hgt) {x y : Int32} {off : Int} (tgt : Nat) {P Q : Prop} (hd : decode cc pc = .ok (.if_icmp .le off, 3)) (ht : (pc : Int) + off = (tgt : Int)) (h : (x ≤ y → P) ∧ (¬ (x ≤ y) → Q)) (kt : P → GW E ws tgt L st) (kf : Q → GW E ws (pc + 3) L st) : GW E ws pc L (.int y :: .int x :: st) := fun H locs ls hP hD hS hl => lv_icmp_le hE.1 hE.2.1 hd ht (fun c => kt (h.1 c) H locs ls hP hD hS hl) (fun c => kf (h.2 c) H locs ls hP hD hS hl)
theorem r_if_le (hE : gOK E cc own ret hgt) {x : Int32} {off : Int} (tgt : Nat) {P Q : Prop} (hd : decode cc pc = .ok (.ifCond .le off, 3)) (ht : (pc : Int) + off = (tgt : Int)) (h : (x ≤ 0 → P) ∧ (¬ (x ≤ 0) → Q)) (kt : P → GW E ws tgt L st) (kf : Q → GW E ws (pc + 3) L st) : GW E ws pc L (.int x :: st) := fun H locs ls hP hD hS hl => lv_if_le hE.1 hE.2.1 hd ht (fun c => kt (h.1 c) H locs ls hP hD hS hl) (fun c => kf (h.2 c) H locs ls hP hD hS hl)
theorem r_goto (hE : gOK E cc own ret hgt) {off : Int} (tgt : Nat) (hd : decode cc pc = .ok (.goto off, 3)) (ht : (pc : Int) + off = (tgt : Int)) (k : GW E ws tgt L st) : GW E ws pc L st := fun H locs ls hP hD hS hl => lv_goto hE.1 hE.2.1 hd ht (k H locs ls hP hD hS hl)
theorem r_topi {x : Int32} {P : Int32 → Prop} (h : ∀ y : Int32, y = x → P y) (k : ∀ y : Int32, y = x → P y → GW E ws pc L (.int y :: st)) : GW E ws pc L (.int x :: st) := k x rfl (h x rfl)
theorem r_topl {x : Int64} {P : Int64 → Prop} (h : ∀ y : Int64, y = x → P y) (k : ∀ y : Int64, y = x → P y → GW E ws pc L (.long y :: st)) : GW E ws pc L (.long x :: st) := k x rfl (h x rfl)
theorem r_case {x : Int32} (c : Int32) {P Q : Prop} (h : (x = c → P) ∧ (¬ x = c → Q)) (kt : x = c → P → GW E ws pc L st) (kf : ¬ x = c → Q → GW E ws pc L st) : GW E ws pc L st := (Classical.em (x = c)).elim (fun q => kt q (h.1 q)) (fun q => kf q (h.2 q))
theorem r_tableAt (hE : gOK E cc own ret hgt) {dflt lo hi : Int} {offs : Array Int} {len : Nat} {x : Int32} (c : Int32) {off : Int} (tgt : Nat) (hd : decode cc pc = .ok (.tableswitch dflt lo hi offs, len)) (hx : x = c) (h1 : ¬ c.toInt < lo) (h2 : ¬ hi < c.toInt) (ho : offs[(c.toInt - lo).toNat]? = some off) (ht : (pc : Int) + off = (tgt : Int)) (k : GW E ws tgt L st) : GW E ws pc L (.int x :: st) := by
  subst hx
  exact fun H locs ls hP hD hS hl => lv_tableIn hE.1 hE.2.1 hd h1 h2 ho ht (k H locs ls hP hD hS hl)
theorem r_pick (ks : List Nat) {L' : List (Nat × Value)} (hk : lv_pick L ks = L') (k : GW E ws pc L' st) : GW E ws pc L st := fun H locs ls hP hD hS hl => k H locs ls hP hD hS (lv_sub hl ks hk)
theorem r_iret (hE : gOK E cc own (some .int) hgt) (hF : gFin E) {v : Int32} (hd : decode cc pc = .ok (.ireturn, 1)) (h : eQ E ws (some (.int v))) : GW E ws pc L [.int v] := fun H locs ls hP hD hS hl =>
  show W _ _ _ _ _ _ _ _ _ _ _ _ 0 0 (eP E) _ from hF ▸ W.iret hE.1 hE.2.1 hE.2.2.2.2.2.2.1 (fun t ht hW => ⟨ws, some (.int v), rfl, h, ⟨by rw [ht]; exact hP, va_K.moved hW.alike hE.2.2.2.2.2.2.2.2.1, hD, hE.2.2.2.2.2.2.2.2.2.2.2 _ _ hW (hS.F ht) hE.2.2.2.2.2.2.2.2.2.1⟩, hS.F ht⟩) hS.2.2 hd hE.2.2.2.2.2.1
theorem r_zret (hE : gOK E cc own (some .boolean) hgt) (hF : gFin E) {v : Int32} (hd : decode cc pc = .ok (.ireturn, 1)) (hn : narrow .boolean (.int v) = .int v) (h : eQ E ws (some (.int v))) : GW E ws pc L [.int v] := fun H locs ls hP hD hS hl =>
  show W _ _ _ _ _ _ _ _ _ _ _ _ 0 0 (eP E) _ from hF ▸ W.zret hE.1 hE.2.1 hE.2.2.2.2.2.2.1 hn (fun t ht hW => ⟨ws, some (.int v), rfl, h, ⟨by rw [ht]; exact hP, va_K.moved hW.alike hE.2.2.2.2.2.2.2.2.1, hD, hE.2.2.2.2.2.2.2.2.2.2.2 _ _ hW (hS.F ht) hE.2.2.2.2.2.2.2.2.2.1⟩, hS.F ht⟩) hS.2.2 hd hE.2.2.2.2.2.1
theorem r_lret (hE : gOK E cc own (some .long) hgt) (hF : gFin E) {v : Int64} (hd : decode cc pc = .ok (.lreturn, 1)) (h : eQ E ws (some (.long v))) : GW E ws pc L [.long v] := fun H locs ls hP hD hS hl =>
  show W _ _ _ _ _ _ _ _ _ _ _ _ 0 0 (eP E) _ from hF ▸ W.lret hE.1 hE.2.1 hE.2.2.2.2.2.2.1 (fun t ht hW => ⟨ws, some (.long v), rfl, h, ⟨by rw [ht]; exact hP, va_K.moved hW.alike hE.2.2.2.2.2.2.2.2.1, hD, hE.2.2.2.2.2.2.2.2.2.2.2 _ _ hW (hS.F ht) hE.2.2.2.2.2.2.2.2.2.1⟩, hS.F ht⟩) hS.2.2 hd hE.2.2.2.2.2.1
theorem r_vret (hE : gOK E cc own none hgt) (hF : gFin E) (hd : decode cc pc = .ok (.return_, 1)) (h : eQ E ws none) : GW E ws pc L [] := fun H locs ls hP hD hS hl =>
  show W _ _ _ _ _ _ _ _ _ _ _ _ 0 0 (eP E) _ from hF ▸ W.vret hE.1 hE.2.1 hE.2.2.2.2.2.2.1 (fun t ht hW => ⟨ws, none, rfl, h, ⟨by rw [ht]; exact hP, va_K.moved hW.alike hE.2.2.2.2.2.2.2.2.1, hD, hE.2.2.2.2.2.2.2.2.2.2.2 _ _ hW (hS.F ht) hE.2.2.2.2.2.2.2.2.2.1⟩, hS.F ht⟩) hS.2.2 hd hE.2.2.2.2.2.1
/-- what the tables say of a callee, seen from a class: link, code, start -/
def gCal (own : String) (idx : Nat) (y : MethodName) (code : ByteArray) (maxL : Nat) (ret : Option FieldType) (n : Nat) : Prop :=
  Cond.methodLink own idx y ∈ gTb ∧ Cond.code y code maxL ret ∈ gTb ∧ Cond.initialized y.cls ∈ gTb ∧ (y.cls ≠ "java/lang/invoke/MethodHandle" ∧ y.cls ≠ "java/lang/invoke/VarHandle") ∧ (parseMethodDescriptor y.desc).map (fun d => d.parameters.length) = some n ∧ maxL ≤ 25
def gCalV (own : String) (idx : Nat) (y : MethodName) (code : ByteArray) (maxL : Nat) (ret : Option FieldType) (n : Nat) : Prop := gCal own idx y code maxL ret n ∧ Cond.instanceMethod y ∈ gTb ∧ Cond.selects y.cls y y ∈ gTb
def gCalS (own : String) (idx : Nat) (y : MethodName) (code : ByteArray) (maxL : Nat) (ret : Option FieldType) (n : Nat) : Prop := gCal own idx y code maxL ret n ∧ Cond.static y ∈ gTb
theorem gWs_pay {E : gEnv} {cc : ByteArray} {own : String} {ret ret' : Option FieldType} {hgt : Nat} {y : MethodName} {code : ByteArray} {maxL : Nat} (hE : gOK E cc own ret hgt) (hc : Cond.code y code maxL ret' ∈ gTb) : ∀ w ∈ gWs y code maxL ret', ∀ (a' : Array Value) (U : State), (es E).WarmedH U.vm → w.before a' U = true := by
  intro w hw a' U hW
  have hm : w ∈ gTb := by
    rcases List.mem_cons.mp hw with rfl | h
    · exact hc
    · exact h
  exact word_at hW (gTb_good w hm) (hE.2.2.2.2.1 w hm)
/-- behind a call: what the heap keeps -/
theorem gS_after {A : Nat → Prop} {H0 H H1 : Heap} {locs L1 : List Loc} (hS : va_S A H0 H locs) (hz : H.size ≤ H1.size) (hk : ∀ q : Nat, q < H.size → ¬ A q → H1[q]? = H[q]?) (hL : ∀ q ∈ L1, A q.base) : va_S A H0 H1 (locs ++ L1) :=
  ⟨Nat.le_trans hS.1 hz, fun q h1 h2 => by rw [hk q (Nat.lt_of_lt_of_le h1 hS.1) h2]; exact hS.2.1 q h1 h2, fun q hq => by
    rcases List.mem_append.mp hq with h | h
    · exact hS.2.2 q h
    · exact hL q h⟩
theorem r_callV (hE : gOK E cc own ret hgt) {y : MethodName} {code : ByteArray} {maxL h n idx : Nat} {ret' : Option FieldType} {b : Nat} (As rest : List Value) {Qw : va_W → Option Value → Prop}
    (hc : gCalV own idx y code maxL ret' n) (hM : gMet (el E) (eD E) (eC E) (eT E) (eA E) (eZ E) y code maxL ret' h (.ref b :: As) ws Qw)
    (hrec : ∃ (q0 ci : Nat) (fs : List Value) (q : vw_C), ws[q0]? = some (b, .inr (ci, fs)) ∧ (eC E)[ci]? = some q ∧ q.1 = y.cls)
    (hh : h + 1 ≤ hgt) (hn : As.length = n) (hst : st = As.reverse ++ .ref b :: rest) (hW : (rest.map fun v => v.category).sum ≤ 24) (hd : decode cc pc = .ok (.invokevirtual idx, 3))
    (k : ∀ (ws' : va_W) (rv : Option Value), Qw ws' rv → GW E ws' (pc + 3) L (rv.toList ++ rest)) : GW E ws pc L st := by
  intro H locs ls hP hD hS hl T hT X
  obtain ⟨hx, hb, hml, hown, hts, hlk, hrt, hR, hK, hZs, hZ⟩ := id hE
  obtain ⟨⟨hlink, hcode, hini, hy, hsig, hmx⟩, hinst, hsel⟩ := hc
  obtain ⟨q0, ci, fs, q, he, hcl, hqn⟩ := hrec
  obtain ⟨cell, hc1, hc2, hc3⟩ := va_recv hK hP hcl he
  obtain ⟨v, vm₁, g', mk, t, T', L1, X', hL1, e1, e2, hq, hgo⟩ := callVK (bytes := code) (maxL := maxL) (ret := ret') (W := 24) (mc := 0) (ms := 0) (argsL := As) (rest := rest) (g := F0 (em E) pc ls st) X hx hM (gG_blind hZ) rfl rfl (by rw [hR.1]; exact hh) (by rw [hR.2]; show 24 + (maxL + 11) + 64 * h ≤ 64 * hgt; omega) (gWs_pay hE hcode) List.mem_cons_self hown (hts _ hlink) (hts _ hinst) (hts _ hsel) (hts _ hcode) (hts _ hini) hy (by rw [hT]; exact hc1) hc2 (by rw [← hqn]; exact hc3) rfl (by rw [hml]; exact hl.1) (fun sig hs => by rw [hs] at hsig; exact hn.trans (Option.some.inj hsig).symm) hst (by show 2 * (F0 (em E) pc ls st).monitorRoom + _ ≤ 24; simpa [JFrame.monitorRoom] using hW) (by rw [hb]; exact hd) (Nat.zero_le _) (Nat.zero_le _)
    (fun vm₁ hW₁ => ⟨rfl, by show va_P _ _ _ (T.setVm vm₁).heap; rw [show (T.setVm vm₁).heap = H from hT]; exact hP, va_K.moved hW₁.alike hK, hD, hZ.2 _ _ hW₁ (hS.F (show (T.setVm vm₁).heap = H from hT)) hZs⟩)
  obtain ⟨ws', rv, hv, hQ, ⟨hP', hK', hD', -⟩, hF⟩ := hq
  cases hv
  have hz : H.size ≤ T'.heap.size := by rw [e1, ← hT]; exact hF.1
  have hk : ∀ q : Nat, q < H.size → ¬ eA E q → T'.heap[q]? = H[q]? := fun q h1 h2 => by rw [e1, ← hT]; exact hF.2 q (by rw [← hT] at h1; exact h1) h2
  obtain ⟨t2, s2, q2⟩ := k ws' v hQ T'.heap (locs ++ L1) ls (by rw [e1]; exact hP') hD' (gS_after hS hz hk hL1) hl T' rfl X'
  exact ⟨t2, hgo t2 s2, q2⟩
theorem r_callS (hE : gOK E cc own ret hgt) {y : MethodName} {code : ByteArray} {maxL h n idx : Nat} {ret' : Option FieldType} (As rest : List Value) {Qw : va_W → Option Value → Prop}
    (hc : gCalS own idx y code maxL ret' n) (hM : gMet (el E) (eD E) (eC E) (eT E) (eA E) (eZ E) y code maxL ret' h As ws Qw)
    (hh : h + 1 ≤ hgt) (hn : As.length = n) (hst : st = As.reverse ++ rest) (hW : (rest.map fun v => v.category).sum ≤ 24) (hd : decode cc pc = .ok (.invokestatic idx, 3))
    (k : ∀ (ws' : va_W) (rv : Option Value), Qw ws' rv → GW E ws' (pc + 3) L (rv.toList ++ rest)) : GW E ws pc L st := by
  intro H locs ls hP hD hS hl T hT X
  obtain ⟨hx, hb, hml, hown, hts, hlk, hrt, hR, hK, hZs, hZ⟩ := id hE
  obtain ⟨⟨hlink, hcode, hini, hy, hsig, hmx⟩, hstat⟩ := hc
  have hBk : Back (el E) (eR E) (ep E) (ee E) (eb E) (es E) (eg E) y 3 24 (PreOf (eR E) 0 0 (va_Pc As (gG (eD E) (eC E) (eT E) (eA E) (eZ E) ws))) (PostOf (gQ (eD E) (eC E) (eT E) (eA E) (eZ E) Qw) 0 0 (eA E)) :=
    back_of (bytes := code) (maxL := maxL) (ret := ret') hM (gG_blind hZ) rfl rfl (by rw [hR.1]; exact hh) (by rw [hR.2]; show 24 + (maxL + 11) + 64 * h ≤ 64 * hgt; omega) (gWs_pay hE hcode) List.mem_cons_self (fun a' U hW => word_at hW (gTb_good _ hini) (hts _ hini))
  obtain ⟨v, vm₁, ⟨U', l2, c2, s2⟩, hW₁, X', ⟨g', mk, t, L1, e1, e2, hq, h1, hL1, h2, h3⟩, hgo⟩ := callS X hx (bytes := code) (maxL := maxL) (ret := ret') hown (hts _ hlink) (hts _ hstat) (hts _ hini) (hts _ hcode) hy hBk (g := F0 (em E) pc ls st) rfl (by rw [hml]; exact hl.1) (argsL := As) (rest := rest) (fun sig hs => by rw [hs] at hsig; exact hn.trans (Option.some.inj hsig).symm) hst (by show 2 * (F0 (em E) pc ls st).monitorRoom + _ ≤ 24; simpa [JFrame.monitorRoom] using hW) (by rw [hb]; exact hd)
    (fun vm₁ hW₁ => ⟨Nat.zero_le _, Nat.zero_le _, rfl, by show va_P _ _ _ (T.setVm vm₁).heap; rw [show (T.setVm vm₁).heap = H from hT]; exact hP, va_K.moved hW₁.alike hK, hD, hZ.2 _ _ hW₁ (hS.F (show (T.setVm vm₁).heap = H from hT)) hZs⟩)
  dsimp only [Pt.U, Pt.locs, Pt.cells, Pt.slots] at X' e1 e2 h1 h2 h3 hgo
  subst h1; subst h2; subst h3
  obtain ⟨ws', rv, hv, hQ, ⟨hP', hK', hD', -⟩, hF⟩ := hq
  cases hv
  have hz : H.size ≤ U'.heap.size := by rw [e1, ← hT]; exact hF.1
  have hk : ∀ q : Nat, q < H.size → ¬ eA E q → U'.heap[q]? = H[q]? := fun q h1 h2 => by rw [e1, ← hT]; exact hF.2 q (by rw [← hT] at h1; exact h1) h2
  obtain ⟨t2, s3, q2⟩ := k ws' v hQ U'.heap (locs ++ L1) ls (by rw [e1]; exact hP') hD' (gS_after hS hz hk hL1) hl U' rfl X'
  exact ⟨t2, hgo t2 s3, q2⟩
def gCalN (own : String) (idx : Nat) (y : MethodName) (code : ByteArray) (maxL : Nat) (ret : Option FieldType) (n : Nat) (_ : String) : Prop :=
  (Cond.code y code maxL ret ∈ gTb ∧ Cond.initialized y.cls ∈ gTb ∧ (y.cls ≠ "java/lang/invoke/MethodHandle" ∧ y.cls ≠ "java/lang/invoke/VarHandle") ∧ (parseMethodDescriptor y.desc).map (fun d => d.parameters.length) = some n ∧ maxL ≤ 25) ∧ Cond.static y ∈ gTb
theorem r_callSN (hE : gOK E cc own ret hgt) {y : MethodName} {code : ByteArray} {maxL h n idx : Nat} {ret' : Option FieldType} {host : String} (As rest : List Value) {Qw : va_W → Option Value → Prop}
    (hc : gCalN own idx y code maxL ret' n host) (hM : gMet (el E) (eD E) (eC E) (eT E) (eA E) (eZ E) y code maxL ret' h As ws Qw) (hw : va_Nw (Cond.methodLinkNest own idx y host) (es E))
    (hh : h + 1 ≤ hgt) (hn : As.length = n) (hst : st = As.reverse ++ rest) (hW : (rest.map fun v => v.category).sum ≤ 24) (hd : decode cc pc = .ok (.invokestatic idx, 3))
    (k : ∀ (ws' : va_W) (rv : Option Value), Qw ws' rv → GW E ws' (pc + 3) L (rv.toList ++ rest)) : GW E ws pc L st := by
  intro H locs ls hP hD hS hl T hT X
  obtain ⟨hx, hb, hml, hown, hts, hlk, hrt, hR, hK, hZs, hZ⟩ := id hE
  obtain ⟨⟨hcode, hini, hy, hsig, hmx⟩, hstat⟩ := hc
  have hBk : Back (el E) (eR E) (ep E) (ee E) (eb E) (es E) (eg E) y 3 24 (PreOf (eR E) 0 0 (va_Pc As (gG (eD E) (eC E) (eT E) (eA E) (eZ E) ws))) (PostOf (gQ (eD E) (eC E) (eT E) (eA E) (eZ E) Qw) 0 0 (eA E)) :=
    back_of (bytes := code) (maxL := maxL) (ret := ret') hM (gG_blind hZ) rfl rfl (by rw [hR.1]; exact hh) (by rw [hR.2]; show 24 + (maxL + 11) + 64 * h ≤ 64 * hgt; omega) (gWs_pay hE hcode) List.mem_cons_self (fun a' U hW => word_at hW (gTb_good _ hini) (hts _ hini))
  obtain ⟨v, vm₁, ⟨U', l2, c2, s2⟩, hW₁, X', ⟨g', mk, t, L1, e1, e2, hq, h1, hL1, h2, h3⟩, hgo⟩ := va_callSN X hx (bytes := code) (maxL := maxL) (ret := ret') hown (hw.use rfl) (hts _ hstat) (hts _ hini) (hts _ hcode) hy hBk (g := F0 (em E) pc ls st) rfl (by rw [hml]; exact hl.1) (argsL := As) (rest := rest) (fun sig hs => by rw [hs] at hsig; exact hn.trans (Option.some.inj hsig).symm) hst (by show 2 * (F0 (em E) pc ls st).monitorRoom + _ ≤ 24; simpa [JFrame.monitorRoom] using hW) (by rw [hb]; exact hd)
    (fun vm₁ hW₁ => ⟨Nat.zero_le _, Nat.zero_le _, rfl, by show va_P _ _ _ (T.setVm vm₁).heap; rw [show (T.setVm vm₁).heap = H from hT]; exact hP, va_K.moved hW₁.alike hK, hD, hZ.2 _ _ hW₁ (hS.F (show (T.setVm vm₁).heap = H from hT)) hZs⟩)
  dsimp only [Pt.U, Pt.locs, Pt.cells, Pt.slots] at X' e1 e2 h1 h2 h3 hgo
  subst h1; subst h2; subst h3
  obtain ⟨ws', rv, hv, hQ, ⟨hP', hK', hD', -⟩, hF⟩ := hq
  cases hv
  have hz : H.size ≤ U'.heap.size := by rw [e1, ← hT]; exact hF.1
  have hk : ∀ q : Nat, q < H.size → ¬ eA E q → U'.heap[q]? = H[q]? := fun q h1 h2 => by rw [e1, ← hT]; exact hF.2 q (by rw [← hT] at h1; exact h1) h2
  obtain ⟨t2, s3, q2⟩ := k ws' v hQ U'.heap (locs ++ L1) ls (by rw [e1]; exact hP') hD' (gS_after hS hz hk hL1) hl U' rfl X'
  exact ⟨t2, hgo t2 s3, q2⟩
theorem r_tableOut (hE : gOK E cc own ret hgt) {dflt lo hi : Int} {offs : Array Int} {len : Nat} {x : Int32} (tgt : Nat) (hd : decode cc pc = .ok (.tableswitch dflt lo hi offs, len)) (h : x.toInt < lo ∨ hi < x.toInt) (ht : (pc : Int) + dflt = (tgt : Int)) (k : GW E ws tgt L st) : GW E ws pc L (.int x :: st) := fun H locs ls hP hD hS hl => lv_tableOut hE.1 hE.2.1 hd h ht (k H locs ls hP hD hS hl)
theorem r_tableIn (hE : gOK E cc own ret hgt) {dflt lo hi : Int} {offs : Array Int} {len : Nat} {x : Int32} {off : Int} (tgt : Nat) (hd : decode cc pc = .ok (.tableswitch dflt lo hi offs, len)) (h1 : ¬ x.toInt < lo) (h2 : ¬ hi < x.toInt) (ho : offs[(x.toInt - lo).toNat]? = some off) (ht : (pc : Int) + off = (tgt : Int)) (k : GW E ws tgt L st) : GW E ws pc L (.int x :: st) := fun H locs ls hP hD hS hl => lv_tableIn hE.1 hE.2.1 hd h1 h2 ho ht (k H locs ls hP hD hS hl)
end ROWS
