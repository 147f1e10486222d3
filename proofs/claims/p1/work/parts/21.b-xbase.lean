abbrev ioobe : String := "java/lang/IndexOutOfBoundsException"
abbrev xNames : List String := ["java/lang/RuntimeException", "java/lang/Exception"]
def gRmX (h : Nat) : Room := { frames := h, cells := 1, slots := 6, locals := 64 * h }
/-- thrown: the cells are as QX says, nothing else has changed -/
def gXC (D : va_G) (cl : List vw_C) (tys : List (ClassId × FieldType)) (A : Nat → Prop) (QX : va_W → Prop) : String → State → State → Prop := fun Ec st t => Ec = ioobe ∧ ∃ ws' : va_W, QX ws' ∧ va_P D cl ws' t.heap ∧ va_K D cl tys t ∧ va_D A ws' ∧ va_F A st t
/-- a contract of a method that returns, or throws an IndexOutOfBoundsException -/
def gMetX (l : Launch) (D : va_G) (cl : List vw_C) (tys : List (ClassId × FieldType)) (A : Nat → Prop) (Z : State → Prop) (y : MethodName) (code : ByteArray) (maxL : Nat) (ret : Option FieldType) (h : Nat) (av : List Value) (ws : va_W) (Qw : va_W → Option Value → Prop) (QX : va_W → Prop) : Prop :=
  vx_Met l y (gWs y code maxL ret) (gRmX h) (va_Pc av (gG D cl tys A Z ws)) (gQ D cl tys A Z Qw) (gXC D cl tys A QX) 1 6 A
def gFinX (E : gEnv) (QX : va_W → Prop) : Prop := (eP E = vx_MQ (eb E) (gQ (eD E) (eC E) (eT E) (eA E) (eZ E) (eQ E)) (gXC (eD E) (eC E) (eT E) (eA E) QX) (eg E) (es E) 1 6 (eA E)) ∧ (∀ x ∈ (ec E).exceptionTable.toList, False) ∧ (eR E).cells = 1 ∧ (eR E).slots = 6
theorem g_enterX {l : Launch} {D : va_G} {cl : List vw_C} {tys : List (ClassId × FieldType)} {A : Nat → Prop} {Z : State → Prop} {y : MethodName} {code : ByteArray} {maxL : Nat} {ret : Option FieldType} {h : Nat} {av : List Value} {ws : va_W} {Qw : va_W → Option Value → Prop} {QX : va_W → Prop} (hZ : gZok A Z)
    (hy : plainName y.cls = true) (L0 : List (Nat × Value)) (hL : lv_args 0 av = L0) (hs : (lg_sl av).length ≤ maxL)
    (k : ∀ E : gEnv, gOK E code y.cls ret h → el E = l → eD E = D → eC E = cl → eT E = tys → eA E = A → eZ E = Z → eN E = maxL → eQ E = Qw → gFinX E QX → GW E ws 0 L0 []) : gMetX l D cl tys A Z y code maxL ret h av ws Qw QX := by
  refine vx_ofW (cc := code) (maxL := maxL) (ret := ret) hy rfl ?_
  intro p e s m args below meth c s₁ B hml hnt hv
  obtain ⟨rfl, hP, hK, hD, hZs⟩ := hv
  have hts := atoms_spec (ws := gWs y code maxL ret) B.pre
  have hl := lv_entry av (n := maxL) hs
  rw [lg_entry_eq]
  generalize (lg_sl av ++ List.replicate (maxL - (lg_sl av).length) Slot.unset).toArray = ls at hl ⊢
  rw [hL] at hl
  exact k (p, l, e, gRmX h, s, m, av.toArray, below, meth, c, Qw, D, cl, tys, A, Z, maxL, vx_MQ below (gQ D cl tys A Z Qw) (gXC D cl tys A QX) av.toArray s 1 6 A) ⟨B.exec, B.bytes, hml, findClass_of_methodNamed B.named, fun w hw => hts w (List.mem_cons_of_mem _ hw), B.notSynchronized, B.returns, ⟨rfl, rfl⟩, hK, hZs, hZ⟩ rfl rfl rfl rfl rfl rfl rfl rfl ⟨rfl, hnt, rfl, rfl⟩ s.heap [] ls hP hD va_S.rf hl
section XROWS
variable {E : gEnv} {cc : ByteArray} {own : String} {ret : Option FieldType} {hgt : Nat} {ws : va_W} {pc : Nat} {L : List (Nat × Value)} {st : List Value} {QX : va_W → Prop}
theorem x_iret (hE : gOK E cc own (some .int) hgt) (hF : gFinX E QX) {v : Int32} (hd : decode cc pc = .ok (.ireturn, 1)) (h : eQ E ws (some (.int v))) : GW E ws pc L [.int v] := fun H locs ls hP hD hS hl =>
  show W _ _ _ _ _ _ _ _ _ _ _ _ 0 0 (eP E) _ from hF.1 ▸ vx_ret (W.widen (k := 1) (n := 6) (Nat.zero_le _) (Nat.zero_le _) (W.iret hE.1 hE.2.1 hE.2.2.2.2.2.2.1 (fun t ht hW => ⟨ws, some (.int v), rfl, h, ⟨by rw [ht]; exact hP, va_K.moved hW.alike hE.2.2.2.2.2.2.2.2.1, hD, hE.2.2.2.2.2.2.2.2.2.2.2 _ _ hW (hS.F ht) hE.2.2.2.2.2.2.2.2.2.1⟩, hS.F ht⟩) hS.2.2 hd hE.2.2.2.2.2.1))
theorem x_zret (hE : gOK E cc own (some .boolean) hgt) (hF : gFinX E QX) {v : Int32} (hd : decode cc pc = .ok (.ireturn, 1)) (hn : narrow .boolean (.int v) = .int v) (h : eQ E ws (some (.int v))) : GW E ws pc L [.int v] := fun H locs ls hP hD hS hl =>
  show W _ _ _ _ _ _ _ _ _ _ _ _ 0 0 (eP E) _ from hF.1 ▸ vx_ret (W.widen (k := 1) (n := 6) (Nat.zero_le _) (Nat.zero_le _) (W.zret hE.1 hE.2.1 hE.2.2.2.2.2.2.1 hn (fun t ht hW => ⟨ws, some (.int v), rfl, h, ⟨by rw [ht]; exact hP, va_K.moved hW.alike hE.2.2.2.2.2.2.2.2.1, hD, hE.2.2.2.2.2.2.2.2.2.2.2 _ _ hW (hS.F ht) hE.2.2.2.2.2.2.2.2.2.1⟩, hS.F ht⟩) hS.2.2 hd hE.2.2.2.2.2.1))
theorem x_lret (hE : gOK E cc own (some .long) hgt) (hF : gFinX E QX) {v : Int64} (hd : decode cc pc = .ok (.lreturn, 1)) (h : eQ E ws (some (.long v))) : GW E ws pc L [.long v] := fun H locs ls hP hD hS hl =>
  show W _ _ _ _ _ _ _ _ _ _ _ _ 0 0 (eP E) _ from hF.1 ▸ vx_ret (W.widen (k := 1) (n := 6) (Nat.zero_le _) (Nat.zero_le _) (W.lret hE.1 hE.2.1 hE.2.2.2.2.2.2.1 (fun t ht hW => ⟨ws, some (.long v), rfl, h, ⟨by rw [ht]; exact hP, va_K.moved hW.alike hE.2.2.2.2.2.2.2.2.1, hD, hE.2.2.2.2.2.2.2.2.2.2.2 _ _ hW (hS.F ht) hE.2.2.2.2.2.2.2.2.2.1⟩, hS.F ht⟩) hS.2.2 hd hE.2.2.2.2.2.1))
/-- throw new IndexOutOfBoundsException("text") -/
theorem x_throw (hE : gOK E cc own ret hgt) (hF : gFinX E QX) (hl0 : (el E).stackTraces = false) {tx : String} {ik is ic sa : Nat} (hk : Cond.classLink own ik ioobe ∈ gTb) (hini : Cond.initialized ioobe ∈ gTb) (hstr : vk_R own is tx sa (es E)) (hat : ∀ w ∈ vx_atS own ic ioobe xNames, w.before (eg E) (es E) = true)
    (hgood : ∀ w ∈ Cond.classLink own ik ioobe :: Cond.initialized ioobe :: vx_atS own ic ioobe xNames, vx_ot w = true)
    (hU : vx_Zq Bundle.tN "UNASSIGNED_STACK" Bundle.steD (eA E) (es E) (es E).heap) (hN : vx_Zq Bundle.tN "SUPPRESSED_SENTINEL" Bundle.listD (eA E) (es E) (es E).heap) (hh : 6 ≤ hgt)
    (d0 : decode cc pc = .ok (.new ik, 3)) (d3 : decode cc (pc + 3) = .ok (.dup, 1)) (d4 : decode cc (pc + 4) = .ok (.ldc is, 2)) (d6 : decode cc (pc + 6) = .ok (.invokespecial ic, 3)) (d9 : decode cc (pc + 9) = .ok (.athrow, 1)) (h : QX ws) : GW E ws pc L [] := fun H locs ls hP hD hS hl =>
  show W _ _ _ _ _ _ _ _ _ _ _ _ 0 0 (eP E) _ from hF.1 ▸ vx_throwS (names := xNames) (A := eA E) hE.1 hE.2.1 hl0 hE.2.2.2.1 (by decide +kernel) (by decide +kernel) (hE.2.2.2.2.1 _ hk) (hE.2.2.2.2.1 _ hini) hstr hat hgood hU hN hS (hl.1.trans hE.2.2.1.symm) d0 d3 d4 d6 d9 (fun x hx => (hF.2.1 x hx).elim) (by rw [hE.2.2.2.2.2.2.2.1.1]; show 2 + 3 < hgt; omega) (by rw [hE.2.2.2.2.2.2.2.1.2]; show 0 + (13 * (2 + 1) + 43) ≤ 64 * hgt; omega) (by rw [hF.2.2.1]; omega) (by rw [hF.2.2.2]; omega) hE.2.2.2.2.2.1
    (fun t hvm hz hq => ⟨rfl, ws, h, hP.kept (fun k q hk => hq q.1 (hP k q hk).lt), va_K.moved hvm hE.2.2.2.2.2.2.2.2.1, hD, ⟨Nat.le_trans hS.1 hz, fun q h1 h2 => by rw [hq q (Nat.lt_of_lt_of_le h1 hS.1)]; exact hS.2.1 q h1 h2⟩⟩) hS.2.2 (Nat.le_refl _) (Nat.le_refl _)
end XROWS
