/-! readParam -/
def wm_readParam (post : MS → Prop) (σ : MS) : Prop := ∀ x1 : Int32, x1 = (13 : Int32) + (m_scope σ) → wm_isName (fun (s2 : MS) (r3 : Int32) => ((¬ (r3 = (0 : Int32))) → (vp_in x1 26 ∧ (((¬ ((m_paramMany s2 x1.toNatClampNeg) = (4 : Int32))) → (wm_nameHere (fun (s4 : MS) (r5 : Int32) => ((r5 < (0 : Int32)) → (wm_newName (fun (s6 : MS) => vp_in x1 26 ∧ (vp_in x1 26 ∧ (∀ s7 : MS, s7 = m_paramMany_s s6 x1.toNatClampNeg ((m_paramMany s6 x1.toNatClampNeg) + (1 : Int32)) → wm_next (fun (s8 : MS) => post s8) s7))) s4 (m_tokenAt s4) (m_tokenSize s4))) ∧ ((¬ (r5 < (0 : Int32))) → (wm_wrong (fun (s9 : MS) => post s9) s4 (4 : Int32) (m_tokenAt s4)))) s2)) ∧ (((m_paramMany s2 x1.toNatClampNeg) = (4 : Int32)) → (wm_wrong (fun (s10 : MS) => post s10) s2 (3 : Int32) (m_tokenAt s2)))))) ∧ ((r3 = (0 : Int32)) → (wm_misplaced (fun (s11 : MS) => post s11) s2))) σ
set_option maxRecDepth 20000 in
theorem km_readParam {l : Launch} {D : va_G} {cl : List vw_C} {G : gAd} {post : MS → Prop} (hcl : mC cl) {σ : MS} (h : wm_readParam post σ) : mMet l D cl G yX13_readParam cX13_readParam 2 none 5 [.ref (G.1 0)] σ (qV post) := by
  unfold wm_readParam at h
  refine m_enter hcl (by decide +kernel) rfl [(0, .ref (G.1 0))] rfl (Nat.le_of_ble_eq_true rfl) ?_
  intro E hE hm
  have hN := hm.2.2.2.2.2.2.1
  refine r_bipush (v := (13 : Int32)) hE dX13_readParam_0 (by decide) ?_
  refine r_aload_n hE 0 dX13_readParam_2 rfl rfl ?_
  refine mg_scope hE hm dX13_readParam_3 ?_
  refine r_iadd hE dX13_readParam_6 ?_
  refine r_topi h (fun x1 ex1 h => ?_)
  refine r_istore_n hE [(1, .int x1), (0, .ref (G.1 0))] dX13_readParam_7 rfl hN (by decide) rfl ?_
  refine r_aload_n hE 1 dX13_readParam_8 rfl rfl ?_
  refine m_callVi hE hm [] [] mc_isName (km_isName hm.2.2.2.2.2.2.2.2 h) (by decide) rfl rfl (Nat.le_of_ble_eq_true rfl) dX13_readParam_9 (fun s2 r3 h => ?_)
  refine r_if_ne hE 22 dX13_readParam_12 (by decide) h (fun h => ?_) (fun h => ?_)
  · refine r_aload_n hE 1 dX13_readParam_22 rfl rfl ?_
    refine mg_paramMany hE hm dX13_readParam_23 ?_
    refine r_iload_n hE 0 dX13_readParam_26 rfl rfl ?_
    obtain ⟨hi, h⟩ := h
    refine ml_paramMany hE hm dX13_readParam_27 hi ?_
    refine r_iconst (v := (4 : Int32)) hE dX13_readParam_28 (by decide) ?_
    refine r_icmp_ne hE 44 dX13_readParam_29 (by decide) h (fun h => ?_) (fun h => ?_)
    · refine r_aload_n hE 1 dX13_readParam_44 rfl rfl ?_
      refine m_callVi hE hm [] [] mc_nameHere (km_nameHere hm.2.2.2.2.2.2.2.2 h) (by decide) rfl rfl (Nat.le_of_ble_eq_true rfl) dX13_readParam_45 (fun s4 r5 h => ?_)
      refine r_if_lt hE 63 dX13_readParam_48 (by decide) h (fun h => ?_) (fun h => ?_)
      · refine r_aload_n hE 1 dX13_readParam_63 rfl rfl ?_
        refine r_aload_n hE 1 dX13_readParam_64 rfl rfl ?_
        refine mg_tokenAt hE hm dX13_readParam_65 ?_
        refine r_aload_n hE 1 dX13_readParam_68 rfl rfl ?_
        refine mg_tokenSize hE hm dX13_readParam_69 ?_
        refine m_callVv hE hm [.int (m_tokenAt s4), .int (m_tokenSize s4)] [] mc_newName (km_newName hm.2.2.2.2.2.2.2.2 h) (by decide) rfl rfl (Nat.le_of_ble_eq_true rfl) dX13_readParam_72 (fun s6 h => ?_)
        refine r_aload_n hE 1 dX13_readParam_75 rfl rfl ?_
        refine mg_paramMany hE hm dX13_readParam_76 ?_
        refine r_iload_n hE 0 dX13_readParam_79 rfl rfl ?_
        refine r_dup2 hE dX13_readParam_80 rfl rfl ?_
        obtain ⟨hi, h⟩ := h
        refine ml_paramMany hE hm dX13_readParam_81 hi ?_
        refine r_iconst (v := (1 : Int32)) hE dX13_readParam_82 (by decide) ?_
        refine r_iadd hE dX13_readParam_83 ?_
        obtain ⟨hi, h⟩ := h
        refine ms_paramMany hE hm dX13_readParam_84 hi h (fun s7 h => ?_)
        refine r_aload_n hE 1 dX13_readParam_85 rfl rfl ?_
        refine m_callVv hE hm [] [] mc_next (km_next hm.2.2.2.2.2.2.2.2 h) (by decide) rfl rfl (Nat.le_of_ble_eq_true rfl) dX13_readParam_86 (fun s8 h => ?_)
        exact m_vret hE hm dX13_readParam_89 h
      · refine r_aload_n hE 1 dX13_readParam_51 rfl rfl ?_
        refine r_iconst (v := (4 : Int32)) hE dX13_readParam_52 (by decide) ?_
        refine r_aload_n hE 1 dX13_readParam_53 rfl rfl ?_
        refine mg_tokenAt hE hm dX13_readParam_54 ?_
        refine m_callVv hE hm [.int (4 : Int32), .int (m_tokenAt s4)] [] mc_wrong (km_wrong hm.2.2.2.2.2.2.2.2 h) (by decide) rfl rfl (Nat.le_of_ble_eq_true rfl) dX13_readParam_57 (fun s9 h => ?_)
        refine r_goto hE 89 dX13_readParam_60 (by decide) ?_
        exact m_vret hE hm dX13_readParam_89 h
    · refine r_aload_n hE 1 dX13_readParam_32 rfl rfl ?_
      refine r_iconst (v := (3 : Int32)) hE dX13_readParam_33 (by decide) ?_
      refine r_aload_n hE 1 dX13_readParam_34 rfl rfl ?_
      refine mg_tokenAt hE hm dX13_readParam_35 ?_
      refine m_callVv hE hm [.int (3 : Int32), .int (m_tokenAt s2)] [] mc_wrong (km_wrong hm.2.2.2.2.2.2.2.2 h) (by decide) rfl rfl (Nat.le_of_ble_eq_true rfl) dX13_readParam_38 (fun s10 h => ?_)
      refine r_goto hE 89 dX13_readParam_41 (by decide) ?_
      exact m_vret hE hm dX13_readParam_89 h
  · refine r_aload_n hE 1 dX13_readParam_15 rfl rfl ?_
    refine m_callVv hE hm [] [] mc_misplaced (km_misplaced hm.2.2.2.2.2.2.2.2 h) (by decide) rfl rfl (Nat.le_of_ble_eq_true rfl) dX13_readParam_16 (fun s11 h => ?_)
    refine r_goto hE 89 dX13_readParam_19 (by decide) ?_
    exact m_vret hE hm dX13_readParam_89 h
/-! readMacro -/
def wm_readMacro_226 (post : MS → Prop) (σ : MS) (t1 : Int32) (t2 : Int32) : Prop := vp_in t1 26 ∧ (∀ s1 : MS, s1 = m_bodyOf_s σ t1.toNatClampNeg t2 → ∀ s2 : MS, s2 = m_readMacros_s s1 ((m_readMacros s1) + (1 : Int32)) → post s2)
set_option maxRecDepth 20000 in
theorem km_readMacro_226 {E : gEnv} {l : Launch} {D : va_G} {cl : List vw_C} {G : gAd} {post : MS → Prop} (hE : gOK E cX13_readMacro RX13 none 15) (hm : mOK E l D cl G (qV post) 3) (σ : MS) (t1 : Int32) (t2 : Int32) (h : wm_readMacro_226 post σ t1 t2) : GW E (mW G σ) 226 [(0, .ref (G.1 0))] [.int t2, .int t1, .ref (G.1 28)] := by
  unfold wm_readMacro_226 at h
  have hN := hm.2.2.2.2.2.2.1
  obtain ⟨hi, h⟩ := h
  refine ms_bodyOf hE hm dX13_readMacro_226 hi h (fun s1 h => ?_)
  refine r_aload_n hE 0 dX13_readMacro_227 rfl rfl ?_
  refine r_dup hE dX13_readMacro_228 rfl ?_
  refine mg_readMacros hE hm dX13_readMacro_229 ?_
  refine r_iconst (v := (1 : Int32)) hE dX13_readMacro_232 (by decide) ?_
  refine r_iadd hE dX13_readMacro_233 ?_
  refine mp_readMacros hE hm dX13_readMacro_234 h (fun s2 h => ?_)
  exact m_vret hE hm dX13_readMacro_237 h
def wm_readMacro_193 (post : MS → Prop) (σ : MS) (v1 : Int32) : Prop := wm_take (fun (s3 : MS) => wm_open (fun (s4 : MS) => wm_fine (fun (s5 : MS) (r6 : Int32) => ((r6 = (0 : Int32)) → (wm_readMacro_226 post s5 v1 (-1 : Int32))) ∧ ((¬ (r6 = (0 : Int32))) → (wm_readDeeds (fun (s7 : MS) (r8 : Int32) => wm_readMacro_226 post s7 v1 r8) s5 (1 : Int32)))) s4) s3 (123 : Int32)) σ (41 : Int32)
set_option maxRecDepth 20000 in
theorem km_readMacro_193 {E : gEnv} {l : Launch} {D : va_G} {cl : List vw_C} {G : gAd} {post : MS → Prop} (hE : gOK E cX13_readMacro RX13 none 15) (hm : mOK E l D cl G (qV post) 3) (σ : MS) (v1 : Int32) (h : wm_readMacro_193 post σ v1) : GW E (mW G σ) 193 [(0, .ref (G.1 0)), (1, .int v1)] [] := by
  unfold wm_readMacro_193 at h
  have hN := hm.2.2.2.2.2.2.1
  refine r_aload_n hE 0 dX13_readMacro_193 rfl rfl ?_
  refine r_bipush (v := (41 : Int32)) hE dX13_readMacro_194 (by decide) ?_
  refine m_callVv hE hm [.int (41 : Int32)] [] mc_take (km_take hm.2.2.2.2.2.2.2.2 h) (by decide) rfl rfl (Nat.le_of_ble_eq_true rfl) dX13_readMacro_196 (fun s3 h => ?_)
  refine r_aload_n hE 0 dX13_readMacro_199 rfl rfl ?_
  refine r_bipush (v := (123 : Int32)) hE dX13_readMacro_200 (by decide) ?_
  refine m_callVv hE hm [.int (123 : Int32)] [] mc_open (km_open hm.2.2.2.2.2.2.2.2 h) (by decide) rfl rfl (Nat.le_of_ble_eq_true rfl) dX13_readMacro_202 (fun s4 h => ?_)
  refine r_aload_n hE 0 dX13_readMacro_205 rfl rfl ?_
  refine mg_bodyOf hE hm dX13_readMacro_206 ?_
  refine r_iload_n hE 1 dX13_readMacro_209 rfl rfl ?_
  refine r_aload_n hE 0 dX13_readMacro_210 rfl rfl ?_
  refine m_callVi hE hm [] [.int v1, .ref (G.1 28)] mc_fine (km_fine hm.2.2.2.2.2.2.2.2 h) (by decide) rfl rfl (Nat.le_of_ble_eq_true rfl) dX13_readMacro_211 (fun s5 r6 h => ?_)
  refine r_if_eq hE 225 dX13_readMacro_214 (by decide) h (fun h => ?_) (fun h => ?_)
  · refine r_iconst (v := (-1 : Int32)) hE dX13_readMacro_225 (by decide) ?_
    refine r_pick [0] rfl ?_
    exact km_readMacro_226 hE hm _ _ _ h
  · refine r_aload_n hE 0 dX13_readMacro_217 rfl rfl ?_
    refine r_iconst (v := (1 : Int32)) hE dX13_readMacro_218 (by decide) ?_
    refine m_callVi hE hm [.int (1 : Int32)] [.int v1, .ref (G.1 28)] mc_readDeeds (km_readDeeds hm.2.2.2.2.2.2.2.2 h) (by decide) rfl rfl (Nat.le_of_ble_eq_true rfl) dX13_readMacro_219 (fun s7 r8 h => ?_)
    refine r_goto hE 226 dX13_readMacro_222 (by decide) ?_
    refine r_pick [0] rfl ?_
    exact km_readMacro_226 hE hm _ _ _ h
def wm_readMacro_166 (post : MS → Prop) : Nat → MS → Int32 → Prop
  | 0, _, _ => False
  | n + 1, σ, v1 => wm_fine (fun (s9 : MS) (r10 : Int32) => ((r10 = (0 : Int32)) → (wm_readMacro_193 post s9 v1)) ∧ ((¬ (r10 = (0 : Int32))) → (wm_isSignHere (fun (s11 : MS) (r12 : Int32) => ((r12 = (0 : Int32)) → (wm_readMacro_193 post s11 v1)) ∧ ((¬ (r12 = (0 : Int32))) → (wm_next (fun (s13 : MS) => wm_readParam (fun (s14 : MS) => wm_readMacro_166 post n s14 v1) s13) s11))) s9 (44 : Int32)))) σ
set_option maxRecDepth 20000 in
theorem km_readMacro_166 {E : gEnv} {l : Launch} {D : va_G} {cl : List vw_C} {G : gAd} {post : MS → Prop} (hE : gOK E cX13_readMacro RX13 none 15) (hm : mOK E l D cl G (qV post) 3) : ∀ (n : Nat) (σ : MS) (v1 : Int32), wm_readMacro_166 post n σ v1 → GW E (mW G σ) 166 [(0, .ref (G.1 0)), (1, .int v1)] [] := by
  intro n
  induction n with
  | zero => intro σ v1 h; exact h.elim
  | succ n ih =>
    intro σ v1 h
    rw [wm_readMacro_166] at h
    have hN := hm.2.2.2.2.2.2.1
    refine r_aload_n hE 0 dX13_readMacro_166 rfl rfl ?_
    refine m_callVi hE hm [] [] mc_fine (km_fine hm.2.2.2.2.2.2.2.2 h) (by decide) rfl rfl (Nat.le_of_ble_eq_true rfl) dX13_readMacro_167 (fun s9 r10 h => ?_)
    refine r_if_eq hE 193 dX13_readMacro_170 (by decide) h (fun h => ?_) (fun h => ?_)
    · exact km_readMacro_193 hE hm _ _ h
    · refine r_aload_n hE 0 dX13_readMacro_173 rfl rfl ?_
      refine r_bipush (v := (44 : Int32)) hE dX13_readMacro_174 (by decide) ?_
      refine m_callVi hE hm [.int (44 : Int32)] [] mc_isSignHere (km_isSignHere hm.2.2.2.2.2.2.2.2 h) (by decide) rfl rfl (Nat.le_of_ble_eq_true rfl) dX13_readMacro_176 (fun s11 r12 h => ?_)
      refine r_if_eq hE 193 dX13_readMacro_179 (by decide) h (fun h => ?_) (fun h => ?_)
      · exact km_readMacro_193 hE hm _ _ h
      · refine r_aload_n hE 0 dX13_readMacro_182 rfl rfl ?_
        refine m_callVv hE hm [] [] mc_next (km_next hm.2.2.2.2.2.2.2.2 h) (by decide) rfl rfl (Nat.le_of_ble_eq_true rfl) dX13_readMacro_183 (fun s13 h => ?_)
        refine r_aload_n hE 0 dX13_readMacro_186 rfl rfl ?_
        refine m_callVv hE hm [] [] mc_readParam (km_readParam hm.2.2.2.2.2.2.2.2 h) (by decide) rfl rfl (Nat.le_of_ble_eq_true rfl) dX13_readMacro_187 (fun s14 h => ?_)
        refine r_goto hE 166 dX13_readMacro_190 (by decide) ?_
        exact ih _ _ h
def wm_readMacro_92 (post : MS → Prop) : Nat → MS → Int32 → Int32 → Prop
  | 0, _, _, _ => False
  | n + 1, σ, v1, v2 => (((m_tokenSize σ) ≤ v2) → (∀ s15 : MS, s15 = m_scope_s σ (m_readMacros σ) → wm_next (fun (s16 : MS) => wm_take (fun (s17 : MS) => wm_fine (fun (s18 : MS) (r19 : Int32) => ((r19 = (0 : Int32)) → (wm_readMacro_193 post s18 v1)) ∧ ((¬ (r19 = (0 : Int32))) → (wm_isSignHere (fun (s20 : MS) (r21 : Int32) => ((¬ (r21 = (0 : Int32))) → (wm_readMacro_193 post s20 v1)) ∧ ((r21 = (0 : Int32)) → (wm_readParam (fun (s22 : MS) => ∃ k : Nat, wm_readMacro_166 post k s22 v1) s20))) s18 (41 : Int32)))) s17) s16 (40 : Int32)) s15)) ∧ ((¬ ((m_tokenSize σ) ≤ v2)) → (vp_in ((m_tokenAt σ) + v2) 3000 ∧ (vp_in (((10 : Int32) * v1) + v2) 260 ∧ (∀ s23 : MS, s23 = m_macroLetters_s σ (((10 : Int32) * v1) + v2).toNatClampNeg ((m_tape σ ((m_tokenAt σ) + v2).toNatClampNeg).toInt8.toInt32) → ∀ x24 : Int32, x24 = v2 + (1 : Int32) → wm_readMacro_92 post n s23 v1 x24))))
set_option maxRecDepth 20000 in
theorem km_readMacro_92 {E : gEnv} {l : Launch} {D : va_G} {cl : List vw_C} {G : gAd} {post : MS → Prop} (hE : gOK E cX13_readMacro RX13 none 15) (hm : mOK E l D cl G (qV post) 3) : ∀ (n : Nat) (σ : MS) (v1 : Int32) (v2 : Int32), wm_readMacro_92 post n σ v1 v2 → GW E (mW G σ) 92 [(0, .ref (G.1 0)), (1, .int v1), (2, .int v2)] [] := by
  intro n
  induction n with
  | zero => intro σ v1 v2 h; exact h.elim
  | succ n ih =>
    intro σ v1 v2 h
    rw [wm_readMacro_92] at h
    have hN := hm.2.2.2.2.2.2.1
    refine r_iload_n hE 2 dX13_readMacro_92 rfl rfl ?_
    refine r_aload_n hE 0 dX13_readMacro_93 rfl rfl ?_
    refine mg_tokenSize hE hm dX13_readMacro_94 ?_
    refine r_icmp_ge hE 128 dX13_readMacro_97 (by decide) h (fun h => ?_) (fun h => ?_)
    · refine r_aload_n hE 0 dX13_readMacro_128 rfl rfl ?_
      refine r_aload_n hE 0 dX13_readMacro_129 rfl rfl ?_
      refine mg_readMacros hE hm dX13_readMacro_130 ?_
      refine mp_scope hE hm dX13_readMacro_133 h (fun s15 h => ?_)
      refine r_aload_n hE 0 dX13_readMacro_136 rfl rfl ?_
      refine m_callVv hE hm [] [] mc_next (km_next hm.2.2.2.2.2.2.2.2 h) (by decide) rfl rfl (Nat.le_of_ble_eq_true rfl) dX13_readMacro_137 (fun s16 h => ?_)
      refine r_aload_n hE 0 dX13_readMacro_140 rfl rfl ?_
      refine r_bipush (v := (40 : Int32)) hE dX13_readMacro_141 (by decide) ?_
      refine m_callVv hE hm [.int (40 : Int32)] [] mc_take (km_take hm.2.2.2.2.2.2.2.2 h) (by decide) rfl rfl (Nat.le_of_ble_eq_true rfl) dX13_readMacro_143 (fun s17 h => ?_)
      refine r_aload_n hE 0 dX13_readMacro_146 rfl rfl ?_
      refine m_callVi hE hm [] [] mc_fine (km_fine hm.2.2.2.2.2.2.2.2 h) (by decide) rfl rfl (Nat.le_of_ble_eq_true rfl) dX13_readMacro_147 (fun s18 r19 h => ?_)
      refine r_if_eq hE 193 dX13_readMacro_150 (by decide) h (fun h => ?_) (fun h => ?_)
      · refine r_pick [0, 1] rfl ?_
        exact km_readMacro_193 hE hm _ _ h
      · refine r_aload_n hE 0 dX13_readMacro_153 rfl rfl ?_
        refine r_bipush (v := (41 : Int32)) hE dX13_readMacro_154 (by decide) ?_
        refine m_callVi hE hm [.int (41 : Int32)] [] mc_isSignHere (km_isSignHere hm.2.2.2.2.2.2.2.2 h) (by decide) rfl rfl (Nat.le_of_ble_eq_true rfl) dX13_readMacro_156 (fun s20 r21 h => ?_)
        refine r_if_ne hE 193 dX13_readMacro_159 (by decide) h (fun h => ?_) (fun h => ?_)
        · refine r_pick [0, 1] rfl ?_
          exact km_readMacro_193 hE hm _ _ h
        · refine r_aload_n hE 0 dX13_readMacro_162 rfl rfl ?_
          refine m_callVv hE hm [] [] mc_readParam (km_readParam hm.2.2.2.2.2.2.2.2 h) (by decide) rfl rfl (Nat.le_of_ble_eq_true rfl) dX13_readMacro_163 (fun s22 h => ?_)
          refine r_pick [0, 1] rfl ?_
          obtain ⟨k, h⟩ := h
          exact km_readMacro_166 hE hm k _ _ h
    · refine r_aload_n hE 0 dX13_readMacro_100 rfl rfl ?_
      refine mg_macroLetters hE hm dX13_readMacro_101 ?_
      refine r_bipush (v := (10 : Int32)) hE dX13_readMacro_104 (by decide) ?_
      refine r_iload_n hE 1 dX13_readMacro_106 rfl rfl ?_
      refine r_imul hE dX13_readMacro_107 ?_
      refine r_iload_n hE 2 dX13_readMacro_108 rfl rfl ?_
      refine r_iadd hE dX13_readMacro_109 ?_
      refine r_aload_n hE 0 dX13_readMacro_110 rfl rfl ?_
      refine mg_tape hE hm dX13_readMacro_111 ?_
      refine r_aload_n hE 0 dX13_readMacro_114 rfl rfl ?_
      refine mg_tokenAt hE hm dX13_readMacro_115 ?_
      refine r_iload_n hE 2 dX13_readMacro_118 rfl rfl ?_
      refine r_iadd hE dX13_readMacro_119 ?_
      obtain ⟨hi, h⟩ := h
      refine ml_tape hE hm dX13_readMacro_120 hi ?_
      obtain ⟨hi, h⟩ := h
      refine ms_macroLetters hE hm dX13_readMacro_121 hi h (fun s23 h => ?_)
      obtain ⟨x24, ex24⟩ : ∃ z : Int32, z = v2 + (1 : Int32) := ⟨_, rfl⟩
      have h := h x24 ex24
      refine r_iinc (v := x24) hE [(2, .int x24), (0, .ref (G.1 0)), (1, .int v1)] 2 dX13_readMacro_122 rfl (by rw [ex24]; rfl) hN (by decide) rfl ?_
      refine r_goto hE 92 dX13_readMacro_125 (by decide) ?_
      refine r_pick [1, 2, 0] rfl ?_
      exact ih _ _ _ h
def wm_readMacro_72 (post : MS → Prop) (σ : MS) (v1 : Int32) : Prop := wm_fine (fun (s25 : MS) (r26 : Int32) => ((¬ (r26 = (0 : Int32))) → (vp_in v1 26 ∧ (∀ s27 : MS, s27 = m_macroSize_s s25 v1.toNatClampNeg (m_tokenSize s25) → ∃ k : Nat, wm_readMacro_92 post k s27 v1 (0 : Int32)))) ∧ ((r26 = (0 : Int32)) → (post s25))) σ
set_option maxRecDepth 20000 in
theorem km_readMacro_72 {E : gEnv} {l : Launch} {D : va_G} {cl : List vw_C} {G : gAd} {post : MS → Prop} (hE : gOK E cX13_readMacro RX13 none 15) (hm : mOK E l D cl G (qV post) 3) (σ : MS) (v1 : Int32) (h : wm_readMacro_72 post σ v1) : GW E (mW G σ) 72 [(0, .ref (G.1 0)), (1, .int v1)] [] := by
  unfold wm_readMacro_72 at h
  have hN := hm.2.2.2.2.2.2.1
  refine r_aload_n hE 0 dX13_readMacro_72 rfl rfl ?_
  refine m_callVi hE hm [] [] mc_fine (km_fine hm.2.2.2.2.2.2.2.2 h) (by decide) rfl rfl (Nat.le_of_ble_eq_true rfl) dX13_readMacro_73 (fun s25 r26 h => ?_)
  refine r_if_ne hE 80 dX13_readMacro_76 (by decide) h (fun h => ?_) (fun h => ?_)
  · refine r_aload_n hE 0 dX13_readMacro_80 rfl rfl ?_
    refine mg_macroSize hE hm dX13_readMacro_81 ?_
    refine r_iload_n hE 1 dX13_readMacro_84 rfl rfl ?_
    refine r_aload_n hE 0 dX13_readMacro_85 rfl rfl ?_
    refine mg_tokenSize hE hm dX13_readMacro_86 ?_
    obtain ⟨hi, h⟩ := h
    refine ms_macroSize hE hm dX13_readMacro_89 hi h (fun s27 h => ?_)
    refine r_iconst (v := (0 : Int32)) hE dX13_readMacro_90 (by decide) ?_
    refine r_istore_n hE [(2, .int (0 : Int32)), (0, .ref (G.1 0)), (1, .int v1)] dX13_readMacro_91 rfl hN (by decide) rfl ?_
    refine r_pick [1, 2, 0] rfl ?_
    obtain ⟨k, h⟩ := h
    exact km_readMacro_92 hE hm k _ _ _ h
  · exact m_vret hE hm dX13_readMacro_79 h
def wm_readMacro_63 (post : MS → Prop) (σ : MS) (v1 : Int32) : Prop := wm_wrong (fun (s28 : MS) => wm_readMacro_72 post s28 v1) σ (4 : Int32) (m_tokenAt σ)
set_option maxRecDepth 20000 in
theorem km_readMacro_63 {E : gEnv} {l : Launch} {D : va_G} {cl : List vw_C} {G : gAd} {post : MS → Prop} (hE : gOK E cX13_readMacro RX13 none 15) (hm : mOK E l D cl G (qV post) 3) (σ : MS) (v1 : Int32) (h : wm_readMacro_63 post σ v1) : GW E (mW G σ) 63 [(0, .ref (G.1 0)), (1, .int v1)] [] := by
  unfold wm_readMacro_63 at h
  have hN := hm.2.2.2.2.2.2.1
  refine r_aload_n hE 0 dX13_readMacro_63 rfl rfl ?_
  refine r_iconst (v := (4 : Int32)) hE dX13_readMacro_64 (by decide) ?_
  refine r_aload_n hE 0 dX13_readMacro_65 rfl rfl ?_
  refine mg_tokenAt hE hm dX13_readMacro_66 ?_
  refine m_callVv hE hm [.int (4 : Int32), .int (m_tokenAt σ)] [] mc_wrong (km_wrong hm.2.2.2.2.2.2.2.2 h) (by decide) rfl rfl (Nat.le_of_ble_eq_true rfl) dX13_readMacro_69 (fun s28 h => ?_)
  exact km_readMacro_72 hE hm _ _ h
def wm_readMacro (post : MS → Prop) (σ : MS) : Prop := wm_next (fun (s29 : MS) => ∀ x30 : Int32, x30 = (13 : Int32) + (m_readMacros s29) → wm_isName (fun (s31 : MS) (r32 : Int32) => ((¬ (r32 = (0 : Int32))) → (((¬ ((m_readMacros s31) = (12 : Int32))) → (wm_wordOf_toolList (fun (s33 : MS) (r34 : Int32) => (((0 : Int32) ≤ r34) → (wm_readMacro_63 post s33 x30)) ∧ ((¬ ((0 : Int32) ≤ r34)) → (wm_macroHere (fun (s35 : MS) (r36 : Int32) => ((r36 < (0 : Int32)) → (wm_readMacro_72 post s35 x30)) ∧ ((¬ (r36 < (0 : Int32))) → (wm_readMacro_63 post s35 x30))) s33))) s31)) ∧ (((m_readMacros s31) = (12 : Int32)) → (wm_wrong (fun (s37 : MS) => wm_readMacro_72 post s37 x30) s31 (3 : Int32) (m_tokenAt s31))))) ∧ ((r32 = (0 : Int32)) → (wm_misplaced (fun (s38 : MS) => post s38) s31))) s29) σ
set_option maxRecDepth 20000 in
theorem km_readMacro {l : Launch} {D : va_G} {cl : List vw_C} {G : gAd} {post : MS → Prop} (hcl : mC cl) {σ : MS} (h : wm_readMacro post σ) : mMet l D cl G yX13_readMacro cX13_readMacro 3 none 15 [.ref (G.1 0)] σ (qV post) := by
  unfold wm_readMacro at h
  refine m_enter hcl (by decide +kernel) rfl [(0, .ref (G.1 0))] rfl (Nat.le_of_ble_eq_true rfl) ?_
  intro E hE hm
  have hN := hm.2.2.2.2.2.2.1
  refine r_aload_n hE 0 dX13_readMacro_0 rfl rfl ?_
  refine m_callVv hE hm [] [] mc_next (km_next hm.2.2.2.2.2.2.2.2 h) (by decide) rfl rfl (Nat.le_of_ble_eq_true rfl) dX13_readMacro_1 (fun s29 h => ?_)
  refine r_bipush (v := (13 : Int32)) hE dX13_readMacro_4 (by decide) ?_
  refine r_aload_n hE 0 dX13_readMacro_6 rfl rfl ?_
  refine mg_readMacros hE hm dX13_readMacro_7 ?_
  refine r_iadd hE dX13_readMacro_10 ?_
  refine r_topi h (fun x30 ex30 h => ?_)
  refine r_istore_n hE [(1, .int x30), (0, .ref (G.1 0))] dX13_readMacro_11 rfl hN (by decide) rfl ?_
  refine r_aload_n hE 1 dX13_readMacro_12 rfl rfl ?_
  refine m_callVi hE hm [] [] mc_isName (km_isName hm.2.2.2.2.2.2.2.2 h) (by decide) rfl rfl (Nat.le_of_ble_eq_true rfl) dX13_readMacro_13 (fun s31 r32 h => ?_)
  refine r_if_ne hE 24 dX13_readMacro_16 (by decide) h (fun h => ?_) (fun h => ?_)
  · refine r_aload_n hE 1 dX13_readMacro_24 rfl rfl ?_
    refine mg_readMacros hE hm dX13_readMacro_25 ?_
    refine r_bipush (v := (12 : Int32)) hE dX13_readMacro_28 (by decide) ?_
    refine r_icmp_ne hE 45 dX13_readMacro_30 (by decide) h (fun h => ?_) (fun h => ?_)
    · refine r_aload_n hE 1 dX13_readMacro_45 rfl rfl ?_
      refine r_aload_n hE 1 dX13_readMacro_46 rfl rfl ?_
      refine mg_toolList hE hm dX13_readMacro_47 ?_
      refine m_callVi hE hm [.ref (G.1 11)] [] mc_wordOf (km_wordOf_toolList hm.2.2.2.2.2.2.2.2 h) (by decide) rfl rfl (Nat.le_of_ble_eq_true rfl) dX13_readMacro_50 (fun s33 r34 h => ?_)
      refine r_if_ge hE 63 dX13_readMacro_53 (by decide) h (fun h => ?_) (fun h => ?_)
      · refine r_pick [1, 0] rfl ?_
        exact km_readMacro_63 hE hm _ _ h
      · refine r_aload_n hE 1 dX13_readMacro_56 rfl rfl ?_
        refine m_callVi hE hm [] [] mc_macroHere (km_macroHere hm.2.2.2.2.2.2.2.2 h) (by decide) rfl rfl (Nat.le_of_ble_eq_true rfl) dX13_readMacro_57 (fun s35 r36 h => ?_)
        refine r_if_lt hE 72 dX13_readMacro_60 (by decide) h (fun h => ?_) (fun h => ?_)
        · refine r_pick [1, 0] rfl ?_
          exact km_readMacro_72 hE hm _ _ h
        · refine r_pick [1, 0] rfl ?_
          exact km_readMacro_63 hE hm _ _ h
    · refine r_aload_n hE 1 dX13_readMacro_33 rfl rfl ?_
      refine r_iconst (v := (3 : Int32)) hE dX13_readMacro_34 (by decide) ?_
      refine r_aload_n hE 1 dX13_readMacro_35 rfl rfl ?_
      refine mg_tokenAt hE hm dX13_readMacro_36 ?_
      refine m_callVv hE hm [.int (3 : Int32), .int (m_tokenAt s31)] [] mc_wrong (km_wrong hm.2.2.2.2.2.2.2.2 h) (by decide) rfl rfl (Nat.le_of_ble_eq_true rfl) dX13_readMacro_39 (fun s37 h => ?_)
      refine r_goto hE 72 dX13_readMacro_42 (by decide) ?_
      refine r_pick [1, 0] rfl ?_
      exact km_readMacro_72 hE hm _ _ h
  · refine r_aload_n hE 1 dX13_readMacro_19 rfl rfl ?_
    refine m_callVv hE hm [] [] mc_misplaced (km_misplaced hm.2.2.2.2.2.2.2.2 h) (by decide) rfl rfl (Nat.le_of_ble_eq_true rfl) dX13_readMacro_20 (fun s38 h => ?_)
    exact m_vret hE hm dX13_readMacro_23 h
/-! read -/
def wm_read_126 (post : MS → Int32 → Prop) (σ : MS) (t0 : Int32) : Prop := ∀ s1 : MS, s1 = m_taped_s σ (0 : Int32) → wm_fine (fun (s2 : MS) (r3 : Int32) => ((¬ (r3 = (0 : Int32))) → (∀ s4 : MS, s4 = m_placed_s s2 (-1 : Int32) → wm_become (fun (s5 : MS) => post s5 (m_nodes s5)) s4 t0)) ∧ ((r3 = (0 : Int32)) → (∀ s6 : MS, s6 = m_placed_s s2 (m_faultAt s2) → post s6 (-(m_fault s6))))) s1
set_option maxRecDepth 20000 in
theorem km_read_126 {E : gEnv} {l : Launch} {D : va_G} {cl : List vw_C} {G : gAd} {post : MS → Int32 → Prop} (hE : gOK E cX13_read RX13 (some .int) 16) (hm : mOK E l D cl G (qI post) 2) (σ : MS) (t0 : Int32) (h : wm_read_126 post σ t0) : GW E (mW G σ) 126 [(0, .ref (G.1 0))] [.int t0] := by
  unfold wm_read_126 at h
  have hN := hm.2.2.2.2.2.2.1
  refine r_istore_n hE [(1, .int t0), (0, .ref (G.1 0))] dX13_read_126 rfl hN (by decide) rfl ?_
  refine r_aload_n hE 1 dX13_read_127 rfl rfl ?_
  refine r_iconst (v := (0 : Int32)) hE dX13_read_128 (by decide) ?_
  refine mp_taped hE hm dX13_read_129 h (fun s1 h => ?_)
  refine r_aload_n hE 1 dX13_read_132 rfl rfl ?_
  refine m_callVi hE hm [] [] mc_fine (km_fine hm.2.2.2.2.2.2.2.2 h) (by decide) rfl rfl (Nat.le_of_ble_eq_true rfl) dX13_read_133 (fun s2 r3 h => ?_)
  refine r_if_ne hE 153 dX13_read_136 (by decide) h (fun h => ?_) (fun h => ?_)
  · refine r_aload_n hE 1 dX13_read_153 rfl rfl ?_
    refine r_iconst (v := (-1 : Int32)) hE dX13_read_154 (by decide) ?_
    refine mp_placed hE hm dX13_read_155 h (fun s4 h => ?_)
    refine r_aload_n hE 1 dX13_read_158 rfl rfl ?_
    refine r_iload_n hE 0 dX13_read_159 rfl rfl ?_
    refine m_callVv hE hm [.int t0] [] mc_become (km_become hm.2.2.2.2.2.2.2.2 h) (by decide) rfl rfl (Nat.le_of_ble_eq_true rfl) dX13_read_160 (fun s5 h => ?_)
    refine r_aload_n hE 1 dX13_read_163 rfl rfl ?_
    refine mg_nodes hE hm dX13_read_164 ?_
    exact m_iret hE hm dX13_read_167 h
  · refine r_aload_n hE 1 dX13_read_139 rfl rfl ?_
    refine r_aload_n hE 1 dX13_read_140 rfl rfl ?_
    refine mg_faultAt hE hm dX13_read_141 ?_
    refine mp_placed hE hm dX13_read_144 h (fun s6 h => ?_)
    refine r_aload_n hE 1 dX13_read_147 rfl rfl ?_
    refine mg_fault hE hm dX13_read_148 ?_
    refine r_ineg hE dX13_read_151 ?_
    exact m_iret hE hm dX13_read_152 h
def wm_read_104 (post : MS → Int32 → Prop) (σ : MS) : Prop := ∀ s7 : MS, s7 = m_scope_s σ (12 : Int32) → wm_fine (fun (s8 : MS) (r9 : Int32) => ((r9 = (0 : Int32)) → (wm_read_126 post s8 (-1 : Int32))) ∧ ((¬ (r9 = (0 : Int32))) → (wm_readDeeds (fun (s10 : MS) (r11 : Int32) => wm_read_126 post s10 r11) s8 (0 : Int32)))) s7
set_option maxRecDepth 20000 in
theorem km_read_104 {E : gEnv} {l : Launch} {D : va_G} {cl : List vw_C} {G : gAd} {post : MS → Int32 → Prop} (hE : gOK E cX13_read RX13 (some .int) 16) (hm : mOK E l D cl G (qI post) 2) (σ : MS) (h : wm_read_104 post σ) : GW E (mW G σ) 104 [(0, .ref (G.1 0))] [] := by
  unfold wm_read_104 at h
  have hN := hm.2.2.2.2.2.2.1
  refine r_aload_n hE 0 dX13_read_104 rfl rfl ?_
  refine r_bipush (v := (12 : Int32)) hE dX13_read_105 (by decide) ?_
  refine mp_scope hE hm dX13_read_107 h (fun s7 h => ?_)
  refine r_aload_n hE 0 dX13_read_110 rfl rfl ?_
  refine m_callVi hE hm [] [] mc_fine (km_fine hm.2.2.2.2.2.2.2.2 h) (by decide) rfl rfl (Nat.le_of_ble_eq_true rfl) dX13_read_111 (fun s8 r9 h => ?_)
  refine r_if_eq hE 125 dX13_read_114 (by decide) h (fun h => ?_) (fun h => ?_)
  · refine r_iconst (v := (-1 : Int32)) hE dX13_read_125 (by decide) ?_
    exact km_read_126 hE hm _ _ h
  · refine r_aload_n hE 0 dX13_read_117 rfl rfl ?_
    refine r_iconst (v := (0 : Int32)) hE dX13_read_118 (by decide) ?_
    refine m_callVi hE hm [.int (0 : Int32)] [] mc_readDeeds (km_readDeeds hm.2.2.2.2.2.2.2.2 h) (by decide) rfl rfl (Nat.le_of_ble_eq_true rfl) dX13_read_119 (fun s10 r11 h => ?_)
    refine r_goto hE 126 dX13_read_122 (by decide) ?_
    exact km_read_126 hE hm _ _ h
def wm_read_71 (post : MS → Int32 → Prop) : Nat → MS → Prop
  | 0, _ => False
  | n + 1, σ => wm_fine (fun (s12 : MS) (r13 : Int32) => ((r13 = (0 : Int32)) → (wm_read_104 post s12)) ∧ ((¬ (r13 = (0 : Int32))) → (((¬ ((m_token s12) = (1 : Int32))) → (wm_read_104 post s12)) ∧ (((m_token s12) = (1 : Int32)) → (wm_wordOf_wordList (fun (s14 : MS) (r15 : Int32) => ((¬ (r15 = (0 : Int32))) → (wm_read_104 post s14)) ∧ ((r15 = (0 : Int32)) → (wm_readMacro (fun (s16 : MS) => wm_read_71 post n s16) s14))) s12))))) σ
set_option maxRecDepth 20000 in
theorem km_read_71 {E : gEnv} {l : Launch} {D : va_G} {cl : List vw_C} {G : gAd} {post : MS → Int32 → Prop} (hE : gOK E cX13_read RX13 (some .int) 16) (hm : mOK E l D cl G (qI post) 2) : ∀ (n : Nat) (σ : MS), wm_read_71 post n σ → GW E (mW G σ) 71 [(0, .ref (G.1 0))] [] := by
  intro n
  induction n with
  | zero => intro σ h; exact h.elim
  | succ n ih =>
    intro σ h
    rw [wm_read_71] at h
    have hN := hm.2.2.2.2.2.2.1
    refine r_aload_n hE 0 dX13_read_71 rfl rfl ?_
    refine m_callVi hE hm [] [] mc_fine (km_fine hm.2.2.2.2.2.2.2.2 h) (by decide) rfl rfl (Nat.le_of_ble_eq_true rfl) dX13_read_72 (fun s12 r13 h => ?_)
    refine r_if_eq hE 104 dX13_read_75 (by decide) h (fun h => ?_) (fun h => ?_)
    · exact km_read_104 hE hm _ h
    · refine r_aload_n hE 0 dX13_read_78 rfl rfl ?_
      refine mg_token hE hm dX13_read_79 ?_
      refine r_iconst (v := (1 : Int32)) hE dX13_read_82 (by decide) ?_
      refine r_icmp_ne hE 104 dX13_read_83 (by decide) h (fun h => ?_) (fun h => ?_)
      · exact km_read_104 hE hm _ h
      · refine r_aload_n hE 0 dX13_read_86 rfl rfl ?_
        refine r_aload_n hE 0 dX13_read_87 rfl rfl ?_
        refine mg_wordList hE hm dX13_read_88 ?_
        refine m_callVi hE hm [.ref (G.1 10)] [] mc_wordOf (km_wordOf_wordList hm.2.2.2.2.2.2.2.2 h) (by decide) rfl rfl (Nat.le_of_ble_eq_true rfl) dX13_read_91 (fun s14 r15 h => ?_)
        refine r_if_ne hE 104 dX13_read_94 (by decide) h (fun h => ?_) (fun h => ?_)
        · exact km_read_104 hE hm _ h
        · refine r_aload_n hE 0 dX13_read_97 rfl rfl ?_
          refine m_callVv hE hm [] [] mc_readMacro (km_readMacro hm.2.2.2.2.2.2.2.2 h) (by decide) rfl rfl (Nat.le_of_ble_eq_true rfl) dX13_read_98 (fun s16 h => ?_)
          refine r_goto hE 71 dX13_read_101 (by decide) ?_
          exact ih _ h
def wm_read_33 (post : MS → Int32 → Prop) : Nat → MS → Int32 → Prop
  | 0, _, _ => False
  | n + 1, σ, v1 => (((26 : Int32) ≤ v1) → (wm_scan (fun (s17 : MS) => ∃ k : Nat, wm_read_71 post k s17) σ (0 : Int32))) ∧ ((¬ ((26 : Int32) ≤ v1)) → (vp_in v1 26 ∧ (∀ s18 : MS, s18 = m_nameMany_s σ v1.toNatClampNeg (0 : Int32) → vp_in v1 26 ∧ (∀ s19 : MS, s19 = m_paramMany_s s18 v1.toNatClampNeg (0 : Int32) → vp_in v1 26 ∧ (∀ s20 : MS, s20 = m_bodyOf_s s19 v1.toNatClampNeg (-1 : Int32) → ∀ x21 : Int32, x21 = v1 + (1 : Int32) → wm_read_33 post n s20 x21)))))
set_option maxRecDepth 20000 in
theorem km_read_33 {E : gEnv} {l : Launch} {D : va_G} {cl : List vw_C} {G : gAd} {post : MS → Int32 → Prop} (hE : gOK E cX13_read RX13 (some .int) 16) (hm : mOK E l D cl G (qI post) 2) : ∀ (n : Nat) (σ : MS) (v1 : Int32), wm_read_33 post n σ v1 → GW E (mW G σ) 33 [(0, .ref (G.1 0)), (1, .int v1)] [] := by
  intro n
  induction n with
  | zero => intro σ v1 h; exact h.elim
  | succ n ih =>
    intro σ v1 h
    rw [wm_read_33] at h
    have hN := hm.2.2.2.2.2.2.1
    refine r_iload_n hE 1 dX13_read_33 rfl rfl ?_
    refine r_bipush (v := (26 : Int32)) hE dX13_read_34 (by decide) ?_
    refine r_icmp_ge hE 66 dX13_read_36 (by decide) h (fun h => ?_) (fun h => ?_)
    · refine r_aload_n hE 0 dX13_read_66 rfl rfl ?_
      refine r_iconst (v := (0 : Int32)) hE dX13_read_67 (by decide) ?_
      refine m_callVv hE hm [.int (0 : Int32)] [] mc_scan (km_scan hm.2.2.2.2.2.2.2.2 h) (by decide) rfl rfl (Nat.le_of_ble_eq_true rfl) dX13_read_68 (fun s17 h => ?_)
      refine r_pick [0] rfl ?_
      obtain ⟨k, h⟩ := h
      exact km_read_71 hE hm k _ h
    · refine r_aload_n hE 0 dX13_read_39 rfl rfl ?_
      refine mg_nameMany hE hm dX13_read_40 ?_
      refine r_iload_n hE 1 dX13_read_43 rfl rfl ?_
      refine r_iconst (v := (0 : Int32)) hE dX13_read_44 (by decide) ?_
      obtain ⟨hi, h⟩ := h
      refine ms_nameMany hE hm dX13_read_45 hi h (fun s18 h => ?_)
      refine r_aload_n hE 0 dX13_read_46 rfl rfl ?_
      refine mg_paramMany hE hm dX13_read_47 ?_
      refine r_iload_n hE 1 dX13_read_50 rfl rfl ?_
      refine r_iconst (v := (0 : Int32)) hE dX13_read_51 (by decide) ?_
      obtain ⟨hi, h⟩ := h
      refine ms_paramMany hE hm dX13_read_52 hi h (fun s19 h => ?_)
      refine r_aload_n hE 0 dX13_read_53 rfl rfl ?_
      refine mg_bodyOf hE hm dX13_read_54 ?_
      refine r_iload_n hE 1 dX13_read_57 rfl rfl ?_
      refine r_iconst (v := (-1 : Int32)) hE dX13_read_58 (by decide) ?_
      obtain ⟨hi, h⟩ := h
      refine ms_bodyOf hE hm dX13_read_59 hi h (fun s20 h => ?_)
      obtain ⟨x21, ex21⟩ : ∃ z : Int32, z = v1 + (1 : Int32) := ⟨_, rfl⟩
      have h := h x21 ex21
      refine r_iinc (v := x21) hE [(1, .int x21), (0, .ref (G.1 0))] 1 dX13_read_60 rfl (by rw [ex21]; rfl) hN (by decide) rfl ?_
      refine r_goto hE 33 dX13_read_63 (by decide) ?_
      refine r_pick [1, 0] rfl ?_
      exact ih _ _ h
def wm_read (post : MS → Int32 → Prop) (σ : MS) : Prop := ∀ s22 : MS, s22 = m_code_s σ (0 : Int32) → ∀ s23 : MS, s23 = m_fault_s s22 (0 : Int32) → ∀ s24 : MS, s24 = m_readNodes_s s23 (0 : Int32) → ∀ s25 : MS, s25 = m_readDeeds_s s24 (0 : Int32) → ∀ s26 : MS, s26 = m_readMacros_s s25 (0 : Int32) → ∀ s27 : MS, s27 = m_deep_s s26 (0 : Int32) → ∃ k : Nat, wm_read_33 post k s27 (13 : Int32)
set_option maxRecDepth 20000 in
theorem km_read {l : Launch} {D : va_G} {cl : List vw_C} {G : gAd} {post : MS → Int32 → Prop} (hcl : mC cl) {σ : MS} (h : wm_read post σ) : mMet l D cl G yX13_read cX13_read 2 (some .int) 16 [.ref (G.1 0)] σ (qI post) := by
  unfold wm_read at h
  refine m_enter hcl (by decide +kernel) rfl [(0, .ref (G.1 0))] rfl (Nat.le_of_ble_eq_true rfl) ?_
  intro E hE hm
  have hN := hm.2.2.2.2.2.2.1
  refine r_aload_n hE 0 dX13_read_0 rfl rfl ?_
  refine r_iconst (v := (0 : Int32)) hE dX13_read_1 (by decide) ?_
  refine mp_code hE hm dX13_read_2 h (fun s22 h => ?_)
  refine r_aload_n hE 0 dX13_read_5 rfl rfl ?_
  refine r_iconst (v := (0 : Int32)) hE dX13_read_6 (by decide) ?_
  refine mp_fault hE hm dX13_read_7 h (fun s23 h => ?_)
  refine r_aload_n hE 0 dX13_read_10 rfl rfl ?_
  refine r_iconst (v := (0 : Int32)) hE dX13_read_11 (by decide) ?_
  refine mp_readNodes hE hm dX13_read_12 h (fun s24 h => ?_)
  refine r_aload_n hE 0 dX13_read_15 rfl rfl ?_
  refine r_iconst (v := (0 : Int32)) hE dX13_read_16 (by decide) ?_
  refine mp_readDeeds hE hm dX13_read_17 h (fun s25 h => ?_)
  refine r_aload_n hE 0 dX13_read_20 rfl rfl ?_
  refine r_iconst (v := (0 : Int32)) hE dX13_read_21 (by decide) ?_
  refine mp_readMacros hE hm dX13_read_22 h (fun s26 h => ?_)
  refine r_aload_n hE 0 dX13_read_25 rfl rfl ?_
  refine r_iconst (v := (0 : Int32)) hE dX13_read_26 (by decide) ?_
  refine mp_deep hE hm dX13_read_27 h (fun s27 h => ?_)
  refine r_bipush (v := (13 : Int32)) hE dX13_read_30 (by decide) ?_
  refine r_istore_n hE [(1, .int (13 : Int32)), (0, .ref (G.1 0))] dX13_read_32 rfl hN (by decide) rfl ?_
  refine r_pick [1, 0] rfl ?_
  obtain ⟨k, h⟩ := h
  exact km_read_33 hE hm k _ _ h
/-! place -/
def wm_place (post : MS → Int32 → Prop) (σ : MS) : Prop := ∀ s1 : MS, s1 = m_code_s σ (0 : Int32) → post s1 (m_placed s1)
set_option maxRecDepth 20000 in
theorem km_place {l : Launch} {D : va_G} {cl : List vw_C} {G : gAd} {post : MS → Int32 → Prop} (hcl : mC cl) {σ : MS} (h : wm_place post σ) : mMet l D cl G yX13_place cX13_place 1 (some .int) 1 [.ref (G.1 0)] σ (qI post) := by
  unfold wm_place at h
  refine m_enter hcl (by decide +kernel) rfl [(0, .ref (G.1 0))] rfl (Nat.le_of_ble_eq_true rfl) ?_
  intro E hE hm
  have hN := hm.2.2.2.2.2.2.1
  refine r_aload_n hE 0 dX13_place_0 rfl rfl ?_
  refine r_iconst (v := (0 : Int32)) hE dX13_place_1 (by decide) ?_
  refine mp_code hE hm dX13_place_2 h (fun s1 h => ?_)
  refine r_aload_n hE 0 dX13_place_5 rfl rfl ?_
  refine mg_placed hE hm dX13_place_6 ?_
  exact m_iret hE hm dX13_place_9 h
/-! measure -/
def wm_measure_17 (post : MS → Int64 → Prop) : Nat → MS → Int64 → Int64 → Prop
  | 0, _, _, _ => False
  | n + 1, σ, v4, v6 => (((lg_cmp v6 (0 : Int64)) = (0 : Int32)) → (post σ v4)) ∧ ((¬ ((lg_cmp v6 (0 : Int64)) = (0 : Int32))) → (¬ v6 = 0 ∧ (∀ x1 : Int64, x1 = v4 - v4 / v6 * v6 → wm_measure_17 post n σ v6 x1)))
set_option maxRecDepth 20000 in
theorem km_measure_17 {E : gEnv} {l : Launch} {D : va_G} {cl : List vw_C} {G : gAd} {post : MS → Int64 → Prop} (hE : gOK E cX13_measure RX13 (some .long) 1) (hm : mOK E l D cl G (qL post) 10) : ∀ (n : Nat) (σ : MS) (v4 : Int64) (v6 : Int64), wm_measure_17 post n σ v4 v6 → GW E (mW G σ) 17 [(4, .long v4), (6, .long v6)] [] := by
  intro n
  induction n with
  | zero => intro σ v4 v6 h; exact h.elim
  | succ n ih =>
    intro σ v4 v6 h
    rw [wm_measure_17] at h
    have hN := hm.2.2.2.2.2.2.1
    refine r_lload hE 1 dX13_measure_17 rfl ?_
    refine r_lconst (v := (0 : Int64)) hE dX13_measure_19 (by decide) ?_
    refine r_lcmp hE dX13_measure_20 ?_
    refine r_if_eq hE 42 dX13_measure_21 (by decide) h (fun h => ?_) (fun h => ?_)
    · refine r_lload hE 0 dX13_measure_42 rfl ?_
      exact m_lret hE hm dX13_measure_44 h
    · refine r_lload hE 0 dX13_measure_24 rfl ?_
      refine r_lload hE 1 dX13_measure_26 rfl ?_
      obtain ⟨hz, h⟩ := h
      refine r_lrem hE dX13_measure_28 hz ?_
      refine r_topl h (fun x1 ex1 h => ?_)
      refine r_lstore hE [(8, .long x1), (4, .long v4), (6, .long v6)] dX13_measure_29 hN (by decide) rfl ?_
      refine r_lload hE 2 dX13_measure_31 rfl ?_
      refine r_lstore hE [(4, .long v6), (8, .long x1), (6, .long v6)] dX13_measure_33 hN (by decide) rfl ?_
      refine r_lload hE 1 dX13_measure_35 rfl ?_
      refine r_lstore hE [(6, .long x1), (4, .long v6), (8, .long x1)] dX13_measure_37 hN (by decide) rfl ?_
      refine r_goto hE 17 dX13_measure_39 (by decide) ?_
      refine r_pick [1, 0] rfl ?_
      exact ih _ _ _ h
def wm_measure_12 (post : MS → Int64 → Prop) (σ : MS) (v2 : Int64) (t0 : Int64) : Prop := ∃ k : Nat, wm_measure_17 post k σ t0 v2
set_option maxRecDepth 20000 in
theorem km_measure_12 {E : gEnv} {l : Launch} {D : va_G} {cl : List vw_C} {G : gAd} {post : MS → Int64 → Prop} (hE : gOK E cX13_measure RX13 (some .long) 1) (hm : mOK E l D cl G (qL post) 10) (σ : MS) (v2 : Int64) (t0 : Int64) (h : wm_measure_12 post σ v2 t0) : GW E (mW G σ) 12 [(2, .long v2)] [.long t0] := by
  unfold wm_measure_12 at h
  have hN := hm.2.2.2.2.2.2.1
  refine r_lstore hE [(4, .long t0), (2, .long v2)] dX13_measure_12 hN (by decide) rfl ?_
  refine r_lload_n hE 1 dX13_measure_14 rfl rfl ?_
  refine r_lstore hE [(6, .long v2), (4, .long t0), (2, .long v2)] dX13_measure_15 hN (by decide) rfl ?_
  refine r_pick [1, 0] rfl ?_
  obtain ⟨k, h⟩ := h
  exact km_measure_17 hE hm k _ _ _ h
def wm_measure (post : MS → Int64 → Prop) (σ : MS) (a0 : Int64) (a2 : Int64) : Prop := (((0 : Int32) ≤ (lg_cmp a0 (0 : Int64))) → (wm_measure_12 post σ a2 a0)) ∧ ((¬ ((0 : Int32) ≤ (lg_cmp a0 (0 : Int64)))) → (wm_measure_12 post σ a2 (-a0)))
set_option maxRecDepth 20000 in
theorem km_measure {l : Launch} {D : va_G} {cl : List vw_C} {G : gAd} {post : MS → Int64 → Prop} (hcl : mC cl) {σ : MS} {a0 : Int64} {a2 : Int64} (h : wm_measure post σ a0 a2) : mMet l D cl G yX13_measure cX13_measure 10 (some .long) 1 [.long a0, .long a2] σ (qL post) := by
  unfold wm_measure at h
  refine m_enter hcl (by decide +kernel) rfl [(0, .long a0), (2, .long a2)] rfl (Nat.le_of_ble_eq_true rfl) ?_
  intro E hE hm
  have hN := hm.2.2.2.2.2.2.1
  refine r_lload_n hE 0 dX13_measure_0 rfl rfl ?_
  refine r_lconst (v := (0 : Int64)) hE dX13_measure_1 (by decide) ?_
  refine r_lcmp hE dX13_measure_2 ?_
  refine r_if_ge hE 11 dX13_measure_3 (by decide) h (fun h => ?_) (fun h => ?_)
  · refine r_lload_n hE 0 dX13_measure_11 rfl rfl ?_
    refine r_pick [1] rfl ?_
    exact km_measure_12 hE hm _ _ _ h
  · refine r_lload_n hE 0 dX13_measure_6 rfl rfl ?_
    refine r_lneg hE dX13_measure_7 ?_
    refine r_goto hE 12 dX13_measure_8 (by decide) ?_
    refine r_pick [1] rfl ?_
    exact km_measure_12 hE hm _ _ _ h
/-! fail -/
def wm_fail (post : MS → Prop) (σ : MS) (a1 : Int32) : Prop := ((¬ ((m_failure σ) = (0 : Int32))) → (post σ)) ∧ (((m_failure σ) = (0 : Int32)) → (∀ s1 : MS, s1 = m_failure_s σ a1 → post s1))
set_option maxRecDepth 20000 in
theorem km_fail {l : Launch} {D : va_G} {cl : List vw_C} {G : gAd} {post : MS → Prop} (hcl : mC cl) {σ : MS} {a1 : Int32} (h : wm_fail post σ a1) : mMet l D cl G yX13_fail cX13_fail 2 none 1 [.ref (G.1 0), .int a1] σ (qV post) := by
  unfold wm_fail at h
  refine m_enter hcl (by decide +kernel) rfl [(0, .ref (G.1 0)), (1, .int a1)] rfl (Nat.le_of_ble_eq_true rfl) ?_
  intro E hE hm
  have hN := hm.2.2.2.2.2.2.1
  refine r_aload_n hE 0 dX13_fail_0 rfl rfl ?_
  refine mg_failure hE hm dX13_fail_1 ?_
  refine r_if_ne hE 12 dX13_fail_4 (by decide) h (fun h => ?_) (fun h => ?_)
  · exact m_vret hE hm dX13_fail_12 h
  · refine r_aload_n hE 0 dX13_fail_7 rfl rfl ?_
    refine r_iload_n hE 1 dX13_fail_8 rfl rfl ?_
    refine mp_failure hE hm dX13_fail_9 h (fun s1 h => ?_)
    exact m_vret hE hm dX13_fail_12 h
/-! push -/
def wm_push (post : MS → Prop) (σ : MS) (a1 : Int64) (a3 : Int64) : Prop := vp_in (m_piled σ) 40 ∧ (∀ s1 : MS, s1 = m_top_s σ (m_piled σ).toNatClampNeg a1 → vp_in (m_piled s1) 40 ∧ (∀ s2 : MS, s2 = m_bottom_s s1 (m_piled s1).toNatClampNeg a3 → ∀ s3 : MS, s3 = m_piled_s s2 ((m_piled s2) + (1 : Int32)) → post s3))
set_option maxRecDepth 20000 in
theorem km_push {l : Launch} {D : va_G} {cl : List vw_C} {G : gAd} {post : MS → Prop} (hcl : mC cl) {σ : MS} {a1 : Int64} {a3 : Int64} (h : wm_push post σ a1 a3) : mMet l D cl G yX13_push cX13_push 5 none 1 [.ref (G.1 0), .long a1, .long a3] σ (qV post) := by
  unfold wm_push at h
  refine m_enter hcl (by decide +kernel) rfl [(0, .ref (G.1 0)), (1, .long a1), (3, .long a3)] rfl (Nat.le_of_ble_eq_true rfl) ?_
  intro E hE hm
  have hN := hm.2.2.2.2.2.2.1
  refine r_aload_n hE 0 dX13_push_0 rfl rfl ?_
  refine mg_top hE hm dX13_push_1 ?_
  refine r_aload_n hE 0 dX13_push_4 rfl rfl ?_
  refine mg_piled hE hm dX13_push_5 ?_
  refine r_lload_n hE 1 dX13_push_8 rfl rfl ?_
  obtain ⟨hi, h⟩ := h
  refine ms_top hE hm dX13_push_9 hi h (fun s1 h => ?_)
  refine r_aload_n hE 0 dX13_push_10 rfl rfl ?_
  refine mg_bottom hE hm dX13_push_11 ?_
  refine r_aload_n hE 0 dX13_push_14 rfl rfl ?_
  refine mg_piled hE hm dX13_push_15 ?_
  refine r_lload_n hE 2 dX13_push_18 rfl rfl ?_
  obtain ⟨hi, h⟩ := h
  refine ms_bottom hE hm dX13_push_19 hi h (fun s2 h => ?_)
  refine r_aload_n hE 0 dX13_push_20 rfl rfl ?_
  refine r_dup hE dX13_push_21 rfl ?_
  refine mg_piled hE hm dX13_push_22 ?_
  refine r_iconst (v := (1 : Int32)) hE dX13_push_25 (by decide) ?_
  refine r_iadd hE dX13_push_26 ?_
  refine mp_piled hE hm dX13_push_27 h (fun s3 h => ?_)
  exact m_vret hE hm dX13_push_30 h
/-! whole -/
def wm_whole (post : MS → Prop) (σ : MS) (a1 : Int64) : Prop := wm_push (fun (s1 : MS) => post s1) σ a1 (1 : Int64)
set_option maxRecDepth 20000 in
theorem km_whole {l : Launch} {D : va_G} {cl : List vw_C} {G : gAd} {post : MS → Prop} (hcl : mC cl) {σ : MS} {a1 : Int64} (h : wm_whole post σ a1) : mMet l D cl G yX13_whole cX13_whole 3 none 2 [.ref (G.1 0), .long a1] σ (qV post) := by
  unfold wm_whole at h
  refine m_enter hcl (by decide +kernel) rfl [(0, .ref (G.1 0)), (1, .long a1)] rfl (Nat.le_of_ble_eq_true rfl) ?_
  intro E hE hm
  have hN := hm.2.2.2.2.2.2.1
  refine r_aload_n hE 0 dX13_whole_0 rfl rfl ?_
  refine r_lload_n hE 1 dX13_whole_1 rfl rfl ?_
  refine r_lconst (v := (1 : Int64)) hE dX13_whole_2 (by decide) ?_
  refine m_callVv hE hm [.long a1, .long (1 : Int64)] [] mc_push (km_push hm.2.2.2.2.2.2.2.2 h) (by decide) rfl rfl (Nat.le_of_ble_eq_true rfl) dX13_whole_3 (fun s1 h => ?_)
  exact m_vret hE hm dX13_whole_6 h
/-! come -/
def wm_come_98 (post : MS → Prop) (σ : MS) : Prop := wm_fail (fun (s1 : MS) => wm_push (fun (s2 : MS) => post s2) s1 (0 : Int64) (1 : Int64)) σ (7 : Int32)
set_option maxRecDepth 20000 in
theorem km_come_98 {E : gEnv} {l : Launch} {D : va_G} {cl : List vw_C} {G : gAd} {post : MS → Prop} (hE : gOK E cX13_come RX13 none 2) (hm : mOK E l D cl G (qV post) 11) (σ : MS) (h : wm_come_98 post σ) : GW E (mW G σ) 98 [(0, .ref (G.1 0))] [] := by
  unfold wm_come_98 at h
  have hN := hm.2.2.2.2.2.2.1
  refine r_aload_n hE 0 dX13_come_98 rfl rfl ?_
  refine r_bipush (v := (7 : Int32)) hE dX13_come_99 (by decide) ?_
  refine m_callVv hE hm [.int (7 : Int32)] [] mc_fail (km_fail hm.2.2.2.2.2.2.2.2 h) (by decide) rfl rfl (Nat.le_of_ble_eq_true rfl) dX13_come_101 (fun s1 h => ?_)
  refine r_aload_n hE 0 dX13_come_104 rfl rfl ?_
  refine r_lconst (v := (0 : Int64)) hE dX13_come_105 (by decide) ?_
  refine r_lconst (v := (1 : Int64)) hE dX13_come_106 (by decide) ?_
  refine m_callVv hE hm [.long (0 : Int64), .long (1 : Int64)] [] mc_push (km_push hm.2.2.2.2.2.2.2.2 h) (by decide) rfl rfl (Nat.le_of_ble_eq_true rfl) dX13_come_107 (fun s2 h => ?_)
  exact m_vret hE hm dX13_come_110 h
def wm_come_69 (post : MS → Prop) (σ : MS) (v7 : Int64) (t0 : Int64) : Prop := (((0 : Int32) < (lg_cmp v7 (1000000000 : Int64))) → (wm_come_98 post σ)) ∧ ((¬ ((0 : Int32) < (lg_cmp v7 (1000000000 : Int64)))) → ((((lg_cmp v7 (-1000000000 : Int64)) < (0 : Int32)) → (wm_come_98 post σ)) ∧ ((¬ ((lg_cmp v7 (-1000000000 : Int64)) < (0 : Int32))) → ((((lg_cmp t0 (1000000000 : Int64)) ≤ (0 : Int32)) → (wm_push (fun (s3 : MS) => post s3) σ v7 t0)) ∧ ((¬ ((lg_cmp t0 (1000000000 : Int64)) ≤ (0 : Int32))) → (wm_come_98 post σ))))))
set_option maxRecDepth 20000 in
theorem km_come_69 {E : gEnv} {l : Launch} {D : va_G} {cl : List vw_C} {G : gAd} {post : MS → Prop} (hE : gOK E cX13_come RX13 none 2) (hm : mOK E l D cl G (qV post) 11) (σ : MS) (v7 : Int64) (t0 : Int64) (h : wm_come_69 post σ v7 t0) : GW E (mW G σ) 69 [(0, .ref (G.1 0)), (7, .long v7)] [.long t0] := by
  unfold wm_come_69 at h
  have hN := hm.2.2.2.2.2.2.1
  refine r_lstore hE [(9, .long t0), (0, .ref (G.1 0)), (7, .long v7)] dX13_come_69 hN (by decide) rfl ?_
  refine r_lload hE 2 dX13_come_71 rfl ?_
  refine r_ldc2 (v := (1000000000 : Int64)) hE dX13_come_73 (gTb_10 (List.mem_of_getElem? (i := 4) rfl) rfl) ?_
  refine r_lcmp hE dX13_come_76 ?_
  refine r_if_gt hE 98 dX13_come_77 (by decide) h (fun h => ?_) (fun h => ?_)
  · refine r_pick [1] rfl ?_
    exact km_come_98 hE hm _ h
  · refine r_lload hE 2 dX13_come_80 rfl ?_
    refine r_ldc2 (v := (-1000000000 : Int64)) hE dX13_come_82 (gTb_10 (List.mem_of_getElem? (i := 5) rfl) rfl) ?_
    refine r_lcmp hE dX13_come_85 ?_
    refine r_if_lt hE 98 dX13_come_86 (by decide) h (fun h => ?_) (fun h => ?_)
    · refine r_pick [1] rfl ?_
      exact km_come_98 hE hm _ h
    · refine r_lload hE 0 dX13_come_89 rfl ?_
      refine r_ldc2 (v := (1000000000 : Int64)) hE dX13_come_91 (gTb_10 (List.mem_of_getElem? (i := 4) rfl) rfl) ?_
      refine r_lcmp hE dX13_come_94 ?_
      refine r_if_le hE 111 dX13_come_95 (by decide) h (fun h => ?_) (fun h => ?_)
      · refine r_aload_n hE 1 dX13_come_111 rfl rfl ?_
        refine r_lload hE 2 dX13_come_112 rfl ?_
        refine r_lload hE 0 dX13_come_114 rfl ?_
        refine m_callVv hE hm [.long v7, .long t0] [] mc_push (km_push hm.2.2.2.2.2.2.2.2 h) (by decide) rfl rfl (Nat.le_of_ble_eq_true rfl) dX13_come_116 (fun s3 h => ?_)
        exact m_vret hE hm dX13_come_119 h
      · refine r_pick [1] rfl ?_
        exact km_come_98 hE hm _ h
def wm_come_49 (post : MS → Prop) (σ : MS) (v3 : Int64) (v5 : Int64) (t0 : Int64) : Prop := (((0 : Int32) ≤ (lg_cmp v3 (0 : Int64))) → (¬ v5 = 0 ∧ (wm_come_69 post σ t0 (v3 / v5)))) ∧ ((¬ ((0 : Int32) ≤ (lg_cmp v3 (0 : Int64)))) → (¬ v5 = 0 ∧ (wm_come_69 post σ t0 ((-v3) / v5))))
set_option maxRecDepth 20000 in
theorem km_come_49 {E : gEnv} {l : Launch} {D : va_G} {cl : List vw_C} {G : gAd} {post : MS → Prop} (hE : gOK E cX13_come RX13 none 2) (hm : mOK E l D cl G (qV post) 11) (σ : MS) (v3 : Int64) (v5 : Int64) (t0 : Int64) (h : wm_come_49 post σ v3 v5 t0) : GW E (mW G σ) 49 [(0, .ref (G.1 0)), (3, .long v3), (5, .long v5)] [.long t0] := by
  unfold wm_come_49 at h
  have hN := hm.2.2.2.2.2.2.1
  refine r_lstore hE [(7, .long t0), (0, .ref (G.1 0)), (3, .long v3), (5, .long v5)] dX13_come_49 hN (by decide) rfl ?_
  refine r_lload_n hE 2 dX13_come_51 rfl rfl ?_
  refine r_lconst (v := (0 : Int64)) hE dX13_come_52 (by decide) ?_
  refine r_lcmp hE dX13_come_53 ?_
  refine r_if_ge hE 65 dX13_come_54 (by decide) h (fun h => ?_) (fun h => ?_)
  · refine r_lload_n hE 2 dX13_come_65 rfl rfl ?_
    refine r_lload hE 3 dX13_come_66 rfl ?_
    obtain ⟨hz, h⟩ := h
    refine r_ldiv hE dX13_come_68 hz ?_
    refine r_pick [1, 0] rfl ?_
    exact km_come_69 hE hm _ _ _ h
  · refine r_lload_n hE 2 dX13_come_57 rfl rfl ?_
    refine r_lneg hE dX13_come_58 ?_
    refine r_lload hE 3 dX13_come_59 rfl ?_
    obtain ⟨hz, h⟩ := h
    refine r_ldiv hE dX13_come_61 hz ?_
    refine r_goto hE 69 dX13_come_62 (by decide) ?_
    refine r_pick [1, 0] rfl ?_
    exact km_come_69 hE hm _ _ _ h
def wm_come (post : MS → Prop) (σ : MS) (a1 : Int64) (a3 : Int64) : Prop := ∀ s4 : MS, s4 = m_piled_s σ ((m_piled σ) - (2 : Int32)) → (((m_failure s4) ≤ (0 : Int32)) → (wm_measure (fun (s5 : MS) (r6 : Int64) => (((0 : Int32) ≤ (lg_cmp a3 (0 : Int64))) → (¬ r6 = 0 ∧ (wm_come_49 post s5 a3 r6 (a1 / r6)))) ∧ ((¬ ((0 : Int32) ≤ (lg_cmp a3 (0 : Int64)))) → (¬ r6 = 0 ∧ (wm_come_49 post s5 a3 r6 ((-a1) / r6))))) s4 a1 a3)) ∧ ((¬ ((m_failure s4) ≤ (0 : Int32))) → (wm_push (fun (s7 : MS) => post s7) s4 (0 : Int64) (1 : Int64)))
set_option maxRecDepth 20000 in
theorem km_come {l : Launch} {D : va_G} {cl : List vw_C} {G : gAd} {post : MS → Prop} (hcl : mC cl) {σ : MS} {a1 : Int64} {a3 : Int64} (h : wm_come post σ a1 a3) : mMet l D cl G yX13_come cX13_come 11 none 2 [.ref (G.1 0), .long a1, .long a3] σ (qV post) := by
  unfold wm_come at h
  refine m_enter hcl (by decide +kernel) rfl [(0, .ref (G.1 0)), (1, .long a1), (3, .long a3)] rfl (Nat.le_of_ble_eq_true rfl) ?_
  intro E hE hm
  have hN := hm.2.2.2.2.2.2.1
  refine r_aload_n hE 0 dX13_come_0 rfl rfl ?_
  refine r_dup hE dX13_come_1 rfl ?_
  refine mg_piled hE hm dX13_come_2 ?_
  refine r_iconst (v := (2 : Int32)) hE dX13_come_5 (by decide) ?_
  refine r_isub hE dX13_come_6 ?_
  refine mp_piled hE hm dX13_come_7 h (fun s4 h => ?_)
  refine r_aload_n hE 0 dX13_come_10 rfl rfl ?_
  refine mg_failure hE hm dX13_come_11 ?_
  refine r_if_le hE 24 dX13_come_14 (by decide) h (fun h => ?_) (fun h => ?_)
  · refine r_lload_n hE 1 dX13_come_24 rfl rfl ?_
    refine r_lload_n hE 2 dX13_come_25 rfl rfl ?_
    refine m_callSl hE hm [.long a1, .long a3] [] mc_measure (km_measure hm.2.2.2.2.2.2.2.2 h) (by decide) rfl rfl (Nat.le_of_ble_eq_true rfl) dX13_come_26 (fun s5 r6 h => ?_)
    refine r_lstore hE [(5, .long r6), (0, .ref (G.1 0)), (1, .long a1), (3, .long a3)] dX13_come_29 hN (by decide) rfl ?_
    refine r_lload_n hE 3 dX13_come_31 rfl rfl ?_
    refine r_lconst (v := (0 : Int64)) hE dX13_come_32 (by decide) ?_
    refine r_lcmp hE dX13_come_33 ?_
    refine r_if_ge hE 45 dX13_come_34 (by decide) h (fun h => ?_) (fun h => ?_)
    · refine r_lload_n hE 2 dX13_come_45 rfl rfl ?_
      refine r_lload hE 0 dX13_come_46 rfl ?_
      obtain ⟨hz, h⟩ := h
      refine r_ldiv hE dX13_come_48 hz ?_
      refine r_pick [1, 3, 0] rfl ?_
      exact km_come_49 hE hm _ _ _ _ h
    · refine r_lload_n hE 2 dX13_come_37 rfl rfl ?_
      refine r_lneg hE dX13_come_38 ?_
      refine r_lload hE 0 dX13_come_39 rfl ?_
      obtain ⟨hz, h⟩ := h
      refine r_ldiv hE dX13_come_41 hz ?_
      refine r_goto hE 49 dX13_come_42 (by decide) ?_
      refine r_pick [1, 3, 0] rfl ?_
      exact km_come_49 hE hm _ _ _ _ h
  · refine r_aload_n hE 0 dX13_come_17 rfl rfl ?_
    refine r_lconst (v := (0 : Int64)) hE dX13_come_18 (by decide) ?_
    refine r_lconst (v := (1 : Int64)) hE dX13_come_19 (by decide) ?_
    refine m_callVv hE hm [.long (0 : Int64), .long (1 : Int64)] [] mc_push (km_push hm.2.2.2.2.2.2.2.2 h) (by decide) rfl rfl (Nat.le_of_ble_eq_true rfl) dX13_come_20 (fun s7 h => ?_)
    exact m_vret hE hm dX13_come_23 h
/-! plus -/
def wm_plus (post : MS → Prop) (σ : MS) : Prop := ∀ x1 : Int32, x1 = (m_piled σ) - (2 : Int32) → vp_in x1 40 ∧ (vp_in (x1 + (1 : Int32)) 40 ∧ (vp_in (x1 + (1 : Int32)) 40 ∧ (vp_in x1 40 ∧ (vp_in x1 40 ∧ (vp_in (x1 + (1 : Int32)) 40 ∧ (wm_come (fun (s2 : MS) => post s2) σ (((m_top σ x1.toNatClampNeg) * (m_bottom σ (x1 + (1 : Int32)).toNatClampNeg)) + ((m_top σ (x1 + (1 : Int32)).toNatClampNeg) * (m_bottom σ x1.toNatClampNeg))) ((m_bottom σ x1.toNatClampNeg) * (m_bottom σ (x1 + (1 : Int32)).toNatClampNeg))))))))
set_option maxRecDepth 20000 in
theorem km_plus {l : Launch} {D : va_G} {cl : List vw_C} {G : gAd} {post : MS → Prop} (hcl : mC cl) {σ : MS} (h : wm_plus post σ) : mMet l D cl G yX13_plus cX13_plus 2 none 3 [.ref (G.1 0)] σ (qV post) := by
  unfold wm_plus at h
  refine m_enter hcl (by decide +kernel) rfl [(0, .ref (G.1 0))] rfl (Nat.le_of_ble_eq_true rfl) ?_
  intro E hE hm
  have hN := hm.2.2.2.2.2.2.1
  refine r_aload_n hE 0 dX13_plus_0 rfl rfl ?_
  refine mg_piled hE hm dX13_plus_1 ?_
  refine r_iconst (v := (2 : Int32)) hE dX13_plus_4 (by decide) ?_
  refine r_isub hE dX13_plus_5 ?_
  refine r_topi h (fun x1 ex1 h => ?_)
  refine r_istore_n hE [(1, .int x1), (0, .ref (G.1 0))] dX13_plus_6 rfl hN (by decide) rfl ?_
  refine r_aload_n hE 1 dX13_plus_7 rfl rfl ?_
  refine r_aload_n hE 1 dX13_plus_8 rfl rfl ?_
  refine mg_top hE hm dX13_plus_9 ?_
  refine r_iload_n hE 0 dX13_plus_12 rfl rfl ?_
  obtain ⟨hi, h⟩ := h
  refine ml_top hE hm dX13_plus_13 hi ?_
  refine r_aload_n hE 1 dX13_plus_14 rfl rfl ?_
  refine mg_bottom hE hm dX13_plus_15 ?_
  refine r_iload_n hE 0 dX13_plus_18 rfl rfl ?_
  refine r_iconst (v := (1 : Int32)) hE dX13_plus_19 (by decide) ?_
  refine r_iadd hE dX13_plus_20 ?_
  obtain ⟨hi, h⟩ := h
  refine ml_bottom hE hm dX13_plus_21 hi ?_
  refine r_lmul hE dX13_plus_22 ?_
  refine r_aload_n hE 1 dX13_plus_23 rfl rfl ?_
  refine mg_top hE hm dX13_plus_24 ?_
  refine r_iload_n hE 0 dX13_plus_27 rfl rfl ?_
  refine r_iconst (v := (1 : Int32)) hE dX13_plus_28 (by decide) ?_
  refine r_iadd hE dX13_plus_29 ?_
  obtain ⟨hi, h⟩ := h
  refine ml_top hE hm dX13_plus_30 hi ?_
  refine r_aload_n hE 1 dX13_plus_31 rfl rfl ?_
  refine mg_bottom hE hm dX13_plus_32 ?_
  refine r_iload_n hE 0 dX13_plus_35 rfl rfl ?_
  obtain ⟨hi, h⟩ := h
  refine ml_bottom hE hm dX13_plus_36 hi ?_
  refine r_lmul hE dX13_plus_37 ?_
  refine r_ladd hE dX13_plus_38 ?_
  refine r_aload_n hE 1 dX13_plus_39 rfl rfl ?_
  refine mg_bottom hE hm dX13_plus_40 ?_
  refine r_iload_n hE 0 dX13_plus_43 rfl rfl ?_
  obtain ⟨hi, h⟩ := h
  refine ml_bottom hE hm dX13_plus_44 hi ?_
  refine r_aload_n hE 1 dX13_plus_45 rfl rfl ?_
  refine mg_bottom hE hm dX13_plus_46 ?_
  refine r_iload_n hE 0 dX13_plus_49 rfl rfl ?_
  refine r_iconst (v := (1 : Int32)) hE dX13_plus_50 (by decide) ?_
  refine r_iadd hE dX13_plus_51 ?_
  obtain ⟨hi, h⟩ := h
  refine ml_bottom hE hm dX13_plus_52 hi ?_
  refine r_lmul hE dX13_plus_53 ?_
  refine m_callVv hE hm [.long (((m_top σ x1.toNatClampNeg) * (m_bottom σ (x1 + (1 : Int32)).toNatClampNeg)) + ((m_top σ (x1 + (1 : Int32)).toNatClampNeg) * (m_bottom σ x1.toNatClampNeg))), .long ((m_bottom σ x1.toNatClampNeg) * (m_bottom σ (x1 + (1 : Int32)).toNatClampNeg))] [] mc_come (km_come hm.2.2.2.2.2.2.2.2 h) (by decide) rfl rfl (Nat.le_of_ble_eq_true rfl) dX13_plus_54 (fun s2 h => ?_)
  exact m_vret hE hm dX13_plus_57 h
/-! less -/
def wm_less (post : MS → Prop) (σ : MS) : Prop := ∀ x1 : Int32, x1 = (m_piled σ) - (2 : Int32) → vp_in x1 40 ∧ (vp_in (x1 + (1 : Int32)) 40 ∧ (vp_in (x1 + (1 : Int32)) 40 ∧ (vp_in x1 40 ∧ (vp_in x1 40 ∧ (vp_in (x1 + (1 : Int32)) 40 ∧ (wm_come (fun (s2 : MS) => post s2) σ (((m_top σ x1.toNatClampNeg) * (m_bottom σ (x1 + (1 : Int32)).toNatClampNeg)) - ((m_top σ (x1 + (1 : Int32)).toNatClampNeg) * (m_bottom σ x1.toNatClampNeg))) ((m_bottom σ x1.toNatClampNeg) * (m_bottom σ (x1 + (1 : Int32)).toNatClampNeg))))))))
set_option maxRecDepth 20000 in
theorem km_less {l : Launch} {D : va_G} {cl : List vw_C} {G : gAd} {post : MS → Prop} (hcl : mC cl) {σ : MS} (h : wm_less post σ) : mMet l D cl G yX13_less cX13_less 2 none 3 [.ref (G.1 0)] σ (qV post) := by
  unfold wm_less at h
  refine m_enter hcl (by decide +kernel) rfl [(0, .ref (G.1 0))] rfl (Nat.le_of_ble_eq_true rfl) ?_
  intro E hE hm
  have hN := hm.2.2.2.2.2.2.1
  refine r_aload_n hE 0 dX13_less_0 rfl rfl ?_
  refine mg_piled hE hm dX13_less_1 ?_
  refine r_iconst (v := (2 : Int32)) hE dX13_less_4 (by decide) ?_
  refine r_isub hE dX13_less_5 ?_
  refine r_topi h (fun x1 ex1 h => ?_)
  refine r_istore_n hE [(1, .int x1), (0, .ref (G.1 0))] dX13_less_6 rfl hN (by decide) rfl ?_
  refine r_aload_n hE 1 dX13_less_7 rfl rfl ?_
  refine r_aload_n hE 1 dX13_less_8 rfl rfl ?_
  refine mg_top hE hm dX13_less_9 ?_
  refine r_iload_n hE 0 dX13_less_12 rfl rfl ?_
  obtain ⟨hi, h⟩ := h
  refine ml_top hE hm dX13_less_13 hi ?_
  refine r_aload_n hE 1 dX13_less_14 rfl rfl ?_
  refine mg_bottom hE hm dX13_less_15 ?_
  refine r_iload_n hE 0 dX13_less_18 rfl rfl ?_
  refine r_iconst (v := (1 : Int32)) hE dX13_less_19 (by decide) ?_
  refine r_iadd hE dX13_less_20 ?_
  obtain ⟨hi, h⟩ := h
  refine ml_bottom hE hm dX13_less_21 hi ?_
  refine r_lmul hE dX13_less_22 ?_
  refine r_aload_n hE 1 dX13_less_23 rfl rfl ?_
  refine mg_top hE hm dX13_less_24 ?_
  refine r_iload_n hE 0 dX13_less_27 rfl rfl ?_
  refine r_iconst (v := (1 : Int32)) hE dX13_less_28 (by decide) ?_
  refine r_iadd hE dX13_less_29 ?_
  obtain ⟨hi, h⟩ := h
  refine ml_top hE hm dX13_less_30 hi ?_
  refine r_aload_n hE 1 dX13_less_31 rfl rfl ?_
  refine mg_bottom hE hm dX13_less_32 ?_
  refine r_iload_n hE 0 dX13_less_35 rfl rfl ?_
  obtain ⟨hi, h⟩ := h
  refine ml_bottom hE hm dX13_less_36 hi ?_
  refine r_lmul hE dX13_less_37 ?_
  refine r_lsub hE dX13_less_38 ?_
  refine r_aload_n hE 1 dX13_less_39 rfl rfl ?_
  refine mg_bottom hE hm dX13_less_40 ?_
  refine r_iload_n hE 0 dX13_less_43 rfl rfl ?_
  obtain ⟨hi, h⟩ := h
  refine ml_bottom hE hm dX13_less_44 hi ?_
  refine r_aload_n hE 1 dX13_less_45 rfl rfl ?_
  refine mg_bottom hE hm dX13_less_46 ?_
  refine r_iload_n hE 0 dX13_less_49 rfl rfl ?_
  refine r_iconst (v := (1 : Int32)) hE dX13_less_50 (by decide) ?_
  refine r_iadd hE dX13_less_51 ?_
  obtain ⟨hi, h⟩ := h
  refine ml_bottom hE hm dX13_less_52 hi ?_
  refine r_lmul hE dX13_less_53 ?_
  refine m_callVv hE hm [.long (((m_top σ x1.toNatClampNeg) * (m_bottom σ (x1 + (1 : Int32)).toNatClampNeg)) - ((m_top σ (x1 + (1 : Int32)).toNatClampNeg) * (m_bottom σ x1.toNatClampNeg))), .long ((m_bottom σ x1.toNatClampNeg) * (m_bottom σ (x1 + (1 : Int32)).toNatClampNeg))] [] mc_come (km_come hm.2.2.2.2.2.2.2.2 h) (by decide) rfl rfl (Nat.le_of_ble_eq_true rfl) dX13_less_54 (fun s2 h => ?_)
  exact m_vret hE hm dX13_less_57 h
/-! times -/
def wm_times (post : MS → Prop) (σ : MS) : Prop := ∀ x1 : Int32, x1 = (m_piled σ) - (2 : Int32) → vp_in x1 40 ∧ (vp_in (x1 + (1 : Int32)) 40 ∧ (vp_in x1 40 ∧ (vp_in (x1 + (1 : Int32)) 40 ∧ (wm_come (fun (s2 : MS) => post s2) σ ((m_top σ x1.toNatClampNeg) * (m_top σ (x1 + (1 : Int32)).toNatClampNeg)) ((m_bottom σ x1.toNatClampNeg) * (m_bottom σ (x1 + (1 : Int32)).toNatClampNeg))))))
set_option maxRecDepth 20000 in
theorem km_times {l : Launch} {D : va_G} {cl : List vw_C} {G : gAd} {post : MS → Prop} (hcl : mC cl) {σ : MS} (h : wm_times post σ) : mMet l D cl G yX13_times cX13_times 2 none 3 [.ref (G.1 0)] σ (qV post) := by
  unfold wm_times at h
  refine m_enter hcl (by decide +kernel) rfl [(0, .ref (G.1 0))] rfl (Nat.le_of_ble_eq_true rfl) ?_
  intro E hE hm
  have hN := hm.2.2.2.2.2.2.1
  refine r_aload_n hE 0 dX13_times_0 rfl rfl ?_
  refine mg_piled hE hm dX13_times_1 ?_
  refine r_iconst (v := (2 : Int32)) hE dX13_times_4 (by decide) ?_
  refine r_isub hE dX13_times_5 ?_
  refine r_topi h (fun x1 ex1 h => ?_)
  refine r_istore_n hE [(1, .int x1), (0, .ref (G.1 0))] dX13_times_6 rfl hN (by decide) rfl ?_
  refine r_aload_n hE 1 dX13_times_7 rfl rfl ?_
  refine r_aload_n hE 1 dX13_times_8 rfl rfl ?_
  refine mg_top hE hm dX13_times_9 ?_
  refine r_iload_n hE 0 dX13_times_12 rfl rfl ?_
  obtain ⟨hi, h⟩ := h
  refine ml_top hE hm dX13_times_13 hi ?_
  refine r_aload_n hE 1 dX13_times_14 rfl rfl ?_
  refine mg_top hE hm dX13_times_15 ?_
  refine r_iload_n hE 0 dX13_times_18 rfl rfl ?_
  refine r_iconst (v := (1 : Int32)) hE dX13_times_19 (by decide) ?_
  refine r_iadd hE dX13_times_20 ?_
  obtain ⟨hi, h⟩ := h
  refine ml_top hE hm dX13_times_21 hi ?_
  refine r_lmul hE dX13_times_22 ?_
  refine r_aload_n hE 1 dX13_times_23 rfl rfl ?_
  refine mg_bottom hE hm dX13_times_24 ?_
  refine r_iload_n hE 0 dX13_times_27 rfl rfl ?_
  obtain ⟨hi, h⟩ := h
  refine ml_bottom hE hm dX13_times_28 hi ?_
  refine r_aload_n hE 1 dX13_times_29 rfl rfl ?_
  refine mg_bottom hE hm dX13_times_30 ?_
  refine r_iload_n hE 0 dX13_times_33 rfl rfl ?_
  refine r_iconst (v := (1 : Int32)) hE dX13_times_34 (by decide) ?_
  refine r_iadd hE dX13_times_35 ?_
  obtain ⟨hi, h⟩ := h
  refine ml_bottom hE hm dX13_times_36 hi ?_
  refine r_lmul hE dX13_times_37 ?_
  refine m_callVv hE hm [.long ((m_top σ x1.toNatClampNeg) * (m_top σ (x1 + (1 : Int32)).toNatClampNeg)), .long ((m_bottom σ x1.toNatClampNeg) * (m_bottom σ (x1 + (1 : Int32)).toNatClampNeg))] [] mc_come (km_come hm.2.2.2.2.2.2.2.2 h) (by decide) rfl rfl (Nat.le_of_ble_eq_true rfl) dX13_times_38 (fun s2 h => ?_)
  exact m_vret hE hm dX13_times_41 h
/-! by -/
def wm_by_108 (post : MS → Prop) (σ : MS) (t1 : Int64) (t2 : Int64) : Prop := wm_come (fun (s1 : MS) => post s1) σ t1 t2
set_option maxRecDepth 20000 in
theorem km_by_108 {E : gEnv} {l : Launch} {D : va_G} {cl : List vw_C} {G : gAd} {post : MS → Prop} (hE : gOK E cX13_by RX13 none 3) (hm : mOK E l D cl G (qV post) 7) (σ : MS) (t1 : Int64) (t2 : Int64) (h : wm_by_108 post σ t1 t2) : GW E (mW G σ) 108 [] [.long t2, .long t1, .ref (G.1 0)] := by
  unfold wm_by_108 at h
  have hN := hm.2.2.2.2.2.2.1
  refine m_callVv hE hm [.long t1, .long t2] [] mc_come (km_come hm.2.2.2.2.2.2.2.2 h) (by decide) rfl rfl (Nat.le_of_ble_eq_true rfl) dX13_by_108 (fun s1 h => ?_)
  exact m_vret hE hm dX13_by_111 h
def wm_by_96 (post : MS → Prop) (σ : MS) (v2 : Int32) (v5 : Int64) (t1 : Int64) : Prop := ((v2 = (0 : Int32)) → (wm_by_108 post σ t1 v5)) ∧ ((¬ (v2 = (0 : Int32))) → (wm_by_108 post σ t1 (-v5)))
set_option maxRecDepth 20000 in
theorem km_by_96 {E : gEnv} {l : Launch} {D : va_G} {cl : List vw_C} {G : gAd} {post : MS → Prop} (hE : gOK E cX13_by RX13 none 3) (hm : mOK E l D cl G (qV post) 7) (σ : MS) (v2 : Int32) (v5 : Int64) (t1 : Int64) (h : wm_by_96 post σ v2 v5 t1) : GW E (mW G σ) 96 [(2, .int v2), (5, .long v5)] [.long t1, .ref (G.1 0)] := by
  unfold wm_by_96 at h
  have hN := hm.2.2.2.2.2.2.1
  refine r_iload_n hE 0 dX13_by_96 rfl rfl ?_
  refine r_if_eq hE 106 dX13_by_97 (by decide) h (fun h => ?_) (fun h => ?_)
  · refine r_lload hE 1 dX13_by_106 rfl ?_
    refine r_pick [] rfl ?_
    exact km_by_108 hE hm _ _ _ h
  · refine r_lload hE 1 dX13_by_100 rfl ?_
    refine r_lneg hE dX13_by_102 ?_
    refine r_goto hE 108 dX13_by_103 (by decide) ?_
    refine r_pick [] rfl ?_
    exact km_by_108 hE hm _ _ _ h
def wm_by_51 (post : MS → Prop) (σ : MS) (v1 : Int32) (t0 : Int32) : Prop := vp_in v1 40 ∧ (vp_in (v1 + (1 : Int32)) 40 ∧ (∀ x2 : Int64, x2 = (m_top σ v1.toNatClampNeg) * (m_bottom σ (v1 + (1 : Int32)).toNatClampNeg) → vp_in v1 40 ∧ (vp_in (v1 + (1 : Int32)) 40 ∧ (∀ x3 : Int64, x3 = (m_bottom σ v1.toNatClampNeg) * (m_top σ (v1 + (1 : Int32)).toNatClampNeg) → ((t0 = (0 : Int32)) → (wm_by_96 post σ t0 x3 x2)) ∧ ((¬ (t0 = (0 : Int32))) → (wm_by_96 post σ t0 x3 (-x2)))))))
set_option maxRecDepth 20000 in
theorem km_by_51 {E : gEnv} {l : Launch} {D : va_G} {cl : List vw_C} {G : gAd} {post : MS → Prop} (hE : gOK E cX13_by RX13 none 3) (hm : mOK E l D cl G (qV post) 7) (σ : MS) (v1 : Int32) (t0 : Int32) (h : wm_by_51 post σ v1 t0) : GW E (mW G σ) 51 [(0, .ref (G.1 0)), (1, .int v1)] [.int t0] := by
  unfold wm_by_51 at h
  have hN := hm.2.2.2.2.2.2.1
  refine r_istore_n hE [(2, .int t0), (0, .ref (G.1 0)), (1, .int v1)] dX13_by_51 rfl hN (by decide) rfl ?_
  refine r_aload_n hE 1 dX13_by_52 rfl rfl ?_
  refine mg_top hE hm dX13_by_53 ?_
  refine r_iload_n hE 2 dX13_by_56 rfl rfl ?_
  obtain ⟨hi, h⟩ := h
  refine ml_top hE hm dX13_by_57 hi ?_
  refine r_aload_n hE 1 dX13_by_58 rfl rfl ?_
  refine mg_bottom hE hm dX13_by_59 ?_
  refine r_iload_n hE 2 dX13_by_62 rfl rfl ?_
  refine r_iconst (v := (1 : Int32)) hE dX13_by_63 (by decide) ?_
  refine r_iadd hE dX13_by_64 ?_
  obtain ⟨hi, h⟩ := h
  refine ml_bottom hE hm dX13_by_65 hi ?_
  refine r_lmul hE dX13_by_66 ?_
  refine r_topl h (fun x2 ex2 h => ?_)
  refine r_lstore_n hE [(3, .long x2), (2, .int t0), (0, .ref (G.1 0)), (1, .int v1)] dX13_by_67 rfl hN (by decide) rfl ?_
  refine r_aload_n hE 2 dX13_by_68 rfl rfl ?_
  refine mg_bottom hE hm dX13_by_69 ?_
  refine r_iload_n hE 3 dX13_by_72 rfl rfl ?_
  obtain ⟨hi, h⟩ := h
  refine ml_bottom hE hm dX13_by_73 hi ?_
  refine r_aload_n hE 2 dX13_by_74 rfl rfl ?_
  refine mg_top hE hm dX13_by_75 ?_
  refine r_iload_n hE 3 dX13_by_78 rfl rfl ?_
  refine r_iconst (v := (1 : Int32)) hE dX13_by_79 (by decide) ?_
  refine r_iadd hE dX13_by_80 ?_
  obtain ⟨hi, h⟩ := h
  refine ml_top hE hm dX13_by_81 hi ?_
  refine r_lmul hE dX13_by_82 ?_
  refine r_topl h (fun x3 ex3 h => ?_)
  refine r_lstore hE [(5, .long x3), (3, .long x2), (2, .int t0), (0, .ref (G.1 0)), (1, .int v1)] dX13_by_83 hN (by decide) rfl ?_
  refine r_aload_n hE 3 dX13_by_85 rfl rfl ?_
  refine r_iload_n hE 2 dX13_by_86 rfl rfl ?_
  refine r_if_eq hE 95 dX13_by_87 (by decide) h (fun h => ?_) (fun h => ?_)
  · refine r_lload_n hE 1 dX13_by_95 rfl rfl ?_
    refine r_pick [2, 0] rfl ?_
    exact km_by_96 hE hm _ _ _ _ h
  · refine r_lload_n hE 1 dX13_by_90 rfl rfl ?_
    refine r_lneg hE dX13_by_91 ?_
    refine r_goto hE 96 dX13_by_92 (by decide) ?_
    refine r_pick [2, 0] rfl ?_
    exact km_by_96 hE hm _ _ _ _ h
def wm_by (post : MS → Prop) (σ : MS) : Prop := ∀ x4 : Int32, x4 = (m_piled σ) - (2 : Int32) → vp_in (x4 + (1 : Int32)) 40 ∧ (((¬ ((lg_cmp (m_top σ (x4 + (1 : Int32)).toNatClampNeg) (0 : Int64)) = (0 : Int32))) → (vp_in (x4 + (1 : Int32)) 40 ∧ ((((0 : Int32) ≤ (lg_cmp (m_top σ (x4 + (1 : Int32)).toNatClampNeg) (0 : Int64))) → (wm_by_51 post σ x4 (0 : Int32))) ∧ ((¬ ((0 : Int32) ≤ (lg_cmp (m_top σ (x4 + (1 : Int32)).toNatClampNeg) (0 : Int64)))) → (wm_by_51 post σ x4 (1 : Int32)))))) ∧ (((lg_cmp (m_top σ (x4 + (1 : Int32)).toNatClampNeg) (0 : Int64)) = (0 : Int32)) → (wm_fail (fun (s5 : MS) => wm_come (fun (s6 : MS) => post s6) s5 (0 : Int64) (1 : Int64)) σ (6 : Int32))))
set_option maxRecDepth 20000 in
theorem km_by {l : Launch} {D : va_G} {cl : List vw_C} {G : gAd} {post : MS → Prop} (hcl : mC cl) {σ : MS} (h : wm_by post σ) : mMet l D cl G yX13_by cX13_by 7 none 3 [.ref (G.1 0)] σ (qV post) := by
  unfold wm_by at h
  refine m_enter hcl (by decide +kernel) rfl [(0, .ref (G.1 0))] rfl (Nat.le_of_ble_eq_true rfl) ?_
  intro E hE hm
  have hN := hm.2.2.2.2.2.2.1
  refine r_aload_n hE 0 dX13_by_0 rfl rfl ?_
  refine mg_piled hE hm dX13_by_1 ?_
  refine r_iconst (v := (2 : Int32)) hE dX13_by_4 (by decide) ?_
  refine r_isub hE dX13_by_5 ?_
  refine r_topi h (fun x4 ex4 h => ?_)
  refine r_istore_n hE [(1, .int x4), (0, .ref (G.1 0))] dX13_by_6 rfl hN (by decide) rfl ?_
  refine r_aload_n hE 1 dX13_by_7 rfl rfl ?_
  refine mg_top hE hm dX13_by_8 ?_
  refine r_iload_n hE 0 dX13_by_11 rfl rfl ?_
  refine r_iconst (v := (1 : Int32)) hE dX13_by_12 (by decide) ?_
  refine r_iadd hE dX13_by_13 ?_
  obtain ⟨hi, h⟩ := h
  refine ml_top hE hm dX13_by_14 hi ?_
  refine r_lconst (v := (0 : Int64)) hE dX13_by_15 (by decide) ?_
  refine r_lcmp hE dX13_by_16 ?_
  refine r_if_ne hE 33 dX13_by_17 (by decide) h (fun h => ?_) (fun h => ?_)
  · refine r_aload_n hE 1 dX13_by_33 rfl rfl ?_
    refine mg_top hE hm dX13_by_34 ?_
    refine r_iload_n hE 0 dX13_by_37 rfl rfl ?_
    refine r_iconst (v := (1 : Int32)) hE dX13_by_38 (by decide) ?_
    refine r_iadd hE dX13_by_39 ?_
    obtain ⟨hi, h⟩ := h
    refine ml_top hE hm dX13_by_40 hi ?_
    refine r_lconst (v := (0 : Int64)) hE dX13_by_41 (by decide) ?_
    refine r_lcmp hE dX13_by_42 ?_
    refine r_if_ge hE 50 dX13_by_43 (by decide) h (fun h => ?_) (fun h => ?_)
    · refine r_iconst (v := (0 : Int32)) hE dX13_by_50 (by decide) ?_
      refine r_pick [1, 0] rfl ?_
      exact km_by_51 hE hm _ _ _ h
    · refine r_iconst (v := (1 : Int32)) hE dX13_by_46 (by decide) ?_
      refine r_goto hE 51 dX13_by_47 (by decide) ?_
      refine r_pick [1, 0] rfl ?_
      exact km_by_51 hE hm _ _ _ h
  · refine r_aload_n hE 1 dX13_by_20 rfl rfl ?_
    refine r_bipush (v := (6 : Int32)) hE dX13_by_21 (by decide) ?_
    refine m_callVv hE hm [.int (6 : Int32)] [] mc_fail (km_fail hm.2.2.2.2.2.2.2.2 h) (by decide) rfl rfl (Nat.le_of_ble_eq_true rfl) dX13_by_23 (fun s5 h => ?_)
    refine r_aload_n hE 1 dX13_by_26 rfl rfl ?_
    refine r_lconst (v := (0 : Int64)) hE dX13_by_27 (by decide) ?_
    refine r_lconst (v := (1 : Int64)) hE dX13_by_28 (by decide) ?_
    refine m_callVv hE hm [.long (0 : Int64), .long (1 : Int64)] [] mc_come (km_come hm.2.2.2.2.2.2.2.2 h) (by decide) rfl rfl (Nat.le_of_ble_eq_true rfl) dX13_by_29 (fun s6 h => ?_)
    exact m_vret hE hm dX13_by_32 h
/-! negative -/
def wm_negative (post : MS → Prop) (σ : MS) : Prop := vp_in ((m_piled σ) - (1 : Int32)) 40 ∧ (vp_in ((m_piled σ) - (1 : Int32)) 40 ∧ (∀ s1 : MS, s1 = m_top_s σ ((m_piled σ) - (1 : Int32)).toNatClampNeg (-(m_top σ ((m_piled σ) - (1 : Int32)).toNatClampNeg)) → post s1))
set_option maxRecDepth 20000 in
theorem km_negative {l : Launch} {D : va_G} {cl : List vw_C} {G : gAd} {post : MS → Prop} (hcl : mC cl) {σ : MS} (h : wm_negative post σ) : mMet l D cl G yX13_negative cX13_negative 1 none 1 [.ref (G.1 0)] σ (qV post) := by
  unfold wm_negative at h
  refine m_enter hcl (by decide +kernel) rfl [(0, .ref (G.1 0))] rfl (Nat.le_of_ble_eq_true rfl) ?_
  intro E hE hm
  have hN := hm.2.2.2.2.2.2.1
  refine r_aload_n hE 0 dX13_negative_0 rfl rfl ?_
  refine mg_top hE hm dX13_negative_1 ?_
  refine r_aload_n hE 0 dX13_negative_4 rfl rfl ?_
  refine mg_piled hE hm dX13_negative_5 ?_
  refine r_iconst (v := (1 : Int32)) hE dX13_negative_8 (by decide) ?_
  refine r_isub hE dX13_negative_9 ?_
  refine r_aload_n hE 0 dX13_negative_10 rfl rfl ?_
  refine mg_top hE hm dX13_negative_11 ?_
  refine r_aload_n hE 0 dX13_negative_14 rfl rfl ?_
  refine mg_piled hE hm dX13_negative_15 ?_
  refine r_iconst (v := (1 : Int32)) hE dX13_negative_18 (by decide) ?_
  refine r_isub hE dX13_negative_19 ?_
  obtain ⟨hi, h⟩ := h
  refine ml_top hE hm dX13_negative_20 hi ?_
  refine r_lneg hE dX13_negative_21 ?_
  obtain ⟨hi, h⟩ := h
  refine ms_top hE hm dX13_negative_22 hi h (fun s1 h => ?_)
  exact m_vret hE hm dX13_negative_23 h
/-! compare -/
def wm_compare (post : MS → Int32 → Prop) (σ : MS) (a0 : Int64) (a2 : Int64) (a4 : Int64) (a6 : Int64) : Prop := ∀ x1 : Int64, x1 = a0 * a6 → ∀ x2 : Int64, x2 = a4 * a2 → (((0 : Int32) ≤ (lg_cmp x1 x2)) → ((((lg_cmp x1 x2) ≤ (0 : Int32)) → (post σ (0 : Int32))) ∧ ((¬ ((lg_cmp x1 x2) ≤ (0 : Int32))) → (post σ (1 : Int32))))) ∧ ((¬ ((0 : Int32) ≤ (lg_cmp x1 x2))) → (post σ (-1 : Int32)))
set_option maxRecDepth 20000 in
theorem km_compare {l : Launch} {D : va_G} {cl : List vw_C} {G : gAd} {post : MS → Int32 → Prop} (hcl : mC cl) {σ : MS} {a0 : Int64} {a2 : Int64} {a4 : Int64} {a6 : Int64} (h : wm_compare post σ a0 a2 a4 a6) : mMet l D cl G yX13_compare cX13_compare 12 (some .int) 1 [.long a0, .long a2, .long a4, .long a6] σ (qI post) := by
  unfold wm_compare at h
  refine m_enter hcl (by decide +kernel) rfl [(0, .long a0), (2, .long a2), (4, .long a4), (6, .long a6)] rfl (Nat.le_of_ble_eq_true rfl) ?_
  intro E hE hm
  have hN := hm.2.2.2.2.2.2.1
  refine r_lload_n hE 0 dX13_compare_0 rfl rfl ?_
  refine r_lload hE 3 dX13_compare_1 rfl ?_
  refine r_lmul hE dX13_compare_3 ?_
  refine r_topl h (fun x1 ex1 h => ?_)
  refine r_lstore hE [(8, .long x1), (0, .long a0), (2, .long a2), (4, .long a4), (6, .long a6)] dX13_compare_4 hN (by decide) rfl ?_
  refine r_lload hE 3 dX13_compare_6 rfl ?_
  refine r_lload_n hE 2 dX13_compare_8 rfl rfl ?_
  refine r_lmul hE dX13_compare_9 ?_
  refine r_topl h (fun x2 ex2 h => ?_)
  refine r_lstore hE [(10, .long x2), (8, .long x1), (0, .long a0), (2, .long a2), (4, .long a4), (6, .long a6)] dX13_compare_10 hN (by decide) rfl ?_
  refine r_lload hE 1 dX13_compare_12 rfl ?_
  refine r_lload hE 0 dX13_compare_14 rfl ?_
  refine r_lcmp hE dX13_compare_16 ?_
  refine r_if_ge hE 24 dX13_compare_17 (by decide) h (fun h => ?_) (fun h => ?_)
  · refine r_lload hE 1 dX13_compare_24 rfl ?_
    refine r_lload hE 0 dX13_compare_26 rfl ?_
    refine r_lcmp hE dX13_compare_28 ?_
    refine r_if_le hE 36 dX13_compare_29 (by decide) h (fun h => ?_) (fun h => ?_)
    · refine r_iconst (v := (0 : Int32)) hE dX13_compare_36 (by decide) ?_
      exact m_iret hE hm dX13_compare_37 h
    · refine r_iconst (v := (1 : Int32)) hE dX13_compare_32 (by decide) ?_
      refine r_goto hE 37 dX13_compare_33 (by decide) ?_
      exact m_iret hE hm dX13_compare_37 h
  · refine r_iconst (v := (-1 : Int32)) hE dX13_compare_20 (by decide) ?_
    refine r_goto hE 37 dX13_compare_21 (by decide) ?_
    exact m_iret hE hm dX13_compare_37 h
/-! newThing -/
def wm_newThing_22 (post : MS → Int32 → Prop) : Nat → MS → Int32 → Prop
  | 0, _, _ => False
  | n + 1, σ, v2 => (((7 : Int32) ≤ v2) → (∀ s1 : MS, s1 = m_things_s σ ((m_things σ) + (1 : Int32)) → post s1 ((m_things s1) - (1 : Int32)))) ∧ ((¬ ((7 : Int32) ≤ v2)) → (vp_in (((7 : Int32) * (m_things σ)) + v2) 3360 ∧ (∀ s2 : MS, s2 = m_up_s σ (((7 : Int32) * (m_things σ)) + v2).toNatClampNeg (0 : Int64) → vp_in (((7 : Int32) * (m_things s2)) + v2) 3360 ∧ (∀ s3 : MS, s3 = m_low_s s2 (((7 : Int32) * (m_things s2)) + v2).toNatClampNeg (1 : Int64) → ∀ x4 : Int32, x4 = v2 + (1 : Int32) → wm_newThing_22 post n s3 x4))))
set_option maxRecDepth 20000 in
theorem km_newThing_22 {E : gEnv} {l : Launch} {D : va_G} {cl : List vw_C} {G : gAd} {post : MS → Int32 → Prop} (hE : gOK E cX13_newThing RX13 (some .int) 1) (hm : mOK E l D cl G (qI post) 3) : ∀ (n : Nat) (σ : MS) (v2 : Int32), wm_newThing_22 post n σ v2 → GW E (mW G σ) 22 [(0, .ref (G.1 0)), (2, .int v2)] [] := by
  intro n
  induction n with
  | zero => intro σ v2 h; exact h.elim
  | succ n ih =>
    intro σ v2 h
    rw [wm_newThing_22] at h
    have hN := hm.2.2.2.2.2.2.1
    refine r_iload_n hE 1 dX13_newThing_22 rfl rfl ?_
    refine r_bipush (v := (7 : Int32)) hE dX13_newThing_23 (by decide) ?_
    refine r_icmp_ge hE 64 dX13_newThing_25 (by decide) h (fun h => ?_) (fun h => ?_)
    · refine r_aload_n hE 0 dX13_newThing_64 rfl rfl ?_
      refine r_dup hE dX13_newThing_65 rfl ?_
      refine mg_things hE hm dX13_newThing_66 ?_
      refine r_iconst (v := (1 : Int32)) hE dX13_newThing_69 (by decide) ?_
      refine r_iadd hE dX13_newThing_70 ?_
      refine mp_things hE hm dX13_newThing_71 h (fun s1 h => ?_)
      refine r_aload_n hE 0 dX13_newThing_74 rfl rfl ?_
      refine mg_things hE hm dX13_newThing_75 ?_
      refine r_iconst (v := (1 : Int32)) hE dX13_newThing_78 (by decide) ?_
      refine r_isub hE dX13_newThing_79 ?_
      exact m_iret hE hm dX13_newThing_80 h
    · refine r_aload_n hE 0 dX13_newThing_28 rfl rfl ?_
      refine mg_up hE hm dX13_newThing_29 ?_
      refine r_bipush (v := (7 : Int32)) hE dX13_newThing_32 (by decide) ?_
      refine r_aload_n hE 0 dX13_newThing_34 rfl rfl ?_
      refine mg_things hE hm dX13_newThing_35 ?_
      refine r_imul hE dX13_newThing_38 ?_
      refine r_iload_n hE 1 dX13_newThing_39 rfl rfl ?_
      refine r_iadd hE dX13_newThing_40 ?_
      refine r_lconst (v := (0 : Int64)) hE dX13_newThing_41 (by decide) ?_
      obtain ⟨hi, h⟩ := h
      refine ms_up hE hm dX13_newThing_42 hi h (fun s2 h => ?_)
      refine r_aload_n hE 0 dX13_newThing_43 rfl rfl ?_
      refine mg_low hE hm dX13_newThing_44 ?_
      refine r_bipush (v := (7 : Int32)) hE dX13_newThing_47 (by decide) ?_
      refine r_aload_n hE 0 dX13_newThing_49 rfl rfl ?_
      refine mg_things hE hm dX13_newThing_50 ?_
      refine r_imul hE dX13_newThing_53 ?_
      refine r_iload_n hE 1 dX13_newThing_54 rfl rfl ?_
      refine r_iadd hE dX13_newThing_55 ?_
      refine r_lconst (v := (1 : Int64)) hE dX13_newThing_56 (by decide) ?_
      obtain ⟨hi, h⟩ := h
      refine ms_low hE hm dX13_newThing_57 hi h (fun s3 h => ?_)
      obtain ⟨x4, ex4⟩ : ∃ z : Int32, z = v2 + (1 : Int32) := ⟨_, rfl⟩
      have h := h x4 ex4
      refine r_iinc (v := x4) hE [(2, .int x4), (0, .ref (G.1 0))] 1 dX13_newThing_58 rfl (by rw [ex4]; rfl) hN (by decide) rfl ?_
      refine r_goto hE 22 dX13_newThing_61 (by decide) ?_
      refine r_pick [1, 0] rfl ?_
      exact ih _ _ h
def wm_newThing (post : MS → Int32 → Prop) (σ : MS) (a1 : Int32) : Prop := vp_in (m_things σ) 480 ∧ (∀ s5 : MS, s5 = m_sort_s σ (m_things σ).toNatClampNeg a1 → vp_in (m_things s5) 480 ∧ (∀ s6 : MS, s6 = m_lean_s s5 (m_things s5).toNatClampNeg (0 : Int32) → ∃ k : Nat, wm_newThing_22 post k s6 (0 : Int32)))
set_option maxRecDepth 20000 in
theorem km_newThing {l : Launch} {D : va_G} {cl : List vw_C} {G : gAd} {post : MS → Int32 → Prop} (hcl : mC cl) {σ : MS} {a1 : Int32} (h : wm_newThing post σ a1) : mMet l D cl G yX13_newThing cX13_newThing 3 (some .int) 1 [.ref (G.1 0), .int a1] σ (qI post) := by
  unfold wm_newThing at h
  refine m_enter hcl (by decide +kernel) rfl [(0, .ref (G.1 0)), (1, .int a1)] rfl (Nat.le_of_ble_eq_true rfl) ?_
  intro E hE hm
  have hN := hm.2.2.2.2.2.2.1
  refine r_aload_n hE 0 dX13_newThing_0 rfl rfl ?_
  refine mg_sort hE hm dX13_newThing_1 ?_
  refine r_aload_n hE 0 dX13_newThing_4 rfl rfl ?_
  refine mg_things hE hm dX13_newThing_5 ?_
  refine r_iload_n hE 1 dX13_newThing_8 rfl rfl ?_
  obtain ⟨hi, h⟩ := h
  refine ms_sort hE hm dX13_newThing_9 hi h (fun s5 h => ?_)
  refine r_aload_n hE 0 dX13_newThing_10 rfl rfl ?_
  refine mg_lean hE hm dX13_newThing_11 ?_
  refine r_aload_n hE 0 dX13_newThing_14 rfl rfl ?_
  refine mg_things hE hm dX13_newThing_15 ?_
  refine r_iconst (v := (0 : Int32)) hE dX13_newThing_18 (by decide) ?_
  obtain ⟨hi, h⟩ := h
  refine ms_lean hE hm dX13_newThing_19 hi h (fun s6 h => ?_)
  refine r_iconst (v := (0 : Int32)) hE dX13_newThing_20 (by decide) ?_
  refine r_istore_n hE [(2, .int (0 : Int32)), (0, .ref (G.1 0)), (1, .int a1)] dX13_newThing_21 rfl hN (by decide) rfl ?_
  refine r_pick [1, 0] rfl ?_
  obtain ⟨k, h⟩ := h
  exact km_newThing_22 hE hm k _ _ h
/-! part -/
def wm_part (post : MS → Prop) (σ : MS) (a1 : Int32) (a2 : Int32) : Prop := vp_in (((7 : Int32) * a1) + a2) 3360 ∧ (vp_in (((7 : Int32) * a1) + a2) 3360 ∧ (wm_push (fun (s1 : MS) => post s1) σ (m_up σ (((7 : Int32) * a1) + a2).toNatClampNeg) (m_low σ (((7 : Int32) * a1) + a2).toNatClampNeg)))
set_option maxRecDepth 20000 in
theorem km_part {l : Launch} {D : va_G} {cl : List vw_C} {G : gAd} {post : MS → Prop} (hcl : mC cl) {σ : MS} {a1 : Int32} {a2 : Int32} (h : wm_part post σ a1 a2) : mMet l D cl G yX13_part cX13_part 3 none 2 [.ref (G.1 0), .int a1, .int a2] σ (qV post) := by
  unfold wm_part at h
  refine m_enter hcl (by decide +kernel) rfl [(0, .ref (G.1 0)), (1, .int a1), (2, .int a2)] rfl (Nat.le_of_ble_eq_true rfl) ?_
  intro E hE hm
  have hN := hm.2.2.2.2.2.2.1
  refine r_aload_n hE 0 dX13_part_0 rfl rfl ?_
  refine r_aload_n hE 0 dX13_part_1 rfl rfl ?_
  refine mg_up hE hm dX13_part_2 ?_
  refine r_bipush (v := (7 : Int32)) hE dX13_part_5 (by decide) ?_
  refine r_iload_n hE 1 dX13_part_7 rfl rfl ?_
  refine r_imul hE dX13_part_8 ?_
  refine r_iload_n hE 2 dX13_part_9 rfl rfl ?_
  refine r_iadd hE dX13_part_10 ?_
  obtain ⟨hi, h⟩ := h
  refine ml_up hE hm dX13_part_11 hi ?_
  refine r_aload_n hE 0 dX13_part_12 rfl rfl ?_
  refine mg_low hE hm dX13_part_13 ?_
  refine r_bipush (v := (7 : Int32)) hE dX13_part_16 (by decide) ?_
  refine r_iload_n hE 1 dX13_part_18 rfl rfl ?_
  refine r_imul hE dX13_part_19 ?_
  refine r_iload_n hE 2 dX13_part_20 rfl rfl ?_
  refine r_iadd hE dX13_part_21 ?_
  obtain ⟨hi, h⟩ := h
  refine ml_low hE hm dX13_part_22 hi ?_
  refine m_callVv hE hm [.long (m_up σ (((7 : Int32) * a1) + a2).toNatClampNeg), .long (m_low σ (((7 : Int32) * a1) + a2).toNatClampNeg)] [] mc_push (km_push hm.2.2.2.2.2.2.2.2 h) (by decide) rfl rfl (Nat.le_of_ble_eq_true rfl) dX13_part_23 (fun s1 h => ?_)
  exact m_vret hE hm dX13_part_26 h
/-! keep -/
def wm_keep (post : MS → Prop) (σ : MS) (a1 : Int32) (a2 : Int32) : Prop := ∀ s1 : MS, s1 = m_piled_s σ ((m_piled σ) - (1 : Int32)) → vp_in (m_piled s1) 40 ∧ (vp_in (((7 : Int32) * a1) + a2) 3360 ∧ (∀ s2 : MS, s2 = m_up_s s1 (((7 : Int32) * a1) + a2).toNatClampNeg (m_top s1 (m_piled s1).toNatClampNeg) → vp_in (m_piled s2) 40 ∧ (vp_in (((7 : Int32) * a1) + a2) 3360 ∧ (∀ s3 : MS, s3 = m_low_s s2 (((7 : Int32) * a1) + a2).toNatClampNeg (m_bottom s2 (m_piled s2).toNatClampNeg) → post s3))))
set_option maxRecDepth 20000 in
theorem km_keep {l : Launch} {D : va_G} {cl : List vw_C} {G : gAd} {post : MS → Prop} (hcl : mC cl) {σ : MS} {a1 : Int32} {a2 : Int32} (h : wm_keep post σ a1 a2) : mMet l D cl G yX13_keep cX13_keep 3 none 1 [.ref (G.1 0), .int a1, .int a2] σ (qV post) := by
  unfold wm_keep at h
  refine m_enter hcl (by decide +kernel) rfl [(0, .ref (G.1 0)), (1, .int a1), (2, .int a2)] rfl (Nat.le_of_ble_eq_true rfl) ?_
  intro E hE hm
  have hN := hm.2.2.2.2.2.2.1
  refine r_aload_n hE 0 dX13_keep_0 rfl rfl ?_
  refine r_dup hE dX13_keep_1 rfl ?_
  refine mg_piled hE hm dX13_keep_2 ?_
  refine r_iconst (v := (1 : Int32)) hE dX13_keep_5 (by decide) ?_
  refine r_isub hE dX13_keep_6 ?_
  refine mp_piled hE hm dX13_keep_7 h (fun s1 h => ?_)
  refine r_aload_n hE 0 dX13_keep_10 rfl rfl ?_
  refine mg_up hE hm dX13_keep_11 ?_
  refine r_bipush (v := (7 : Int32)) hE dX13_keep_14 (by decide) ?_
  refine r_iload_n hE 1 dX13_keep_16 rfl rfl ?_
  refine r_imul hE dX13_keep_17 ?_
  refine r_iload_n hE 2 dX13_keep_18 rfl rfl ?_
  refine r_iadd hE dX13_keep_19 ?_
  refine r_aload_n hE 0 dX13_keep_20 rfl rfl ?_
  refine mg_top hE hm dX13_keep_21 ?_
  refine r_aload_n hE 0 dX13_keep_24 rfl rfl ?_
  refine mg_piled hE hm dX13_keep_25 ?_
  obtain ⟨hi, h⟩ := h
  refine ml_top hE hm dX13_keep_28 hi ?_
  obtain ⟨hi, h⟩ := h
  refine ms_up hE hm dX13_keep_29 hi h (fun s2 h => ?_)
  refine r_aload_n hE 0 dX13_keep_30 rfl rfl ?_
  refine mg_low hE hm dX13_keep_31 ?_
  refine r_bipush (v := (7 : Int32)) hE dX13_keep_34 (by decide) ?_
  refine r_iload_n hE 1 dX13_keep_36 rfl rfl ?_
  refine r_imul hE dX13_keep_37 ?_
  refine r_iload_n hE 2 dX13_keep_38 rfl rfl ?_
  refine r_iadd hE dX13_keep_39 ?_
  refine r_aload_n hE 0 dX13_keep_40 rfl rfl ?_
  refine mg_bottom hE hm dX13_keep_41 ?_
  refine r_aload_n hE 0 dX13_keep_44 rfl rfl ?_
  refine mg_piled hE hm dX13_keep_45 ?_
  obtain ⟨hi, h⟩ := h
  refine ml_bottom hE hm dX13_keep_48 hi ?_
  obtain ⟨hi, h⟩ := h
  refine ms_low hE hm dX13_keep_49 hi h (fun s3 h => ?_)
  exact m_vret hE hm dX13_keep_50 h
/-! isPoint -/
def wm_isPoint_10 (post : MS → Int32 → Prop) (σ : MS) : Prop := post σ (1 : Int32)
set_option maxRecDepth 20000 in
theorem km_isPoint_10 {E : gEnv} {l : Launch} {D : va_G} {cl : List vw_C} {G : gAd} {post : MS → Int32 → Prop} (hE : gOK E cX13_isPoint RX13 (some .boolean) 1) (hm : mOK E l D cl G (qI post) 1) (σ : MS) (h : wm_isPoint_10 post σ) : GW E (mW G σ) 10 [] [] := by
  unfold wm_isPoint_10 at h
  have hN := hm.2.2.2.2.2.2.1
  refine r_iconst (v := (1 : Int32)) hE dX13_isPoint_10 (by decide) ?_
  refine r_goto hE 15 dX13_isPoint_11 (by decide) ?_
  exact m_zret hE hm dX13_isPoint_15 (Or.inr rfl) h
def wm_isPoint (post : MS → Int32 → Prop) (σ : MS) (a0 : Int32) : Prop := ((a0 = (1 : Int32)) → (wm_isPoint_10 post σ)) ∧ ((¬ (a0 = (1 : Int32))) → (((¬ (a0 = (2 : Int32))) → (post σ (0 : Int32))) ∧ ((a0 = (2 : Int32)) → (wm_isPoint_10 post σ))))
set_option maxRecDepth 20000 in
theorem km_isPoint {l : Launch} {D : va_G} {cl : List vw_C} {G : gAd} {post : MS → Int32 → Prop} (hcl : mC cl) {σ : MS} {a0 : Int32} (h : wm_isPoint post σ a0) : mMet l D cl G yX13_isPoint cX13_isPoint 1 (some .boolean) 1 [.int a0] σ (qI post) := by
  unfold wm_isPoint at h
  refine m_enter hcl (by decide +kernel) rfl [(0, .int a0)] rfl (Nat.le_of_ble_eq_true rfl) ?_
  intro E hE hm
  have hN := hm.2.2.2.2.2.2.1
  refine r_iload_n hE 0 dX13_isPoint_0 rfl rfl ?_
  refine r_iconst (v := (1 : Int32)) hE dX13_isPoint_1 (by decide) ?_
  refine r_icmp_eq hE 10 dX13_isPoint_2 (by decide) h (fun h => ?_) (fun h => ?_)
  · refine r_pick [] rfl ?_
    exact km_isPoint_10 hE hm _ h
  · refine r_iload_n hE 0 dX13_isPoint_5 rfl rfl ?_
    refine r_iconst (v := (2 : Int32)) hE dX13_isPoint_6 (by decide) ?_
    refine r_icmp_ne hE 14 dX13_isPoint_7 (by decide) h (fun h => ?_) (fun h => ?_)
    · refine r_iconst (v := (0 : Int32)) hE dX13_isPoint_14 (by decide) ?_
      exact m_zret hE hm dX13_isPoint_15 (Or.inl rfl) h
    · refine r_pick [] rfl ?_
      exact km_isPoint_10 hE hm _ h
/-! isLine -/
def wm_isLine_10 (post : MS → Int32 → Prop) (σ : MS) : Prop := post σ (1 : Int32)
set_option maxRecDepth 20000 in
theorem km_isLine_10 {E : gEnv} {l : Launch} {D : va_G} {cl : List vw_C} {G : gAd} {post : MS → Int32 → Prop} (hE : gOK E cX13_isLine RX13 (some .boolean) 1) (hm : mOK E l D cl G (qI post) 1) (σ : MS) (h : wm_isLine_10 post σ) : GW E (mW G σ) 10 [] [] := by
  unfold wm_isLine_10 at h
  have hN := hm.2.2.2.2.2.2.1
  refine r_iconst (v := (1 : Int32)) hE dX13_isLine_10 (by decide) ?_
  refine r_goto hE 15 dX13_isLine_11 (by decide) ?_
  exact m_zret hE hm dX13_isLine_15 (Or.inr rfl) h
def wm_isLine (post : MS → Int32 → Prop) (σ : MS) (a0 : Int32) : Prop := ((a0 = (3 : Int32)) → (wm_isLine_10 post σ)) ∧ ((¬ (a0 = (3 : Int32))) → (((¬ (a0 = (4 : Int32))) → (post σ (0 : Int32))) ∧ ((a0 = (4 : Int32)) → (wm_isLine_10 post σ))))
set_option maxRecDepth 20000 in
theorem km_isLine {l : Launch} {D : va_G} {cl : List vw_C} {G : gAd} {post : MS → Int32 → Prop} (hcl : mC cl) {σ : MS} {a0 : Int32} (h : wm_isLine post σ a0) : mMet l D cl G yX13_isLine cX13_isLine 1 (some .boolean) 1 [.int a0] σ (qI post) := by
  unfold wm_isLine at h
  refine m_enter hcl (by decide +kernel) rfl [(0, .int a0)] rfl (Nat.le_of_ble_eq_true rfl) ?_
  intro E hE hm
  have hN := hm.2.2.2.2.2.2.1
  refine r_iload_n hE 0 dX13_isLine_0 rfl rfl ?_
  refine r_iconst (v := (3 : Int32)) hE dX13_isLine_1 (by decide) ?_
  refine r_icmp_eq hE 10 dX13_isLine_2 (by decide) h (fun h => ?_) (fun h => ?_)
  · refine r_pick [] rfl ?_
    exact km_isLine_10 hE hm _ h
  · refine r_iload_n hE 0 dX13_isLine_5 rfl rfl ?_
    refine r_iconst (v := (4 : Int32)) hE dX13_isLine_6 (by decide) ?_
    refine r_icmp_ne hE 14 dX13_isLine_7 (by decide) h (fun h => ?_) (fun h => ?_)
    · refine r_iconst (v := (0 : Int32)) hE dX13_isLine_14 (by decide) ?_
      exact m_zret hE hm dX13_isLine_15 (Or.inl rfl) h
    · refine r_pick [] rfl ?_
      exact km_isLine_10 hE hm _ h
/-! normal -/
def wm_normal_48 (post : MS → Prop) : Nat → MS → Int32 → Int64 → Int64 → Int32 → Prop
  | 0, _, _, _, _, _ => False
  | n + 1, σ, v1, v3, v5, v7 => (((3 : Int32) ≤ v7) → (post σ)) ∧ ((¬ ((3 : Int32) ≤ v7)) → (wm_part (fun (s1 : MS) => wm_push (fun (s2 : MS) => wm_by (fun (s3 : MS) => wm_keep (fun (s4 : MS) => ∀ x5 : Int32, x5 = v7 + (1 : Int32) → wm_normal_48 post n s4 v1 v3 v5 x5) s3 v1 v7) s2) s1 v3 v5) σ v1 v7))
set_option maxRecDepth 20000 in
theorem km_normal_48 {E : gEnv} {l : Launch} {D : va_G} {cl : List vw_C} {G : gAd} {post : MS → Prop} (hE : gOK E cX13_normal RX13 none 4) (hm : mOK E l D cl G (qV post) 8) : ∀ (n : Nat) (σ : MS) (v1 : Int32) (v3 : Int64) (v5 : Int64) (v7 : Int32), wm_normal_48 post n σ v1 v3 v5 v7 → GW E (mW G σ) 48 [(0, .ref (G.1 0)), (1, .int v1), (3, .long v3), (5, .long v5), (7, .int v7)] [] := by
  intro n
  induction n with
  | zero => intro σ v1 v3 v5 v7 h; exact h.elim
  | succ n ih =>
    intro σ v1 v3 v5 v7 h
    rw [wm_normal_48] at h
    have hN := hm.2.2.2.2.2.2.1
    refine r_iload hE 4 dX13_normal_48 rfl ?_
    refine r_iconst (v := (3 : Int32)) hE dX13_normal_50 (by decide) ?_
    refine r_icmp_ge hE 85 dX13_normal_51 (by decide) h (fun h => ?_) (fun h => ?_)
    · exact m_vret hE hm dX13_normal_85 h
    · refine r_aload_n hE 0 dX13_normal_54 rfl rfl ?_
      refine r_iload_n hE 1 dX13_normal_55 rfl rfl ?_
      refine r_iload hE 4 dX13_normal_56 rfl ?_
      refine m_callVv hE hm [.int v1, .int v7] [] mc_part (km_part hm.2.2.2.2.2.2.2.2 h) (by decide) rfl rfl (Nat.le_of_ble_eq_true rfl) dX13_normal_58 (fun s1 h => ?_)
      refine r_aload_n hE 0 dX13_normal_61 rfl rfl ?_
      refine r_lload_n hE 2 dX13_normal_62 rfl rfl ?_
      refine r_lload hE 3 dX13_normal_63 rfl ?_
      refine m_callVv hE hm [.long v3, .long v5] [] mc_push (km_push hm.2.2.2.2.2.2.2.2 h) (by decide) rfl rfl (Nat.le_of_ble_eq_true rfl) dX13_normal_65 (fun s2 h => ?_)
      refine r_aload_n hE 0 dX13_normal_68 rfl rfl ?_
      refine m_callVv hE hm [] [] mc_by (km_by hm.2.2.2.2.2.2.2.2 h) (by decide) rfl rfl (Nat.le_of_ble_eq_true rfl) dX13_normal_69 (fun s3 h => ?_)
      refine r_aload_n hE 0 dX13_normal_72 rfl rfl ?_
      refine r_iload_n hE 1 dX13_normal_73 rfl rfl ?_
      refine r_iload hE 4 dX13_normal_74 rfl ?_
      refine m_callVv hE hm [.int v1, .int v7] [] mc_keep (km_keep hm.2.2.2.2.2.2.2.2 h) (by decide) rfl rfl (Nat.le_of_ble_eq_true rfl) dX13_normal_76 (fun s4 h => ?_)
      obtain ⟨x5, ex5⟩ : ∃ z : Int32, z = v7 + (1 : Int32) := ⟨_, rfl⟩
      have h := h x5 ex5
      refine r_iinc (v := x5) hE [(7, .int x5), (0, .ref (G.1 0)), (1, .int v1), (3, .long v3), (5, .long v5)] 4 dX13_normal_79 rfl (by rw [ex5]; rfl) hN (by decide) rfl ?_
      refine r_goto hE 48 dX13_normal_82 (by decide) ?_
      refine r_pick [1, 2, 3, 4, 0] rfl ?_
      exact ih _ _ _ _ _ h
def wm_normal_19 (post : MS → Prop) (σ : MS) (v1 : Int32) (t0 : Int32) : Prop := vp_in (((7 : Int32) * v1) + t0) 3360 ∧ (∀ x6 : Int64, x6 = m_up σ (((7 : Int32) * v1) + t0).toNatClampNeg → vp_in (((7 : Int32) * v1) + t0) 3360 ∧ (∀ x7 : Int64, x7 = m_low σ (((7 : Int32) * v1) + t0).toNatClampNeg → ∃ k : Nat, wm_normal_48 post k σ v1 x6 x7 (0 : Int32)))
set_option maxRecDepth 20000 in
theorem km_normal_19 {E : gEnv} {l : Launch} {D : va_G} {cl : List vw_C} {G : gAd} {post : MS → Prop} (hE : gOK E cX13_normal RX13 none 4) (hm : mOK E l D cl G (qV post) 8) (σ : MS) (v1 : Int32) (t0 : Int32) (h : wm_normal_19 post σ v1 t0) : GW E (mW G σ) 19 [(0, .ref (G.1 0)), (1, .int v1)] [.int t0] := by
  unfold wm_normal_19 at h
  have hN := hm.2.2.2.2.2.2.1
  refine r_istore_n hE [(2, .int t0), (0, .ref (G.1 0)), (1, .int v1)] dX13_normal_19 rfl hN (by decide) rfl ?_
  refine r_aload_n hE 1 dX13_normal_20 rfl rfl ?_
  refine mg_up hE hm dX13_normal_21 ?_
  refine r_bipush (v := (7 : Int32)) hE dX13_normal_24 (by decide) ?_
  refine r_iload_n hE 2 dX13_normal_26 rfl rfl ?_
  refine r_imul hE dX13_normal_27 ?_
  refine r_iload_n hE 0 dX13_normal_28 rfl rfl ?_
  refine r_iadd hE dX13_normal_29 ?_
  obtain ⟨hi, h⟩ := h
  refine ml_up hE hm dX13_normal_30 hi ?_
  refine r_topl h (fun x6 ex6 h => ?_)
  refine r_lstore_n hE [(3, .long x6), (2, .int t0), (0, .ref (G.1 0)), (1, .int v1)] dX13_normal_31 rfl hN (by decide) rfl ?_
  refine r_aload_n hE 2 dX13_normal_32 rfl rfl ?_
  refine mg_low hE hm dX13_normal_33 ?_
  refine r_bipush (v := (7 : Int32)) hE dX13_normal_36 (by decide) ?_
  refine r_iload_n hE 3 dX13_normal_38 rfl rfl ?_
  refine r_imul hE dX13_normal_39 ?_
  refine r_iload_n hE 1 dX13_normal_40 rfl rfl ?_
  refine r_iadd hE dX13_normal_41 ?_
  obtain ⟨hi, h⟩ := h
  refine ml_low hE hm dX13_normal_42 hi ?_
  refine r_topl h (fun x7 ex7 h => ?_)
  refine r_lstore hE [(5, .long x7), (3, .long x6), (2, .int t0), (0, .ref (G.1 0)), (1, .int v1)] dX13_normal_43 hN (by decide) rfl ?_
  refine r_iconst (v := (0 : Int32)) hE dX13_normal_45 (by decide) ?_
  refine r_istore hE [(7, .int (0 : Int32)), (5, .long x7), (3, .long x6), (2, .int t0), (0, .ref (G.1 0)), (1, .int v1)] dX13_normal_46 hN (by decide) rfl ?_
  refine r_pick [4, 5, 2, 1, 0] rfl ?_
  obtain ⟨k, h⟩ := h
  exact km_normal_48 hE hm k _ _ _ _ _ h
def wm_normal (post : MS → Prop) (σ : MS) (a1 : Int32) : Prop := vp_in ((7 : Int32) * a1) 3360 ∧ ((((lg_cmp (m_up σ ((7 : Int32) * a1).toNatClampNeg) (0 : Int64)) = (0 : Int32)) → (wm_normal_19 post σ a1 (1 : Int32))) ∧ ((¬ ((lg_cmp (m_up σ ((7 : Int32) * a1).toNatClampNeg) (0 : Int64)) = (0 : Int32))) → (wm_normal_19 post σ a1 (0 : Int32))))
set_option maxRecDepth 20000 in
theorem km_normal {l : Launch} {D : va_G} {cl : List vw_C} {G : gAd} {post : MS → Prop} (hcl : mC cl) {σ : MS} {a1 : Int32} (h : wm_normal post σ a1) : mMet l D cl G yX13_normal cX13_normal 8 none 4 [.ref (G.1 0), .int a1] σ (qV post) := by
  unfold wm_normal at h
  refine m_enter hcl (by decide +kernel) rfl [(0, .ref (G.1 0)), (1, .int a1)] rfl (Nat.le_of_ble_eq_true rfl) ?_
  intro E hE hm
  have hN := hm.2.2.2.2.2.2.1
  refine r_aload_n hE 0 dX13_normal_0 rfl rfl ?_
  refine mg_up hE hm dX13_normal_1 ?_
  refine r_bipush (v := (7 : Int32)) hE dX13_normal_4 (by decide) ?_
  refine r_iload_n hE 1 dX13_normal_6 rfl rfl ?_
  refine r_imul hE dX13_normal_7 ?_
  obtain ⟨hi, h⟩ := h
  refine ml_up hE hm dX13_normal_8 hi ?_
  refine r_lconst (v := (0 : Int64)) hE dX13_normal_9 (by decide) ?_
  refine r_lcmp hE dX13_normal_10 ?_
  refine r_if_eq hE 18 dX13_normal_11 (by decide) h (fun h => ?_) (fun h => ?_)
  · refine r_iconst (v := (1 : Int32)) hE dX13_normal_18 (by decide) ?_
    exact km_normal_19 hE hm _ _ _ h
  · refine r_iconst (v := (0 : Int32)) hE dX13_normal_14 (by decide) ?_
    refine r_goto hE 19 dX13_normal_15 (by decide) ?_
    exact km_normal_19 hE hm _ _ _ h
/-! line -/
def wm_line_130 (post : MS → Int32 → Prop) : Nat → MS → Int32 → Int32 → Int32 → Int32 → Prop
  | 0, _, _, _, _, _ => False
  | n + 1, σ, v1, v2, v4, v5 => (((2 : Int32) ≤ v5) → (post σ v4)) ∧ ((¬ ((2 : Int32) ≤ v5)) → (wm_part (fun (s1 : MS) => wm_keep (fun (s2 : MS) => wm_part (fun (s3 : MS) => wm_keep (fun (s4 : MS) => ∀ x5 : Int32, x5 = v5 + (1 : Int32) → wm_line_130 post n s4 v1 v2 v4 x5) s3 v4 ((5 : Int32) + v5)) s2 v2 v5) s1 v4 ((3 : Int32) + v5)) σ v1 v5))
set_option maxRecDepth 20000 in
theorem km_line_130 {E : gEnv} {l : Launch} {D : va_G} {cl : List vw_C} {G : gAd} {post : MS → Int32 → Prop} (hE : gOK E cX13_line RX13 (some .int) 5) (hm : mOK E l D cl G (qI post) 6) : ∀ (n : Nat) (σ : MS) (v1 : Int32) (v2 : Int32) (v4 : Int32) (v5 : Int32), wm_line_130 post n σ v1 v2 v4 v5 → GW E (mW G σ) 130 [(0, .ref (G.1 0)), (1, .int v1), (2, .int v2), (4, .int v4), (5, .int v5)] [] := by
  intro n
  induction n with
  | zero => intro σ v1 v2 v4 v5 h; exact h.elim
  | succ n ih =>
    intro σ v1 v2 v4 v5 h
    rw [wm_line_130] at h
    have hN := hm.2.2.2.2.2.2.1
    refine r_iload hE 4 dX13_line_130 rfl ?_
    refine r_iconst (v := (2 : Int32)) hE dX13_line_132 (by decide) ?_
    refine r_icmp_ge hE 176 dX13_line_133 (by decide) h (fun h => ?_) (fun h => ?_)
    · refine r_iload hE 3 dX13_line_176 rfl ?_
      exact m_iret hE hm dX13_line_178 h
    · refine r_aload_n hE 0 dX13_line_136 rfl rfl ?_
      refine r_iload_n hE 1 dX13_line_137 rfl rfl ?_
      refine r_iload hE 4 dX13_line_138 rfl ?_
      refine m_callVv hE hm [.int v1, .int v5] [] mc_part (km_part hm.2.2.2.2.2.2.2.2 h) (by decide) rfl rfl (Nat.le_of_ble_eq_true rfl) dX13_line_140 (fun s1 h => ?_)
      refine r_aload_n hE 0 dX13_line_143 rfl rfl ?_
      refine r_iload hE 3 dX13_line_144 rfl ?_
      refine r_iconst (v := (3 : Int32)) hE dX13_line_146 (by decide) ?_
      refine r_iload hE 4 dX13_line_147 rfl ?_
      refine r_iadd hE dX13_line_149 ?_
      refine m_callVv hE hm [.int v4, .int ((3 : Int32) + v5)] [] mc_keep (km_keep hm.2.2.2.2.2.2.2.2 h) (by decide) rfl rfl (Nat.le_of_ble_eq_true rfl) dX13_line_150 (fun s2 h => ?_)
      refine r_aload_n hE 0 dX13_line_153 rfl rfl ?_
      refine r_iload_n hE 2 dX13_line_154 rfl rfl ?_
      refine r_iload hE 4 dX13_line_155 rfl ?_
      refine m_callVv hE hm [.int v2, .int v5] [] mc_part (km_part hm.2.2.2.2.2.2.2.2 h) (by decide) rfl rfl (Nat.le_of_ble_eq_true rfl) dX13_line_157 (fun s3 h => ?_)
      refine r_aload_n hE 0 dX13_line_160 rfl rfl ?_
      refine r_iload hE 3 dX13_line_161 rfl ?_
      refine r_iconst (v := (5 : Int32)) hE dX13_line_163 (by decide) ?_
      refine r_iload hE 4 dX13_line_164 rfl ?_
      refine r_iadd hE dX13_line_166 ?_
      refine m_callVv hE hm [.int v4, .int ((5 : Int32) + v5)] [] mc_keep (km_keep hm.2.2.2.2.2.2.2.2 h) (by decide) rfl rfl (Nat.le_of_ble_eq_true rfl) dX13_line_167 (fun s4 h => ?_)
      obtain ⟨x5, ex5⟩ : ∃ z : Int32, z = v5 + (1 : Int32) := ⟨_, rfl⟩
      have h := h x5 ex5
      refine r_iinc (v := x5) hE [(5, .int x5), (0, .ref (G.1 0)), (1, .int v1), (2, .int v2), (4, .int v4)] 4 dX13_line_170 rfl (by rw [ex5]; rfl) hN (by decide) rfl ?_
      refine r_goto hE 130 dX13_line_173 (by decide) ?_
      refine r_pick [1, 2, 3, 4, 0] rfl ?_
      exact ih _ _ _ _ _ h
def wm_line (post : MS → Int32 → Prop) (σ : MS) (a1 : Int32) (a2 : Int32) (a3 : Int32) : Prop := wm_newThing (fun (s6 : MS) (r7 : Int32) => wm_part (fun (s8 : MS) => wm_part (fun (s9 : MS) => wm_less (fun (s10 : MS) => wm_keep (fun (s11 : MS) => wm_part (fun (s12 : MS) => wm_part (fun (s13 : MS) => wm_less (fun (s14 : MS) => wm_keep (fun (s15 : MS) => wm_part (fun (s16 : MS) => wm_part (fun (s17 : MS) => wm_less (fun (s18 : MS) => wm_part (fun (s19 : MS) => wm_times (fun (s20 : MS) => wm_part (fun (s21 : MS) => wm_part (fun (s22 : MS) => wm_less (fun (s23 : MS) => wm_part (fun (s24 : MS) => wm_times (fun (s25 : MS) => wm_plus (fun (s26 : MS) => wm_keep (fun (s27 : MS) => wm_normal (fun (s28 : MS) => ((¬ (a3 = (4 : Int32))) → (post s28 r7)) ∧ ((a3 = (4 : Int32)) → (∃ k : Nat, wm_line_130 post k s28 a1 a2 r7 (0 : Int32)))) s27 r7) s26 r7 (2 : Int32)) s25) s24) s23 a1 (1 : Int32)) s22) s21 a1 (0 : Int32)) s20 a2 (0 : Int32)) s19) s18 a1 (0 : Int32)) s17) s16 a2 (1 : Int32)) s15 a1 (1 : Int32)) s14 r7 (1 : Int32)) s13) s12 a1 (0 : Int32)) s11 a2 (0 : Int32)) s10 r7 (0 : Int32)) s9) s8 a2 (1 : Int32)) s6 a1 (1 : Int32)) σ a3
set_option maxRecDepth 20000 in
theorem km_line {l : Launch} {D : va_G} {cl : List vw_C} {G : gAd} {post : MS → Int32 → Prop} (hcl : mC cl) {σ : MS} {a1 : Int32} {a2 : Int32} {a3 : Int32} (h : wm_line post σ a1 a2 a3) : mMet l D cl G yX13_line cX13_line 6 (some .int) 5 [.ref (G.1 0), .int a1, .int a2, .int a3] σ (qI post) := by
  unfold wm_line at h
  refine m_enter hcl (by decide +kernel) rfl [(0, .ref (G.1 0)), (1, .int a1), (2, .int a2), (3, .int a3)] rfl (Nat.le_of_ble_eq_true rfl) ?_
  intro E hE hm
  have hN := hm.2.2.2.2.2.2.1
  refine r_aload_n hE 0 dX13_line_0 rfl rfl ?_
  refine r_iload_n hE 3 dX13_line_1 rfl rfl ?_
  refine m_callVi hE hm [.int a3] [] mc_newThing (km_newThing hm.2.2.2.2.2.2.2.2 h) (by decide) rfl rfl (Nat.le_of_ble_eq_true rfl) dX13_line_2 (fun s6 r7 h => ?_)
  refine r_istore hE [(4, .int r7), (0, .ref (G.1 0)), (1, .int a1), (2, .int a2), (3, .int a3)] dX13_line_5 hN (by decide) rfl ?_
  refine r_aload_n hE 1 dX13_line_7 rfl rfl ?_
  refine r_iload_n hE 2 dX13_line_8 rfl rfl ?_
  refine r_iconst (v := (1 : Int32)) hE dX13_line_9 (by decide) ?_
  refine m_callVv hE hm [.int a1, .int (1 : Int32)] [] mc_part (km_part hm.2.2.2.2.2.2.2.2 h) (by decide) rfl rfl (Nat.le_of_ble_eq_true rfl) dX13_line_10 (fun s8 h => ?_)
  refine r_aload_n hE 1 dX13_line_13 rfl rfl ?_
  refine r_iload_n hE 3 dX13_line_14 rfl rfl ?_
  refine r_iconst (v := (1 : Int32)) hE dX13_line_15 (by decide) ?_
  refine m_callVv hE hm [.int a2, .int (1 : Int32)] [] mc_part (km_part hm.2.2.2.2.2.2.2.2 h) (by decide) rfl rfl (Nat.le_of_ble_eq_true rfl) dX13_line_16 (fun s9 h => ?_)
  refine r_aload_n hE 1 dX13_line_19 rfl rfl ?_
  refine m_callVv hE hm [] [] mc_less (km_less hm.2.2.2.2.2.2.2.2 h) (by decide) rfl rfl (Nat.le_of_ble_eq_true rfl) dX13_line_20 (fun s10 h => ?_)
  refine r_aload_n hE 1 dX13_line_23 rfl rfl ?_
  refine r_iload hE 0 dX13_line_24 rfl ?_
  refine r_iconst (v := (0 : Int32)) hE dX13_line_26 (by decide) ?_
  refine m_callVv hE hm [.int r7, .int (0 : Int32)] [] mc_keep (km_keep hm.2.2.2.2.2.2.2.2 h) (by decide) rfl rfl (Nat.le_of_ble_eq_true rfl) dX13_line_27 (fun s11 h => ?_)
  refine r_aload_n hE 1 dX13_line_30 rfl rfl ?_
  refine r_iload_n hE 3 dX13_line_31 rfl rfl ?_
  refine r_iconst (v := (0 : Int32)) hE dX13_line_32 (by decide) ?_
  refine m_callVv hE hm [.int a2, .int (0 : Int32)] [] mc_part (km_part hm.2.2.2.2.2.2.2.2 h) (by decide) rfl rfl (Nat.le_of_ble_eq_true rfl) dX13_line_33 (fun s12 h => ?_)
  refine r_aload_n hE 1 dX13_line_36 rfl rfl ?_
  refine r_iload_n hE 2 dX13_line_37 rfl rfl ?_
  refine r_iconst (v := (0 : Int32)) hE dX13_line_38 (by decide) ?_
  refine m_callVv hE hm [.int a1, .int (0 : Int32)] [] mc_part (km_part hm.2.2.2.2.2.2.2.2 h) (by decide) rfl rfl (Nat.le_of_ble_eq_true rfl) dX13_line_39 (fun s13 h => ?_)
  refine r_aload_n hE 1 dX13_line_42 rfl rfl ?_
  refine m_callVv hE hm [] [] mc_less (km_less hm.2.2.2.2.2.2.2.2 h) (by decide) rfl rfl (Nat.le_of_ble_eq_true rfl) dX13_line_43 (fun s14 h => ?_)
  refine r_aload_n hE 1 dX13_line_46 rfl rfl ?_
  refine r_iload hE 0 dX13_line_47 rfl ?_
  refine r_iconst (v := (1 : Int32)) hE dX13_line_49 (by decide) ?_
  refine m_callVv hE hm [.int r7, .int (1 : Int32)] [] mc_keep (km_keep hm.2.2.2.2.2.2.2.2 h) (by decide) rfl rfl (Nat.le_of_ble_eq_true rfl) dX13_line_50 (fun s15 h => ?_)
  refine r_aload_n hE 1 dX13_line_53 rfl rfl ?_
  refine r_iload_n hE 2 dX13_line_54 rfl rfl ?_
  refine r_iconst (v := (1 : Int32)) hE dX13_line_55 (by decide) ?_
  refine m_callVv hE hm [.int a1, .int (1 : Int32)] [] mc_part (km_part hm.2.2.2.2.2.2.2.2 h) (by decide) rfl rfl (Nat.le_of_ble_eq_true rfl) dX13_line_56 (fun s16 h => ?_)
  refine r_aload_n hE 1 dX13_line_59 rfl rfl ?_
  refine r_iload_n hE 3 dX13_line_60 rfl rfl ?_
  refine r_iconst (v := (1 : Int32)) hE dX13_line_61 (by decide) ?_
  refine m_callVv hE hm [.int a2, .int (1 : Int32)] [] mc_part (km_part hm.2.2.2.2.2.2.2.2 h) (by decide) rfl rfl (Nat.le_of_ble_eq_true rfl) dX13_line_62 (fun s17 h => ?_)
  refine r_aload_n hE 1 dX13_line_65 rfl rfl ?_
  refine m_callVv hE hm [] [] mc_less (km_less hm.2.2.2.2.2.2.2.2 h) (by decide) rfl rfl (Nat.le_of_ble_eq_true rfl) dX13_line_66 (fun s18 h => ?_)
  refine r_aload_n hE 1 dX13_line_69 rfl rfl ?_
  refine r_iload_n hE 2 dX13_line_70 rfl rfl ?_
  refine r_iconst (v := (0 : Int32)) hE dX13_line_71 (by decide) ?_
  refine m_callVv hE hm [.int a1, .int (0 : Int32)] [] mc_part (km_part hm.2.2.2.2.2.2.2.2 h) (by decide) rfl rfl (Nat.le_of_ble_eq_true rfl) dX13_line_72 (fun s19 h => ?_)
  refine r_aload_n hE 1 dX13_line_75 rfl rfl ?_
  refine m_callVv hE hm [] [] mc_times (km_times hm.2.2.2.2.2.2.2.2 h) (by decide) rfl rfl (Nat.le_of_ble_eq_true rfl) dX13_line_76 (fun s20 h => ?_)
  refine r_aload_n hE 1 dX13_line_79 rfl rfl ?_
  refine r_iload_n hE 3 dX13_line_80 rfl rfl ?_
  refine r_iconst (v := (0 : Int32)) hE dX13_line_81 (by decide) ?_
  refine m_callVv hE hm [.int a2, .int (0 : Int32)] [] mc_part (km_part hm.2.2.2.2.2.2.2.2 h) (by decide) rfl rfl (Nat.le_of_ble_eq_true rfl) dX13_line_82 (fun s21 h => ?_)
  refine r_aload_n hE 1 dX13_line_85 rfl rfl ?_
  refine r_iload_n hE 2 dX13_line_86 rfl rfl ?_
  refine r_iconst (v := (0 : Int32)) hE dX13_line_87 (by decide) ?_
  refine m_callVv hE hm [.int a1, .int (0 : Int32)] [] mc_part (km_part hm.2.2.2.2.2.2.2.2 h) (by decide) rfl rfl (Nat.le_of_ble_eq_true rfl) dX13_line_88 (fun s22 h => ?_)
  refine r_aload_n hE 1 dX13_line_91 rfl rfl ?_
  refine m_callVv hE hm [] [] mc_less (km_less hm.2.2.2.2.2.2.2.2 h) (by decide) rfl rfl (Nat.le_of_ble_eq_true rfl) dX13_line_92 (fun s23 h => ?_)
  refine r_aload_n hE 1 dX13_line_95 rfl rfl ?_
  refine r_iload_n hE 2 dX13_line_96 rfl rfl ?_
  refine r_iconst (v := (1 : Int32)) hE dX13_line_97 (by decide) ?_
  refine m_callVv hE hm [.int a1, .int (1 : Int32)] [] mc_part (km_part hm.2.2.2.2.2.2.2.2 h) (by decide) rfl rfl (Nat.le_of_ble_eq_true rfl) dX13_line_98 (fun s24 h => ?_)
  refine r_aload_n hE 1 dX13_line_101 rfl rfl ?_
  refine m_callVv hE hm [] [] mc_times (km_times hm.2.2.2.2.2.2.2.2 h) (by decide) rfl rfl (Nat.le_of_ble_eq_true rfl) dX13_line_102 (fun s25 h => ?_)
  refine r_aload_n hE 1 dX13_line_105 rfl rfl ?_
  refine m_callVv hE hm [] [] mc_plus (km_plus hm.2.2.2.2.2.2.2.2 h) (by decide) rfl rfl (Nat.le_of_ble_eq_true rfl) dX13_line_106 (fun s26 h => ?_)
  refine r_aload_n hE 1 dX13_line_109 rfl rfl ?_
  refine r_iload hE 0 dX13_line_110 rfl ?_
  refine r_iconst (v := (2 : Int32)) hE dX13_line_112 (by decide) ?_
  refine m_callVv hE hm [.int r7, .int (2 : Int32)] [] mc_keep (km_keep hm.2.2.2.2.2.2.2.2 h) (by decide) rfl rfl (Nat.le_of_ble_eq_true rfl) dX13_line_113 (fun s27 h => ?_)
  refine r_aload_n hE 1 dX13_line_116 rfl rfl ?_
  refine r_iload hE 0 dX13_line_117 rfl ?_
  refine m_callVv hE hm [.int r7] [] mc_normal (km_normal hm.2.2.2.2.2.2.2.2 h) (by decide) rfl rfl (Nat.le_of_ble_eq_true rfl) dX13_line_119 (fun s28 h => ?_)
  refine r_iload_n hE 4 dX13_line_122 rfl rfl ?_
  refine r_iconst (v := (4 : Int32)) hE dX13_line_123 (by decide) ?_
  refine r_icmp_ne hE 176 dX13_line_124 (by decide) h (fun h => ?_) (fun h => ?_)
  · refine r_iload hE 0 dX13_line_176 rfl ?_
    exact m_iret hE hm dX13_line_178 h
  · refine r_iconst (v := (0 : Int32)) hE dX13_line_127 (by decide) ?_
    refine r_istore hE [(5, .int (0 : Int32)), (4, .int r7), (0, .ref (G.1 0)), (1, .int a1), (2, .int a2), (3, .int a3)] dX13_line_128 hN (by decide) rfl ?_
    refine r_pick [2, 3, 4, 1, 0] rfl ?_
    obtain ⟨k, h⟩ := h
    exact km_line_130 hE hm k _ _ _ _ _ h
/-! mid -/
def wm_mid_9 (post : MS → Int32 → Prop) : Nat → MS → Int32 → Int32 → Int32 → Int32 → Prop
  | 0, _, _, _, _, _ => False
  | n + 1, σ, v1, v2, v3, v4 => (((2 : Int32) ≤ v4) → (post σ v3)) ∧ ((¬ ((2 : Int32) ≤ v4)) → (wm_part (fun (s1 : MS) => wm_part (fun (s2 : MS) => wm_plus (fun (s3 : MS) => wm_whole (fun (s4 : MS) => wm_by (fun (s5 : MS) => wm_keep (fun (s6 : MS) => ∀ x7 : Int32, x7 = v4 + (1 : Int32) → wm_mid_9 post n s6 v1 v2 v3 x7) s5 v3 v4) s4) s3 (2 : Int64)) s2) s1 v2 v4) σ v1 v4))
set_option maxRecDepth 20000 in
theorem km_mid_9 {E : gEnv} {l : Launch} {D : va_G} {cl : List vw_C} {G : gAd} {post : MS → Int32 → Prop} (hE : gOK E cX13_mid RX13 (some .int) 4) (hm : mOK E l D cl G (qI post) 5) : ∀ (n : Nat) (σ : MS) (v1 : Int32) (v2 : Int32) (v3 : Int32) (v4 : Int32), wm_mid_9 post n σ v1 v2 v3 v4 → GW E (mW G σ) 9 [(0, .ref (G.1 0)), (1, .int v1), (2, .int v2), (3, .int v3), (4, .int v4)] [] := by
  intro n
  induction n with
  | zero => intro σ v1 v2 v3 v4 h; exact h.elim
  | succ n ih =>
    intro σ v1 v2 v3 v4 h
    rw [wm_mid_9] at h
    have hN := hm.2.2.2.2.2.2.1
    refine r_iload hE 4 dX13_mid_9 rfl ?_
    refine r_iconst (v := (2 : Int32)) hE dX13_mid_11 (by decide) ?_
    refine r_icmp_ge hE 57 dX13_mid_12 (by decide) h (fun h => ?_) (fun h => ?_)
    · refine r_iload_n hE 3 dX13_mid_57 rfl rfl ?_
      exact m_iret hE hm dX13_mid_58 h
    · refine r_aload_n hE 0 dX13_mid_15 rfl rfl ?_
      refine r_iload_n hE 1 dX13_mid_16 rfl rfl ?_
      refine r_iload hE 4 dX13_mid_17 rfl ?_
      refine m_callVv hE hm [.int v1, .int v4] [] mc_part (km_part hm.2.2.2.2.2.2.2.2 h) (by decide) rfl rfl (Nat.le_of_ble_eq_true rfl) dX13_mid_19 (fun s1 h => ?_)
      refine r_aload_n hE 0 dX13_mid_22 rfl rfl ?_
      refine r_iload_n hE 2 dX13_mid_23 rfl rfl ?_
      refine r_iload hE 4 dX13_mid_24 rfl ?_
      refine m_callVv hE hm [.int v2, .int v4] [] mc_part (km_part hm.2.2.2.2.2.2.2.2 h) (by decide) rfl rfl (Nat.le_of_ble_eq_true rfl) dX13_mid_26 (fun s2 h => ?_)
      refine r_aload_n hE 0 dX13_mid_29 rfl rfl ?_
      refine m_callVv hE hm [] [] mc_plus (km_plus hm.2.2.2.2.2.2.2.2 h) (by decide) rfl rfl (Nat.le_of_ble_eq_true rfl) dX13_mid_30 (fun s3 h => ?_)
      refine r_aload_n hE 0 dX13_mid_33 rfl rfl ?_
      refine r_ldc2 (v := (2 : Int64)) hE dX13_mid_34 (gTb_10 (List.mem_of_getElem? (i := 171) rfl) rfl) ?_
      refine m_callVv hE hm [.long (2 : Int64)] [] mc_whole (km_whole hm.2.2.2.2.2.2.2.2 h) (by decide) rfl rfl (Nat.le_of_ble_eq_true rfl) dX13_mid_37 (fun s4 h => ?_)
      refine r_aload_n hE 0 dX13_mid_40 rfl rfl ?_
      refine m_callVv hE hm [] [] mc_by (km_by hm.2.2.2.2.2.2.2.2 h) (by decide) rfl rfl (Nat.le_of_ble_eq_true rfl) dX13_mid_41 (fun s5 h => ?_)
      refine r_aload_n hE 0 dX13_mid_44 rfl rfl ?_
      refine r_iload_n hE 3 dX13_mid_45 rfl rfl ?_
      refine r_iload hE 4 dX13_mid_46 rfl ?_
      refine m_callVv hE hm [.int v3, .int v4] [] mc_keep (km_keep hm.2.2.2.2.2.2.2.2 h) (by decide) rfl rfl (Nat.le_of_ble_eq_true rfl) dX13_mid_48 (fun s6 h => ?_)
      obtain ⟨x7, ex7⟩ : ∃ z : Int32, z = v4 + (1 : Int32) := ⟨_, rfl⟩
      have h := h x7 ex7
      refine r_iinc (v := x7) hE [(4, .int x7), (0, .ref (G.1 0)), (1, .int v1), (2, .int v2), (3, .int v3)] 4 dX13_mid_51 rfl (by rw [ex7]; rfl) hN (by decide) rfl ?_
      refine r_goto hE 9 dX13_mid_54 (by decide) ?_
      refine r_pick [1, 2, 3, 4, 0] rfl ?_
      exact ih _ _ _ _ _ h
def wm_mid (post : MS → Int32 → Prop) (σ : MS) (a1 : Int32) (a2 : Int32) : Prop := wm_newThing (fun (s8 : MS) (r9 : Int32) => ∃ k : Nat, wm_mid_9 post k s8 a1 a2 r9 (0 : Int32)) σ (1 : Int32)
set_option maxRecDepth 20000 in
theorem km_mid {l : Launch} {D : va_G} {cl : List vw_C} {G : gAd} {post : MS → Int32 → Prop} (hcl : mC cl) {σ : MS} {a1 : Int32} {a2 : Int32} (h : wm_mid post σ a1 a2) : mMet l D cl G yX13_mid cX13_mid 5 (some .int) 4 [.ref (G.1 0), .int a1, .int a2] σ (qI post) := by
  unfold wm_mid at h
  refine m_enter hcl (by decide +kernel) rfl [(0, .ref (G.1 0)), (1, .int a1), (2, .int a2)] rfl (Nat.le_of_ble_eq_true rfl) ?_
  intro E hE hm
  have hN := hm.2.2.2.2.2.2.1
  refine r_aload_n hE 0 dX13_mid_0 rfl rfl ?_
  refine r_iconst (v := (1 : Int32)) hE dX13_mid_1 (by decide) ?_
  refine m_callVi hE hm [.int (1 : Int32)] [] mc_newThing (km_newThing hm.2.2.2.2.2.2.2.2 h) (by decide) rfl rfl (Nat.le_of_ble_eq_true rfl) dX13_mid_2 (fun s8 r9 h => ?_)
  refine r_istore_n hE [(3, .int r9), (0, .ref (G.1 0)), (1, .int a1), (2, .int a2)] dX13_mid_5 rfl hN (by decide) rfl ?_
  refine r_iconst (v := (0 : Int32)) hE dX13_mid_6 (by decide) ?_
  refine r_istore hE [(4, .int (0 : Int32)), (3, .int r9), (0, .ref (G.1 0)), (1, .int a1), (2, .int a2)] dX13_mid_7 hN (by decide) rfl ?_
  refine r_pick [2, 3, 4, 1, 0] rfl ?_
  obtain ⟨k, h⟩ := h
  exact km_mid_9 hE hm k _ _ _ _ _ h
/-! through -/
def wm_through (post : MS → Prop) (σ : MS) (a1 : Int32) (a2 : Int32) : Prop := wm_part (fun (s1 : MS) => wm_part (fun (s2 : MS) => wm_times (fun (s3 : MS) => wm_part (fun (s4 : MS) => wm_part (fun (s5 : MS) => wm_times (fun (s6 : MS) => wm_plus (fun (s7 : MS) => post s7) s6) s5) s4 a2 (1 : Int32)) s3 a1 (1 : Int32)) s2) s1 a2 (0 : Int32)) σ a1 (0 : Int32)
set_option maxRecDepth 20000 in
theorem km_through {l : Launch} {D : va_G} {cl : List vw_C} {G : gAd} {post : MS → Prop} (hcl : mC cl) {σ : MS} {a1 : Int32} {a2 : Int32} (h : wm_through post σ a1 a2) : mMet l D cl G yX13_through cX13_through 3 none 4 [.ref (G.1 0), .int a1, .int a2] σ (qV post) := by
  unfold wm_through at h
  refine m_enter hcl (by decide +kernel) rfl [(0, .ref (G.1 0)), (1, .int a1), (2, .int a2)] rfl (Nat.le_of_ble_eq_true rfl) ?_
  intro E hE hm
  have hN := hm.2.2.2.2.2.2.1
  refine r_aload_n hE 0 dX13_through_0 rfl rfl ?_
  refine r_iload_n hE 1 dX13_through_1 rfl rfl ?_
  refine r_iconst (v := (0 : Int32)) hE dX13_through_2 (by decide) ?_
  refine m_callVv hE hm [.int a1, .int (0 : Int32)] [] mc_part (km_part hm.2.2.2.2.2.2.2.2 h) (by decide) rfl rfl (Nat.le_of_ble_eq_true rfl) dX13_through_3 (fun s1 h => ?_)
  refine r_aload_n hE 0 dX13_through_6 rfl rfl ?_
  refine r_iload_n hE 2 dX13_through_7 rfl rfl ?_
  refine r_iconst (v := (0 : Int32)) hE dX13_through_8 (by decide) ?_
  refine m_callVv hE hm [.int a2, .int (0 : Int32)] [] mc_part (km_part hm.2.2.2.2.2.2.2.2 h) (by decide) rfl rfl (Nat.le_of_ble_eq_true rfl) dX13_through_9 (fun s2 h => ?_)
  refine r_aload_n hE 0 dX13_through_12 rfl rfl ?_
  refine m_callVv hE hm [] [] mc_times (km_times hm.2.2.2.2.2.2.2.2 h) (by decide) rfl rfl (Nat.le_of_ble_eq_true rfl) dX13_through_13 (fun s3 h => ?_)
  refine r_aload_n hE 0 dX13_through_16 rfl rfl ?_
  refine r_iload_n hE 1 dX13_through_17 rfl rfl ?_
  refine r_iconst (v := (1 : Int32)) hE dX13_through_18 (by decide) ?_
  refine m_callVv hE hm [.int a1, .int (1 : Int32)] [] mc_part (km_part hm.2.2.2.2.2.2.2.2 h) (by decide) rfl rfl (Nat.le_of_ble_eq_true rfl) dX13_through_19 (fun s4 h => ?_)
  refine r_aload_n hE 0 dX13_through_22 rfl rfl ?_
  refine r_iload_n hE 2 dX13_through_23 rfl rfl ?_
  refine r_iconst (v := (1 : Int32)) hE dX13_through_24 (by decide) ?_
  refine m_callVv hE hm [.int a2, .int (1 : Int32)] [] mc_part (km_part hm.2.2.2.2.2.2.2.2 h) (by decide) rfl rfl (Nat.le_of_ble_eq_true rfl) dX13_through_25 (fun s5 h => ?_)
  refine r_aload_n hE 0 dX13_through_28 rfl rfl ?_
  refine m_callVv hE hm [] [] mc_times (km_times hm.2.2.2.2.2.2.2.2 h) (by decide) rfl rfl (Nat.le_of_ble_eq_true rfl) dX13_through_29 (fun s6 h => ?_)
  refine r_aload_n hE 0 dX13_through_32 rfl rfl ?_
  refine m_callVv hE hm [] [] mc_plus (km_plus hm.2.2.2.2.2.2.2.2 h) (by decide) rfl rfl (Nat.le_of_ble_eq_true rfl) dX13_through_33 (fun s7 h => ?_)
  exact m_vret hE hm dX13_through_36 h
/-! par -/
def wm_par (post : MS → Int32 → Prop) (σ : MS) (a1 : Int32) (a2 : Int32) : Prop := wm_newThing (fun (s1 : MS) (r2 : Int32) => wm_part (fun (s3 : MS) => wm_keep (fun (s4 : MS) => wm_part (fun (s5 : MS) => wm_keep (fun (s6 : MS) => wm_through (fun (s7 : MS) => wm_keep (fun (s8 : MS) => post s8 r2) s7 r2 (2 : Int32)) s6 a2 a1) s5 r2 (1 : Int32)) s4 a2 (1 : Int32)) s3 r2 (0 : Int32)) s1 a2 (0 : Int32)) σ (3 : Int32)
set_option maxRecDepth 20000 in
theorem km_par {l : Launch} {D : va_G} {cl : List vw_C} {G : gAd} {post : MS → Int32 → Prop} (hcl : mC cl) {σ : MS} {a1 : Int32} {a2 : Int32} (h : wm_par post σ a1 a2) : mMet l D cl G yX13_par cX13_par 4 (some .int) 5 [.ref (G.1 0), .int a1, .int a2] σ (qI post) := by
  unfold wm_par at h
  refine m_enter hcl (by decide +kernel) rfl [(0, .ref (G.1 0)), (1, .int a1), (2, .int a2)] rfl (Nat.le_of_ble_eq_true rfl) ?_
  intro E hE hm
  have hN := hm.2.2.2.2.2.2.1
  refine r_aload_n hE 0 dX13_par_0 rfl rfl ?_
  refine r_iconst (v := (3 : Int32)) hE dX13_par_1 (by decide) ?_
  refine m_callVi hE hm [.int (3 : Int32)] [] mc_newThing (km_newThing hm.2.2.2.2.2.2.2.2 h) (by decide) rfl rfl (Nat.le_of_ble_eq_true rfl) dX13_par_2 (fun s1 r2 h => ?_)
  refine r_istore_n hE [(3, .int r2), (0, .ref (G.1 0)), (1, .int a1), (2, .int a2)] dX13_par_5 rfl hN (by decide) rfl ?_
  refine r_aload_n hE 1 dX13_par_6 rfl rfl ?_
  refine r_iload_n hE 3 dX13_par_7 rfl rfl ?_
  refine r_iconst (v := (0 : Int32)) hE dX13_par_8 (by decide) ?_
  refine m_callVv hE hm [.int a2, .int (0 : Int32)] [] mc_part (km_part hm.2.2.2.2.2.2.2.2 h) (by decide) rfl rfl (Nat.le_of_ble_eq_true rfl) dX13_par_9 (fun s3 h => ?_)
  refine r_aload_n hE 1 dX13_par_12 rfl rfl ?_
  refine r_iload_n hE 0 dX13_par_13 rfl rfl ?_
  refine r_iconst (v := (0 : Int32)) hE dX13_par_14 (by decide) ?_
  refine m_callVv hE hm [.int r2, .int (0 : Int32)] [] mc_keep (km_keep hm.2.2.2.2.2.2.2.2 h) (by decide) rfl rfl (Nat.le_of_ble_eq_true rfl) dX13_par_15 (fun s4 h => ?_)
  refine r_aload_n hE 1 dX13_par_18 rfl rfl ?_
  refine r_iload_n hE 3 dX13_par_19 rfl rfl ?_
  refine r_iconst (v := (1 : Int32)) hE dX13_par_20 (by decide) ?_
  refine m_callVv hE hm [.int a2, .int (1 : Int32)] [] mc_part (km_part hm.2.2.2.2.2.2.2.2 h) (by decide) rfl rfl (Nat.le_of_ble_eq_true rfl) dX13_par_21 (fun s5 h => ?_)
  refine r_aload_n hE 1 dX13_par_24 rfl rfl ?_
  refine r_iload_n hE 0 dX13_par_25 rfl rfl ?_
  refine r_iconst (v := (1 : Int32)) hE dX13_par_26 (by decide) ?_
  refine m_callVv hE hm [.int r2, .int (1 : Int32)] [] mc_keep (km_keep hm.2.2.2.2.2.2.2.2 h) (by decide) rfl rfl (Nat.le_of_ble_eq_true rfl) dX13_par_27 (fun s6 h => ?_)
  refine r_aload_n hE 1 dX13_par_30 rfl rfl ?_
  refine r_iload_n hE 3 dX13_par_31 rfl rfl ?_
  refine r_iload_n hE 2 dX13_par_32 rfl rfl ?_
  refine m_callVv hE hm [.int a2, .int a1] [] mc_through (km_through hm.2.2.2.2.2.2.2.2 h) (by decide) rfl rfl (Nat.le_of_ble_eq_true rfl) dX13_par_33 (fun s7 h => ?_)
  refine r_aload_n hE 1 dX13_par_36 rfl rfl ?_
  refine r_iload_n hE 0 dX13_par_37 rfl rfl ?_
  refine r_iconst (v := (2 : Int32)) hE dX13_par_38 (by decide) ?_
  refine m_callVv hE hm [.int r2, .int (2 : Int32)] [] mc_keep (km_keep hm.2.2.2.2.2.2.2.2 h) (by decide) rfl rfl (Nat.le_of_ble_eq_true rfl) dX13_par_39 (fun s8 h => ?_)
  refine r_iload_n hE 0 dX13_par_42 rfl rfl ?_
  exact m_iret hE hm dX13_par_43 h
/-! perp -/
def wm_perp (post : MS → Int32 → Prop) (σ : MS) (a1 : Int32) (a2 : Int32) : Prop := wm_newThing (fun (s1 : MS) (r2 : Int32) => wm_part (fun (s3 : MS) => wm_negative (fun (s4 : MS) => wm_keep (fun (s5 : MS) => wm_part (fun (s6 : MS) => wm_keep (fun (s7 : MS) => wm_part (fun (s8 : MS) => wm_negative (fun (s9 : MS) => wm_part (fun (s10 : MS) => wm_times (fun (s11 : MS) => wm_part (fun (s12 : MS) => wm_part (fun (s13 : MS) => wm_times (fun (s14 : MS) => wm_plus (fun (s15 : MS) => wm_keep (fun (s16 : MS) => wm_normal (fun (s17 : MS) => post s17 r2) s16 r2) s15 r2 (2 : Int32)) s14) s13) s12 a1 (1 : Int32)) s11 a2 (0 : Int32)) s10) s9 a1 (0 : Int32)) s8) s7 a2 (1 : Int32)) s6 r2 (1 : Int32)) s5 a2 (0 : Int32)) s4 r2 (0 : Int32)) s3) s1 a2 (1 : Int32)) σ (3 : Int32)
set_option maxRecDepth 20000 in
theorem km_perp {l : Launch} {D : va_G} {cl : List vw_C} {G : gAd} {post : MS → Int32 → Prop} (hcl : mC cl) {σ : MS} {a1 : Int32} {a2 : Int32} (h : wm_perp post σ a1 a2) : mMet l D cl G yX13_perp cX13_perp 4 (some .int) 5 [.ref (G.1 0), .int a1, .int a2] σ (qI post) := by
  unfold wm_perp at h
  refine m_enter hcl (by decide +kernel) rfl [(0, .ref (G.1 0)), (1, .int a1), (2, .int a2)] rfl (Nat.le_of_ble_eq_true rfl) ?_
  intro E hE hm
  have hN := hm.2.2.2.2.2.2.1
  refine r_aload_n hE 0 dX13_perp_0 rfl rfl ?_
  refine r_iconst (v := (3 : Int32)) hE dX13_perp_1 (by decide) ?_
  refine m_callVi hE hm [.int (3 : Int32)] [] mc_newThing (km_newThing hm.2.2.2.2.2.2.2.2 h) (by decide) rfl rfl (Nat.le_of_ble_eq_true rfl) dX13_perp_2 (fun s1 r2 h => ?_)
  refine r_istore_n hE [(3, .int r2), (0, .ref (G.1 0)), (1, .int a1), (2, .int a2)] dX13_perp_5 rfl hN (by decide) rfl ?_
  refine r_aload_n hE 1 dX13_perp_6 rfl rfl ?_
  refine r_iload_n hE 3 dX13_perp_7 rfl rfl ?_
  refine r_iconst (v := (1 : Int32)) hE dX13_perp_8 (by decide) ?_
  refine m_callVv hE hm [.int a2, .int (1 : Int32)] [] mc_part (km_part hm.2.2.2.2.2.2.2.2 h) (by decide) rfl rfl (Nat.le_of_ble_eq_true rfl) dX13_perp_9 (fun s3 h => ?_)
  refine r_aload_n hE 1 dX13_perp_12 rfl rfl ?_
  refine m_callVv hE hm [] [] mc_negative (km_negative hm.2.2.2.2.2.2.2.2 h) (by decide) rfl rfl (Nat.le_of_ble_eq_true rfl) dX13_perp_13 (fun s4 h => ?_)
  refine r_aload_n hE 1 dX13_perp_16 rfl rfl ?_
  refine r_iload_n hE 0 dX13_perp_17 rfl rfl ?_
  refine r_iconst (v := (0 : Int32)) hE dX13_perp_18 (by decide) ?_
  refine m_callVv hE hm [.int r2, .int (0 : Int32)] [] mc_keep (km_keep hm.2.2.2.2.2.2.2.2 h) (by decide) rfl rfl (Nat.le_of_ble_eq_true rfl) dX13_perp_19 (fun s5 h => ?_)
  refine r_aload_n hE 1 dX13_perp_22 rfl rfl ?_
  refine r_iload_n hE 3 dX13_perp_23 rfl rfl ?_
  refine r_iconst (v := (0 : Int32)) hE dX13_perp_24 (by decide) ?_
  refine m_callVv hE hm [.int a2, .int (0 : Int32)] [] mc_part (km_part hm.2.2.2.2.2.2.2.2 h) (by decide) rfl rfl (Nat.le_of_ble_eq_true rfl) dX13_perp_25 (fun s6 h => ?_)
  refine r_aload_n hE 1 dX13_perp_28 rfl rfl ?_
  refine r_iload_n hE 0 dX13_perp_29 rfl rfl ?_
  refine r_iconst (v := (1 : Int32)) hE dX13_perp_30 (by decide) ?_
  refine m_callVv hE hm [.int r2, .int (1 : Int32)] [] mc_keep (km_keep hm.2.2.2.2.2.2.2.2 h) (by decide) rfl rfl (Nat.le_of_ble_eq_true rfl) dX13_perp_31 (fun s7 h => ?_)
  refine r_aload_n hE 1 dX13_perp_34 rfl rfl ?_
  refine r_iload_n hE 3 dX13_perp_35 rfl rfl ?_
  refine r_iconst (v := (1 : Int32)) hE dX13_perp_36 (by decide) ?_
  refine m_callVv hE hm [.int a2, .int (1 : Int32)] [] mc_part (km_part hm.2.2.2.2.2.2.2.2 h) (by decide) rfl rfl (Nat.le_of_ble_eq_true rfl) dX13_perp_37 (fun s8 h => ?_)
  refine r_aload_n hE 1 dX13_perp_40 rfl rfl ?_
  refine m_callVv hE hm [] [] mc_negative (km_negative hm.2.2.2.2.2.2.2.2 h) (by decide) rfl rfl (Nat.le_of_ble_eq_true rfl) dX13_perp_41 (fun s9 h => ?_)
  refine r_aload_n hE 1 dX13_perp_44 rfl rfl ?_
  refine r_iload_n hE 2 dX13_perp_45 rfl rfl ?_
  refine r_iconst (v := (0 : Int32)) hE dX13_perp_46 (by decide) ?_
  refine m_callVv hE hm [.int a1, .int (0 : Int32)] [] mc_part (km_part hm.2.2.2.2.2.2.2.2 h) (by decide) rfl rfl (Nat.le_of_ble_eq_true rfl) dX13_perp_47 (fun s10 h => ?_)
  refine r_aload_n hE 1 dX13_perp_50 rfl rfl ?_
  refine m_callVv hE hm [] [] mc_times (km_times hm.2.2.2.2.2.2.2.2 h) (by decide) rfl rfl (Nat.le_of_ble_eq_true rfl) dX13_perp_51 (fun s11 h => ?_)
  refine r_aload_n hE 1 dX13_perp_54 rfl rfl ?_
  refine r_iload_n hE 3 dX13_perp_55 rfl rfl ?_
  refine r_iconst (v := (0 : Int32)) hE dX13_perp_56 (by decide) ?_
  refine m_callVv hE hm [.int a2, .int (0 : Int32)] [] mc_part (km_part hm.2.2.2.2.2.2.2.2 h) (by decide) rfl rfl (Nat.le_of_ble_eq_true rfl) dX13_perp_57 (fun s12 h => ?_)
  refine r_aload_n hE 1 dX13_perp_60 rfl rfl ?_
  refine r_iload_n hE 2 dX13_perp_61 rfl rfl ?_
  refine r_iconst (v := (1 : Int32)) hE dX13_perp_62 (by decide) ?_
  refine m_callVv hE hm [.int a1, .int (1 : Int32)] [] mc_part (km_part hm.2.2.2.2.2.2.2.2 h) (by decide) rfl rfl (Nat.le_of_ble_eq_true rfl) dX13_perp_63 (fun s13 h => ?_)
  refine r_aload_n hE 1 dX13_perp_66 rfl rfl ?_
  refine m_callVv hE hm [] [] mc_times (km_times hm.2.2.2.2.2.2.2.2 h) (by decide) rfl rfl (Nat.le_of_ble_eq_true rfl) dX13_perp_67 (fun s14 h => ?_)
  refine r_aload_n hE 1 dX13_perp_70 rfl rfl ?_
  refine m_callVv hE hm [] [] mc_plus (km_plus hm.2.2.2.2.2.2.2.2 h) (by decide) rfl rfl (Nat.le_of_ble_eq_true rfl) dX13_perp_71 (fun s15 h => ?_)
  refine r_aload_n hE 1 dX13_perp_74 rfl rfl ?_
  refine r_iload_n hE 0 dX13_perp_75 rfl rfl ?_
  refine r_iconst (v := (2 : Int32)) hE dX13_perp_76 (by decide) ?_
  refine m_callVv hE hm [.int r2, .int (2 : Int32)] [] mc_keep (km_keep hm.2.2.2.2.2.2.2.2 h) (by decide) rfl rfl (Nat.le_of_ble_eq_true rfl) dX13_perp_77 (fun s16 h => ?_)
  refine r_aload_n hE 1 dX13_perp_80 rfl rfl ?_
  refine r_iload_n hE 0 dX13_perp_81 rfl rfl ?_
  refine m_callVv hE hm [.int r2] [] mc_normal (km_normal hm.2.2.2.2.2.2.2.2 h) (by decide) rfl rfl (Nat.le_of_ble_eq_true rfl) dX13_perp_82 (fun s17 h => ?_)
  refine r_iload_n hE 0 dX13_perp_85 rfl rfl ?_
  exact m_iret hE hm dX13_perp_86 h
/-! meet -/
def wm_meet (post : MS → Int32 → Prop) (σ : MS) (a1 : Int32) (a2 : Int32) : Prop := wm_newThing (fun (s1 : MS) (r2 : Int32) => wm_part (fun (s3 : MS) => wm_part (fun (s4 : MS) => wm_times (fun (s5 : MS) => wm_part (fun (s6 : MS) => wm_part (fun (s7 : MS) => wm_times (fun (s8 : MS) => wm_less (fun (s9 : MS) => vp_in ((m_piled s9) - (1 : Int32)) 40 ∧ (∀ x10 : Int64, x10 = m_top s9 ((m_piled s9) - (1 : Int32)).toNatClampNeg → vp_in ((m_piled s9) - (1 : Int32)) 40 ∧ (∀ x11 : Int64, x11 = m_bottom s9 ((m_piled s9) - (1 : Int32)).toNatClampNeg → ∀ s12 : MS, s12 = m_piled_s s9 ((m_piled s9) - (1 : Int32)) → wm_part (fun (s13 : MS) => wm_part (fun (s14 : MS) => wm_times (fun (s15 : MS) => wm_part (fun (s16 : MS) => wm_part (fun (s17 : MS) => wm_times (fun (s18 : MS) => wm_less (fun (s19 : MS) => wm_push (fun (s20 : MS) => wm_by (fun (s21 : MS) => wm_keep (fun (s22 : MS) => wm_part (fun (s23 : MS) => wm_part (fun (s24 : MS) => wm_times (fun (s25 : MS) => wm_part (fun (s26 : MS) => wm_part (fun (s27 : MS) => wm_times (fun (s28 : MS) => wm_less (fun (s29 : MS) => wm_push (fun (s30 : MS) => wm_by (fun (s31 : MS) => wm_keep (fun (s32 : MS) => post s32 r2) s31 r2 (1 : Int32)) s30) s29 x10 x11) s28) s27) s26 a1 (2 : Int32)) s25 a2 (0 : Int32)) s24) s23 a2 (2 : Int32)) s22 a1 (0 : Int32)) s21 r2 (0 : Int32)) s20) s19 x10 x11) s18) s17) s16 a1 (1 : Int32)) s15 a2 (2 : Int32)) s14) s13 a2 (1 : Int32)) s12 a1 (2 : Int32)))) s8) s7) s6 a1 (1 : Int32)) s5 a2 (0 : Int32)) s4) s3 a2 (1 : Int32)) s1 a1 (0 : Int32)) σ (1 : Int32)
set_option maxRecDepth 20000 in
theorem km_meet {l : Launch} {D : va_G} {cl : List vw_C} {G : gAd} {post : MS → Int32 → Prop} (hcl : mC cl) {σ : MS} {a1 : Int32} {a2 : Int32} (h : wm_meet post σ a1 a2) : mMet l D cl G yX13_meet cX13_meet 8 (some .int) 4 [.ref (G.1 0), .int a1, .int a2] σ (qI post) := by
  unfold wm_meet at h
  refine m_enter hcl (by decide +kernel) rfl [(0, .ref (G.1 0)), (1, .int a1), (2, .int a2)] rfl (Nat.le_of_ble_eq_true rfl) ?_
  intro E hE hm
  have hN := hm.2.2.2.2.2.2.1
  refine r_aload_n hE 0 dX13_meet_0 rfl rfl ?_
  refine r_iconst (v := (1 : Int32)) hE dX13_meet_1 (by decide) ?_
  refine m_callVi hE hm [.int (1 : Int32)] [] mc_newThing (km_newThing hm.2.2.2.2.2.2.2.2 h) (by decide) rfl rfl (Nat.le_of_ble_eq_true rfl) dX13_meet_2 (fun s1 r2 h => ?_)
  refine r_istore_n hE [(3, .int r2), (0, .ref (G.1 0)), (1, .int a1), (2, .int a2)] dX13_meet_5 rfl hN (by decide) rfl ?_
  refine r_aload_n hE 1 dX13_meet_6 rfl rfl ?_
  refine r_iload_n hE 2 dX13_meet_7 rfl rfl ?_
  refine r_iconst (v := (0 : Int32)) hE dX13_meet_8 (by decide) ?_
  refine m_callVv hE hm [.int a1, .int (0 : Int32)] [] mc_part (km_part hm.2.2.2.2.2.2.2.2 h) (by decide) rfl rfl (Nat.le_of_ble_eq_true rfl) dX13_meet_9 (fun s3 h => ?_)
  refine r_aload_n hE 1 dX13_meet_12 rfl rfl ?_
  refine r_iload_n hE 3 dX13_meet_13 rfl rfl ?_
  refine r_iconst (v := (1 : Int32)) hE dX13_meet_14 (by decide) ?_
  refine m_callVv hE hm [.int a2, .int (1 : Int32)] [] mc_part (km_part hm.2.2.2.2.2.2.2.2 h) (by decide) rfl rfl (Nat.le_of_ble_eq_true rfl) dX13_meet_15 (fun s4 h => ?_)
  refine r_aload_n hE 1 dX13_meet_18 rfl rfl ?_
  refine m_callVv hE hm [] [] mc_times (km_times hm.2.2.2.2.2.2.2.2 h) (by decide) rfl rfl (Nat.le_of_ble_eq_true rfl) dX13_meet_19 (fun s5 h => ?_)
  refine r_aload_n hE 1 dX13_meet_22 rfl rfl ?_
  refine r_iload_n hE 3 dX13_meet_23 rfl rfl ?_
  refine r_iconst (v := (0 : Int32)) hE dX13_meet_24 (by decide) ?_
  refine m_callVv hE hm [.int a2, .int (0 : Int32)] [] mc_part (km_part hm.2.2.2.2.2.2.2.2 h) (by decide) rfl rfl (Nat.le_of_ble_eq_true rfl) dX13_meet_25 (fun s6 h => ?_)
  refine r_aload_n hE 1 dX13_meet_28 rfl rfl ?_
  refine r_iload_n hE 2 dX13_meet_29 rfl rfl ?_
  refine r_iconst (v := (1 : Int32)) hE dX13_meet_30 (by decide) ?_
  refine m_callVv hE hm [.int a1, .int (1 : Int32)] [] mc_part (km_part hm.2.2.2.2.2.2.2.2 h) (by decide) rfl rfl (Nat.le_of_ble_eq_true rfl) dX13_meet_31 (fun s7 h => ?_)
  refine r_aload_n hE 1 dX13_meet_34 rfl rfl ?_
  refine m_callVv hE hm [] [] mc_times (km_times hm.2.2.2.2.2.2.2.2 h) (by decide) rfl rfl (Nat.le_of_ble_eq_true rfl) dX13_meet_35 (fun s8 h => ?_)
  refine r_aload_n hE 1 dX13_meet_38 rfl rfl ?_
  refine m_callVv hE hm [] [] mc_less (km_less hm.2.2.2.2.2.2.2.2 h) (by decide) rfl rfl (Nat.le_of_ble_eq_true rfl) dX13_meet_39 (fun s9 h => ?_)
  refine r_aload_n hE 1 dX13_meet_42 rfl rfl ?_
  refine mg_top hE hm dX13_meet_43 ?_
  refine r_aload_n hE 1 dX13_meet_46 rfl rfl ?_
  refine mg_piled hE hm dX13_meet_47 ?_
  refine r_iconst (v := (1 : Int32)) hE dX13_meet_50 (by decide) ?_
  refine r_isub hE dX13_meet_51 ?_
  obtain ⟨hi, h⟩ := h
  refine ml_top hE hm dX13_meet_52 hi ?_
  refine r_topl h (fun x10 ex10 h => ?_)
  refine r_lstore hE [(4, .long x10), (3, .int r2), (0, .ref (G.1 0)), (1, .int a1), (2, .int a2)] dX13_meet_53 hN (by decide) rfl ?_
  refine r_aload_n hE 2 dX13_meet_55 rfl rfl ?_
  refine mg_bottom hE hm dX13_meet_56 ?_
  refine r_aload_n hE 2 dX13_meet_59 rfl rfl ?_
  refine mg_piled hE hm dX13_meet_60 ?_
  refine r_iconst (v := (1 : Int32)) hE dX13_meet_63 (by decide) ?_
  refine r_isub hE dX13_meet_64 ?_
  obtain ⟨hi, h⟩ := h
  refine ml_bottom hE hm dX13_meet_65 hi ?_
  refine r_topl h (fun x11 ex11 h => ?_)
  refine r_lstore hE [(6, .long x11), (4, .long x10), (3, .int r2), (0, .ref (G.1 0)), (1, .int a1), (2, .int a2)] dX13_meet_66 hN (by decide) rfl ?_
  refine r_aload_n hE 3 dX13_meet_68 rfl rfl ?_
  refine r_dup hE dX13_meet_69 rfl ?_
  refine mg_piled hE hm dX13_meet_70 ?_
  refine r_iconst (v := (1 : Int32)) hE dX13_meet_73 (by decide) ?_
  refine r_isub hE dX13_meet_74 ?_
  refine mp_piled hE hm dX13_meet_75 h (fun s12 h => ?_)
  refine r_aload_n hE 3 dX13_meet_78 rfl rfl ?_
  refine r_iload_n hE 4 dX13_meet_79 rfl rfl ?_
  refine r_iconst (v := (2 : Int32)) hE dX13_meet_80 (by decide) ?_
  refine m_callVv hE hm [.int a1, .int (2 : Int32)] [] mc_part (km_part hm.2.2.2.2.2.2.2.2 h) (by decide) rfl rfl (Nat.le_of_ble_eq_true rfl) dX13_meet_81 (fun s13 h => ?_)
  refine r_aload_n hE 3 dX13_meet_84 rfl rfl ?_
  refine r_iload_n hE 5 dX13_meet_85 rfl rfl ?_
  refine r_iconst (v := (1 : Int32)) hE dX13_meet_86 (by decide) ?_
  refine m_callVv hE hm [.int a2, .int (1 : Int32)] [] mc_part (km_part hm.2.2.2.2.2.2.2.2 h) (by decide) rfl rfl (Nat.le_of_ble_eq_true rfl) dX13_meet_87 (fun s14 h => ?_)
  refine r_aload_n hE 3 dX13_meet_90 rfl rfl ?_
  refine m_callVv hE hm [] [] mc_times (km_times hm.2.2.2.2.2.2.2.2 h) (by decide) rfl rfl (Nat.le_of_ble_eq_true rfl) dX13_meet_91 (fun s15 h => ?_)
  refine r_aload_n hE 3 dX13_meet_94 rfl rfl ?_
  refine r_iload_n hE 5 dX13_meet_95 rfl rfl ?_
  refine r_iconst (v := (2 : Int32)) hE dX13_meet_96 (by decide) ?_
  refine m_callVv hE hm [.int a2, .int (2 : Int32)] [] mc_part (km_part hm.2.2.2.2.2.2.2.2 h) (by decide) rfl rfl (Nat.le_of_ble_eq_true rfl) dX13_meet_97 (fun s16 h => ?_)
  refine r_aload_n hE 3 dX13_meet_100 rfl rfl ?_
  refine r_iload_n hE 4 dX13_meet_101 rfl rfl ?_
  refine r_iconst (v := (1 : Int32)) hE dX13_meet_102 (by decide) ?_
  refine m_callVv hE hm [.int a1, .int (1 : Int32)] [] mc_part (km_part hm.2.2.2.2.2.2.2.2 h) (by decide) rfl rfl (Nat.le_of_ble_eq_true rfl) dX13_meet_103 (fun s17 h => ?_)
  refine r_aload_n hE 3 dX13_meet_106 rfl rfl ?_
  refine m_callVv hE hm [] [] mc_times (km_times hm.2.2.2.2.2.2.2.2 h) (by decide) rfl rfl (Nat.le_of_ble_eq_true rfl) dX13_meet_107 (fun s18 h => ?_)
  refine r_aload_n hE 3 dX13_meet_110 rfl rfl ?_
  refine m_callVv hE hm [] [] mc_less (km_less hm.2.2.2.2.2.2.2.2 h) (by decide) rfl rfl (Nat.le_of_ble_eq_true rfl) dX13_meet_111 (fun s19 h => ?_)
  refine r_aload_n hE 3 dX13_meet_114 rfl rfl ?_
  refine r_lload hE 1 dX13_meet_115 rfl ?_
  refine r_lload hE 0 dX13_meet_117 rfl ?_
  refine m_callVv hE hm [.long x10, .long x11] [] mc_push (km_push hm.2.2.2.2.2.2.2.2 h) (by decide) rfl rfl (Nat.le_of_ble_eq_true rfl) dX13_meet_119 (fun s20 h => ?_)
  refine r_aload_n hE 3 dX13_meet_122 rfl rfl ?_
  refine m_callVv hE hm [] [] mc_by (km_by hm.2.2.2.2.2.2.2.2 h) (by decide) rfl rfl (Nat.le_of_ble_eq_true rfl) dX13_meet_123 (fun s21 h => ?_)
  refine r_aload_n hE 3 dX13_meet_126 rfl rfl ?_
  refine r_iload_n hE 2 dX13_meet_127 rfl rfl ?_
  refine r_iconst (v := (0 : Int32)) hE dX13_meet_128 (by decide) ?_
  refine m_callVv hE hm [.int r2, .int (0 : Int32)] [] mc_keep (km_keep hm.2.2.2.2.2.2.2.2 h) (by decide) rfl rfl (Nat.le_of_ble_eq_true rfl) dX13_meet_129 (fun s22 h => ?_)
  refine r_aload_n hE 3 dX13_meet_132 rfl rfl ?_
  refine r_iload_n hE 4 dX13_meet_133 rfl rfl ?_
  refine r_iconst (v := (0 : Int32)) hE dX13_meet_134 (by decide) ?_
  refine m_callVv hE hm [.int a1, .int (0 : Int32)] [] mc_part (km_part hm.2.2.2.2.2.2.2.2 h) (by decide) rfl rfl (Nat.le_of_ble_eq_true rfl) dX13_meet_135 (fun s23 h => ?_)
  refine r_aload_n hE 3 dX13_meet_138 rfl rfl ?_
  refine r_iload_n hE 5 dX13_meet_139 rfl rfl ?_
  refine r_iconst (v := (2 : Int32)) hE dX13_meet_140 (by decide) ?_
  refine m_callVv hE hm [.int a2, .int (2 : Int32)] [] mc_part (km_part hm.2.2.2.2.2.2.2.2 h) (by decide) rfl rfl (Nat.le_of_ble_eq_true rfl) dX13_meet_141 (fun s24 h => ?_)
  refine r_aload_n hE 3 dX13_meet_144 rfl rfl ?_
  refine m_callVv hE hm [] [] mc_times (km_times hm.2.2.2.2.2.2.2.2 h) (by decide) rfl rfl (Nat.le_of_ble_eq_true rfl) dX13_meet_145 (fun s25 h => ?_)
  refine r_aload_n hE 3 dX13_meet_148 rfl rfl ?_
  refine r_iload_n hE 5 dX13_meet_149 rfl rfl ?_
  refine r_iconst (v := (0 : Int32)) hE dX13_meet_150 (by decide) ?_
  refine m_callVv hE hm [.int a2, .int (0 : Int32)] [] mc_part (km_part hm.2.2.2.2.2.2.2.2 h) (by decide) rfl rfl (Nat.le_of_ble_eq_true rfl) dX13_meet_151 (fun s26 h => ?_)
  refine r_aload_n hE 3 dX13_meet_154 rfl rfl ?_
  refine r_iload_n hE 4 dX13_meet_155 rfl rfl ?_
  refine r_iconst (v := (2 : Int32)) hE dX13_meet_156 (by decide) ?_
  refine m_callVv hE hm [.int a1, .int (2 : Int32)] [] mc_part (km_part hm.2.2.2.2.2.2.2.2 h) (by decide) rfl rfl (Nat.le_of_ble_eq_true rfl) dX13_meet_157 (fun s27 h => ?_)
  refine r_aload_n hE 3 dX13_meet_160 rfl rfl ?_
  refine m_callVv hE hm [] [] mc_times (km_times hm.2.2.2.2.2.2.2.2 h) (by decide) rfl rfl (Nat.le_of_ble_eq_true rfl) dX13_meet_161 (fun s28 h => ?_)
  refine r_aload_n hE 3 dX13_meet_164 rfl rfl ?_
  refine m_callVv hE hm [] [] mc_less (km_less hm.2.2.2.2.2.2.2.2 h) (by decide) rfl rfl (Nat.le_of_ble_eq_true rfl) dX13_meet_165 (fun s29 h => ?_)
  refine r_aload_n hE 3 dX13_meet_168 rfl rfl ?_
  refine r_lload hE 1 dX13_meet_169 rfl ?_
  refine r_lload hE 0 dX13_meet_171 rfl ?_
  refine m_callVv hE hm [.long x10, .long x11] [] mc_push (km_push hm.2.2.2.2.2.2.2.2 h) (by decide) rfl rfl (Nat.le_of_ble_eq_true rfl) dX13_meet_173 (fun s30 h => ?_)
  refine r_aload_n hE 3 dX13_meet_176 rfl rfl ?_
  refine m_callVv hE hm [] [] mc_by (km_by hm.2.2.2.2.2.2.2.2 h) (by decide) rfl rfl (Nat.le_of_ble_eq_true rfl) dX13_meet_177 (fun s31 h => ?_)
  refine r_aload_n hE 3 dX13_meet_180 rfl rfl ?_
  refine r_iload_n hE 2 dX13_meet_181 rfl rfl ?_
  refine r_iconst (v := (1 : Int32)) hE dX13_meet_182 (by decide) ?_
  refine m_callVv hE hm [.int r2, .int (1 : Int32)] [] mc_keep (km_keep hm.2.2.2.2.2.2.2.2 h) (by decide) rfl rfl (Nat.le_of_ble_eq_true rfl) dX13_meet_183 (fun s32 h => ?_)
  refine r_iload_n hE 2 dX13_meet_186 rfl rfl ?_
  exact m_iret hE hm dX13_meet_187 h
/-! foot -/
def wm_foot (post : MS → Int32 → Prop) (σ : MS) (a1 : Int32) (a2 : Int32) : Prop := wm_perp (fun (s1 : MS) (r2 : Int32) => wm_meet (fun (s3 : MS) (r4 : Int32) => post s3 r4) s1 a2 r2) σ a1 a2
set_option maxRecDepth 20000 in
theorem km_foot {l : Launch} {D : va_G} {cl : List vw_C} {G : gAd} {post : MS → Int32 → Prop} (hcl : mC cl) {σ : MS} {a1 : Int32} {a2 : Int32} (h : wm_foot post σ a1 a2) : mMet l D cl G yX13_foot cX13_foot 3 (some .int) 6 [.ref (G.1 0), .int a1, .int a2] σ (qI post) := by
  unfold wm_foot at h
  refine m_enter hcl (by decide +kernel) rfl [(0, .ref (G.1 0)), (1, .int a1), (2, .int a2)] rfl (Nat.le_of_ble_eq_true rfl) ?_
  intro E hE hm
  have hN := hm.2.2.2.2.2.2.1
  refine r_aload_n hE 0 dX13_foot_0 rfl rfl ?_
  refine r_iload_n hE 2 dX13_foot_1 rfl rfl ?_
  refine r_aload_n hE 0 dX13_foot_2 rfl rfl ?_
  refine r_iload_n hE 1 dX13_foot_3 rfl rfl ?_
  refine r_iload_n hE 2 dX13_foot_4 rfl rfl ?_
  refine m_callVi hE hm [.int a1, .int a2] [.int a2, .ref (G.1 0)] mc_perp (km_perp hm.2.2.2.2.2.2.2.2 h) (by decide) rfl rfl (Nat.le_of_ble_eq_true rfl) dX13_foot_5 (fun s1 r2 h => ?_)
  refine m_callVi hE hm [.int a2, .int r2] [] mc_meet (km_meet hm.2.2.2.2.2.2.2.2 h) (by decide) rfl rfl (Nat.le_of_ble_eq_true rfl) dX13_foot_8 (fun s3 r4 h => ?_)
  exact m_iret hE hm dX13_foot_11 h
/-! mirror -/
def wm_mirror_17 (post : MS → Int32 → Prop) : Nat → MS → Int32 → Int32 → Int32 → Int32 → Prop
  | 0, _, _, _, _, _ => False
  | n + 1, σ, v1, v3, v4, v5 => (((2 : Int32) ≤ v5) → (post σ v4)) ∧ ((¬ ((2 : Int32) ≤ v5)) → (wm_whole (fun (s1 : MS) => wm_part (fun (s2 : MS) => wm_times (fun (s3 : MS) => wm_part (fun (s4 : MS) => wm_less (fun (s5 : MS) => wm_keep (fun (s6 : MS) => ∀ x7 : Int32, x7 = v5 + (1 : Int32) → wm_mirror_17 post n s6 v1 v3 v4 x7) s5 v4 v5) s4) s3 v1 v5) s2) s1 v3 v5) σ (2 : Int64)))
set_option maxRecDepth 20000 in
theorem km_mirror_17 {E : gEnv} {l : Launch} {D : va_G} {cl : List vw_C} {G : gAd} {post : MS → Int32 → Prop} (hE : gOK E cX13_mirror RX13 (some .int) 7) (hm : mOK E l D cl G (qI post) 6) : ∀ (n : Nat) (σ : MS) (v1 : Int32) (v3 : Int32) (v4 : Int32) (v5 : Int32), wm_mirror_17 post n σ v1 v3 v4 v5 → GW E (mW G σ) 17 [(0, .ref (G.1 0)), (1, .int v1), (3, .int v3), (4, .int v4), (5, .int v5)] [] := by
  intro n
  induction n with
  | zero => intro σ v1 v3 v4 v5 h; exact h.elim
  | succ n ih =>
    intro σ v1 v3 v4 v5 h
    rw [wm_mirror_17] at h
    have hN := hm.2.2.2.2.2.2.1
    refine r_iload hE 4 dX13_mirror_17 rfl ?_
    refine r_iconst (v := (2 : Int32)) hE dX13_mirror_19 (by decide) ?_
    refine r_icmp_ge hE 66 dX13_mirror_20 (by decide) h (fun h => ?_) (fun h => ?_)
    · refine r_iload hE 3 dX13_mirror_66 rfl ?_
      exact m_iret hE hm dX13_mirror_68 h
    · refine r_aload_n hE 0 dX13_mirror_23 rfl rfl ?_
      refine r_ldc2 (v := (2 : Int64)) hE dX13_mirror_24 (gTb_10 (List.mem_of_getElem? (i := 171) rfl) rfl) ?_
      refine m_callVv hE hm [.long (2 : Int64)] [] mc_whole (km_whole hm.2.2.2.2.2.2.2.2 h) (by decide) rfl rfl (Nat.le_of_ble_eq_true rfl) dX13_mirror_27 (fun s1 h => ?_)
      refine r_aload_n hE 0 dX13_mirror_30 rfl rfl ?_
      refine r_iload_n hE 2 dX13_mirror_31 rfl rfl ?_
      refine r_iload hE 4 dX13_mirror_32 rfl ?_
      refine m_callVv hE hm [.int v3, .int v5] [] mc_part (km_part hm.2.2.2.2.2.2.2.2 h) (by decide) rfl rfl (Nat.le_of_ble_eq_true rfl) dX13_mirror_34 (fun s2 h => ?_)
      refine r_aload_n hE 0 dX13_mirror_37 rfl rfl ?_
      refine m_callVv hE hm [] [] mc_times (km_times hm.2.2.2.2.2.2.2.2 h) (by decide) rfl rfl (Nat.le_of_ble_eq_true rfl) dX13_mirror_38 (fun s3 h => ?_)
      refine r_aload_n hE 0 dX13_mirror_41 rfl rfl ?_
      refine r_iload_n hE 1 dX13_mirror_42 rfl rfl ?_
      refine r_iload hE 4 dX13_mirror_43 rfl ?_
      refine m_callVv hE hm [.int v1, .int v5] [] mc_part (km_part hm.2.2.2.2.2.2.2.2 h) (by decide) rfl rfl (Nat.le_of_ble_eq_true rfl) dX13_mirror_45 (fun s4 h => ?_)
      refine r_aload_n hE 0 dX13_mirror_48 rfl rfl ?_
      refine m_callVv hE hm [] [] mc_less (km_less hm.2.2.2.2.2.2.2.2 h) (by decide) rfl rfl (Nat.le_of_ble_eq_true rfl) dX13_mirror_49 (fun s5 h => ?_)
      refine r_aload_n hE 0 dX13_mirror_52 rfl rfl ?_
      refine r_iload hE 3 dX13_mirror_53 rfl ?_
      refine r_iload hE 4 dX13_mirror_55 rfl ?_
      refine m_callVv hE hm [.int v4, .int v5] [] mc_keep (km_keep hm.2.2.2.2.2.2.2.2 h) (by decide) rfl rfl (Nat.le_of_ble_eq_true rfl) dX13_mirror_57 (fun s6 h => ?_)
      obtain ⟨x7, ex7⟩ : ∃ z : Int32, z = v5 + (1 : Int32) := ⟨_, rfl⟩
      have h := h x7 ex7
      refine r_iinc (v := x7) hE [(5, .int x7), (0, .ref (G.1 0)), (1, .int v1), (3, .int v3), (4, .int v4)] 4 dX13_mirror_60 rfl (by rw [ex7]; rfl) hN (by decide) rfl ?_
      refine r_goto hE 17 dX13_mirror_63 (by decide) ?_
      refine r_pick [1, 2, 3, 4, 0] rfl ?_
      exact ih _ _ _ _ _ h
def wm_mirror (post : MS → Int32 → Prop) (σ : MS) (a1 : Int32) (a2 : Int32) : Prop := wm_foot (fun (s8 : MS) (r9 : Int32) => wm_newThing (fun (s10 : MS) (r11 : Int32) => ∃ k : Nat, wm_mirror_17 post k s10 a1 r9 r11 (0 : Int32)) s8 (1 : Int32)) σ a1 a2
set_option maxRecDepth 20000 in
theorem km_mirror {l : Launch} {D : va_G} {cl : List vw_C} {G : gAd} {post : MS → Int32 → Prop} (hcl : mC cl) {σ : MS} {a1 : Int32} {a2 : Int32} (h : wm_mirror post σ a1 a2) : mMet l D cl G yX13_mirror cX13_mirror 6 (some .int) 7 [.ref (G.1 0), .int a1, .int a2] σ (qI post) := by
  unfold wm_mirror at h
  refine m_enter hcl (by decide +kernel) rfl [(0, .ref (G.1 0)), (1, .int a1), (2, .int a2)] rfl (Nat.le_of_ble_eq_true rfl) ?_
  intro E hE hm
  have hN := hm.2.2.2.2.2.2.1
  refine r_aload_n hE 0 dX13_mirror_0 rfl rfl ?_
  refine r_iload_n hE 1 dX13_mirror_1 rfl rfl ?_
  refine r_iload_n hE 2 dX13_mirror_2 rfl rfl ?_
  refine m_callVi hE hm [.int a1, .int a2] [] mc_foot (km_foot hm.2.2.2.2.2.2.2.2 h) (by decide) rfl rfl (Nat.le_of_ble_eq_true rfl) dX13_mirror_3 (fun s8 r9 h => ?_)
  refine r_istore_n hE [(3, .int r9), (0, .ref (G.1 0)), (1, .int a1), (2, .int a2)] dX13_mirror_6 rfl hN (by decide) rfl ?_
  refine r_aload_n hE 1 dX13_mirror_7 rfl rfl ?_
  refine r_iconst (v := (1 : Int32)) hE dX13_mirror_8 (by decide) ?_
  refine m_callVi hE hm [.int (1 : Int32)] [] mc_newThing (km_newThing hm.2.2.2.2.2.2.2.2 h) (by decide) rfl rfl (Nat.le_of_ble_eq_true rfl) dX13_mirror_9 (fun s10 r11 h => ?_)
  refine r_istore hE [(4, .int r11), (3, .int r9), (0, .ref (G.1 0)), (1, .int a1), (2, .int a2)] dX13_mirror_12 hN (by decide) rfl ?_
  refine r_iconst (v := (0 : Int32)) hE dX13_mirror_14 (by decide) ?_
  refine r_istore hE [(5, .int (0 : Int32)), (4, .int r11), (3, .int r9), (0, .ref (G.1 0)), (1, .int a1), (2, .int a2)] dX13_mirror_15 hN (by decide) rfl ?_
  refine r_pick [3, 4, 2, 1, 0] rfl ?_
  obtain ⟨k, h⟩ := h
  exact km_mirror_17 hE hm k _ _ _ _ _ h
/-! turn -/
def wm_turn (post : MS → Int32 → Prop) (σ : MS) (a1 : Int32) (a2 : Int32) : Prop := wm_newThing (fun (s1 : MS) (r2 : Int32) => wm_part (fun (s3 : MS) => wm_part (fun (s4 : MS) => wm_part (fun (s5 : MS) => wm_less (fun (s6 : MS) => wm_less (fun (s7 : MS) => wm_keep (fun (s8 : MS) => wm_part (fun (s9 : MS) => wm_part (fun (s10 : MS) => wm_part (fun (s11 : MS) => wm_less (fun (s12 : MS) => wm_plus (fun (s13 : MS) => wm_keep (fun (s14 : MS) => post s14 r2) s13 r2 (1 : Int32)) s12) s11) s10 a2 (0 : Int32)) s9 a1 (0 : Int32)) s8 a2 (1 : Int32)) s7 r2 (0 : Int32)) s6) s5) s4 a2 (1 : Int32)) s3 a1 (1 : Int32)) s1 a2 (0 : Int32)) σ (1 : Int32)
set_option maxRecDepth 20000 in
theorem km_turn {l : Launch} {D : va_G} {cl : List vw_C} {G : gAd} {post : MS → Int32 → Prop} (hcl : mC cl) {σ : MS} {a1 : Int32} {a2 : Int32} (h : wm_turn post σ a1 a2) : mMet l D cl G yX13_turn cX13_turn 4 (some .int) 4 [.ref (G.1 0), .int a1, .int a2] σ (qI post) := by
  unfold wm_turn at h
  refine m_enter hcl (by decide +kernel) rfl [(0, .ref (G.1 0)), (1, .int a1), (2, .int a2)] rfl (Nat.le_of_ble_eq_true rfl) ?_
  intro E hE hm
  have hN := hm.2.2.2.2.2.2.1
  refine r_aload_n hE 0 dX13_turn_0 rfl rfl ?_
  refine r_iconst (v := (1 : Int32)) hE dX13_turn_1 (by decide) ?_
  refine m_callVi hE hm [.int (1 : Int32)] [] mc_newThing (km_newThing hm.2.2.2.2.2.2.2.2 h) (by decide) rfl rfl (Nat.le_of_ble_eq_true rfl) dX13_turn_2 (fun s1 r2 h => ?_)
  refine r_istore_n hE [(3, .int r2), (0, .ref (G.1 0)), (1, .int a1), (2, .int a2)] dX13_turn_5 rfl hN (by decide) rfl ?_
  refine r_aload_n hE 1 dX13_turn_6 rfl rfl ?_
  refine r_iload_n hE 3 dX13_turn_7 rfl rfl ?_
  refine r_iconst (v := (0 : Int32)) hE dX13_turn_8 (by decide) ?_
  refine m_callVv hE hm [.int a2, .int (0 : Int32)] [] mc_part (km_part hm.2.2.2.2.2.2.2.2 h) (by decide) rfl rfl (Nat.le_of_ble_eq_true rfl) dX13_turn_9 (fun s3 h => ?_)
  refine r_aload_n hE 1 dX13_turn_12 rfl rfl ?_
  refine r_iload_n hE 2 dX13_turn_13 rfl rfl ?_
  refine r_iconst (v := (1 : Int32)) hE dX13_turn_14 (by decide) ?_
  refine m_callVv hE hm [.int a1, .int (1 : Int32)] [] mc_part (km_part hm.2.2.2.2.2.2.2.2 h) (by decide) rfl rfl (Nat.le_of_ble_eq_true rfl) dX13_turn_15 (fun s4 h => ?_)
  refine r_aload_n hE 1 dX13_turn_18 rfl rfl ?_
  refine r_iload_n hE 3 dX13_turn_19 rfl rfl ?_
  refine r_iconst (v := (1 : Int32)) hE dX13_turn_20 (by decide) ?_
  refine m_callVv hE hm [.int a2, .int (1 : Int32)] [] mc_part (km_part hm.2.2.2.2.2.2.2.2 h) (by decide) rfl rfl (Nat.le_of_ble_eq_true rfl) dX13_turn_21 (fun s5 h => ?_)
  refine r_aload_n hE 1 dX13_turn_24 rfl rfl ?_
  refine m_callVv hE hm [] [] mc_less (km_less hm.2.2.2.2.2.2.2.2 h) (by decide) rfl rfl (Nat.le_of_ble_eq_true rfl) dX13_turn_25 (fun s6 h => ?_)
  refine r_aload_n hE 1 dX13_turn_28 rfl rfl ?_
  refine m_callVv hE hm [] [] mc_less (km_less hm.2.2.2.2.2.2.2.2 h) (by decide) rfl rfl (Nat.le_of_ble_eq_true rfl) dX13_turn_29 (fun s7 h => ?_)
  refine r_aload_n hE 1 dX13_turn_32 rfl rfl ?_
  refine r_iload_n hE 0 dX13_turn_33 rfl rfl ?_
  refine r_iconst (v := (0 : Int32)) hE dX13_turn_34 (by decide) ?_
  refine m_callVv hE hm [.int r2, .int (0 : Int32)] [] mc_keep (km_keep hm.2.2.2.2.2.2.2.2 h) (by decide) rfl rfl (Nat.le_of_ble_eq_true rfl) dX13_turn_35 (fun s8 h => ?_)
  refine r_aload_n hE 1 dX13_turn_38 rfl rfl ?_
  refine r_iload_n hE 3 dX13_turn_39 rfl rfl ?_
  refine r_iconst (v := (1 : Int32)) hE dX13_turn_40 (by decide) ?_
  refine m_callVv hE hm [.int a2, .int (1 : Int32)] [] mc_part (km_part hm.2.2.2.2.2.2.2.2 h) (by decide) rfl rfl (Nat.le_of_ble_eq_true rfl) dX13_turn_41 (fun s9 h => ?_)
  refine r_aload_n hE 1 dX13_turn_44 rfl rfl ?_
  refine r_iload_n hE 2 dX13_turn_45 rfl rfl ?_
  refine r_iconst (v := (0 : Int32)) hE dX13_turn_46 (by decide) ?_
  refine m_callVv hE hm [.int a1, .int (0 : Int32)] [] mc_part (km_part hm.2.2.2.2.2.2.2.2 h) (by decide) rfl rfl (Nat.le_of_ble_eq_true rfl) dX13_turn_47 (fun s10 h => ?_)
  refine r_aload_n hE 1 dX13_turn_50 rfl rfl ?_
  refine r_iload_n hE 3 dX13_turn_51 rfl rfl ?_
  refine r_iconst (v := (0 : Int32)) hE dX13_turn_52 (by decide) ?_
  refine m_callVv hE hm [.int a2, .int (0 : Int32)] [] mc_part (km_part hm.2.2.2.2.2.2.2.2 h) (by decide) rfl rfl (Nat.le_of_ble_eq_true rfl) dX13_turn_53 (fun s11 h => ?_)
  refine r_aload_n hE 1 dX13_turn_56 rfl rfl ?_
  refine m_callVv hE hm [] [] mc_less (km_less hm.2.2.2.2.2.2.2.2 h) (by decide) rfl rfl (Nat.le_of_ble_eq_true rfl) dX13_turn_57 (fun s12 h => ?_)
  refine r_aload_n hE 1 dX13_turn_60 rfl rfl ?_
  refine m_callVv hE hm [] [] mc_plus (km_plus hm.2.2.2.2.2.2.2.2 h) (by decide) rfl rfl (Nat.le_of_ble_eq_true rfl) dX13_turn_61 (fun s13 h => ?_)
  refine r_aload_n hE 1 dX13_turn_64 rfl rfl ?_
  refine r_iload_n hE 0 dX13_turn_65 rfl rfl ?_
  refine r_iconst (v := (1 : Int32)) hE dX13_turn_66 (by decide) ?_
  refine m_callVv hE hm [.int r2, .int (1 : Int32)] [] mc_keep (km_keep hm.2.2.2.2.2.2.2.2 h) (by decide) rfl rfl (Nat.le_of_ble_eq_true rfl) dX13_turn_67 (fun s14 h => ?_)
  refine r_iload_n hE 0 dX13_turn_70 rfl rfl ?_
  exact m_iret hE hm dX13_turn_71 h
/-! scale -/
def wm_scale_10 (post : MS → Int32 → Prop) : Nat → MS → Int32 → Int32 → Int64 → Int64 → Int32 → Int32 → Prop
  | 0, _, _, _, _, _, _, _ => False
  | n + 1, σ, v1, v2, v3, v5, v7, v8 => (((2 : Int32) ≤ v8) → (post σ v7)) ∧ ((¬ ((2 : Int32) ≤ v8)) → (wm_part (fun (s1 : MS) => wm_push (fun (s2 : MS) => wm_part (fun (s3 : MS) => wm_part (fun (s4 : MS) => wm_less (fun (s5 : MS) => wm_times (fun (s6 : MS) => wm_plus (fun (s7 : MS) => wm_keep (fun (s8 : MS) => ∀ x9 : Int32, x9 = v8 + (1 : Int32) → wm_scale_10 post n s8 v1 v2 v3 v5 v7 x9) s7 v7 v8) s6) s5) s4) s3 v2 v8) s2 v1 v8) s1 v3 v5) σ v2 v8))
set_option maxRecDepth 20000 in
theorem km_scale_10 {E : gEnv} {l : Launch} {D : va_G} {cl : List vw_C} {G : gAd} {post : MS → Int32 → Prop} (hE : gOK E cX13_scale RX13 (some .int) 4) (hm : mOK E l D cl G (qI post) 9) : ∀ (n : Nat) (σ : MS) (v1 : Int32) (v2 : Int32) (v3 : Int64) (v5 : Int64) (v7 : Int32) (v8 : Int32), wm_scale_10 post n σ v1 v2 v3 v5 v7 v8 → GW E (mW G σ) 10 [(0, .ref (G.1 0)), (1, .int v1), (2, .int v2), (3, .long v3), (5, .long v5), (7, .int v7), (8, .int v8)] [] := by
  intro n
  induction n with
  | zero => intro σ v1 v2 v3 v5 v7 v8 h; exact h.elim
  | succ n ih =>
    intro σ v1 v2 v3 v5 v7 v8 h
    rw [wm_scale_10] at h
    have hN := hm.2.2.2.2.2.2.1
    refine r_iload hE 6 dX13_scale_10 rfl ?_
    refine r_iconst (v := (2 : Int32)) hE dX13_scale_12 (by decide) ?_
    refine r_icmp_ge hE 70 dX13_scale_13 (by decide) h (fun h => ?_) (fun h => ?_)
    · refine r_iload hE 5 dX13_scale_70 rfl ?_
      exact m_iret hE hm dX13_scale_72 h
    · refine r_aload_n hE 0 dX13_scale_16 rfl rfl ?_
      refine r_iload_n hE 2 dX13_scale_17 rfl rfl ?_
      refine r_iload hE 6 dX13_scale_18 rfl ?_
      refine m_callVv hE hm [.int v2, .int v8] [] mc_part (km_part hm.2.2.2.2.2.2.2.2 h) (by decide) rfl rfl (Nat.le_of_ble_eq_true rfl) dX13_scale_20 (fun s1 h => ?_)
      refine r_aload_n hE 0 dX13_scale_23 rfl rfl ?_
      refine r_lload_n hE 3 dX13_scale_24 rfl rfl ?_
      refine r_lload hE 4 dX13_scale_25 rfl ?_
      refine m_callVv hE hm [.long v3, .long v5] [] mc_push (km_push hm.2.2.2.2.2.2.2.2 h) (by decide) rfl rfl (Nat.le_of_ble_eq_true rfl) dX13_scale_27 (fun s2 h => ?_)
      refine r_aload_n hE 0 dX13_scale_30 rfl rfl ?_
      refine r_iload_n hE 1 dX13_scale_31 rfl rfl ?_
      refine r_iload hE 6 dX13_scale_32 rfl ?_
      refine m_callVv hE hm [.int v1, .int v8] [] mc_part (km_part hm.2.2.2.2.2.2.2.2 h) (by decide) rfl rfl (Nat.le_of_ble_eq_true rfl) dX13_scale_34 (fun s3 h => ?_)
      refine r_aload_n hE 0 dX13_scale_37 rfl rfl ?_
      refine r_iload_n hE 2 dX13_scale_38 rfl rfl ?_
      refine r_iload hE 6 dX13_scale_39 rfl ?_
      refine m_callVv hE hm [.int v2, .int v8] [] mc_part (km_part hm.2.2.2.2.2.2.2.2 h) (by decide) rfl rfl (Nat.le_of_ble_eq_true rfl) dX13_scale_41 (fun s4 h => ?_)
      refine r_aload_n hE 0 dX13_scale_44 rfl rfl ?_
      refine m_callVv hE hm [] [] mc_less (km_less hm.2.2.2.2.2.2.2.2 h) (by decide) rfl rfl (Nat.le_of_ble_eq_true rfl) dX13_scale_45 (fun s5 h => ?_)
      refine r_aload_n hE 0 dX13_scale_48 rfl rfl ?_
      refine m_callVv hE hm [] [] mc_times (km_times hm.2.2.2.2.2.2.2.2 h) (by decide) rfl rfl (Nat.le_of_ble_eq_true rfl) dX13_scale_49 (fun s6 h => ?_)
      refine r_aload_n hE 0 dX13_scale_52 rfl rfl ?_
      refine m_callVv hE hm [] [] mc_plus (km_plus hm.2.2.2.2.2.2.2.2 h) (by decide) rfl rfl (Nat.le_of_ble_eq_true rfl) dX13_scale_53 (fun s7 h => ?_)
      refine r_aload_n hE 0 dX13_scale_56 rfl rfl ?_
      refine r_iload hE 5 dX13_scale_57 rfl ?_
      refine r_iload hE 6 dX13_scale_59 rfl ?_
      refine m_callVv hE hm [.int v7, .int v8] [] mc_keep (km_keep hm.2.2.2.2.2.2.2.2 h) (by decide) rfl rfl (Nat.le_of_ble_eq_true rfl) dX13_scale_61 (fun s8 h => ?_)
      obtain ⟨x9, ex9⟩ : ∃ z : Int32, z = v8 + (1 : Int32) := ⟨_, rfl⟩
      have h := h x9 ex9
      refine r_iinc (v := x9) hE [(8, .int x9), (0, .ref (G.1 0)), (1, .int v1), (2, .int v2), (3, .long v3), (5, .long v5), (7, .int v7)] 6 dX13_scale_64 rfl (by rw [ex9]; rfl) hN (by decide) rfl ?_
      refine r_goto hE 10 dX13_scale_67 (by decide) ?_
      refine r_pick [1, 2, 3, 4, 5, 6, 0] rfl ?_
      exact ih _ _ _ _ _ _ _ h
def wm_scale (post : MS → Int32 → Prop) (σ : MS) (a1 : Int32) (a2 : Int32) (a3 : Int64) (a5 : Int64) : Prop := wm_newThing (fun (s10 : MS) (r11 : Int32) => ∃ k : Nat, wm_scale_10 post k s10 a1 a2 a3 a5 r11 (0 : Int32)) σ (1 : Int32)
set_option maxRecDepth 20000 in
theorem km_scale {l : Launch} {D : va_G} {cl : List vw_C} {G : gAd} {post : MS → Int32 → Prop} (hcl : mC cl) {σ : MS} {a1 : Int32} {a2 : Int32} {a3 : Int64} {a5 : Int64} (h : wm_scale post σ a1 a2 a3 a5) : mMet l D cl G yX13_scale cX13_scale 9 (some .int) 4 [.ref (G.1 0), .int a1, .int a2, .long a3, .long a5] σ (qI post) := by
  unfold wm_scale at h
  refine m_enter hcl (by decide +kernel) rfl [(0, .ref (G.1 0)), (1, .int a1), (2, .int a2), (3, .long a3), (5, .long a5)] rfl (Nat.le_of_ble_eq_true rfl) ?_
  intro E hE hm
  have hN := hm.2.2.2.2.2.2.1
  refine r_aload_n hE 0 dX13_scale_0 rfl rfl ?_
  refine r_iconst (v := (1 : Int32)) hE dX13_scale_1 (by decide) ?_
  refine m_callVi hE hm [.int (1 : Int32)] [] mc_newThing (km_newThing hm.2.2.2.2.2.2.2.2 h) (by decide) rfl rfl (Nat.le_of_ble_eq_true rfl) dX13_scale_2 (fun s10 r11 h => ?_)
  refine r_istore hE [(7, .int r11), (0, .ref (G.1 0)), (1, .int a1), (2, .int a2), (3, .long a3), (5, .long a5)] dX13_scale_5 hN (by decide) rfl ?_
  refine r_iconst (v := (0 : Int32)) hE dX13_scale_7 (by decide) ?_
  refine r_istore hE [(8, .int (0 : Int32)), (7, .int r11), (0, .ref (G.1 0)), (1, .int a1), (2, .int a2), (3, .long a3), (5, .long a5)] dX13_scale_8 hN (by decide) rfl ?_
  refine r_pick [2, 3, 4, 5, 6, 1, 0] rfl ?_
  obtain ⟨k, h⟩ := h
  exact km_scale_10 hE hm k _ _ _ _ _ _ _ h
