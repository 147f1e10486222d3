/-! sp_nextOf -/
def wc_sp_nextOf (post : CS → Int32 → Prop) (σ : CS) (a1 : Int32) : Prop := ((a1 < (0 : Int32)) → (post σ (-1 : Int32))) ∧ ((¬ (a1 < (0 : Int32))) → ((((c_sp_nodes σ) ≤ a1) → (post σ (-1 : Int32))) ∧ ((¬ ((c_sp_nodes σ) ≤ a1)) → (vp_in a1 250 ∧ (post σ (c_sp_next σ a1.toNatClampNeg))))))
set_option maxRecDepth 20000 in
theorem kc_sp_nextOf {l : Launch} {D : va_G} {G : gAd} {post : CS → Int32 → Prop} {σ : CS} {a1 : Int32} (h : wc_sp_nextOf post σ a1) : cMet l D G yX1_nextOf cX1_nextOf 2 (some .int) 1 [.ref (G.1 400), .int a1] σ (pI post) := by
  unfold wc_sp_nextOf at h
  refine c_enter (own := RX1) (by decide +kernel) rfl [(0, .ref (G.1 400)), (1, .int a1)] rfl (Nat.le_of_ble_eq_true rfl) ?_
  intro E hE hm hF
  have hN := hm.2.2.2.2.2.2.1
  refine r_iload_n hE 1 dX1_nextOf_g0.1 rfl rfl ?_
  refine r_if_lt hE 21 dX1_nextOf_g0.2.1 (by decide) h (fun h => ?_) (fun h => ?_)
  · refine r_iconst (v := (-1 : Int32)) hE dX1_nextOf_g0.2.2.2.2.2.2.2.2.2.2.2.1 (by decide) ?_
    exact c_iret hE hm hF dX1_nextOf_g0.2.2.2.2.2.2.2.2.2.2.2.2 h
  · refine r_iload_n hE 1 dX1_nextOf_g0.2.2.1 rfl rfl ?_
    refine r_aload_n hE 0 dX1_nextOf_g0.2.2.2.1 rfl rfl ?_
    refine cg_sp_nodes hE hm fk_X1_41 dX1_nextOf_g0.2.2.2.2.1 ?_
    refine r_icmp_ge hE 21 dX1_nextOf_g0.2.2.2.2.2.1 (by decide) h (fun h => ?_) (fun h => ?_)
    · refine r_iconst (v := (-1 : Int32)) hE dX1_nextOf_g0.2.2.2.2.2.2.2.2.2.2.2.1 (by decide) ?_
      exact c_iret hE hm hF dX1_nextOf_g0.2.2.2.2.2.2.2.2.2.2.2.2 h
    · refine r_aload_n hE 0 dX1_nextOf_g0.2.2.2.2.2.2.1 rfl rfl ?_
      refine cg_sp_next hE hm fk_X1_32 dX1_nextOf_g0.2.2.2.2.2.2.2.1 ?_
      refine r_iload_n hE 1 dX1_nextOf_g0.2.2.2.2.2.2.2.2.1 rfl rfl ?_
      obtain ⟨hi, h⟩ := h
      refine cl_sp_next hE hm dX1_nextOf_g0.2.2.2.2.2.2.2.2.2.1 hi ?_
      refine r_goto hE 22 dX1_nextOf_g0.2.2.2.2.2.2.2.2.2.2.1 (by decide) ?_
      exact c_iret hE hm hF dX1_nextOf_g0.2.2.2.2.2.2.2.2.2.2.2.2 h
/-! sp_bodyOf -/
def wc_sp_bodyOf (post : CS → Int32 → Prop) (σ : CS) (a1 : Int32) : Prop := ((a1 < (0 : Int32)) → (post σ (-1 : Int32))) ∧ ((¬ (a1 < (0 : Int32))) → ((((c_sp_nodes σ) ≤ a1) → (post σ (-1 : Int32))) ∧ ((¬ ((c_sp_nodes σ) ≤ a1)) → (vp_in a1 250 ∧ (post σ (c_sp_body σ a1.toNatClampNeg))))))
set_option maxRecDepth 20000 in
theorem kc_sp_bodyOf {l : Launch} {D : va_G} {G : gAd} {post : CS → Int32 → Prop} {σ : CS} {a1 : Int32} (h : wc_sp_bodyOf post σ a1) : cMet l D G yX1_bodyOf cX1_bodyOf 2 (some .int) 1 [.ref (G.1 400), .int a1] σ (pI post) := by
  unfold wc_sp_bodyOf at h
  refine c_enter (own := RX1) (by decide +kernel) rfl [(0, .ref (G.1 400)), (1, .int a1)] rfl (Nat.le_of_ble_eq_true rfl) ?_
  intro E hE hm hF
  have hN := hm.2.2.2.2.2.2.1
  refine r_iload_n hE 1 dX1_bodyOf_g0.1 rfl rfl ?_
  refine r_if_lt hE 21 dX1_bodyOf_g0.2.1 (by decide) h (fun h => ?_) (fun h => ?_)
  · refine r_iconst (v := (-1 : Int32)) hE dX1_bodyOf_g0.2.2.2.2.2.2.2.2.2.2.2.1 (by decide) ?_
    exact c_iret hE hm hF dX1_bodyOf_g0.2.2.2.2.2.2.2.2.2.2.2.2 h
  · refine r_iload_n hE 1 dX1_bodyOf_g0.2.2.1 rfl rfl ?_
    refine r_aload_n hE 0 dX1_bodyOf_g0.2.2.2.1 rfl rfl ?_
    refine cg_sp_nodes hE hm fk_X1_41 dX1_bodyOf_g0.2.2.2.2.1 ?_
    refine r_icmp_ge hE 21 dX1_bodyOf_g0.2.2.2.2.2.1 (by decide) h (fun h => ?_) (fun h => ?_)
    · refine r_iconst (v := (-1 : Int32)) hE dX1_bodyOf_g0.2.2.2.2.2.2.2.2.2.2.2.1 (by decide) ?_
      exact c_iret hE hm hF dX1_bodyOf_g0.2.2.2.2.2.2.2.2.2.2.2.2 h
    · refine r_aload_n hE 0 dX1_bodyOf_g0.2.2.2.2.2.2.1 rfl rfl ?_
      refine cg_sp_body hE hm fk_X1_35 dX1_bodyOf_g0.2.2.2.2.2.2.2.1 ?_
      refine r_iload_n hE 1 dX1_bodyOf_g0.2.2.2.2.2.2.2.2.1 rfl rfl ?_
      obtain ⟨hi, h⟩ := h
      refine cl_sp_body hE hm dX1_bodyOf_g0.2.2.2.2.2.2.2.2.2.1 hi ?_
      refine r_goto hE 22 dX1_bodyOf_g0.2.2.2.2.2.2.2.2.2.2.1 (by decide) ?_
      exact c_iret hE hm hF dX1_bodyOf_g0.2.2.2.2.2.2.2.2.2.2.2.2 h
/-! sp_otherOf -/
def wc_sp_otherOf (post : CS → Int32 → Prop) (σ : CS) (a1 : Int32) : Prop := ((a1 < (0 : Int32)) → (post σ (-1 : Int32))) ∧ ((¬ (a1 < (0 : Int32))) → ((((c_sp_nodes σ) ≤ a1) → (post σ (-1 : Int32))) ∧ ((¬ ((c_sp_nodes σ) ≤ a1)) → (vp_in a1 250 ∧ (post σ (c_sp_other σ a1.toNatClampNeg))))))
set_option maxRecDepth 20000 in
theorem kc_sp_otherOf {l : Launch} {D : va_G} {G : gAd} {post : CS → Int32 → Prop} {σ : CS} {a1 : Int32} (h : wc_sp_otherOf post σ a1) : cMet l D G yX1_otherOf cX1_otherOf 2 (some .int) 1 [.ref (G.1 400), .int a1] σ (pI post) := by
  unfold wc_sp_otherOf at h
  refine c_enter (own := RX1) (by decide +kernel) rfl [(0, .ref (G.1 400)), (1, .int a1)] rfl (Nat.le_of_ble_eq_true rfl) ?_
  intro E hE hm hF
  have hN := hm.2.2.2.2.2.2.1
  refine r_iload_n hE 1 dX1_otherOf_g0.1 rfl rfl ?_
  refine r_if_lt hE 21 dX1_otherOf_g0.2.1 (by decide) h (fun h => ?_) (fun h => ?_)
  · refine r_iconst (v := (-1 : Int32)) hE dX1_otherOf_g0.2.2.2.2.2.2.2.2.2.2.2.1 (by decide) ?_
    exact c_iret hE hm hF dX1_otherOf_g0.2.2.2.2.2.2.2.2.2.2.2.2 h
  · refine r_iload_n hE 1 dX1_otherOf_g0.2.2.1 rfl rfl ?_
    refine r_aload_n hE 0 dX1_otherOf_g0.2.2.2.1 rfl rfl ?_
    refine cg_sp_nodes hE hm fk_X1_41 dX1_otherOf_g0.2.2.2.2.1 ?_
    refine r_icmp_ge hE 21 dX1_otherOf_g0.2.2.2.2.2.1 (by decide) h (fun h => ?_) (fun h => ?_)
    · refine r_iconst (v := (-1 : Int32)) hE dX1_otherOf_g0.2.2.2.2.2.2.2.2.2.2.2.1 (by decide) ?_
      exact c_iret hE hm hF dX1_otherOf_g0.2.2.2.2.2.2.2.2.2.2.2.2 h
    · refine r_aload_n hE 0 dX1_otherOf_g0.2.2.2.2.2.2.1 rfl rfl ?_
      refine cg_sp_other hE hm fk_X1_38 dX1_otherOf_g0.2.2.2.2.2.2.2.1 ?_
      refine r_iload_n hE 1 dX1_otherOf_g0.2.2.2.2.2.2.2.2.1 rfl rfl ?_
      obtain ⟨hi, h⟩ := h
      refine cl_sp_other hE hm dX1_otherOf_g0.2.2.2.2.2.2.2.2.2.1 hi ?_
      refine r_goto hE 22 dX1_otherOf_g0.2.2.2.2.2.2.2.2.2.2.1 (by decide) ?_
      exact c_iret hE hm hF dX1_otherOf_g0.2.2.2.2.2.2.2.2.2.2.2.2 h
/-! sp_paramAt -/
def wc_sp_paramAt (post : CS → Int32 → Prop) (σ : CS) (a1 : Int32) (a2 : Int32) : Prop := wc_SX12_inside (fun (s1 : CS) (r2 : Int32) => ((r2 = (0 : Int32)) → (post s1 (-1 : Int32))) ∧ ((¬ (r2 = (0 : Int32))) → (wc_SX12_inside (fun (s3 : CS) (r4 : Int32) => ((r4 = (0 : Int32)) → (post s3 (-1 : Int32))) ∧ ((¬ (r4 = (0 : Int32))) → (vp_in ((a1 * (20 : Int32)) + a2) 260 ∧ (post s3 (c_sp_nameAt s3 ((a1 * (20 : Int32)) + a2).toNatClampNeg))))) s1 a2 (20 : Int32)))) σ a1 (12 : Int32)
set_option maxRecDepth 20000 in
theorem kc_sp_paramAt {l : Launch} {D : va_G} {G : gAd} {post : CS → Int32 → Prop} {σ : CS} {a1 : Int32} {a2 : Int32} (h : wc_sp_paramAt post σ a1 a2) : cMet l D G yX1_paramAt cX1_paramAt 3 (some .int) 2 [.ref (G.1 400), .int a1, .int a2] σ (pI post) := by
  unfold wc_sp_paramAt at h
  refine c_enter (own := RX1) (by decide +kernel) rfl [(0, .ref (G.1 400)), (1, .int a1), (2, .int a2)] rfl (Nat.le_of_ble_eq_true rfl) ?_
  intro E hE hm hF
  have hN := hm.2.2.2.2.2.2.1
  refine r_iload_n hE 1 dX1_paramAt_g0.1 rfl rfl ?_
  refine r_bipush (v := (12 : Int32)) hE dX1_paramAt_g0.2.1 (by decide) ?_
  refine c_callSNi hE hm [.int a1, .int (12 : Int32)] [] ck_X1_74 cw_X1_74 (kc_SX12_inside h) (by decide) rfl rfl (Nat.le_of_ble_eq_true rfl) dX1_paramAt_g0.2.2.1 (fun s1 r2 h => ?_)
  refine r_if_eq hE 32 dX1_paramAt_g0.2.2.2.1 (by decide) h (fun h => ?_) (fun h => ?_)
  · refine r_iconst (v := (-1 : Int32)) hE dX1_paramAt_g1.2.1 (by decide) ?_
    exact c_iret hE hm hF dX1_paramAt_g1.2.2 h
  · refine r_iload_n hE 2 dX1_paramAt_g0.2.2.2.2.1 rfl rfl ?_
    refine r_bipush (v := (20 : Int32)) hE dX1_paramAt_g0.2.2.2.2.2.1 (by decide) ?_
    refine c_callSNi hE hm [.int a2, .int (20 : Int32)] [] ck_X1_74 cw_X1_74 (kc_SX12_inside h) (by decide) rfl rfl (Nat.le_of_ble_eq_true rfl) dX1_paramAt_g0.2.2.2.2.2.2.1 (fun s3 r4 h => ?_)
    refine r_if_eq hE 32 dX1_paramAt_g0.2.2.2.2.2.2.2.1 (by decide) h (fun h => ?_) (fun h => ?_)
    · refine r_iconst (v := (-1 : Int32)) hE dX1_paramAt_g1.2.1 (by decide) ?_
      exact c_iret hE hm hF dX1_paramAt_g1.2.2 h
    · refine r_aload_n hE 0 dX1_paramAt_g0.2.2.2.2.2.2.2.2.1 rfl rfl ?_
      refine cg_sp_nameAt hE hm fk_X1_50 dX1_paramAt_g0.2.2.2.2.2.2.2.2.2.1 ?_
      refine r_iload_n hE 1 dX1_paramAt_g0.2.2.2.2.2.2.2.2.2.2.1 rfl rfl ?_
      refine r_bipush (v := (20 : Int32)) hE dX1_paramAt_g0.2.2.2.2.2.2.2.2.2.2.2.1 (by decide) ?_
      refine r_imul hE dX1_paramAt_g0.2.2.2.2.2.2.2.2.2.2.2.2.1 ?_
      refine r_iload_n hE 2 dX1_paramAt_g0.2.2.2.2.2.2.2.2.2.2.2.2.2.1 rfl rfl ?_
      refine r_iadd hE dX1_paramAt_g0.2.2.2.2.2.2.2.2.2.2.2.2.2.2.1 ?_
      obtain ⟨hi, h⟩ := h
      refine cl_sp_nameAt hE hm dX1_paramAt_g0.2.2.2.2.2.2.2.2.2.2.2.2.2.2.2 hi ?_
      refine r_goto hE 33 dX1_paramAt_g1.1 (by decide) ?_
      exact c_iret hE hm hF dX1_paramAt_g1.2.2 h
/-! sp_macroAtOf -/
def wc_sp_macroAtOf (post : CS → Int32 → Prop) (σ : CS) (a1 : Int32) : Prop := wc_SX12_inside (fun (s1 : CS) (r2 : Int32) => ((r2 = (0 : Int32)) → (post s1 (-1 : Int32))) ∧ ((¬ (r2 = (0 : Int32))) → (vp_in a1 12 ∧ (post s1 (c_sp_macroAt s1 a1.toNatClampNeg))))) σ a1 (c_sp_macros σ)
set_option maxRecDepth 20000 in
theorem kc_sp_macroAtOf {l : Launch} {D : va_G} {G : gAd} {post : CS → Int32 → Prop} {σ : CS} {a1 : Int32} (h : wc_sp_macroAtOf post σ a1) : cMet l D G yX1_macroAtOf cX1_macroAtOf 2 (some .int) 2 [.ref (G.1 400), .int a1] σ (pI post) := by
  unfold wc_sp_macroAtOf at h
  refine c_enter (own := RX1) (by decide +kernel) rfl [(0, .ref (G.1 400)), (1, .int a1)] rfl (Nat.le_of_ble_eq_true rfl) ?_
  intro E hE hm hF
  have hN := hm.2.2.2.2.2.2.1
  refine r_iload_n hE 1 dX1_macroAtOf_g0.1 rfl rfl ?_
  refine r_aload_n hE 0 dX1_macroAtOf_g0.2.1 rfl rfl ?_
  refine cg_sp_macros hE hm fk_X1_65 dX1_macroAtOf_g0.2.2.1 ?_
  refine c_callSNi hE hm [.int a1, .int (c_sp_macros σ)] [] ck_X1_74 cw_X1_74 (kc_SX12_inside h) (by decide) rfl rfl (Nat.le_of_ble_eq_true rfl) dX1_macroAtOf_g0.2.2.2.1 (fun s1 r2 h => ?_)
  refine r_if_eq hE 20 dX1_macroAtOf_g0.2.2.2.2.1 (by decide) h (fun h => ?_) (fun h => ?_)
  · refine r_iconst (v := (-1 : Int32)) hE dX1_macroAtOf_g0.2.2.2.2.2.2.2.2.2.2.1 (by decide) ?_
    exact c_iret hE hm hF dX1_macroAtOf_g0.2.2.2.2.2.2.2.2.2.2.2 h
  · refine r_aload_n hE 0 dX1_macroAtOf_g0.2.2.2.2.2.1 rfl rfl ?_
    refine cg_sp_macroAt hE hm fk_X1_59 dX1_macroAtOf_g0.2.2.2.2.2.2.1 ?_
    refine r_iload_n hE 1 dX1_macroAtOf_g0.2.2.2.2.2.2.2.1 rfl rfl ?_
    obtain ⟨hi, h⟩ := h
    refine cl_sp_macroAt hE hm dX1_macroAtOf_g0.2.2.2.2.2.2.2.2.1 hi ?_
    refine r_goto hE 21 dX1_macroAtOf_g0.2.2.2.2.2.2.2.2.2.1 (by decide) ?_
    exact c_iret hE hm hF dX1_macroAtOf_g0.2.2.2.2.2.2.2.2.2.2.2 h
/-! sp_macroBodyOf -/
def wc_sp_macroBodyOf (post : CS → Int32 → Prop) (σ : CS) (a1 : Int32) : Prop := wc_SX12_inside (fun (s1 : CS) (r2 : Int32) => ((r2 = (0 : Int32)) → (post s1 (-1 : Int32))) ∧ ((¬ (r2 = (0 : Int32))) → (vp_in a1 12 ∧ (post s1 (c_sp_macroBody s1 a1.toNatClampNeg))))) σ a1 (c_sp_macros σ)
set_option maxRecDepth 20000 in
theorem kc_sp_macroBodyOf {l : Launch} {D : va_G} {G : gAd} {post : CS → Int32 → Prop} {σ : CS} {a1 : Int32} (h : wc_sp_macroBodyOf post σ a1) : cMet l D G yX1_macroBodyOf cX1_macroBodyOf 2 (some .int) 2 [.ref (G.1 400), .int a1] σ (pI post) := by
  unfold wc_sp_macroBodyOf at h
  refine c_enter (own := RX1) (by decide +kernel) rfl [(0, .ref (G.1 400)), (1, .int a1)] rfl (Nat.le_of_ble_eq_true rfl) ?_
  intro E hE hm hF
  have hN := hm.2.2.2.2.2.2.1
  refine r_iload_n hE 1 dX1_macroBodyOf_g0.1 rfl rfl ?_
  refine r_aload_n hE 0 dX1_macroBodyOf_g0.2.1 rfl rfl ?_
  refine cg_sp_macros hE hm fk_X1_65 dX1_macroBodyOf_g0.2.2.1 ?_
  refine c_callSNi hE hm [.int a1, .int (c_sp_macros σ)] [] ck_X1_74 cw_X1_74 (kc_SX12_inside h) (by decide) rfl rfl (Nat.le_of_ble_eq_true rfl) dX1_macroBodyOf_g0.2.2.2.1 (fun s1 r2 h => ?_)
  refine r_if_eq hE 20 dX1_macroBodyOf_g0.2.2.2.2.1 (by decide) h (fun h => ?_) (fun h => ?_)
  · refine r_iconst (v := (-1 : Int32)) hE dX1_macroBodyOf_g0.2.2.2.2.2.2.2.2.2.2.1 (by decide) ?_
    exact c_iret hE hm hF dX1_macroBodyOf_g0.2.2.2.2.2.2.2.2.2.2.2 h
  · refine r_aload_n hE 0 dX1_macroBodyOf_g0.2.2.2.2.2.1 rfl rfl ?_
    refine cg_sp_macroBody hE hm fk_X1_62 dX1_macroBodyOf_g0.2.2.2.2.2.2.1 ?_
    refine r_iload_n hE 1 dX1_macroBodyOf_g0.2.2.2.2.2.2.2.1 rfl rfl ?_
    obtain ⟨hi, h⟩ := h
    refine cl_sp_macroBody hE hm dX1_macroBodyOf_g0.2.2.2.2.2.2.2.2.1 hi ?_
    refine r_goto hE 21 dX1_macroBodyOf_g0.2.2.2.2.2.2.2.2.2.1 (by decide) ?_
    exact c_iret hE hm hF dX1_macroBodyOf_g0.2.2.2.2.2.2.2.2.2.2.2 h
/-! ou_byteAt -/
def wc_ou_byteAt (post : CS → Int32 → Prop) (σ : CS) (a1 : Int32) : Prop := wc_SX12_inside (fun (s1 : CS) (r2 : Int32) => ((r2 = (0 : Int32)) → (post s1 (-1 : Int32))) ∧ ((¬ (r2 = (0 : Int32))) → ((((16000 : Int32) ≤ a1) → (post s1 (-1 : Int32))) ∧ ((¬ ((16000 : Int32) ≤ a1)) → (vp_in a1 16000 ∧ (post s1 ((c_ou_bytes s1 a1.toNatClampNeg) &&& (255 : Int32)))))))) σ a1 (c_ou_length σ)
set_option maxRecDepth 20000 in
theorem kc_ou_byteAt {l : Launch} {D : va_G} {G : gAd} {post : CS → Int32 → Prop} {σ : CS} {a1 : Int32} (h : wc_ou_byteAt post σ a1) : cMet l D G yX3_byteAt cX3_byteAt 2 (some .int) 2 [.ref (G.1 500), .int a1] σ (pI post) := by
  unfold wc_ou_byteAt at h
  refine c_enter (own := RX3) (by decide +kernel) rfl [(0, .ref (G.1 500)), (1, .int a1)] rfl (Nat.le_of_ble_eq_true rfl) ?_
  intro E hE hm hF
  have hN := hm.2.2.2.2.2.2.1
  refine r_iload_n hE 1 dX3_byteAt_g0.1 rfl rfl ?_
  refine r_aload_n hE 0 dX3_byteAt_g0.2.1 rfl rfl ?_
  refine cg_ou_length hE hm fk_X3_19 dX3_byteAt_g0.2.2.1 ?_
  refine c_callSNi hE hm [.int a1, .int (c_ou_length σ)] [] ck_X3_23 cw_X3_23 (kc_SX12_inside h) (by decide) rfl rfl (Nat.le_of_ble_eq_true rfl) dX3_byteAt_g0.2.2.2.1 (fun s1 r2 h => ?_)
  refine r_if_eq hE 33 dX3_byteAt_g0.2.2.2.2.1 (by decide) h (fun h => ?_) (fun h => ?_)
  · refine r_iconst (v := (-1 : Int32)) hE dX3_byteAt_g1.2.1 (by decide) ?_
    exact c_iret hE hm hF dX3_byteAt_g1.2.2 h
  · refine r_iload_n hE 1 dX3_byteAt_g0.2.2.2.2.2.1 rfl rfl ?_
    refine r_aload_n hE 0 dX3_byteAt_g0.2.2.2.2.2.2.1 rfl rfl ?_
    refine cg_ou_bytes hE hm fk_X3_9 dX3_byteAt_g0.2.2.2.2.2.2.2.1 ?_
    refine cn_ou_bytes hE hm dX3_byteAt_g0.2.2.2.2.2.2.2.2.1 ?_
    refine r_icmp_ge hE 33 dX3_byteAt_g0.2.2.2.2.2.2.2.2.2.1 (by decide) h (fun h => ?_) (fun h => ?_)
    · refine r_iconst (v := (-1 : Int32)) hE dX3_byteAt_g1.2.1 (by decide) ?_
      exact c_iret hE hm hF dX3_byteAt_g1.2.2 h
    · refine r_aload_n hE 0 dX3_byteAt_g0.2.2.2.2.2.2.2.2.2.2.1 rfl rfl ?_
      refine cg_ou_bytes hE hm fk_X3_9 dX3_byteAt_g0.2.2.2.2.2.2.2.2.2.2.2.1 ?_
      refine r_iload_n hE 1 dX3_byteAt_g0.2.2.2.2.2.2.2.2.2.2.2.2.1 rfl rfl ?_
      obtain ⟨hi, h⟩ := h
      refine cl_ou_bytes hE hm dX3_byteAt_g0.2.2.2.2.2.2.2.2.2.2.2.2.2.1 hi ?_
      refine r_sipush (v := (255 : Int32)) hE dX3_byteAt_g0.2.2.2.2.2.2.2.2.2.2.2.2.2.2.1 (by decide) ?_
      refine r_iand hE dX3_byteAt_g0.2.2.2.2.2.2.2.2.2.2.2.2.2.2.2 ?_
      refine r_goto hE 34 dX3_byteAt_g1.1 (by decide) ?_
      exact c_iret hE hm hF dX3_byteAt_g1.2.2 h
/-! to_drawnAt -/
def wc_to_drawnAt (post : CS → Int32 → Prop) (σ : CS) (a1 : Int32) : Prop := wc_SX12_inside (fun (s1 : CS) (r2 : Int32) => ((r2 = (0 : Int32)) → (post s1 (-1 : Int32))) ∧ ((¬ (r2 = (0 : Int32))) → ((((40 : Int32) ≤ a1) → (post s1 (-1 : Int32))) ∧ ((¬ ((40 : Int32) ≤ a1)) → (vp_in a1 40 ∧ (post s1 (c_to_drawn s1 a1.toNatClampNeg))))))) σ a1 (c_to_draws σ)
set_option maxRecDepth 20000 in
theorem kc_to_drawnAt {l : Launch} {D : va_G} {G : gAd} {post : CS → Int32 → Prop} {σ : CS} {a1 : Int32} (h : wc_to_drawnAt post σ a1) : cMet l D G yX9_drawnAt cX9_drawnAt 2 (some .int) 2 [.ref (G.1 1100), .int a1] σ (pI post) := by
  unfold wc_to_drawnAt at h
  refine c_enter (own := RX9) (by decide +kernel) rfl [(0, .ref (G.1 1100)), (1, .int a1)] rfl (Nat.le_of_ble_eq_true rfl) ?_
  intro E hE hm hF
  have hN := hm.2.2.2.2.2.2.1
  refine r_iload_n hE 1 dX9_drawnAt_g0.1 rfl rfl ?_
  refine r_aload_n hE 0 dX9_drawnAt_g0.2.1 rfl rfl ?_
  refine cg_to_draws hE hm fk_X9_24 dX9_drawnAt_g0.2.2.1 ?_
  refine c_callSNi hE hm [.int a1, .int (c_to_draws σ)] [] ck_X9_41 cw_X9_41 (kc_SX12_inside h) (by decide) rfl rfl (Nat.le_of_ble_eq_true rfl) dX9_drawnAt_g0.2.2.2.1 (fun s1 r2 h => ?_)
  refine r_if_eq hE 26 dX9_drawnAt_g0.2.2.2.2.1 (by decide) h (fun h => ?_) (fun h => ?_)
  · refine r_iconst (v := (-1 : Int32)) hE dX9_drawnAt_g0.2.2.2.2.2.2.2.2.2.2.2.2.2.1 (by decide) ?_
    exact c_iret hE hm hF dX9_drawnAt_g0.2.2.2.2.2.2.2.2.2.2.2.2.2.2 h
  · refine r_iload_n hE 1 dX9_drawnAt_g0.2.2.2.2.2.1 rfl rfl ?_
    refine r_bipush (v := (40 : Int32)) hE dX9_drawnAt_g0.2.2.2.2.2.2.1 (by decide) ?_
    refine r_icmp_ge hE 26 dX9_drawnAt_g0.2.2.2.2.2.2.2.1 (by decide) h (fun h => ?_) (fun h => ?_)
    · refine r_iconst (v := (-1 : Int32)) hE dX9_drawnAt_g0.2.2.2.2.2.2.2.2.2.2.2.2.2.1 (by decide) ?_
      exact c_iret hE hm hF dX9_drawnAt_g0.2.2.2.2.2.2.2.2.2.2.2.2.2.2 h
    · refine r_aload_n hE 0 dX9_drawnAt_g0.2.2.2.2.2.2.2.2.1 rfl rfl ?_
      refine cg_to_drawn hE hm fk_X9_9 dX9_drawnAt_g0.2.2.2.2.2.2.2.2.2.1 ?_
      refine r_iload_n hE 1 dX9_drawnAt_g0.2.2.2.2.2.2.2.2.2.2.1 rfl rfl ?_
      obtain ⟨hi, h⟩ := h
      refine cl_to_drawn hE hm dX9_drawnAt_g0.2.2.2.2.2.2.2.2.2.2.2.1 hi ?_
      refine r_goto hE 27 dX9_drawnAt_g0.2.2.2.2.2.2.2.2.2.2.2.2.1 (by decide) ?_
      exact c_iret hE hm hF dX9_drawnAt_g0.2.2.2.2.2.2.2.2.2.2.2.2.2.2 h
