/-! fg_byteAt -/
def wc_fg_byteAt (post : CS → Int32 → Prop) (σ : CS) (a1 : Int32) : Prop := ((a1 < (0 : Int32)) → (post σ (-1 : Int32))) ∧ ((¬ (a1 < (0 : Int32))) → ((((c_fg_length σ) ≤ a1) → (post σ (-1 : Int32))) ∧ ((¬ ((c_fg_length σ) ≤ a1)) → ((((3000 : Int32) ≤ a1) → (post σ (-1 : Int32))) ∧ ((¬ ((3000 : Int32) ≤ a1)) → (vp_in a1 3000 ∧ (post σ ((c_fg_text σ a1.toNatClampNeg) &&& (255 : Int32)))))))))
set_option maxRecDepth 20000 in
theorem kc_fg_byteAt {l : Launch} {D : va_G} {G : gAd} {post : CS → Int32 → Prop} {σ : CS} {a1 : Int32} (h : wc_fg_byteAt post σ a1) : cMet l D G yX1_byteAt cX1_byteAt 2 (some .int) 1 [.ref (G.1 300), .int a1] σ (pI post) := by
  unfold wc_fg_byteAt at h
  refine c_enter (own := RX1) (by decide +kernel) rfl [(0, .ref (G.1 300)), (1, .int a1)] rfl (Nat.le_of_ble_eq_true rfl) ?_
  intro E hE hm hF
  have hN := hm.2.2.2.2.2.2.1
  refine r_iload_n hE 1 dX1_byteAt_g0.1 rfl rfl ?_
  refine r_if_lt hE 34 dX1_byteAt_g0.2.1 (by decide) h (fun h => ?_) (fun h => ?_)
  · refine r_iconst (v := (-1 : Int32)) hE dX1_byteAt_g1.2.2.1 (by decide) ?_
    exact c_iret hE hm hF dX1_byteAt_g1.2.2.2 h
  · refine r_iload_n hE 1 dX1_byteAt_g0.2.2.1 rfl rfl ?_
    refine r_aload_n hE 0 dX1_byteAt_g0.2.2.2.1 rfl rfl ?_
    refine cg_fg_length hE hm fk_X1_15 dX1_byteAt_g0.2.2.2.2.1 ?_
    refine r_icmp_ge hE 34 dX1_byteAt_g0.2.2.2.2.2.1 (by decide) h (fun h => ?_) (fun h => ?_)
    · refine r_iconst (v := (-1 : Int32)) hE dX1_byteAt_g1.2.2.1 (by decide) ?_
      exact c_iret hE hm hF dX1_byteAt_g1.2.2.2 h
    · refine r_iload_n hE 1 dX1_byteAt_g0.2.2.2.2.2.2.1 rfl rfl ?_
      refine r_aload_n hE 0 dX1_byteAt_g0.2.2.2.2.2.2.2.1 rfl rfl ?_
      refine cg_fg_text hE hm fk_X1_9 dX1_byteAt_g0.2.2.2.2.2.2.2.2.1 ?_
      refine cn_fg_text hE hm dX1_byteAt_g0.2.2.2.2.2.2.2.2.2.1 ?_
      refine r_icmp_ge hE 34 dX1_byteAt_g0.2.2.2.2.2.2.2.2.2.2.1 (by decide) h (fun h => ?_) (fun h => ?_)
      · refine r_iconst (v := (-1 : Int32)) hE dX1_byteAt_g1.2.2.1 (by decide) ?_
        exact c_iret hE hm hF dX1_byteAt_g1.2.2.2 h
      · refine r_aload_n hE 0 dX1_byteAt_g0.2.2.2.2.2.2.2.2.2.2.2.1 rfl rfl ?_
        refine cg_fg_text hE hm fk_X1_9 dX1_byteAt_g0.2.2.2.2.2.2.2.2.2.2.2.2.1 ?_
        refine r_iload_n hE 1 dX1_byteAt_g0.2.2.2.2.2.2.2.2.2.2.2.2.2.1 rfl rfl ?_
        obtain ⟨hi, h⟩ := h
        refine cl_fg_text hE hm dX1_byteAt_g0.2.2.2.2.2.2.2.2.2.2.2.2.2.2.1 hi ?_
        refine r_sipush (v := (255 : Int32)) hE dX1_byteAt_g0.2.2.2.2.2.2.2.2.2.2.2.2.2.2.2 (by decide) ?_
        refine r_iand hE dX1_byteAt_g1.1 ?_
        refine r_goto hE 35 dX1_byteAt_g1.2.1 (by decide) ?_
        exact c_iret hE hm hF dX1_byteAt_g1.2.2.2 h
/-! fg_add -/
def wc_fg_add_103 (post : CS → Int32 → Prop) (σ : CS) (v4 : Int32) (t1 : Int32) (t2 : Int32) : Prop := ∀ s1 : CS, s1 = c_fg_deeds_s σ (t1 + t2) → post s1 v4
set_option maxRecDepth 20000 in
theorem kc_fg_add_103  {E : gEnv} {l : Launch} {D : va_G} {G : gAd} {post : CS → Int32 → Prop} (hE : gOK E cX1_add RX1 (some .int) 2) (hm : cOK E l D G (pI post) 5) (hF : gFin E) (σ : CS) (v4 : Int32) (t1 : Int32) (t2 : Int32) (h : wc_fg_add_103 post σ v4 t1 t2) : GW E (cW G σ) 103 [(4, .int v4)] [.int t2, .int t1, .ref (G.1 300)] := by
  unfold wc_fg_add_103 at h
  have hN := hm.2.2.2.2.2.2.1
  refine r_iadd hE dX1_add_g3.2.2.2.2.2.2.2.2.2.2.2.2.1 ?_
  refine cp_fg_deeds hE hm fk_X1_44 dX1_add_g3.2.2.2.2.2.2.2.2.2.2.2.2.2.1 h (fun s1 h => ?_)
  refine r_iload hE 0 dX1_add_g3.2.2.2.2.2.2.2.2.2.2.2.2.2.2.1 rfl ?_
  exact c_iret hE hm hF dX1_add_g3.2.2.2.2.2.2.2.2.2.2.2.2.2.2.2 h
def wc_fg_add (post : CS → Int32 → Prop) (σ : CS) (a1 : Int32) (a2 : Int32) (a3 : Int32) : Prop := wc_SX12_inside (fun (s2 : CS) (r3 : Int32) => ((¬ (r3 = (0 : Int32))) → (∀ x4 : Int32, x4 = c_fg_nodes s2 → vp_in x4 250 ∧ (∀ s5 : CS, s5 = c_fg_type_s s2 x4.toNatClampNeg a1 → vp_in x4 250 ∧ (∀ s6 : CS, s6 = c_fg_at_s s5 x4.toNatClampNeg a2 → vp_in x4 250 ∧ (∀ s7 : CS, s7 = c_fg_data_s s6 x4.toNatClampNeg a3 → vp_in x4 250 ∧ (∀ s8 : CS, s8 = c_fg_first_s s7 x4.toNatClampNeg (-1 : Int32) → vp_in x4 250 ∧ (∀ s9 : CS, s9 = c_fg_next_s s8 x4.toNatClampNeg (-1 : Int32) → vp_in x4 250 ∧ (∀ s10 : CS, s10 = c_fg_body_s s9 x4.toNatClampNeg (-1 : Int32) → vp_in x4 250 ∧ (∀ s11 : CS, s11 = c_fg_other_s s10 x4.toNatClampNeg (-1 : Int32) → ∀ s12 : CS, s12 = c_fg_nodes_s s11 ((c_fg_nodes s11) + (1 : Int32)) → (((6 : Int32) < a1) → (wc_fg_add_103 post s12 x4 (c_fg_deeds s12) (0 : Int32))) ∧ ((¬ ((6 : Int32) < a1)) → (wc_fg_add_103 post s12 x4 (c_fg_deeds s12) (1 : Int32)))))))))))) ∧ ((r3 = (0 : Int32)) → (post s2 (-1 : Int32)))) σ (c_fg_nodes σ) (250 : Int32)
set_option maxRecDepth 20000 in
theorem kc_fg_add {l : Launch} {D : va_G} {G : gAd} {post : CS → Int32 → Prop} {σ : CS} {a1 : Int32} {a2 : Int32} {a3 : Int32} (h : wc_fg_add post σ a1 a2 a3) : cMet l D G yX1_add cX1_add 5 (some .int) 2 [.ref (G.1 300), .int a1, .int a2, .int a3] σ (pI post) := by
  unfold wc_fg_add at h
  refine c_enter (own := RX1) (by decide +kernel) rfl [(0, .ref (G.1 300)), (1, .int a1), (2, .int a2), (3, .int a3)] rfl (Nat.le_of_ble_eq_true rfl) ?_
  intro E hE hm hF
  have hN := hm.2.2.2.2.2.2.1
  refine r_aload_n hE 0 dX1_add_g0.1 rfl rfl ?_
  refine cg_fg_nodes hE hm fk_X1_41 dX1_add_g0.2.1 ?_
  refine r_sipush (v := (250 : Int32)) hE dX1_add_g0.2.2.1 (by decide) ?_
  refine c_callSNi hE hm [.int (c_fg_nodes σ), .int (250 : Int32)] [] ck_X1_74 cw_X1_74 (kc_SX12_inside h) (by decide) rfl rfl (Nat.le_of_ble_eq_true rfl) dX1_add_g0.2.2.2.1 (fun s2 r3 h => ?_)
  refine r_if_ne hE 15 dX1_add_g0.2.2.2.2.1 (by decide) h (fun h => ?_) (fun h => ?_)
  · refine r_aload_n hE 0 dX1_add_g0.2.2.2.2.2.2.2.1 rfl rfl ?_
    refine cg_fg_nodes hE hm fk_X1_41 dX1_add_g0.2.2.2.2.2.2.2.2.1 ?_
    refine r_topi h (fun x4 ex4 h => ?_)
    refine r_istore hE [(4, .int x4), (0, .ref (G.1 300)), (1, .int a1), (2, .int a2), (3, .int a3)] dX1_add_g0.2.2.2.2.2.2.2.2.2.1 hN (by decide) rfl ?_
    refine r_aload_n hE 1 dX1_add_g0.2.2.2.2.2.2.2.2.2.2.1 rfl rfl ?_
    refine cg_fg_type hE hm fk_X1_19 dX1_add_g0.2.2.2.2.2.2.2.2.2.2.2.1 ?_
    refine r_iload hE 0 dX1_add_g0.2.2.2.2.2.2.2.2.2.2.2.2.1 rfl ?_
    refine r_iload_n hE 2 dX1_add_g0.2.2.2.2.2.2.2.2.2.2.2.2.2.1 rfl rfl ?_
    obtain ⟨hi, h⟩ := h
    refine cs_fg_type hE hm dX1_add_g0.2.2.2.2.2.2.2.2.2.2.2.2.2.2.1 hi h (fun s5 h => ?_)
    refine r_aload_n hE 1 dX1_add_g0.2.2.2.2.2.2.2.2.2.2.2.2.2.2.2 rfl rfl ?_
    refine cg_fg_at hE hm fk_X1_23 dX1_add_g1.1 ?_
    refine r_iload hE 0 dX1_add_g1.2.1 rfl ?_
    refine r_iload_n hE 3 dX1_add_g1.2.2.1 rfl rfl ?_
    obtain ⟨hi, h⟩ := h
    refine cs_fg_at hE hm dX1_add_g1.2.2.2.1 hi h (fun s6 h => ?_)
    refine r_aload_n hE 1 dX1_add_g1.2.2.2.2.1 rfl rfl ?_
    refine cg_fg_data hE hm fk_X1_26 dX1_add_g1.2.2.2.2.2.1 ?_
    refine r_iload hE 0 dX1_add_g1.2.2.2.2.2.2.1 rfl ?_
    refine r_iload_n hE 4 dX1_add_g1.2.2.2.2.2.2.2.1 rfl rfl ?_
    obtain ⟨hi, h⟩ := h
    refine cs_fg_data hE hm dX1_add_g1.2.2.2.2.2.2.2.2.1 hi h (fun s7 h => ?_)
    refine r_aload_n hE 1 dX1_add_g1.2.2.2.2.2.2.2.2.2.1 rfl rfl ?_
    refine cg_fg_first hE hm fk_X1_29 dX1_add_g1.2.2.2.2.2.2.2.2.2.2.1 ?_
    refine r_iload hE 0 dX1_add_g1.2.2.2.2.2.2.2.2.2.2.2.1 rfl ?_
    refine r_iconst (v := (-1 : Int32)) hE dX1_add_g1.2.2.2.2.2.2.2.2.2.2.2.2.1 (by decide) ?_
    obtain ⟨hi, h⟩ := h
    refine cs_fg_first hE hm dX1_add_g1.2.2.2.2.2.2.2.2.2.2.2.2.2.1 hi h (fun s8 h => ?_)
    refine r_aload_n hE 1 dX1_add_g1.2.2.2.2.2.2.2.2.2.2.2.2.2.2.1 rfl rfl ?_
    refine cg_fg_next hE hm fk_X1_32 dX1_add_g1.2.2.2.2.2.2.2.2.2.2.2.2.2.2.2 ?_
    refine r_iload hE 0 dX1_add_g2.1 rfl ?_
    refine r_iconst (v := (-1 : Int32)) hE dX1_add_g2.2.1 (by decide) ?_
    obtain ⟨hi, h⟩ := h
    refine cs_fg_next hE hm dX1_add_g2.2.2.1 hi h (fun s9 h => ?_)
    refine r_aload_n hE 1 dX1_add_g2.2.2.2.1 rfl rfl ?_
    refine cg_fg_body hE hm fk_X1_35 dX1_add_g2.2.2.2.2.1 ?_
    refine r_iload hE 0 dX1_add_g2.2.2.2.2.2.1 rfl ?_
    refine r_iconst (v := (-1 : Int32)) hE dX1_add_g2.2.2.2.2.2.2.1 (by decide) ?_
    obtain ⟨hi, h⟩ := h
    refine cs_fg_body hE hm dX1_add_g2.2.2.2.2.2.2.2.1 hi h (fun s10 h => ?_)
    refine r_aload_n hE 1 dX1_add_g2.2.2.2.2.2.2.2.2.1 rfl rfl ?_
    refine cg_fg_other hE hm fk_X1_38 dX1_add_g2.2.2.2.2.2.2.2.2.2.1 ?_
    refine r_iload hE 0 dX1_add_g2.2.2.2.2.2.2.2.2.2.2.1 rfl ?_
    refine r_iconst (v := (-1 : Int32)) hE dX1_add_g2.2.2.2.2.2.2.2.2.2.2.2.1 (by decide) ?_
    obtain ⟨hi, h⟩ := h
    refine cs_fg_other hE hm dX1_add_g2.2.2.2.2.2.2.2.2.2.2.2.2.1 hi h (fun s11 h => ?_)
    refine r_aload_n hE 1 dX1_add_g2.2.2.2.2.2.2.2.2.2.2.2.2.2.1 rfl rfl ?_
    refine r_dup hE dX1_add_g2.2.2.2.2.2.2.2.2.2.2.2.2.2.2.1 rfl ?_
    refine cg_fg_nodes hE hm fk_X1_41 dX1_add_g2.2.2.2.2.2.2.2.2.2.2.2.2.2.2.2 ?_
    refine r_iconst (v := (1 : Int32)) hE dX1_add_g3.1 (by decide) ?_
    refine r_iadd hE dX1_add_g3.2.1 ?_
    refine cp_fg_nodes hE hm fk_X1_41 dX1_add_g3.2.2.1 h (fun s12 h => ?_)
    refine r_aload_n hE 1 dX1_add_g3.2.2.2.1 rfl rfl ?_
    refine r_dup hE dX1_add_g3.2.2.2.2.1 rfl ?_
    refine cg_fg_deeds hE hm fk_X1_44 dX1_add_g3.2.2.2.2.2.1 ?_
    refine r_iload_n hE 2 dX1_add_g3.2.2.2.2.2.2.1 rfl rfl ?_
    refine r_bipush (v := (6 : Int32)) hE dX1_add_g3.2.2.2.2.2.2.2.1 (by decide) ?_
    refine r_icmp_gt hE 102 dX1_add_g3.2.2.2.2.2.2.2.2.1 (by decide) h (fun h => ?_) (fun h => ?_)
    · refine r_iconst (v := (0 : Int32)) hE dX1_add_g3.2.2.2.2.2.2.2.2.2.2.2.1 (by decide) ?_
      refine r_pick [0] rfl ?_
      exact kc_fg_add_103 hE hm hF _ _ _ _ h
    · refine r_iconst (v := (1 : Int32)) hE dX1_add_g3.2.2.2.2.2.2.2.2.2.1 (by decide) ?_
      refine r_goto hE 103 dX1_add_g3.2.2.2.2.2.2.2.2.2.2.1 (by decide) ?_
      refine r_pick [0] rfl ?_
      exact kc_fg_add_103 hE hm hF _ _ _ _ h
  · refine r_iconst (v := (-1 : Int32)) hE dX1_add_g0.2.2.2.2.2.1 (by decide) ?_
    exact c_iret hE hm hF dX1_add_g0.2.2.2.2.2.2.1 h
/-! fg_become -/
def wc_fg_become (post : CS → Prop) (σ : CS) (a1 : Int32) (a2 : Int32) (a3 : Int32) : Prop := ((a1 < (0 : Int32)) → (post σ)) ∧ ((¬ (a1 < (0 : Int32))) → ((((c_fg_nodes σ) ≤ a1) → (post σ)) ∧ ((¬ ((c_fg_nodes σ) ≤ a1)) → (vp_in a1 250 ∧ (∀ s1 : CS, s1 = c_fg_type_s σ a1.toNatClampNeg a2 → vp_in a1 250 ∧ (∀ s2 : CS, s2 = c_fg_data_s s1 a1.toNatClampNeg a3 → post s2))))))
set_option maxRecDepth 20000 in
theorem kc_fg_become {l : Launch} {D : va_G} {G : gAd} {post : CS → Prop} {σ : CS} {a1 : Int32} {a2 : Int32} {a3 : Int32} (h : wc_fg_become post σ a1 a2 a3) : cMet l D G yX1_become cX1_become 4 none 1 [.ref (G.1 300), .int a1, .int a2, .int a3] σ (pV post) := by
  unfold wc_fg_become at h
  refine c_enter (own := RX1) (by decide +kernel) rfl [(0, .ref (G.1 300)), (1, .int a1), (2, .int a2), (3, .int a3)] rfl (Nat.le_of_ble_eq_true rfl) ?_
  intro E hE hm hF
  have hN := hm.2.2.2.2.2.2.1
  refine r_iload_n hE 1 dX1_become_g0.1 rfl rfl ?_
  refine r_if_lt hE 26 dX1_become_g0.2.1 (by decide) h (fun h => ?_) (fun h => ?_)
  · exact c_vret hE hm hF dX1_become_g1 h
  · refine r_iload_n hE 1 dX1_become_g0.2.2.1 rfl rfl ?_
    refine r_aload_n hE 0 dX1_become_g0.2.2.2.1 rfl rfl ?_
    refine cg_fg_nodes hE hm fk_X1_41 dX1_become_g0.2.2.2.2.1 ?_
    refine r_icmp_ge hE 26 dX1_become_g0.2.2.2.2.2.1 (by decide) h (fun h => ?_) (fun h => ?_)
    · exact c_vret hE hm hF dX1_become_g1 h
    · refine r_aload_n hE 0 dX1_become_g0.2.2.2.2.2.2.1 rfl rfl ?_
      refine cg_fg_type hE hm fk_X1_19 dX1_become_g0.2.2.2.2.2.2.2.1 ?_
      refine r_iload_n hE 1 dX1_become_g0.2.2.2.2.2.2.2.2.1 rfl rfl ?_
      refine r_iload_n hE 2 dX1_become_g0.2.2.2.2.2.2.2.2.2.1 rfl rfl ?_
      obtain ⟨hi, h⟩ := h
      refine cs_fg_type hE hm dX1_become_g0.2.2.2.2.2.2.2.2.2.2.1 hi h (fun s1 h => ?_)
      refine r_aload_n hE 0 dX1_become_g0.2.2.2.2.2.2.2.2.2.2.2.1 rfl rfl ?_
      refine cg_fg_data hE hm fk_X1_26 dX1_become_g0.2.2.2.2.2.2.2.2.2.2.2.2.1 ?_
      refine r_iload_n hE 1 dX1_become_g0.2.2.2.2.2.2.2.2.2.2.2.2.2.1 rfl rfl ?_
      refine r_iload_n hE 3 dX1_become_g0.2.2.2.2.2.2.2.2.2.2.2.2.2.2.1 rfl rfl ?_
      obtain ⟨hi, h⟩ := h
      refine cs_fg_data hE hm dX1_become_g0.2.2.2.2.2.2.2.2.2.2.2.2.2.2.2 hi h (fun s2 h => ?_)
      exact c_vret hE hm hF dX1_become_g1 h
/-! fg_hang -/
def wc_fg_hang (post : CS → Prop) (σ : CS) (a1 : Int32) (a2 : Int32) : Prop := ((a1 < (0 : Int32)) → (post σ)) ∧ ((¬ (a1 < (0 : Int32))) → ((((c_fg_nodes σ) ≤ a1) → (post σ)) ∧ ((¬ ((c_fg_nodes σ) ≤ a1)) → (vp_in a1 250 ∧ (∀ s1 : CS, s1 = c_fg_first_s σ a1.toNatClampNeg a2 → post s1)))))
set_option maxRecDepth 20000 in
theorem kc_fg_hang {l : Launch} {D : va_G} {G : gAd} {post : CS → Prop} {σ : CS} {a1 : Int32} {a2 : Int32} (h : wc_fg_hang post σ a1 a2) : cMet l D G yX1_hang cX1_hang 3 none 1 [.ref (G.1 300), .int a1, .int a2] σ (pV post) := by
  unfold wc_fg_hang at h
  refine c_enter (own := RX1) (by decide +kernel) rfl [(0, .ref (G.1 300)), (1, .int a1), (2, .int a2)] rfl (Nat.le_of_ble_eq_true rfl) ?_
  intro E hE hm hF
  have hN := hm.2.2.2.2.2.2.1
  refine r_iload_n hE 1 dX1_hang_g0.1 rfl rfl ?_
  refine r_if_lt hE 19 dX1_hang_g0.2.1 (by decide) h (fun h => ?_) (fun h => ?_)
  · exact c_vret hE hm hF dX1_hang_g0.2.2.2.2.2.2.2.2.2.2.2 h
  · refine r_iload_n hE 1 dX1_hang_g0.2.2.1 rfl rfl ?_
    refine r_aload_n hE 0 dX1_hang_g0.2.2.2.1 rfl rfl ?_
    refine cg_fg_nodes hE hm fk_X1_41 dX1_hang_g0.2.2.2.2.1 ?_
    refine r_icmp_ge hE 19 dX1_hang_g0.2.2.2.2.2.1 (by decide) h (fun h => ?_) (fun h => ?_)
    · exact c_vret hE hm hF dX1_hang_g0.2.2.2.2.2.2.2.2.2.2.2 h
    · refine r_aload_n hE 0 dX1_hang_g0.2.2.2.2.2.2.1 rfl rfl ?_
      refine cg_fg_first hE hm fk_X1_29 dX1_hang_g0.2.2.2.2.2.2.2.1 ?_
      refine r_iload_n hE 1 dX1_hang_g0.2.2.2.2.2.2.2.2.1 rfl rfl ?_
      refine r_iload_n hE 2 dX1_hang_g0.2.2.2.2.2.2.2.2.2.1 rfl rfl ?_
      obtain ⟨hi, h⟩ := h
      refine cs_fg_first hE hm dX1_hang_g0.2.2.2.2.2.2.2.2.2.2.1 hi h (fun s1 h => ?_)
      exact c_vret hE hm hF dX1_hang_g0.2.2.2.2.2.2.2.2.2.2.2 h
/-! fg_follow -/
def wc_fg_follow (post : CS → Prop) (σ : CS) (a1 : Int32) (a2 : Int32) : Prop := ((a1 < (0 : Int32)) → (post σ)) ∧ ((¬ (a1 < (0 : Int32))) → ((((c_fg_nodes σ) ≤ a1) → (post σ)) ∧ ((¬ ((c_fg_nodes σ) ≤ a1)) → (vp_in a1 250 ∧ (∀ s1 : CS, s1 = c_fg_next_s σ a1.toNatClampNeg a2 → post s1)))))
set_option maxRecDepth 20000 in
theorem kc_fg_follow {l : Launch} {D : va_G} {G : gAd} {post : CS → Prop} {σ : CS} {a1 : Int32} {a2 : Int32} (h : wc_fg_follow post σ a1 a2) : cMet l D G yX1_follow cX1_follow 3 none 1 [.ref (G.1 300), .int a1, .int a2] σ (pV post) := by
  unfold wc_fg_follow at h
  refine c_enter (own := RX1) (by decide +kernel) rfl [(0, .ref (G.1 300)), (1, .int a1), (2, .int a2)] rfl (Nat.le_of_ble_eq_true rfl) ?_
  intro E hE hm hF
  have hN := hm.2.2.2.2.2.2.1
  refine r_iload_n hE 1 dX1_follow_g0.1 rfl rfl ?_
  refine r_if_lt hE 19 dX1_follow_g0.2.1 (by decide) h (fun h => ?_) (fun h => ?_)
  · exact c_vret hE hm hF dX1_follow_g0.2.2.2.2.2.2.2.2.2.2.2 h
  · refine r_iload_n hE 1 dX1_follow_g0.2.2.1 rfl rfl ?_
    refine r_aload_n hE 0 dX1_follow_g0.2.2.2.1 rfl rfl ?_
    refine cg_fg_nodes hE hm fk_X1_41 dX1_follow_g0.2.2.2.2.1 ?_
    refine r_icmp_ge hE 19 dX1_follow_g0.2.2.2.2.2.1 (by decide) h (fun h => ?_) (fun h => ?_)
    · exact c_vret hE hm hF dX1_follow_g0.2.2.2.2.2.2.2.2.2.2.2 h
    · refine r_aload_n hE 0 dX1_follow_g0.2.2.2.2.2.2.1 rfl rfl ?_
      refine cg_fg_next hE hm fk_X1_32 dX1_follow_g0.2.2.2.2.2.2.2.1 ?_
      refine r_iload_n hE 1 dX1_follow_g0.2.2.2.2.2.2.2.2.1 rfl rfl ?_
      refine r_iload_n hE 2 dX1_follow_g0.2.2.2.2.2.2.2.2.2.1 rfl rfl ?_
      obtain ⟨hi, h⟩ := h
      refine cs_fg_next hE hm dX1_follow_g0.2.2.2.2.2.2.2.2.2.2.1 hi h (fun s1 h => ?_)
      exact c_vret hE hm hF dX1_follow_g0.2.2.2.2.2.2.2.2.2.2.2 h
/-! fg_hangBlock -/
def wc_fg_hangBlock (post : CS → Prop) (σ : CS) (a1 : Int32) (a2 : Int32) : Prop := ((a1 < (0 : Int32)) → (post σ)) ∧ ((¬ (a1 < (0 : Int32))) → ((((c_fg_nodes σ) ≤ a1) → (post σ)) ∧ ((¬ ((c_fg_nodes σ) ≤ a1)) → (vp_in a1 250 ∧ (∀ s1 : CS, s1 = c_fg_body_s σ a1.toNatClampNeg a2 → post s1)))))
set_option maxRecDepth 20000 in
theorem kc_fg_hangBlock {l : Launch} {D : va_G} {G : gAd} {post : CS → Prop} {σ : CS} {a1 : Int32} {a2 : Int32} (h : wc_fg_hangBlock post σ a1 a2) : cMet l D G yX1_hangBlock cX1_hangBlock 3 none 1 [.ref (G.1 300), .int a1, .int a2] σ (pV post) := by
  unfold wc_fg_hangBlock at h
  refine c_enter (own := RX1) (by decide +kernel) rfl [(0, .ref (G.1 300)), (1, .int a1), (2, .int a2)] rfl (Nat.le_of_ble_eq_true rfl) ?_
  intro E hE hm hF
  have hN := hm.2.2.2.2.2.2.1
  refine r_iload_n hE 1 dX1_hangBlock_g0.1 rfl rfl ?_
  refine r_if_lt hE 19 dX1_hangBlock_g0.2.1 (by decide) h (fun h => ?_) (fun h => ?_)
  · exact c_vret hE hm hF dX1_hangBlock_g0.2.2.2.2.2.2.2.2.2.2.2 h
  · refine r_iload_n hE 1 dX1_hangBlock_g0.2.2.1 rfl rfl ?_
    refine r_aload_n hE 0 dX1_hangBlock_g0.2.2.2.1 rfl rfl ?_
    refine cg_fg_nodes hE hm fk_X1_41 dX1_hangBlock_g0.2.2.2.2.1 ?_
    refine r_icmp_ge hE 19 dX1_hangBlock_g0.2.2.2.2.2.1 (by decide) h (fun h => ?_) (fun h => ?_)
    · exact c_vret hE hm hF dX1_hangBlock_g0.2.2.2.2.2.2.2.2.2.2.2 h
    · refine r_aload_n hE 0 dX1_hangBlock_g0.2.2.2.2.2.2.1 rfl rfl ?_
      refine cg_fg_body hE hm fk_X1_35 dX1_hangBlock_g0.2.2.2.2.2.2.2.1 ?_
      refine r_iload_n hE 1 dX1_hangBlock_g0.2.2.2.2.2.2.2.2.1 rfl rfl ?_
      refine r_iload_n hE 2 dX1_hangBlock_g0.2.2.2.2.2.2.2.2.2.1 rfl rfl ?_
      obtain ⟨hi, h⟩ := h
      refine cs_fg_body hE hm dX1_hangBlock_g0.2.2.2.2.2.2.2.2.2.2.1 hi h (fun s1 h => ?_)
      exact c_vret hE hm hF dX1_hangBlock_g0.2.2.2.2.2.2.2.2.2.2.2 h
/-! fg_hangElse -/
def wc_fg_hangElse (post : CS → Prop) (σ : CS) (a1 : Int32) (a2 : Int32) : Prop := ((a1 < (0 : Int32)) → (post σ)) ∧ ((¬ (a1 < (0 : Int32))) → ((((c_fg_nodes σ) ≤ a1) → (post σ)) ∧ ((¬ ((c_fg_nodes σ) ≤ a1)) → (vp_in a1 250 ∧ (∀ s1 : CS, s1 = c_fg_other_s σ a1.toNatClampNeg a2 → vp_in a1 250 ∧ (∀ s2 : CS, s2 = c_fg_data_s s1 a1.toNatClampNeg (1 : Int32) → post s2))))))
set_option maxRecDepth 20000 in
theorem kc_fg_hangElse {l : Launch} {D : va_G} {G : gAd} {post : CS → Prop} {σ : CS} {a1 : Int32} {a2 : Int32} (h : wc_fg_hangElse post σ a1 a2) : cMet l D G yX1_hangElse cX1_hangElse 3 none 1 [.ref (G.1 300), .int a1, .int a2] σ (pV post) := by
  unfold wc_fg_hangElse at h
  refine c_enter (own := RX1) (by decide +kernel) rfl [(0, .ref (G.1 300)), (1, .int a1), (2, .int a2)] rfl (Nat.le_of_ble_eq_true rfl) ?_
  intro E hE hm hF
  have hN := hm.2.2.2.2.2.2.1
  refine r_iload_n hE 1 dX1_hangElse_g0.1 rfl rfl ?_
  refine r_if_lt hE 26 dX1_hangElse_g0.2.1 (by decide) h (fun h => ?_) (fun h => ?_)
  · exact c_vret hE hm hF dX1_hangElse_g1 h
  · refine r_iload_n hE 1 dX1_hangElse_g0.2.2.1 rfl rfl ?_
    refine r_aload_n hE 0 dX1_hangElse_g0.2.2.2.1 rfl rfl ?_
    refine cg_fg_nodes hE hm fk_X1_41 dX1_hangElse_g0.2.2.2.2.1 ?_
    refine r_icmp_ge hE 26 dX1_hangElse_g0.2.2.2.2.2.1 (by decide) h (fun h => ?_) (fun h => ?_)
    · exact c_vret hE hm hF dX1_hangElse_g1 h
    · refine r_aload_n hE 0 dX1_hangElse_g0.2.2.2.2.2.2.1 rfl rfl ?_
      refine cg_fg_other hE hm fk_X1_38 dX1_hangElse_g0.2.2.2.2.2.2.2.1 ?_
      refine r_iload_n hE 1 dX1_hangElse_g0.2.2.2.2.2.2.2.2.1 rfl rfl ?_
      refine r_iload_n hE 2 dX1_hangElse_g0.2.2.2.2.2.2.2.2.2.1 rfl rfl ?_
      obtain ⟨hi, h⟩ := h
      refine cs_fg_other hE hm dX1_hangElse_g0.2.2.2.2.2.2.2.2.2.2.1 hi h (fun s1 h => ?_)
      refine r_aload_n hE 0 dX1_hangElse_g0.2.2.2.2.2.2.2.2.2.2.2.1 rfl rfl ?_
      refine cg_fg_data hE hm fk_X1_26 dX1_hangElse_g0.2.2.2.2.2.2.2.2.2.2.2.2.1 ?_
      refine r_iload_n hE 1 dX1_hangElse_g0.2.2.2.2.2.2.2.2.2.2.2.2.2.1 rfl rfl ?_
      refine r_iconst (v := (1 : Int32)) hE dX1_hangElse_g0.2.2.2.2.2.2.2.2.2.2.2.2.2.2.1 (by decide) ?_
      obtain ⟨hi, h⟩ := h
      refine cs_fg_data hE hm dX1_hangElse_g0.2.2.2.2.2.2.2.2.2.2.2.2.2.2.2 hi h (fun s2 h => ?_)
      exact c_vret hE hm hF dX1_hangElse_g1 h
/-! fg_sameWord -/
def wc_fg_sameWord_2 (post : CS → Int32 → Prop) : Nat → CS → Int32 → Int32 → Int32 → Prop
  | 0, _, _, _, _ => False
  | n + 1, σ, v1, v2, v3 => (((10 : Int32) ≤ v3) → (post σ (1 : Int32))) ∧ ((¬ ((10 : Int32) ≤ v3)) → (wc_fg_letterAt (fun (s1 : CS) (r2 : Int32) => wc_fg_letterAt (fun (s3 : CS) (r4 : Int32) => ((r2 = r4) → (((¬ (r2 = (0 : Int32))) → (∀ x5 : Int32, x5 = v3 + (1 : Int32) → wc_fg_sameWord_2 post n s3 v1 v2 x5)) ∧ ((r2 = (0 : Int32)) → (post s3 (1 : Int32))))) ∧ ((¬ (r2 = r4)) → (post s3 (0 : Int32)))) s1 (v2 + v3)) σ (v1 + v3)))
set_option maxRecDepth 20000 in
theorem kc_fg_sameWord_2  {E : gEnv} {l : Launch} {D : va_G} {G : gAd} {post : CS → Int32 → Prop} (hE : gOK E cX1_sameWord RX1 (some .boolean) 2) (hm : cOK E l D G (pI post) 5) (hF : gFin E) : ∀ (n0 : Nat) (σ : CS) (v1 : Int32) (v2 : Int32) (v3 : Int32), wc_fg_sameWord_2 post n0 σ v1 v2 v3 → GW E (cW G σ) 2 [(0, .ref (G.1 300)), (1, .int v1), (2, .int v2), (3, .int v3)] [] := by
  intro n0
  induction n0 with
  | zero => intro σ v1 v2 v3 h; exact h.elim
  | succ n0 ih =>
    intro σ v1 v2 v3 h
    rw [wc_fg_sameWord_2] at h
    have hN := hm.2.2.2.2.2.2.1
    refine r_iload_n hE 3 dX1_sameWord_g0.2.2.1 rfl rfl ?_
    refine r_bipush (v := (10 : Int32)) hE dX1_sameWord_g0.2.2.2.1 (by decide) ?_
    refine r_icmp_ge hE 44 dX1_sameWord_g0.2.2.2.2.1 (by decide) h (fun h => ?_) (fun h => ?_)
    · refine r_iconst (v := (1 : Int32)) hE dX1_sameWord_g1.2.2.2.2.2.2.2.2.2.2.1 (by decide) ?_
      exact c_zret hE hm hF dX1_sameWord_g1.2.2.2.2.2.2.2.2.2.2.2 (Or.inr rfl) h
    · refine r_aload_n hE 0 dX1_sameWord_g0.2.2.2.2.2.1 rfl rfl ?_
      refine r_iload_n hE 1 dX1_sameWord_g0.2.2.2.2.2.2.1 rfl rfl ?_
      refine r_iload_n hE 3 dX1_sameWord_g0.2.2.2.2.2.2.2.1 rfl rfl ?_
      refine r_iadd hE dX1_sameWord_g0.2.2.2.2.2.2.2.2.1 ?_
      refine c_callVi hE hm [.int (v1 + v3)] [] ck_X1_85 (cr_fg hm rfl) (kc_fg_letterAt h) (by decide) rfl rfl (Nat.le_of_ble_eq_true rfl) dX1_sameWord_g0.2.2.2.2.2.2.2.2.2.1 (fun s1 r2 h => ?_)
      refine r_istore hE [(4, .int r2), (0, .ref (G.1 300)), (1, .int v1), (2, .int v2), (3, .int v3)] dX1_sameWord_g0.2.2.2.2.2.2.2.2.2.2.1 hN (by decide) rfl ?_
      refine r_iload hE 0 dX1_sameWord_g0.2.2.2.2.2.2.2.2.2.2.2.1 rfl ?_
      refine r_aload_n hE 1 dX1_sameWord_g0.2.2.2.2.2.2.2.2.2.2.2.2.1 rfl rfl ?_
      refine r_iload_n hE 3 dX1_sameWord_g0.2.2.2.2.2.2.2.2.2.2.2.2.2.1 rfl rfl ?_
      refine r_iload_n hE 4 dX1_sameWord_g0.2.2.2.2.2.2.2.2.2.2.2.2.2.2.1 rfl rfl ?_
      refine r_iadd hE dX1_sameWord_g0.2.2.2.2.2.2.2.2.2.2.2.2.2.2.2 ?_
      refine c_callVi hE hm [.int (v2 + v3)] [.int r2] ck_X1_85 (cr_fg hm rfl) (kc_fg_letterAt h) (by decide) rfl rfl (Nat.le_of_ble_eq_true rfl) dX1_sameWord_g1.1 (fun s3 r4 h => ?_)
      refine r_icmp_eq hE 31 dX1_sameWord_g1.2.1 (by decide) h (fun h => ?_) (fun h => ?_)
      · refine r_iload hE 0 dX1_sameWord_g1.2.2.2.2.1 rfl ?_
        refine r_if_ne hE 38 dX1_sameWord_g1.2.2.2.2.2.1 (by decide) h (fun h => ?_) (fun h => ?_)
        · obtain ⟨x5, ex5⟩ : ∃ z : Int32, z = v3 + (1 : Int32) := ⟨_, rfl⟩
          have h := h x5 ex5
          refine r_iinc (v := x5) hE [(3, .int x5), (4, .int r2), (0, .ref (G.1 300)), (1, .int v1), (2, .int v2)] 4 dX1_sameWord_g1.2.2.2.2.2.2.2.2.1 rfl (by rw [ex5]; rfl) hN (by decide) rfl ?_
          refine r_goto hE 2 dX1_sameWord_g1.2.2.2.2.2.2.2.2.2.1 (by decide) ?_
          refine r_pick [2, 3, 4, 0] rfl ?_
          exact ih _ _ _ _ h
        · refine r_iconst (v := (1 : Int32)) hE dX1_sameWord_g1.2.2.2.2.2.2.1 (by decide) ?_
          exact c_zret hE hm hF dX1_sameWord_g1.2.2.2.2.2.2.2.1 (Or.inr rfl) h
      · refine r_iconst (v := (0 : Int32)) hE dX1_sameWord_g1.2.2.1 (by decide) ?_
        exact c_zret hE hm hF dX1_sameWord_g1.2.2.2.1 (Or.inl rfl) h
def wc_fg_sameWord (post : CS → Int32 → Prop) (σ : CS) (a1 : Int32) (a2 : Int32) : Prop := ∃ k : Nat, wc_fg_sameWord_2 post k σ a1 a2 (0 : Int32)
set_option maxRecDepth 20000 in
theorem kc_fg_sameWord {l : Launch} {D : va_G} {G : gAd} {post : CS → Int32 → Prop} {σ : CS} {a1 : Int32} {a2 : Int32} (h : wc_fg_sameWord post σ a1 a2) : cMet l D G yX1_sameWord cX1_sameWord 5 (some .boolean) 2 [.ref (G.1 300), .int a1, .int a2] σ (pI post) := by
  unfold wc_fg_sameWord at h
  refine c_enter (own := RX1) (by decide +kernel) rfl [(0, .ref (G.1 300)), (1, .int a1), (2, .int a2)] rfl (Nat.le_of_ble_eq_true rfl) ?_
  intro E hE hm hF
  have hN := hm.2.2.2.2.2.2.1
  refine r_iconst (v := (0 : Int32)) hE dX1_sameWord_g0.1 (by decide) ?_
  refine r_istore_n hE [(3, .int (0 : Int32)), (0, .ref (G.1 300)), (1, .int a1), (2, .int a2)] dX1_sameWord_g0.2.1 rfl hN (by decide) rfl ?_
  refine r_pick [1, 2, 3, 0] rfl ?_
  obtain ⟨k, h⟩ := h
  exact kc_fg_sameWord_2 hE hm hF k _ _ _ _ h
/-! fg_nameNumber -/
def wc_fg_nameNumber_2 (post : CS → Int32 → Prop) : Nat → CS → Int32 → Int32 → Int32 → Prop
  | 0, _, _, _, _ => False
  | n + 1, σ, v1, v2, v3 => wc_fg_namesIn (fun (s1 : CS) (r2 : Int32) => ((r2 ≤ v3) → (post s1 (-1 : Int32))) ∧ ((¬ (r2 ≤ v3)) → ((((20 : Int32) ≤ v3) → (post s1 (-1 : Int32))) ∧ ((¬ ((20 : Int32) ≤ v3)) → (vp_in ((v1 * (20 : Int32)) + v3) 260 ∧ (wc_fg_sameWord (fun (s3 : CS) (r4 : Int32) => ((r4 = (0 : Int32)) → (∀ x5 : Int32, x5 = v3 + (1 : Int32) → wc_fg_nameNumber_2 post n s3 v1 v2 x5)) ∧ ((¬ (r4 = (0 : Int32))) → (post s3 v3))) s1 (c_fg_nameAt s1 ((v1 * (20 : Int32)) + v3).toNatClampNeg) v2)))))) σ v1
set_option maxRecDepth 20000 in
theorem kc_fg_nameNumber_2  {E : gEnv} {l : Launch} {D : va_G} {G : gAd} {post : CS → Int32 → Prop} (hE : gOK E cX1_nameNumber RX1 (some .int) 3) (hm : cOK E l D G (pI post) 4) (hF : gFin E) : ∀ (n0 : Nat) (σ : CS) (v1 : Int32) (v2 : Int32) (v3 : Int32), wc_fg_nameNumber_2 post n0 σ v1 v2 v3 → GW E (cW G σ) 2 [(0, .ref (G.1 300)), (1, .int v1), (2, .int v2), (3, .int v3)] [] := by
  intro n0
  induction n0 with
  | zero => intro σ v1 v2 v3 h; exact h.elim
  | succ n0 ih =>
    intro σ v1 v2 v3 h
    rw [wc_fg_nameNumber_2] at h
    have hN := hm.2.2.2.2.2.2.1
    refine r_iload_n hE 3 dX1_nameNumber_g0.2.2.1 rfl rfl ?_
    refine r_aload_n hE 0 dX1_nameNumber_g0.2.2.2.1 rfl rfl ?_
    refine r_iload_n hE 1 dX1_nameNumber_g0.2.2.2.2.1 rfl rfl ?_
    refine c_callVi hE hm [.int v1] [.int v3] ck_X1_78 (cr_fg hm rfl) (kc_fg_namesIn h) (by decide) rfl rfl (Nat.le_of_ble_eq_true rfl) dX1_nameNumber_g0.2.2.2.2.2.1 (fun s1 r2 h => ?_)
    refine r_icmp_ge hE 44 dX1_nameNumber_g0.2.2.2.2.2.2.1 (by decide) h (fun h => ?_) (fun h => ?_)
    · refine r_iconst (v := (-1 : Int32)) hE dX1_nameNumber_g1.2.2.2.2.2.2.2.2.2.2.1 (by decide) ?_
      exact c_iret hE hm hF dX1_nameNumber_g1.2.2.2.2.2.2.2.2.2.2.2 h
    · refine r_iload_n hE 3 dX1_nameNumber_g0.2.2.2.2.2.2.2.1 rfl rfl ?_
      refine r_bipush (v := (20 : Int32)) hE dX1_nameNumber_g0.2.2.2.2.2.2.2.2.1 (by decide) ?_
      refine r_icmp_ge hE 44 dX1_nameNumber_g0.2.2.2.2.2.2.2.2.2.1 (by decide) h (fun h => ?_) (fun h => ?_)
      · refine r_iconst (v := (-1 : Int32)) hE dX1_nameNumber_g1.2.2.2.2.2.2.2.2.2.2.1 (by decide) ?_
        exact c_iret hE hm hF dX1_nameNumber_g1.2.2.2.2.2.2.2.2.2.2.2 h
      · refine r_aload_n hE 0 dX1_nameNumber_g0.2.2.2.2.2.2.2.2.2.2.1 rfl rfl ?_
        refine r_aload_n hE 0 dX1_nameNumber_g0.2.2.2.2.2.2.2.2.2.2.2.1 rfl rfl ?_
        refine cg_fg_nameAt hE hm fk_X1_50 dX1_nameNumber_g0.2.2.2.2.2.2.2.2.2.2.2.2.1 ?_
        refine r_iload_n hE 1 dX1_nameNumber_g0.2.2.2.2.2.2.2.2.2.2.2.2.2.1 rfl rfl ?_
        refine r_bipush (v := (20 : Int32)) hE dX1_nameNumber_g0.2.2.2.2.2.2.2.2.2.2.2.2.2.2.1 (by decide) ?_
        refine r_imul hE dX1_nameNumber_g0.2.2.2.2.2.2.2.2.2.2.2.2.2.2.2 ?_
        refine r_iload_n hE 3 dX1_nameNumber_g1.1 rfl rfl ?_
        refine r_iadd hE dX1_nameNumber_g1.2.1 ?_
        obtain ⟨hi, h⟩ := h
        refine cl_fg_nameAt hE hm dX1_nameNumber_g1.2.2.1 hi ?_
        refine r_iload_n hE 2 dX1_nameNumber_g1.2.2.2.1 rfl rfl ?_
        refine c_callVi hE hm [.int (c_fg_nameAt s1 ((v1 * (20 : Int32)) + v3).toNatClampNeg), .int v2] [] ck_X1_82 (cr_fg hm rfl) (kc_fg_sameWord h) (by decide) rfl rfl (Nat.le_of_ble_eq_true rfl) dX1_nameNumber_g1.2.2.2.2.1 (fun s3 r4 h => ?_)
        refine r_if_eq hE 38 dX1_nameNumber_g1.2.2.2.2.2.1 (by decide) h (fun h => ?_) (fun h => ?_)
        · obtain ⟨x5, ex5⟩ : ∃ z : Int32, z = v3 + (1 : Int32) := ⟨_, rfl⟩
          have h := h x5 ex5
          refine r_iinc (v := x5) hE [(3, .int x5), (0, .ref (G.1 300)), (1, .int v1), (2, .int v2)] 3 dX1_nameNumber_g1.2.2.2.2.2.2.2.2.1 rfl (by rw [ex5]; rfl) hN (by decide) rfl ?_
          refine r_goto hE 2 dX1_nameNumber_g1.2.2.2.2.2.2.2.2.2.1 (by decide) ?_
          refine r_pick [1, 2, 3, 0] rfl ?_
          exact ih _ _ _ _ h
        · refine r_iload_n hE 3 dX1_nameNumber_g1.2.2.2.2.2.2.1 rfl rfl ?_
          exact c_iret hE hm hF dX1_nameNumber_g1.2.2.2.2.2.2.2.1 h
def wc_fg_nameNumber (post : CS → Int32 → Prop) (σ : CS) (a1 : Int32) (a2 : Int32) : Prop := ∃ k : Nat, wc_fg_nameNumber_2 post k σ a1 a2 (0 : Int32)
set_option maxRecDepth 20000 in
theorem kc_fg_nameNumber {l : Launch} {D : va_G} {G : gAd} {post : CS → Int32 → Prop} {σ : CS} {a1 : Int32} {a2 : Int32} (h : wc_fg_nameNumber post σ a1 a2) : cMet l D G yX1_nameNumber cX1_nameNumber 4 (some .int) 3 [.ref (G.1 300), .int a1, .int a2] σ (pI post) := by
  unfold wc_fg_nameNumber at h
  refine c_enter (own := RX1) (by decide +kernel) rfl [(0, .ref (G.1 300)), (1, .int a1), (2, .int a2)] rfl (Nat.le_of_ble_eq_true rfl) ?_
  intro E hE hm hF
  have hN := hm.2.2.2.2.2.2.1
  refine r_iconst (v := (0 : Int32)) hE dX1_nameNumber_g0.1 (by decide) ?_
  refine r_istore_n hE [(3, .int (0 : Int32)), (0, .ref (G.1 300)), (1, .int a1), (2, .int a2)] dX1_nameNumber_g0.2.1 rfl hN (by decide) rfl ?_
  refine r_pick [1, 2, 3, 0] rfl ?_
  obtain ⟨k, h⟩ := h
  exact kc_fg_nameNumber_2 hE hm hF k _ _ _ _ h
/-! fg_tell -/
def wc_fg_tell (post : CS → Int32 → Prop) (σ : CS) (a1 : Int32) (a2 : Int32) : Prop := wc_fg_namesIn (fun (s1 : CS) (r2 : Int32) => wc_SX12_inside (fun (s3 : CS) (r4 : Int32) => ((r4 = (0 : Int32)) → (post s3 (-1 : Int32))) ∧ ((¬ (r4 = (0 : Int32))) → (wc_SX12_inside (fun (s5 : CS) (r6 : Int32) => ((¬ (r6 = (0 : Int32))) → (vp_in ((a1 * (20 : Int32)) + r2) 260 ∧ (∀ s7 : CS, s7 = c_fg_nameAt_s s5 ((a1 * (20 : Int32)) + r2).toNatClampNeg a2 → vp_in a1 13 ∧ (vp_in a1 13 ∧ (∀ s8 : CS, s8 = c_fg_names_s s7 a1.toNatClampNeg ((c_fg_names s7 a1.toNatClampNeg) + (1 : Int32)) → post s8 r2))))) ∧ ((r6 = (0 : Int32)) → (post s5 (-1 : Int32)))) s3 r2 (20 : Int32)))) s1 a1 (13 : Int32)) σ a1
set_option maxRecDepth 20000 in
theorem kc_fg_tell {l : Launch} {D : va_G} {G : gAd} {post : CS → Int32 → Prop} {σ : CS} {a1 : Int32} {a2 : Int32} (h : wc_fg_tell post σ a1 a2) : cMet l D G yX1_tell cX1_tell 4 (some .int) 3 [.ref (G.1 300), .int a1, .int a2] σ (pI post) := by
  unfold wc_fg_tell at h
  refine c_enter (own := RX1) (by decide +kernel) rfl [(0, .ref (G.1 300)), (1, .int a1), (2, .int a2)] rfl (Nat.le_of_ble_eq_true rfl) ?_
  intro E hE hm hF
  have hN := hm.2.2.2.2.2.2.1
  refine r_aload_n hE 0 dX1_tell_g0.1 rfl rfl ?_
  refine r_iload_n hE 1 dX1_tell_g0.2.1 rfl rfl ?_
  refine c_callVi hE hm [.int a1] [] ck_X1_78 (cr_fg hm rfl) (kc_fg_namesIn h) (by decide) rfl rfl (Nat.le_of_ble_eq_true rfl) dX1_tell_g0.2.2.1 (fun s1 r2 h => ?_)
  refine r_istore_n hE [(3, .int r2), (0, .ref (G.1 300)), (1, .int a1), (2, .int a2)] dX1_tell_g0.2.2.2.1 rfl hN (by decide) rfl ?_
  refine r_iload_n hE 2 dX1_tell_g0.2.2.2.2.1 rfl rfl ?_
  refine r_aload_n hE 1 dX1_tell_g0.2.2.2.2.2.1 rfl rfl ?_
  refine cg_fg_names hE hm fk_X1_53 dX1_tell_g0.2.2.2.2.2.2.1 ?_
  refine cn_fg_names hE hm dX1_tell_g0.2.2.2.2.2.2.2.1 ?_
  refine c_callSNi hE hm [.int a1, .int (13 : Int32)] [] ck_X1_74 cw_X1_74 (kc_SX12_inside h) (by decide) rfl rfl (Nat.le_of_ble_eq_true rfl) dX1_tell_g0.2.2.2.2.2.2.2.2.1 (fun s3 r4 h => ?_)
  refine r_if_eq hE 27 dX1_tell_g0.2.2.2.2.2.2.2.2.2.1 (by decide) h (fun h => ?_) (fun h => ?_)
  · refine r_iconst (v := (-1 : Int32)) hE dX1_tell_g0.2.2.2.2.2.2.2.2.2.2.2.2.2.2.1 (by decide) ?_
    exact c_iret hE hm hF dX1_tell_g0.2.2.2.2.2.2.2.2.2.2.2.2.2.2.2 h
  · refine r_iload_n hE 0 dX1_tell_g0.2.2.2.2.2.2.2.2.2.2.1 rfl rfl ?_
    refine r_bipush (v := (20 : Int32)) hE dX1_tell_g0.2.2.2.2.2.2.2.2.2.2.2.1 (by decide) ?_
    refine c_callSNi hE hm [.int r2, .int (20 : Int32)] [] ck_X1_74 cw_X1_74 (kc_SX12_inside h) (by decide) rfl rfl (Nat.le_of_ble_eq_true rfl) dX1_tell_g0.2.2.2.2.2.2.2.2.2.2.2.2.1 (fun s5 r6 h => ?_)
    refine r_if_ne hE 29 dX1_tell_g0.2.2.2.2.2.2.2.2.2.2.2.2.2.1 (by decide) h (fun h => ?_) (fun h => ?_)
    · refine r_aload_n hE 1 dX1_tell_g1.1 rfl rfl ?_
      refine cg_fg_nameAt hE hm fk_X1_50 dX1_tell_g1.2.1 ?_
      refine r_iload_n hE 2 dX1_tell_g1.2.2.1 rfl rfl ?_
      refine r_bipush (v := (20 : Int32)) hE dX1_tell_g1.2.2.2.1 (by decide) ?_
      refine r_imul hE dX1_tell_g1.2.2.2.2.1 ?_
      refine r_iload_n hE 0 dX1_tell_g1.2.2.2.2.2.1 rfl rfl ?_
      refine r_iadd hE dX1_tell_g1.2.2.2.2.2.2.1 ?_
      refine r_iload_n hE 3 dX1_tell_g1.2.2.2.2.2.2.2.1 rfl rfl ?_
      obtain ⟨hi, h⟩ := h
      refine cs_fg_nameAt hE hm dX1_tell_g1.2.2.2.2.2.2.2.2.1 hi h (fun s7 h => ?_)
      refine r_aload_n hE 1 dX1_tell_g1.2.2.2.2.2.2.2.2.2.1 rfl rfl ?_
      refine cg_fg_names hE hm fk_X1_53 dX1_tell_g1.2.2.2.2.2.2.2.2.2.2.1 ?_
      refine r_iload_n hE 2 dX1_tell_g1.2.2.2.2.2.2.2.2.2.2.2.1 rfl rfl ?_
      refine r_dup2 hE dX1_tell_g1.2.2.2.2.2.2.2.2.2.2.2.2.1 rfl rfl ?_
      obtain ⟨hi, h⟩ := h
      refine cl_fg_names hE hm dX1_tell_g1.2.2.2.2.2.2.2.2.2.2.2.2.2.1 hi ?_
      refine r_iconst (v := (1 : Int32)) hE dX1_tell_g1.2.2.2.2.2.2.2.2.2.2.2.2.2.2.1 (by decide) ?_
      refine r_iadd hE dX1_tell_g1.2.2.2.2.2.2.2.2.2.2.2.2.2.2.2 ?_
      obtain ⟨hi, h⟩ := h
      refine cs_fg_names hE hm dX1_tell_g2.1 hi h (fun s8 h => ?_)
      refine r_iload_n hE 0 dX1_tell_g2.2.1 rfl rfl ?_
      exact c_iret hE hm hF dX1_tell_g2.2.2 h
    · refine r_iconst (v := (-1 : Int32)) hE dX1_tell_g0.2.2.2.2.2.2.2.2.2.2.2.2.2.2.1 (by decide) ?_
      exact c_iret hE hm hF dX1_tell_g0.2.2.2.2.2.2.2.2.2.2.2.2.2.2.2 h
/-! fg_endHeader -/
def wc_fg_endHeader (post : CS → Prop) (σ : CS) (a1 : Int32) : Prop := wc_SX12_inside (fun (s1 : CS) (r2 : Int32) => ((r2 = (0 : Int32)) → (post s1)) ∧ ((¬ (r2 = (0 : Int32))) → (vp_in a1 13 ∧ (vp_in a1 12 ∧ (∀ s3 : CS, s3 = c_fg_params_s s1 a1.toNatClampNeg (c_fg_names s1 a1.toNatClampNeg) → post s3))))) σ a1 (12 : Int32)
set_option maxRecDepth 20000 in
theorem kc_fg_endHeader {l : Launch} {D : va_G} {G : gAd} {post : CS → Prop} {σ : CS} {a1 : Int32} (h : wc_fg_endHeader post σ a1) : cMet l D G yX1_endHeader cX1_endHeader 2 none 2 [.ref (G.1 300), .int a1] σ (pV post) := by
  unfold wc_fg_endHeader at h
  refine c_enter (own := RX1) (by decide +kernel) rfl [(0, .ref (G.1 300)), (1, .int a1)] rfl (Nat.le_of_ble_eq_true rfl) ?_
  intro E hE hm hF
  have hN := hm.2.2.2.2.2.2.1
  refine r_iload_n hE 1 dX1_endHeader_g0.1 rfl rfl ?_
  refine r_bipush (v := (12 : Int32)) hE dX1_endHeader_g0.2.1 (by decide) ?_
  refine c_callSNi hE hm [.int a1, .int (12 : Int32)] [] ck_X1_74 cw_X1_74 (kc_SX12_inside h) (by decide) rfl rfl (Nat.le_of_ble_eq_true rfl) dX1_endHeader_g0.2.2.1 (fun s1 r2 h => ?_)
  refine r_if_eq hE 21 dX1_endHeader_g0.2.2.2.1 (by decide) h (fun h => ?_) (fun h => ?_)
  · exact c_vret hE hm hF dX1_endHeader_g0.2.2.2.2.2.2.2.2.2.2.2.2 h
  · refine r_aload_n hE 0 dX1_endHeader_g0.2.2.2.2.1 rfl rfl ?_
    refine cg_fg_params hE hm fk_X1_56 dX1_endHeader_g0.2.2.2.2.2.1 ?_
    refine r_iload_n hE 1 dX1_endHeader_g0.2.2.2.2.2.2.1 rfl rfl ?_
    refine r_aload_n hE 0 dX1_endHeader_g0.2.2.2.2.2.2.2.1 rfl rfl ?_
    refine cg_fg_names hE hm fk_X1_53 dX1_endHeader_g0.2.2.2.2.2.2.2.2.1 ?_
    refine r_iload_n hE 1 dX1_endHeader_g0.2.2.2.2.2.2.2.2.2.1 rfl rfl ?_
    obtain ⟨hi, h⟩ := h
    refine cl_fg_names hE hm dX1_endHeader_g0.2.2.2.2.2.2.2.2.2.2.1 hi ?_
    obtain ⟨hi, h⟩ := h
    refine cs_fg_params hE hm dX1_endHeader_g0.2.2.2.2.2.2.2.2.2.2.2.1 hi h (fun s3 h => ?_)
    exact c_vret hE hm hF dX1_endHeader_g0.2.2.2.2.2.2.2.2.2.2.2.2 h
/-! fg_endMacro -/
def wc_fg_endMacro (post : CS → Prop) (σ : CS) (a1 : Int32) (a2 : Int32) : Prop := wc_SX12_inside (fun (s1 : CS) (r2 : Int32) => ((r2 = (0 : Int32)) → (post s1)) ∧ ((¬ (r2 = (0 : Int32))) → (vp_in (c_fg_macros s1) 12 ∧ (∀ s3 : CS, s3 = c_fg_macroAt_s s1 (c_fg_macros s1).toNatClampNeg a1 → vp_in (c_fg_macros s3) 12 ∧ (∀ s4 : CS, s4 = c_fg_macroBody_s s3 (c_fg_macros s3).toNatClampNeg a2 → ∀ s5 : CS, s5 = c_fg_macros_s s4 ((c_fg_macros s4) + (1 : Int32)) → post s5))))) σ (c_fg_macros σ) (12 : Int32)
set_option maxRecDepth 20000 in
theorem kc_fg_endMacro {l : Launch} {D : va_G} {G : gAd} {post : CS → Prop} {σ : CS} {a1 : Int32} {a2 : Int32} (h : wc_fg_endMacro post σ a1 a2) : cMet l D G yX1_endMacro cX1_endMacro 3 none 2 [.ref (G.1 300), .int a1, .int a2] σ (pV post) := by
  unfold wc_fg_endMacro at h
  refine c_enter (own := RX1) (by decide +kernel) rfl [(0, .ref (G.1 300)), (1, .int a1), (2, .int a2)] rfl (Nat.le_of_ble_eq_true rfl) ?_
  intro E hE hm hF
  have hN := hm.2.2.2.2.2.2.1
  refine r_aload_n hE 0 dX1_endMacro_g0.1 rfl rfl ?_
  refine cg_fg_macros hE hm fk_X1_65 dX1_endMacro_g0.2.1 ?_
  refine r_bipush (v := (12 : Int32)) hE dX1_endMacro_g0.2.2.1 (by decide) ?_
  refine c_callSNi hE hm [.int (c_fg_macros σ), .int (12 : Int32)] [] ck_X1_74 cw_X1_74 (kc_SX12_inside h) (by decide) rfl rfl (Nat.le_of_ble_eq_true rfl) dX1_endMacro_g0.2.2.2.1 (fun s1 r2 h => ?_)
  refine r_if_eq hE 42 dX1_endMacro_g0.2.2.2.2.1 (by decide) h (fun h => ?_) (fun h => ?_)
  · exact c_vret hE hm hF dX1_endMacro_g1.2.2.2.2.2.2.2 h
  · refine r_aload_n hE 0 dX1_endMacro_g0.2.2.2.2.2.1 rfl rfl ?_
    refine cg_fg_macroAt hE hm fk_X1_59 dX1_endMacro_g0.2.2.2.2.2.2.1 ?_
    refine r_aload_n hE 0 dX1_endMacro_g0.2.2.2.2.2.2.2.1 rfl rfl ?_
    refine cg_fg_macros hE hm fk_X1_65 dX1_endMacro_g0.2.2.2.2.2.2.2.2.1 ?_
    refine r_iload_n hE 1 dX1_endMacro_g0.2.2.2.2.2.2.2.2.2.1 rfl rfl ?_
    obtain ⟨hi, h⟩ := h
    refine cs_fg_macroAt hE hm dX1_endMacro_g0.2.2.2.2.2.2.2.2.2.2.1 hi h (fun s3 h => ?_)
    refine r_aload_n hE 0 dX1_endMacro_g0.2.2.2.2.2.2.2.2.2.2.2.1 rfl rfl ?_
    refine cg_fg_macroBody hE hm fk_X1_62 dX1_endMacro_g0.2.2.2.2.2.2.2.2.2.2.2.2.1 ?_
    refine r_aload_n hE 0 dX1_endMacro_g0.2.2.2.2.2.2.2.2.2.2.2.2.2.1 rfl rfl ?_
    refine cg_fg_macros hE hm fk_X1_65 dX1_endMacro_g0.2.2.2.2.2.2.2.2.2.2.2.2.2.2.1 ?_
    refine r_iload_n hE 2 dX1_endMacro_g0.2.2.2.2.2.2.2.2.2.2.2.2.2.2.2 rfl rfl ?_
    obtain ⟨hi, h⟩ := h
    refine cs_fg_macroBody hE hm dX1_endMacro_g1.1 hi h (fun s4 h => ?_)
    refine r_aload_n hE 0 dX1_endMacro_g1.2.1 rfl rfl ?_
    refine r_dup hE dX1_endMacro_g1.2.2.1 rfl ?_
    refine cg_fg_macros hE hm fk_X1_65 dX1_endMacro_g1.2.2.2.1 ?_
    refine r_iconst (v := (1 : Int32)) hE dX1_endMacro_g1.2.2.2.2.1 (by decide) ?_
    refine r_iadd hE dX1_endMacro_g1.2.2.2.2.2.1 ?_
    refine cp_fg_macros hE hm fk_X1_65 dX1_endMacro_g1.2.2.2.2.2.2.1 h (fun s5 h => ?_)
    exact c_vret hE hm hF dX1_endMacro_g1.2.2.2.2.2.2.2 h
/-! fg_macroNumber -/
def wc_fg_macroNumber_2 (post : CS → Int32 → Prop) : Nat → CS → Int32 → Int32 → Prop
  | 0, _, _, _ => False
  | n + 1, σ, v1, v2 => (((c_fg_macros σ) ≤ v2) → (post σ (-1 : Int32))) ∧ ((¬ ((c_fg_macros σ) ≤ v2)) → ((((12 : Int32) ≤ v2) → (post σ (-1 : Int32))) ∧ ((¬ ((12 : Int32) ≤ v2)) → (vp_in v2 12 ∧ (wc_fg_sameWord (fun (s1 : CS) (r2 : Int32) => ((r2 = (0 : Int32)) → (∀ x3 : Int32, x3 = v2 + (1 : Int32) → wc_fg_macroNumber_2 post n s1 v1 x3)) ∧ ((¬ (r2 = (0 : Int32))) → (post s1 v2))) σ (c_fg_macroAt σ v2.toNatClampNeg) v1)))))
set_option maxRecDepth 20000 in
theorem kc_fg_macroNumber_2  {E : gEnv} {l : Launch} {D : va_G} {G : gAd} {post : CS → Int32 → Prop} (hE : gOK E cX1_macroNumber RX1 (some .int) 3) (hm : cOK E l D G (pI post) 3) (hF : gFin E) : ∀ (n0 : Nat) (σ : CS) (v1 : Int32) (v2 : Int32), wc_fg_macroNumber_2 post n0 σ v1 v2 → GW E (cW G σ) 2 [(0, .ref (G.1 300)), (1, .int v1), (2, .int v2)] [] := by
  intro n0
  induction n0 with
  | zero => intro σ v1 v2 h; exact h.elim
  | succ n0 ih =>
    intro σ v1 v2 h
    rw [wc_fg_macroNumber_2] at h
    have hN := hm.2.2.2.2.2.2.1
    refine r_iload_n hE 2 dX1_macroNumber_g0.2.2.1 rfl rfl ?_
    refine r_aload_n hE 0 dX1_macroNumber_g0.2.2.2.1 rfl rfl ?_
    refine cg_fg_macros hE hm fk_X1_65 dX1_macroNumber_g0.2.2.2.2.1 ?_
    refine r_icmp_ge hE 38 dX1_macroNumber_g0.2.2.2.2.2.1 (by decide) h (fun h => ?_) (fun h => ?_)
    · refine r_iconst (v := (-1 : Int32)) hE dX1_macroNumber_g1.2.2.2.2.2.1 (by decide) ?_
      exact c_iret hE hm hF dX1_macroNumber_g1.2.2.2.2.2.2 h
    · refine r_iload_n hE 2 dX1_macroNumber_g0.2.2.2.2.2.2.1 rfl rfl ?_
      refine r_bipush (v := (12 : Int32)) hE dX1_macroNumber_g0.2.2.2.2.2.2.2.1 (by decide) ?_
      refine r_icmp_ge hE 38 dX1_macroNumber_g0.2.2.2.2.2.2.2.2.1 (by decide) h (fun h => ?_) (fun h => ?_)
      · refine r_iconst (v := (-1 : Int32)) hE dX1_macroNumber_g1.2.2.2.2.2.1 (by decide) ?_
        exact c_iret hE hm hF dX1_macroNumber_g1.2.2.2.2.2.2 h
      · refine r_aload_n hE 0 dX1_macroNumber_g0.2.2.2.2.2.2.2.2.2.1 rfl rfl ?_
        refine r_aload_n hE 0 dX1_macroNumber_g0.2.2.2.2.2.2.2.2.2.2.1 rfl rfl ?_
        refine cg_fg_macroAt hE hm fk_X1_59 dX1_macroNumber_g0.2.2.2.2.2.2.2.2.2.2.2.1 ?_
        refine r_iload_n hE 2 dX1_macroNumber_g0.2.2.2.2.2.2.2.2.2.2.2.2.1 rfl rfl ?_
        obtain ⟨hi, h⟩ := h
        refine cl_fg_macroAt hE hm dX1_macroNumber_g0.2.2.2.2.2.2.2.2.2.2.2.2.2.1 hi ?_
        refine r_iload_n hE 1 dX1_macroNumber_g0.2.2.2.2.2.2.2.2.2.2.2.2.2.2.1 rfl rfl ?_
        refine c_callVi hE hm [.int (c_fg_macroAt σ v2.toNatClampNeg), .int v1] [] ck_X1_82 (cr_fg hm rfl) (kc_fg_sameWord h) (by decide) rfl rfl (Nat.le_of_ble_eq_true rfl) dX1_macroNumber_g0.2.2.2.2.2.2.2.2.2.2.2.2.2.2.2 (fun s1 r2 h => ?_)
        refine r_if_eq hE 32 dX1_macroNumber_g1.1 (by decide) h (fun h => ?_) (fun h => ?_)
        · obtain ⟨x3, ex3⟩ : ∃ z : Int32, z = v2 + (1 : Int32) := ⟨_, rfl⟩
          have h := h x3 ex3
          refine r_iinc (v := x3) hE [(2, .int x3), (0, .ref (G.1 300)), (1, .int v1)] 2 dX1_macroNumber_g1.2.2.2.1 rfl (by rw [ex3]; rfl) hN (by decide) rfl ?_
          refine r_goto hE 2 dX1_macroNumber_g1.2.2.2.2.1 (by decide) ?_
          refine r_pick [1, 2, 0] rfl ?_
          exact ih _ _ _ h
        · refine r_iload_n hE 2 dX1_macroNumber_g1.2.1 rfl rfl ?_
          exact c_iret hE hm hF dX1_macroNumber_g1.2.2.1 h
def wc_fg_macroNumber (post : CS → Int32 → Prop) (σ : CS) (a1 : Int32) : Prop := ∃ k : Nat, wc_fg_macroNumber_2 post k σ a1 (0 : Int32)
set_option maxRecDepth 20000 in
theorem kc_fg_macroNumber {l : Launch} {D : va_G} {G : gAd} {post : CS → Int32 → Prop} {σ : CS} {a1 : Int32} (h : wc_fg_macroNumber post σ a1) : cMet l D G yX1_macroNumber cX1_macroNumber 3 (some .int) 3 [.ref (G.1 300), .int a1] σ (pI post) := by
  unfold wc_fg_macroNumber at h
  refine c_enter (own := RX1) (by decide +kernel) rfl [(0, .ref (G.1 300)), (1, .int a1)] rfl (Nat.le_of_ble_eq_true rfl) ?_
  intro E hE hm hF
  have hN := hm.2.2.2.2.2.2.1
  refine r_iconst (v := (0 : Int32)) hE dX1_macroNumber_g0.1 (by decide) ?_
  refine r_istore_n hE [(2, .int (0 : Int32)), (0, .ref (G.1 300)), (1, .int a1)] dX1_macroNumber_g0.2.1 rfl hN (by decide) rfl ?_
  refine r_pick [1, 2, 0] rfl ?_
  obtain ⟨k, h⟩ := h
  exact kc_fg_macroNumber_2 hE hm hF k _ _ _ h
/-! sp_typeOf -/
def wc_sp_typeOf (post : CS → Int32 → Prop) (σ : CS) (a1 : Int32) : Prop := ((a1 < (0 : Int32)) → (post σ (-1 : Int32))) ∧ ((¬ (a1 < (0 : Int32))) → ((((c_sp_nodes σ) ≤ a1) → (post σ (-1 : Int32))) ∧ ((¬ ((c_sp_nodes σ) ≤ a1)) → (vp_in a1 250 ∧ (post σ (c_sp_type σ a1.toNatClampNeg))))))
set_option maxRecDepth 20000 in
theorem kc_sp_typeOf {l : Launch} {D : va_G} {G : gAd} {post : CS → Int32 → Prop} {σ : CS} {a1 : Int32} (h : wc_sp_typeOf post σ a1) : cMet l D G yX1_typeOf cX1_typeOf 2 (some .int) 1 [.ref (G.1 400), .int a1] σ (pI post) := by
  unfold wc_sp_typeOf at h
  refine c_enter (own := RX1) (by decide +kernel) rfl [(0, .ref (G.1 400)), (1, .int a1)] rfl (Nat.le_of_ble_eq_true rfl) ?_
  intro E hE hm hF
  have hN := hm.2.2.2.2.2.2.1
  refine r_iload_n hE 1 dX1_typeOf_g0.1 rfl rfl ?_
  refine r_if_lt hE 21 dX1_typeOf_g0.2.1 (by decide) h (fun h => ?_) (fun h => ?_)
  · refine r_iconst (v := (-1 : Int32)) hE dX1_typeOf_g0.2.2.2.2.2.2.2.2.2.2.2.1 (by decide) ?_
    exact c_iret hE hm hF dX1_typeOf_g0.2.2.2.2.2.2.2.2.2.2.2.2 h
  · refine r_iload_n hE 1 dX1_typeOf_g0.2.2.1 rfl rfl ?_
    refine r_aload_n hE 0 dX1_typeOf_g0.2.2.2.1 rfl rfl ?_
    refine cg_sp_nodes hE hm fk_X1_41 dX1_typeOf_g0.2.2.2.2.1 ?_
    refine r_icmp_ge hE 21 dX1_typeOf_g0.2.2.2.2.2.1 (by decide) h (fun h => ?_) (fun h => ?_)
    · refine r_iconst (v := (-1 : Int32)) hE dX1_typeOf_g0.2.2.2.2.2.2.2.2.2.2.2.1 (by decide) ?_
      exact c_iret hE hm hF dX1_typeOf_g0.2.2.2.2.2.2.2.2.2.2.2.2 h
    · refine r_aload_n hE 0 dX1_typeOf_g0.2.2.2.2.2.2.1 rfl rfl ?_
      refine cg_sp_type hE hm fk_X1_19 dX1_typeOf_g0.2.2.2.2.2.2.2.1 ?_
      refine r_iload_n hE 1 dX1_typeOf_g0.2.2.2.2.2.2.2.2.1 rfl rfl ?_
      obtain ⟨hi, h⟩ := h
      refine cl_sp_type hE hm dX1_typeOf_g0.2.2.2.2.2.2.2.2.2.1 hi ?_
      refine r_goto hE 22 dX1_typeOf_g0.2.2.2.2.2.2.2.2.2.2.1 (by decide) ?_
      exact c_iret hE hm hF dX1_typeOf_g0.2.2.2.2.2.2.2.2.2.2.2.2 h
/-! sp_atOf -/
def wc_sp_atOf (post : CS → Int32 → Prop) (σ : CS) (a1 : Int32) : Prop := ((a1 < (0 : Int32)) → (post σ (-1 : Int32))) ∧ ((¬ (a1 < (0 : Int32))) → ((((c_sp_nodes σ) ≤ a1) → (post σ (-1 : Int32))) ∧ ((¬ ((c_sp_nodes σ) ≤ a1)) → (vp_in a1 250 ∧ (post σ (c_sp_at σ a1.toNatClampNeg))))))
set_option maxRecDepth 20000 in
theorem kc_sp_atOf {l : Launch} {D : va_G} {G : gAd} {post : CS → Int32 → Prop} {σ : CS} {a1 : Int32} (h : wc_sp_atOf post σ a1) : cMet l D G yX1_atOf cX1_atOf 2 (some .int) 1 [.ref (G.1 400), .int a1] σ (pI post) := by
  unfold wc_sp_atOf at h
  refine c_enter (own := RX1) (by decide +kernel) rfl [(0, .ref (G.1 400)), (1, .int a1)] rfl (Nat.le_of_ble_eq_true rfl) ?_
  intro E hE hm hF
  have hN := hm.2.2.2.2.2.2.1
  refine r_iload_n hE 1 dX1_atOf_g0.1 rfl rfl ?_
  refine r_if_lt hE 21 dX1_atOf_g0.2.1 (by decide) h (fun h => ?_) (fun h => ?_)
  · refine r_iconst (v := (-1 : Int32)) hE dX1_atOf_g0.2.2.2.2.2.2.2.2.2.2.2.1 (by decide) ?_
    exact c_iret hE hm hF dX1_atOf_g0.2.2.2.2.2.2.2.2.2.2.2.2 h
  · refine r_iload_n hE 1 dX1_atOf_g0.2.2.1 rfl rfl ?_
    refine r_aload_n hE 0 dX1_atOf_g0.2.2.2.1 rfl rfl ?_
    refine cg_sp_nodes hE hm fk_X1_41 dX1_atOf_g0.2.2.2.2.1 ?_
    refine r_icmp_ge hE 21 dX1_atOf_g0.2.2.2.2.2.1 (by decide) h (fun h => ?_) (fun h => ?_)
    · refine r_iconst (v := (-1 : Int32)) hE dX1_atOf_g0.2.2.2.2.2.2.2.2.2.2.2.1 (by decide) ?_
      exact c_iret hE hm hF dX1_atOf_g0.2.2.2.2.2.2.2.2.2.2.2.2 h
    · refine r_aload_n hE 0 dX1_atOf_g0.2.2.2.2.2.2.1 rfl rfl ?_
      refine cg_sp_at hE hm fk_X1_23 dX1_atOf_g0.2.2.2.2.2.2.2.1 ?_
      refine r_iload_n hE 1 dX1_atOf_g0.2.2.2.2.2.2.2.2.1 rfl rfl ?_
      obtain ⟨hi, h⟩ := h
      refine cl_sp_at hE hm dX1_atOf_g0.2.2.2.2.2.2.2.2.2.1 hi ?_
      refine r_goto hE 22 dX1_atOf_g0.2.2.2.2.2.2.2.2.2.2.1 (by decide) ?_
      exact c_iret hE hm hF dX1_atOf_g0.2.2.2.2.2.2.2.2.2.2.2.2 h
/-! sp_dataOf -/
def wc_sp_dataOf (post : CS → Int32 → Prop) (σ : CS) (a1 : Int32) : Prop := ((a1 < (0 : Int32)) → (post σ (-1 : Int32))) ∧ ((¬ (a1 < (0 : Int32))) → ((((c_sp_nodes σ) ≤ a1) → (post σ (-1 : Int32))) ∧ ((¬ ((c_sp_nodes σ) ≤ a1)) → (vp_in a1 250 ∧ (post σ (c_sp_data σ a1.toNatClampNeg))))))
set_option maxRecDepth 20000 in
theorem kc_sp_dataOf {l : Launch} {D : va_G} {G : gAd} {post : CS → Int32 → Prop} {σ : CS} {a1 : Int32} (h : wc_sp_dataOf post σ a1) : cMet l D G yX1_dataOf cX1_dataOf 2 (some .int) 1 [.ref (G.1 400), .int a1] σ (pI post) := by
  unfold wc_sp_dataOf at h
  refine c_enter (own := RX1) (by decide +kernel) rfl [(0, .ref (G.1 400)), (1, .int a1)] rfl (Nat.le_of_ble_eq_true rfl) ?_
  intro E hE hm hF
  have hN := hm.2.2.2.2.2.2.1
  refine r_iload_n hE 1 dX1_dataOf_g0.1 rfl rfl ?_
  refine r_if_lt hE 21 dX1_dataOf_g0.2.1 (by decide) h (fun h => ?_) (fun h => ?_)
  · refine r_iconst (v := (-1 : Int32)) hE dX1_dataOf_g0.2.2.2.2.2.2.2.2.2.2.2.1 (by decide) ?_
    exact c_iret hE hm hF dX1_dataOf_g0.2.2.2.2.2.2.2.2.2.2.2.2 h
  · refine r_iload_n hE 1 dX1_dataOf_g0.2.2.1 rfl rfl ?_
    refine r_aload_n hE 0 dX1_dataOf_g0.2.2.2.1 rfl rfl ?_
    refine cg_sp_nodes hE hm fk_X1_41 dX1_dataOf_g0.2.2.2.2.1 ?_
    refine r_icmp_ge hE 21 dX1_dataOf_g0.2.2.2.2.2.1 (by decide) h (fun h => ?_) (fun h => ?_)
    · refine r_iconst (v := (-1 : Int32)) hE dX1_dataOf_g0.2.2.2.2.2.2.2.2.2.2.2.1 (by decide) ?_
      exact c_iret hE hm hF dX1_dataOf_g0.2.2.2.2.2.2.2.2.2.2.2.2 h
    · refine r_aload_n hE 0 dX1_dataOf_g0.2.2.2.2.2.2.1 rfl rfl ?_
      refine cg_sp_data hE hm fk_X1_26 dX1_dataOf_g0.2.2.2.2.2.2.2.1 ?_
      refine r_iload_n hE 1 dX1_dataOf_g0.2.2.2.2.2.2.2.2.1 rfl rfl ?_
      obtain ⟨hi, h⟩ := h
      refine cl_sp_data hE hm dX1_dataOf_g0.2.2.2.2.2.2.2.2.2.1 hi ?_
      refine r_goto hE 22 dX1_dataOf_g0.2.2.2.2.2.2.2.2.2.2.1 (by decide) ?_
      exact c_iret hE hm hF dX1_dataOf_g0.2.2.2.2.2.2.2.2.2.2.2.2 h
/-! sp_firstOf -/
def wc_sp_firstOf (post : CS → Int32 → Prop) (σ : CS) (a1 : Int32) : Prop := ((a1 < (0 : Int32)) → (post σ (-1 : Int32))) ∧ ((¬ (a1 < (0 : Int32))) → ((((c_sp_nodes σ) ≤ a1) → (post σ (-1 : Int32))) ∧ ((¬ ((c_sp_nodes σ) ≤ a1)) → (vp_in a1 250 ∧ (post σ (c_sp_first σ a1.toNatClampNeg))))))
set_option maxRecDepth 20000 in
theorem kc_sp_firstOf {l : Launch} {D : va_G} {G : gAd} {post : CS → Int32 → Prop} {σ : CS} {a1 : Int32} (h : wc_sp_firstOf post σ a1) : cMet l D G yX1_firstOf cX1_firstOf 2 (some .int) 1 [.ref (G.1 400), .int a1] σ (pI post) := by
  unfold wc_sp_firstOf at h
  refine c_enter (own := RX1) (by decide +kernel) rfl [(0, .ref (G.1 400)), (1, .int a1)] rfl (Nat.le_of_ble_eq_true rfl) ?_
  intro E hE hm hF
  have hN := hm.2.2.2.2.2.2.1
  refine r_iload_n hE 1 dX1_firstOf_g0.1 rfl rfl ?_
  refine r_if_lt hE 21 dX1_firstOf_g0.2.1 (by decide) h (fun h => ?_) (fun h => ?_)
  · refine r_iconst (v := (-1 : Int32)) hE dX1_firstOf_g0.2.2.2.2.2.2.2.2.2.2.2.1 (by decide) ?_
    exact c_iret hE hm hF dX1_firstOf_g0.2.2.2.2.2.2.2.2.2.2.2.2 h
  · refine r_iload_n hE 1 dX1_firstOf_g0.2.2.1 rfl rfl ?_
    refine r_aload_n hE 0 dX1_firstOf_g0.2.2.2.1 rfl rfl ?_
    refine cg_sp_nodes hE hm fk_X1_41 dX1_firstOf_g0.2.2.2.2.1 ?_
    refine r_icmp_ge hE 21 dX1_firstOf_g0.2.2.2.2.2.1 (by decide) h (fun h => ?_) (fun h => ?_)
    · refine r_iconst (v := (-1 : Int32)) hE dX1_firstOf_g0.2.2.2.2.2.2.2.2.2.2.2.1 (by decide) ?_
      exact c_iret hE hm hF dX1_firstOf_g0.2.2.2.2.2.2.2.2.2.2.2.2 h
    · refine r_aload_n hE 0 dX1_firstOf_g0.2.2.2.2.2.2.1 rfl rfl ?_
      refine cg_sp_first hE hm fk_X1_29 dX1_firstOf_g0.2.2.2.2.2.2.2.1 ?_
      refine r_iload_n hE 1 dX1_firstOf_g0.2.2.2.2.2.2.2.2.1 rfl rfl ?_
      obtain ⟨hi, h⟩ := h
      refine cl_sp_first hE hm dX1_firstOf_g0.2.2.2.2.2.2.2.2.2.1 hi ?_
      refine r_goto hE 22 dX1_firstOf_g0.2.2.2.2.2.2.2.2.2.2.1 (by decide) ?_
      exact c_iret hE hm hF dX1_firstOf_g0.2.2.2.2.2.2.2.2.2.2.2.2 h
/-! sp_nextOf -/
def wc_sp_nextOf (post : CS → Int32 → Prop) (σ : CS) (a1 : Int32) : Prop := ((a1 < (0 : Int32)) → (post σ (-1 : Int32))) ∧ ((¬ (a1 < (0 : Int32))) → ((((c_sp_nodes σ) ≤ a1) → (post σ (-1 : Int32))) ∧ ((¬ ((c_sp_nodes σ) ≤ a1)) → (vp_in a1 250 ∧ (post σ (c_sp_next σ a1.toNatClampNeg))))))
set_option maxRecDepth 20000 in
theorem kc_sp_nextOf {l : Launch} {D : va_G} {G : gAd} {post : CS → Int32 → Prop} {σ : CS} {a1 : Int32} (h : wc_sp_nextOf post σ a1) : cMet l D G yX1_nextOf cX1_nextOf 2 (some .int) 1 [.ref (G.1 400), .int a1] σ (pI post) := by
  unfold wc_sp_nextOf at h
  refine c_enter (own := RX1) (by decide +kernel) rfl [(0, .ref (G.1 400)), (1, .int a1)] rfl (Nat.le_of_ble_eq_true rfl) ?_
  intro E hE hm hF
  have hN := hm.2.2.2.2.2.2.1
  refine r_iload_n hE 1 dX1_nextOf_g0.1 rfl rfl ?_
  refine r_if_lt hE 21 dX1_nextOf_g0.2.1 (by decide) h (fun h => ?_) (fun h => ?_)
  · refine r_iconst (v := (-1 : Int32)) hE dX1_nextOf_g0.2.2.2.2.2.2.2.2.2.2.2.1 (by decide) ?_
    exact c_iret hE hm hF dX1_nextOf_g0.2.2.2.2.2.2.2.2.2.2.2.2 h
  · refine r_iload_n hE 1 dX1_nextOf_g0.2.2.1 rfl rfl ?_
    refine r_aload_n hE 0 dX1_nextOf_g0.2.2.2.1 rfl rfl ?_
    refine cg_sp_nodes hE hm fk_X1_41 dX1_nextOf_g0.2.2.2.2.1 ?_
    refine r_icmp_ge hE 21 dX1_nextOf_g0.2.2.2.2.2.1 (by decide) h (fun h => ?_) (fun h => ?_)
    · refine r_iconst (v := (-1 : Int32)) hE dX1_nextOf_g0.2.2.2.2.2.2.2.2.2.2.2.1 (by decide) ?_
      exact c_iret hE hm hF dX1_nextOf_g0.2.2.2.2.2.2.2.2.2.2.2.2 h
    · refine r_aload_n hE 0 dX1_nextOf_g0.2.2.2.2.2.2.1 rfl rfl ?_
      refine cg_sp_next hE hm fk_X1_32 dX1_nextOf_g0.2.2.2.2.2.2.2.1 ?_
      refine r_iload_n hE 1 dX1_nextOf_g0.2.2.2.2.2.2.2.2.1 rfl rfl ?_
      obtain ⟨hi, h⟩ := h
      refine cl_sp_next hE hm dX1_nextOf_g0.2.2.2.2.2.2.2.2.2.1 hi ?_
      refine r_goto hE 22 dX1_nextOf_g0.2.2.2.2.2.2.2.2.2.2.1 (by decide) ?_
      exact c_iret hE hm hF dX1_nextOf_g0.2.2.2.2.2.2.2.2.2.2.2.2 h
/-! sp_bodyOf -/
def wc_sp_bodyOf (post : CS → Int32 → Prop) (σ : CS) (a1 : Int32) : Prop := ((a1 < (0 : Int32)) → (post σ (-1 : Int32))) ∧ ((¬ (a1 < (0 : Int32))) → ((((c_sp_nodes σ) ≤ a1) → (post σ (-1 : Int32))) ∧ ((¬ ((c_sp_nodes σ) ≤ a1)) → (vp_in a1 250 ∧ (post σ (c_sp_body σ a1.toNatClampNeg))))))
set_option maxRecDepth 20000 in
theorem kc_sp_bodyOf {l : Launch} {D : va_G} {G : gAd} {post : CS → Int32 → Prop} {σ : CS} {a1 : Int32} (h : wc_sp_bodyOf post σ a1) : cMet l D G yX1_bodyOf cX1_bodyOf 2 (some .int) 1 [.ref (G.1 400), .int a1] σ (pI post) := by
  unfold wc_sp_bodyOf at h
  refine c_enter (own := RX1) (by decide +kernel) rfl [(0, .ref (G.1 400)), (1, .int a1)] rfl (Nat.le_of_ble_eq_true rfl) ?_
  intro E hE hm hF
  have hN := hm.2.2.2.2.2.2.1
  refine r_iload_n hE 1 dX1_bodyOf_g0.1 rfl rfl ?_
  refine r_if_lt hE 21 dX1_bodyOf_g0.2.1 (by decide) h (fun h => ?_) (fun h => ?_)
  · refine r_iconst (v := (-1 : Int32)) hE dX1_bodyOf_g0.2.2.2.2.2.2.2.2.2.2.2.1 (by decide) ?_
    exact c_iret hE hm hF dX1_bodyOf_g0.2.2.2.2.2.2.2.2.2.2.2.2 h
  · refine r_iload_n hE 1 dX1_bodyOf_g0.2.2.1 rfl rfl ?_
    refine r_aload_n hE 0 dX1_bodyOf_g0.2.2.2.1 rfl rfl ?_
    refine cg_sp_nodes hE hm fk_X1_41 dX1_bodyOf_g0.2.2.2.2.1 ?_
    refine r_icmp_ge hE 21 dX1_bodyOf_g0.2.2.2.2.2.1 (by decide) h (fun h => ?_) (fun h => ?_)
    · refine r_iconst (v := (-1 : Int32)) hE dX1_bodyOf_g0.2.2.2.2.2.2.2.2.2.2.2.1 (by decide) ?_
      exact c_iret hE hm hF dX1_bodyOf_g0.2.2.2.2.2.2.2.2.2.2.2.2 h
    · refine r_aload_n hE 0 dX1_bodyOf_g0.2.2.2.2.2.2.1 rfl rfl ?_
      refine cg_sp_body hE hm fk_X1_35 dX1_bodyOf_g0.2.2.2.2.2.2.2.1 ?_
      refine r_iload_n hE 1 dX1_bodyOf_g0.2.2.2.2.2.2.2.2.1 rfl rfl ?_
      obtain ⟨hi, h⟩ := h
      refine cl_sp_body hE hm dX1_bodyOf_g0.2.2.2.2.2.2.2.2.2.1 hi ?_
      refine r_goto hE 22 dX1_bodyOf_g0.2.2.2.2.2.2.2.2.2.2.1 (by decide) ?_
      exact c_iret hE hm hF dX1_bodyOf_g0.2.2.2.2.2.2.2.2.2.2.2.2 h
/-! sp_otherOf -/
def wc_sp_otherOf (post : CS → Int32 → Prop) (σ : CS) (a1 : Int32) : Prop := ((a1 < (0 : Int32)) → (post σ (-1 : Int32))) ∧ ((¬ (a1 < (0 : Int32))) → ((((c_sp_nodes σ) ≤ a1) → (post σ (-1 : Int32))) ∧ ((¬ ((c_sp_nodes σ) ≤ a1)) → (vp_in a1 250 ∧ (post σ (c_sp_other σ a1.toNatClampNeg))))))
set_option maxRecDepth 20000 in
theorem kc_sp_otherOf {l : Launch} {D : va_G} {G : gAd} {post : CS → Int32 → Prop} {σ : CS} {a1 : Int32} (h : wc_sp_otherOf post σ a1) : cMet l D G yX1_otherOf cX1_otherOf 2 (some .int) 1 [.ref (G.1 400), .int a1] σ (pI post) := by
  unfold wc_sp_otherOf at h
  refine c_enter (own := RX1) (by decide +kernel) rfl [(0, .ref (G.1 400)), (1, .int a1)] rfl (Nat.le_of_ble_eq_true rfl) ?_
  intro E hE hm hF
  have hN := hm.2.2.2.2.2.2.1
  refine r_iload_n hE 1 dX1_otherOf_g0.1 rfl rfl ?_
  refine r_if_lt hE 21 dX1_otherOf_g0.2.1 (by decide) h (fun h => ?_) (fun h => ?_)
  · refine r_iconst (v := (-1 : Int32)) hE dX1_otherOf_g0.2.2.2.2.2.2.2.2.2.2.2.1 (by decide) ?_
    exact c_iret hE hm hF dX1_otherOf_g0.2.2.2.2.2.2.2.2.2.2.2.2 h
  · refine r_iload_n hE 1 dX1_otherOf_g0.2.2.1 rfl rfl ?_
    refine r_aload_n hE 0 dX1_otherOf_g0.2.2.2.1 rfl rfl ?_
    refine cg_sp_nodes hE hm fk_X1_41 dX1_otherOf_g0.2.2.2.2.1 ?_
    refine r_icmp_ge hE 21 dX1_otherOf_g0.2.2.2.2.2.1 (by decide) h (fun h => ?_) (fun h => ?_)
    · refine r_iconst (v := (-1 : Int32)) hE dX1_otherOf_g0.2.2.2.2.2.2.2.2.2.2.2.1 (by decide) ?_
      exact c_iret hE hm hF dX1_otherOf_g0.2.2.2.2.2.2.2.2.2.2.2.2 h
    · refine r_aload_n hE 0 dX1_otherOf_g0.2.2.2.2.2.2.1 rfl rfl ?_
      refine cg_sp_other hE hm fk_X1_38 dX1_otherOf_g0.2.2.2.2.2.2.2.1 ?_
      refine r_iload_n hE 1 dX1_otherOf_g0.2.2.2.2.2.2.2.2.1 rfl rfl ?_
      obtain ⟨hi, h⟩ := h
      refine cl_sp_other hE hm dX1_otherOf_g0.2.2.2.2.2.2.2.2.2.1 hi ?_
      refine r_goto hE 22 dX1_otherOf_g0.2.2.2.2.2.2.2.2.2.2.1 (by decide) ?_
      exact c_iret hE hm hF dX1_otherOf_g0.2.2.2.2.2.2.2.2.2.2.2.2 h
/-! sp_paramAt -/
def wc_sp_paramAt (post : CS → Int32 → Prop) (σ : CS) (a1 : Int32) (a2 : Int32) : Prop := wc_SX12_inside (fun (s1 : CS) (r2 : Int32) => ((r2 = (0 : Int32)) → (post s1 (-1 : Int32))) ∧ ((¬ (r2 = (0 : Int32))) → (wc_SX12_inside (fun (s3 : CS) (r4 : Int32) => ((r4 = (0 : Int32)) → (post s3 (-1 : Int32))) ∧ ((¬ (r4 = (0 : Int32))) → (vp_in ((a1 * (20 : Int32)) + a2) 260 ∧ (post s3 (c_sp_nameAt s3 ((a1 * (20 : Int32)) + a2).toNatClampNeg))))) s1 a2 (20 : Int32)))) σ a1 (12 : Int32)
set_option maxRecDepth 20000 in
theorem kc_sp_paramAt {l : Launch} {D : va_G} {G : gAd} {post : CS → Int32 → Prop} {σ : CS} {a1 : Int32} {a2 : Int32} (h : wc_sp_paramAt post σ a1 a2) : cMet l D G yX1_paramAt cX1_paramAt 3 (some .int) 2 [.ref (G.1 400), .int a1, .int a2] σ (pI post) := by
  unfold wc_sp_paramAt at h
  refine c_enter (own := RX1) (by decide +kernel) rfl [(0, .ref (G.1 400)), (1, .int a1), (2, .int a2)] rfl (Nat.le_of_ble_eq_true rfl) ?_
  intro E hE hm hF
  have hN := hm.2.2.2.2.2.2.1
  refine r_iload_n hE 1 dX1_paramAt_g0.1 rfl rfl ?_
  refine r_bipush (v := (12 : Int32)) hE dX1_paramAt_g0.2.1 (by decide) ?_
  refine c_callSNi hE hm [.int a1, .int (12 : Int32)] [] ck_X1_74 cw_X1_74 (kc_SX12_inside h) (by decide) rfl rfl (Nat.le_of_ble_eq_true rfl) dX1_paramAt_g0.2.2.1 (fun s1 r2 h => ?_)
  refine r_if_eq hE 32 dX1_paramAt_g0.2.2.2.1 (by decide) h (fun h => ?_) (fun h => ?_)
  · refine r_iconst (v := (-1 : Int32)) hE dX1_paramAt_g1.2.1 (by decide) ?_
    exact c_iret hE hm hF dX1_paramAt_g1.2.2 h
  · refine r_iload_n hE 2 dX1_paramAt_g0.2.2.2.2.1 rfl rfl ?_
    refine r_bipush (v := (20 : Int32)) hE dX1_paramAt_g0.2.2.2.2.2.1 (by decide) ?_
    refine c_callSNi hE hm [.int a2, .int (20 : Int32)] [] ck_X1_74 cw_X1_74 (kc_SX12_inside h) (by decide) rfl rfl (Nat.le_of_ble_eq_true rfl) dX1_paramAt_g0.2.2.2.2.2.2.1 (fun s3 r4 h => ?_)
    refine r_if_eq hE 32 dX1_paramAt_g0.2.2.2.2.2.2.2.1 (by decide) h (fun h => ?_) (fun h => ?_)
    · refine r_iconst (v := (-1 : Int32)) hE dX1_paramAt_g1.2.1 (by decide) ?_
      exact c_iret hE hm hF dX1_paramAt_g1.2.2 h
    · refine r_aload_n hE 0 dX1_paramAt_g0.2.2.2.2.2.2.2.2.1 rfl rfl ?_
      refine cg_sp_nameAt hE hm fk_X1_50 dX1_paramAt_g0.2.2.2.2.2.2.2.2.2.1 ?_
      refine r_iload_n hE 1 dX1_paramAt_g0.2.2.2.2.2.2.2.2.2.2.1 rfl rfl ?_
      refine r_bipush (v := (20 : Int32)) hE dX1_paramAt_g0.2.2.2.2.2.2.2.2.2.2.2.1 (by decide) ?_
      refine r_imul hE dX1_paramAt_g0.2.2.2.2.2.2.2.2.2.2.2.2.1 ?_
      refine r_iload_n hE 2 dX1_paramAt_g0.2.2.2.2.2.2.2.2.2.2.2.2.2.1 rfl rfl ?_
      refine r_iadd hE dX1_paramAt_g0.2.2.2.2.2.2.2.2.2.2.2.2.2.2.1 ?_
      obtain ⟨hi, h⟩ := h
      refine cl_sp_nameAt hE hm dX1_paramAt_g0.2.2.2.2.2.2.2.2.2.2.2.2.2.2.2 hi ?_
      refine r_goto hE 33 dX1_paramAt_g1.1 (by decide) ?_
      exact c_iret hE hm hF dX1_paramAt_g1.2.2 h
/-! sp_macroAtOf -/
def wc_sp_macroAtOf (post : CS → Int32 → Prop) (σ : CS) (a1 : Int32) : Prop := wc_SX12_inside (fun (s1 : CS) (r2 : Int32) => ((r2 = (0 : Int32)) → (post s1 (-1 : Int32))) ∧ ((¬ (r2 = (0 : Int32))) → (vp_in a1 12 ∧ (post s1 (c_sp_macroAt s1 a1.toNatClampNeg))))) σ a1 (c_sp_macros σ)
set_option maxRecDepth 20000 in
theorem kc_sp_macroAtOf {l : Launch} {D : va_G} {G : gAd} {post : CS → Int32 → Prop} {σ : CS} {a1 : Int32} (h : wc_sp_macroAtOf post σ a1) : cMet l D G yX1_macroAtOf cX1_macroAtOf 2 (some .int) 2 [.ref (G.1 400), .int a1] σ (pI post) := by
  unfold wc_sp_macroAtOf at h
  refine c_enter (own := RX1) (by decide +kernel) rfl [(0, .ref (G.1 400)), (1, .int a1)] rfl (Nat.le_of_ble_eq_true rfl) ?_
  intro E hE hm hF
  have hN := hm.2.2.2.2.2.2.1
  refine r_iload_n hE 1 dX1_macroAtOf_g0.1 rfl rfl ?_
  refine r_aload_n hE 0 dX1_macroAtOf_g0.2.1 rfl rfl ?_
  refine cg_sp_macros hE hm fk_X1_65 dX1_macroAtOf_g0.2.2.1 ?_
  refine c_callSNi hE hm [.int a1, .int (c_sp_macros σ)] [] ck_X1_74 cw_X1_74 (kc_SX12_inside h) (by decide) rfl rfl (Nat.le_of_ble_eq_true rfl) dX1_macroAtOf_g0.2.2.2.1 (fun s1 r2 h => ?_)
  refine r_if_eq hE 20 dX1_macroAtOf_g0.2.2.2.2.1 (by decide) h (fun h => ?_) (fun h => ?_)
  · refine r_iconst (v := (-1 : Int32)) hE dX1_macroAtOf_g0.2.2.2.2.2.2.2.2.2.2.1 (by decide) ?_
    exact c_iret hE hm hF dX1_macroAtOf_g0.2.2.2.2.2.2.2.2.2.2.2 h
  · refine r_aload_n hE 0 dX1_macroAtOf_g0.2.2.2.2.2.1 rfl rfl ?_
    refine cg_sp_macroAt hE hm fk_X1_59 dX1_macroAtOf_g0.2.2.2.2.2.2.1 ?_
    refine r_iload_n hE 1 dX1_macroAtOf_g0.2.2.2.2.2.2.2.1 rfl rfl ?_
    obtain ⟨hi, h⟩ := h
    refine cl_sp_macroAt hE hm dX1_macroAtOf_g0.2.2.2.2.2.2.2.2.1 hi ?_
    refine r_goto hE 21 dX1_macroAtOf_g0.2.2.2.2.2.2.2.2.2.1 (by decide) ?_
    exact c_iret hE hm hF dX1_macroAtOf_g0.2.2.2.2.2.2.2.2.2.2.2 h
/-! sp_macroBodyOf -/
def wc_sp_macroBodyOf (post : CS → Int32 → Prop) (σ : CS) (a1 : Int32) : Prop := wc_SX12_inside (fun (s1 : CS) (r2 : Int32) => ((r2 = (0 : Int32)) → (post s1 (-1 : Int32))) ∧ ((¬ (r2 = (0 : Int32))) → (vp_in a1 12 ∧ (post s1 (c_sp_macroBody s1 a1.toNatClampNeg))))) σ a1 (c_sp_macros σ)
set_option maxRecDepth 20000 in
theorem kc_sp_macroBodyOf {l : Launch} {D : va_G} {G : gAd} {post : CS → Int32 → Prop} {σ : CS} {a1 : Int32} (h : wc_sp_macroBodyOf post σ a1) : cMet l D G yX1_macroBodyOf cX1_macroBodyOf 2 (some .int) 2 [.ref (G.1 400), .int a1] σ (pI post) := by
  unfold wc_sp_macroBodyOf at h
  refine c_enter (own := RX1) (by decide +kernel) rfl [(0, .ref (G.1 400)), (1, .int a1)] rfl (Nat.le_of_ble_eq_true rfl) ?_
  intro E hE hm hF
  have hN := hm.2.2.2.2.2.2.1
  refine r_iload_n hE 1 dX1_macroBodyOf_g0.1 rfl rfl ?_
  refine r_aload_n hE 0 dX1_macroBodyOf_g0.2.1 rfl rfl ?_
  refine cg_sp_macros hE hm fk_X1_65 dX1_macroBodyOf_g0.2.2.1 ?_
  refine c_callSNi hE hm [.int a1, .int (c_sp_macros σ)] [] ck_X1_74 cw_X1_74 (kc_SX12_inside h) (by decide) rfl rfl (Nat.le_of_ble_eq_true rfl) dX1_macroBodyOf_g0.2.2.2.1 (fun s1 r2 h => ?_)
  refine r_if_eq hE 20 dX1_macroBodyOf_g0.2.2.2.2.1 (by decide) h (fun h => ?_) (fun h => ?_)
  · refine r_iconst (v := (-1 : Int32)) hE dX1_macroBodyOf_g0.2.2.2.2.2.2.2.2.2.2.1 (by decide) ?_
    exact c_iret hE hm hF dX1_macroBodyOf_g0.2.2.2.2.2.2.2.2.2.2.2 h
  · refine r_aload_n hE 0 dX1_macroBodyOf_g0.2.2.2.2.2.1 rfl rfl ?_
    refine cg_sp_macroBody hE hm fk_X1_62 dX1_macroBodyOf_g0.2.2.2.2.2.2.1 ?_
    refine r_iload_n hE 1 dX1_macroBodyOf_g0.2.2.2.2.2.2.2.1 rfl rfl ?_
    obtain ⟨hi, h⟩ := h
    refine cl_sp_macroBody hE hm dX1_macroBodyOf_g0.2.2.2.2.2.2.2.2.1 hi ?_
    refine r_goto hE 21 dX1_macroBodyOf_g0.2.2.2.2.2.2.2.2.2.1 (by decide) ?_
    exact c_iret hE hm hF dX1_macroBodyOf_g0.2.2.2.2.2.2.2.2.2.2.2 h
